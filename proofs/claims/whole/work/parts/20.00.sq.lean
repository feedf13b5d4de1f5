section SQ
variable {o pl kp : Bool} {L : Nat} {I A : Nat → Nat → Int32} {G : kg_G} {S : ks_S} {lv : List (Option Value)} {st : List Value} {P : Option Value → ks_S → Prop} {x x2 : Int32} {y y2 : Int64} {z z2 c a : Nat} {a0 a1 a2 a3 a4 a5 a6 a7 a8 a9 a10 a11 a12 a13 a14 a15 a16 a17 a18 a19 a20 a21 a22 a23 : Option Value}
theorem dq_Ground_init_0 : decode (km_c mm_Ground_init) 0 = .ok (.aload_n 0, 1) := by decide +kernel
theorem sq_Ground_init_0 : rn G mm_Ground_init 0 [some (.ref z)] st S P ↔ rn G mm_Ground_init 1 [some (.ref z)] (.ref z :: st) S P := rn_s dq_Ground_init_0 rfl rfl rfl
theorem dq_Ground_init_1 : decode (km_c mm_Ground_init) 1 = .ok (.invokespecial 3, 3) := by decide +kernel
theorem dq_Ground_init_4 : decode (km_c mm_Ground_init) 4 = .ok (.aload_n 0, 1) := by decide +kernel
theorem sq_Ground_init_4 : rn G mm_Ground_init 4 [some (.ref z)] st S P ↔ rn G mm_Ground_init 5 [some (.ref z)] (.ref z :: st) S P := rn_s dq_Ground_init_4 rfl rfl rfl
theorem dq_Ground_init_5 : decode (km_c mm_Ground_init) 5 = .ok (.iconst 5, 1) := by decide +kernel
theorem sq_Ground_init_5 : rn G mm_Ground_init 5 lv st S P ↔ rn G mm_Ground_init 6 lv (.int (nI 5) :: st) S P := rn_s dq_Ground_init_5 rfl rfl rfl
theorem dq_Ground_init_6 : decode (km_c mm_Ground_init) 6 = .ok (.bipush 49, 2) := by decide +kernel
theorem sq_Ground_init_6 : rn G mm_Ground_init 6 lv st S P ↔ rn G mm_Ground_init 8 lv (.int (nI 49) :: st) S P := rn_s dq_Ground_init_6 rfl rfl rfl
theorem dq_Ground_init_8 : decode (km_c mm_Ground_init) 8 = .ok (.multianewarray 9 2, 4) := by decide +kernel
theorem dq_Ground_init_12 : decode (km_c mm_Ground_init) 12 = .ok (.putfield 11, 3) := by decide +kernel
theorem dq_Ground_init_15 : decode (km_c mm_Ground_init) 15 = .ok (.aload_n 0, 1) := by decide +kernel
theorem sq_Ground_init_15 : rn G mm_Ground_init 15 [some (.ref z)] st S P ↔ rn G mm_Ground_init 16 [some (.ref z)] (.ref z :: st) S P := rn_s dq_Ground_init_15 rfl rfl rfl
theorem dq_Ground_init_16 : decode (km_c mm_Ground_init) 16 = .ok (.iconst 0, 1) := by decide +kernel
theorem sq_Ground_init_16 : rn G mm_Ground_init 16 lv st S P ↔ rn G mm_Ground_init 17 lv (.int (nI 0) :: st) S P := rn_s dq_Ground_init_16 rfl rfl rfl
theorem dq_Ground_init_17 : decode (km_c mm_Ground_init) 17 = .ok (.putfield 16, 3) := by decide +kernel
theorem sq_Ground_init_17_2 (ho : sx_o o pl kp) : rn (lt_G o L) mm_Ground_init 17 lv (.int x :: .ref 2 :: st) (sx pl kp I A) P ↔ rn (lt_G o L) mm_Ground_init 20 lv st (sx pl kp (u2 I 2 1 x) A) P := rx_put (h := "") (ci := 0) (k := 1) dq_Ground_init_17 (by decide +kernel) ho (up_b (by decide)) rfl rfl (by decide) (by decide)
theorem sq_Ground_init_17_35 (ho : sx_o o pl kp) : rn (lt_G o L) mm_Ground_init 17 lv (.int x :: .ref 35 :: st) (sx pl kp I A) P ↔ rn (lt_G o L) mm_Ground_init 20 lv st (sx pl kp (u2 I 35 1 x) A) P := rx_put (h := "") (ci := 0) (k := 1) dq_Ground_init_17 (by decide +kernel) ho (up_b (by decide)) rfl rfl (by decide) (by decide)
theorem sq_Ground_init_17_137 (ho : sx_o o pl true) : rn (lt_G o L) mm_Ground_init 17 lv (.int x :: .ref 137 :: st) (sx pl true I A) P ↔ rn (lt_G o L) mm_Ground_init 20 lv st (sx pl true (u2 I 137 1 x) A) P := rx_put (h := "") (ci := 0) (k := 1) dq_Ground_init_17 (by decide +kernel) ho (up_k (by decide) (by decide)) rfl rfl (by decide) (by decide)
theorem dq_Ground_init_20 : decode (km_c mm_Ground_init) 20 = .ok (.aload_n 0, 1) := by decide +kernel
theorem sq_Ground_init_20 : rn G mm_Ground_init 20 [some (.ref z)] st S P ↔ rn G mm_Ground_init 21 [some (.ref z)] (.ref z :: st) S P := rn_s dq_Ground_init_20 rfl rfl rfl
theorem dq_Ground_init_21 : decode (km_c mm_Ground_init) 21 = .ok (.getfield 11, 3) := by decide +kernel
theorem sq_Ground_init_21_2 (ho : sx_o o pl kp) : rn (lt_G o L) mm_Ground_init 21 lv (.ref 2 :: st) (sx pl kp I A) P ↔ rn (lt_G o L) mm_Ground_init 24 lv (.ref 3 :: st) (sx pl kp I A) P := rx_get (h := "") (ci := 0) (k := 0) dq_Ground_init_21 (by decide +kernel) ho (up_b (by decide)) rfl rfl (fl_r (by decide) (by decide) (by decide) (by decide))
theorem sq_Ground_init_21_35 (ho : sx_o o pl kp) : rn (lt_G o L) mm_Ground_init 21 lv (.ref 35 :: st) (sx pl kp I A) P ↔ rn (lt_G o L) mm_Ground_init 24 lv (.ref 36 :: st) (sx pl kp I A) P := rx_get (h := "") (ci := 0) (k := 0) dq_Ground_init_21 (by decide +kernel) ho (up_b (by decide)) rfl rfl (fl_r (by decide) (by decide) (by decide) (by decide))
theorem sq_Ground_init_21_137 (ho : sx_o o pl true) : rn (lt_G o L) mm_Ground_init 21 lv (.ref 137 :: st) (sx pl true I A) P ↔ rn (lt_G o L) mm_Ground_init 24 lv (.ref 138 :: st) (sx pl true I A) P := rx_get (h := "") (ci := 0) (k := 0) dq_Ground_init_21 (by decide +kernel) ho (up_k (by decide) (by decide)) rfl rfl (fl_k (by decide) (by decide))
theorem dq_Ground_init_24 : decode (km_c mm_Ground_init) 24 = .ok (.iconst 0, 1) := by decide +kernel
theorem sq_Ground_init_24 : rn G mm_Ground_init 24 lv st S P ↔ rn G mm_Ground_init 25 lv (.int (nI 0) :: st) S P := rn_s dq_Ground_init_24 rfl rfl rfl
theorem dq_Ground_init_25 : decode (km_c mm_Ground_init) 25 = .ok (.aaload, 1) := by decide +kernel
theorem sq_Ground_init_25 (ho : sx_o o pl kp) (hk : ak L a = 3) (hu : sx_up pl kp a = true) (hc : c < ln L a) (hn : ln L a < 2 ^ 31) : rn (lt_G o L) mm_Ground_init 25 lv (.int (nI c) :: .ref a :: st) (sx pl kp I A) P ↔ rn (lt_G o L) mm_Ground_init 26 lv (.ref (ab L a + c) :: st) (sx pl kp I A) P := rx_ald dq_Ground_init_25 ho hk hu hc hn
theorem dq_Ground_init_26 : decode (km_c mm_Ground_init) 26 = .ok (.iconst 5, 1) := by decide +kernel
theorem sq_Ground_init_26 : rn G mm_Ground_init 26 lv st S P ↔ rn G mm_Ground_init 27 lv (.int (nI 5) :: st) S P := rn_s dq_Ground_init_26 rfl rfl rfl
theorem dq_Ground_init_27 : decode (km_c mm_Ground_init) 27 = .ok (.invokestatic 20, 3) := by decide +kernel
theorem sq_Ground_init_27 {z1 : Nat} {x2 : Int32} {v : Option Value} {S2 : ks_S} (hc : ev G mm_Arrays_fill [.ref z1, .int x2] S v S2) (hst : kx_cat st ≤ 8) : rn G mm_Ground_init 27 lv (.int x2 :: .ref z1 :: st) S P ↔ rn G mm_Ground_init 30 lv (v.toList ++ st) S2 P := rn_cs (k := 1) (host := "") (E' := mm_Arrays_fill) dq_Ground_init_27 (by decide) (by decide) rfl (ok_v rfl (by decide) (by decide) (Nat.le_add_left _ _) hst (Nat.le_of_ble_eq_true rfl) (Or.inl rfl)) rfl rfl hc
theorem dq_Ground_init_30 : decode (km_c mm_Ground_init) 30 = .ok (.return_, 1) := by decide +kernel
theorem sq_Ground_init_30 : rn G mm_Ground_init 30 lv [] S P ↔ P none S := rn_vr dq_Ground_init_30 rfl
theorem dq_Ground_top_0 : decode (km_c mm_Ground_top) 0 = .ok (.aload_n 0, 1) := by decide +kernel
theorem sq_Ground_top_0 : rn G mm_Ground_top 0 [some (.ref z), a1] st S P ↔ rn G mm_Ground_top 1 [some (.ref z), a1] (.ref z :: st) S P := rn_s dq_Ground_top_0 rfl rfl rfl
theorem dq_Ground_top_1 : decode (km_c mm_Ground_top) 1 = .ok (.getfield 11, 3) := by decide +kernel
theorem sq_Ground_top_1_2 (ho : sx_o o pl kp) : rn (lt_G o L) mm_Ground_top 1 lv (.ref 2 :: st) (sx pl kp I A) P ↔ rn (lt_G o L) mm_Ground_top 4 lv (.ref 3 :: st) (sx pl kp I A) P := rx_get (h := "") (ci := 0) (k := 0) dq_Ground_top_1 (by decide +kernel) ho (up_b (by decide)) rfl rfl (fl_r (by decide) (by decide) (by decide) (by decide))
theorem sq_Ground_top_1_35 (ho : sx_o o pl kp) : rn (lt_G o L) mm_Ground_top 1 lv (.ref 35 :: st) (sx pl kp I A) P ↔ rn (lt_G o L) mm_Ground_top 4 lv (.ref 36 :: st) (sx pl kp I A) P := rx_get (h := "") (ci := 0) (k := 0) dq_Ground_top_1 (by decide +kernel) ho (up_b (by decide)) rfl rfl (fl_r (by decide) (by decide) (by decide) (by decide))
theorem sq_Ground_top_1_137 (ho : sx_o o pl true) : rn (lt_G o L) mm_Ground_top 1 lv (.ref 137 :: st) (sx pl true I A) P ↔ rn (lt_G o L) mm_Ground_top 4 lv (.ref 138 :: st) (sx pl true I A) P := rx_get (h := "") (ci := 0) (k := 0) dq_Ground_top_1 (by decide +kernel) ho (up_k (by decide) (by decide)) rfl rfl (fl_k (by decide) (by decide))
theorem dq_Ground_top_4 : decode (km_c mm_Ground_top) 4 = .ok (.iconst 0, 1) := by decide +kernel
theorem sq_Ground_top_4 : rn G mm_Ground_top 4 lv st S P ↔ rn G mm_Ground_top 5 lv (.int (nI 0) :: st) S P := rn_s dq_Ground_top_4 rfl rfl rfl
theorem dq_Ground_top_5 : decode (km_c mm_Ground_top) 5 = .ok (.aaload, 1) := by decide +kernel
theorem sq_Ground_top_5 (ho : sx_o o pl kp) (hk : ak L a = 3) (hu : sx_up pl kp a = true) (hc : c < ln L a) (hn : ln L a < 2 ^ 31) : rn (lt_G o L) mm_Ground_top 5 lv (.int (nI c) :: .ref a :: st) (sx pl kp I A) P ↔ rn (lt_G o L) mm_Ground_top 6 lv (.ref (ab L a + c) :: st) (sx pl kp I A) P := rx_ald dq_Ground_top_5 ho hk hu hc hn
theorem dq_Ground_top_6 : decode (km_c mm_Ground_top) 6 = .ok (.iload_n 1, 1) := by decide +kernel
theorem sq_Ground_top_6 : rn G mm_Ground_top 6 [a0, some (.int x)] st S P ↔ rn G mm_Ground_top 7 [a0, some (.int x)] (.int x :: st) S P := rn_s dq_Ground_top_6 rfl rfl rfl
theorem dq_Ground_top_7 : decode (km_c mm_Ground_top) 7 = .ok (.iaload, 1) := by decide +kernel
theorem sq_Ground_top_7 (ho : sx_o o pl kp) (hk : ak L a = 0) (hu : sx_up pl kp a = true ∨ 1000 ≤ a) (hc : c < ln L a) (hn : ln L a < 2 ^ 31) : rn (lt_G o L) mm_Ground_top 7 lv (.int (nI c) :: .ref a :: st) (sx pl kp I A) P ↔ rn (lt_G o L) mm_Ground_top 8 lv (.int (A a c) :: st) (sx pl kp I A) P := rx_ild dq_Ground_top_7 ho hk hu hc hn
theorem dq_Ground_top_8 : decode (km_c mm_Ground_top) 8 = .ok (.aload_n 0, 1) := by decide +kernel
theorem sq_Ground_top_8 : rn G mm_Ground_top 8 [some (.ref z), a1] st S P ↔ rn G mm_Ground_top 9 [some (.ref z), a1] (.ref z :: st) S P := rn_s dq_Ground_top_8 rfl rfl rfl
theorem dq_Ground_top_9 : decode (km_c mm_Ground_top) 9 = .ok (.getfield 11, 3) := by decide +kernel
theorem sq_Ground_top_9_2 (ho : sx_o o pl kp) : rn (lt_G o L) mm_Ground_top 9 lv (.ref 2 :: st) (sx pl kp I A) P ↔ rn (lt_G o L) mm_Ground_top 12 lv (.ref 3 :: st) (sx pl kp I A) P := rx_get (h := "") (ci := 0) (k := 0) dq_Ground_top_9 (by decide +kernel) ho (up_b (by decide)) rfl rfl (fl_r (by decide) (by decide) (by decide) (by decide))
theorem sq_Ground_top_9_35 (ho : sx_o o pl kp) : rn (lt_G o L) mm_Ground_top 9 lv (.ref 35 :: st) (sx pl kp I A) P ↔ rn (lt_G o L) mm_Ground_top 12 lv (.ref 36 :: st) (sx pl kp I A) P := rx_get (h := "") (ci := 0) (k := 0) dq_Ground_top_9 (by decide +kernel) ho (up_b (by decide)) rfl rfl (fl_r (by decide) (by decide) (by decide) (by decide))
theorem sq_Ground_top_9_137 (ho : sx_o o pl true) : rn (lt_G o L) mm_Ground_top 9 lv (.ref 137 :: st) (sx pl true I A) P ↔ rn (lt_G o L) mm_Ground_top 12 lv (.ref 138 :: st) (sx pl true I A) P := rx_get (h := "") (ci := 0) (k := 0) dq_Ground_top_9 (by decide +kernel) ho (up_k (by decide) (by decide)) rfl rfl (fl_k (by decide) (by decide))
theorem dq_Ground_top_12 : decode (km_c mm_Ground_top) 12 = .ok (.iconst 1, 1) := by decide +kernel
theorem sq_Ground_top_12 : rn G mm_Ground_top 12 lv st S P ↔ rn G mm_Ground_top 13 lv (.int (nI 1) :: st) S P := rn_s dq_Ground_top_12 rfl rfl rfl
theorem dq_Ground_top_13 : decode (km_c mm_Ground_top) 13 = .ok (.aaload, 1) := by decide +kernel
theorem sq_Ground_top_13 (ho : sx_o o pl kp) (hk : ak L a = 3) (hu : sx_up pl kp a = true) (hc : c < ln L a) (hn : ln L a < 2 ^ 31) : rn (lt_G o L) mm_Ground_top 13 lv (.int (nI c) :: .ref a :: st) (sx pl kp I A) P ↔ rn (lt_G o L) mm_Ground_top 14 lv (.ref (ab L a + c) :: st) (sx pl kp I A) P := rx_ald dq_Ground_top_13 ho hk hu hc hn
theorem dq_Ground_top_14 : decode (km_c mm_Ground_top) 14 = .ok (.iload_n 1, 1) := by decide +kernel
theorem sq_Ground_top_14 : rn G mm_Ground_top 14 [a0, some (.int x)] st S P ↔ rn G mm_Ground_top 15 [a0, some (.int x)] (.int x :: st) S P := rn_s dq_Ground_top_14 rfl rfl rfl
theorem dq_Ground_top_15 : decode (km_c mm_Ground_top) 15 = .ok (.iaload, 1) := by decide +kernel
theorem sq_Ground_top_15 (ho : sx_o o pl kp) (hk : ak L a = 0) (hu : sx_up pl kp a = true ∨ 1000 ≤ a) (hc : c < ln L a) (hn : ln L a < 2 ^ 31) : rn (lt_G o L) mm_Ground_top 15 lv (.int (nI c) :: .ref a :: st) (sx pl kp I A) P ↔ rn (lt_G o L) mm_Ground_top 16 lv (.int (A a c) :: st) (sx pl kp I A) P := rx_ild dq_Ground_top_15 ho hk hu hc hn
theorem dq_Ground_top_16 : decode (km_c mm_Ground_top) 16 = .ok (.iadd, 1) := by decide +kernel
theorem sq_Ground_top_16 : rn G mm_Ground_top 16 lv (.int x2 :: .int x :: st) S P ↔ rn G mm_Ground_top 17 lv (.int (x + x2) :: st) S P := rn_s dq_Ground_top_16 rfl rfl rfl
theorem dq_Ground_top_17 : decode (km_c mm_Ground_top) 17 = .ok (.ireturn, 1) := by decide +kernel
theorem sq_Ground_top_17 : rn G mm_Ground_top 17 lv [.int x] S P ↔ P (some (.int x)) S := rn_ir dq_Ground_top_17 rfl
theorem dq_Ground_copy_0 : decode (km_c mm_Ground_copy) 0 = .ok (.iconst 0, 1) := by decide +kernel
theorem sq_Ground_copy_0 : rn G mm_Ground_copy 0 lv st S P ↔ rn G mm_Ground_copy 1 lv (.int (nI 0) :: st) S P := rn_s dq_Ground_copy_0 rfl rfl rfl
theorem dq_Ground_copy_1 : decode (km_c mm_Ground_copy) 1 = .ok (.istore_n 2, 1) := by decide +kernel
theorem sq_Ground_copy_1n : rn G mm_Ground_copy 1 [a0, none, a2] (.int x :: st) S P ↔ rn G mm_Ground_copy 2 [a0, none, some (.int x)] st S P := rn_s dq_Ground_copy_1 rfl rfl rfl
theorem sq_Ground_copy_1i : rn G mm_Ground_copy 1 [a0, some (.int x2), a2] (.int x :: st) S P ↔ rn G mm_Ground_copy 2 [a0, some (.int x2), some (.int x)] st S P := rn_s dq_Ground_copy_1 rfl rfl rfl
theorem sq_Ground_copy_1r : rn G mm_Ground_copy 1 [a0, some (.ref z2), a2] (.int x :: st) S P ↔ rn G mm_Ground_copy 2 [a0, some (.ref z2), some (.int x)] st S P := rn_s dq_Ground_copy_1 rfl rfl rfl
theorem dq_Ground_copy_2 : decode (km_c mm_Ground_copy) 2 = .ok (.iload_n 2, 1) := by decide +kernel
theorem sq_Ground_copy_2 : rn G mm_Ground_copy 2 [a0, a1, some (.int x)] st S P ↔ rn G mm_Ground_copy 3 [a0, a1, some (.int x)] (.int x :: st) S P := rn_s dq_Ground_copy_2 rfl rfl rfl
theorem dq_Ground_copy_3 : decode (km_c mm_Ground_copy) 3 = .ok (.iconst 5, 1) := by decide +kernel
theorem sq_Ground_copy_3 : rn G mm_Ground_copy 3 lv st S P ↔ rn G mm_Ground_copy 4 lv (.int (nI 5) :: st) S P := rn_s dq_Ground_copy_3 rfl rfl rfl
theorem dq_Ground_copy_4 : decode (km_c mm_Ground_copy) 4 = .ok (.if_icmp .ge 28, 3) := by decide +kernel
theorem sq_Ground_copy_4 : rn G mm_Ground_copy 4 lv (.int x2 :: .int x :: st) S P ↔ ((x2 ≤ x → rn G mm_Ground_copy 32 lv st S P) ∧ (¬ (x2 ≤ x) → rn G mm_Ground_copy 7 lv st S P)) := rn_b (off := 28) dq_Ground_copy_4 rfl rfl rfl rfl
theorem dq_Ground_copy_7 : decode (km_c mm_Ground_copy) 7 = .ok (.aload_n 1, 1) := by decide +kernel
theorem sq_Ground_copy_7 : rn G mm_Ground_copy 7 [a0, some (.ref z), a2] st S P ↔ rn G mm_Ground_copy 8 [a0, some (.ref z), a2] (.ref z :: st) S P := rn_s dq_Ground_copy_7 rfl rfl rfl
theorem dq_Ground_copy_8 : decode (km_c mm_Ground_copy) 8 = .ok (.getfield 11, 3) := by decide +kernel
theorem sq_Ground_copy_8_2 (ho : sx_o o pl kp) : rn (lt_G o L) mm_Ground_copy 8 lv (.ref 2 :: st) (sx pl kp I A) P ↔ rn (lt_G o L) mm_Ground_copy 11 lv (.ref 3 :: st) (sx pl kp I A) P := rx_get (h := "") (ci := 0) (k := 0) dq_Ground_copy_8 (by decide +kernel) ho (up_b (by decide)) rfl rfl (fl_r (by decide) (by decide) (by decide) (by decide))
theorem sq_Ground_copy_8_35 (ho : sx_o o pl kp) : rn (lt_G o L) mm_Ground_copy 8 lv (.ref 35 :: st) (sx pl kp I A) P ↔ rn (lt_G o L) mm_Ground_copy 11 lv (.ref 36 :: st) (sx pl kp I A) P := rx_get (h := "") (ci := 0) (k := 0) dq_Ground_copy_8 (by decide +kernel) ho (up_b (by decide)) rfl rfl (fl_r (by decide) (by decide) (by decide) (by decide))
theorem sq_Ground_copy_8_137 (ho : sx_o o pl true) : rn (lt_G o L) mm_Ground_copy 8 lv (.ref 137 :: st) (sx pl true I A) P ↔ rn (lt_G o L) mm_Ground_copy 11 lv (.ref 138 :: st) (sx pl true I A) P := rx_get (h := "") (ci := 0) (k := 0) dq_Ground_copy_8 (by decide +kernel) ho (up_k (by decide) (by decide)) rfl rfl (fl_k (by decide) (by decide))
theorem dq_Ground_copy_11 : decode (km_c mm_Ground_copy) 11 = .ok (.iload_n 2, 1) := by decide +kernel
theorem sq_Ground_copy_11 : rn G mm_Ground_copy 11 [a0, a1, some (.int x)] st S P ↔ rn G mm_Ground_copy 12 [a0, a1, some (.int x)] (.int x :: st) S P := rn_s dq_Ground_copy_11 rfl rfl rfl
theorem dq_Ground_copy_12 : decode (km_c mm_Ground_copy) 12 = .ok (.aaload, 1) := by decide +kernel
theorem sq_Ground_copy_12 (ho : sx_o o pl kp) (hk : ak L a = 3) (hu : sx_up pl kp a = true) (hc : c < ln L a) (hn : ln L a < 2 ^ 31) : rn (lt_G o L) mm_Ground_copy 12 lv (.int (nI c) :: .ref a :: st) (sx pl kp I A) P ↔ rn (lt_G o L) mm_Ground_copy 13 lv (.ref (ab L a + c) :: st) (sx pl kp I A) P := rx_ald dq_Ground_copy_12 ho hk hu hc hn
theorem dq_Ground_copy_13 : decode (km_c mm_Ground_copy) 13 = .ok (.iconst 0, 1) := by decide +kernel
theorem sq_Ground_copy_13 : rn G mm_Ground_copy 13 lv st S P ↔ rn G mm_Ground_copy 14 lv (.int (nI 0) :: st) S P := rn_s dq_Ground_copy_13 rfl rfl rfl
theorem dq_Ground_copy_14 : decode (km_c mm_Ground_copy) 14 = .ok (.aload_n 0, 1) := by decide +kernel
theorem sq_Ground_copy_14 : rn G mm_Ground_copy 14 [some (.ref z), a1, a2] st S P ↔ rn G mm_Ground_copy 15 [some (.ref z), a1, a2] (.ref z :: st) S P := rn_s dq_Ground_copy_14 rfl rfl rfl
theorem dq_Ground_copy_15 : decode (km_c mm_Ground_copy) 15 = .ok (.getfield 11, 3) := by decide +kernel
theorem sq_Ground_copy_15_2 (ho : sx_o o pl kp) : rn (lt_G o L) mm_Ground_copy 15 lv (.ref 2 :: st) (sx pl kp I A) P ↔ rn (lt_G o L) mm_Ground_copy 18 lv (.ref 3 :: st) (sx pl kp I A) P := rx_get (h := "") (ci := 0) (k := 0) dq_Ground_copy_15 (by decide +kernel) ho (up_b (by decide)) rfl rfl (fl_r (by decide) (by decide) (by decide) (by decide))
theorem sq_Ground_copy_15_35 (ho : sx_o o pl kp) : rn (lt_G o L) mm_Ground_copy 15 lv (.ref 35 :: st) (sx pl kp I A) P ↔ rn (lt_G o L) mm_Ground_copy 18 lv (.ref 36 :: st) (sx pl kp I A) P := rx_get (h := "") (ci := 0) (k := 0) dq_Ground_copy_15 (by decide +kernel) ho (up_b (by decide)) rfl rfl (fl_r (by decide) (by decide) (by decide) (by decide))
theorem sq_Ground_copy_15_137 (ho : sx_o o pl true) : rn (lt_G o L) mm_Ground_copy 15 lv (.ref 137 :: st) (sx pl true I A) P ↔ rn (lt_G o L) mm_Ground_copy 18 lv (.ref 138 :: st) (sx pl true I A) P := rx_get (h := "") (ci := 0) (k := 0) dq_Ground_copy_15 (by decide +kernel) ho (up_k (by decide) (by decide)) rfl rfl (fl_k (by decide) (by decide))
theorem dq_Ground_copy_18 : decode (km_c mm_Ground_copy) 18 = .ok (.iload_n 2, 1) := by decide +kernel
theorem sq_Ground_copy_18 : rn G mm_Ground_copy 18 [a0, a1, some (.int x)] st S P ↔ rn G mm_Ground_copy 19 [a0, a1, some (.int x)] (.int x :: st) S P := rn_s dq_Ground_copy_18 rfl rfl rfl
theorem dq_Ground_copy_19 : decode (km_c mm_Ground_copy) 19 = .ok (.aaload, 1) := by decide +kernel
theorem sq_Ground_copy_19 (ho : sx_o o pl kp) (hk : ak L a = 3) (hu : sx_up pl kp a = true) (hc : c < ln L a) (hn : ln L a < 2 ^ 31) : rn (lt_G o L) mm_Ground_copy 19 lv (.int (nI c) :: .ref a :: st) (sx pl kp I A) P ↔ rn (lt_G o L) mm_Ground_copy 20 lv (.ref (ab L a + c) :: st) (sx pl kp I A) P := rx_ald dq_Ground_copy_19 ho hk hu hc hn
theorem dq_Ground_copy_20 : decode (km_c mm_Ground_copy) 20 = .ok (.iconst 0, 1) := by decide +kernel
theorem sq_Ground_copy_20 : rn G mm_Ground_copy 20 lv st S P ↔ rn G mm_Ground_copy 21 lv (.int (nI 0) :: st) S P := rn_s dq_Ground_copy_20 rfl rfl rfl
theorem dq_Ground_copy_21 : decode (km_c mm_Ground_copy) 21 = .ok (.bipush 49, 2) := by decide +kernel
theorem sq_Ground_copy_21 : rn G mm_Ground_copy 21 lv st S P ↔ rn G mm_Ground_copy 23 lv (.int (nI 49) :: st) S P := rn_s dq_Ground_copy_21 rfl rfl rfl
theorem dq_Ground_copy_23 : decode (km_c mm_Ground_copy) 23 = .ok (.invokestatic 26, 3) := by decide +kernel
theorem dq_Ground_copy_26 : decode (km_c mm_Ground_copy) 26 = .ok (.iinc 2 1, 3) := by decide +kernel
theorem sq_Ground_copy_26n : rn G mm_Ground_copy 26 [a0, none, some (.int x)] st S P ↔ rn G mm_Ground_copy 29 [a0, none, some (.int (x + nI 1))] st S P := rn_s dq_Ground_copy_26 rfl rfl rfl
theorem sq_Ground_copy_26i : rn G mm_Ground_copy 26 [a0, some (.int x2), some (.int x)] st S P ↔ rn G mm_Ground_copy 29 [a0, some (.int x2), some (.int (x + nI 1))] st S P := rn_s dq_Ground_copy_26 rfl rfl rfl
theorem sq_Ground_copy_26r : rn G mm_Ground_copy 26 [a0, some (.ref z2), some (.int x)] st S P ↔ rn G mm_Ground_copy 29 [a0, some (.ref z2), some (.int (x + nI 1))] st S P := rn_s dq_Ground_copy_26 rfl rfl rfl
theorem dq_Ground_copy_29 : decode (km_c mm_Ground_copy) 29 = .ok (.goto (-27), 3) := by decide +kernel
theorem sq_Ground_copy_29 : rn G mm_Ground_copy 29 lv st S P ↔ rn G mm_Ground_copy 2 lv st S P := rn_s dq_Ground_copy_29 rfl rfl rfl
theorem dq_Ground_copy_32 : decode (km_c mm_Ground_copy) 32 = .ok (.aload_n 0, 1) := by decide +kernel
theorem sq_Ground_copy_32 : rn G mm_Ground_copy 32 [some (.ref z), a1, a2] st S P ↔ rn G mm_Ground_copy 33 [some (.ref z), a1, a2] (.ref z :: st) S P := rn_s dq_Ground_copy_32 rfl rfl rfl
theorem dq_Ground_copy_33 : decode (km_c mm_Ground_copy) 33 = .ok (.aload_n 1, 1) := by decide +kernel
theorem sq_Ground_copy_33 : rn G mm_Ground_copy 33 [a0, some (.ref z), a2] st S P ↔ rn G mm_Ground_copy 34 [a0, some (.ref z), a2] (.ref z :: st) S P := rn_s dq_Ground_copy_33 rfl rfl rfl
theorem dq_Ground_copy_34 : decode (km_c mm_Ground_copy) 34 = .ok (.getfield 16, 3) := by decide +kernel
theorem sq_Ground_copy_34_2 (ho : sx_o o pl kp) : rn (lt_G o L) mm_Ground_copy 34 lv (.ref 2 :: st) (sx pl kp I A) P ↔ rn (lt_G o L) mm_Ground_copy 37 lv (.int (I 2 1) :: st) (sx pl kp I A) P := rx_get (h := "") (ci := 0) (k := 1) dq_Ground_copy_34 (by decide +kernel) ho (up_b (by decide)) rfl rfl (fl_i (by decide))
theorem sq_Ground_copy_34_35 (ho : sx_o o pl kp) : rn (lt_G o L) mm_Ground_copy 34 lv (.ref 35 :: st) (sx pl kp I A) P ↔ rn (lt_G o L) mm_Ground_copy 37 lv (.int (I 35 1) :: st) (sx pl kp I A) P := rx_get (h := "") (ci := 0) (k := 1) dq_Ground_copy_34 (by decide +kernel) ho (up_b (by decide)) rfl rfl (fl_i (by decide))
theorem sq_Ground_copy_34_137 (ho : sx_o o pl true) : rn (lt_G o L) mm_Ground_copy 34 lv (.ref 137 :: st) (sx pl true I A) P ↔ rn (lt_G o L) mm_Ground_copy 37 lv (.int (I 137 1) :: st) (sx pl true I A) P := rx_get (h := "") (ci := 0) (k := 1) dq_Ground_copy_34 (by decide +kernel) ho (up_k (by decide) (by decide)) rfl rfl (fl_i (by decide))
theorem dq_Ground_copy_37 : decode (km_c mm_Ground_copy) 37 = .ok (.putfield 16, 3) := by decide +kernel
theorem sq_Ground_copy_37_2 (ho : sx_o o pl kp) : rn (lt_G o L) mm_Ground_copy 37 lv (.int x :: .ref 2 :: st) (sx pl kp I A) P ↔ rn (lt_G o L) mm_Ground_copy 40 lv st (sx pl kp (u2 I 2 1 x) A) P := rx_put (h := "") (ci := 0) (k := 1) dq_Ground_copy_37 (by decide +kernel) ho (up_b (by decide)) rfl rfl (by decide) (by decide)
theorem sq_Ground_copy_37_35 (ho : sx_o o pl kp) : rn (lt_G o L) mm_Ground_copy 37 lv (.int x :: .ref 35 :: st) (sx pl kp I A) P ↔ rn (lt_G o L) mm_Ground_copy 40 lv st (sx pl kp (u2 I 35 1 x) A) P := rx_put (h := "") (ci := 0) (k := 1) dq_Ground_copy_37 (by decide +kernel) ho (up_b (by decide)) rfl rfl (by decide) (by decide)
theorem sq_Ground_copy_37_137 (ho : sx_o o pl true) : rn (lt_G o L) mm_Ground_copy 37 lv (.int x :: .ref 137 :: st) (sx pl true I A) P ↔ rn (lt_G o L) mm_Ground_copy 40 lv st (sx pl true (u2 I 137 1 x) A) P := rx_put (h := "") (ci := 0) (k := 1) dq_Ground_copy_37 (by decide +kernel) ho (up_k (by decide) (by decide)) rfl rfl (by decide) (by decide)
theorem dq_Ground_copy_40 : decode (km_c mm_Ground_copy) 40 = .ok (.return_, 1) := by decide +kernel
theorem sq_Ground_copy_40 : rn G mm_Ground_copy 40 lv [] S P ↔ P none S := rn_vr dq_Ground_copy_40 rfl
theorem dq_Ground_total_0 : decode (km_c mm_Ground_total) 0 = .ok (.iconst 0, 1) := by decide +kernel
theorem sq_Ground_total_0 : rn G mm_Ground_total 0 lv st S P ↔ rn G mm_Ground_total 1 lv (.int (nI 0) :: st) S P := rn_s dq_Ground_total_0 rfl rfl rfl
theorem dq_Ground_total_1 : decode (km_c mm_Ground_total) 1 = .ok (.istore_n 2, 1) := by decide +kernel
theorem sq_Ground_total_1n : rn G mm_Ground_total 1 [a0, none, a2, a3] (.int x :: st) S P ↔ rn G mm_Ground_total 2 [a0, none, some (.int x), a3] st S P := rn_s dq_Ground_total_1 rfl rfl rfl
theorem sq_Ground_total_1i : rn G mm_Ground_total 1 [a0, some (.int x2), a2, a3] (.int x :: st) S P ↔ rn G mm_Ground_total 2 [a0, some (.int x2), some (.int x), a3] st S P := rn_s dq_Ground_total_1 rfl rfl rfl
theorem sq_Ground_total_1r : rn G mm_Ground_total 1 [a0, some (.ref z2), a2, a3] (.int x :: st) S P ↔ rn G mm_Ground_total 2 [a0, some (.ref z2), some (.int x), a3] st S P := rn_s dq_Ground_total_1 rfl rfl rfl
theorem dq_Ground_total_2 : decode (km_c mm_Ground_total) 2 = .ok (.iconst 0, 1) := by decide +kernel
theorem sq_Ground_total_2 : rn G mm_Ground_total 2 lv st S P ↔ rn G mm_Ground_total 3 lv (.int (nI 0) :: st) S P := rn_s dq_Ground_total_2 rfl rfl rfl
theorem dq_Ground_total_3 : decode (km_c mm_Ground_total) 3 = .ok (.istore_n 3, 1) := by decide +kernel
theorem sq_Ground_total_3n : rn G mm_Ground_total 3 [a0, a1, none, a3] (.int x :: st) S P ↔ rn G mm_Ground_total 4 [a0, a1, none, some (.int x)] st S P := rn_s dq_Ground_total_3 rfl rfl rfl
theorem sq_Ground_total_3i : rn G mm_Ground_total 3 [a0, a1, some (.int x2), a3] (.int x :: st) S P ↔ rn G mm_Ground_total 4 [a0, a1, some (.int x2), some (.int x)] st S P := rn_s dq_Ground_total_3 rfl rfl rfl
theorem sq_Ground_total_3r : rn G mm_Ground_total 3 [a0, a1, some (.ref z2), a3] (.int x :: st) S P ↔ rn G mm_Ground_total 4 [a0, a1, some (.ref z2), some (.int x)] st S P := rn_s dq_Ground_total_3 rfl rfl rfl
theorem dq_Ground_total_4 : decode (km_c mm_Ground_total) 4 = .ok (.iload_n 3, 1) := by decide +kernel
theorem sq_Ground_total_4 : rn G mm_Ground_total 4 [a0, a1, a2, some (.int x)] st S P ↔ rn G mm_Ground_total 5 [a0, a1, a2, some (.int x)] (.int x :: st) S P := rn_s dq_Ground_total_4 rfl rfl rfl
theorem dq_Ground_total_5 : decode (km_c mm_Ground_total) 5 = .ok (.bipush 49, 2) := by decide +kernel
theorem sq_Ground_total_5 : rn G mm_Ground_total 5 lv st S P ↔ rn G mm_Ground_total 7 lv (.int (nI 49) :: st) S P := rn_s dq_Ground_total_5 rfl rfl rfl
theorem dq_Ground_total_7 : decode (km_c mm_Ground_total) 7 = .ok (.if_icmp .ge 20, 3) := by decide +kernel
theorem sq_Ground_total_7 : rn G mm_Ground_total 7 lv (.int x2 :: .int x :: st) S P ↔ ((x2 ≤ x → rn G mm_Ground_total 27 lv st S P) ∧ (¬ (x2 ≤ x) → rn G mm_Ground_total 10 lv st S P)) := rn_b (off := 20) dq_Ground_total_7 rfl rfl rfl rfl
theorem dq_Ground_total_10 : decode (km_c mm_Ground_total) 10 = .ok (.iload_n 2, 1) := by decide +kernel
theorem sq_Ground_total_10 : rn G mm_Ground_total 10 [a0, a1, some (.int x), a3] st S P ↔ rn G mm_Ground_total 11 [a0, a1, some (.int x), a3] (.int x :: st) S P := rn_s dq_Ground_total_10 rfl rfl rfl
theorem dq_Ground_total_11 : decode (km_c mm_Ground_total) 11 = .ok (.aload_n 0, 1) := by decide +kernel
theorem sq_Ground_total_11 : rn G mm_Ground_total 11 [some (.ref z), a1, a2, a3] st S P ↔ rn G mm_Ground_total 12 [some (.ref z), a1, a2, a3] (.ref z :: st) S P := rn_s dq_Ground_total_11 rfl rfl rfl
theorem dq_Ground_total_12 : decode (km_c mm_Ground_total) 12 = .ok (.getfield 11, 3) := by decide +kernel
theorem sq_Ground_total_12_2 (ho : sx_o o pl kp) : rn (lt_G o L) mm_Ground_total 12 lv (.ref 2 :: st) (sx pl kp I A) P ↔ rn (lt_G o L) mm_Ground_total 15 lv (.ref 3 :: st) (sx pl kp I A) P := rx_get (h := "") (ci := 0) (k := 0) dq_Ground_total_12 (by decide +kernel) ho (up_b (by decide)) rfl rfl (fl_r (by decide) (by decide) (by decide) (by decide))
theorem sq_Ground_total_12_35 (ho : sx_o o pl kp) : rn (lt_G o L) mm_Ground_total 12 lv (.ref 35 :: st) (sx pl kp I A) P ↔ rn (lt_G o L) mm_Ground_total 15 lv (.ref 36 :: st) (sx pl kp I A) P := rx_get (h := "") (ci := 0) (k := 0) dq_Ground_total_12 (by decide +kernel) ho (up_b (by decide)) rfl rfl (fl_r (by decide) (by decide) (by decide) (by decide))
theorem sq_Ground_total_12_137 (ho : sx_o o pl true) : rn (lt_G o L) mm_Ground_total 12 lv (.ref 137 :: st) (sx pl true I A) P ↔ rn (lt_G o L) mm_Ground_total 15 lv (.ref 138 :: st) (sx pl true I A) P := rx_get (h := "") (ci := 0) (k := 0) dq_Ground_total_12 (by decide +kernel) ho (up_k (by decide) (by decide)) rfl rfl (fl_k (by decide) (by decide))
theorem dq_Ground_total_15 : decode (km_c mm_Ground_total) 15 = .ok (.iload_n 1, 1) := by decide +kernel
theorem sq_Ground_total_15 : rn G mm_Ground_total 15 [a0, some (.int x), a2, a3] st S P ↔ rn G mm_Ground_total 16 [a0, some (.int x), a2, a3] (.int x :: st) S P := rn_s dq_Ground_total_15 rfl rfl rfl
theorem dq_Ground_total_16 : decode (km_c mm_Ground_total) 16 = .ok (.aaload, 1) := by decide +kernel
theorem sq_Ground_total_16 (ho : sx_o o pl kp) (hk : ak L a = 3) (hu : sx_up pl kp a = true) (hc : c < ln L a) (hn : ln L a < 2 ^ 31) : rn (lt_G o L) mm_Ground_total 16 lv (.int (nI c) :: .ref a :: st) (sx pl kp I A) P ↔ rn (lt_G o L) mm_Ground_total 17 lv (.ref (ab L a + c) :: st) (sx pl kp I A) P := rx_ald dq_Ground_total_16 ho hk hu hc hn
theorem dq_Ground_total_17 : decode (km_c mm_Ground_total) 17 = .ok (.iload_n 3, 1) := by decide +kernel
theorem sq_Ground_total_17 : rn G mm_Ground_total 17 [a0, a1, a2, some (.int x)] st S P ↔ rn G mm_Ground_total 18 [a0, a1, a2, some (.int x)] (.int x :: st) S P := rn_s dq_Ground_total_17 rfl rfl rfl
theorem dq_Ground_total_18 : decode (km_c mm_Ground_total) 18 = .ok (.iaload, 1) := by decide +kernel
theorem sq_Ground_total_18 (ho : sx_o o pl kp) (hk : ak L a = 0) (hu : sx_up pl kp a = true ∨ 1000 ≤ a) (hc : c < ln L a) (hn : ln L a < 2 ^ 31) : rn (lt_G o L) mm_Ground_total 18 lv (.int (nI c) :: .ref a :: st) (sx pl kp I A) P ↔ rn (lt_G o L) mm_Ground_total 19 lv (.int (A a c) :: st) (sx pl kp I A) P := rx_ild dq_Ground_total_18 ho hk hu hc hn
theorem dq_Ground_total_19 : decode (km_c mm_Ground_total) 19 = .ok (.iadd, 1) := by decide +kernel
theorem sq_Ground_total_19 : rn G mm_Ground_total 19 lv (.int x2 :: .int x :: st) S P ↔ rn G mm_Ground_total 20 lv (.int (x + x2) :: st) S P := rn_s dq_Ground_total_19 rfl rfl rfl
theorem dq_Ground_total_20 : decode (km_c mm_Ground_total) 20 = .ok (.istore_n 2, 1) := by decide +kernel
theorem sq_Ground_total_20n : rn G mm_Ground_total 20 [a0, none, a2, a3] (.int x :: st) S P ↔ rn G mm_Ground_total 21 [a0, none, some (.int x), a3] st S P := rn_s dq_Ground_total_20 rfl rfl rfl
theorem sq_Ground_total_20i : rn G mm_Ground_total 20 [a0, some (.int x2), a2, a3] (.int x :: st) S P ↔ rn G mm_Ground_total 21 [a0, some (.int x2), some (.int x), a3] st S P := rn_s dq_Ground_total_20 rfl rfl rfl
theorem sq_Ground_total_20r : rn G mm_Ground_total 20 [a0, some (.ref z2), a2, a3] (.int x :: st) S P ↔ rn G mm_Ground_total 21 [a0, some (.ref z2), some (.int x), a3] st S P := rn_s dq_Ground_total_20 rfl rfl rfl
theorem dq_Ground_total_21 : decode (km_c mm_Ground_total) 21 = .ok (.iinc 3 1, 3) := by decide +kernel
theorem sq_Ground_total_21n : rn G mm_Ground_total 21 [a0, a1, none, some (.int x)] st S P ↔ rn G mm_Ground_total 24 [a0, a1, none, some (.int (x + nI 1))] st S P := rn_s dq_Ground_total_21 rfl rfl rfl
theorem sq_Ground_total_21i : rn G mm_Ground_total 21 [a0, a1, some (.int x2), some (.int x)] st S P ↔ rn G mm_Ground_total 24 [a0, a1, some (.int x2), some (.int (x + nI 1))] st S P := rn_s dq_Ground_total_21 rfl rfl rfl
theorem sq_Ground_total_21r : rn G mm_Ground_total 21 [a0, a1, some (.ref z2), some (.int x)] st S P ↔ rn G mm_Ground_total 24 [a0, a1, some (.ref z2), some (.int (x + nI 1))] st S P := rn_s dq_Ground_total_21 rfl rfl rfl
theorem dq_Ground_total_24 : decode (km_c mm_Ground_total) 24 = .ok (.goto (-20), 3) := by decide +kernel
theorem sq_Ground_total_24 : rn G mm_Ground_total 24 lv st S P ↔ rn G mm_Ground_total 4 lv st S P := rn_s dq_Ground_total_24 rfl rfl rfl
theorem dq_Ground_total_27 : decode (km_c mm_Ground_total) 27 = .ok (.iload_n 2, 1) := by decide +kernel
theorem sq_Ground_total_27 : rn G mm_Ground_total 27 [a0, a1, some (.int x), a3] st S P ↔ rn G mm_Ground_total 28 [a0, a1, some (.int x), a3] (.int x :: st) S P := rn_s dq_Ground_total_27 rfl rfl rfl
theorem dq_Ground_total_28 : decode (km_c mm_Ground_total) 28 = .ok (.ireturn, 1) := by decide +kernel
theorem sq_Ground_total_28 : rn G mm_Ground_total 28 lv [.int x] S P ↔ P (some (.int x)) S := rn_ir dq_Ground_total_28 rfl
theorem dq_Ground_layBones_0 : decode (km_c mm_Ground_layBones) 0 = .ok (.iconst 0, 1) := by decide +kernel
theorem sq_Ground_layBones_0 : rn G mm_Ground_layBones 0 lv st S P ↔ rn G mm_Ground_layBones 1 lv (.int (nI 0) :: st) S P := rn_s dq_Ground_layBones_0 rfl rfl rfl
theorem dq_Ground_layBones_1 : decode (km_c mm_Ground_layBones) 1 = .ok (.istore_n 2, 1) := by decide +kernel
theorem sq_Ground_layBones_1n : rn G mm_Ground_layBones 1 [a0, none, a2, a3, a4] (.int x :: st) S P ↔ rn G mm_Ground_layBones 2 [a0, none, some (.int x), a3, a4] st S P := rn_s dq_Ground_layBones_1 rfl rfl rfl
theorem sq_Ground_layBones_1i : rn G mm_Ground_layBones 1 [a0, some (.int x2), a2, a3, a4] (.int x :: st) S P ↔ rn G mm_Ground_layBones 2 [a0, some (.int x2), some (.int x), a3, a4] st S P := rn_s dq_Ground_layBones_1 rfl rfl rfl
theorem sq_Ground_layBones_1r : rn G mm_Ground_layBones 1 [a0, some (.ref z2), a2, a3, a4] (.int x :: st) S P ↔ rn G mm_Ground_layBones 2 [a0, some (.ref z2), some (.int x), a3, a4] st S P := rn_s dq_Ground_layBones_1 rfl rfl rfl
theorem dq_Ground_layBones_2 : decode (km_c mm_Ground_layBones) 2 = .ok (.iconst 0, 1) := by decide +kernel
theorem sq_Ground_layBones_2 : rn G mm_Ground_layBones 2 lv st S P ↔ rn G mm_Ground_layBones 3 lv (.int (nI 0) :: st) S P := rn_s dq_Ground_layBones_2 rfl rfl rfl
theorem dq_Ground_layBones_3 : decode (km_c mm_Ground_layBones) 3 = .ok (.istore_n 3, 1) := by decide +kernel
theorem sq_Ground_layBones_3n : rn G mm_Ground_layBones 3 [a0, a1, none, a3, a4] (.int x :: st) S P ↔ rn G mm_Ground_layBones 4 [a0, a1, none, some (.int x), a4] st S P := rn_s dq_Ground_layBones_3 rfl rfl rfl
theorem sq_Ground_layBones_3i : rn G mm_Ground_layBones 3 [a0, a1, some (.int x2), a3, a4] (.int x :: st) S P ↔ rn G mm_Ground_layBones 4 [a0, a1, some (.int x2), some (.int x), a4] st S P := rn_s dq_Ground_layBones_3 rfl rfl rfl
theorem sq_Ground_layBones_3r : rn G mm_Ground_layBones 3 [a0, a1, some (.ref z2), a3, a4] (.int x :: st) S P ↔ rn G mm_Ground_layBones 4 [a0, a1, some (.ref z2), some (.int x), a4] st S P := rn_s dq_Ground_layBones_3 rfl rfl rfl
theorem dq_Ground_layBones_4 : decode (km_c mm_Ground_layBones) 4 = .ok (.iload_n 3, 1) := by decide +kernel
theorem sq_Ground_layBones_4 : rn G mm_Ground_layBones 4 [a0, a1, a2, some (.int x), a4] st S P ↔ rn G mm_Ground_layBones 5 [a0, a1, a2, some (.int x), a4] (.int x :: st) S P := rn_s dq_Ground_layBones_4 rfl rfl rfl
theorem dq_Ground_layBones_5 : decode (km_c mm_Ground_layBones) 5 = .ok (.aload_n 1, 1) := by decide +kernel
theorem sq_Ground_layBones_5 : rn G mm_Ground_layBones 5 [a0, some (.ref z), a2, a3, a4] st S P ↔ rn G mm_Ground_layBones 6 [a0, some (.ref z), a2, a3, a4] (.ref z :: st) S P := rn_s dq_Ground_layBones_5 rfl rfl rfl
theorem dq_Ground_layBones_6 : decode (km_c mm_Ground_layBones) 6 = .ok (.getfield 32, 3) := by decide +kernel
theorem sq_Ground_layBones_6_12 (ho : sx_o o pl kp) : rn (lt_G o L) mm_Ground_layBones 6 lv (.ref 12 :: st) (sx pl kp I A) P ↔ rn (lt_G o L) mm_Ground_layBones 9 lv (.int (I 12 1) :: st) (sx pl kp I A) P := rx_get (h := "DeltaRoad") (ci := 1) (k := 1) dq_Ground_layBones_6 (by decide +kernel) ho (up_b (by decide)) rfl rfl (fl_i (by decide))
theorem sq_Ground_layBones_6_147 (ho : sx_o o pl true) : rn (lt_G o L) mm_Ground_layBones 6 lv (.ref 147 :: st) (sx pl true I A) P ↔ rn (lt_G o L) mm_Ground_layBones 9 lv (.int (I 147 1) :: st) (sx pl true I A) P := rx_get (h := "DeltaRoad") (ci := 1) (k := 1) dq_Ground_layBones_6 (by decide +kernel) ho (up_k (by decide) (by decide)) rfl rfl (fl_i (by decide))
theorem dq_Ground_layBones_9 : decode (km_c mm_Ground_layBones) 9 = .ok (.if_icmp .ge 41, 3) := by decide +kernel
theorem sq_Ground_layBones_9 : rn G mm_Ground_layBones 9 lv (.int x2 :: .int x :: st) S P ↔ ((x2 ≤ x → rn G mm_Ground_layBones 50 lv st S P) ∧ (¬ (x2 ≤ x) → rn G mm_Ground_layBones 12 lv st S P)) := rn_b (off := 41) dq_Ground_layBones_9 rfl rfl rfl rfl
theorem dq_Ground_layBones_12 : decode (km_c mm_Ground_layBones) 12 = .ok (.aload_n 1, 1) := by decide +kernel
theorem sq_Ground_layBones_12 : rn G mm_Ground_layBones 12 [a0, some (.ref z), a2, a3, a4] st S P ↔ rn G mm_Ground_layBones 13 [a0, some (.ref z), a2, a3, a4] (.ref z :: st) S P := rn_s dq_Ground_layBones_12 rfl rfl rfl
theorem dq_Ground_layBones_13 : decode (km_c mm_Ground_layBones) 13 = .ok (.getfield 37, 3) := by decide +kernel
theorem sq_Ground_layBones_13_12 (ho : sx_o o pl kp) : rn (lt_G o L) mm_Ground_layBones 13 lv (.ref 12 :: st) (sx pl kp I A) P ↔ rn (lt_G o L) mm_Ground_layBones 16 lv (.ref 13 :: st) (sx pl kp I A) P := rx_get (h := "DeltaRoad") (ci := 1) (k := 0) dq_Ground_layBones_13 (by decide +kernel) ho (up_b (by decide)) rfl rfl (fl_r (by decide) (by decide) (by decide) (by decide))
theorem sq_Ground_layBones_13_147 (ho : sx_o o pl true) : rn (lt_G o L) mm_Ground_layBones 13 lv (.ref 147 :: st) (sx pl true I A) P ↔ rn (lt_G o L) mm_Ground_layBones 16 lv (.ref 148 :: st) (sx pl true I A) P := rx_get (h := "DeltaRoad") (ci := 1) (k := 0) dq_Ground_layBones_13 (by decide +kernel) ho (up_k (by decide) (by decide)) rfl rfl (fl_k (by decide) (by decide))
theorem dq_Ground_layBones_16 : decode (km_c mm_Ground_layBones) 16 = .ok (.iload_n 3, 1) := by decide +kernel
theorem sq_Ground_layBones_16 : rn G mm_Ground_layBones 16 [a0, a1, a2, some (.int x), a4] st S P ↔ rn G mm_Ground_layBones 17 [a0, a1, a2, some (.int x), a4] (.int x :: st) S P := rn_s dq_Ground_layBones_16 rfl rfl rfl
theorem dq_Ground_layBones_17 : decode (km_c mm_Ground_layBones) 17 = .ok (.iaload, 1) := by decide +kernel
theorem sq_Ground_layBones_17 (ho : sx_o o pl kp) (hk : ak L a = 0) (hu : sx_up pl kp a = true ∨ 1000 ≤ a) (hc : c < ln L a) (hn : ln L a < 2 ^ 31) : rn (lt_G o L) mm_Ground_layBones 17 lv (.int (nI c) :: .ref a :: st) (sx pl kp I A) P ↔ rn (lt_G o L) mm_Ground_layBones 18 lv (.int (A a c) :: st) (sx pl kp I A) P := rx_ild dq_Ground_layBones_17 ho hk hu hc hn
theorem dq_Ground_layBones_18 : decode (km_c mm_Ground_layBones) 18 = .ok (.istore 4, 2) := by decide +kernel
theorem sq_Ground_layBones_18n : rn G mm_Ground_layBones 18 [a0, a1, a2, none, a4] (.int x :: st) S P ↔ rn G mm_Ground_layBones 20 [a0, a1, a2, none, some (.int x)] st S P := rn_s dq_Ground_layBones_18 rfl rfl rfl
theorem sq_Ground_layBones_18i : rn G mm_Ground_layBones 18 [a0, a1, a2, some (.int x2), a4] (.int x :: st) S P ↔ rn G mm_Ground_layBones 20 [a0, a1, a2, some (.int x2), some (.int x)] st S P := rn_s dq_Ground_layBones_18 rfl rfl rfl
theorem sq_Ground_layBones_18r : rn G mm_Ground_layBones 18 [a0, a1, a2, some (.ref z2), a4] (.int x :: st) S P ↔ rn G mm_Ground_layBones 20 [a0, a1, a2, some (.ref z2), some (.int x)] st S P := rn_s dq_Ground_layBones_18 rfl rfl rfl
theorem dq_Ground_layBones_20 : decode (km_c mm_Ground_layBones) 20 = .ok (.iload_n 2, 1) := by decide +kernel
theorem sq_Ground_layBones_20 : rn G mm_Ground_layBones 20 [a0, a1, some (.int x), a3, a4] st S P ↔ rn G mm_Ground_layBones 21 [a0, a1, some (.int x), a3, a4] (.int x :: st) S P := rn_s dq_Ground_layBones_20 rfl rfl rfl
theorem dq_Ground_layBones_21 : decode (km_c mm_Ground_layBones) 21 = .ok (.iconst 1, 1) := by decide +kernel
theorem sq_Ground_layBones_21 : rn G mm_Ground_layBones 21 lv st S P ↔ rn G mm_Ground_layBones 22 lv (.int (nI 1) :: st) S P := rn_s dq_Ground_layBones_21 rfl rfl rfl
theorem dq_Ground_layBones_22 : decode (km_c mm_Ground_layBones) 22 = .ok (.aload_n 0, 1) := by decide +kernel
theorem sq_Ground_layBones_22 : rn G mm_Ground_layBones 22 [some (.ref z), a1, a2, a3, a4] st S P ↔ rn G mm_Ground_layBones 23 [some (.ref z), a1, a2, a3, a4] (.ref z :: st) S P := rn_s dq_Ground_layBones_22 rfl rfl rfl
theorem dq_Ground_layBones_23 : decode (km_c mm_Ground_layBones) 23 = .ok (.getfield 11, 3) := by decide +kernel
theorem sq_Ground_layBones_23_2 (ho : sx_o o pl kp) : rn (lt_G o L) mm_Ground_layBones 23 lv (.ref 2 :: st) (sx pl kp I A) P ↔ rn (lt_G o L) mm_Ground_layBones 26 lv (.ref 3 :: st) (sx pl kp I A) P := rx_get (h := "") (ci := 0) (k := 0) dq_Ground_layBones_23 (by decide +kernel) ho (up_b (by decide)) rfl rfl (fl_r (by decide) (by decide) (by decide) (by decide))
theorem sq_Ground_layBones_23_35 (ho : sx_o o pl kp) : rn (lt_G o L) mm_Ground_layBones 23 lv (.ref 35 :: st) (sx pl kp I A) P ↔ rn (lt_G o L) mm_Ground_layBones 26 lv (.ref 36 :: st) (sx pl kp I A) P := rx_get (h := "") (ci := 0) (k := 0) dq_Ground_layBones_23 (by decide +kernel) ho (up_b (by decide)) rfl rfl (fl_r (by decide) (by decide) (by decide) (by decide))
theorem sq_Ground_layBones_23_137 (ho : sx_o o pl true) : rn (lt_G o L) mm_Ground_layBones 23 lv (.ref 137 :: st) (sx pl true I A) P ↔ rn (lt_G o L) mm_Ground_layBones 26 lv (.ref 138 :: st) (sx pl true I A) P := rx_get (h := "") (ci := 0) (k := 0) dq_Ground_layBones_23 (by decide +kernel) ho (up_k (by decide) (by decide)) rfl rfl (fl_k (by decide) (by decide))
theorem dq_Ground_layBones_26 : decode (km_c mm_Ground_layBones) 26 = .ok (.iconst 3, 1) := by decide +kernel
theorem sq_Ground_layBones_26 : rn G mm_Ground_layBones 26 lv st S P ↔ rn G mm_Ground_layBones 27 lv (.int (nI 3) :: st) S P := rn_s dq_Ground_layBones_26 rfl rfl rfl
theorem dq_Ground_layBones_27 : decode (km_c mm_Ground_layBones) 27 = .ok (.aaload, 1) := by decide +kernel
theorem sq_Ground_layBones_27 (ho : sx_o o pl kp) (hk : ak L a = 3) (hu : sx_up pl kp a = true) (hc : c < ln L a) (hn : ln L a < 2 ^ 31) : rn (lt_G o L) mm_Ground_layBones 27 lv (.int (nI c) :: .ref a :: st) (sx pl kp I A) P ↔ rn (lt_G o L) mm_Ground_layBones 28 lv (.ref (ab L a + c) :: st) (sx pl kp I A) P := rx_ald dq_Ground_layBones_27 ho hk hu hc hn
theorem dq_Ground_layBones_28 : decode (km_c mm_Ground_layBones) 28 = .ok (.iload 4, 2) := by decide +kernel
theorem sq_Ground_layBones_28 : rn G mm_Ground_layBones 28 [a0, a1, a2, a3, some (.int x)] st S P ↔ rn G mm_Ground_layBones 30 [a0, a1, a2, a3, some (.int x)] (.int x :: st) S P := rn_s dq_Ground_layBones_28 rfl rfl rfl
theorem dq_Ground_layBones_30 : decode (km_c mm_Ground_layBones) 30 = .ok (.iaload, 1) := by decide +kernel
theorem sq_Ground_layBones_30 (ho : sx_o o pl kp) (hk : ak L a = 0) (hu : sx_up pl kp a = true ∨ 1000 ≤ a) (hc : c < ln L a) (hn : ln L a < 2 ^ 31) : rn (lt_G o L) mm_Ground_layBones 30 lv (.int (nI c) :: .ref a :: st) (sx pl kp I A) P ↔ rn (lt_G o L) mm_Ground_layBones 31 lv (.int (A a c) :: st) (sx pl kp I A) P := rx_ild dq_Ground_layBones_30 ho hk hu hc hn
theorem dq_Ground_layBones_31 : decode (km_c mm_Ground_layBones) 31 = .ok (.isub, 1) := by decide +kernel
theorem sq_Ground_layBones_31 : rn G mm_Ground_layBones 31 lv (.int x2 :: .int x :: st) S P ↔ rn G mm_Ground_layBones 32 lv (.int (x - x2) :: st) S P := rn_s dq_Ground_layBones_31 rfl rfl rfl
theorem dq_Ground_layBones_32 : decode (km_c mm_Ground_layBones) 32 = .ok (.iadd, 1) := by decide +kernel
theorem sq_Ground_layBones_32 : rn G mm_Ground_layBones 32 lv (.int x2 :: .int x :: st) S P ↔ rn G mm_Ground_layBones 33 lv (.int (x + x2) :: st) S P := rn_s dq_Ground_layBones_32 rfl rfl rfl
theorem dq_Ground_layBones_33 : decode (km_c mm_Ground_layBones) 33 = .ok (.istore_n 2, 1) := by decide +kernel
theorem sq_Ground_layBones_33n : rn G mm_Ground_layBones 33 [a0, none, a2, a3, a4] (.int x :: st) S P ↔ rn G mm_Ground_layBones 34 [a0, none, some (.int x), a3, a4] st S P := rn_s dq_Ground_layBones_33 rfl rfl rfl
theorem sq_Ground_layBones_33i : rn G mm_Ground_layBones 33 [a0, some (.int x2), a2, a3, a4] (.int x :: st) S P ↔ rn G mm_Ground_layBones 34 [a0, some (.int x2), some (.int x), a3, a4] st S P := rn_s dq_Ground_layBones_33 rfl rfl rfl
theorem sq_Ground_layBones_33r : rn G mm_Ground_layBones 33 [a0, some (.ref z2), a2, a3, a4] (.int x :: st) S P ↔ rn G mm_Ground_layBones 34 [a0, some (.ref z2), some (.int x), a3, a4] st S P := rn_s dq_Ground_layBones_33 rfl rfl rfl
theorem dq_Ground_layBones_34 : decode (km_c mm_Ground_layBones) 34 = .ok (.aload_n 0, 1) := by decide +kernel
theorem sq_Ground_layBones_34 : rn G mm_Ground_layBones 34 [some (.ref z), a1, a2, a3, a4] st S P ↔ rn G mm_Ground_layBones 35 [some (.ref z), a1, a2, a3, a4] (.ref z :: st) S P := rn_s dq_Ground_layBones_34 rfl rfl rfl
theorem dq_Ground_layBones_35 : decode (km_c mm_Ground_layBones) 35 = .ok (.getfield 11, 3) := by decide +kernel
theorem sq_Ground_layBones_35_2 (ho : sx_o o pl kp) : rn (lt_G o L) mm_Ground_layBones 35 lv (.ref 2 :: st) (sx pl kp I A) P ↔ rn (lt_G o L) mm_Ground_layBones 38 lv (.ref 3 :: st) (sx pl kp I A) P := rx_get (h := "") (ci := 0) (k := 0) dq_Ground_layBones_35 (by decide +kernel) ho (up_b (by decide)) rfl rfl (fl_r (by decide) (by decide) (by decide) (by decide))
theorem sq_Ground_layBones_35_35 (ho : sx_o o pl kp) : rn (lt_G o L) mm_Ground_layBones 35 lv (.ref 35 :: st) (sx pl kp I A) P ↔ rn (lt_G o L) mm_Ground_layBones 38 lv (.ref 36 :: st) (sx pl kp I A) P := rx_get (h := "") (ci := 0) (k := 0) dq_Ground_layBones_35 (by decide +kernel) ho (up_b (by decide)) rfl rfl (fl_r (by decide) (by decide) (by decide) (by decide))
theorem sq_Ground_layBones_35_137 (ho : sx_o o pl true) : rn (lt_G o L) mm_Ground_layBones 35 lv (.ref 137 :: st) (sx pl true I A) P ↔ rn (lt_G o L) mm_Ground_layBones 38 lv (.ref 138 :: st) (sx pl true I A) P := rx_get (h := "") (ci := 0) (k := 0) dq_Ground_layBones_35 (by decide +kernel) ho (up_k (by decide) (by decide)) rfl rfl (fl_k (by decide) (by decide))
theorem dq_Ground_layBones_38 : decode (km_c mm_Ground_layBones) 38 = .ok (.iconst 3, 1) := by decide +kernel
theorem sq_Ground_layBones_38 : rn G mm_Ground_layBones 38 lv st S P ↔ rn G mm_Ground_layBones 39 lv (.int (nI 3) :: st) S P := rn_s dq_Ground_layBones_38 rfl rfl rfl
theorem dq_Ground_layBones_39 : decode (km_c mm_Ground_layBones) 39 = .ok (.aaload, 1) := by decide +kernel
theorem sq_Ground_layBones_39 (ho : sx_o o pl kp) (hk : ak L a = 3) (hu : sx_up pl kp a = true) (hc : c < ln L a) (hn : ln L a < 2 ^ 31) : rn (lt_G o L) mm_Ground_layBones 39 lv (.int (nI c) :: .ref a :: st) (sx pl kp I A) P ↔ rn (lt_G o L) mm_Ground_layBones 40 lv (.ref (ab L a + c) :: st) (sx pl kp I A) P := rx_ald dq_Ground_layBones_39 ho hk hu hc hn
theorem dq_Ground_layBones_40 : decode (km_c mm_Ground_layBones) 40 = .ok (.iload 4, 2) := by decide +kernel
theorem sq_Ground_layBones_40 : rn G mm_Ground_layBones 40 [a0, a1, a2, a3, some (.int x)] st S P ↔ rn G mm_Ground_layBones 42 [a0, a1, a2, a3, some (.int x)] (.int x :: st) S P := rn_s dq_Ground_layBones_40 rfl rfl rfl
theorem dq_Ground_layBones_42 : decode (km_c mm_Ground_layBones) 42 = .ok (.iconst 1, 1) := by decide +kernel
theorem sq_Ground_layBones_42 : rn G mm_Ground_layBones 42 lv st S P ↔ rn G mm_Ground_layBones 43 lv (.int (nI 1) :: st) S P := rn_s dq_Ground_layBones_42 rfl rfl rfl
theorem dq_Ground_layBones_43 : decode (km_c mm_Ground_layBones) 43 = .ok (.iastore, 1) := by decide +kernel
theorem sq_Ground_layBones_43 (ho : sx_o o pl kp) (hk : ak L a = 0) (hu : sx_up pl kp a = true) (hc : c < ln L a) (hn : ln L a < 2 ^ 31) : rn (lt_G o L) mm_Ground_layBones 43 lv (.int x :: .int (nI c) :: .ref a :: st) (sx pl kp I A) P ↔ rn (lt_G o L) mm_Ground_layBones 44 lv st (sx pl kp I (u2 A a c x)) P := rx_ist dq_Ground_layBones_43 ho hk hu hc hn
theorem dq_Ground_layBones_44 : decode (km_c mm_Ground_layBones) 44 = .ok (.iinc 3 1, 3) := by decide +kernel
theorem sq_Ground_layBones_44n : rn G mm_Ground_layBones 44 [a0, a1, none, some (.int x), a4] st S P ↔ rn G mm_Ground_layBones 47 [a0, a1, none, some (.int (x + nI 1)), a4] st S P := rn_s dq_Ground_layBones_44 rfl rfl rfl
theorem sq_Ground_layBones_44i : rn G mm_Ground_layBones 44 [a0, a1, some (.int x2), some (.int x), a4] st S P ↔ rn G mm_Ground_layBones 47 [a0, a1, some (.int x2), some (.int (x + nI 1)), a4] st S P := rn_s dq_Ground_layBones_44 rfl rfl rfl
theorem sq_Ground_layBones_44r : rn G mm_Ground_layBones 44 [a0, a1, some (.ref z2), some (.int x), a4] st S P ↔ rn G mm_Ground_layBones 47 [a0, a1, some (.ref z2), some (.int (x + nI 1)), a4] st S P := rn_s dq_Ground_layBones_44 rfl rfl rfl
theorem dq_Ground_layBones_47 : decode (km_c mm_Ground_layBones) 47 = .ok (.goto (-43), 3) := by decide +kernel
theorem sq_Ground_layBones_47 : rn G mm_Ground_layBones 47 lv st S P ↔ rn G mm_Ground_layBones 4 lv st S P := rn_s dq_Ground_layBones_47 rfl rfl rfl
theorem dq_Ground_layBones_50 : decode (km_c mm_Ground_layBones) 50 = .ok (.iload_n 2, 1) := by decide +kernel
theorem sq_Ground_layBones_50 : rn G mm_Ground_layBones 50 [a0, a1, some (.int x), a3, a4] st S P ↔ rn G mm_Ground_layBones 51 [a0, a1, some (.int x), a3, a4] (.int x :: st) S P := rn_s dq_Ground_layBones_50 rfl rfl rfl
theorem dq_Ground_layBones_51 : decode (km_c mm_Ground_layBones) 51 = .ok (.ireturn, 1) := by decide +kernel
theorem sq_Ground_layBones_51 : rn G mm_Ground_layBones 51 lv [.int x] S P ↔ P (some (.int x)) S := rn_ir dq_Ground_layBones_51 rfl
theorem dq_Laid_init_0 : decode (km_c mm_Laid_init) 0 = .ok (.aload_n 0, 1) := by decide +kernel
theorem sq_Laid_init_0 : rn G mm_Laid_init 0 [some (.ref z)] st S P ↔ rn G mm_Laid_init 1 [some (.ref z)] (.ref z :: st) S P := rn_s dq_Laid_init_0 rfl rfl rfl
theorem dq_Laid_init_1 : decode (km_c mm_Laid_init) 1 = .ok (.invokespecial 3, 3) := by decide +kernel
theorem dq_Laid_init_4 : decode (km_c mm_Laid_init) 4 = .ok (.aload_n 0, 1) := by decide +kernel
theorem sq_Laid_init_4 : rn G mm_Laid_init 4 [some (.ref z)] st S P ↔ rn G mm_Laid_init 5 [some (.ref z)] (.ref z :: st) S P := rn_s dq_Laid_init_4 rfl rfl rfl
theorem dq_Laid_init_5 : decode (km_c mm_Laid_init) 5 = .ok (.bipush 60, 2) := by decide +kernel
theorem sq_Laid_init_5 : rn G mm_Laid_init 5 lv st S P ↔ rn G mm_Laid_init 7 lv (.int (nI 60) :: st) S P := rn_s dq_Laid_init_5 rfl rfl rfl
theorem dq_Laid_init_7 : decode (km_c mm_Laid_init) 7 = .ok (.newarray .int, 2) := by decide +kernel
theorem dq_Laid_init_9 : decode (km_c mm_Laid_init) 9 = .ok (.putfield 9, 3) := by decide +kernel
theorem dq_Laid_init_12 : decode (km_c mm_Laid_init) 12 = .ok (.aload_n 0, 1) := by decide +kernel
theorem sq_Laid_init_12 : rn G mm_Laid_init 12 [some (.ref z)] st S P ↔ rn G mm_Laid_init 13 [some (.ref z)] (.ref z :: st) S P := rn_s dq_Laid_init_12 rfl rfl rfl
theorem dq_Laid_init_13 : decode (km_c mm_Laid_init) 13 = .ok (.iconst 0, 1) := by decide +kernel
theorem sq_Laid_init_13 : rn G mm_Laid_init 13 lv st S P ↔ rn G mm_Laid_init 14 lv (.int (nI 0) :: st) S P := rn_s dq_Laid_init_13 rfl rfl rfl
theorem dq_Laid_init_14 : decode (km_c mm_Laid_init) 14 = .ok (.putfield 15, 3) := by decide +kernel
theorem sq_Laid_init_14_12 (ho : sx_o o pl kp) : rn (lt_G o L) mm_Laid_init 14 lv (.int x :: .ref 12 :: st) (sx pl kp I A) P ↔ rn (lt_G o L) mm_Laid_init 17 lv st (sx pl kp (u2 I 12 1 x) A) P := rx_put (h := "") (ci := 1) (k := 1) dq_Laid_init_14 (by decide +kernel) ho (up_b (by decide)) rfl rfl (by decide) (by decide)
theorem sq_Laid_init_14_147 (ho : sx_o o pl true) : rn (lt_G o L) mm_Laid_init 14 lv (.int x :: .ref 147 :: st) (sx pl true I A) P ↔ rn (lt_G o L) mm_Laid_init 17 lv st (sx pl true (u2 I 147 1 x) A) P := rx_put (h := "") (ci := 1) (k := 1) dq_Laid_init_14 (by decide +kernel) ho (up_k (by decide) (by decide)) rfl rfl (by decide) (by decide)
theorem dq_Laid_init_17 : decode (km_c mm_Laid_init) 17 = .ok (.return_, 1) := by decide +kernel
theorem sq_Laid_init_17 : rn G mm_Laid_init 17 lv [] S P ↔ P none S := rn_vr dq_Laid_init_17 rfl
theorem dq_Laid_add_0 : decode (km_c mm_Laid_add) 0 = .ok (.aload_n 0, 1) := by decide +kernel
theorem sq_Laid_add_0 : rn G mm_Laid_add 0 [some (.ref z), a1] st S P ↔ rn G mm_Laid_add 1 [some (.ref z), a1] (.ref z :: st) S P := rn_s dq_Laid_add_0 rfl rfl rfl
theorem dq_Laid_add_1 : decode (km_c mm_Laid_add) 1 = .ok (.getfield 15, 3) := by decide +kernel
theorem sq_Laid_add_1_12 (ho : sx_o o pl kp) : rn (lt_G o L) mm_Laid_add 1 lv (.ref 12 :: st) (sx pl kp I A) P ↔ rn (lt_G o L) mm_Laid_add 4 lv (.int (I 12 1) :: st) (sx pl kp I A) P := rx_get (h := "") (ci := 1) (k := 1) dq_Laid_add_1 (by decide +kernel) ho (up_b (by decide)) rfl rfl (fl_i (by decide))
theorem sq_Laid_add_1_147 (ho : sx_o o pl true) : rn (lt_G o L) mm_Laid_add 1 lv (.ref 147 :: st) (sx pl true I A) P ↔ rn (lt_G o L) mm_Laid_add 4 lv (.int (I 147 1) :: st) (sx pl true I A) P := rx_get (h := "") (ci := 1) (k := 1) dq_Laid_add_1 (by decide +kernel) ho (up_k (by decide) (by decide)) rfl rfl (fl_i (by decide))
theorem dq_Laid_add_4 : decode (km_c mm_Laid_add) 4 = .ok (.bipush 60, 2) := by decide +kernel
theorem sq_Laid_add_4 : rn G mm_Laid_add 4 lv st S P ↔ rn G mm_Laid_add 6 lv (.int (nI 60) :: st) S P := rn_s dq_Laid_add_4 rfl rfl rfl
theorem dq_Laid_add_6 : decode (km_c mm_Laid_add) 6 = .ok (.if_icmp .ge 23, 3) := by decide +kernel
theorem sq_Laid_add_6 : rn G mm_Laid_add 6 lv (.int x2 :: .int x :: st) S P ↔ ((x2 ≤ x → rn G mm_Laid_add 29 lv st S P) ∧ (¬ (x2 ≤ x) → rn G mm_Laid_add 9 lv st S P)) := rn_b (off := 23) dq_Laid_add_6 rfl rfl rfl rfl
theorem dq_Laid_add_9 : decode (km_c mm_Laid_add) 9 = .ok (.aload_n 0, 1) := by decide +kernel
theorem sq_Laid_add_9 : rn G mm_Laid_add 9 [some (.ref z), a1] st S P ↔ rn G mm_Laid_add 10 [some (.ref z), a1] (.ref z :: st) S P := rn_s dq_Laid_add_9 rfl rfl rfl
theorem dq_Laid_add_10 : decode (km_c mm_Laid_add) 10 = .ok (.getfield 9, 3) := by decide +kernel
theorem sq_Laid_add_10_12 (ho : sx_o o pl kp) : rn (lt_G o L) mm_Laid_add 10 lv (.ref 12 :: st) (sx pl kp I A) P ↔ rn (lt_G o L) mm_Laid_add 13 lv (.ref 13 :: st) (sx pl kp I A) P := rx_get (h := "") (ci := 1) (k := 0) dq_Laid_add_10 (by decide +kernel) ho (up_b (by decide)) rfl rfl (fl_r (by decide) (by decide) (by decide) (by decide))
theorem sq_Laid_add_10_147 (ho : sx_o o pl true) : rn (lt_G o L) mm_Laid_add 10 lv (.ref 147 :: st) (sx pl true I A) P ↔ rn (lt_G o L) mm_Laid_add 13 lv (.ref 148 :: st) (sx pl true I A) P := rx_get (h := "") (ci := 1) (k := 0) dq_Laid_add_10 (by decide +kernel) ho (up_k (by decide) (by decide)) rfl rfl (fl_k (by decide) (by decide))
theorem dq_Laid_add_13 : decode (km_c mm_Laid_add) 13 = .ok (.aload_n 0, 1) := by decide +kernel
theorem sq_Laid_add_13 : rn G mm_Laid_add 13 [some (.ref z), a1] st S P ↔ rn G mm_Laid_add 14 [some (.ref z), a1] (.ref z :: st) S P := rn_s dq_Laid_add_13 rfl rfl rfl
theorem dq_Laid_add_14 : decode (km_c mm_Laid_add) 14 = .ok (.getfield 15, 3) := by decide +kernel
theorem sq_Laid_add_14_12 (ho : sx_o o pl kp) : rn (lt_G o L) mm_Laid_add 14 lv (.ref 12 :: st) (sx pl kp I A) P ↔ rn (lt_G o L) mm_Laid_add 17 lv (.int (I 12 1) :: st) (sx pl kp I A) P := rx_get (h := "") (ci := 1) (k := 1) dq_Laid_add_14 (by decide +kernel) ho (up_b (by decide)) rfl rfl (fl_i (by decide))
theorem sq_Laid_add_14_147 (ho : sx_o o pl true) : rn (lt_G o L) mm_Laid_add 14 lv (.ref 147 :: st) (sx pl true I A) P ↔ rn (lt_G o L) mm_Laid_add 17 lv (.int (I 147 1) :: st) (sx pl true I A) P := rx_get (h := "") (ci := 1) (k := 1) dq_Laid_add_14 (by decide +kernel) ho (up_k (by decide) (by decide)) rfl rfl (fl_i (by decide))
theorem dq_Laid_add_17 : decode (km_c mm_Laid_add) 17 = .ok (.iload_n 1, 1) := by decide +kernel
theorem sq_Laid_add_17 : rn G mm_Laid_add 17 [a0, some (.int x)] st S P ↔ rn G mm_Laid_add 18 [a0, some (.int x)] (.int x :: st) S P := rn_s dq_Laid_add_17 rfl rfl rfl
theorem dq_Laid_add_18 : decode (km_c mm_Laid_add) 18 = .ok (.iastore, 1) := by decide +kernel
theorem sq_Laid_add_18 (ho : sx_o o pl kp) (hk : ak L a = 0) (hu : sx_up pl kp a = true) (hc : c < ln L a) (hn : ln L a < 2 ^ 31) : rn (lt_G o L) mm_Laid_add 18 lv (.int x :: .int (nI c) :: .ref a :: st) (sx pl kp I A) P ↔ rn (lt_G o L) mm_Laid_add 19 lv st (sx pl kp I (u2 A a c x)) P := rx_ist dq_Laid_add_18 ho hk hu hc hn
theorem dq_Laid_add_19 : decode (km_c mm_Laid_add) 19 = .ok (.aload_n 0, 1) := by decide +kernel
theorem sq_Laid_add_19 : rn G mm_Laid_add 19 [some (.ref z), a1] st S P ↔ rn G mm_Laid_add 20 [some (.ref z), a1] (.ref z :: st) S P := rn_s dq_Laid_add_19 rfl rfl rfl
theorem dq_Laid_add_20 : decode (km_c mm_Laid_add) 20 = .ok (.dup, 1) := by decide +kernel
theorem sq_Laid_add_20i : rn G mm_Laid_add 20 lv (.int x :: st) S P ↔ rn G mm_Laid_add 21 lv (.int x :: .int x :: st) S P := rn_s dq_Laid_add_20 rfl rfl rfl
theorem sq_Laid_add_20r : rn G mm_Laid_add 20 lv (.ref z :: st) S P ↔ rn G mm_Laid_add 21 lv (.ref z :: .ref z :: st) S P := rn_s dq_Laid_add_20 rfl rfl rfl
theorem dq_Laid_add_21 : decode (km_c mm_Laid_add) 21 = .ok (.getfield 15, 3) := by decide +kernel
theorem sq_Laid_add_21_12 (ho : sx_o o pl kp) : rn (lt_G o L) mm_Laid_add 21 lv (.ref 12 :: st) (sx pl kp I A) P ↔ rn (lt_G o L) mm_Laid_add 24 lv (.int (I 12 1) :: st) (sx pl kp I A) P := rx_get (h := "") (ci := 1) (k := 1) dq_Laid_add_21 (by decide +kernel) ho (up_b (by decide)) rfl rfl (fl_i (by decide))
theorem sq_Laid_add_21_147 (ho : sx_o o pl true) : rn (lt_G o L) mm_Laid_add 21 lv (.ref 147 :: st) (sx pl true I A) P ↔ rn (lt_G o L) mm_Laid_add 24 lv (.int (I 147 1) :: st) (sx pl true I A) P := rx_get (h := "") (ci := 1) (k := 1) dq_Laid_add_21 (by decide +kernel) ho (up_k (by decide) (by decide)) rfl rfl (fl_i (by decide))
theorem dq_Laid_add_24 : decode (km_c mm_Laid_add) 24 = .ok (.iconst 1, 1) := by decide +kernel
theorem sq_Laid_add_24 : rn G mm_Laid_add 24 lv st S P ↔ rn G mm_Laid_add 25 lv (.int (nI 1) :: st) S P := rn_s dq_Laid_add_24 rfl rfl rfl
theorem dq_Laid_add_25 : decode (km_c mm_Laid_add) 25 = .ok (.iadd, 1) := by decide +kernel
theorem sq_Laid_add_25 : rn G mm_Laid_add 25 lv (.int x2 :: .int x :: st) S P ↔ rn G mm_Laid_add 26 lv (.int (x + x2) :: st) S P := rn_s dq_Laid_add_25 rfl rfl rfl
theorem dq_Laid_add_26 : decode (km_c mm_Laid_add) 26 = .ok (.putfield 15, 3) := by decide +kernel
theorem sq_Laid_add_26_12 (ho : sx_o o pl kp) : rn (lt_G o L) mm_Laid_add 26 lv (.int x :: .ref 12 :: st) (sx pl kp I A) P ↔ rn (lt_G o L) mm_Laid_add 29 lv st (sx pl kp (u2 I 12 1 x) A) P := rx_put (h := "") (ci := 1) (k := 1) dq_Laid_add_26 (by decide +kernel) ho (up_b (by decide)) rfl rfl (by decide) (by decide)
theorem sq_Laid_add_26_147 (ho : sx_o o pl true) : rn (lt_G o L) mm_Laid_add 26 lv (.int x :: .ref 147 :: st) (sx pl true I A) P ↔ rn (lt_G o L) mm_Laid_add 29 lv st (sx pl true (u2 I 147 1 x) A) P := rx_put (h := "") (ci := 1) (k := 1) dq_Laid_add_26 (by decide +kernel) ho (up_k (by decide) (by decide)) rfl rfl (by decide) (by decide)
theorem dq_Laid_add_29 : decode (km_c mm_Laid_add) 29 = .ok (.return_, 1) := by decide +kernel
theorem sq_Laid_add_29 : rn G mm_Laid_add 29 lv [] S P ↔ P none S := rn_vr dq_Laid_add_29 rfl
theorem dq_Laid_bends_0 : decode (km_c mm_Laid_bends) 0 = .ok (.iconst 0, 1) := by decide +kernel
theorem sq_Laid_bends_0 : rn G mm_Laid_bends 0 lv st S P ↔ rn G mm_Laid_bends 1 lv (.int (nI 0) :: st) S P := rn_s dq_Laid_bends_0 rfl rfl rfl
theorem dq_Laid_bends_1 : decode (km_c mm_Laid_bends) 1 = .ok (.istore_n 1, 1) := by decide +kernel
theorem sq_Laid_bends_1n : rn G mm_Laid_bends 1 [none, a1, a2] (.int x :: st) S P ↔ rn G mm_Laid_bends 2 [none, some (.int x), a2] st S P := rn_s dq_Laid_bends_1 rfl rfl rfl
theorem sq_Laid_bends_1i : rn G mm_Laid_bends 1 [some (.int x2), a1, a2] (.int x :: st) S P ↔ rn G mm_Laid_bends 2 [some (.int x2), some (.int x), a2] st S P := rn_s dq_Laid_bends_1 rfl rfl rfl
theorem sq_Laid_bends_1r : rn G mm_Laid_bends 1 [some (.ref z2), a1, a2] (.int x :: st) S P ↔ rn G mm_Laid_bends 2 [some (.ref z2), some (.int x), a2] st S P := rn_s dq_Laid_bends_1 rfl rfl rfl
theorem dq_Laid_bends_2 : decode (km_c mm_Laid_bends) 2 = .ok (.iconst 1, 1) := by decide +kernel
theorem sq_Laid_bends_2 : rn G mm_Laid_bends 2 lv st S P ↔ rn G mm_Laid_bends 3 lv (.int (nI 1) :: st) S P := rn_s dq_Laid_bends_2 rfl rfl rfl
theorem dq_Laid_bends_3 : decode (km_c mm_Laid_bends) 3 = .ok (.istore_n 2, 1) := by decide +kernel
theorem sq_Laid_bends_3n : rn G mm_Laid_bends 3 [a0, none, a2] (.int x :: st) S P ↔ rn G mm_Laid_bends 4 [a0, none, some (.int x)] st S P := rn_s dq_Laid_bends_3 rfl rfl rfl
theorem sq_Laid_bends_3i : rn G mm_Laid_bends 3 [a0, some (.int x2), a2] (.int x :: st) S P ↔ rn G mm_Laid_bends 4 [a0, some (.int x2), some (.int x)] st S P := rn_s dq_Laid_bends_3 rfl rfl rfl
theorem sq_Laid_bends_3r : rn G mm_Laid_bends 3 [a0, some (.ref z2), a2] (.int x :: st) S P ↔ rn G mm_Laid_bends 4 [a0, some (.ref z2), some (.int x)] st S P := rn_s dq_Laid_bends_3 rfl rfl rfl
theorem dq_Laid_bends_4 : decode (km_c mm_Laid_bends) 4 = .ok (.iload_n 2, 1) := by decide +kernel
theorem sq_Laid_bends_4 : rn G mm_Laid_bends 4 [a0, a1, some (.int x)] st S P ↔ rn G mm_Laid_bends 5 [a0, a1, some (.int x)] (.int x :: st) S P := rn_s dq_Laid_bends_4 rfl rfl rfl
theorem dq_Laid_bends_5 : decode (km_c mm_Laid_bends) 5 = .ok (.iconst 1, 1) := by decide +kernel
theorem sq_Laid_bends_5 : rn G mm_Laid_bends 5 lv st S P ↔ rn G mm_Laid_bends 6 lv (.int (nI 1) :: st) S P := rn_s dq_Laid_bends_5 rfl rfl rfl
theorem dq_Laid_bends_6 : decode (km_c mm_Laid_bends) 6 = .ok (.iadd, 1) := by decide +kernel
theorem sq_Laid_bends_6 : rn G mm_Laid_bends 6 lv (.int x2 :: .int x :: st) S P ↔ rn G mm_Laid_bends 7 lv (.int (x + x2) :: st) S P := rn_s dq_Laid_bends_6 rfl rfl rfl
theorem dq_Laid_bends_7 : decode (km_c mm_Laid_bends) 7 = .ok (.aload_n 0, 1) := by decide +kernel
theorem sq_Laid_bends_7 : rn G mm_Laid_bends 7 [some (.ref z), a1, a2] st S P ↔ rn G mm_Laid_bends 8 [some (.ref z), a1, a2] (.ref z :: st) S P := rn_s dq_Laid_bends_7 rfl rfl rfl
theorem dq_Laid_bends_8 : decode (km_c mm_Laid_bends) 8 = .ok (.getfield 15, 3) := by decide +kernel
theorem sq_Laid_bends_8_12 (ho : sx_o o pl kp) : rn (lt_G o L) mm_Laid_bends 8 lv (.ref 12 :: st) (sx pl kp I A) P ↔ rn (lt_G o L) mm_Laid_bends 11 lv (.int (I 12 1) :: st) (sx pl kp I A) P := rx_get (h := "") (ci := 1) (k := 1) dq_Laid_bends_8 (by decide +kernel) ho (up_b (by decide)) rfl rfl (fl_i (by decide))
theorem sq_Laid_bends_8_147 (ho : sx_o o pl true) : rn (lt_G o L) mm_Laid_bends 8 lv (.ref 147 :: st) (sx pl true I A) P ↔ rn (lt_G o L) mm_Laid_bends 11 lv (.int (I 147 1) :: st) (sx pl true I A) P := rx_get (h := "") (ci := 1) (k := 1) dq_Laid_bends_8 (by decide +kernel) ho (up_k (by decide) (by decide)) rfl rfl (fl_i (by decide))
theorem dq_Laid_bends_11 : decode (km_c mm_Laid_bends) 11 = .ok (.if_icmp .ge 49, 3) := by decide +kernel
theorem sq_Laid_bends_11 : rn G mm_Laid_bends 11 lv (.int x2 :: .int x :: st) S P ↔ ((x2 ≤ x → rn G mm_Laid_bends 60 lv st S P) ∧ (¬ (x2 ≤ x) → rn G mm_Laid_bends 14 lv st S P)) := rn_b (off := 49) dq_Laid_bends_11 rfl rfl rfl rfl
theorem dq_Laid_bends_14 : decode (km_c mm_Laid_bends) 14 = .ok (.aload_n 0, 1) := by decide +kernel
theorem sq_Laid_bends_14 : rn G mm_Laid_bends 14 [some (.ref z), a1, a2] st S P ↔ rn G mm_Laid_bends 15 [some (.ref z), a1, a2] (.ref z :: st) S P := rn_s dq_Laid_bends_14 rfl rfl rfl
theorem dq_Laid_bends_15 : decode (km_c mm_Laid_bends) 15 = .ok (.getfield 9, 3) := by decide +kernel
theorem sq_Laid_bends_15_12 (ho : sx_o o pl kp) : rn (lt_G o L) mm_Laid_bends 15 lv (.ref 12 :: st) (sx pl kp I A) P ↔ rn (lt_G o L) mm_Laid_bends 18 lv (.ref 13 :: st) (sx pl kp I A) P := rx_get (h := "") (ci := 1) (k := 0) dq_Laid_bends_15 (by decide +kernel) ho (up_b (by decide)) rfl rfl (fl_r (by decide) (by decide) (by decide) (by decide))
theorem sq_Laid_bends_15_147 (ho : sx_o o pl true) : rn (lt_G o L) mm_Laid_bends 15 lv (.ref 147 :: st) (sx pl true I A) P ↔ rn (lt_G o L) mm_Laid_bends 18 lv (.ref 148 :: st) (sx pl true I A) P := rx_get (h := "") (ci := 1) (k := 0) dq_Laid_bends_15 (by decide +kernel) ho (up_k (by decide) (by decide)) rfl rfl (fl_k (by decide) (by decide))
theorem dq_Laid_bends_18 : decode (km_c mm_Laid_bends) 18 = .ok (.iload_n 2, 1) := by decide +kernel
theorem sq_Laid_bends_18 : rn G mm_Laid_bends 18 [a0, a1, some (.int x)] st S P ↔ rn G mm_Laid_bends 19 [a0, a1, some (.int x)] (.int x :: st) S P := rn_s dq_Laid_bends_18 rfl rfl rfl
theorem dq_Laid_bends_19 : decode (km_c mm_Laid_bends) 19 = .ok (.iconst 1, 1) := by decide +kernel
theorem sq_Laid_bends_19 : rn G mm_Laid_bends 19 lv st S P ↔ rn G mm_Laid_bends 20 lv (.int (nI 1) :: st) S P := rn_s dq_Laid_bends_19 rfl rfl rfl
theorem dq_Laid_bends_20 : decode (km_c mm_Laid_bends) 20 = .ok (.isub, 1) := by decide +kernel
theorem sq_Laid_bends_20 : rn G mm_Laid_bends 20 lv (.int x2 :: .int x :: st) S P ↔ rn G mm_Laid_bends 21 lv (.int (x - x2) :: st) S P := rn_s dq_Laid_bends_20 rfl rfl rfl
theorem dq_Laid_bends_21 : decode (km_c mm_Laid_bends) 21 = .ok (.iaload, 1) := by decide +kernel
theorem sq_Laid_bends_21 (ho : sx_o o pl kp) (hk : ak L a = 0) (hu : sx_up pl kp a = true ∨ 1000 ≤ a) (hc : c < ln L a) (hn : ln L a < 2 ^ 31) : rn (lt_G o L) mm_Laid_bends 21 lv (.int (nI c) :: .ref a :: st) (sx pl kp I A) P ↔ rn (lt_G o L) mm_Laid_bends 22 lv (.int (A a c) :: st) (sx pl kp I A) P := rx_ild dq_Laid_bends_21 ho hk hu hc hn
theorem dq_Laid_bends_22 : decode (km_c mm_Laid_bends) 22 = .ok (.aload_n 0, 1) := by decide +kernel
theorem sq_Laid_bends_22 : rn G mm_Laid_bends 22 [some (.ref z), a1, a2] st S P ↔ rn G mm_Laid_bends 23 [some (.ref z), a1, a2] (.ref z :: st) S P := rn_s dq_Laid_bends_22 rfl rfl rfl
theorem dq_Laid_bends_23 : decode (km_c mm_Laid_bends) 23 = .ok (.getfield 9, 3) := by decide +kernel
theorem sq_Laid_bends_23_12 (ho : sx_o o pl kp) : rn (lt_G o L) mm_Laid_bends 23 lv (.ref 12 :: st) (sx pl kp I A) P ↔ rn (lt_G o L) mm_Laid_bends 26 lv (.ref 13 :: st) (sx pl kp I A) P := rx_get (h := "") (ci := 1) (k := 0) dq_Laid_bends_23 (by decide +kernel) ho (up_b (by decide)) rfl rfl (fl_r (by decide) (by decide) (by decide) (by decide))
theorem sq_Laid_bends_23_147 (ho : sx_o o pl true) : rn (lt_G o L) mm_Laid_bends 23 lv (.ref 147 :: st) (sx pl true I A) P ↔ rn (lt_G o L) mm_Laid_bends 26 lv (.ref 148 :: st) (sx pl true I A) P := rx_get (h := "") (ci := 1) (k := 0) dq_Laid_bends_23 (by decide +kernel) ho (up_k (by decide) (by decide)) rfl rfl (fl_k (by decide) (by decide))
theorem dq_Laid_bends_26 : decode (km_c mm_Laid_bends) 26 = .ok (.iload_n 2, 1) := by decide +kernel
theorem sq_Laid_bends_26 : rn G mm_Laid_bends 26 [a0, a1, some (.int x)] st S P ↔ rn G mm_Laid_bends 27 [a0, a1, some (.int x)] (.int x :: st) S P := rn_s dq_Laid_bends_26 rfl rfl rfl
theorem dq_Laid_bends_27 : decode (km_c mm_Laid_bends) 27 = .ok (.iaload, 1) := by decide +kernel
theorem sq_Laid_bends_27 (ho : sx_o o pl kp) (hk : ak L a = 0) (hu : sx_up pl kp a = true ∨ 1000 ≤ a) (hc : c < ln L a) (hn : ln L a < 2 ^ 31) : rn (lt_G o L) mm_Laid_bends 27 lv (.int (nI c) :: .ref a :: st) (sx pl kp I A) P ↔ rn (lt_G o L) mm_Laid_bends 28 lv (.int (A a c) :: st) (sx pl kp I A) P := rx_ild dq_Laid_bends_27 ho hk hu hc hn
theorem dq_Laid_bends_28 : decode (km_c mm_Laid_bends) 28 = .ok (.invokestatic 25, 3) := by decide +kernel
theorem sq_Laid_bends_28 {x1 : Int32} {x2 : Int32} {v : Option Value} {S2 : ks_S} (hc : ev G mm_Road_sideTo [.int x1, .int x2] S v S2) (hst : kx_cat st ≤ 8) : rn G mm_Laid_bends 28 lv (.int x2 :: .int x1 :: st) S P ↔ rn G mm_Laid_bends 31 lv (v.toList ++ st) S2 P := rn_cs (k := 1) (host := "DeltaRoad") (E' := mm_Road_sideTo) dq_Laid_bends_28 (by decide) (by decide) rfl (ok_v rfl (by decide) (by decide) (Nat.le_add_left _ _) hst (Nat.le_of_ble_eq_true rfl) (Or.inl rfl)) rfl rfl hc
theorem dq_Laid_bends_31 : decode (km_c mm_Laid_bends) 31 = .ok (.aload_n 0, 1) := by decide +kernel
theorem sq_Laid_bends_31 : rn G mm_Laid_bends 31 [some (.ref z), a1, a2] st S P ↔ rn G mm_Laid_bends 32 [some (.ref z), a1, a2] (.ref z :: st) S P := rn_s dq_Laid_bends_31 rfl rfl rfl
theorem dq_Laid_bends_32 : decode (km_c mm_Laid_bends) 32 = .ok (.getfield 9, 3) := by decide +kernel
theorem sq_Laid_bends_32_12 (ho : sx_o o pl kp) : rn (lt_G o L) mm_Laid_bends 32 lv (.ref 12 :: st) (sx pl kp I A) P ↔ rn (lt_G o L) mm_Laid_bends 35 lv (.ref 13 :: st) (sx pl kp I A) P := rx_get (h := "") (ci := 1) (k := 0) dq_Laid_bends_32 (by decide +kernel) ho (up_b (by decide)) rfl rfl (fl_r (by decide) (by decide) (by decide) (by decide))
theorem sq_Laid_bends_32_147 (ho : sx_o o pl true) : rn (lt_G o L) mm_Laid_bends 32 lv (.ref 147 :: st) (sx pl true I A) P ↔ rn (lt_G o L) mm_Laid_bends 35 lv (.ref 148 :: st) (sx pl true I A) P := rx_get (h := "") (ci := 1) (k := 0) dq_Laid_bends_32 (by decide +kernel) ho (up_k (by decide) (by decide)) rfl rfl (fl_k (by decide) (by decide))
theorem dq_Laid_bends_35 : decode (km_c mm_Laid_bends) 35 = .ok (.iload_n 2, 1) := by decide +kernel
theorem sq_Laid_bends_35 : rn G mm_Laid_bends 35 [a0, a1, some (.int x)] st S P ↔ rn G mm_Laid_bends 36 [a0, a1, some (.int x)] (.int x :: st) S P := rn_s dq_Laid_bends_35 rfl rfl rfl
theorem dq_Laid_bends_36 : decode (km_c mm_Laid_bends) 36 = .ok (.iaload, 1) := by decide +kernel
theorem sq_Laid_bends_36 (ho : sx_o o pl kp) (hk : ak L a = 0) (hu : sx_up pl kp a = true ∨ 1000 ≤ a) (hc : c < ln L a) (hn : ln L a < 2 ^ 31) : rn (lt_G o L) mm_Laid_bends 36 lv (.int (nI c) :: .ref a :: st) (sx pl kp I A) P ↔ rn (lt_G o L) mm_Laid_bends 37 lv (.int (A a c) :: st) (sx pl kp I A) P := rx_ild dq_Laid_bends_36 ho hk hu hc hn
theorem dq_Laid_bends_37 : decode (km_c mm_Laid_bends) 37 = .ok (.aload_n 0, 1) := by decide +kernel
theorem sq_Laid_bends_37 : rn G mm_Laid_bends 37 [some (.ref z), a1, a2] st S P ↔ rn G mm_Laid_bends 38 [some (.ref z), a1, a2] (.ref z :: st) S P := rn_s dq_Laid_bends_37 rfl rfl rfl
theorem dq_Laid_bends_38 : decode (km_c mm_Laid_bends) 38 = .ok (.getfield 9, 3) := by decide +kernel
theorem sq_Laid_bends_38_12 (ho : sx_o o pl kp) : rn (lt_G o L) mm_Laid_bends 38 lv (.ref 12 :: st) (sx pl kp I A) P ↔ rn (lt_G o L) mm_Laid_bends 41 lv (.ref 13 :: st) (sx pl kp I A) P := rx_get (h := "") (ci := 1) (k := 0) dq_Laid_bends_38 (by decide +kernel) ho (up_b (by decide)) rfl rfl (fl_r (by decide) (by decide) (by decide) (by decide))
theorem sq_Laid_bends_38_147 (ho : sx_o o pl true) : rn (lt_G o L) mm_Laid_bends 38 lv (.ref 147 :: st) (sx pl true I A) P ↔ rn (lt_G o L) mm_Laid_bends 41 lv (.ref 148 :: st) (sx pl true I A) P := rx_get (h := "") (ci := 1) (k := 0) dq_Laid_bends_38 (by decide +kernel) ho (up_k (by decide) (by decide)) rfl rfl (fl_k (by decide) (by decide))
theorem dq_Laid_bends_41 : decode (km_c mm_Laid_bends) 41 = .ok (.iload_n 2, 1) := by decide +kernel
theorem sq_Laid_bends_41 : rn G mm_Laid_bends 41 [a0, a1, some (.int x)] st S P ↔ rn G mm_Laid_bends 42 [a0, a1, some (.int x)] (.int x :: st) S P := rn_s dq_Laid_bends_41 rfl rfl rfl
theorem dq_Laid_bends_42 : decode (km_c mm_Laid_bends) 42 = .ok (.iconst 1, 1) := by decide +kernel
theorem sq_Laid_bends_42 : rn G mm_Laid_bends 42 lv st S P ↔ rn G mm_Laid_bends 43 lv (.int (nI 1) :: st) S P := rn_s dq_Laid_bends_42 rfl rfl rfl
theorem dq_Laid_bends_43 : decode (km_c mm_Laid_bends) 43 = .ok (.iadd, 1) := by decide +kernel
theorem sq_Laid_bends_43 : rn G mm_Laid_bends 43 lv (.int x2 :: .int x :: st) S P ↔ rn G mm_Laid_bends 44 lv (.int (x + x2) :: st) S P := rn_s dq_Laid_bends_43 rfl rfl rfl
theorem dq_Laid_bends_44 : decode (km_c mm_Laid_bends) 44 = .ok (.iaload, 1) := by decide +kernel
theorem sq_Laid_bends_44 (ho : sx_o o pl kp) (hk : ak L a = 0) (hu : sx_up pl kp a = true ∨ 1000 ≤ a) (hc : c < ln L a) (hn : ln L a < 2 ^ 31) : rn (lt_G o L) mm_Laid_bends 44 lv (.int (nI c) :: .ref a :: st) (sx pl kp I A) P ↔ rn (lt_G o L) mm_Laid_bends 45 lv (.int (A a c) :: st) (sx pl kp I A) P := rx_ild dq_Laid_bends_44 ho hk hu hc hn
theorem dq_Laid_bends_45 : decode (km_c mm_Laid_bends) 45 = .ok (.invokestatic 25, 3) := by decide +kernel
theorem sq_Laid_bends_45 {x1 : Int32} {x2 : Int32} {v : Option Value} {S2 : ks_S} (hc : ev G mm_Road_sideTo [.int x1, .int x2] S v S2) (hst : kx_cat st ≤ 8) : rn G mm_Laid_bends 45 lv (.int x2 :: .int x1 :: st) S P ↔ rn G mm_Laid_bends 48 lv (v.toList ++ st) S2 P := rn_cs (k := 1) (host := "DeltaRoad") (E' := mm_Road_sideTo) dq_Laid_bends_45 (by decide) (by decide) rfl (ok_v rfl (by decide) (by decide) (Nat.le_add_left _ _) hst (Nat.le_of_ble_eq_true rfl) (Or.inl rfl)) rfl rfl hc
theorem dq_Laid_bends_48 : decode (km_c mm_Laid_bends) 48 = .ok (.if_icmp .eq 6, 3) := by decide +kernel
theorem sq_Laid_bends_48 : rn G mm_Laid_bends 48 lv (.int x2 :: .int x :: st) S P ↔ ((x = x2 → rn G mm_Laid_bends 54 lv st S P) ∧ (¬ (x = x2) → rn G mm_Laid_bends 51 lv st S P)) := rn_b (off := 6) dq_Laid_bends_48 rfl rfl rfl rfl
theorem dq_Laid_bends_51 : decode (km_c mm_Laid_bends) 51 = .ok (.iinc 1 1, 3) := by decide +kernel
theorem sq_Laid_bends_51n : rn G mm_Laid_bends 51 [none, some (.int x), a2] st S P ↔ rn G mm_Laid_bends 54 [none, some (.int (x + nI 1)), a2] st S P := rn_s dq_Laid_bends_51 rfl rfl rfl
theorem sq_Laid_bends_51i : rn G mm_Laid_bends 51 [some (.int x2), some (.int x), a2] st S P ↔ rn G mm_Laid_bends 54 [some (.int x2), some (.int (x + nI 1)), a2] st S P := rn_s dq_Laid_bends_51 rfl rfl rfl
theorem sq_Laid_bends_51r : rn G mm_Laid_bends 51 [some (.ref z2), some (.int x), a2] st S P ↔ rn G mm_Laid_bends 54 [some (.ref z2), some (.int (x + nI 1)), a2] st S P := rn_s dq_Laid_bends_51 rfl rfl rfl
theorem dq_Laid_bends_54 : decode (km_c mm_Laid_bends) 54 = .ok (.iinc 2 1, 3) := by decide +kernel
theorem sq_Laid_bends_54n : rn G mm_Laid_bends 54 [a0, none, some (.int x)] st S P ↔ rn G mm_Laid_bends 57 [a0, none, some (.int (x + nI 1))] st S P := rn_s dq_Laid_bends_54 rfl rfl rfl
theorem sq_Laid_bends_54i : rn G mm_Laid_bends 54 [a0, some (.int x2), some (.int x)] st S P ↔ rn G mm_Laid_bends 57 [a0, some (.int x2), some (.int (x + nI 1))] st S P := rn_s dq_Laid_bends_54 rfl rfl rfl
theorem sq_Laid_bends_54r : rn G mm_Laid_bends 54 [a0, some (.ref z2), some (.int x)] st S P ↔ rn G mm_Laid_bends 57 [a0, some (.ref z2), some (.int (x + nI 1))] st S P := rn_s dq_Laid_bends_54 rfl rfl rfl
theorem dq_Laid_bends_57 : decode (km_c mm_Laid_bends) 57 = .ok (.goto (-53), 3) := by decide +kernel
theorem sq_Laid_bends_57 : rn G mm_Laid_bends 57 lv st S P ↔ rn G mm_Laid_bends 4 lv st S P := rn_s dq_Laid_bends_57 rfl rfl rfl
theorem dq_Laid_bends_60 : decode (km_c mm_Laid_bends) 60 = .ok (.iload_n 1, 1) := by decide +kernel
theorem sq_Laid_bends_60 : rn G mm_Laid_bends 60 [a0, some (.int x), a2] st S P ↔ rn G mm_Laid_bends 61 [a0, some (.int x), a2] (.int x :: st) S P := rn_s dq_Laid_bends_60 rfl rfl rfl
theorem dq_Laid_bends_61 : decode (km_c mm_Laid_bends) 61 = .ok (.ireturn, 1) := by decide +kernel
theorem sq_Laid_bends_61 : rn G mm_Laid_bends 61 lv [.int x] S P ↔ P (some (.int x)) S := rn_ir dq_Laid_bends_61 rfl
theorem dq_Laid_copy_0 : decode (km_c mm_Laid_copy) 0 = .ok (.aload_n 1, 1) := by decide +kernel
theorem sq_Laid_copy_0 : rn G mm_Laid_copy 0 [a0, some (.ref z)] st S P ↔ rn G mm_Laid_copy 1 [a0, some (.ref z)] (.ref z :: st) S P := rn_s dq_Laid_copy_0 rfl rfl rfl
theorem dq_Laid_copy_1 : decode (km_c mm_Laid_copy) 1 = .ok (.getfield 9, 3) := by decide +kernel
theorem sq_Laid_copy_1_12 (ho : sx_o o pl kp) : rn (lt_G o L) mm_Laid_copy 1 lv (.ref 12 :: st) (sx pl kp I A) P ↔ rn (lt_G o L) mm_Laid_copy 4 lv (.ref 13 :: st) (sx pl kp I A) P := rx_get (h := "") (ci := 1) (k := 0) dq_Laid_copy_1 (by decide +kernel) ho (up_b (by decide)) rfl rfl (fl_r (by decide) (by decide) (by decide) (by decide))
theorem sq_Laid_copy_1_147 (ho : sx_o o pl true) : rn (lt_G o L) mm_Laid_copy 1 lv (.ref 147 :: st) (sx pl true I A) P ↔ rn (lt_G o L) mm_Laid_copy 4 lv (.ref 148 :: st) (sx pl true I A) P := rx_get (h := "") (ci := 1) (k := 0) dq_Laid_copy_1 (by decide +kernel) ho (up_k (by decide) (by decide)) rfl rfl (fl_k (by decide) (by decide))
theorem dq_Laid_copy_4 : decode (km_c mm_Laid_copy) 4 = .ok (.iconst 0, 1) := by decide +kernel
theorem sq_Laid_copy_4 : rn G mm_Laid_copy 4 lv st S P ↔ rn G mm_Laid_copy 5 lv (.int (nI 0) :: st) S P := rn_s dq_Laid_copy_4 rfl rfl rfl
theorem dq_Laid_copy_5 : decode (km_c mm_Laid_copy) 5 = .ok (.aload_n 0, 1) := by decide +kernel
theorem sq_Laid_copy_5 : rn G mm_Laid_copy 5 [some (.ref z), a1] st S P ↔ rn G mm_Laid_copy 6 [some (.ref z), a1] (.ref z :: st) S P := rn_s dq_Laid_copy_5 rfl rfl rfl
theorem dq_Laid_copy_6 : decode (km_c mm_Laid_copy) 6 = .ok (.getfield 9, 3) := by decide +kernel
theorem sq_Laid_copy_6_12 (ho : sx_o o pl kp) : rn (lt_G o L) mm_Laid_copy 6 lv (.ref 12 :: st) (sx pl kp I A) P ↔ rn (lt_G o L) mm_Laid_copy 9 lv (.ref 13 :: st) (sx pl kp I A) P := rx_get (h := "") (ci := 1) (k := 0) dq_Laid_copy_6 (by decide +kernel) ho (up_b (by decide)) rfl rfl (fl_r (by decide) (by decide) (by decide) (by decide))
theorem sq_Laid_copy_6_147 (ho : sx_o o pl true) : rn (lt_G o L) mm_Laid_copy 6 lv (.ref 147 :: st) (sx pl true I A) P ↔ rn (lt_G o L) mm_Laid_copy 9 lv (.ref 148 :: st) (sx pl true I A) P := rx_get (h := "") (ci := 1) (k := 0) dq_Laid_copy_6 (by decide +kernel) ho (up_k (by decide) (by decide)) rfl rfl (fl_k (by decide) (by decide))
theorem dq_Laid_copy_9 : decode (km_c mm_Laid_copy) 9 = .ok (.iconst 0, 1) := by decide +kernel
theorem sq_Laid_copy_9 : rn G mm_Laid_copy 9 lv st S P ↔ rn G mm_Laid_copy 10 lv (.int (nI 0) :: st) S P := rn_s dq_Laid_copy_9 rfl rfl rfl
theorem dq_Laid_copy_10 : decode (km_c mm_Laid_copy) 10 = .ok (.bipush 60, 2) := by decide +kernel
theorem sq_Laid_copy_10 : rn G mm_Laid_copy 10 lv st S P ↔ rn G mm_Laid_copy 12 lv (.int (nI 60) :: st) S P := rn_s dq_Laid_copy_10 rfl rfl rfl
theorem dq_Laid_copy_12 : decode (km_c mm_Laid_copy) 12 = .ok (.invokestatic 19, 3) := by decide +kernel
theorem dq_Laid_copy_15 : decode (km_c mm_Laid_copy) 15 = .ok (.aload_n 0, 1) := by decide +kernel
theorem sq_Laid_copy_15 : rn G mm_Laid_copy 15 [some (.ref z), a1] st S P ↔ rn G mm_Laid_copy 16 [some (.ref z), a1] (.ref z :: st) S P := rn_s dq_Laid_copy_15 rfl rfl rfl
theorem dq_Laid_copy_16 : decode (km_c mm_Laid_copy) 16 = .ok (.aload_n 1, 1) := by decide +kernel
theorem sq_Laid_copy_16 : rn G mm_Laid_copy 16 [a0, some (.ref z)] st S P ↔ rn G mm_Laid_copy 17 [a0, some (.ref z)] (.ref z :: st) S P := rn_s dq_Laid_copy_16 rfl rfl rfl
theorem dq_Laid_copy_17 : decode (km_c mm_Laid_copy) 17 = .ok (.getfield 15, 3) := by decide +kernel
theorem sq_Laid_copy_17_12 (ho : sx_o o pl kp) : rn (lt_G o L) mm_Laid_copy 17 lv (.ref 12 :: st) (sx pl kp I A) P ↔ rn (lt_G o L) mm_Laid_copy 20 lv (.int (I 12 1) :: st) (sx pl kp I A) P := rx_get (h := "") (ci := 1) (k := 1) dq_Laid_copy_17 (by decide +kernel) ho (up_b (by decide)) rfl rfl (fl_i (by decide))
theorem sq_Laid_copy_17_147 (ho : sx_o o pl true) : rn (lt_G o L) mm_Laid_copy 17 lv (.ref 147 :: st) (sx pl true I A) P ↔ rn (lt_G o L) mm_Laid_copy 20 lv (.int (I 147 1) :: st) (sx pl true I A) P := rx_get (h := "") (ci := 1) (k := 1) dq_Laid_copy_17 (by decide +kernel) ho (up_k (by decide) (by decide)) rfl rfl (fl_i (by decide))
theorem dq_Laid_copy_20 : decode (km_c mm_Laid_copy) 20 = .ok (.putfield 15, 3) := by decide +kernel
theorem sq_Laid_copy_20_12 (ho : sx_o o pl kp) : rn (lt_G o L) mm_Laid_copy 20 lv (.int x :: .ref 12 :: st) (sx pl kp I A) P ↔ rn (lt_G o L) mm_Laid_copy 23 lv st (sx pl kp (u2 I 12 1 x) A) P := rx_put (h := "") (ci := 1) (k := 1) dq_Laid_copy_20 (by decide +kernel) ho (up_b (by decide)) rfl rfl (by decide) (by decide)
theorem sq_Laid_copy_20_147 (ho : sx_o o pl true) : rn (lt_G o L) mm_Laid_copy 20 lv (.int x :: .ref 147 :: st) (sx pl true I A) P ↔ rn (lt_G o L) mm_Laid_copy 23 lv st (sx pl true (u2 I 147 1 x) A) P := rx_put (h := "") (ci := 1) (k := 1) dq_Laid_copy_20 (by decide +kernel) ho (up_k (by decide) (by decide)) rfl rfl (by decide) (by decide)
theorem dq_Laid_copy_23 : decode (km_c mm_Laid_copy) 23 = .ok (.return_, 1) := by decide +kernel
theorem sq_Laid_copy_23 : rn G mm_Laid_copy 23 lv [] S P ↔ P none S := rn_vr dq_Laid_copy_23 rfl
theorem dq_Plan_init_0 : decode (km_c mm_Plan_init) 0 = .ok (.aload_n 0, 1) := by decide +kernel
theorem sq_Plan_init_0 : rn G mm_Plan_init 0 [some (.ref z)] st S P ↔ rn G mm_Plan_init 1 [some (.ref z)] (.ref z :: st) S P := rn_s dq_Plan_init_0 rfl rfl rfl
theorem dq_Plan_init_1 : decode (km_c mm_Plan_init) 1 = .ok (.invokespecial 3, 3) := by decide +kernel
theorem dq_Plan_init_4 : decode (km_c mm_Plan_init) 4 = .ok (.aload_n 0, 1) := by decide +kernel
theorem sq_Plan_init_4 : rn G mm_Plan_init 4 [some (.ref z)] st S P ↔ rn G mm_Plan_init 5 [some (.ref z)] (.ref z :: st) S P := rn_s dq_Plan_init_4 rfl rfl rfl
theorem dq_Plan_init_5 : decode (km_c mm_Plan_init) 5 = .ok (.bipush 49, 2) := by decide +kernel
theorem sq_Plan_init_5 : rn G mm_Plan_init 5 lv st S P ↔ rn G mm_Plan_init 7 lv (.int (nI 49) :: st) S P := rn_s dq_Plan_init_5 rfl rfl rfl
theorem dq_Plan_init_7 : decode (km_c mm_Plan_init) 7 = .ok (.newarray .int, 2) := by decide +kernel
theorem dq_Plan_init_9 : decode (km_c mm_Plan_init) 9 = .ok (.putfield 9, 3) := by decide +kernel
theorem dq_Plan_init_12 : decode (km_c mm_Plan_init) 12 = .ok (.aload_n 0, 1) := by decide +kernel
theorem sq_Plan_init_12 : rn G mm_Plan_init 12 [some (.ref z)] st S P ↔ rn G mm_Plan_init 13 [some (.ref z)] (.ref z :: st) S P := rn_s dq_Plan_init_12 rfl rfl rfl
theorem dq_Plan_init_13 : decode (km_c mm_Plan_init) 13 = .ok (.bipush 49, 2) := by decide +kernel
theorem sq_Plan_init_13 : rn G mm_Plan_init 13 lv st S P ↔ rn G mm_Plan_init 15 lv (.int (nI 49) :: st) S P := rn_s dq_Plan_init_13 rfl rfl rfl
theorem dq_Plan_init_15 : decode (km_c mm_Plan_init) 15 = .ok (.newarray .int, 2) := by decide +kernel
theorem dq_Plan_init_17 : decode (km_c mm_Plan_init) 17 = .ok (.putfield 15, 3) := by decide +kernel
theorem dq_Plan_init_20 : decode (km_c mm_Plan_init) 20 = .ok (.aload_n 0, 1) := by decide +kernel
theorem sq_Plan_init_20 : rn G mm_Plan_init 20 [some (.ref z)] st S P ↔ rn G mm_Plan_init 21 [some (.ref z)] (.ref z :: st) S P := rn_s dq_Plan_init_20 rfl rfl rfl
theorem dq_Plan_init_21 : decode (km_c mm_Plan_init) 21 = .ok (.bipush 64, 2) := by decide +kernel
theorem sq_Plan_init_21 : rn G mm_Plan_init 21 lv st S P ↔ rn G mm_Plan_init 23 lv (.int (nI 64) :: st) S P := rn_s dq_Plan_init_21 rfl rfl rfl
theorem dq_Plan_init_23 : decode (km_c mm_Plan_init) 23 = .ok (.bipush 49, 2) := by decide +kernel
theorem sq_Plan_init_23 : rn G mm_Plan_init 23 lv st S P ↔ rn G mm_Plan_init 25 lv (.int (nI 49) :: st) S P := rn_s dq_Plan_init_23 rfl rfl rfl
theorem dq_Plan_init_25 : decode (km_c mm_Plan_init) 25 = .ok (.multianewarray 18 2, 4) := by decide +kernel
theorem dq_Plan_init_29 : decode (km_c mm_Plan_init) 29 = .ok (.putfield 20, 3) := by decide +kernel
theorem dq_Plan_init_32 : decode (km_c mm_Plan_init) 32 = .ok (.aload_n 0, 1) := by decide +kernel
theorem sq_Plan_init_32 : rn G mm_Plan_init 32 [some (.ref z)] st S P ↔ rn G mm_Plan_init 33 [some (.ref z)] (.ref z :: st) S P := rn_s dq_Plan_init_32 rfl rfl rfl
theorem dq_Plan_init_33 : decode (km_c mm_Plan_init) 33 = .ok (.bipush 64, 2) := by decide +kernel
theorem sq_Plan_init_33 : rn G mm_Plan_init 33 lv st S P ↔ rn G mm_Plan_init 35 lv (.int (nI 64) :: st) S P := rn_s dq_Plan_init_33 rfl rfl rfl
theorem dq_Plan_init_35 : decode (km_c mm_Plan_init) 35 = .ok (.newarray .boolean, 2) := by decide +kernel
theorem dq_Plan_init_37 : decode (km_c mm_Plan_init) 37 = .ok (.putfield 23, 3) := by decide +kernel
theorem dq_Plan_init_40 : decode (km_c mm_Plan_init) 40 = .ok (.aload_n 0, 1) := by decide +kernel
theorem sq_Plan_init_40 : rn G mm_Plan_init 40 [some (.ref z)] st S P ↔ rn G mm_Plan_init 41 [some (.ref z)] (.ref z :: st) S P := rn_s dq_Plan_init_40 rfl rfl rfl
theorem dq_Plan_init_41 : decode (km_c mm_Plan_init) 41 = .ok (.bipush 49, 2) := by decide +kernel
theorem sq_Plan_init_41 : rn G mm_Plan_init 41 lv st S P ↔ rn G mm_Plan_init 43 lv (.int (nI 49) :: st) S P := rn_s dq_Plan_init_41 rfl rfl rfl
theorem dq_Plan_init_43 : decode (km_c mm_Plan_init) 43 = .ok (.newarray .int, 2) := by decide +kernel
theorem dq_Plan_init_45 : decode (km_c mm_Plan_init) 45 = .ok (.putfield 27, 3) := by decide +kernel
theorem dq_Plan_init_48 : decode (km_c mm_Plan_init) 48 = .ok (.aload_n 0, 1) := by decide +kernel
theorem sq_Plan_init_48 : rn G mm_Plan_init 48 [some (.ref z)] st S P ↔ rn G mm_Plan_init 49 [some (.ref z)] (.ref z :: st) S P := rn_s dq_Plan_init_48 rfl rfl rfl
theorem dq_Plan_init_49 : decode (km_c mm_Plan_init) 49 = .ok (.bipush 49, 2) := by decide +kernel
theorem sq_Plan_init_49 : rn G mm_Plan_init 49 lv st S P ↔ rn G mm_Plan_init 51 lv (.int (nI 49) :: st) S P := rn_s dq_Plan_init_49 rfl rfl rfl
theorem dq_Plan_init_51 : decode (km_c mm_Plan_init) 51 = .ok (.newarray .boolean, 2) := by decide +kernel
theorem dq_Plan_init_53 : decode (km_c mm_Plan_init) 53 = .ok (.putfield 30, 3) := by decide +kernel
theorem dq_Plan_init_56 : decode (km_c mm_Plan_init) 56 = .ok (.aload_n 0, 1) := by decide +kernel
theorem sq_Plan_init_56 : rn G mm_Plan_init 56 [some (.ref z)] st S P ↔ rn G mm_Plan_init 57 [some (.ref z)] (.ref z :: st) S P := rn_s dq_Plan_init_56 rfl rfl rfl
theorem dq_Plan_init_57 : decode (km_c mm_Plan_init) 57 = .ok (.iconst 0, 1) := by decide +kernel
theorem sq_Plan_init_57 : rn G mm_Plan_init 57 lv st S P ↔ rn G mm_Plan_init 58 lv (.int (nI 0) :: st) S P := rn_s dq_Plan_init_57 rfl rfl rfl
theorem dq_Plan_init_58 : decode (km_c mm_Plan_init) 58 = .ok (.putfield 33, 3) := by decide +kernel
theorem sq_Plan_init_58_65 (ho : sx_o o true kp) : rn (lt_G o L) mm_Plan_init 58 lv (.int x :: .ref 65 :: st) (sx true kp I A) P ↔ rn (lt_G o L) mm_Plan_init 61 lv st (sx true kp (u2 I 65 6 x) A) P := rx_put (h := "") (ci := 2) (k := 6) dq_Plan_init_58 (by decide +kernel) ho (up_p (by decide)) rfl rfl (by decide) (by decide)
theorem dq_Plan_init_61 : decode (km_c mm_Plan_init) 61 = .ok (.aload_n 0, 1) := by decide +kernel
theorem sq_Plan_init_61 : rn G mm_Plan_init 61 [some (.ref z)] st S P ↔ rn G mm_Plan_init 62 [some (.ref z)] (.ref z :: st) S P := rn_s dq_Plan_init_61 rfl rfl rfl
theorem dq_Plan_init_62 : decode (km_c mm_Plan_init) 62 = .ok (.iconst 0, 1) := by decide +kernel
theorem sq_Plan_init_62 : rn G mm_Plan_init 62 lv st S P ↔ rn G mm_Plan_init 63 lv (.int (nI 0) :: st) S P := rn_s dq_Plan_init_62 rfl rfl rfl
theorem dq_Plan_init_63 : decode (km_c mm_Plan_init) 63 = .ok (.putfield 37, 3) := by decide +kernel
theorem sq_Plan_init_63_65 (ho : sx_o o true kp) : rn (lt_G o L) mm_Plan_init 63 lv (.int x :: .ref 65 :: st) (sx true kp I A) P ↔ rn (lt_G o L) mm_Plan_init 66 lv st (sx true kp (u2 I 65 7 x) A) P := rx_put (h := "") (ci := 2) (k := 7) dq_Plan_init_63 (by decide +kernel) ho (up_p (by decide)) rfl rfl (by decide) (by decide)
theorem dq_Plan_init_66 : decode (km_c mm_Plan_init) 66 = .ok (.aload_n 0, 1) := by decide +kernel
theorem sq_Plan_init_66 : rn G mm_Plan_init 66 [some (.ref z)] st S P ↔ rn G mm_Plan_init 67 [some (.ref z)] (.ref z :: st) S P := rn_s dq_Plan_init_66 rfl rfl rfl
theorem dq_Plan_init_67 : decode (km_c mm_Plan_init) 67 = .ok (.iconst 0, 1) := by decide +kernel
theorem sq_Plan_init_67 : rn G mm_Plan_init 67 lv st S P ↔ rn G mm_Plan_init 68 lv (.int (nI 0) :: st) S P := rn_s dq_Plan_init_67 rfl rfl rfl
theorem dq_Plan_init_68 : decode (km_c mm_Plan_init) 68 = .ok (.putfield 40, 3) := by decide +kernel
theorem sq_Plan_init_68_65 (ho : sx_o o true kp) : rn (lt_G o L) mm_Plan_init 68 lv (.int x :: .ref 65 :: st) (sx true kp I A) P ↔ rn (lt_G o L) mm_Plan_init 71 lv st (sx true kp (u2 I 65 8 x) A) P := rx_put (h := "") (ci := 2) (k := 8) dq_Plan_init_68 (by decide +kernel) ho (up_p (by decide)) rfl rfl (by decide) (by decide)
theorem dq_Plan_init_71 : decode (km_c mm_Plan_init) 71 = .ok (.aload_n 0, 1) := by decide +kernel
theorem sq_Plan_init_71 : rn G mm_Plan_init 71 [some (.ref z)] st S P ↔ rn G mm_Plan_init 72 [some (.ref z)] (.ref z :: st) S P := rn_s dq_Plan_init_71 rfl rfl rfl
theorem dq_Plan_init_72 : decode (km_c mm_Plan_init) 72 = .ok (.iconst 0, 1) := by decide +kernel
theorem sq_Plan_init_72 : rn G mm_Plan_init 72 lv st S P ↔ rn G mm_Plan_init 73 lv (.int (nI 0) :: st) S P := rn_s dq_Plan_init_72 rfl rfl rfl
theorem dq_Plan_init_73 : decode (km_c mm_Plan_init) 73 = .ok (.putfield 43, 3) := by decide +kernel
theorem sq_Plan_init_73_65 (ho : sx_o o true kp) : rn (lt_G o L) mm_Plan_init 73 lv (.int x :: .ref 65 :: st) (sx true kp I A) P ↔ rn (lt_G o L) mm_Plan_init 76 lv st (sx true kp (u2 I 65 9 x) A) P := rx_put (h := "") (ci := 2) (k := 9) dq_Plan_init_73 (by decide +kernel) ho (up_p (by decide)) rfl rfl (by decide) (by decide)
theorem dq_Plan_init_76 : decode (km_c mm_Plan_init) 76 = .ok (.return_, 1) := by decide +kernel
theorem sq_Plan_init_76 : rn G mm_Plan_init 76 lv [] S P ↔ P none S := rn_vr dq_Plan_init_76 rfl
theorem dq_Plan_survey_0 : decode (km_c mm_Plan_survey) 0 = .ok (.aload_n 0, 1) := by decide +kernel
theorem sq_Plan_survey_0 : rn G mm_Plan_survey 0 [some (.ref z), a1, a2, a3] st S P ↔ rn G mm_Plan_survey 1 [some (.ref z), a1, a2, a3] (.ref z :: st) S P := rn_s dq_Plan_survey_0 rfl rfl rfl
theorem dq_Plan_survey_1 : decode (km_c mm_Plan_survey) 1 = .ok (.getfield 9, 3) := by decide +kernel
theorem sq_Plan_survey_1_65 (ho : sx_o o true kp) : rn (lt_G o L) mm_Plan_survey 1 lv (.ref 65 :: st) (sx true kp I A) P ↔ rn (lt_G o L) mm_Plan_survey 4 lv (.ref 66 :: st) (sx true kp I A) P := rx_get (h := "") (ci := 2) (k := 0) dq_Plan_survey_1 (by decide +kernel) ho (up_p (by decide)) rfl rfl (fl_p (by decide) (by decide) (by decide))
theorem dq_Plan_survey_4 : decode (km_c mm_Plan_survey) 4 = .ok (.iload_n 1, 1) := by decide +kernel
theorem sq_Plan_survey_4 : rn G mm_Plan_survey 4 [a0, some (.int x), a2, a3] st S P ↔ rn G mm_Plan_survey 5 [a0, some (.int x), a2, a3] (.int x :: st) S P := rn_s dq_Plan_survey_4 rfl rfl rfl
theorem dq_Plan_survey_5 : decode (km_c mm_Plan_survey) 5 = .ok (.iload_n 2, 1) := by decide +kernel
theorem sq_Plan_survey_5 : rn G mm_Plan_survey 5 [a0, a1, some (.int x), a3] st S P ↔ rn G mm_Plan_survey 6 [a0, a1, some (.int x), a3] (.int x :: st) S P := rn_s dq_Plan_survey_5 rfl rfl rfl
theorem dq_Plan_survey_6 : decode (km_c mm_Plan_survey) 6 = .ok (.sipush 4096, 3) := by decide +kernel
theorem sq_Plan_survey_6 : rn G mm_Plan_survey 6 lv st S P ↔ rn G mm_Plan_survey 9 lv (.int (nI 4096) :: st) S P := rn_s dq_Plan_survey_6 rfl rfl rfl
theorem dq_Plan_survey_9 : decode (km_c mm_Plan_survey) 9 = .ok (.imul, 1) := by decide +kernel
theorem sq_Plan_survey_9 : rn G mm_Plan_survey 9 lv (.int x2 :: .int x :: st) S P ↔ rn G mm_Plan_survey 10 lv (.int (x * x2) :: st) S P := rn_s dq_Plan_survey_9 rfl rfl rfl
theorem dq_Plan_survey_10 : decode (km_c mm_Plan_survey) 10 = .ok (.iconst 1, 1) := by decide +kernel
theorem sq_Plan_survey_10 : rn G mm_Plan_survey 10 lv st S P ↔ rn G mm_Plan_survey 11 lv (.int (nI 1) :: st) S P := rn_s dq_Plan_survey_10 rfl rfl rfl
theorem dq_Plan_survey_11 : decode (km_c mm_Plan_survey) 11 = .ok (.iadd, 1) := by decide +kernel
theorem sq_Plan_survey_11 : rn G mm_Plan_survey 11 lv (.int x2 :: .int x :: st) S P ↔ rn G mm_Plan_survey 12 lv (.int (x + x2) :: st) S P := rn_s dq_Plan_survey_11 rfl rfl rfl
theorem dq_Plan_survey_12 : decode (km_c mm_Plan_survey) 12 = .ok (.iastore, 1) := by decide +kernel
theorem sq_Plan_survey_12 (ho : sx_o o pl kp) (hk : ak L a = 0) (hu : sx_up pl kp a = true) (hc : c < ln L a) (hn : ln L a < 2 ^ 31) : rn (lt_G o L) mm_Plan_survey 12 lv (.int x :: .int (nI c) :: .ref a :: st) (sx pl kp I A) P ↔ rn (lt_G o L) mm_Plan_survey 13 lv st (sx pl kp I (u2 A a c x)) P := rx_ist dq_Plan_survey_12 ho hk hu hc hn
theorem dq_Plan_survey_13 : decode (km_c mm_Plan_survey) 13 = .ok (.aload_n 0, 1) := by decide +kernel
theorem sq_Plan_survey_13 : rn G mm_Plan_survey 13 [some (.ref z), a1, a2, a3] st S P ↔ rn G mm_Plan_survey 14 [some (.ref z), a1, a2, a3] (.ref z :: st) S P := rn_s dq_Plan_survey_13 rfl rfl rfl
theorem dq_Plan_survey_14 : decode (km_c mm_Plan_survey) 14 = .ok (.getfield 15, 3) := by decide +kernel
theorem sq_Plan_survey_14_65 (ho : sx_o o true kp) : rn (lt_G o L) mm_Plan_survey 14 lv (.ref 65 :: st) (sx true kp I A) P ↔ rn (lt_G o L) mm_Plan_survey 17 lv (.ref 67 :: st) (sx true kp I A) P := rx_get (h := "") (ci := 2) (k := 1) dq_Plan_survey_14 (by decide +kernel) ho (up_p (by decide)) rfl rfl (fl_p (by decide) (by decide) (by decide))
theorem dq_Plan_survey_17 : decode (km_c mm_Plan_survey) 17 = .ok (.iload_n 1, 1) := by decide +kernel
theorem sq_Plan_survey_17 : rn G mm_Plan_survey 17 [a0, some (.int x), a2, a3] st S P ↔ rn G mm_Plan_survey 18 [a0, some (.int x), a2, a3] (.int x :: st) S P := rn_s dq_Plan_survey_17 rfl rfl rfl
theorem dq_Plan_survey_18 : decode (km_c mm_Plan_survey) 18 = .ok (.iload_n 3, 1) := by decide +kernel
theorem sq_Plan_survey_18 : rn G mm_Plan_survey 18 [a0, a1, a2, some (.int x)] st S P ↔ rn G mm_Plan_survey 19 [a0, a1, a2, some (.int x)] (.int x :: st) S P := rn_s dq_Plan_survey_18 rfl rfl rfl
theorem dq_Plan_survey_19 : decode (km_c mm_Plan_survey) 19 = .ok (.iastore, 1) := by decide +kernel
theorem sq_Plan_survey_19 (ho : sx_o o pl kp) (hk : ak L a = 0) (hu : sx_up pl kp a = true) (hc : c < ln L a) (hn : ln L a < 2 ^ 31) : rn (lt_G o L) mm_Plan_survey 19 lv (.int x :: .int (nI c) :: .ref a :: st) (sx pl kp I A) P ↔ rn (lt_G o L) mm_Plan_survey 20 lv st (sx pl kp I (u2 A a c x)) P := rx_ist dq_Plan_survey_19 ho hk hu hc hn
theorem dq_Plan_survey_20 : decode (km_c mm_Plan_survey) 20 = .ok (.return_, 1) := by decide +kernel
theorem sq_Plan_survey_20 : rn G mm_Plan_survey 20 lv [] S P ↔ P none S := rn_vr dq_Plan_survey_20 rfl
theorem dq_Plan_begin_0 : decode (km_c mm_Plan_begin) 0 = .ok (.aload_n 0, 1) := by decide +kernel
theorem sq_Plan_begin_0 : rn G mm_Plan_begin 0 [some (.ref z), a1, a2, a3] st S P ↔ rn G mm_Plan_begin 1 [some (.ref z), a1, a2, a3] (.ref z :: st) S P := rn_s dq_Plan_begin_0 rfl rfl rfl
theorem dq_Plan_begin_1 : decode (km_c mm_Plan_begin) 1 = .ok (.iload_n 1, 1) := by decide +kernel
theorem sq_Plan_begin_1 : rn G mm_Plan_begin 1 [a0, some (.int x), a2, a3] st S P ↔ rn G mm_Plan_begin 2 [a0, some (.int x), a2, a3] (.int x :: st) S P := rn_s dq_Plan_begin_1 rfl rfl rfl
theorem dq_Plan_begin_2 : decode (km_c mm_Plan_begin) 2 = .ok (.putfield 40, 3) := by decide +kernel
theorem sq_Plan_begin_2_65 (ho : sx_o o true kp) : rn (lt_G o L) mm_Plan_begin 2 lv (.int x :: .ref 65 :: st) (sx true kp I A) P ↔ rn (lt_G o L) mm_Plan_begin 5 lv st (sx true kp (u2 I 65 8 x) A) P := rx_put (h := "") (ci := 2) (k := 8) dq_Plan_begin_2 (by decide +kernel) ho (up_p (by decide)) rfl rfl (by decide) (by decide)
theorem dq_Plan_begin_5 : decode (km_c mm_Plan_begin) 5 = .ok (.aload_n 0, 1) := by decide +kernel
theorem sq_Plan_begin_5 : rn G mm_Plan_begin 5 [some (.ref z), a1, a2, a3] st S P ↔ rn G mm_Plan_begin 6 [some (.ref z), a1, a2, a3] (.ref z :: st) S P := rn_s dq_Plan_begin_5 rfl rfl rfl
theorem dq_Plan_begin_6 : decode (km_c mm_Plan_begin) 6 = .ok (.iload_n 2, 1) := by decide +kernel
theorem sq_Plan_begin_6 : rn G mm_Plan_begin 6 [a0, a1, some (.int x), a3] st S P ↔ rn G mm_Plan_begin 7 [a0, a1, some (.int x), a3] (.int x :: st) S P := rn_s dq_Plan_begin_6 rfl rfl rfl
theorem dq_Plan_begin_7 : decode (km_c mm_Plan_begin) 7 = .ok (.putfield 43, 3) := by decide +kernel
theorem sq_Plan_begin_7_65 (ho : sx_o o true kp) : rn (lt_G o L) mm_Plan_begin 7 lv (.int x :: .ref 65 :: st) (sx true kp I A) P ↔ rn (lt_G o L) mm_Plan_begin 10 lv st (sx true kp (u2 I 65 9 x) A) P := rx_put (h := "") (ci := 2) (k := 9) dq_Plan_begin_7 (by decide +kernel) ho (up_p (by decide)) rfl rfl (by decide) (by decide)
theorem dq_Plan_begin_10 : decode (km_c mm_Plan_begin) 10 = .ok (.iconst 0, 1) := by decide +kernel
theorem sq_Plan_begin_10 : rn G mm_Plan_begin 10 lv st S P ↔ rn G mm_Plan_begin 11 lv (.int (nI 0) :: st) S P := rn_s dq_Plan_begin_10 rfl rfl rfl
theorem dq_Plan_begin_11 : decode (km_c mm_Plan_begin) 11 = .ok (.istore_n 3, 1) := by decide +kernel
theorem sq_Plan_begin_11n : rn G mm_Plan_begin 11 [a0, a1, none, a3] (.int x :: st) S P ↔ rn G mm_Plan_begin 12 [a0, a1, none, some (.int x)] st S P := rn_s dq_Plan_begin_11 rfl rfl rfl
theorem sq_Plan_begin_11i : rn G mm_Plan_begin 11 [a0, a1, some (.int x2), a3] (.int x :: st) S P ↔ rn G mm_Plan_begin 12 [a0, a1, some (.int x2), some (.int x)] st S P := rn_s dq_Plan_begin_11 rfl rfl rfl
theorem sq_Plan_begin_11r : rn G mm_Plan_begin 11 [a0, a1, some (.ref z2), a3] (.int x :: st) S P ↔ rn G mm_Plan_begin 12 [a0, a1, some (.ref z2), some (.int x)] st S P := rn_s dq_Plan_begin_11 rfl rfl rfl
theorem dq_Plan_begin_12 : decode (km_c mm_Plan_begin) 12 = .ok (.iload_n 3, 1) := by decide +kernel
theorem sq_Plan_begin_12 : rn G mm_Plan_begin 12 [a0, a1, a2, some (.int x)] st S P ↔ rn G mm_Plan_begin 13 [a0, a1, a2, some (.int x)] (.int x :: st) S P := rn_s dq_Plan_begin_12 rfl rfl rfl
theorem dq_Plan_begin_13 : decode (km_c mm_Plan_begin) 13 = .ok (.bipush 64, 2) := by decide +kernel
theorem sq_Plan_begin_13 : rn G mm_Plan_begin 13 lv st S P ↔ rn G mm_Plan_begin 15 lv (.int (nI 64) :: st) S P := rn_s dq_Plan_begin_13 rfl rfl rfl
theorem dq_Plan_begin_15 : decode (km_c mm_Plan_begin) 15 = .ok (.if_icmp .ge 16, 3) := by decide +kernel
theorem sq_Plan_begin_15 : rn G mm_Plan_begin 15 lv (.int x2 :: .int x :: st) S P ↔ ((x2 ≤ x → rn G mm_Plan_begin 31 lv st S P) ∧ (¬ (x2 ≤ x) → rn G mm_Plan_begin 18 lv st S P)) := rn_b (off := 16) dq_Plan_begin_15 rfl rfl rfl rfl
theorem dq_Plan_begin_18 : decode (km_c mm_Plan_begin) 18 = .ok (.aload_n 0, 1) := by decide +kernel
theorem sq_Plan_begin_18 : rn G mm_Plan_begin 18 [some (.ref z), a1, a2, a3] st S P ↔ rn G mm_Plan_begin 19 [some (.ref z), a1, a2, a3] (.ref z :: st) S P := rn_s dq_Plan_begin_18 rfl rfl rfl
theorem dq_Plan_begin_19 : decode (km_c mm_Plan_begin) 19 = .ok (.getfield 23, 3) := by decide +kernel
theorem sq_Plan_begin_19_65 (ho : sx_o o true kp) : rn (lt_G o L) mm_Plan_begin 19 lv (.ref 65 :: st) (sx true kp I A) P ↔ rn (lt_G o L) mm_Plan_begin 22 lv (.ref 133 :: st) (sx true kp I A) P := rx_get (h := "") (ci := 2) (k := 3) dq_Plan_begin_19 (by decide +kernel) ho (up_p (by decide)) rfl rfl (fl_p (by decide) (by decide) (by decide))
theorem dq_Plan_begin_22 : decode (km_c mm_Plan_begin) 22 = .ok (.iload_n 3, 1) := by decide +kernel
theorem sq_Plan_begin_22 : rn G mm_Plan_begin 22 [a0, a1, a2, some (.int x)] st S P ↔ rn G mm_Plan_begin 23 [a0, a1, a2, some (.int x)] (.int x :: st) S P := rn_s dq_Plan_begin_22 rfl rfl rfl
theorem dq_Plan_begin_23 : decode (km_c mm_Plan_begin) 23 = .ok (.iconst 0, 1) := by decide +kernel
theorem sq_Plan_begin_23 : rn G mm_Plan_begin 23 lv st S P ↔ rn G mm_Plan_begin 24 lv (.int (nI 0) :: st) S P := rn_s dq_Plan_begin_23 rfl rfl rfl
theorem dq_Plan_begin_24 : decode (km_c mm_Plan_begin) 24 = .ok (.bastore, 1) := by decide +kernel
theorem sq_Plan_begin_24 (ho : sx_o o pl kp) (hk : ak L a = 1 ∨ ak L a = 2) (hu : sx_up pl kp a = true) (hc : c < ln L a) (hn : ln L a < 2 ^ 31) : rn (lt_G o L) mm_Plan_begin 24 lv (.int x :: .int (nI c) :: .ref a :: st) (sx pl kp I A) P ↔ rn (lt_G o L) mm_Plan_begin 25 lv st (sx pl kp I (u2 A a c (vp_nar (kx_ty (ak L a)) x))) P := rx_bst dq_Plan_begin_24 ho hk hu hc hn
theorem dq_Plan_begin_25 : decode (km_c mm_Plan_begin) 25 = .ok (.iinc 3 1, 3) := by decide +kernel
theorem sq_Plan_begin_25n : rn G mm_Plan_begin 25 [a0, a1, none, some (.int x)] st S P ↔ rn G mm_Plan_begin 28 [a0, a1, none, some (.int (x + nI 1))] st S P := rn_s dq_Plan_begin_25 rfl rfl rfl
theorem sq_Plan_begin_25i : rn G mm_Plan_begin 25 [a0, a1, some (.int x2), some (.int x)] st S P ↔ rn G mm_Plan_begin 28 [a0, a1, some (.int x2), some (.int (x + nI 1))] st S P := rn_s dq_Plan_begin_25 rfl rfl rfl
theorem sq_Plan_begin_25r : rn G mm_Plan_begin 25 [a0, a1, some (.ref z2), some (.int x)] st S P ↔ rn G mm_Plan_begin 28 [a0, a1, some (.ref z2), some (.int (x + nI 1))] st S P := rn_s dq_Plan_begin_25 rfl rfl rfl
theorem dq_Plan_begin_28 : decode (km_c mm_Plan_begin) 28 = .ok (.goto (-16), 3) := by decide +kernel
theorem sq_Plan_begin_28 : rn G mm_Plan_begin 28 lv st S P ↔ rn G mm_Plan_begin 12 lv st S P := rn_s dq_Plan_begin_28 rfl rfl rfl
theorem dq_Plan_begin_31 : decode (km_c mm_Plan_begin) 31 = .ok (.return_, 1) := by decide +kernel
theorem sq_Plan_begin_31 : rn G mm_Plan_begin 31 lv [] S P ↔ P none S := rn_vr dq_Plan_begin_31 rfl
theorem dq_Plan_costFor_0 : decode (km_c mm_Plan_costFor) 0 = .ok (.aload_n 0, 1) := by decide +kernel
theorem sq_Plan_costFor_0 : rn G mm_Plan_costFor 0 [some (.ref z), a1] st S P ↔ rn G mm_Plan_costFor 1 [some (.ref z), a1] (.ref z :: st) S P := rn_s dq_Plan_costFor_0 rfl rfl rfl
theorem dq_Plan_costFor_1 : decode (km_c mm_Plan_costFor) 1 = .ok (.iload_n 1, 1) := by decide +kernel
theorem sq_Plan_costFor_1 : rn G mm_Plan_costFor 1 [a0, some (.int x)] st S P ↔ rn G mm_Plan_costFor 2 [a0, some (.int x)] (.int x :: st) S P := rn_s dq_Plan_costFor_1 rfl rfl rfl
theorem dq_Plan_costFor_2 : decode (km_c mm_Plan_costFor) 2 = .ok (.invokevirtual 46, 3) := by decide +kernel
theorem sq_Plan_costFor_2_65 {x1 : Int32} {v : Option Value} {S2 : ks_S} (hc : ev (lt_G o L) mm_Plan_settleParts [.ref 65, .int x1] (sx true kp I A) v S2) (ho : sx_o o true kp) (hst : kx_cat st ≤ 8) : rn (lt_G o L) mm_Plan_costFor 2 lv (.int x1 :: .ref 65 :: st) (sx true kp I A) P ↔ rn (lt_G o L) mm_Plan_costFor 5 lv (v.toList ++ st) S2 P := rn_cv (k := 0) (host := "") (E' := mm_Plan_settleParts) dq_Plan_costFor_2 rfl (ok_v rfl (by decide) (by decide) (Nat.le_add_left _ _) hst (Nat.le_of_ble_eq_true rfl) (Or.inr (rc_v ho (up_p (by decide)) rfl))) rfl rfl hc
theorem dq_Plan_costFor_5 : decode (km_c mm_Plan_costFor) 5 = .ok (.aload_n 0, 1) := by decide +kernel
theorem sq_Plan_costFor_5 : rn G mm_Plan_costFor 5 [some (.ref z), a1] st S P ↔ rn G mm_Plan_costFor 6 [some (.ref z), a1] (.ref z :: st) S P := rn_s dq_Plan_costFor_5 rfl rfl rfl
theorem dq_Plan_costFor_6 : decode (km_c mm_Plan_costFor) 6 = .ok (.getfield 20, 3) := by decide +kernel
theorem sq_Plan_costFor_6_65 (ho : sx_o o true kp) : rn (lt_G o L) mm_Plan_costFor 6 lv (.ref 65 :: st) (sx true kp I A) P ↔ rn (lt_G o L) mm_Plan_costFor 9 lv (.ref 68 :: st) (sx true kp I A) P := rx_get (h := "") (ci := 2) (k := 2) dq_Plan_costFor_6 (by decide +kernel) ho (up_p (by decide)) rfl rfl (fl_p (by decide) (by decide) (by decide))
theorem dq_Plan_costFor_9 : decode (km_c mm_Plan_costFor) 9 = .ok (.iload_n 1, 1) := by decide +kernel
theorem sq_Plan_costFor_9 : rn G mm_Plan_costFor 9 [a0, some (.int x)] st S P ↔ rn G mm_Plan_costFor 10 [a0, some (.int x)] (.int x :: st) S P := rn_s dq_Plan_costFor_9 rfl rfl rfl
theorem dq_Plan_costFor_10 : decode (km_c mm_Plan_costFor) 10 = .ok (.aaload, 1) := by decide +kernel
theorem sq_Plan_costFor_10 (ho : sx_o o pl kp) (hk : ak L a = 3) (hu : sx_up pl kp a = true) (hc : c < ln L a) (hn : ln L a < 2 ^ 31) : rn (lt_G o L) mm_Plan_costFor 10 lv (.int (nI c) :: .ref a :: st) (sx pl kp I A) P ↔ rn (lt_G o L) mm_Plan_costFor 11 lv (.ref (ab L a + c) :: st) (sx pl kp I A) P := rx_ald dq_Plan_costFor_10 ho hk hu hc hn
theorem dq_Plan_costFor_11 : decode (km_c mm_Plan_costFor) 11 = .ok (.aload_n 0, 1) := by decide +kernel
theorem sq_Plan_costFor_11 : rn G mm_Plan_costFor 11 [some (.ref z), a1] st S P ↔ rn G mm_Plan_costFor 12 [some (.ref z), a1] (.ref z :: st) S P := rn_s dq_Plan_costFor_11 rfl rfl rfl
theorem dq_Plan_costFor_12 : decode (km_c mm_Plan_costFor) 12 = .ok (.getfield 40, 3) := by decide +kernel
theorem sq_Plan_costFor_12_65 (ho : sx_o o true kp) : rn (lt_G o L) mm_Plan_costFor 12 lv (.ref 65 :: st) (sx true kp I A) P ↔ rn (lt_G o L) mm_Plan_costFor 15 lv (.int (I 65 8) :: st) (sx true kp I A) P := rx_get (h := "") (ci := 2) (k := 8) dq_Plan_costFor_12 (by decide +kernel) ho (up_p (by decide)) rfl rfl (fl_i (by decide))
theorem dq_Plan_costFor_15 : decode (km_c mm_Plan_costFor) 15 = .ok (.iaload, 1) := by decide +kernel
theorem sq_Plan_costFor_15 (ho : sx_o o pl kp) (hk : ak L a = 0) (hu : sx_up pl kp a = true ∨ 1000 ≤ a) (hc : c < ln L a) (hn : ln L a < 2 ^ 31) : rn (lt_G o L) mm_Plan_costFor 15 lv (.int (nI c) :: .ref a :: st) (sx pl kp I A) P ↔ rn (lt_G o L) mm_Plan_costFor 16 lv (.int (A a c) :: st) (sx pl kp I A) P := rx_ild dq_Plan_costFor_15 ho hk hu hc hn
theorem dq_Plan_costFor_16 : decode (km_c mm_Plan_costFor) 16 = .ok (.sipush 4096, 3) := by decide +kernel
theorem sq_Plan_costFor_16 : rn G mm_Plan_costFor 16 lv st S P ↔ rn G mm_Plan_costFor 19 lv (.int (nI 4096) :: st) S P := rn_s dq_Plan_costFor_16 rfl rfl rfl
theorem dq_Plan_costFor_19 : decode (km_c mm_Plan_costFor) 19 = .ok (.idiv, 1) := by decide +kernel
theorem sq_Plan_costFor_19 (hz : ¬ x2 = 0) : rn G mm_Plan_costFor 19 lv (.int x2 :: .int x :: st) S P ↔ rn G mm_Plan_costFor 20 lv (.int (x / x2) :: st) S P := rn_s dq_Plan_costFor_19 rfl rfl (if_neg hz)
theorem dq_Plan_costFor_20 : decode (km_c mm_Plan_costFor) 20 = .ok (.ireturn, 1) := by decide +kernel
theorem sq_Plan_costFor_20 : rn G mm_Plan_costFor 20 lv [.int x] S P ↔ P (some (.int x)) S := rn_ir dq_Plan_costFor_20 rfl
theorem dq_Plan_settleParts_0 : decode (km_c mm_Plan_settleParts) 0 = .ok (.iconst 0, 1) := by decide +kernel
theorem sq_Plan_settleParts_0 : rn G mm_Plan_settleParts 0 lv st S P ↔ rn G mm_Plan_settleParts 1 lv (.int (nI 0) :: st) S P := rn_s dq_Plan_settleParts_0 rfl rfl rfl
theorem dq_Plan_settleParts_1 : decode (km_c mm_Plan_settleParts) 1 = .ok (.istore_n 2, 1) := by decide +kernel
theorem sq_Plan_settleParts_1n : rn G mm_Plan_settleParts 1 [a0, none, a2] (.int x :: st) S P ↔ rn G mm_Plan_settleParts 2 [a0, none, some (.int x)] st S P := rn_s dq_Plan_settleParts_1 rfl rfl rfl
theorem sq_Plan_settleParts_1i : rn G mm_Plan_settleParts 1 [a0, some (.int x2), a2] (.int x :: st) S P ↔ rn G mm_Plan_settleParts 2 [a0, some (.int x2), some (.int x)] st S P := rn_s dq_Plan_settleParts_1 rfl rfl rfl
theorem sq_Plan_settleParts_1r : rn G mm_Plan_settleParts 1 [a0, some (.ref z2), a2] (.int x :: st) S P ↔ rn G mm_Plan_settleParts 2 [a0, some (.ref z2), some (.int x)] st S P := rn_s dq_Plan_settleParts_1 rfl rfl rfl
theorem dq_Plan_settleParts_2 : decode (km_c mm_Plan_settleParts) 2 = .ok (.iload_n 2, 1) := by decide +kernel
theorem sq_Plan_settleParts_2 : rn G mm_Plan_settleParts 2 [a0, a1, some (.int x)] st S P ↔ rn G mm_Plan_settleParts 3 [a0, a1, some (.int x)] (.int x :: st) S P := rn_s dq_Plan_settleParts_2 rfl rfl rfl
theorem dq_Plan_settleParts_3 : decode (km_c mm_Plan_settleParts) 3 = .ok (.iload_n 1, 1) := by decide +kernel
theorem sq_Plan_settleParts_3 : rn G mm_Plan_settleParts 3 [a0, some (.int x), a2] st S P ↔ rn G mm_Plan_settleParts 4 [a0, some (.int x), a2] (.int x :: st) S P := rn_s dq_Plan_settleParts_3 rfl rfl rfl
theorem dq_Plan_settleParts_4 : decode (km_c mm_Plan_settleParts) 4 = .ok (.if_icmp .gt 54, 3) := by decide +kernel
theorem sq_Plan_settleParts_4 : rn G mm_Plan_settleParts 4 lv (.int x2 :: .int x :: st) S P ↔ ((x2 < x → rn G mm_Plan_settleParts 58 lv st S P) ∧ (¬ (x2 < x) → rn G mm_Plan_settleParts 7 lv st S P)) := rn_b (off := 54) dq_Plan_settleParts_4 rfl rfl rfl rfl
theorem dq_Plan_settleParts_7 : decode (km_c mm_Plan_settleParts) 7 = .ok (.iload_n 2, 1) := by decide +kernel
theorem sq_Plan_settleParts_7 : rn G mm_Plan_settleParts 7 [a0, a1, some (.int x)] st S P ↔ rn G mm_Plan_settleParts 8 [a0, a1, some (.int x)] (.int x :: st) S P := rn_s dq_Plan_settleParts_7 rfl rfl rfl
theorem dq_Plan_settleParts_8 : decode (km_c mm_Plan_settleParts) 8 = .ok (.iload_n 1, 1) := by decide +kernel
theorem sq_Plan_settleParts_8 : rn G mm_Plan_settleParts 8 [a0, some (.int x), a2] st S P ↔ rn G mm_Plan_settleParts 9 [a0, some (.int x), a2] (.int x :: st) S P := rn_s dq_Plan_settleParts_8 rfl rfl rfl
theorem dq_Plan_settleParts_9 : decode (km_c mm_Plan_settleParts) 9 = .ok (.iconst (-1), 1) := by decide +kernel
theorem sq_Plan_settleParts_9 : rn G mm_Plan_settleParts 9 lv st S P ↔ rn G mm_Plan_settleParts 10 lv (.int ((-1)) :: st) S P := rn_s dq_Plan_settleParts_9 rfl rfl rfl
theorem dq_Plan_settleParts_10 : decode (km_c mm_Plan_settleParts) 10 = .ok (.ixor, 1) := by decide +kernel
theorem sq_Plan_settleParts_10 : rn G mm_Plan_settleParts 10 lv (.int x2 :: .int x :: st) S P ↔ rn G mm_Plan_settleParts 11 lv (.int (x ^^^ x2) :: st) S P := rn_s dq_Plan_settleParts_10 rfl rfl rfl
theorem dq_Plan_settleParts_11 : decode (km_c mm_Plan_settleParts) 11 = .ok (.iand, 1) := by decide +kernel
theorem sq_Plan_settleParts_11 : rn G mm_Plan_settleParts 11 lv (.int x2 :: .int x :: st) S P ↔ rn G mm_Plan_settleParts 12 lv (.int (x &&& x2) :: st) S P := rn_s dq_Plan_settleParts_11 rfl rfl rfl
theorem dq_Plan_settleParts_12 : decode (km_c mm_Plan_settleParts) 12 = .ok (.ifCond .ne 40, 3) := by decide +kernel
theorem sq_Plan_settleParts_12 : rn G mm_Plan_settleParts 12 lv (.int x :: st) S P ↔ ((¬ x = 0 → rn G mm_Plan_settleParts 52 lv st S P) ∧ (¬ (¬ x = 0) → rn G mm_Plan_settleParts 15 lv st S P)) := rn_b (off := 40) dq_Plan_settleParts_12 rfl rfl rfl rfl
theorem dq_Plan_settleParts_15 : decode (km_c mm_Plan_settleParts) 15 = .ok (.aload_n 0, 1) := by decide +kernel
theorem sq_Plan_settleParts_15 : rn G mm_Plan_settleParts 15 [some (.ref z), a1, a2] st S P ↔ rn G mm_Plan_settleParts 16 [some (.ref z), a1, a2] (.ref z :: st) S P := rn_s dq_Plan_settleParts_15 rfl rfl rfl
theorem dq_Plan_settleParts_16 : decode (km_c mm_Plan_settleParts) 16 = .ok (.getfield 23, 3) := by decide +kernel
theorem sq_Plan_settleParts_16_65 (ho : sx_o o true kp) : rn (lt_G o L) mm_Plan_settleParts 16 lv (.ref 65 :: st) (sx true kp I A) P ↔ rn (lt_G o L) mm_Plan_settleParts 19 lv (.ref 133 :: st) (sx true kp I A) P := rx_get (h := "") (ci := 2) (k := 3) dq_Plan_settleParts_16 (by decide +kernel) ho (up_p (by decide)) rfl rfl (fl_p (by decide) (by decide) (by decide))
theorem dq_Plan_settleParts_19 : decode (km_c mm_Plan_settleParts) 19 = .ok (.iload_n 2, 1) := by decide +kernel
theorem sq_Plan_settleParts_19 : rn G mm_Plan_settleParts 19 [a0, a1, some (.int x)] st S P ↔ rn G mm_Plan_settleParts 20 [a0, a1, some (.int x)] (.int x :: st) S P := rn_s dq_Plan_settleParts_19 rfl rfl rfl
theorem dq_Plan_settleParts_20 : decode (km_c mm_Plan_settleParts) 20 = .ok (.baload, 1) := by decide +kernel
theorem sq_Plan_settleParts_20 (ho : sx_o o pl kp) (hk : ak L a = 1 ∨ ak L a = 2) (hu : sx_up pl kp a = true) (hc : c < ln L a) (hn : ln L a < 2 ^ 31) : rn (lt_G o L) mm_Plan_settleParts 20 lv (.int (nI c) :: .ref a :: st) (sx pl kp I A) P ↔ rn (lt_G o L) mm_Plan_settleParts 21 lv (.int (A a c) :: st) (sx pl kp I A) P := rx_bld dq_Plan_settleParts_20 ho hk hu hc hn
theorem dq_Plan_settleParts_21 : decode (km_c mm_Plan_settleParts) 21 = .ok (.ifCond .ne 31, 3) := by decide +kernel
theorem sq_Plan_settleParts_21 : rn G mm_Plan_settleParts 21 lv (.int x :: st) S P ↔ ((¬ x = 0 → rn G mm_Plan_settleParts 52 lv st S P) ∧ (¬ (¬ x = 0) → rn G mm_Plan_settleParts 24 lv st S P)) := rn_b (off := 31) dq_Plan_settleParts_21 rfl rfl rfl rfl
theorem dq_Plan_settleParts_24 : decode (km_c mm_Plan_settleParts) 24 = .ok (.aload_n 0, 1) := by decide +kernel
theorem sq_Plan_settleParts_24 : rn G mm_Plan_settleParts 24 [some (.ref z), a1, a2] st S P ↔ rn G mm_Plan_settleParts 25 [some (.ref z), a1, a2] (.ref z :: st) S P := rn_s dq_Plan_settleParts_24 rfl rfl rfl
theorem dq_Plan_settleParts_25 : decode (km_c mm_Plan_settleParts) 25 = .ok (.aload_n 0, 1) := by decide +kernel
theorem sq_Plan_settleParts_25 : rn G mm_Plan_settleParts 25 [some (.ref z), a1, a2] st S P ↔ rn G mm_Plan_settleParts 26 [some (.ref z), a1, a2] (.ref z :: st) S P := rn_s dq_Plan_settleParts_25 rfl rfl rfl
theorem dq_Plan_settleParts_26 : decode (km_c mm_Plan_settleParts) 26 = .ok (.getfield 20, 3) := by decide +kernel
theorem sq_Plan_settleParts_26_65 (ho : sx_o o true kp) : rn (lt_G o L) mm_Plan_settleParts 26 lv (.ref 65 :: st) (sx true kp I A) P ↔ rn (lt_G o L) mm_Plan_settleParts 29 lv (.ref 68 :: st) (sx true kp I A) P := rx_get (h := "") (ci := 2) (k := 2) dq_Plan_settleParts_26 (by decide +kernel) ho (up_p (by decide)) rfl rfl (fl_p (by decide) (by decide) (by decide))
theorem dq_Plan_settleParts_29 : decode (km_c mm_Plan_settleParts) 29 = .ok (.iload_n 2, 1) := by decide +kernel
theorem sq_Plan_settleParts_29 : rn G mm_Plan_settleParts 29 [a0, a1, some (.int x)] st S P ↔ rn G mm_Plan_settleParts 30 [a0, a1, some (.int x)] (.int x :: st) S P := rn_s dq_Plan_settleParts_29 rfl rfl rfl
theorem dq_Plan_settleParts_30 : decode (km_c mm_Plan_settleParts) 30 = .ok (.aaload, 1) := by decide +kernel
theorem sq_Plan_settleParts_30 (ho : sx_o o pl kp) (hk : ak L a = 3) (hu : sx_up pl kp a = true) (hc : c < ln L a) (hn : ln L a < 2 ^ 31) : rn (lt_G o L) mm_Plan_settleParts 30 lv (.int (nI c) :: .ref a :: st) (sx pl kp I A) P ↔ rn (lt_G o L) mm_Plan_settleParts 31 lv (.ref (ab L a + c) :: st) (sx pl kp I A) P := rx_ald dq_Plan_settleParts_30 ho hk hu hc hn
theorem dq_Plan_settleParts_31 : decode (km_c mm_Plan_settleParts) 31 = .ok (.iload_n 2, 1) := by decide +kernel
theorem sq_Plan_settleParts_31 : rn G mm_Plan_settleParts 31 [a0, a1, some (.int x)] st S P ↔ rn G mm_Plan_settleParts 32 [a0, a1, some (.int x)] (.int x :: st) S P := rn_s dq_Plan_settleParts_31 rfl rfl rfl
theorem dq_Plan_settleParts_32 : decode (km_c mm_Plan_settleParts) 32 = .ok (.invokevirtual 78, 3) := by decide +kernel
theorem sq_Plan_settleParts_32_65 {z1 : Nat} {x2 : Int32} {v : Option Value} {S2 : ks_S} (hc : ev (lt_G o L) mm_Plan_enter [.ref 65, .ref z1, .int x2] (sx true kp I A) v S2) (ho : sx_o o true kp) (hst : kx_cat st ≤ 8) : rn (lt_G o L) mm_Plan_settleParts 32 lv (.int x2 :: .ref z1 :: .ref 65 :: st) (sx true kp I A) P ↔ rn (lt_G o L) mm_Plan_settleParts 35 lv (v.toList ++ st) S2 P := rn_cv (k := 0) (host := "") (E' := mm_Plan_enter) dq_Plan_settleParts_32 rfl (ok_v rfl (by decide) (by decide) (Nat.le_add_left _ _) hst (Nat.le_of_ble_eq_true rfl) (Or.inr (rc_v ho (up_p (by decide)) rfl))) rfl rfl hc
theorem dq_Plan_settleParts_35 : decode (km_c mm_Plan_settleParts) 35 = .ok (.aload_n 0, 1) := by decide +kernel
theorem sq_Plan_settleParts_35 : rn G mm_Plan_settleParts 35 [some (.ref z), a1, a2] st S P ↔ rn G mm_Plan_settleParts 36 [some (.ref z), a1, a2] (.ref z :: st) S P := rn_s dq_Plan_settleParts_35 rfl rfl rfl
theorem dq_Plan_settleParts_36 : decode (km_c mm_Plan_settleParts) 36 = .ok (.aload_n 0, 1) := by decide +kernel
theorem sq_Plan_settleParts_36 : rn G mm_Plan_settleParts 36 [some (.ref z), a1, a2] st S P ↔ rn G mm_Plan_settleParts 37 [some (.ref z), a1, a2] (.ref z :: st) S P := rn_s dq_Plan_settleParts_36 rfl rfl rfl
theorem dq_Plan_settleParts_37 : decode (km_c mm_Plan_settleParts) 37 = .ok (.getfield 20, 3) := by decide +kernel
theorem sq_Plan_settleParts_37_65 (ho : sx_o o true kp) : rn (lt_G o L) mm_Plan_settleParts 37 lv (.ref 65 :: st) (sx true kp I A) P ↔ rn (lt_G o L) mm_Plan_settleParts 40 lv (.ref 68 :: st) (sx true kp I A) P := rx_get (h := "") (ci := 2) (k := 2) dq_Plan_settleParts_37 (by decide +kernel) ho (up_p (by decide)) rfl rfl (fl_p (by decide) (by decide) (by decide))
theorem dq_Plan_settleParts_40 : decode (km_c mm_Plan_settleParts) 40 = .ok (.iload_n 2, 1) := by decide +kernel
theorem sq_Plan_settleParts_40 : rn G mm_Plan_settleParts 40 [a0, a1, some (.int x)] st S P ↔ rn G mm_Plan_settleParts 41 [a0, a1, some (.int x)] (.int x :: st) S P := rn_s dq_Plan_settleParts_40 rfl rfl rfl
theorem dq_Plan_settleParts_41 : decode (km_c mm_Plan_settleParts) 41 = .ok (.aaload, 1) := by decide +kernel
theorem sq_Plan_settleParts_41 (ho : sx_o o pl kp) (hk : ak L a = 3) (hu : sx_up pl kp a = true) (hc : c < ln L a) (hn : ln L a < 2 ^ 31) : rn (lt_G o L) mm_Plan_settleParts 41 lv (.int (nI c) :: .ref a :: st) (sx pl kp I A) P ↔ rn (lt_G o L) mm_Plan_settleParts 42 lv (.ref (ab L a + c) :: st) (sx pl kp I A) P := rx_ald dq_Plan_settleParts_41 ho hk hu hc hn
theorem dq_Plan_settleParts_42 : decode (km_c mm_Plan_settleParts) 42 = .ok (.invokevirtual 82, 3) := by decide +kernel
theorem sq_Plan_settleParts_42_65 {z1 : Nat} {v : Option Value} {S2 : ks_S} (hc : ev (lt_G o L) mm_Plan_spread [.ref 65, .ref z1] (sx true kp I A) v S2) (ho : sx_o o true kp) (hst : kx_cat st ≤ 8) : rn (lt_G o L) mm_Plan_settleParts 42 lv (.ref z1 :: .ref 65 :: st) (sx true kp I A) P ↔ rn (lt_G o L) mm_Plan_settleParts 45 lv (v.toList ++ st) S2 P := rn_cv (k := 0) (host := "") (E' := mm_Plan_spread) dq_Plan_settleParts_42 rfl (ok_v rfl (by decide) (by decide) (Nat.le_add_left _ _) hst (Nat.le_of_ble_eq_true rfl) (Or.inr (rc_v ho (up_p (by decide)) rfl))) rfl rfl hc
theorem dq_Plan_settleParts_45 : decode (km_c mm_Plan_settleParts) 45 = .ok (.aload_n 0, 1) := by decide +kernel
theorem sq_Plan_settleParts_45 : rn G mm_Plan_settleParts 45 [some (.ref z), a1, a2] st S P ↔ rn G mm_Plan_settleParts 46 [some (.ref z), a1, a2] (.ref z :: st) S P := rn_s dq_Plan_settleParts_45 rfl rfl rfl
theorem dq_Plan_settleParts_46 : decode (km_c mm_Plan_settleParts) 46 = .ok (.getfield 23, 3) := by decide +kernel
theorem sq_Plan_settleParts_46_65 (ho : sx_o o true kp) : rn (lt_G o L) mm_Plan_settleParts 46 lv (.ref 65 :: st) (sx true kp I A) P ↔ rn (lt_G o L) mm_Plan_settleParts 49 lv (.ref 133 :: st) (sx true kp I A) P := rx_get (h := "") (ci := 2) (k := 3) dq_Plan_settleParts_46 (by decide +kernel) ho (up_p (by decide)) rfl rfl (fl_p (by decide) (by decide) (by decide))
theorem dq_Plan_settleParts_49 : decode (km_c mm_Plan_settleParts) 49 = .ok (.iload_n 2, 1) := by decide +kernel
theorem sq_Plan_settleParts_49 : rn G mm_Plan_settleParts 49 [a0, a1, some (.int x)] st S P ↔ rn G mm_Plan_settleParts 50 [a0, a1, some (.int x)] (.int x :: st) S P := rn_s dq_Plan_settleParts_49 rfl rfl rfl
theorem dq_Plan_settleParts_50 : decode (km_c mm_Plan_settleParts) 50 = .ok (.iconst 1, 1) := by decide +kernel
theorem sq_Plan_settleParts_50 : rn G mm_Plan_settleParts 50 lv st S P ↔ rn G mm_Plan_settleParts 51 lv (.int (nI 1) :: st) S P := rn_s dq_Plan_settleParts_50 rfl rfl rfl
theorem dq_Plan_settleParts_51 : decode (km_c mm_Plan_settleParts) 51 = .ok (.bastore, 1) := by decide +kernel
theorem sq_Plan_settleParts_51 (ho : sx_o o pl kp) (hk : ak L a = 1 ∨ ak L a = 2) (hu : sx_up pl kp a = true) (hc : c < ln L a) (hn : ln L a < 2 ^ 31) : rn (lt_G o L) mm_Plan_settleParts 51 lv (.int x :: .int (nI c) :: .ref a :: st) (sx pl kp I A) P ↔ rn (lt_G o L) mm_Plan_settleParts 52 lv st (sx pl kp I (u2 A a c (vp_nar (kx_ty (ak L a)) x))) P := rx_bst dq_Plan_settleParts_51 ho hk hu hc hn
theorem dq_Plan_settleParts_52 : decode (km_c mm_Plan_settleParts) 52 = .ok (.iinc 2 1, 3) := by decide +kernel
theorem sq_Plan_settleParts_52n : rn G mm_Plan_settleParts 52 [a0, none, some (.int x)] st S P ↔ rn G mm_Plan_settleParts 55 [a0, none, some (.int (x + nI 1))] st S P := rn_s dq_Plan_settleParts_52 rfl rfl rfl
theorem sq_Plan_settleParts_52i : rn G mm_Plan_settleParts 52 [a0, some (.int x2), some (.int x)] st S P ↔ rn G mm_Plan_settleParts 55 [a0, some (.int x2), some (.int (x + nI 1))] st S P := rn_s dq_Plan_settleParts_52 rfl rfl rfl
theorem sq_Plan_settleParts_52r : rn G mm_Plan_settleParts 52 [a0, some (.ref z2), some (.int x)] st S P ↔ rn G mm_Plan_settleParts 55 [a0, some (.ref z2), some (.int (x + nI 1))] st S P := rn_s dq_Plan_settleParts_52 rfl rfl rfl
theorem dq_Plan_settleParts_55 : decode (km_c mm_Plan_settleParts) 55 = .ok (.goto (-53), 3) := by decide +kernel
theorem sq_Plan_settleParts_55 : rn G mm_Plan_settleParts 55 lv st S P ↔ rn G mm_Plan_settleParts 2 lv st S P := rn_s dq_Plan_settleParts_55 rfl rfl rfl
theorem dq_Plan_settleParts_58 : decode (km_c mm_Plan_settleParts) 58 = .ok (.return_, 1) := by decide +kernel
theorem sq_Plan_settleParts_58 : rn G mm_Plan_settleParts 58 lv [] S P ↔ P none S := rn_vr dq_Plan_settleParts_58 rfl
theorem dq_Plan_enter_0 : decode (km_c mm_Plan_enter) 0 = .ok (.iconst 0, 1) := by decide +kernel
theorem sq_Plan_enter_0 : rn G mm_Plan_enter 0 lv st S P ↔ rn G mm_Plan_enter 1 lv (.int (nI 0) :: st) S P := rn_s dq_Plan_enter_0 rfl rfl rfl
theorem dq_Plan_enter_1 : decode (km_c mm_Plan_enter) 1 = .ok (.istore_n 3, 1) := by decide +kernel
theorem sq_Plan_enter_1n : rn G mm_Plan_enter 1 [a0, a1, none, a3, a4] (.int x :: st) S P ↔ rn G mm_Plan_enter 2 [a0, a1, none, some (.int x), a4] st S P := rn_s dq_Plan_enter_1 rfl rfl rfl
theorem sq_Plan_enter_1i : rn G mm_Plan_enter 1 [a0, a1, some (.int x2), a3, a4] (.int x :: st) S P ↔ rn G mm_Plan_enter 2 [a0, a1, some (.int x2), some (.int x), a4] st S P := rn_s dq_Plan_enter_1 rfl rfl rfl
theorem sq_Plan_enter_1r : rn G mm_Plan_enter 1 [a0, a1, some (.ref z2), a3, a4] (.int x :: st) S P ↔ rn G mm_Plan_enter 2 [a0, a1, some (.ref z2), some (.int x), a4] st S P := rn_s dq_Plan_enter_1 rfl rfl rfl
theorem dq_Plan_enter_2 : decode (km_c mm_Plan_enter) 2 = .ok (.iload_n 3, 1) := by decide +kernel
theorem sq_Plan_enter_2 : rn G mm_Plan_enter 2 [a0, a1, a2, some (.int x), a4] st S P ↔ rn G mm_Plan_enter 3 [a0, a1, a2, some (.int x), a4] (.int x :: st) S P := rn_s dq_Plan_enter_2 rfl rfl rfl
theorem dq_Plan_enter_3 : decode (km_c mm_Plan_enter) 3 = .ok (.bipush 49, 2) := by decide +kernel
theorem sq_Plan_enter_3 : rn G mm_Plan_enter 3 lv st S P ↔ rn G mm_Plan_enter 5 lv (.int (nI 49) :: st) S P := rn_s dq_Plan_enter_3 rfl rfl rfl
theorem dq_Plan_enter_5 : decode (km_c mm_Plan_enter) 5 = .ok (.if_icmp .ge 81, 3) := by decide +kernel
theorem sq_Plan_enter_5 : rn G mm_Plan_enter 5 lv (.int x2 :: .int x :: st) S P ↔ ((x2 ≤ x → rn G mm_Plan_enter 86 lv st S P) ∧ (¬ (x2 ≤ x) → rn G mm_Plan_enter 8 lv st S P)) := rn_b (off := 81) dq_Plan_enter_5 rfl rfl rfl rfl
theorem dq_Plan_enter_8 : decode (km_c mm_Plan_enter) 8 = .ok (.iload_n 2, 1) := by decide +kernel
theorem sq_Plan_enter_8 : rn G mm_Plan_enter 8 [a0, a1, some (.int x), a3, a4] st S P ↔ rn G mm_Plan_enter 9 [a0, a1, some (.int x), a3, a4] (.int x :: st) S P := rn_s dq_Plan_enter_8 rfl rfl rfl
theorem dq_Plan_enter_9 : decode (km_c mm_Plan_enter) 9 = .ok (.aload_n 0, 1) := by decide +kernel
theorem sq_Plan_enter_9 : rn G mm_Plan_enter 9 [some (.ref z), a1, a2, a3, a4] st S P ↔ rn G mm_Plan_enter 10 [some (.ref z), a1, a2, a3, a4] (.ref z :: st) S P := rn_s dq_Plan_enter_9 rfl rfl rfl
theorem dq_Plan_enter_10 : decode (km_c mm_Plan_enter) 10 = .ok (.getfield 15, 3) := by decide +kernel
theorem sq_Plan_enter_10_65 (ho : sx_o o true kp) : rn (lt_G o L) mm_Plan_enter 10 lv (.ref 65 :: st) (sx true kp I A) P ↔ rn (lt_G o L) mm_Plan_enter 13 lv (.ref 67 :: st) (sx true kp I A) P := rx_get (h := "") (ci := 2) (k := 1) dq_Plan_enter_10 (by decide +kernel) ho (up_p (by decide)) rfl rfl (fl_p (by decide) (by decide) (by decide))
theorem dq_Plan_enter_13 : decode (km_c mm_Plan_enter) 13 = .ok (.iload_n 3, 1) := by decide +kernel
theorem sq_Plan_enter_13 : rn G mm_Plan_enter 13 [a0, a1, a2, some (.int x), a4] st S P ↔ rn G mm_Plan_enter 14 [a0, a1, a2, some (.int x), a4] (.int x :: st) S P := rn_s dq_Plan_enter_13 rfl rfl rfl
theorem dq_Plan_enter_14 : decode (km_c mm_Plan_enter) 14 = .ok (.iaload, 1) := by decide +kernel
theorem sq_Plan_enter_14 (ho : sx_o o pl kp) (hk : ak L a = 0) (hu : sx_up pl kp a = true ∨ 1000 ≤ a) (hc : c < ln L a) (hn : ln L a < 2 ^ 31) : rn (lt_G o L) mm_Plan_enter 14 lv (.int (nI c) :: .ref a :: st) (sx pl kp I A) P ↔ rn (lt_G o L) mm_Plan_enter 15 lv (.int (A a c) :: st) (sx pl kp I A) P := rx_ild dq_Plan_enter_14 ho hk hu hc hn
theorem dq_Plan_enter_15 : decode (km_c mm_Plan_enter) 15 = .ok (.iconst (-1), 1) := by decide +kernel
theorem sq_Plan_enter_15 : rn G mm_Plan_enter 15 lv st S P ↔ rn G mm_Plan_enter 16 lv (.int ((-1)) :: st) S P := rn_s dq_Plan_enter_15 rfl rfl rfl
theorem dq_Plan_enter_16 : decode (km_c mm_Plan_enter) 16 = .ok (.ixor, 1) := by decide +kernel
theorem sq_Plan_enter_16 : rn G mm_Plan_enter 16 lv (.int x2 :: .int x :: st) S P ↔ rn G mm_Plan_enter 17 lv (.int (x ^^^ x2) :: st) S P := rn_s dq_Plan_enter_16 rfl rfl rfl
theorem dq_Plan_enter_17 : decode (km_c mm_Plan_enter) 17 = .ok (.iand, 1) := by decide +kernel
theorem sq_Plan_enter_17 : rn G mm_Plan_enter 17 lv (.int x2 :: .int x :: st) S P ↔ rn G mm_Plan_enter 18 lv (.int (x &&& x2) :: st) S P := rn_s dq_Plan_enter_17 rfl rfl rfl
theorem dq_Plan_enter_18 : decode (km_c mm_Plan_enter) 18 = .ok (.istore 4, 2) := by decide +kernel
theorem sq_Plan_enter_18n : rn G mm_Plan_enter 18 [a0, a1, a2, none, a4] (.int x :: st) S P ↔ rn G mm_Plan_enter 20 [a0, a1, a2, none, some (.int x)] st S P := rn_s dq_Plan_enter_18 rfl rfl rfl
theorem sq_Plan_enter_18i : rn G mm_Plan_enter 18 [a0, a1, a2, some (.int x2), a4] (.int x :: st) S P ↔ rn G mm_Plan_enter 20 [a0, a1, a2, some (.int x2), some (.int x)] st S P := rn_s dq_Plan_enter_18 rfl rfl rfl
theorem sq_Plan_enter_18r : rn G mm_Plan_enter 18 [a0, a1, a2, some (.ref z2), a4] (.int x :: st) S P ↔ rn G mm_Plan_enter 20 [a0, a1, a2, some (.ref z2), some (.int x)] st S P := rn_s dq_Plan_enter_18 rfl rfl rfl
theorem dq_Plan_enter_20 : decode (km_c mm_Plan_enter) 20 = .ok (.iload 4, 2) := by decide +kernel
theorem sq_Plan_enter_20 : rn G mm_Plan_enter 20 [a0, a1, a2, a3, some (.int x)] st S P ↔ rn G mm_Plan_enter 22 [a0, a1, a2, a3, some (.int x)] (.int x :: st) S P := rn_s dq_Plan_enter_20 rfl rfl rfl
theorem dq_Plan_enter_22 : decode (km_c mm_Plan_enter) 22 = .ok (.ifCond .ne 23, 3) := by decide +kernel
theorem sq_Plan_enter_22 : rn G mm_Plan_enter 22 lv (.int x :: st) S P ↔ ((¬ x = 0 → rn G mm_Plan_enter 45 lv st S P) ∧ (¬ (¬ x = 0) → rn G mm_Plan_enter 25 lv st S P)) := rn_b (off := 23) dq_Plan_enter_22 rfl rfl rfl rfl
theorem dq_Plan_enter_25 : decode (km_c mm_Plan_enter) 25 = .ok (.iload_n 3, 1) := by decide +kernel
theorem sq_Plan_enter_25 : rn G mm_Plan_enter 25 [a0, a1, a2, some (.int x), a4] st S P ↔ rn G mm_Plan_enter 26 [a0, a1, a2, some (.int x), a4] (.int x :: st) S P := rn_s dq_Plan_enter_25 rfl rfl rfl
theorem dq_Plan_enter_26 : decode (km_c mm_Plan_enter) 26 = .ok (.aload_n 0, 1) := by decide +kernel
theorem sq_Plan_enter_26 : rn G mm_Plan_enter 26 [some (.ref z), a1, a2, a3, a4] st S P ↔ rn G mm_Plan_enter 27 [some (.ref z), a1, a2, a3, a4] (.ref z :: st) S P := rn_s dq_Plan_enter_26 rfl rfl rfl
theorem dq_Plan_enter_27 : decode (km_c mm_Plan_enter) 27 = .ok (.getfield 43, 3) := by decide +kernel
theorem sq_Plan_enter_27_65 (ho : sx_o o true kp) : rn (lt_G o L) mm_Plan_enter 27 lv (.ref 65 :: st) (sx true kp I A) P ↔ rn (lt_G o L) mm_Plan_enter 30 lv (.int (I 65 9) :: st) (sx true kp I A) P := rx_get (h := "") (ci := 2) (k := 9) dq_Plan_enter_27 (by decide +kernel) ho (up_p (by decide)) rfl rfl (fl_i (by decide))
theorem dq_Plan_enter_30 : decode (km_c mm_Plan_enter) 30 = .ok (.if_icmp .ne 15, 3) := by decide +kernel
theorem sq_Plan_enter_30 : rn G mm_Plan_enter 30 lv (.int x2 :: .int x :: st) S P ↔ ((¬ x = x2 → rn G mm_Plan_enter 45 lv st S P) ∧ (¬ (¬ x = x2) → rn G mm_Plan_enter 33 lv st S P)) := rn_b (off := 15) dq_Plan_enter_30 rfl rfl rfl rfl
theorem dq_Plan_enter_33 : decode (km_c mm_Plan_enter) 33 = .ok (.aload_n 1, 1) := by decide +kernel
theorem sq_Plan_enter_33 : rn G mm_Plan_enter 33 [a0, some (.ref z), a2, a3, a4] st S P ↔ rn G mm_Plan_enter 34 [a0, some (.ref z), a2, a3, a4] (.ref z :: st) S P := rn_s dq_Plan_enter_33 rfl rfl rfl
theorem dq_Plan_enter_34 : decode (km_c mm_Plan_enter) 34 = .ok (.iload_n 3, 1) := by decide +kernel
theorem sq_Plan_enter_34 : rn G mm_Plan_enter 34 [a0, a1, a2, some (.int x), a4] st S P ↔ rn G mm_Plan_enter 35 [a0, a1, a2, some (.int x), a4] (.int x :: st) S P := rn_s dq_Plan_enter_34 rfl rfl rfl
theorem dq_Plan_enter_35 : decode (km_c mm_Plan_enter) 35 = .ok (.aload_n 0, 1) := by decide +kernel
theorem sq_Plan_enter_35 : rn G mm_Plan_enter 35 [some (.ref z), a1, a2, a3, a4] st S P ↔ rn G mm_Plan_enter 36 [some (.ref z), a1, a2, a3, a4] (.ref z :: st) S P := rn_s dq_Plan_enter_35 rfl rfl rfl
theorem dq_Plan_enter_36 : decode (km_c mm_Plan_enter) 36 = .ok (.getfield 9, 3) := by decide +kernel
theorem sq_Plan_enter_36_65 (ho : sx_o o true kp) : rn (lt_G o L) mm_Plan_enter 36 lv (.ref 65 :: st) (sx true kp I A) P ↔ rn (lt_G o L) mm_Plan_enter 39 lv (.ref 66 :: st) (sx true kp I A) P := rx_get (h := "") (ci := 2) (k := 0) dq_Plan_enter_36 (by decide +kernel) ho (up_p (by decide)) rfl rfl (fl_p (by decide) (by decide) (by decide))
theorem dq_Plan_enter_39 : decode (km_c mm_Plan_enter) 39 = .ok (.iload_n 3, 1) := by decide +kernel
theorem sq_Plan_enter_39 : rn G mm_Plan_enter 39 [a0, a1, a2, some (.int x), a4] st S P ↔ rn G mm_Plan_enter 40 [a0, a1, a2, some (.int x), a4] (.int x :: st) S P := rn_s dq_Plan_enter_39 rfl rfl rfl
theorem dq_Plan_enter_40 : decode (km_c mm_Plan_enter) 40 = .ok (.iaload, 1) := by decide +kernel
theorem sq_Plan_enter_40 (ho : sx_o o pl kp) (hk : ak L a = 0) (hu : sx_up pl kp a = true ∨ 1000 ≤ a) (hc : c < ln L a) (hn : ln L a < 2 ^ 31) : rn (lt_G o L) mm_Plan_enter 40 lv (.int (nI c) :: .ref a :: st) (sx pl kp I A) P ↔ rn (lt_G o L) mm_Plan_enter 41 lv (.int (A a c) :: st) (sx pl kp I A) P := rx_ild dq_Plan_enter_40 ho hk hu hc hn
theorem dq_Plan_enter_41 : decode (km_c mm_Plan_enter) 41 = .ok (.iastore, 1) := by decide +kernel
theorem sq_Plan_enter_41 (ho : sx_o o pl kp) (hk : ak L a = 0) (hu : sx_up pl kp a = true) (hc : c < ln L a) (hn : ln L a < 2 ^ 31) : rn (lt_G o L) mm_Plan_enter 41 lv (.int x :: .int (nI c) :: .ref a :: st) (sx pl kp I A) P ↔ rn (lt_G o L) mm_Plan_enter 42 lv st (sx pl kp I (u2 A a c x)) P := rx_ist dq_Plan_enter_41 ho hk hu hc hn
theorem dq_Plan_enter_42 : decode (km_c mm_Plan_enter) 42 = .ok (.goto 38, 3) := by decide +kernel
theorem sq_Plan_enter_42 : rn G mm_Plan_enter 42 lv st S P ↔ rn G mm_Plan_enter 80 lv st S P := rn_s dq_Plan_enter_42 rfl rfl rfl
theorem dq_Plan_enter_45 : decode (km_c mm_Plan_enter) 45 = .ok (.iload 4, 2) := by decide +kernel
theorem sq_Plan_enter_45 : rn G mm_Plan_enter 45 [a0, a1, a2, a3, some (.int x)] st S P ↔ rn G mm_Plan_enter 47 [a0, a1, a2, a3, some (.int x)] (.int x :: st) S P := rn_s dq_Plan_enter_45 rfl rfl rfl
theorem dq_Plan_enter_47 : decode (km_c mm_Plan_enter) 47 = .ok (.iload_n 2, 1) := by decide +kernel
theorem sq_Plan_enter_47 : rn G mm_Plan_enter 47 [a0, a1, some (.int x), a3, a4] st S P ↔ rn G mm_Plan_enter 48 [a0, a1, some (.int x), a3, a4] (.int x :: st) S P := rn_s dq_Plan_enter_47 rfl rfl rfl
theorem dq_Plan_enter_48 : decode (km_c mm_Plan_enter) 48 = .ok (.if_icmp .eq 27, 3) := by decide +kernel
theorem sq_Plan_enter_48 : rn G mm_Plan_enter 48 lv (.int x2 :: .int x :: st) S P ↔ ((x = x2 → rn G mm_Plan_enter 75 lv st S P) ∧ (¬ (x = x2) → rn G mm_Plan_enter 51 lv st S P)) := rn_b (off := 27) dq_Plan_enter_48 rfl rfl rfl rfl
theorem dq_Plan_enter_51 : decode (km_c mm_Plan_enter) 51 = .ok (.aload_n 1, 1) := by decide +kernel
theorem sq_Plan_enter_51 : rn G mm_Plan_enter 51 [a0, some (.ref z), a2, a3, a4] st S P ↔ rn G mm_Plan_enter 52 [a0, some (.ref z), a2, a3, a4] (.ref z :: st) S P := rn_s dq_Plan_enter_51 rfl rfl rfl
theorem dq_Plan_enter_52 : decode (km_c mm_Plan_enter) 52 = .ok (.iload_n 3, 1) := by decide +kernel
theorem sq_Plan_enter_52 : rn G mm_Plan_enter 52 [a0, a1, a2, some (.int x), a4] st S P ↔ rn G mm_Plan_enter 53 [a0, a1, a2, some (.int x), a4] (.int x :: st) S P := rn_s dq_Plan_enter_52 rfl rfl rfl
theorem dq_Plan_enter_53 : decode (km_c mm_Plan_enter) 53 = .ok (.aload_n 0, 1) := by decide +kernel
theorem sq_Plan_enter_53 : rn G mm_Plan_enter 53 [some (.ref z), a1, a2, a3, a4] st S P ↔ rn G mm_Plan_enter 54 [some (.ref z), a1, a2, a3, a4] (.ref z :: st) S P := rn_s dq_Plan_enter_53 rfl rfl rfl
theorem dq_Plan_enter_54 : decode (km_c mm_Plan_enter) 54 = .ok (.getfield 20, 3) := by decide +kernel
theorem sq_Plan_enter_54_65 (ho : sx_o o true kp) : rn (lt_G o L) mm_Plan_enter 54 lv (.ref 65 :: st) (sx true kp I A) P ↔ rn (lt_G o L) mm_Plan_enter 57 lv (.ref 68 :: st) (sx true kp I A) P := rx_get (h := "") (ci := 2) (k := 2) dq_Plan_enter_54 (by decide +kernel) ho (up_p (by decide)) rfl rfl (fl_p (by decide) (by decide) (by decide))
theorem dq_Plan_enter_57 : decode (km_c mm_Plan_enter) 57 = .ok (.iload 4, 2) := by decide +kernel
theorem sq_Plan_enter_57 : rn G mm_Plan_enter 57 [a0, a1, a2, a3, some (.int x)] st S P ↔ rn G mm_Plan_enter 59 [a0, a1, a2, a3, some (.int x)] (.int x :: st) S P := rn_s dq_Plan_enter_57 rfl rfl rfl
theorem dq_Plan_enter_59 : decode (km_c mm_Plan_enter) 59 = .ok (.aaload, 1) := by decide +kernel
theorem sq_Plan_enter_59 (ho : sx_o o pl kp) (hk : ak L a = 3) (hu : sx_up pl kp a = true) (hc : c < ln L a) (hn : ln L a < 2 ^ 31) : rn (lt_G o L) mm_Plan_enter 59 lv (.int (nI c) :: .ref a :: st) (sx pl kp I A) P ↔ rn (lt_G o L) mm_Plan_enter 60 lv (.ref (ab L a + c) :: st) (sx pl kp I A) P := rx_ald dq_Plan_enter_59 ho hk hu hc hn
theorem dq_Plan_enter_60 : decode (km_c mm_Plan_enter) 60 = .ok (.iload_n 3, 1) := by decide +kernel
theorem sq_Plan_enter_60 : rn G mm_Plan_enter 60 [a0, a1, a2, some (.int x), a4] st S P ↔ rn G mm_Plan_enter 61 [a0, a1, a2, some (.int x), a4] (.int x :: st) S P := rn_s dq_Plan_enter_60 rfl rfl rfl
theorem dq_Plan_enter_61 : decode (km_c mm_Plan_enter) 61 = .ok (.invokestatic 86, 3) := by decide +kernel
theorem sq_Plan_enter_61 {z1 : Nat} {x2 : Int32} {v : Option Value} {S2 : ks_S} (hc : ev G mm_Plan_leastNext [.ref z1, .int x2] S v S2) (hst : kx_cat st ≤ 8) : rn G mm_Plan_enter 61 lv (.int x2 :: .ref z1 :: st) S P ↔ rn G mm_Plan_enter 64 lv (v.toList ++ st) S2 P := rn_cs (k := 1) (host := "") (E' := mm_Plan_leastNext) dq_Plan_enter_61 (by decide) (by decide) rfl (ok_v rfl (by decide) (by decide) (Nat.le_add_left _ _) hst (Nat.le_of_ble_eq_true rfl) (Or.inl rfl)) rfl rfl hc
theorem dq_Plan_enter_64 : decode (km_c mm_Plan_enter) 64 = .ok (.aload_n 0, 1) := by decide +kernel
theorem sq_Plan_enter_64 : rn G mm_Plan_enter 64 [some (.ref z), a1, a2, a3, a4] st S P ↔ rn G mm_Plan_enter 65 [some (.ref z), a1, a2, a3, a4] (.ref z :: st) S P := rn_s dq_Plan_enter_64 rfl rfl rfl
theorem dq_Plan_enter_65 : decode (km_c mm_Plan_enter) 65 = .ok (.getfield 9, 3) := by decide +kernel
theorem sq_Plan_enter_65_65 (ho : sx_o o true kp) : rn (lt_G o L) mm_Plan_enter 65 lv (.ref 65 :: st) (sx true kp I A) P ↔ rn (lt_G o L) mm_Plan_enter 68 lv (.ref 66 :: st) (sx true kp I A) P := rx_get (h := "") (ci := 2) (k := 0) dq_Plan_enter_65 (by decide +kernel) ho (up_p (by decide)) rfl rfl (fl_p (by decide) (by decide) (by decide))
theorem dq_Plan_enter_68 : decode (km_c mm_Plan_enter) 68 = .ok (.iload_n 3, 1) := by decide +kernel
theorem sq_Plan_enter_68 : rn G mm_Plan_enter 68 [a0, a1, a2, some (.int x), a4] st S P ↔ rn G mm_Plan_enter 69 [a0, a1, a2, some (.int x), a4] (.int x :: st) S P := rn_s dq_Plan_enter_68 rfl rfl rfl
theorem dq_Plan_enter_69 : decode (km_c mm_Plan_enter) 69 = .ok (.iaload, 1) := by decide +kernel
theorem sq_Plan_enter_69 (ho : sx_o o pl kp) (hk : ak L a = 0) (hu : sx_up pl kp a = true ∨ 1000 ≤ a) (hc : c < ln L a) (hn : ln L a < 2 ^ 31) : rn (lt_G o L) mm_Plan_enter 69 lv (.int (nI c) :: .ref a :: st) (sx pl kp I A) P ↔ rn (lt_G o L) mm_Plan_enter 70 lv (.int (A a c) :: st) (sx pl kp I A) P := rx_ild dq_Plan_enter_69 ho hk hu hc hn
theorem dq_Plan_enter_70 : decode (km_c mm_Plan_enter) 70 = .ok (.iadd, 1) := by decide +kernel
theorem sq_Plan_enter_70 : rn G mm_Plan_enter 70 lv (.int x2 :: .int x :: st) S P ↔ rn G mm_Plan_enter 71 lv (.int (x + x2) :: st) S P := rn_s dq_Plan_enter_70 rfl rfl rfl
theorem dq_Plan_enter_71 : decode (km_c mm_Plan_enter) 71 = .ok (.iastore, 1) := by decide +kernel
theorem sq_Plan_enter_71 (ho : sx_o o pl kp) (hk : ak L a = 0) (hu : sx_up pl kp a = true) (hc : c < ln L a) (hn : ln L a < 2 ^ 31) : rn (lt_G o L) mm_Plan_enter 71 lv (.int x :: .int (nI c) :: .ref a :: st) (sx pl kp I A) P ↔ rn (lt_G o L) mm_Plan_enter 72 lv st (sx pl kp I (u2 A a c x)) P := rx_ist dq_Plan_enter_71 ho hk hu hc hn
theorem dq_Plan_enter_72 : decode (km_c mm_Plan_enter) 72 = .ok (.goto 8, 3) := by decide +kernel
theorem sq_Plan_enter_72 : rn G mm_Plan_enter 72 lv st S P ↔ rn G mm_Plan_enter 80 lv st S P := rn_s dq_Plan_enter_72 rfl rfl rfl
theorem dq_Plan_enter_75 : decode (km_c mm_Plan_enter) 75 = .ok (.aload_n 1, 1) := by decide +kernel
theorem sq_Plan_enter_75 : rn G mm_Plan_enter 75 [a0, some (.ref z), a2, a3, a4] st S P ↔ rn G mm_Plan_enter 76 [a0, some (.ref z), a2, a3, a4] (.ref z :: st) S P := rn_s dq_Plan_enter_75 rfl rfl rfl
theorem dq_Plan_enter_76 : decode (km_c mm_Plan_enter) 76 = .ok (.iload_n 3, 1) := by decide +kernel
theorem sq_Plan_enter_76 : rn G mm_Plan_enter 76 [a0, a1, a2, some (.int x), a4] st S P ↔ rn G mm_Plan_enter 77 [a0, a1, a2, some (.int x), a4] (.int x :: st) S P := rn_s dq_Plan_enter_76 rfl rfl rfl
theorem dq_Plan_enter_77 : decode (km_c mm_Plan_enter) 77 = .ok (.ldc 90, 2) := by decide +kernel
theorem sq_Plan_enter_77 : rn G mm_Plan_enter 77 lv st S P ↔ rn G mm_Plan_enter 79 lv (.int (nI 1073741824) :: st) S P := rn_s dq_Plan_enter_77 rfl rfl rfl
theorem dq_Plan_enter_79 : decode (km_c mm_Plan_enter) 79 = .ok (.iastore, 1) := by decide +kernel
theorem sq_Plan_enter_79 (ho : sx_o o pl kp) (hk : ak L a = 0) (hu : sx_up pl kp a = true) (hc : c < ln L a) (hn : ln L a < 2 ^ 31) : rn (lt_G o L) mm_Plan_enter 79 lv (.int x :: .int (nI c) :: .ref a :: st) (sx pl kp I A) P ↔ rn (lt_G o L) mm_Plan_enter 80 lv st (sx pl kp I (u2 A a c x)) P := rx_ist dq_Plan_enter_79 ho hk hu hc hn
theorem dq_Plan_enter_80 : decode (km_c mm_Plan_enter) 80 = .ok (.iinc 3 1, 3) := by decide +kernel
theorem sq_Plan_enter_80n : rn G mm_Plan_enter 80 [a0, a1, none, some (.int x), a4] st S P ↔ rn G mm_Plan_enter 83 [a0, a1, none, some (.int (x + nI 1)), a4] st S P := rn_s dq_Plan_enter_80 rfl rfl rfl
theorem sq_Plan_enter_80i : rn G mm_Plan_enter 80 [a0, a1, some (.int x2), some (.int x), a4] st S P ↔ rn G mm_Plan_enter 83 [a0, a1, some (.int x2), some (.int (x + nI 1)), a4] st S P := rn_s dq_Plan_enter_80 rfl rfl rfl
theorem sq_Plan_enter_80r : rn G mm_Plan_enter 80 [a0, a1, some (.ref z2), some (.int x), a4] st S P ↔ rn G mm_Plan_enter 83 [a0, a1, some (.ref z2), some (.int (x + nI 1)), a4] st S P := rn_s dq_Plan_enter_80 rfl rfl rfl
theorem dq_Plan_enter_83 : decode (km_c mm_Plan_enter) 83 = .ok (.goto (-81), 3) := by decide +kernel
theorem sq_Plan_enter_83 : rn G mm_Plan_enter 83 lv st S P ↔ rn G mm_Plan_enter 2 lv st S P := rn_s dq_Plan_enter_83 rfl rfl rfl
theorem dq_Plan_enter_86 : decode (km_c mm_Plan_enter) 86 = .ok (.return_, 1) := by decide +kernel
theorem sq_Plan_enter_86 : rn G mm_Plan_enter 86 lv [] S P ↔ P none S := rn_vr dq_Plan_enter_86 rfl
theorem dq_Plan_leastNext_0 : decode (km_c mm_Plan_leastNext) 0 = .ok (.ldc 90, 2) := by decide +kernel
theorem sq_Plan_leastNext_0 : rn G mm_Plan_leastNext 0 lv st S P ↔ rn G mm_Plan_leastNext 2 lv (.int (nI 1073741824) :: st) S P := rn_s dq_Plan_leastNext_0 rfl rfl rfl
theorem dq_Plan_leastNext_2 : decode (km_c mm_Plan_leastNext) 2 = .ok (.istore_n 2, 1) := by decide +kernel
theorem sq_Plan_leastNext_2n : rn G mm_Plan_leastNext 2 [a0, none, a2, a3, a4] (.int x :: st) S P ↔ rn G mm_Plan_leastNext 3 [a0, none, some (.int x), a3, a4] st S P := rn_s dq_Plan_leastNext_2 rfl rfl rfl
theorem sq_Plan_leastNext_2i : rn G mm_Plan_leastNext 2 [a0, some (.int x2), a2, a3, a4] (.int x :: st) S P ↔ rn G mm_Plan_leastNext 3 [a0, some (.int x2), some (.int x), a3, a4] st S P := rn_s dq_Plan_leastNext_2 rfl rfl rfl
theorem sq_Plan_leastNext_2r : rn G mm_Plan_leastNext 2 [a0, some (.ref z2), a2, a3, a4] (.int x :: st) S P ↔ rn G mm_Plan_leastNext 3 [a0, some (.ref z2), some (.int x), a3, a4] st S P := rn_s dq_Plan_leastNext_2 rfl rfl rfl
theorem dq_Plan_leastNext_3 : decode (km_c mm_Plan_leastNext) 3 = .ok (.iconst 0, 1) := by decide +kernel
theorem sq_Plan_leastNext_3 : rn G mm_Plan_leastNext 3 lv st S P ↔ rn G mm_Plan_leastNext 4 lv (.int (nI 0) :: st) S P := rn_s dq_Plan_leastNext_3 rfl rfl rfl
theorem dq_Plan_leastNext_4 : decode (km_c mm_Plan_leastNext) 4 = .ok (.istore_n 3, 1) := by decide +kernel
theorem sq_Plan_leastNext_4n : rn G mm_Plan_leastNext 4 [a0, a1, none, a3, a4] (.int x :: st) S P ↔ rn G mm_Plan_leastNext 5 [a0, a1, none, some (.int x), a4] st S P := rn_s dq_Plan_leastNext_4 rfl rfl rfl
theorem sq_Plan_leastNext_4i : rn G mm_Plan_leastNext 4 [a0, a1, some (.int x2), a3, a4] (.int x :: st) S P ↔ rn G mm_Plan_leastNext 5 [a0, a1, some (.int x2), some (.int x), a4] st S P := rn_s dq_Plan_leastNext_4 rfl rfl rfl
theorem sq_Plan_leastNext_4r : rn G mm_Plan_leastNext 4 [a0, a1, some (.ref z2), a3, a4] (.int x :: st) S P ↔ rn G mm_Plan_leastNext 5 [a0, a1, some (.ref z2), some (.int x), a4] st S P := rn_s dq_Plan_leastNext_4 rfl rfl rfl
theorem dq_Plan_leastNext_5 : decode (km_c mm_Plan_leastNext) 5 = .ok (.iload_n 3, 1) := by decide +kernel
theorem sq_Plan_leastNext_5 : rn G mm_Plan_leastNext 5 [a0, a1, a2, some (.int x), a4] st S P ↔ rn G mm_Plan_leastNext 6 [a0, a1, a2, some (.int x), a4] (.int x :: st) S P := rn_s dq_Plan_leastNext_5 rfl rfl rfl
theorem dq_Plan_leastNext_6 : decode (km_c mm_Plan_leastNext) 6 = .ok (.iconst 4, 1) := by decide +kernel
theorem sq_Plan_leastNext_6 : rn G mm_Plan_leastNext 6 lv st S P ↔ rn G mm_Plan_leastNext 7 lv (.int (nI 4) :: st) S P := rn_s dq_Plan_leastNext_6 rfl rfl rfl
theorem dq_Plan_leastNext_7 : decode (km_c mm_Plan_leastNext) 7 = .ok (.if_icmp .ge 30, 3) := by decide +kernel
theorem sq_Plan_leastNext_7 : rn G mm_Plan_leastNext 7 lv (.int x2 :: .int x :: st) S P ↔ ((x2 ≤ x → rn G mm_Plan_leastNext 37 lv st S P) ∧ (¬ (x2 ≤ x) → rn G mm_Plan_leastNext 10 lv st S P)) := rn_b (off := 30) dq_Plan_leastNext_7 rfl rfl rfl rfl
theorem dq_Plan_leastNext_10 : decode (km_c mm_Plan_leastNext) 10 = .ok (.iload_n 1, 1) := by decide +kernel
theorem sq_Plan_leastNext_10 : rn G mm_Plan_leastNext 10 [a0, some (.int x), a2, a3, a4] st S P ↔ rn G mm_Plan_leastNext 11 [a0, some (.int x), a2, a3, a4] (.int x :: st) S P := rn_s dq_Plan_leastNext_10 rfl rfl rfl
theorem dq_Plan_leastNext_11 : decode (km_c mm_Plan_leastNext) 11 = .ok (.iload_n 3, 1) := by decide +kernel
theorem sq_Plan_leastNext_11 : rn G mm_Plan_leastNext 11 [a0, a1, a2, some (.int x), a4] st S P ↔ rn G mm_Plan_leastNext 12 [a0, a1, a2, some (.int x), a4] (.int x :: st) S P := rn_s dq_Plan_leastNext_11 rfl rfl rfl
theorem dq_Plan_leastNext_12 : decode (km_c mm_Plan_leastNext) 12 = .ok (.invokestatic 74, 3) := by decide +kernel
theorem sq_Plan_leastNext_12 {x1 : Int32} {x2 : Int32} {v : Option Value} {S2 : ks_S} (hc : ev G mm_Road_cellAt [.int x1, .int x2] S v S2) (hst : kx_cat st ≤ 8) : rn G mm_Plan_leastNext 12 lv (.int x2 :: .int x1 :: st) S P ↔ rn G mm_Plan_leastNext 15 lv (v.toList ++ st) S2 P := rn_cs (k := 1) (host := "DeltaRoad") (E' := mm_Road_cellAt) dq_Plan_leastNext_12 (by decide) (by decide) rfl (ok_v rfl (by decide) (by decide) (Nat.le_add_left _ _) hst (Nat.le_of_ble_eq_true rfl) (Or.inl rfl)) rfl rfl hc
theorem dq_Plan_leastNext_15 : decode (km_c mm_Plan_leastNext) 15 = .ok (.istore 4, 2) := by decide +kernel
theorem sq_Plan_leastNext_15n : rn G mm_Plan_leastNext 15 [a0, a1, a2, none, a4] (.int x :: st) S P ↔ rn G mm_Plan_leastNext 17 [a0, a1, a2, none, some (.int x)] st S P := rn_s dq_Plan_leastNext_15 rfl rfl rfl
theorem sq_Plan_leastNext_15i : rn G mm_Plan_leastNext 15 [a0, a1, a2, some (.int x2), a4] (.int x :: st) S P ↔ rn G mm_Plan_leastNext 17 [a0, a1, a2, some (.int x2), some (.int x)] st S P := rn_s dq_Plan_leastNext_15 rfl rfl rfl
theorem sq_Plan_leastNext_15r : rn G mm_Plan_leastNext 15 [a0, a1, a2, some (.ref z2), a4] (.int x :: st) S P ↔ rn G mm_Plan_leastNext 17 [a0, a1, a2, some (.ref z2), some (.int x)] st S P := rn_s dq_Plan_leastNext_15 rfl rfl rfl
theorem dq_Plan_leastNext_17 : decode (km_c mm_Plan_leastNext) 17 = .ok (.iload 4, 2) := by decide +kernel
theorem sq_Plan_leastNext_17 : rn G mm_Plan_leastNext 17 [a0, a1, a2, a3, some (.int x)] st S P ↔ rn G mm_Plan_leastNext 19 [a0, a1, a2, a3, some (.int x)] (.int x :: st) S P := rn_s dq_Plan_leastNext_17 rfl rfl rfl
theorem dq_Plan_leastNext_19 : decode (km_c mm_Plan_leastNext) 19 = .ok (.ifCond .lt 12, 3) := by decide +kernel
theorem sq_Plan_leastNext_19 : rn G mm_Plan_leastNext 19 lv (.int x :: st) S P ↔ ((x < 0 → rn G mm_Plan_leastNext 31 lv st S P) ∧ (¬ (x < 0) → rn G mm_Plan_leastNext 22 lv st S P)) := rn_b (off := 12) dq_Plan_leastNext_19 rfl rfl rfl rfl
theorem dq_Plan_leastNext_22 : decode (km_c mm_Plan_leastNext) 22 = .ok (.iload_n 2, 1) := by decide +kernel
theorem sq_Plan_leastNext_22 : rn G mm_Plan_leastNext 22 [a0, a1, some (.int x), a3, a4] st S P ↔ rn G mm_Plan_leastNext 23 [a0, a1, some (.int x), a3, a4] (.int x :: st) S P := rn_s dq_Plan_leastNext_22 rfl rfl rfl
theorem dq_Plan_leastNext_23 : decode (km_c mm_Plan_leastNext) 23 = .ok (.aload_n 0, 1) := by decide +kernel
theorem sq_Plan_leastNext_23 : rn G mm_Plan_leastNext 23 [some (.ref z), a1, a2, a3, a4] st S P ↔ rn G mm_Plan_leastNext 24 [some (.ref z), a1, a2, a3, a4] (.ref z :: st) S P := rn_s dq_Plan_leastNext_23 rfl rfl rfl
theorem dq_Plan_leastNext_24 : decode (km_c mm_Plan_leastNext) 24 = .ok (.iload 4, 2) := by decide +kernel
theorem sq_Plan_leastNext_24 : rn G mm_Plan_leastNext 24 [a0, a1, a2, a3, some (.int x)] st S P ↔ rn G mm_Plan_leastNext 26 [a0, a1, a2, a3, some (.int x)] (.int x :: st) S P := rn_s dq_Plan_leastNext_24 rfl rfl rfl
theorem dq_Plan_leastNext_26 : decode (km_c mm_Plan_leastNext) 26 = .ok (.iaload, 1) := by decide +kernel
theorem sq_Plan_leastNext_26 (ho : sx_o o pl kp) (hk : ak L a = 0) (hu : sx_up pl kp a = true ∨ 1000 ≤ a) (hc : c < ln L a) (hn : ln L a < 2 ^ 31) : rn (lt_G o L) mm_Plan_leastNext 26 lv (.int (nI c) :: .ref a :: st) (sx pl kp I A) P ↔ rn (lt_G o L) mm_Plan_leastNext 27 lv (.int (A a c) :: st) (sx pl kp I A) P := rx_ild dq_Plan_leastNext_26 ho hk hu hc hn
theorem dq_Plan_leastNext_27 : decode (km_c mm_Plan_leastNext) 27 = .ok (.invokestatic 98, 3) := by decide +kernel
theorem sq_Plan_leastNext_27 (hst : kx_cat st ≤ 8) : rn G mm_Plan_leastNext 27 lv (.int x2 :: .int x :: st) S P ↔ rn G mm_Plan_leastNext 30 lv (.int (if x2 < x then x2 else x) :: st) S P := rn_mm dq_Plan_leastNext_27 (by decide) (w := 1) (by decide) (if_pos ⟨by decide, Nat.le_trans (Nat.add_le_add_right hst 13) (by decide)⟩)
theorem dq_Plan_leastNext_30 : decode (km_c mm_Plan_leastNext) 30 = .ok (.istore_n 2, 1) := by decide +kernel
theorem sq_Plan_leastNext_30n : rn G mm_Plan_leastNext 30 [a0, none, a2, a3, a4] (.int x :: st) S P ↔ rn G mm_Plan_leastNext 31 [a0, none, some (.int x), a3, a4] st S P := rn_s dq_Plan_leastNext_30 rfl rfl rfl
theorem sq_Plan_leastNext_30i : rn G mm_Plan_leastNext 30 [a0, some (.int x2), a2, a3, a4] (.int x :: st) S P ↔ rn G mm_Plan_leastNext 31 [a0, some (.int x2), some (.int x), a3, a4] st S P := rn_s dq_Plan_leastNext_30 rfl rfl rfl
theorem sq_Plan_leastNext_30r : rn G mm_Plan_leastNext 30 [a0, some (.ref z2), a2, a3, a4] (.int x :: st) S P ↔ rn G mm_Plan_leastNext 31 [a0, some (.ref z2), some (.int x), a3, a4] st S P := rn_s dq_Plan_leastNext_30 rfl rfl rfl
theorem dq_Plan_leastNext_31 : decode (km_c mm_Plan_leastNext) 31 = .ok (.iinc 3 1, 3) := by decide +kernel
theorem sq_Plan_leastNext_31n : rn G mm_Plan_leastNext 31 [a0, a1, none, some (.int x), a4] st S P ↔ rn G mm_Plan_leastNext 34 [a0, a1, none, some (.int (x + nI 1)), a4] st S P := rn_s dq_Plan_leastNext_31 rfl rfl rfl
theorem sq_Plan_leastNext_31i : rn G mm_Plan_leastNext 31 [a0, a1, some (.int x2), some (.int x), a4] st S P ↔ rn G mm_Plan_leastNext 34 [a0, a1, some (.int x2), some (.int (x + nI 1)), a4] st S P := rn_s dq_Plan_leastNext_31 rfl rfl rfl
theorem sq_Plan_leastNext_31r : rn G mm_Plan_leastNext 31 [a0, a1, some (.ref z2), some (.int x), a4] st S P ↔ rn G mm_Plan_leastNext 34 [a0, a1, some (.ref z2), some (.int (x + nI 1)), a4] st S P := rn_s dq_Plan_leastNext_31 rfl rfl rfl
theorem dq_Plan_leastNext_34 : decode (km_c mm_Plan_leastNext) 34 = .ok (.goto (-29), 3) := by decide +kernel
theorem sq_Plan_leastNext_34 : rn G mm_Plan_leastNext 34 lv st S P ↔ rn G mm_Plan_leastNext 5 lv st S P := rn_s dq_Plan_leastNext_34 rfl rfl rfl
theorem dq_Plan_leastNext_37 : decode (km_c mm_Plan_leastNext) 37 = .ok (.iload_n 2, 1) := by decide +kernel
theorem sq_Plan_leastNext_37 : rn G mm_Plan_leastNext 37 [a0, a1, some (.int x), a3, a4] st S P ↔ rn G mm_Plan_leastNext 38 [a0, a1, some (.int x), a3, a4] (.int x :: st) S P := rn_s dq_Plan_leastNext_37 rfl rfl rfl
theorem dq_Plan_leastNext_38 : decode (km_c mm_Plan_leastNext) 38 = .ok (.ireturn, 1) := by decide +kernel
theorem sq_Plan_leastNext_38 : rn G mm_Plan_leastNext 38 lv [.int x] S P ↔ P (some (.int x)) S := rn_ir dq_Plan_leastNext_38 rfl
end SQ
