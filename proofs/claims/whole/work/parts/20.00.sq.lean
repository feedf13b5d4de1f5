section SQ
variable {o pl kp : Bool} {L : Nat} {I A : Nat → Nat → Int32} {G : kg_G} {S : ks_S} {lv : List (Option Value)} {st : List Value} {P : Option Value → ks_S → Prop} {x x2 : Int32} {y y2 : Int64} {z z2 c a : Nat} {a0 a1 a2 a3 a4 a5 a6 a7 a8 a9 a10 a11 a12 a13 a14 a15 a16 a17 a18 a19 a20 a21 a22 a23 : Option Value}
theorem dq_Ground_init_0 : decode (km_c mm_Ground_init) 0 = .ok (.aload_n 0, 1) := by decide +kernel
theorem sq_Ground_init_0 : rn G mm_Ground_init 0 [some (.ref z)] st S P ↔ rn G mm_Ground_init 1 [some (.ref z)] (.ref z :: st) S P := rn_s dq_Ground_init_0 rfl rfl rfl
theorem dq_Ground_init_1 : decode (km_c mm_Ground_init) 1 = .ok (.invokespecial 3, 3) := by decide +kernel
theorem dq_Ground_init_4 : decode (km_c mm_Ground_init) 4 = .ok (.aload_n 0, 1) := by decide +kernel
theorem sq_Ground_init_4 : rn G mm_Ground_init 4 [some (.ref z)] st S P ↔ rn G mm_Ground_init 5 [some (.ref z)] (.ref z :: st) S P := rn_s dq_Ground_init_4 rfl rfl rfl
theorem dq_Ground_init_5 : decode (km_c mm_Ground_init) 5 = .ok (.iconst 5, 1) := by decide +kernel
theorem sq_Ground_init_5 : rn G mm_Ground_init 5 lv st S P ↔ rn G mm_Ground_init 6 lv (.int (nI 5) :: st) S P := rn_s dq_Ground_init_5 rfl rfl rfl
theorem dq_Ground_init_6 : decode (km_c mm_Ground_init) 6 = .ok (.bipush 49, 2) := by decide +kernel
theorem sq_Ground_init_6 : rn G mm_Ground_init 6 lv st S P ↔ rn G mm_Ground_init 8 lv (.int (nI 49) :: st) S P := rn_s dq_Ground_init_6 rfl rfl rfl
theorem dq_Ground_init_8 : decode (km_c mm_Ground_init) 8 = .ok (.multianewarray 9 2, 4) := by decide +kernel
theorem dq_Ground_init_12 : decode (km_c mm_Ground_init) 12 = .ok (.putfield 11, 3) := by decide +kernel
theorem dq_Ground_init_15 : decode (km_c mm_Ground_init) 15 = .ok (.aload_n 0, 1) := by decide +kernel
theorem sq_Ground_init_15 : rn G mm_Ground_init 15 [some (.ref z)] st S P ↔ rn G mm_Ground_init 16 [some (.ref z)] (.ref z :: st) S P := rn_s dq_Ground_init_15 rfl rfl rfl
theorem dq_Ground_init_16 : decode (km_c mm_Ground_init) 16 = .ok (.iconst 0, 1) := by decide +kernel
theorem sq_Ground_init_16 : rn G mm_Ground_init 16 lv st S P ↔ rn G mm_Ground_init 17 lv (.int (nI 0) :: st) S P := rn_s dq_Ground_init_16 rfl rfl rfl
theorem dq_Ground_init_17 : decode (km_c mm_Ground_init) 17 = .ok (.putfield 16, 3) := by decide +kernel
theorem sq_Ground_init_17_2 (ho : sx_o o pl kp) : rn (lt_G o L) mm_Ground_init 17 lv (.int x :: .ref 2 :: st) (sx pl kp I A) P ↔ rn (lt_G o L) mm_Ground_init 20 lv st (sx pl kp (u2 I 2 1 x) A) P := rx_put (h := "") (ci := 0) (k := 1) dq_Ground_init_17 (by decide +kernel) ho (up_b (by decide)) rfl rfl (by decide) (by decide)
theorem sq_Ground_init_17_35 (ho : sx_o o pl kp) : rn (lt_G o L) mm_Ground_init 17 lv (.int x :: .ref 35 :: st) (sx pl kp I A) P ↔ rn (lt_G o L) mm_Ground_init 20 lv st (sx pl kp (u2 I 35 1 x) A) P := rx_put (h := "") (ci := 0) (k := 1) dq_Ground_init_17 (by decide +kernel) ho (up_b (by decide)) rfl rfl (by decide) (by decide)
theorem sq_Ground_init_17_137 (ho : sx_o o pl true) : rn (lt_G o L) mm_Ground_init 17 lv (.int x :: .ref 137 :: st) (sx pl true I A) P ↔ rn (lt_G o L) mm_Ground_init 20 lv st (sx pl true (u2 I 137 1 x) A) P := rx_put (h := "") (ci := 0) (k := 1) dq_Ground_init_17 (by decide +kernel) ho (up_k (by decide) (by decide)) rfl rfl (by decide) (by decide)
theorem dq_Ground_init_20 : decode (km_c mm_Ground_init) 20 = .ok (.aload_n 0, 1) := by decide +kernel
theorem sq_Ground_init_20 : rn G mm_Ground_init 20 [some (.ref z)] st S P ↔ rn G mm_Ground_init 21 [some (.ref z)] (.ref z :: st) S P := rn_s dq_Ground_init_20 rfl rfl rfl
theorem dq_Ground_init_21 : decode (km_c mm_Ground_init) 21 = .ok (.getfield 11, 3) := by decide +kernel
theorem sq_Ground_init_21_2 (ho : sx_o o pl kp) : rn (lt_G o L) mm_Ground_init 21 lv (.ref 2 :: st) (sx pl kp I A) P ↔ rn (lt_G o L) mm_Ground_init 24 lv (.ref 3 :: st) (sx pl kp I A) P := rx_get (h := "") (ci := 0) (k := 0) dq_Ground_init_21 (by decide +kernel) ho (up_b (by decide)) rfl rfl (fl_r (by decide) (by decide) (by decide) (by decide))
theorem sq_Ground_init_21_35 (ho : sx_o o pl kp) : rn (lt_G o L) mm_Ground_init 21 lv (.ref 35 :: st) (sx pl kp I A) P ↔ rn (lt_G o L) mm_Ground_init 24 lv (.ref 36 :: st) (sx pl kp I A) P := rx_get (h := "") (ci := 0) (k := 0) dq_Ground_init_21 (by decide +kernel) ho (up_b (by decide)) rfl rfl (fl_r (by decide) (by decide) (by decide) (by decide))
theorem sq_Ground_init_21_137 (ho : sx_o o pl true) : rn (lt_G o L) mm_Ground_init 21 lv (.ref 137 :: st) (sx pl true I A) P ↔ rn (lt_G o L) mm_Ground_init 24 lv (.ref 138 :: st) (sx pl true I A) P := rx_get (h := "") (ci := 0) (k := 0) dq_Ground_init_21 (by decide +kernel) ho (up_k (by decide) (by decide)) rfl rfl (fl_k (by decide) (by decide))
theorem dq_Ground_init_24 : decode (km_c mm_Ground_init) 24 = .ok (.iconst 0, 1) := by decide +kernel
theorem sq_Ground_init_24 : rn G mm_Ground_init 24 lv st S P ↔ rn G mm_Ground_init 25 lv (.int (nI 0) :: st) S P := rn_s dq_Ground_init_24 rfl rfl rfl
theorem dq_Ground_init_25 : decode (km_c mm_Ground_init) 25 = .ok (.aaload, 1) := by decide +kernel
theorem sq_Ground_init_25 (ho : sx_o o pl kp) (hk : ak L a = 3) (hu : sx_up pl kp a = true) (hc : c < ln L a) (hn : ln L a < 2 ^ 31) : rn (lt_G o L) mm_Ground_init 25 lv (.int (nI c) :: .ref a :: st) (sx pl kp I A) P ↔ rn (lt_G o L) mm_Ground_init 26 lv (.ref (ab L a + c) :: st) (sx pl kp I A) P := rx_ald dq_Ground_init_25 ho hk hu hc hn
theorem dq_Ground_init_26 : decode (km_c mm_Ground_init) 26 = .ok (.iconst 5, 1) := by decide +kernel
theorem sq_Ground_init_26 : rn G mm_Ground_init 26 lv st S P ↔ rn G mm_Ground_init 27 lv (.int (nI 5) :: st) S P := rn_s dq_Ground_init_26 rfl rfl rfl
theorem dq_Ground_init_27 : decode (km_c mm_Ground_init) 27 = .ok (.invokestatic 20, 3) := by decide +kernel
theorem sq_Ground_init_27 {z1 : Nat} {x2 : Int32} {v : Option Value} {S2 : ks_S} (hst : kx_cat st ≤ 8) (hc : ev G mm_Arrays_fill [.ref z1, .int x2] S v S2) : rn G mm_Ground_init 27 lv (.int x2 :: .ref z1 :: st) S P ↔ rn G mm_Ground_init 30 lv (v.toList ++ st) S2 P := rn_cs (k := 1) (host := "") (E' := mm_Arrays_fill) dq_Ground_init_27 (by decide) (by decide) rfl (ok_v rfl (by decide) (by decide) (Nat.le_add_left _ _) hst (Nat.le_of_ble_eq_true rfl) (Or.inl rfl)) rfl rfl hc
theorem dq_Ground_init_30 : decode (km_c mm_Ground_init) 30 = .ok (.return_, 1) := by decide +kernel
theorem sq_Ground_init_30 : rn G mm_Ground_init 30 lv [] S P ↔ P none S := rn_vr dq_Ground_init_30 rfl
theorem dq_Ground_top_0 : decode (km_c mm_Ground_top) 0 = .ok (.aload_n 0, 1) := by decide +kernel
theorem sq_Ground_top_0 : rn G mm_Ground_top 0 [some (.ref z), a1] st S P ↔ rn G mm_Ground_top 1 [some (.ref z), a1] (.ref z :: st) S P := rn_s dq_Ground_top_0 rfl rfl rfl
theorem dq_Ground_top_1 : decode (km_c mm_Ground_top) 1 = .ok (.getfield 11, 3) := by decide +kernel
theorem sq_Ground_top_1_2 (ho : sx_o o pl kp) : rn (lt_G o L) mm_Ground_top 1 lv (.ref 2 :: st) (sx pl kp I A) P ↔ rn (lt_G o L) mm_Ground_top 4 lv (.ref 3 :: st) (sx pl kp I A) P := rx_get (h := "") (ci := 0) (k := 0) dq_Ground_top_1 (by decide +kernel) ho (up_b (by decide)) rfl rfl (fl_r (by decide) (by decide) (by decide) (by decide))
theorem sq_Ground_top_1_35 (ho : sx_o o pl kp) : rn (lt_G o L) mm_Ground_top 1 lv (.ref 35 :: st) (sx pl kp I A) P ↔ rn (lt_G o L) mm_Ground_top 4 lv (.ref 36 :: st) (sx pl kp I A) P := rx_get (h := "") (ci := 0) (k := 0) dq_Ground_top_1 (by decide +kernel) ho (up_b (by decide)) rfl rfl (fl_r (by decide) (by decide) (by decide) (by decide))
theorem sq_Ground_top_1_137 (ho : sx_o o pl true) : rn (lt_G o L) mm_Ground_top 1 lv (.ref 137 :: st) (sx pl true I A) P ↔ rn (lt_G o L) mm_Ground_top 4 lv (.ref 138 :: st) (sx pl true I A) P := rx_get (h := "") (ci := 0) (k := 0) dq_Ground_top_1 (by decide +kernel) ho (up_k (by decide) (by decide)) rfl rfl (fl_k (by decide) (by decide))
theorem dq_Ground_top_4 : decode (km_c mm_Ground_top) 4 = .ok (.iconst 0, 1) := by decide +kernel
theorem sq_Ground_top_4 : rn G mm_Ground_top 4 lv st S P ↔ rn G mm_Ground_top 5 lv (.int (nI 0) :: st) S P := rn_s dq_Ground_top_4 rfl rfl rfl
theorem dq_Ground_top_5 : decode (km_c mm_Ground_top) 5 = .ok (.aaload, 1) := by decide +kernel
theorem sq_Ground_top_5 (ho : sx_o o pl kp) (hk : ak L a = 3) (hu : sx_up pl kp a = true) (hc : c < ln L a) (hn : ln L a < 2 ^ 31) : rn (lt_G o L) mm_Ground_top 5 lv (.int (nI c) :: .ref a :: st) (sx pl kp I A) P ↔ rn (lt_G o L) mm_Ground_top 6 lv (.ref (ab L a + c) :: st) (sx pl kp I A) P := rx_ald dq_Ground_top_5 ho hk hu hc hn
theorem dq_Ground_top_6 : decode (km_c mm_Ground_top) 6 = .ok (.iload_n 1, 1) := by decide +kernel
theorem sq_Ground_top_6 : rn G mm_Ground_top 6 [a0, some (.int x)] st S P ↔ rn G mm_Ground_top 7 [a0, some (.int x)] (.int x :: st) S P := rn_s dq_Ground_top_6 rfl rfl rfl
theorem dq_Ground_top_7 : decode (km_c mm_Ground_top) 7 = .ok (.iaload, 1) := by decide +kernel
theorem sq_Ground_top_7 (ho : sx_o o pl kp) (hk : ak L a = 0) (hu : sx_up pl kp a = true ∨ 1000 ≤ a) (hc : c < ln L a) (hn : ln L a < 2 ^ 31) : rn (lt_G o L) mm_Ground_top 7 lv (.int (nI c) :: .ref a :: st) (sx pl kp I A) P ↔ rn (lt_G o L) mm_Ground_top 8 lv (.int (A a c) :: st) (sx pl kp I A) P := rx_ild dq_Ground_top_7 ho hk hu hc hn
theorem dq_Ground_top_8 : decode (km_c mm_Ground_top) 8 = .ok (.aload_n 0, 1) := by decide +kernel
theorem sq_Ground_top_8 : rn G mm_Ground_top 8 [some (.ref z), a1] st S P ↔ rn G mm_Ground_top 9 [some (.ref z), a1] (.ref z :: st) S P := rn_s dq_Ground_top_8 rfl rfl rfl
theorem dq_Ground_top_9 : decode (km_c mm_Ground_top) 9 = .ok (.getfield 11, 3) := by decide +kernel
theorem sq_Ground_top_9_2 (ho : sx_o o pl kp) : rn (lt_G o L) mm_Ground_top 9 lv (.ref 2 :: st) (sx pl kp I A) P ↔ rn (lt_G o L) mm_Ground_top 12 lv (.ref 3 :: st) (sx pl kp I A) P := rx_get (h := "") (ci := 0) (k := 0) dq_Ground_top_9 (by decide +kernel) ho (up_b (by decide)) rfl rfl (fl_r (by decide) (by decide) (by decide) (by decide))
theorem sq_Ground_top_9_35 (ho : sx_o o pl kp) : rn (lt_G o L) mm_Ground_top 9 lv (.ref 35 :: st) (sx pl kp I A) P ↔ rn (lt_G o L) mm_Ground_top 12 lv (.ref 36 :: st) (sx pl kp I A) P := rx_get (h := "") (ci := 0) (k := 0) dq_Ground_top_9 (by decide +kernel) ho (up_b (by decide)) rfl rfl (fl_r (by decide) (by decide) (by decide) (by decide))
theorem sq_Ground_top_9_137 (ho : sx_o o pl true) : rn (lt_G o L) mm_Ground_top 9 lv (.ref 137 :: st) (sx pl true I A) P ↔ rn (lt_G o L) mm_Ground_top 12 lv (.ref 138 :: st) (sx pl true I A) P := rx_get (h := "") (ci := 0) (k := 0) dq_Ground_top_9 (by decide +kernel) ho (up_k (by decide) (by decide)) rfl rfl (fl_k (by decide) (by decide))
theorem dq_Ground_top_12 : decode (km_c mm_Ground_top) 12 = .ok (.iconst 1, 1) := by decide +kernel
theorem sq_Ground_top_12 : rn G mm_Ground_top 12 lv st S P ↔ rn G mm_Ground_top 13 lv (.int (nI 1) :: st) S P := rn_s dq_Ground_top_12 rfl rfl rfl
theorem dq_Ground_top_13 : decode (km_c mm_Ground_top) 13 = .ok (.aaload, 1) := by decide +kernel
theorem sq_Ground_top_13 (ho : sx_o o pl kp) (hk : ak L a = 3) (hu : sx_up pl kp a = true) (hc : c < ln L a) (hn : ln L a < 2 ^ 31) : rn (lt_G o L) mm_Ground_top 13 lv (.int (nI c) :: .ref a :: st) (sx pl kp I A) P ↔ rn (lt_G o L) mm_Ground_top 14 lv (.ref (ab L a + c) :: st) (sx pl kp I A) P := rx_ald dq_Ground_top_13 ho hk hu hc hn
theorem dq_Ground_top_14 : decode (km_c mm_Ground_top) 14 = .ok (.iload_n 1, 1) := by decide +kernel
theorem sq_Ground_top_14 : rn G mm_Ground_top 14 [a0, some (.int x)] st S P ↔ rn G mm_Ground_top 15 [a0, some (.int x)] (.int x :: st) S P := rn_s dq_Ground_top_14 rfl rfl rfl
theorem dq_Ground_top_15 : decode (km_c mm_Ground_top) 15 = .ok (.iaload, 1) := by decide +kernel
theorem sq_Ground_top_15 (ho : sx_o o pl kp) (hk : ak L a = 0) (hu : sx_up pl kp a = true ∨ 1000 ≤ a) (hc : c < ln L a) (hn : ln L a < 2 ^ 31) : rn (lt_G o L) mm_Ground_top 15 lv (.int (nI c) :: .ref a :: st) (sx pl kp I A) P ↔ rn (lt_G o L) mm_Ground_top 16 lv (.int (A a c) :: st) (sx pl kp I A) P := rx_ild dq_Ground_top_15 ho hk hu hc hn
theorem dq_Ground_top_16 : decode (km_c mm_Ground_top) 16 = .ok (.iadd, 1) := by decide +kernel
theorem sq_Ground_top_16 : rn G mm_Ground_top 16 lv (.int x2 :: .int x :: st) S P ↔ rn G mm_Ground_top 17 lv (.int (x + x2) :: st) S P := rn_s dq_Ground_top_16 rfl rfl rfl
theorem dq_Ground_top_17 : decode (km_c mm_Ground_top) 17 = .ok (.ireturn, 1) := by decide +kernel
theorem sq_Ground_top_17 : rn G mm_Ground_top 17 lv [.int x] S P ↔ P (some (.int x)) S := rn_ir dq_Ground_top_17 rfl
theorem dq_Ground_copy_0 : decode (km_c mm_Ground_copy) 0 = .ok (.iconst 0, 1) := by decide +kernel
theorem sq_Ground_copy_0 : rn G mm_Ground_copy 0 lv st S P ↔ rn G mm_Ground_copy 1 lv (.int (nI 0) :: st) S P := rn_s dq_Ground_copy_0 rfl rfl rfl
theorem dq_Ground_copy_1 : decode (km_c mm_Ground_copy) 1 = .ok (.istore_n 2, 1) := by decide +kernel
theorem sq_Ground_copy_1n : rn G mm_Ground_copy 1 [a0, none, a2] (.int x :: st) S P ↔ rn G mm_Ground_copy 2 [a0, none, some (.int x)] st S P := rn_s dq_Ground_copy_1 rfl rfl rfl
theorem sq_Ground_copy_1i : rn G mm_Ground_copy 1 [a0, some (.int x2), a2] (.int x :: st) S P ↔ rn G mm_Ground_copy 2 [a0, some (.int x2), some (.int x)] st S P := rn_s dq_Ground_copy_1 rfl rfl rfl
theorem sq_Ground_copy_1r : rn G mm_Ground_copy 1 [a0, some (.ref z2), a2] (.int x :: st) S P ↔ rn G mm_Ground_copy 2 [a0, some (.ref z2), some (.int x)] st S P := rn_s dq_Ground_copy_1 rfl rfl rfl
theorem sq_Ground_copy_1l : rn G mm_Ground_copy 1 [a0, some (.long y2), a2] (.int x :: st) S P ↔ rn G mm_Ground_copy 2 [a0, none, some (.int x)] st S P := rn_s dq_Ground_copy_1 rfl rfl rfl
theorem dq_Ground_copy_2 : decode (km_c mm_Ground_copy) 2 = .ok (.iload_n 2, 1) := by decide +kernel
theorem sq_Ground_copy_2 : rn G mm_Ground_copy 2 [a0, a1, some (.int x)] st S P ↔ rn G mm_Ground_copy 3 [a0, a1, some (.int x)] (.int x :: st) S P := rn_s dq_Ground_copy_2 rfl rfl rfl
theorem dq_Ground_copy_3 : decode (km_c mm_Ground_copy) 3 = .ok (.iconst 5, 1) := by decide +kernel
theorem sq_Ground_copy_3 : rn G mm_Ground_copy 3 lv st S P ↔ rn G mm_Ground_copy 4 lv (.int (nI 5) :: st) S P := rn_s dq_Ground_copy_3 rfl rfl rfl
theorem dq_Ground_copy_4 : decode (km_c mm_Ground_copy) 4 = .ok (.if_icmp .ge 28, 3) := by decide +kernel
theorem sq_Ground_copy_4 : rn G mm_Ground_copy 4 lv (.int x2 :: .int x :: st) S P ↔ ((x2 ≤ x → rn G mm_Ground_copy 32 lv st S P) ∧ (¬ (x2 ≤ x) → rn G mm_Ground_copy 7 lv st S P)) := rn_b (off := 28) dq_Ground_copy_4 rfl rfl rfl rfl
theorem dq_Ground_copy_7 : decode (km_c mm_Ground_copy) 7 = .ok (.aload_n 1, 1) := by decide +kernel
theorem sq_Ground_copy_7 : rn G mm_Ground_copy 7 [a0, some (.ref z), a2] st S P ↔ rn G mm_Ground_copy 8 [a0, some (.ref z), a2] (.ref z :: st) S P := rn_s dq_Ground_copy_7 rfl rfl rfl
theorem dq_Ground_copy_8 : decode (km_c mm_Ground_copy) 8 = .ok (.getfield 11, 3) := by decide +kernel
theorem sq_Ground_copy_8_2 (ho : sx_o o pl kp) : rn (lt_G o L) mm_Ground_copy 8 lv (.ref 2 :: st) (sx pl kp I A) P ↔ rn (lt_G o L) mm_Ground_copy 11 lv (.ref 3 :: st) (sx pl kp I A) P := rx_get (h := "") (ci := 0) (k := 0) dq_Ground_copy_8 (by decide +kernel) ho (up_b (by decide)) rfl rfl (fl_r (by decide) (by decide) (by decide) (by decide))
theorem sq_Ground_copy_8_35 (ho : sx_o o pl kp) : rn (lt_G o L) mm_Ground_copy 8 lv (.ref 35 :: st) (sx pl kp I A) P ↔ rn (lt_G o L) mm_Ground_copy 11 lv (.ref 36 :: st) (sx pl kp I A) P := rx_get (h := "") (ci := 0) (k := 0) dq_Ground_copy_8 (by decide +kernel) ho (up_b (by decide)) rfl rfl (fl_r (by decide) (by decide) (by decide) (by decide))
theorem sq_Ground_copy_8_137 (ho : sx_o o pl true) : rn (lt_G o L) mm_Ground_copy 8 lv (.ref 137 :: st) (sx pl true I A) P ↔ rn (lt_G o L) mm_Ground_copy 11 lv (.ref 138 :: st) (sx pl true I A) P := rx_get (h := "") (ci := 0) (k := 0) dq_Ground_copy_8 (by decide +kernel) ho (up_k (by decide) (by decide)) rfl rfl (fl_k (by decide) (by decide))
theorem dq_Ground_copy_11 : decode (km_c mm_Ground_copy) 11 = .ok (.iload_n 2, 1) := by decide +kernel
theorem sq_Ground_copy_11 : rn G mm_Ground_copy 11 [a0, a1, some (.int x)] st S P ↔ rn G mm_Ground_copy 12 [a0, a1, some (.int x)] (.int x :: st) S P := rn_s dq_Ground_copy_11 rfl rfl rfl
theorem dq_Ground_copy_12 : decode (km_c mm_Ground_copy) 12 = .ok (.aaload, 1) := by decide +kernel
theorem sq_Ground_copy_12 (ho : sx_o o pl kp) (hk : ak L a = 3) (hu : sx_up pl kp a = true) (hc : c < ln L a) (hn : ln L a < 2 ^ 31) : rn (lt_G o L) mm_Ground_copy 12 lv (.int (nI c) :: .ref a :: st) (sx pl kp I A) P ↔ rn (lt_G o L) mm_Ground_copy 13 lv (.ref (ab L a + c) :: st) (sx pl kp I A) P := rx_ald dq_Ground_copy_12 ho hk hu hc hn
theorem dq_Ground_copy_13 : decode (km_c mm_Ground_copy) 13 = .ok (.iconst 0, 1) := by decide +kernel
theorem sq_Ground_copy_13 : rn G mm_Ground_copy 13 lv st S P ↔ rn G mm_Ground_copy 14 lv (.int (nI 0) :: st) S P := rn_s dq_Ground_copy_13 rfl rfl rfl
theorem dq_Ground_copy_14 : decode (km_c mm_Ground_copy) 14 = .ok (.aload_n 0, 1) := by decide +kernel
theorem sq_Ground_copy_14 : rn G mm_Ground_copy 14 [some (.ref z), a1, a2] st S P ↔ rn G mm_Ground_copy 15 [some (.ref z), a1, a2] (.ref z :: st) S P := rn_s dq_Ground_copy_14 rfl rfl rfl
theorem dq_Ground_copy_15 : decode (km_c mm_Ground_copy) 15 = .ok (.getfield 11, 3) := by decide +kernel
theorem sq_Ground_copy_15_2 (ho : sx_o o pl kp) : rn (lt_G o L) mm_Ground_copy 15 lv (.ref 2 :: st) (sx pl kp I A) P ↔ rn (lt_G o L) mm_Ground_copy 18 lv (.ref 3 :: st) (sx pl kp I A) P := rx_get (h := "") (ci := 0) (k := 0) dq_Ground_copy_15 (by decide +kernel) ho (up_b (by decide)) rfl rfl (fl_r (by decide) (by decide) (by decide) (by decide))
theorem sq_Ground_copy_15_35 (ho : sx_o o pl kp) : rn (lt_G o L) mm_Ground_copy 15 lv (.ref 35 :: st) (sx pl kp I A) P ↔ rn (lt_G o L) mm_Ground_copy 18 lv (.ref 36 :: st) (sx pl kp I A) P := rx_get (h := "") (ci := 0) (k := 0) dq_Ground_copy_15 (by decide +kernel) ho (up_b (by decide)) rfl rfl (fl_r (by decide) (by decide) (by decide) (by decide))
theorem sq_Ground_copy_15_137 (ho : sx_o o pl true) : rn (lt_G o L) mm_Ground_copy 15 lv (.ref 137 :: st) (sx pl true I A) P ↔ rn (lt_G o L) mm_Ground_copy 18 lv (.ref 138 :: st) (sx pl true I A) P := rx_get (h := "") (ci := 0) (k := 0) dq_Ground_copy_15 (by decide +kernel) ho (up_k (by decide) (by decide)) rfl rfl (fl_k (by decide) (by decide))
theorem dq_Ground_copy_18 : decode (km_c mm_Ground_copy) 18 = .ok (.iload_n 2, 1) := by decide +kernel
theorem sq_Ground_copy_18 : rn G mm_Ground_copy 18 [a0, a1, some (.int x)] st S P ↔ rn G mm_Ground_copy 19 [a0, a1, some (.int x)] (.int x :: st) S P := rn_s dq_Ground_copy_18 rfl rfl rfl
theorem dq_Ground_copy_19 : decode (km_c mm_Ground_copy) 19 = .ok (.aaload, 1) := by decide +kernel
theorem sq_Ground_copy_19 (ho : sx_o o pl kp) (hk : ak L a = 3) (hu : sx_up pl kp a = true) (hc : c < ln L a) (hn : ln L a < 2 ^ 31) : rn (lt_G o L) mm_Ground_copy 19 lv (.int (nI c) :: .ref a :: st) (sx pl kp I A) P ↔ rn (lt_G o L) mm_Ground_copy 20 lv (.ref (ab L a + c) :: st) (sx pl kp I A) P := rx_ald dq_Ground_copy_19 ho hk hu hc hn
theorem dq_Ground_copy_20 : decode (km_c mm_Ground_copy) 20 = .ok (.iconst 0, 1) := by decide +kernel
theorem sq_Ground_copy_20 : rn G mm_Ground_copy 20 lv st S P ↔ rn G mm_Ground_copy 21 lv (.int (nI 0) :: st) S P := rn_s dq_Ground_copy_20 rfl rfl rfl
theorem dq_Ground_copy_21 : decode (km_c mm_Ground_copy) 21 = .ok (.bipush 49, 2) := by decide +kernel
theorem sq_Ground_copy_21 : rn G mm_Ground_copy 21 lv st S P ↔ rn G mm_Ground_copy 23 lv (.int (nI 49) :: st) S P := rn_s dq_Ground_copy_21 rfl rfl rfl
theorem dq_Ground_copy_23 : decode (km_c mm_Ground_copy) 23 = .ok (.invokestatic 26, 3) := by decide +kernel
theorem dq_Ground_copy_26 : decode (km_c mm_Ground_copy) 26 = .ok (.iinc 2 1, 3) := by decide +kernel
theorem sq_Ground_copy_26n : rn G mm_Ground_copy 26 [a0, none, some (.int x)] st S P ↔ rn G mm_Ground_copy 29 [a0, none, some (.int (x + nI 1))] st S P := rn_s dq_Ground_copy_26 rfl rfl rfl
theorem sq_Ground_copy_26i : rn G mm_Ground_copy 26 [a0, some (.int x2), some (.int x)] st S P ↔ rn G mm_Ground_copy 29 [a0, some (.int x2), some (.int (x + nI 1))] st S P := rn_s dq_Ground_copy_26 rfl rfl rfl
theorem sq_Ground_copy_26r : rn G mm_Ground_copy 26 [a0, some (.ref z2), some (.int x)] st S P ↔ rn G mm_Ground_copy 29 [a0, some (.ref z2), some (.int (x + nI 1))] st S P := rn_s dq_Ground_copy_26 rfl rfl rfl
theorem sq_Ground_copy_26l : rn G mm_Ground_copy 26 [a0, some (.long y2), some (.int x)] st S P ↔ rn G mm_Ground_copy 29 [a0, none, some (.int (x + nI 1))] st S P := rn_s dq_Ground_copy_26 rfl rfl rfl
theorem dq_Ground_copy_29 : decode (km_c mm_Ground_copy) 29 = .ok (.goto (-27), 3) := by decide +kernel
theorem sq_Ground_copy_29 : rn G mm_Ground_copy 29 lv st S P ↔ rn G mm_Ground_copy 2 lv st S P := rn_s dq_Ground_copy_29 rfl rfl rfl
theorem dq_Ground_copy_32 : decode (km_c mm_Ground_copy) 32 = .ok (.aload_n 0, 1) := by decide +kernel
theorem sq_Ground_copy_32 : rn G mm_Ground_copy 32 [some (.ref z), a1, a2] st S P ↔ rn G mm_Ground_copy 33 [some (.ref z), a1, a2] (.ref z :: st) S P := rn_s dq_Ground_copy_32 rfl rfl rfl
theorem dq_Ground_copy_33 : decode (km_c mm_Ground_copy) 33 = .ok (.aload_n 1, 1) := by decide +kernel
theorem sq_Ground_copy_33 : rn G mm_Ground_copy 33 [a0, some (.ref z), a2] st S P ↔ rn G mm_Ground_copy 34 [a0, some (.ref z), a2] (.ref z :: st) S P := rn_s dq_Ground_copy_33 rfl rfl rfl
theorem dq_Ground_copy_34 : decode (km_c mm_Ground_copy) 34 = .ok (.getfield 16, 3) := by decide +kernel
theorem sq_Ground_copy_34_2 (ho : sx_o o pl kp) : rn (lt_G o L) mm_Ground_copy 34 lv (.ref 2 :: st) (sx pl kp I A) P ↔ rn (lt_G o L) mm_Ground_copy 37 lv (.int (I 2 1) :: st) (sx pl kp I A) P := rx_get (h := "") (ci := 0) (k := 1) dq_Ground_copy_34 (by decide +kernel) ho (up_b (by decide)) rfl rfl (fl_i (by decide))
theorem sq_Ground_copy_34_35 (ho : sx_o o pl kp) : rn (lt_G o L) mm_Ground_copy 34 lv (.ref 35 :: st) (sx pl kp I A) P ↔ rn (lt_G o L) mm_Ground_copy 37 lv (.int (I 35 1) :: st) (sx pl kp I A) P := rx_get (h := "") (ci := 0) (k := 1) dq_Ground_copy_34 (by decide +kernel) ho (up_b (by decide)) rfl rfl (fl_i (by decide))
theorem sq_Ground_copy_34_137 (ho : sx_o o pl true) : rn (lt_G o L) mm_Ground_copy 34 lv (.ref 137 :: st) (sx pl true I A) P ↔ rn (lt_G o L) mm_Ground_copy 37 lv (.int (I 137 1) :: st) (sx pl true I A) P := rx_get (h := "") (ci := 0) (k := 1) dq_Ground_copy_34 (by decide +kernel) ho (up_k (by decide) (by decide)) rfl rfl (fl_i (by decide))
theorem dq_Ground_copy_37 : decode (km_c mm_Ground_copy) 37 = .ok (.putfield 16, 3) := by decide +kernel
theorem sq_Ground_copy_37_2 (ho : sx_o o pl kp) : rn (lt_G o L) mm_Ground_copy 37 lv (.int x :: .ref 2 :: st) (sx pl kp I A) P ↔ rn (lt_G o L) mm_Ground_copy 40 lv st (sx pl kp (u2 I 2 1 x) A) P := rx_put (h := "") (ci := 0) (k := 1) dq_Ground_copy_37 (by decide +kernel) ho (up_b (by decide)) rfl rfl (by decide) (by decide)
theorem sq_Ground_copy_37_35 (ho : sx_o o pl kp) : rn (lt_G o L) mm_Ground_copy 37 lv (.int x :: .ref 35 :: st) (sx pl kp I A) P ↔ rn (lt_G o L) mm_Ground_copy 40 lv st (sx pl kp (u2 I 35 1 x) A) P := rx_put (h := "") (ci := 0) (k := 1) dq_Ground_copy_37 (by decide +kernel) ho (up_b (by decide)) rfl rfl (by decide) (by decide)
theorem sq_Ground_copy_37_137 (ho : sx_o o pl true) : rn (lt_G o L) mm_Ground_copy 37 lv (.int x :: .ref 137 :: st) (sx pl true I A) P ↔ rn (lt_G o L) mm_Ground_copy 40 lv st (sx pl true (u2 I 137 1 x) A) P := rx_put (h := "") (ci := 0) (k := 1) dq_Ground_copy_37 (by decide +kernel) ho (up_k (by decide) (by decide)) rfl rfl (by decide) (by decide)
theorem dq_Ground_copy_40 : decode (km_c mm_Ground_copy) 40 = .ok (.return_, 1) := by decide +kernel
theorem sq_Ground_copy_40 : rn G mm_Ground_copy 40 lv [] S P ↔ P none S := rn_vr dq_Ground_copy_40 rfl
theorem dq_Ground_total_0 : decode (km_c mm_Ground_total) 0 = .ok (.iconst 0, 1) := by decide +kernel
theorem sq_Ground_total_0 : rn G mm_Ground_total 0 lv st S P ↔ rn G mm_Ground_total 1 lv (.int (nI 0) :: st) S P := rn_s dq_Ground_total_0 rfl rfl rfl
theorem dq_Ground_total_1 : decode (km_c mm_Ground_total) 1 = .ok (.istore_n 2, 1) := by decide +kernel
theorem sq_Ground_total_1n : rn G mm_Ground_total 1 [a0, none, a2, a3] (.int x :: st) S P ↔ rn G mm_Ground_total 2 [a0, none, some (.int x), a3] st S P := rn_s dq_Ground_total_1 rfl rfl rfl
theorem sq_Ground_total_1i : rn G mm_Ground_total 1 [a0, some (.int x2), a2, a3] (.int x :: st) S P ↔ rn G mm_Ground_total 2 [a0, some (.int x2), some (.int x), a3] st S P := rn_s dq_Ground_total_1 rfl rfl rfl
theorem sq_Ground_total_1r : rn G mm_Ground_total 1 [a0, some (.ref z2), a2, a3] (.int x :: st) S P ↔ rn G mm_Ground_total 2 [a0, some (.ref z2), some (.int x), a3] st S P := rn_s dq_Ground_total_1 rfl rfl rfl
theorem sq_Ground_total_1l : rn G mm_Ground_total 1 [a0, some (.long y2), a2, a3] (.int x :: st) S P ↔ rn G mm_Ground_total 2 [a0, none, some (.int x), a3] st S P := rn_s dq_Ground_total_1 rfl rfl rfl
theorem dq_Ground_total_2 : decode (km_c mm_Ground_total) 2 = .ok (.iconst 0, 1) := by decide +kernel
theorem sq_Ground_total_2 : rn G mm_Ground_total 2 lv st S P ↔ rn G mm_Ground_total 3 lv (.int (nI 0) :: st) S P := rn_s dq_Ground_total_2 rfl rfl rfl
theorem dq_Ground_total_3 : decode (km_c mm_Ground_total) 3 = .ok (.istore_n 3, 1) := by decide +kernel
theorem sq_Ground_total_3n : rn G mm_Ground_total 3 [a0, a1, none, a3] (.int x :: st) S P ↔ rn G mm_Ground_total 4 [a0, a1, none, some (.int x)] st S P := rn_s dq_Ground_total_3 rfl rfl rfl
theorem sq_Ground_total_3i : rn G mm_Ground_total 3 [a0, a1, some (.int x2), a3] (.int x :: st) S P ↔ rn G mm_Ground_total 4 [a0, a1, some (.int x2), some (.int x)] st S P := rn_s dq_Ground_total_3 rfl rfl rfl
theorem sq_Ground_total_3r : rn G mm_Ground_total 3 [a0, a1, some (.ref z2), a3] (.int x :: st) S P ↔ rn G mm_Ground_total 4 [a0, a1, some (.ref z2), some (.int x)] st S P := rn_s dq_Ground_total_3 rfl rfl rfl
theorem sq_Ground_total_3l : rn G mm_Ground_total 3 [a0, a1, some (.long y2), a3] (.int x :: st) S P ↔ rn G mm_Ground_total 4 [a0, a1, none, some (.int x)] st S P := rn_s dq_Ground_total_3 rfl rfl rfl
theorem dq_Ground_total_4 : decode (km_c mm_Ground_total) 4 = .ok (.iload_n 3, 1) := by decide +kernel
theorem sq_Ground_total_4 : rn G mm_Ground_total 4 [a0, a1, a2, some (.int x)] st S P ↔ rn G mm_Ground_total 5 [a0, a1, a2, some (.int x)] (.int x :: st) S P := rn_s dq_Ground_total_4 rfl rfl rfl
theorem dq_Ground_total_5 : decode (km_c mm_Ground_total) 5 = .ok (.bipush 49, 2) := by decide +kernel
theorem sq_Ground_total_5 : rn G mm_Ground_total 5 lv st S P ↔ rn G mm_Ground_total 7 lv (.int (nI 49) :: st) S P := rn_s dq_Ground_total_5 rfl rfl rfl
theorem dq_Ground_total_7 : decode (km_c mm_Ground_total) 7 = .ok (.if_icmp .ge 20, 3) := by decide +kernel
theorem sq_Ground_total_7 : rn G mm_Ground_total 7 lv (.int x2 :: .int x :: st) S P ↔ ((x2 ≤ x → rn G mm_Ground_total 27 lv st S P) ∧ (¬ (x2 ≤ x) → rn G mm_Ground_total 10 lv st S P)) := rn_b (off := 20) dq_Ground_total_7 rfl rfl rfl rfl
theorem dq_Ground_total_10 : decode (km_c mm_Ground_total) 10 = .ok (.iload_n 2, 1) := by decide +kernel
theorem sq_Ground_total_10 : rn G mm_Ground_total 10 [a0, a1, some (.int x), a3] st S P ↔ rn G mm_Ground_total 11 [a0, a1, some (.int x), a3] (.int x :: st) S P := rn_s dq_Ground_total_10 rfl rfl rfl
theorem dq_Ground_total_11 : decode (km_c mm_Ground_total) 11 = .ok (.aload_n 0, 1) := by decide +kernel
theorem sq_Ground_total_11 : rn G mm_Ground_total 11 [some (.ref z), a1, a2, a3] st S P ↔ rn G mm_Ground_total 12 [some (.ref z), a1, a2, a3] (.ref z :: st) S P := rn_s dq_Ground_total_11 rfl rfl rfl
theorem dq_Ground_total_12 : decode (km_c mm_Ground_total) 12 = .ok (.getfield 11, 3) := by decide +kernel
theorem sq_Ground_total_12_2 (ho : sx_o o pl kp) : rn (lt_G o L) mm_Ground_total 12 lv (.ref 2 :: st) (sx pl kp I A) P ↔ rn (lt_G o L) mm_Ground_total 15 lv (.ref 3 :: st) (sx pl kp I A) P := rx_get (h := "") (ci := 0) (k := 0) dq_Ground_total_12 (by decide +kernel) ho (up_b (by decide)) rfl rfl (fl_r (by decide) (by decide) (by decide) (by decide))
theorem sq_Ground_total_12_35 (ho : sx_o o pl kp) : rn (lt_G o L) mm_Ground_total 12 lv (.ref 35 :: st) (sx pl kp I A) P ↔ rn (lt_G o L) mm_Ground_total 15 lv (.ref 36 :: st) (sx pl kp I A) P := rx_get (h := "") (ci := 0) (k := 0) dq_Ground_total_12 (by decide +kernel) ho (up_b (by decide)) rfl rfl (fl_r (by decide) (by decide) (by decide) (by decide))
theorem sq_Ground_total_12_137 (ho : sx_o o pl true) : rn (lt_G o L) mm_Ground_total 12 lv (.ref 137 :: st) (sx pl true I A) P ↔ rn (lt_G o L) mm_Ground_total 15 lv (.ref 138 :: st) (sx pl true I A) P := rx_get (h := "") (ci := 0) (k := 0) dq_Ground_total_12 (by decide +kernel) ho (up_k (by decide) (by decide)) rfl rfl (fl_k (by decide) (by decide))
theorem dq_Ground_total_15 : decode (km_c mm_Ground_total) 15 = .ok (.iload_n 1, 1) := by decide +kernel
theorem sq_Ground_total_15 : rn G mm_Ground_total 15 [a0, some (.int x), a2, a3] st S P ↔ rn G mm_Ground_total 16 [a0, some (.int x), a2, a3] (.int x :: st) S P := rn_s dq_Ground_total_15 rfl rfl rfl
theorem dq_Ground_total_16 : decode (km_c mm_Ground_total) 16 = .ok (.aaload, 1) := by decide +kernel
theorem sq_Ground_total_16 (ho : sx_o o pl kp) (hk : ak L a = 3) (hu : sx_up pl kp a = true) (hc : c < ln L a) (hn : ln L a < 2 ^ 31) : rn (lt_G o L) mm_Ground_total 16 lv (.int (nI c) :: .ref a :: st) (sx pl kp I A) P ↔ rn (lt_G o L) mm_Ground_total 17 lv (.ref (ab L a + c) :: st) (sx pl kp I A) P := rx_ald dq_Ground_total_16 ho hk hu hc hn
theorem dq_Ground_total_17 : decode (km_c mm_Ground_total) 17 = .ok (.iload_n 3, 1) := by decide +kernel
theorem sq_Ground_total_17 : rn G mm_Ground_total 17 [a0, a1, a2, some (.int x)] st S P ↔ rn G mm_Ground_total 18 [a0, a1, a2, some (.int x)] (.int x :: st) S P := rn_s dq_Ground_total_17 rfl rfl rfl
theorem dq_Ground_total_18 : decode (km_c mm_Ground_total) 18 = .ok (.iaload, 1) := by decide +kernel
theorem sq_Ground_total_18 (ho : sx_o o pl kp) (hk : ak L a = 0) (hu : sx_up pl kp a = true ∨ 1000 ≤ a) (hc : c < ln L a) (hn : ln L a < 2 ^ 31) : rn (lt_G o L) mm_Ground_total 18 lv (.int (nI c) :: .ref a :: st) (sx pl kp I A) P ↔ rn (lt_G o L) mm_Ground_total 19 lv (.int (A a c) :: st) (sx pl kp I A) P := rx_ild dq_Ground_total_18 ho hk hu hc hn
theorem dq_Ground_total_19 : decode (km_c mm_Ground_total) 19 = .ok (.iadd, 1) := by decide +kernel
theorem sq_Ground_total_19 : rn G mm_Ground_total 19 lv (.int x2 :: .int x :: st) S P ↔ rn G mm_Ground_total 20 lv (.int (x + x2) :: st) S P := rn_s dq_Ground_total_19 rfl rfl rfl
theorem dq_Ground_total_20 : decode (km_c mm_Ground_total) 20 = .ok (.istore_n 2, 1) := by decide +kernel
theorem sq_Ground_total_20n : rn G mm_Ground_total 20 [a0, none, a2, a3] (.int x :: st) S P ↔ rn G mm_Ground_total 21 [a0, none, some (.int x), a3] st S P := rn_s dq_Ground_total_20 rfl rfl rfl
theorem sq_Ground_total_20i : rn G mm_Ground_total 20 [a0, some (.int x2), a2, a3] (.int x :: st) S P ↔ rn G mm_Ground_total 21 [a0, some (.int x2), some (.int x), a3] st S P := rn_s dq_Ground_total_20 rfl rfl rfl
theorem sq_Ground_total_20r : rn G mm_Ground_total 20 [a0, some (.ref z2), a2, a3] (.int x :: st) S P ↔ rn G mm_Ground_total 21 [a0, some (.ref z2), some (.int x), a3] st S P := rn_s dq_Ground_total_20 rfl rfl rfl
theorem sq_Ground_total_20l : rn G mm_Ground_total 20 [a0, some (.long y2), a2, a3] (.int x :: st) S P ↔ rn G mm_Ground_total 21 [a0, none, some (.int x), a3] st S P := rn_s dq_Ground_total_20 rfl rfl rfl
theorem dq_Ground_total_21 : decode (km_c mm_Ground_total) 21 = .ok (.iinc 3 1, 3) := by decide +kernel
theorem sq_Ground_total_21n : rn G mm_Ground_total 21 [a0, a1, none, some (.int x)] st S P ↔ rn G mm_Ground_total 24 [a0, a1, none, some (.int (x + nI 1))] st S P := rn_s dq_Ground_total_21 rfl rfl rfl
theorem sq_Ground_total_21i : rn G mm_Ground_total 21 [a0, a1, some (.int x2), some (.int x)] st S P ↔ rn G mm_Ground_total 24 [a0, a1, some (.int x2), some (.int (x + nI 1))] st S P := rn_s dq_Ground_total_21 rfl rfl rfl
theorem sq_Ground_total_21r : rn G mm_Ground_total 21 [a0, a1, some (.ref z2), some (.int x)] st S P ↔ rn G mm_Ground_total 24 [a0, a1, some (.ref z2), some (.int (x + nI 1))] st S P := rn_s dq_Ground_total_21 rfl rfl rfl
theorem sq_Ground_total_21l : rn G mm_Ground_total 21 [a0, a1, some (.long y2), some (.int x)] st S P ↔ rn G mm_Ground_total 24 [a0, a1, none, some (.int (x + nI 1))] st S P := rn_s dq_Ground_total_21 rfl rfl rfl
theorem dq_Ground_total_24 : decode (km_c mm_Ground_total) 24 = .ok (.goto (-20), 3) := by decide +kernel
theorem sq_Ground_total_24 : rn G mm_Ground_total 24 lv st S P ↔ rn G mm_Ground_total 4 lv st S P := rn_s dq_Ground_total_24 rfl rfl rfl
theorem dq_Ground_total_27 : decode (km_c mm_Ground_total) 27 = .ok (.iload_n 2, 1) := by decide +kernel
theorem sq_Ground_total_27 : rn G mm_Ground_total 27 [a0, a1, some (.int x), a3] st S P ↔ rn G mm_Ground_total 28 [a0, a1, some (.int x), a3] (.int x :: st) S P := rn_s dq_Ground_total_27 rfl rfl rfl
theorem dq_Ground_total_28 : decode (km_c mm_Ground_total) 28 = .ok (.ireturn, 1) := by decide +kernel
theorem sq_Ground_total_28 : rn G mm_Ground_total 28 lv [.int x] S P ↔ P (some (.int x)) S := rn_ir dq_Ground_total_28 rfl
theorem dq_Ground_layBones_0 : decode (km_c mm_Ground_layBones) 0 = .ok (.iconst 0, 1) := by decide +kernel
theorem sq_Ground_layBones_0 : rn G mm_Ground_layBones 0 lv st S P ↔ rn G mm_Ground_layBones 1 lv (.int (nI 0) :: st) S P := rn_s dq_Ground_layBones_0 rfl rfl rfl
theorem dq_Ground_layBones_1 : decode (km_c mm_Ground_layBones) 1 = .ok (.istore_n 2, 1) := by decide +kernel
theorem sq_Ground_layBones_1n : rn G mm_Ground_layBones 1 [a0, none, a2, a3, a4] (.int x :: st) S P ↔ rn G mm_Ground_layBones 2 [a0, none, some (.int x), a3, a4] st S P := rn_s dq_Ground_layBones_1 rfl rfl rfl
theorem sq_Ground_layBones_1i : rn G mm_Ground_layBones 1 [a0, some (.int x2), a2, a3, a4] (.int x :: st) S P ↔ rn G mm_Ground_layBones 2 [a0, some (.int x2), some (.int x), a3, a4] st S P := rn_s dq_Ground_layBones_1 rfl rfl rfl
theorem sq_Ground_layBones_1r : rn G mm_Ground_layBones 1 [a0, some (.ref z2), a2, a3, a4] (.int x :: st) S P ↔ rn G mm_Ground_layBones 2 [a0, some (.ref z2), some (.int x), a3, a4] st S P := rn_s dq_Ground_layBones_1 rfl rfl rfl
theorem sq_Ground_layBones_1l : rn G mm_Ground_layBones 1 [a0, some (.long y2), a2, a3, a4] (.int x :: st) S P ↔ rn G mm_Ground_layBones 2 [a0, none, some (.int x), a3, a4] st S P := rn_s dq_Ground_layBones_1 rfl rfl rfl
theorem dq_Ground_layBones_2 : decode (km_c mm_Ground_layBones) 2 = .ok (.iconst 0, 1) := by decide +kernel
theorem sq_Ground_layBones_2 : rn G mm_Ground_layBones 2 lv st S P ↔ rn G mm_Ground_layBones 3 lv (.int (nI 0) :: st) S P := rn_s dq_Ground_layBones_2 rfl rfl rfl
theorem dq_Ground_layBones_3 : decode (km_c mm_Ground_layBones) 3 = .ok (.istore_n 3, 1) := by decide +kernel
theorem sq_Ground_layBones_3n : rn G mm_Ground_layBones 3 [a0, a1, none, a3, a4] (.int x :: st) S P ↔ rn G mm_Ground_layBones 4 [a0, a1, none, some (.int x), a4] st S P := rn_s dq_Ground_layBones_3 rfl rfl rfl
theorem sq_Ground_layBones_3i : rn G mm_Ground_layBones 3 [a0, a1, some (.int x2), a3, a4] (.int x :: st) S P ↔ rn G mm_Ground_layBones 4 [a0, a1, some (.int x2), some (.int x), a4] st S P := rn_s dq_Ground_layBones_3 rfl rfl rfl
theorem sq_Ground_layBones_3r : rn G mm_Ground_layBones 3 [a0, a1, some (.ref z2), a3, a4] (.int x :: st) S P ↔ rn G mm_Ground_layBones 4 [a0, a1, some (.ref z2), some (.int x), a4] st S P := rn_s dq_Ground_layBones_3 rfl rfl rfl
theorem sq_Ground_layBones_3l : rn G mm_Ground_layBones 3 [a0, a1, some (.long y2), a3, a4] (.int x :: st) S P ↔ rn G mm_Ground_layBones 4 [a0, a1, none, some (.int x), a4] st S P := rn_s dq_Ground_layBones_3 rfl rfl rfl
theorem dq_Ground_layBones_4 : decode (km_c mm_Ground_layBones) 4 = .ok (.iload_n 3, 1) := by decide +kernel
theorem sq_Ground_layBones_4 : rn G mm_Ground_layBones 4 [a0, a1, a2, some (.int x), a4] st S P ↔ rn G mm_Ground_layBones 5 [a0, a1, a2, some (.int x), a4] (.int x :: st) S P := rn_s dq_Ground_layBones_4 rfl rfl rfl
theorem dq_Ground_layBones_5 : decode (km_c mm_Ground_layBones) 5 = .ok (.aload_n 1, 1) := by decide +kernel
theorem sq_Ground_layBones_5 : rn G mm_Ground_layBones 5 [a0, some (.ref z), a2, a3, a4] st S P ↔ rn G mm_Ground_layBones 6 [a0, some (.ref z), a2, a3, a4] (.ref z :: st) S P := rn_s dq_Ground_layBones_5 rfl rfl rfl
theorem dq_Ground_layBones_6 : decode (km_c mm_Ground_layBones) 6 = .ok (.getfield 32, 3) := by decide +kernel
theorem sq_Ground_layBones_6_12 (ho : sx_o o pl kp) : rn (lt_G o L) mm_Ground_layBones 6 lv (.ref 12 :: st) (sx pl kp I A) P ↔ rn (lt_G o L) mm_Ground_layBones 9 lv (.int (I 12 1) :: st) (sx pl kp I A) P := rx_get (h := "DeltaRoad") (ci := 1) (k := 1) dq_Ground_layBones_6 (by decide +kernel) ho (up_b (by decide)) rfl rfl (fl_i (by decide))
theorem sq_Ground_layBones_6_147 (ho : sx_o o pl true) : rn (lt_G o L) mm_Ground_layBones 6 lv (.ref 147 :: st) (sx pl true I A) P ↔ rn (lt_G o L) mm_Ground_layBones 9 lv (.int (I 147 1) :: st) (sx pl true I A) P := rx_get (h := "DeltaRoad") (ci := 1) (k := 1) dq_Ground_layBones_6 (by decide +kernel) ho (up_k (by decide) (by decide)) rfl rfl (fl_i (by decide))
theorem dq_Ground_layBones_9 : decode (km_c mm_Ground_layBones) 9 = .ok (.if_icmp .ge 41, 3) := by decide +kernel
theorem sq_Ground_layBones_9 : rn G mm_Ground_layBones 9 lv (.int x2 :: .int x :: st) S P ↔ ((x2 ≤ x → rn G mm_Ground_layBones 50 lv st S P) ∧ (¬ (x2 ≤ x) → rn G mm_Ground_layBones 12 lv st S P)) := rn_b (off := 41) dq_Ground_layBones_9 rfl rfl rfl rfl
theorem dq_Ground_layBones_12 : decode (km_c mm_Ground_layBones) 12 = .ok (.aload_n 1, 1) := by decide +kernel
theorem sq_Ground_layBones_12 : rn G mm_Ground_layBones 12 [a0, some (.ref z), a2, a3, a4] st S P ↔ rn G mm_Ground_layBones 13 [a0, some (.ref z), a2, a3, a4] (.ref z :: st) S P := rn_s dq_Ground_layBones_12 rfl rfl rfl
theorem dq_Ground_layBones_13 : decode (km_c mm_Ground_layBones) 13 = .ok (.getfield 37, 3) := by decide +kernel
theorem sq_Ground_layBones_13_12 (ho : sx_o o pl kp) : rn (lt_G o L) mm_Ground_layBones 13 lv (.ref 12 :: st) (sx pl kp I A) P ↔ rn (lt_G o L) mm_Ground_layBones 16 lv (.ref 13 :: st) (sx pl kp I A) P := rx_get (h := "DeltaRoad") (ci := 1) (k := 0) dq_Ground_layBones_13 (by decide +kernel) ho (up_b (by decide)) rfl rfl (fl_r (by decide) (by decide) (by decide) (by decide))
theorem sq_Ground_layBones_13_147 (ho : sx_o o pl true) : rn (lt_G o L) mm_Ground_layBones 13 lv (.ref 147 :: st) (sx pl true I A) P ↔ rn (lt_G o L) mm_Ground_layBones 16 lv (.ref 148 :: st) (sx pl true I A) P := rx_get (h := "DeltaRoad") (ci := 1) (k := 0) dq_Ground_layBones_13 (by decide +kernel) ho (up_k (by decide) (by decide)) rfl rfl (fl_k (by decide) (by decide))
theorem dq_Ground_layBones_16 : decode (km_c mm_Ground_layBones) 16 = .ok (.iload_n 3, 1) := by decide +kernel
theorem sq_Ground_layBones_16 : rn G mm_Ground_layBones 16 [a0, a1, a2, some (.int x), a4] st S P ↔ rn G mm_Ground_layBones 17 [a0, a1, a2, some (.int x), a4] (.int x :: st) S P := rn_s dq_Ground_layBones_16 rfl rfl rfl
theorem dq_Ground_layBones_17 : decode (km_c mm_Ground_layBones) 17 = .ok (.iaload, 1) := by decide +kernel
theorem sq_Ground_layBones_17 (ho : sx_o o pl kp) (hk : ak L a = 0) (hu : sx_up pl kp a = true ∨ 1000 ≤ a) (hc : c < ln L a) (hn : ln L a < 2 ^ 31) : rn (lt_G o L) mm_Ground_layBones 17 lv (.int (nI c) :: .ref a :: st) (sx pl kp I A) P ↔ rn (lt_G o L) mm_Ground_layBones 18 lv (.int (A a c) :: st) (sx pl kp I A) P := rx_ild dq_Ground_layBones_17 ho hk hu hc hn
theorem dq_Ground_layBones_18 : decode (km_c mm_Ground_layBones) 18 = .ok (.istore 4, 2) := by decide +kernel
theorem sq_Ground_layBones_18n : rn G mm_Ground_layBones 18 [a0, a1, a2, none, a4] (.int x :: st) S P ↔ rn G mm_Ground_layBones 20 [a0, a1, a2, none, some (.int x)] st S P := rn_s dq_Ground_layBones_18 rfl rfl rfl
theorem sq_Ground_layBones_18i : rn G mm_Ground_layBones 18 [a0, a1, a2, some (.int x2), a4] (.int x :: st) S P ↔ rn G mm_Ground_layBones 20 [a0, a1, a2, some (.int x2), some (.int x)] st S P := rn_s dq_Ground_layBones_18 rfl rfl rfl
theorem sq_Ground_layBones_18r : rn G mm_Ground_layBones 18 [a0, a1, a2, some (.ref z2), a4] (.int x :: st) S P ↔ rn G mm_Ground_layBones 20 [a0, a1, a2, some (.ref z2), some (.int x)] st S P := rn_s dq_Ground_layBones_18 rfl rfl rfl
theorem sq_Ground_layBones_18l : rn G mm_Ground_layBones 18 [a0, a1, a2, some (.long y2), a4] (.int x :: st) S P ↔ rn G mm_Ground_layBones 20 [a0, a1, a2, none, some (.int x)] st S P := rn_s dq_Ground_layBones_18 rfl rfl rfl
theorem dq_Ground_layBones_20 : decode (km_c mm_Ground_layBones) 20 = .ok (.iload_n 2, 1) := by decide +kernel
theorem sq_Ground_layBones_20 : rn G mm_Ground_layBones 20 [a0, a1, some (.int x), a3, a4] st S P ↔ rn G mm_Ground_layBones 21 [a0, a1, some (.int x), a3, a4] (.int x :: st) S P := rn_s dq_Ground_layBones_20 rfl rfl rfl
theorem dq_Ground_layBones_21 : decode (km_c mm_Ground_layBones) 21 = .ok (.iconst 1, 1) := by decide +kernel
theorem sq_Ground_layBones_21 : rn G mm_Ground_layBones 21 lv st S P ↔ rn G mm_Ground_layBones 22 lv (.int (nI 1) :: st) S P := rn_s dq_Ground_layBones_21 rfl rfl rfl
theorem dq_Ground_layBones_22 : decode (km_c mm_Ground_layBones) 22 = .ok (.aload_n 0, 1) := by decide +kernel
theorem sq_Ground_layBones_22 : rn G mm_Ground_layBones 22 [some (.ref z), a1, a2, a3, a4] st S P ↔ rn G mm_Ground_layBones 23 [some (.ref z), a1, a2, a3, a4] (.ref z :: st) S P := rn_s dq_Ground_layBones_22 rfl rfl rfl
theorem dq_Ground_layBones_23 : decode (km_c mm_Ground_layBones) 23 = .ok (.getfield 11, 3) := by decide +kernel
theorem sq_Ground_layBones_23_2 (ho : sx_o o pl kp) : rn (lt_G o L) mm_Ground_layBones 23 lv (.ref 2 :: st) (sx pl kp I A) P ↔ rn (lt_G o L) mm_Ground_layBones 26 lv (.ref 3 :: st) (sx pl kp I A) P := rx_get (h := "") (ci := 0) (k := 0) dq_Ground_layBones_23 (by decide +kernel) ho (up_b (by decide)) rfl rfl (fl_r (by decide) (by decide) (by decide) (by decide))
theorem sq_Ground_layBones_23_35 (ho : sx_o o pl kp) : rn (lt_G o L) mm_Ground_layBones 23 lv (.ref 35 :: st) (sx pl kp I A) P ↔ rn (lt_G o L) mm_Ground_layBones 26 lv (.ref 36 :: st) (sx pl kp I A) P := rx_get (h := "") (ci := 0) (k := 0) dq_Ground_layBones_23 (by decide +kernel) ho (up_b (by decide)) rfl rfl (fl_r (by decide) (by decide) (by decide) (by decide))
theorem sq_Ground_layBones_23_137 (ho : sx_o o pl true) : rn (lt_G o L) mm_Ground_layBones 23 lv (.ref 137 :: st) (sx pl true I A) P ↔ rn (lt_G o L) mm_Ground_layBones 26 lv (.ref 138 :: st) (sx pl true I A) P := rx_get (h := "") (ci := 0) (k := 0) dq_Ground_layBones_23 (by decide +kernel) ho (up_k (by decide) (by decide)) rfl rfl (fl_k (by decide) (by decide))
theorem dq_Ground_layBones_26 : decode (km_c mm_Ground_layBones) 26 = .ok (.iconst 3, 1) := by decide +kernel
theorem sq_Ground_layBones_26 : rn G mm_Ground_layBones 26 lv st S P ↔ rn G mm_Ground_layBones 27 lv (.int (nI 3) :: st) S P := rn_s dq_Ground_layBones_26 rfl rfl rfl
theorem dq_Ground_layBones_27 : decode (km_c mm_Ground_layBones) 27 = .ok (.aaload, 1) := by decide +kernel
theorem sq_Ground_layBones_27 (ho : sx_o o pl kp) (hk : ak L a = 3) (hu : sx_up pl kp a = true) (hc : c < ln L a) (hn : ln L a < 2 ^ 31) : rn (lt_G o L) mm_Ground_layBones 27 lv (.int (nI c) :: .ref a :: st) (sx pl kp I A) P ↔ rn (lt_G o L) mm_Ground_layBones 28 lv (.ref (ab L a + c) :: st) (sx pl kp I A) P := rx_ald dq_Ground_layBones_27 ho hk hu hc hn
theorem dq_Ground_layBones_28 : decode (km_c mm_Ground_layBones) 28 = .ok (.iload 4, 2) := by decide +kernel
theorem sq_Ground_layBones_28 : rn G mm_Ground_layBones 28 [a0, a1, a2, a3, some (.int x)] st S P ↔ rn G mm_Ground_layBones 30 [a0, a1, a2, a3, some (.int x)] (.int x :: st) S P := rn_s dq_Ground_layBones_28 rfl rfl rfl
theorem dq_Ground_layBones_30 : decode (km_c mm_Ground_layBones) 30 = .ok (.iaload, 1) := by decide +kernel
theorem sq_Ground_layBones_30 (ho : sx_o o pl kp) (hk : ak L a = 0) (hu : sx_up pl kp a = true ∨ 1000 ≤ a) (hc : c < ln L a) (hn : ln L a < 2 ^ 31) : rn (lt_G o L) mm_Ground_layBones 30 lv (.int (nI c) :: .ref a :: st) (sx pl kp I A) P ↔ rn (lt_G o L) mm_Ground_layBones 31 lv (.int (A a c) :: st) (sx pl kp I A) P := rx_ild dq_Ground_layBones_30 ho hk hu hc hn
theorem dq_Ground_layBones_31 : decode (km_c mm_Ground_layBones) 31 = .ok (.isub, 1) := by decide +kernel
theorem sq_Ground_layBones_31 : rn G mm_Ground_layBones 31 lv (.int x2 :: .int x :: st) S P ↔ rn G mm_Ground_layBones 32 lv (.int (x - x2) :: st) S P := rn_s dq_Ground_layBones_31 rfl rfl rfl
theorem dq_Ground_layBones_32 : decode (km_c mm_Ground_layBones) 32 = .ok (.iadd, 1) := by decide +kernel
theorem sq_Ground_layBones_32 : rn G mm_Ground_layBones 32 lv (.int x2 :: .int x :: st) S P ↔ rn G mm_Ground_layBones 33 lv (.int (x + x2) :: st) S P := rn_s dq_Ground_layBones_32 rfl rfl rfl
theorem dq_Ground_layBones_33 : decode (km_c mm_Ground_layBones) 33 = .ok (.istore_n 2, 1) := by decide +kernel
theorem sq_Ground_layBones_33n : rn G mm_Ground_layBones 33 [a0, none, a2, a3, a4] (.int x :: st) S P ↔ rn G mm_Ground_layBones 34 [a0, none, some (.int x), a3, a4] st S P := rn_s dq_Ground_layBones_33 rfl rfl rfl
theorem sq_Ground_layBones_33i : rn G mm_Ground_layBones 33 [a0, some (.int x2), a2, a3, a4] (.int x :: st) S P ↔ rn G mm_Ground_layBones 34 [a0, some (.int x2), some (.int x), a3, a4] st S P := rn_s dq_Ground_layBones_33 rfl rfl rfl
theorem sq_Ground_layBones_33r : rn G mm_Ground_layBones 33 [a0, some (.ref z2), a2, a3, a4] (.int x :: st) S P ↔ rn G mm_Ground_layBones 34 [a0, some (.ref z2), some (.int x), a3, a4] st S P := rn_s dq_Ground_layBones_33 rfl rfl rfl
theorem sq_Ground_layBones_33l : rn G mm_Ground_layBones 33 [a0, some (.long y2), a2, a3, a4] (.int x :: st) S P ↔ rn G mm_Ground_layBones 34 [a0, none, some (.int x), a3, a4] st S P := rn_s dq_Ground_layBones_33 rfl rfl rfl
theorem dq_Ground_layBones_34 : decode (km_c mm_Ground_layBones) 34 = .ok (.aload_n 0, 1) := by decide +kernel
theorem sq_Ground_layBones_34 : rn G mm_Ground_layBones 34 [some (.ref z), a1, a2, a3, a4] st S P ↔ rn G mm_Ground_layBones 35 [some (.ref z), a1, a2, a3, a4] (.ref z :: st) S P := rn_s dq_Ground_layBones_34 rfl rfl rfl
theorem dq_Ground_layBones_35 : decode (km_c mm_Ground_layBones) 35 = .ok (.getfield 11, 3) := by decide +kernel
theorem sq_Ground_layBones_35_2 (ho : sx_o o pl kp) : rn (lt_G o L) mm_Ground_layBones 35 lv (.ref 2 :: st) (sx pl kp I A) P ↔ rn (lt_G o L) mm_Ground_layBones 38 lv (.ref 3 :: st) (sx pl kp I A) P := rx_get (h := "") (ci := 0) (k := 0) dq_Ground_layBones_35 (by decide +kernel) ho (up_b (by decide)) rfl rfl (fl_r (by decide) (by decide) (by decide) (by decide))
theorem sq_Ground_layBones_35_35 (ho : sx_o o pl kp) : rn (lt_G o L) mm_Ground_layBones 35 lv (.ref 35 :: st) (sx pl kp I A) P ↔ rn (lt_G o L) mm_Ground_layBones 38 lv (.ref 36 :: st) (sx pl kp I A) P := rx_get (h := "") (ci := 0) (k := 0) dq_Ground_layBones_35 (by decide +kernel) ho (up_b (by decide)) rfl rfl (fl_r (by decide) (by decide) (by decide) (by decide))
theorem sq_Ground_layBones_35_137 (ho : sx_o o pl true) : rn (lt_G o L) mm_Ground_layBones 35 lv (.ref 137 :: st) (sx pl true I A) P ↔ rn (lt_G o L) mm_Ground_layBones 38 lv (.ref 138 :: st) (sx pl true I A) P := rx_get (h := "") (ci := 0) (k := 0) dq_Ground_layBones_35 (by decide +kernel) ho (up_k (by decide) (by decide)) rfl rfl (fl_k (by decide) (by decide))
theorem dq_Ground_layBones_38 : decode (km_c mm_Ground_layBones) 38 = .ok (.iconst 3, 1) := by decide +kernel
theorem sq_Ground_layBones_38 : rn G mm_Ground_layBones 38 lv st S P ↔ rn G mm_Ground_layBones 39 lv (.int (nI 3) :: st) S P := rn_s dq_Ground_layBones_38 rfl rfl rfl
theorem dq_Ground_layBones_39 : decode (km_c mm_Ground_layBones) 39 = .ok (.aaload, 1) := by decide +kernel
theorem sq_Ground_layBones_39 (ho : sx_o o pl kp) (hk : ak L a = 3) (hu : sx_up pl kp a = true) (hc : c < ln L a) (hn : ln L a < 2 ^ 31) : rn (lt_G o L) mm_Ground_layBones 39 lv (.int (nI c) :: .ref a :: st) (sx pl kp I A) P ↔ rn (lt_G o L) mm_Ground_layBones 40 lv (.ref (ab L a + c) :: st) (sx pl kp I A) P := rx_ald dq_Ground_layBones_39 ho hk hu hc hn
theorem dq_Ground_layBones_40 : decode (km_c mm_Ground_layBones) 40 = .ok (.iload 4, 2) := by decide +kernel
theorem sq_Ground_layBones_40 : rn G mm_Ground_layBones 40 [a0, a1, a2, a3, some (.int x)] st S P ↔ rn G mm_Ground_layBones 42 [a0, a1, a2, a3, some (.int x)] (.int x :: st) S P := rn_s dq_Ground_layBones_40 rfl rfl rfl
theorem dq_Ground_layBones_42 : decode (km_c mm_Ground_layBones) 42 = .ok (.iconst 1, 1) := by decide +kernel
theorem sq_Ground_layBones_42 : rn G mm_Ground_layBones 42 lv st S P ↔ rn G mm_Ground_layBones 43 lv (.int (nI 1) :: st) S P := rn_s dq_Ground_layBones_42 rfl rfl rfl
theorem dq_Ground_layBones_43 : decode (km_c mm_Ground_layBones) 43 = .ok (.iastore, 1) := by decide +kernel
theorem sq_Ground_layBones_43 (ho : sx_o o pl kp) (hk : ak L a = 0) (hu : sx_up pl kp a = true) (hc : c < ln L a) (hn : ln L a < 2 ^ 31) : rn (lt_G o L) mm_Ground_layBones 43 lv (.int x :: .int (nI c) :: .ref a :: st) (sx pl kp I A) P ↔ rn (lt_G o L) mm_Ground_layBones 44 lv st (sx pl kp I (u2 A a c x)) P := rx_ist dq_Ground_layBones_43 ho hk hu hc hn
theorem dq_Ground_layBones_44 : decode (km_c mm_Ground_layBones) 44 = .ok (.iinc 3 1, 3) := by decide +kernel
theorem sq_Ground_layBones_44n : rn G mm_Ground_layBones 44 [a0, a1, none, some (.int x), a4] st S P ↔ rn G mm_Ground_layBones 47 [a0, a1, none, some (.int (x + nI 1)), a4] st S P := rn_s dq_Ground_layBones_44 rfl rfl rfl
theorem sq_Ground_layBones_44i : rn G mm_Ground_layBones 44 [a0, a1, some (.int x2), some (.int x), a4] st S P ↔ rn G mm_Ground_layBones 47 [a0, a1, some (.int x2), some (.int (x + nI 1)), a4] st S P := rn_s dq_Ground_layBones_44 rfl rfl rfl
theorem sq_Ground_layBones_44r : rn G mm_Ground_layBones 44 [a0, a1, some (.ref z2), some (.int x), a4] st S P ↔ rn G mm_Ground_layBones 47 [a0, a1, some (.ref z2), some (.int (x + nI 1)), a4] st S P := rn_s dq_Ground_layBones_44 rfl rfl rfl
theorem sq_Ground_layBones_44l : rn G mm_Ground_layBones 44 [a0, a1, some (.long y2), some (.int x), a4] st S P ↔ rn G mm_Ground_layBones 47 [a0, a1, none, some (.int (x + nI 1)), a4] st S P := rn_s dq_Ground_layBones_44 rfl rfl rfl
theorem dq_Ground_layBones_47 : decode (km_c mm_Ground_layBones) 47 = .ok (.goto (-43), 3) := by decide +kernel
theorem sq_Ground_layBones_47 : rn G mm_Ground_layBones 47 lv st S P ↔ rn G mm_Ground_layBones 4 lv st S P := rn_s dq_Ground_layBones_47 rfl rfl rfl
theorem dq_Ground_layBones_50 : decode (km_c mm_Ground_layBones) 50 = .ok (.iload_n 2, 1) := by decide +kernel
theorem sq_Ground_layBones_50 : rn G mm_Ground_layBones 50 [a0, a1, some (.int x), a3, a4] st S P ↔ rn G mm_Ground_layBones 51 [a0, a1, some (.int x), a3, a4] (.int x :: st) S P := rn_s dq_Ground_layBones_50 rfl rfl rfl
theorem dq_Ground_layBones_51 : decode (km_c mm_Ground_layBones) 51 = .ok (.ireturn, 1) := by decide +kernel
theorem sq_Ground_layBones_51 : rn G mm_Ground_layBones 51 lv [.int x] S P ↔ P (some (.int x)) S := rn_ir dq_Ground_layBones_51 rfl
theorem dq_Laid_init_0 : decode (km_c mm_Laid_init) 0 = .ok (.aload_n 0, 1) := by decide +kernel
theorem sq_Laid_init_0 : rn G mm_Laid_init 0 [some (.ref z)] st S P ↔ rn G mm_Laid_init 1 [some (.ref z)] (.ref z :: st) S P := rn_s dq_Laid_init_0 rfl rfl rfl
theorem dq_Laid_init_1 : decode (km_c mm_Laid_init) 1 = .ok (.invokespecial 3, 3) := by decide +kernel
theorem dq_Laid_init_4 : decode (km_c mm_Laid_init) 4 = .ok (.aload_n 0, 1) := by decide +kernel
theorem sq_Laid_init_4 : rn G mm_Laid_init 4 [some (.ref z)] st S P ↔ rn G mm_Laid_init 5 [some (.ref z)] (.ref z :: st) S P := rn_s dq_Laid_init_4 rfl rfl rfl
theorem dq_Laid_init_5 : decode (km_c mm_Laid_init) 5 = .ok (.bipush 60, 2) := by decide +kernel
theorem sq_Laid_init_5 : rn G mm_Laid_init 5 lv st S P ↔ rn G mm_Laid_init 7 lv (.int (nI 60) :: st) S P := rn_s dq_Laid_init_5 rfl rfl rfl
theorem dq_Laid_init_7 : decode (km_c mm_Laid_init) 7 = .ok (.newarray .int, 2) := by decide +kernel
theorem dq_Laid_init_9 : decode (km_c mm_Laid_init) 9 = .ok (.putfield 9, 3) := by decide +kernel
theorem dq_Laid_init_12 : decode (km_c mm_Laid_init) 12 = .ok (.aload_n 0, 1) := by decide +kernel
theorem sq_Laid_init_12 : rn G mm_Laid_init 12 [some (.ref z)] st S P ↔ rn G mm_Laid_init 13 [some (.ref z)] (.ref z :: st) S P := rn_s dq_Laid_init_12 rfl rfl rfl
theorem dq_Laid_init_13 : decode (km_c mm_Laid_init) 13 = .ok (.iconst 0, 1) := by decide +kernel
theorem sq_Laid_init_13 : rn G mm_Laid_init 13 lv st S P ↔ rn G mm_Laid_init 14 lv (.int (nI 0) :: st) S P := rn_s dq_Laid_init_13 rfl rfl rfl
theorem dq_Laid_init_14 : decode (km_c mm_Laid_init) 14 = .ok (.putfield 15, 3) := by decide +kernel
theorem sq_Laid_init_14_12 (ho : sx_o o pl kp) : rn (lt_G o L) mm_Laid_init 14 lv (.int x :: .ref 12 :: st) (sx pl kp I A) P ↔ rn (lt_G o L) mm_Laid_init 17 lv st (sx pl kp (u2 I 12 1 x) A) P := rx_put (h := "") (ci := 1) (k := 1) dq_Laid_init_14 (by decide +kernel) ho (up_b (by decide)) rfl rfl (by decide) (by decide)
theorem sq_Laid_init_14_147 (ho : sx_o o pl true) : rn (lt_G o L) mm_Laid_init 14 lv (.int x :: .ref 147 :: st) (sx pl true I A) P ↔ rn (lt_G o L) mm_Laid_init 17 lv st (sx pl true (u2 I 147 1 x) A) P := rx_put (h := "") (ci := 1) (k := 1) dq_Laid_init_14 (by decide +kernel) ho (up_k (by decide) (by decide)) rfl rfl (by decide) (by decide)
theorem dq_Laid_init_17 : decode (km_c mm_Laid_init) 17 = .ok (.return_, 1) := by decide +kernel
theorem sq_Laid_init_17 : rn G mm_Laid_init 17 lv [] S P ↔ P none S := rn_vr dq_Laid_init_17 rfl
theorem dq_Laid_add_0 : decode (km_c mm_Laid_add) 0 = .ok (.aload_n 0, 1) := by decide +kernel
theorem sq_Laid_add_0 : rn G mm_Laid_add 0 [some (.ref z), a1] st S P ↔ rn G mm_Laid_add 1 [some (.ref z), a1] (.ref z :: st) S P := rn_s dq_Laid_add_0 rfl rfl rfl
theorem dq_Laid_add_1 : decode (km_c mm_Laid_add) 1 = .ok (.getfield 15, 3) := by decide +kernel
theorem sq_Laid_add_1_12 (ho : sx_o o pl kp) : rn (lt_G o L) mm_Laid_add 1 lv (.ref 12 :: st) (sx pl kp I A) P ↔ rn (lt_G o L) mm_Laid_add 4 lv (.int (I 12 1) :: st) (sx pl kp I A) P := rx_get (h := "") (ci := 1) (k := 1) dq_Laid_add_1 (by decide +kernel) ho (up_b (by decide)) rfl rfl (fl_i (by decide))
theorem sq_Laid_add_1_147 (ho : sx_o o pl true) : rn (lt_G o L) mm_Laid_add 1 lv (.ref 147 :: st) (sx pl true I A) P ↔ rn (lt_G o L) mm_Laid_add 4 lv (.int (I 147 1) :: st) (sx pl true I A) P := rx_get (h := "") (ci := 1) (k := 1) dq_Laid_add_1 (by decide +kernel) ho (up_k (by decide) (by decide)) rfl rfl (fl_i (by decide))
theorem dq_Laid_add_4 : decode (km_c mm_Laid_add) 4 = .ok (.bipush 60, 2) := by decide +kernel
theorem sq_Laid_add_4 : rn G mm_Laid_add 4 lv st S P ↔ rn G mm_Laid_add 6 lv (.int (nI 60) :: st) S P := rn_s dq_Laid_add_4 rfl rfl rfl
theorem dq_Laid_add_6 : decode (km_c mm_Laid_add) 6 = .ok (.if_icmp .ge 23, 3) := by decide +kernel
theorem sq_Laid_add_6 : rn G mm_Laid_add 6 lv (.int x2 :: .int x :: st) S P ↔ ((x2 ≤ x → rn G mm_Laid_add 29 lv st S P) ∧ (¬ (x2 ≤ x) → rn G mm_Laid_add 9 lv st S P)) := rn_b (off := 23) dq_Laid_add_6 rfl rfl rfl rfl
theorem dq_Laid_add_9 : decode (km_c mm_Laid_add) 9 = .ok (.aload_n 0, 1) := by decide +kernel
theorem sq_Laid_add_9 : rn G mm_Laid_add 9 [some (.ref z), a1] st S P ↔ rn G mm_Laid_add 10 [some (.ref z), a1] (.ref z :: st) S P := rn_s dq_Laid_add_9 rfl rfl rfl
theorem dq_Laid_add_10 : decode (km_c mm_Laid_add) 10 = .ok (.getfield 9, 3) := by decide +kernel
theorem sq_Laid_add_10_12 (ho : sx_o o pl kp) : rn (lt_G o L) mm_Laid_add 10 lv (.ref 12 :: st) (sx pl kp I A) P ↔ rn (lt_G o L) mm_Laid_add 13 lv (.ref 13 :: st) (sx pl kp I A) P := rx_get (h := "") (ci := 1) (k := 0) dq_Laid_add_10 (by decide +kernel) ho (up_b (by decide)) rfl rfl (fl_r (by decide) (by decide) (by decide) (by decide))
theorem sq_Laid_add_10_147 (ho : sx_o o pl true) : rn (lt_G o L) mm_Laid_add 10 lv (.ref 147 :: st) (sx pl true I A) P ↔ rn (lt_G o L) mm_Laid_add 13 lv (.ref 148 :: st) (sx pl true I A) P := rx_get (h := "") (ci := 1) (k := 0) dq_Laid_add_10 (by decide +kernel) ho (up_k (by decide) (by decide)) rfl rfl (fl_k (by decide) (by decide))
theorem dq_Laid_add_13 : decode (km_c mm_Laid_add) 13 = .ok (.aload_n 0, 1) := by decide +kernel
theorem sq_Laid_add_13 : rn G mm_Laid_add 13 [some (.ref z), a1] st S P ↔ rn G mm_Laid_add 14 [some (.ref z), a1] (.ref z :: st) S P := rn_s dq_Laid_add_13 rfl rfl rfl
theorem dq_Laid_add_14 : decode (km_c mm_Laid_add) 14 = .ok (.getfield 15, 3) := by decide +kernel
theorem sq_Laid_add_14_12 (ho : sx_o o pl kp) : rn (lt_G o L) mm_Laid_add 14 lv (.ref 12 :: st) (sx pl kp I A) P ↔ rn (lt_G o L) mm_Laid_add 17 lv (.int (I 12 1) :: st) (sx pl kp I A) P := rx_get (h := "") (ci := 1) (k := 1) dq_Laid_add_14 (by decide +kernel) ho (up_b (by decide)) rfl rfl (fl_i (by decide))
theorem sq_Laid_add_14_147 (ho : sx_o o pl true) : rn (lt_G o L) mm_Laid_add 14 lv (.ref 147 :: st) (sx pl true I A) P ↔ rn (lt_G o L) mm_Laid_add 17 lv (.int (I 147 1) :: st) (sx pl true I A) P := rx_get (h := "") (ci := 1) (k := 1) dq_Laid_add_14 (by decide +kernel) ho (up_k (by decide) (by decide)) rfl rfl (fl_i (by decide))
theorem dq_Laid_add_17 : decode (km_c mm_Laid_add) 17 = .ok (.iload_n 1, 1) := by decide +kernel
theorem sq_Laid_add_17 : rn G mm_Laid_add 17 [a0, some (.int x)] st S P ↔ rn G mm_Laid_add 18 [a0, some (.int x)] (.int x :: st) S P := rn_s dq_Laid_add_17 rfl rfl rfl
theorem dq_Laid_add_18 : decode (km_c mm_Laid_add) 18 = .ok (.iastore, 1) := by decide +kernel
theorem sq_Laid_add_18 (ho : sx_o o pl kp) (hk : ak L a = 0) (hu : sx_up pl kp a = true) (hc : c < ln L a) (hn : ln L a < 2 ^ 31) : rn (lt_G o L) mm_Laid_add 18 lv (.int x :: .int (nI c) :: .ref a :: st) (sx pl kp I A) P ↔ rn (lt_G o L) mm_Laid_add 19 lv st (sx pl kp I (u2 A a c x)) P := rx_ist dq_Laid_add_18 ho hk hu hc hn
theorem dq_Laid_add_19 : decode (km_c mm_Laid_add) 19 = .ok (.aload_n 0, 1) := by decide +kernel
theorem sq_Laid_add_19 : rn G mm_Laid_add 19 [some (.ref z), a1] st S P ↔ rn G mm_Laid_add 20 [some (.ref z), a1] (.ref z :: st) S P := rn_s dq_Laid_add_19 rfl rfl rfl
theorem dq_Laid_add_20 : decode (km_c mm_Laid_add) 20 = .ok (.dup, 1) := by decide +kernel
theorem sq_Laid_add_20i : rn G mm_Laid_add 20 lv (.int x :: st) S P ↔ rn G mm_Laid_add 21 lv (.int x :: .int x :: st) S P := rn_s dq_Laid_add_20 rfl rfl rfl
theorem sq_Laid_add_20r : rn G mm_Laid_add 20 lv (.ref z :: st) S P ↔ rn G mm_Laid_add 21 lv (.ref z :: .ref z :: st) S P := rn_s dq_Laid_add_20 rfl rfl rfl
theorem dq_Laid_add_21 : decode (km_c mm_Laid_add) 21 = .ok (.getfield 15, 3) := by decide +kernel
theorem sq_Laid_add_21_12 (ho : sx_o o pl kp) : rn (lt_G o L) mm_Laid_add 21 lv (.ref 12 :: st) (sx pl kp I A) P ↔ rn (lt_G o L) mm_Laid_add 24 lv (.int (I 12 1) :: st) (sx pl kp I A) P := rx_get (h := "") (ci := 1) (k := 1) dq_Laid_add_21 (by decide +kernel) ho (up_b (by decide)) rfl rfl (fl_i (by decide))
theorem sq_Laid_add_21_147 (ho : sx_o o pl true) : rn (lt_G o L) mm_Laid_add 21 lv (.ref 147 :: st) (sx pl true I A) P ↔ rn (lt_G o L) mm_Laid_add 24 lv (.int (I 147 1) :: st) (sx pl true I A) P := rx_get (h := "") (ci := 1) (k := 1) dq_Laid_add_21 (by decide +kernel) ho (up_k (by decide) (by decide)) rfl rfl (fl_i (by decide))
theorem dq_Laid_add_24 : decode (km_c mm_Laid_add) 24 = .ok (.iconst 1, 1) := by decide +kernel
theorem sq_Laid_add_24 : rn G mm_Laid_add 24 lv st S P ↔ rn G mm_Laid_add 25 lv (.int (nI 1) :: st) S P := rn_s dq_Laid_add_24 rfl rfl rfl
theorem dq_Laid_add_25 : decode (km_c mm_Laid_add) 25 = .ok (.iadd, 1) := by decide +kernel
theorem sq_Laid_add_25 : rn G mm_Laid_add 25 lv (.int x2 :: .int x :: st) S P ↔ rn G mm_Laid_add 26 lv (.int (x + x2) :: st) S P := rn_s dq_Laid_add_25 rfl rfl rfl
theorem dq_Laid_add_26 : decode (km_c mm_Laid_add) 26 = .ok (.putfield 15, 3) := by decide +kernel
theorem sq_Laid_add_26_12 (ho : sx_o o pl kp) : rn (lt_G o L) mm_Laid_add 26 lv (.int x :: .ref 12 :: st) (sx pl kp I A) P ↔ rn (lt_G o L) mm_Laid_add 29 lv st (sx pl kp (u2 I 12 1 x) A) P := rx_put (h := "") (ci := 1) (k := 1) dq_Laid_add_26 (by decide +kernel) ho (up_b (by decide)) rfl rfl (by decide) (by decide)
theorem sq_Laid_add_26_147 (ho : sx_o o pl true) : rn (lt_G o L) mm_Laid_add 26 lv (.int x :: .ref 147 :: st) (sx pl true I A) P ↔ rn (lt_G o L) mm_Laid_add 29 lv st (sx pl true (u2 I 147 1 x) A) P := rx_put (h := "") (ci := 1) (k := 1) dq_Laid_add_26 (by decide +kernel) ho (up_k (by decide) (by decide)) rfl rfl (by decide) (by decide)
theorem dq_Laid_add_29 : decode (km_c mm_Laid_add) 29 = .ok (.return_, 1) := by decide +kernel
theorem sq_Laid_add_29 : rn G mm_Laid_add 29 lv [] S P ↔ P none S := rn_vr dq_Laid_add_29 rfl
theorem dq_Laid_bends_0 : decode (km_c mm_Laid_bends) 0 = .ok (.iconst 0, 1) := by decide +kernel
theorem sq_Laid_bends_0 : rn G mm_Laid_bends 0 lv st S P ↔ rn G mm_Laid_bends 1 lv (.int (nI 0) :: st) S P := rn_s dq_Laid_bends_0 rfl rfl rfl
theorem dq_Laid_bends_1 : decode (km_c mm_Laid_bends) 1 = .ok (.istore_n 1, 1) := by decide +kernel
theorem sq_Laid_bends_1n : rn G mm_Laid_bends 1 [none, a1, a2] (.int x :: st) S P ↔ rn G mm_Laid_bends 2 [none, some (.int x), a2] st S P := rn_s dq_Laid_bends_1 rfl rfl rfl
theorem sq_Laid_bends_1i : rn G mm_Laid_bends 1 [some (.int x2), a1, a2] (.int x :: st) S P ↔ rn G mm_Laid_bends 2 [some (.int x2), some (.int x), a2] st S P := rn_s dq_Laid_bends_1 rfl rfl rfl
theorem sq_Laid_bends_1r : rn G mm_Laid_bends 1 [some (.ref z2), a1, a2] (.int x :: st) S P ↔ rn G mm_Laid_bends 2 [some (.ref z2), some (.int x), a2] st S P := rn_s dq_Laid_bends_1 rfl rfl rfl
theorem sq_Laid_bends_1l : rn G mm_Laid_bends 1 [some (.long y2), a1, a2] (.int x :: st) S P ↔ rn G mm_Laid_bends 2 [none, some (.int x), a2] st S P := rn_s dq_Laid_bends_1 rfl rfl rfl
theorem dq_Laid_bends_2 : decode (km_c mm_Laid_bends) 2 = .ok (.iconst 1, 1) := by decide +kernel
theorem sq_Laid_bends_2 : rn G mm_Laid_bends 2 lv st S P ↔ rn G mm_Laid_bends 3 lv (.int (nI 1) :: st) S P := rn_s dq_Laid_bends_2 rfl rfl rfl
theorem dq_Laid_bends_3 : decode (km_c mm_Laid_bends) 3 = .ok (.istore_n 2, 1) := by decide +kernel
theorem sq_Laid_bends_3n : rn G mm_Laid_bends 3 [a0, none, a2] (.int x :: st) S P ↔ rn G mm_Laid_bends 4 [a0, none, some (.int x)] st S P := rn_s dq_Laid_bends_3 rfl rfl rfl
theorem sq_Laid_bends_3i : rn G mm_Laid_bends 3 [a0, some (.int x2), a2] (.int x :: st) S P ↔ rn G mm_Laid_bends 4 [a0, some (.int x2), some (.int x)] st S P := rn_s dq_Laid_bends_3 rfl rfl rfl
theorem sq_Laid_bends_3r : rn G mm_Laid_bends 3 [a0, some (.ref z2), a2] (.int x :: st) S P ↔ rn G mm_Laid_bends 4 [a0, some (.ref z2), some (.int x)] st S P := rn_s dq_Laid_bends_3 rfl rfl rfl
theorem sq_Laid_bends_3l : rn G mm_Laid_bends 3 [a0, some (.long y2), a2] (.int x :: st) S P ↔ rn G mm_Laid_bends 4 [a0, none, some (.int x)] st S P := rn_s dq_Laid_bends_3 rfl rfl rfl
theorem dq_Laid_bends_4 : decode (km_c mm_Laid_bends) 4 = .ok (.iload_n 2, 1) := by decide +kernel
theorem sq_Laid_bends_4 : rn G mm_Laid_bends 4 [a0, a1, some (.int x)] st S P ↔ rn G mm_Laid_bends 5 [a0, a1, some (.int x)] (.int x :: st) S P := rn_s dq_Laid_bends_4 rfl rfl rfl
theorem dq_Laid_bends_5 : decode (km_c mm_Laid_bends) 5 = .ok (.iconst 1, 1) := by decide +kernel
theorem sq_Laid_bends_5 : rn G mm_Laid_bends 5 lv st S P ↔ rn G mm_Laid_bends 6 lv (.int (nI 1) :: st) S P := rn_s dq_Laid_bends_5 rfl rfl rfl
theorem dq_Laid_bends_6 : decode (km_c mm_Laid_bends) 6 = .ok (.iadd, 1) := by decide +kernel
theorem sq_Laid_bends_6 : rn G mm_Laid_bends 6 lv (.int x2 :: .int x :: st) S P ↔ rn G mm_Laid_bends 7 lv (.int (x + x2) :: st) S P := rn_s dq_Laid_bends_6 rfl rfl rfl
theorem dq_Laid_bends_7 : decode (km_c mm_Laid_bends) 7 = .ok (.aload_n 0, 1) := by decide +kernel
theorem sq_Laid_bends_7 : rn G mm_Laid_bends 7 [some (.ref z), a1, a2] st S P ↔ rn G mm_Laid_bends 8 [some (.ref z), a1, a2] (.ref z :: st) S P := rn_s dq_Laid_bends_7 rfl rfl rfl
theorem dq_Laid_bends_8 : decode (km_c mm_Laid_bends) 8 = .ok (.getfield 15, 3) := by decide +kernel
theorem sq_Laid_bends_8_12 (ho : sx_o o pl kp) : rn (lt_G o L) mm_Laid_bends 8 lv (.ref 12 :: st) (sx pl kp I A) P ↔ rn (lt_G o L) mm_Laid_bends 11 lv (.int (I 12 1) :: st) (sx pl kp I A) P := rx_get (h := "") (ci := 1) (k := 1) dq_Laid_bends_8 (by decide +kernel) ho (up_b (by decide)) rfl rfl (fl_i (by decide))
theorem sq_Laid_bends_8_147 (ho : sx_o o pl true) : rn (lt_G o L) mm_Laid_bends 8 lv (.ref 147 :: st) (sx pl true I A) P ↔ rn (lt_G o L) mm_Laid_bends 11 lv (.int (I 147 1) :: st) (sx pl true I A) P := rx_get (h := "") (ci := 1) (k := 1) dq_Laid_bends_8 (by decide +kernel) ho (up_k (by decide) (by decide)) rfl rfl (fl_i (by decide))
theorem dq_Laid_bends_11 : decode (km_c mm_Laid_bends) 11 = .ok (.if_icmp .ge 49, 3) := by decide +kernel
theorem sq_Laid_bends_11 : rn G mm_Laid_bends 11 lv (.int x2 :: .int x :: st) S P ↔ ((x2 ≤ x → rn G mm_Laid_bends 60 lv st S P) ∧ (¬ (x2 ≤ x) → rn G mm_Laid_bends 14 lv st S P)) := rn_b (off := 49) dq_Laid_bends_11 rfl rfl rfl rfl
theorem dq_Laid_bends_14 : decode (km_c mm_Laid_bends) 14 = .ok (.aload_n 0, 1) := by decide +kernel
theorem sq_Laid_bends_14 : rn G mm_Laid_bends 14 [some (.ref z), a1, a2] st S P ↔ rn G mm_Laid_bends 15 [some (.ref z), a1, a2] (.ref z :: st) S P := rn_s dq_Laid_bends_14 rfl rfl rfl
theorem dq_Laid_bends_15 : decode (km_c mm_Laid_bends) 15 = .ok (.getfield 9, 3) := by decide +kernel
theorem sq_Laid_bends_15_12 (ho : sx_o o pl kp) : rn (lt_G o L) mm_Laid_bends 15 lv (.ref 12 :: st) (sx pl kp I A) P ↔ rn (lt_G o L) mm_Laid_bends 18 lv (.ref 13 :: st) (sx pl kp I A) P := rx_get (h := "") (ci := 1) (k := 0) dq_Laid_bends_15 (by decide +kernel) ho (up_b (by decide)) rfl rfl (fl_r (by decide) (by decide) (by decide) (by decide))
theorem sq_Laid_bends_15_147 (ho : sx_o o pl true) : rn (lt_G o L) mm_Laid_bends 15 lv (.ref 147 :: st) (sx pl true I A) P ↔ rn (lt_G o L) mm_Laid_bends 18 lv (.ref 148 :: st) (sx pl true I A) P := rx_get (h := "") (ci := 1) (k := 0) dq_Laid_bends_15 (by decide +kernel) ho (up_k (by decide) (by decide)) rfl rfl (fl_k (by decide) (by decide))
theorem dq_Laid_bends_18 : decode (km_c mm_Laid_bends) 18 = .ok (.iload_n 2, 1) := by decide +kernel
theorem sq_Laid_bends_18 : rn G mm_Laid_bends 18 [a0, a1, some (.int x)] st S P ↔ rn G mm_Laid_bends 19 [a0, a1, some (.int x)] (.int x :: st) S P := rn_s dq_Laid_bends_18 rfl rfl rfl
theorem dq_Laid_bends_19 : decode (km_c mm_Laid_bends) 19 = .ok (.iconst 1, 1) := by decide +kernel
theorem sq_Laid_bends_19 : rn G mm_Laid_bends 19 lv st S P ↔ rn G mm_Laid_bends 20 lv (.int (nI 1) :: st) S P := rn_s dq_Laid_bends_19 rfl rfl rfl
theorem dq_Laid_bends_20 : decode (km_c mm_Laid_bends) 20 = .ok (.isub, 1) := by decide +kernel
theorem sq_Laid_bends_20 : rn G mm_Laid_bends 20 lv (.int x2 :: .int x :: st) S P ↔ rn G mm_Laid_bends 21 lv (.int (x - x2) :: st) S P := rn_s dq_Laid_bends_20 rfl rfl rfl
theorem dq_Laid_bends_21 : decode (km_c mm_Laid_bends) 21 = .ok (.iaload, 1) := by decide +kernel
theorem sq_Laid_bends_21 (ho : sx_o o pl kp) (hk : ak L a = 0) (hu : sx_up pl kp a = true ∨ 1000 ≤ a) (hc : c < ln L a) (hn : ln L a < 2 ^ 31) : rn (lt_G o L) mm_Laid_bends 21 lv (.int (nI c) :: .ref a :: st) (sx pl kp I A) P ↔ rn (lt_G o L) mm_Laid_bends 22 lv (.int (A a c) :: st) (sx pl kp I A) P := rx_ild dq_Laid_bends_21 ho hk hu hc hn
theorem dq_Laid_bends_22 : decode (km_c mm_Laid_bends) 22 = .ok (.aload_n 0, 1) := by decide +kernel
theorem sq_Laid_bends_22 : rn G mm_Laid_bends 22 [some (.ref z), a1, a2] st S P ↔ rn G mm_Laid_bends 23 [some (.ref z), a1, a2] (.ref z :: st) S P := rn_s dq_Laid_bends_22 rfl rfl rfl
theorem dq_Laid_bends_23 : decode (km_c mm_Laid_bends) 23 = .ok (.getfield 9, 3) := by decide +kernel
theorem sq_Laid_bends_23_12 (ho : sx_o o pl kp) : rn (lt_G o L) mm_Laid_bends 23 lv (.ref 12 :: st) (sx pl kp I A) P ↔ rn (lt_G o L) mm_Laid_bends 26 lv (.ref 13 :: st) (sx pl kp I A) P := rx_get (h := "") (ci := 1) (k := 0) dq_Laid_bends_23 (by decide +kernel) ho (up_b (by decide)) rfl rfl (fl_r (by decide) (by decide) (by decide) (by decide))
theorem sq_Laid_bends_23_147 (ho : sx_o o pl true) : rn (lt_G o L) mm_Laid_bends 23 lv (.ref 147 :: st) (sx pl true I A) P ↔ rn (lt_G o L) mm_Laid_bends 26 lv (.ref 148 :: st) (sx pl true I A) P := rx_get (h := "") (ci := 1) (k := 0) dq_Laid_bends_23 (by decide +kernel) ho (up_k (by decide) (by decide)) rfl rfl (fl_k (by decide) (by decide))
theorem dq_Laid_bends_26 : decode (km_c mm_Laid_bends) 26 = .ok (.iload_n 2, 1) := by decide +kernel
theorem sq_Laid_bends_26 : rn G mm_Laid_bends 26 [a0, a1, some (.int x)] st S P ↔ rn G mm_Laid_bends 27 [a0, a1, some (.int x)] (.int x :: st) S P := rn_s dq_Laid_bends_26 rfl rfl rfl
theorem dq_Laid_bends_27 : decode (km_c mm_Laid_bends) 27 = .ok (.iaload, 1) := by decide +kernel
theorem sq_Laid_bends_27 (ho : sx_o o pl kp) (hk : ak L a = 0) (hu : sx_up pl kp a = true ∨ 1000 ≤ a) (hc : c < ln L a) (hn : ln L a < 2 ^ 31) : rn (lt_G o L) mm_Laid_bends 27 lv (.int (nI c) :: .ref a :: st) (sx pl kp I A) P ↔ rn (lt_G o L) mm_Laid_bends 28 lv (.int (A a c) :: st) (sx pl kp I A) P := rx_ild dq_Laid_bends_27 ho hk hu hc hn
theorem dq_Laid_bends_28 : decode (km_c mm_Laid_bends) 28 = .ok (.invokestatic 25, 3) := by decide +kernel
theorem sq_Laid_bends_28 {x1 : Int32} {x2 : Int32} {v : Option Value} {S2 : ks_S} (hst : kx_cat st ≤ 8) (hc : ev G mm_Road_sideTo [.int x1, .int x2] S v S2) : rn G mm_Laid_bends 28 lv (.int x2 :: .int x1 :: st) S P ↔ rn G mm_Laid_bends 31 lv (v.toList ++ st) S2 P := rn_cs (k := 1) (host := "DeltaRoad") (E' := mm_Road_sideTo) dq_Laid_bends_28 (by decide) (by decide) rfl (ok_v rfl (by decide) (by decide) (Nat.le_add_left _ _) hst (Nat.le_of_ble_eq_true rfl) (Or.inl rfl)) rfl rfl hc
theorem dq_Laid_bends_31 : decode (km_c mm_Laid_bends) 31 = .ok (.aload_n 0, 1) := by decide +kernel
theorem sq_Laid_bends_31 : rn G mm_Laid_bends 31 [some (.ref z), a1, a2] st S P ↔ rn G mm_Laid_bends 32 [some (.ref z), a1, a2] (.ref z :: st) S P := rn_s dq_Laid_bends_31 rfl rfl rfl
theorem dq_Laid_bends_32 : decode (km_c mm_Laid_bends) 32 = .ok (.getfield 9, 3) := by decide +kernel
theorem sq_Laid_bends_32_12 (ho : sx_o o pl kp) : rn (lt_G o L) mm_Laid_bends 32 lv (.ref 12 :: st) (sx pl kp I A) P ↔ rn (lt_G o L) mm_Laid_bends 35 lv (.ref 13 :: st) (sx pl kp I A) P := rx_get (h := "") (ci := 1) (k := 0) dq_Laid_bends_32 (by decide +kernel) ho (up_b (by decide)) rfl rfl (fl_r (by decide) (by decide) (by decide) (by decide))
theorem sq_Laid_bends_32_147 (ho : sx_o o pl true) : rn (lt_G o L) mm_Laid_bends 32 lv (.ref 147 :: st) (sx pl true I A) P ↔ rn (lt_G o L) mm_Laid_bends 35 lv (.ref 148 :: st) (sx pl true I A) P := rx_get (h := "") (ci := 1) (k := 0) dq_Laid_bends_32 (by decide +kernel) ho (up_k (by decide) (by decide)) rfl rfl (fl_k (by decide) (by decide))
theorem dq_Laid_bends_35 : decode (km_c mm_Laid_bends) 35 = .ok (.iload_n 2, 1) := by decide +kernel
theorem sq_Laid_bends_35 : rn G mm_Laid_bends 35 [a0, a1, some (.int x)] st S P ↔ rn G mm_Laid_bends 36 [a0, a1, some (.int x)] (.int x :: st) S P := rn_s dq_Laid_bends_35 rfl rfl rfl
theorem dq_Laid_bends_36 : decode (km_c mm_Laid_bends) 36 = .ok (.iaload, 1) := by decide +kernel
theorem sq_Laid_bends_36 (ho : sx_o o pl kp) (hk : ak L a = 0) (hu : sx_up pl kp a = true ∨ 1000 ≤ a) (hc : c < ln L a) (hn : ln L a < 2 ^ 31) : rn (lt_G o L) mm_Laid_bends 36 lv (.int (nI c) :: .ref a :: st) (sx pl kp I A) P ↔ rn (lt_G o L) mm_Laid_bends 37 lv (.int (A a c) :: st) (sx pl kp I A) P := rx_ild dq_Laid_bends_36 ho hk hu hc hn
theorem dq_Laid_bends_37 : decode (km_c mm_Laid_bends) 37 = .ok (.aload_n 0, 1) := by decide +kernel
theorem sq_Laid_bends_37 : rn G mm_Laid_bends 37 [some (.ref z), a1, a2] st S P ↔ rn G mm_Laid_bends 38 [some (.ref z), a1, a2] (.ref z :: st) S P := rn_s dq_Laid_bends_37 rfl rfl rfl
theorem dq_Laid_bends_38 : decode (km_c mm_Laid_bends) 38 = .ok (.getfield 9, 3) := by decide +kernel
theorem sq_Laid_bends_38_12 (ho : sx_o o pl kp) : rn (lt_G o L) mm_Laid_bends 38 lv (.ref 12 :: st) (sx pl kp I A) P ↔ rn (lt_G o L) mm_Laid_bends 41 lv (.ref 13 :: st) (sx pl kp I A) P := rx_get (h := "") (ci := 1) (k := 0) dq_Laid_bends_38 (by decide +kernel) ho (up_b (by decide)) rfl rfl (fl_r (by decide) (by decide) (by decide) (by decide))
theorem sq_Laid_bends_38_147 (ho : sx_o o pl true) : rn (lt_G o L) mm_Laid_bends 38 lv (.ref 147 :: st) (sx pl true I A) P ↔ rn (lt_G o L) mm_Laid_bends 41 lv (.ref 148 :: st) (sx pl true I A) P := rx_get (h := "") (ci := 1) (k := 0) dq_Laid_bends_38 (by decide +kernel) ho (up_k (by decide) (by decide)) rfl rfl (fl_k (by decide) (by decide))
theorem dq_Laid_bends_41 : decode (km_c mm_Laid_bends) 41 = .ok (.iload_n 2, 1) := by decide +kernel
theorem sq_Laid_bends_41 : rn G mm_Laid_bends 41 [a0, a1, some (.int x)] st S P ↔ rn G mm_Laid_bends 42 [a0, a1, some (.int x)] (.int x :: st) S P := rn_s dq_Laid_bends_41 rfl rfl rfl
theorem dq_Laid_bends_42 : decode (km_c mm_Laid_bends) 42 = .ok (.iconst 1, 1) := by decide +kernel
theorem sq_Laid_bends_42 : rn G mm_Laid_bends 42 lv st S P ↔ rn G mm_Laid_bends 43 lv (.int (nI 1) :: st) S P := rn_s dq_Laid_bends_42 rfl rfl rfl
theorem dq_Laid_bends_43 : decode (km_c mm_Laid_bends) 43 = .ok (.iadd, 1) := by decide +kernel
theorem sq_Laid_bends_43 : rn G mm_Laid_bends 43 lv (.int x2 :: .int x :: st) S P ↔ rn G mm_Laid_bends 44 lv (.int (x + x2) :: st) S P := rn_s dq_Laid_bends_43 rfl rfl rfl
theorem dq_Laid_bends_44 : decode (km_c mm_Laid_bends) 44 = .ok (.iaload, 1) := by decide +kernel
theorem sq_Laid_bends_44 (ho : sx_o o pl kp) (hk : ak L a = 0) (hu : sx_up pl kp a = true ∨ 1000 ≤ a) (hc : c < ln L a) (hn : ln L a < 2 ^ 31) : rn (lt_G o L) mm_Laid_bends 44 lv (.int (nI c) :: .ref a :: st) (sx pl kp I A) P ↔ rn (lt_G o L) mm_Laid_bends 45 lv (.int (A a c) :: st) (sx pl kp I A) P := rx_ild dq_Laid_bends_44 ho hk hu hc hn
theorem dq_Laid_bends_45 : decode (km_c mm_Laid_bends) 45 = .ok (.invokestatic 25, 3) := by decide +kernel
theorem sq_Laid_bends_45 {x1 : Int32} {x2 : Int32} {v : Option Value} {S2 : ks_S} (hst : kx_cat st ≤ 8) (hc : ev G mm_Road_sideTo [.int x1, .int x2] S v S2) : rn G mm_Laid_bends 45 lv (.int x2 :: .int x1 :: st) S P ↔ rn G mm_Laid_bends 48 lv (v.toList ++ st) S2 P := rn_cs (k := 1) (host := "DeltaRoad") (E' := mm_Road_sideTo) dq_Laid_bends_45 (by decide) (by decide) rfl (ok_v rfl (by decide) (by decide) (Nat.le_add_left _ _) hst (Nat.le_of_ble_eq_true rfl) (Or.inl rfl)) rfl rfl hc
theorem dq_Laid_bends_48 : decode (km_c mm_Laid_bends) 48 = .ok (.if_icmp .eq 6, 3) := by decide +kernel
theorem sq_Laid_bends_48 : rn G mm_Laid_bends 48 lv (.int x2 :: .int x :: st) S P ↔ ((x = x2 → rn G mm_Laid_bends 54 lv st S P) ∧ (¬ (x = x2) → rn G mm_Laid_bends 51 lv st S P)) := rn_b (off := 6) dq_Laid_bends_48 rfl rfl rfl rfl
theorem dq_Laid_bends_51 : decode (km_c mm_Laid_bends) 51 = .ok (.iinc 1 1, 3) := by decide +kernel
theorem sq_Laid_bends_51n : rn G mm_Laid_bends 51 [none, some (.int x), a2] st S P ↔ rn G mm_Laid_bends 54 [none, some (.int (x + nI 1)), a2] st S P := rn_s dq_Laid_bends_51 rfl rfl rfl
theorem sq_Laid_bends_51i : rn G mm_Laid_bends 51 [some (.int x2), some (.int x), a2] st S P ↔ rn G mm_Laid_bends 54 [some (.int x2), some (.int (x + nI 1)), a2] st S P := rn_s dq_Laid_bends_51 rfl rfl rfl
theorem sq_Laid_bends_51r : rn G mm_Laid_bends 51 [some (.ref z2), some (.int x), a2] st S P ↔ rn G mm_Laid_bends 54 [some (.ref z2), some (.int (x + nI 1)), a2] st S P := rn_s dq_Laid_bends_51 rfl rfl rfl
theorem sq_Laid_bends_51l : rn G mm_Laid_bends 51 [some (.long y2), some (.int x), a2] st S P ↔ rn G mm_Laid_bends 54 [none, some (.int (x + nI 1)), a2] st S P := rn_s dq_Laid_bends_51 rfl rfl rfl
theorem dq_Laid_bends_54 : decode (km_c mm_Laid_bends) 54 = .ok (.iinc 2 1, 3) := by decide +kernel
theorem sq_Laid_bends_54n : rn G mm_Laid_bends 54 [a0, none, some (.int x)] st S P ↔ rn G mm_Laid_bends 57 [a0, none, some (.int (x + nI 1))] st S P := rn_s dq_Laid_bends_54 rfl rfl rfl
theorem sq_Laid_bends_54i : rn G mm_Laid_bends 54 [a0, some (.int x2), some (.int x)] st S P ↔ rn G mm_Laid_bends 57 [a0, some (.int x2), some (.int (x + nI 1))] st S P := rn_s dq_Laid_bends_54 rfl rfl rfl
theorem sq_Laid_bends_54r : rn G mm_Laid_bends 54 [a0, some (.ref z2), some (.int x)] st S P ↔ rn G mm_Laid_bends 57 [a0, some (.ref z2), some (.int (x + nI 1))] st S P := rn_s dq_Laid_bends_54 rfl rfl rfl
theorem sq_Laid_bends_54l : rn G mm_Laid_bends 54 [a0, some (.long y2), some (.int x)] st S P ↔ rn G mm_Laid_bends 57 [a0, none, some (.int (x + nI 1))] st S P := rn_s dq_Laid_bends_54 rfl rfl rfl
theorem dq_Laid_bends_57 : decode (km_c mm_Laid_bends) 57 = .ok (.goto (-53), 3) := by decide +kernel
theorem sq_Laid_bends_57 : rn G mm_Laid_bends 57 lv st S P ↔ rn G mm_Laid_bends 4 lv st S P := rn_s dq_Laid_bends_57 rfl rfl rfl
theorem dq_Laid_bends_60 : decode (km_c mm_Laid_bends) 60 = .ok (.iload_n 1, 1) := by decide +kernel
theorem sq_Laid_bends_60 : rn G mm_Laid_bends 60 [a0, some (.int x), a2] st S P ↔ rn G mm_Laid_bends 61 [a0, some (.int x), a2] (.int x :: st) S P := rn_s dq_Laid_bends_60 rfl rfl rfl
theorem dq_Laid_bends_61 : decode (km_c mm_Laid_bends) 61 = .ok (.ireturn, 1) := by decide +kernel
theorem sq_Laid_bends_61 : rn G mm_Laid_bends 61 lv [.int x] S P ↔ P (some (.int x)) S := rn_ir dq_Laid_bends_61 rfl
theorem dq_Laid_copy_0 : decode (km_c mm_Laid_copy) 0 = .ok (.aload_n 1, 1) := by decide +kernel
theorem sq_Laid_copy_0 : rn G mm_Laid_copy 0 [a0, some (.ref z)] st S P ↔ rn G mm_Laid_copy 1 [a0, some (.ref z)] (.ref z :: st) S P := rn_s dq_Laid_copy_0 rfl rfl rfl
theorem dq_Laid_copy_1 : decode (km_c mm_Laid_copy) 1 = .ok (.getfield 9, 3) := by decide +kernel
theorem sq_Laid_copy_1_12 (ho : sx_o o pl kp) : rn (lt_G o L) mm_Laid_copy 1 lv (.ref 12 :: st) (sx pl kp I A) P ↔ rn (lt_G o L) mm_Laid_copy 4 lv (.ref 13 :: st) (sx pl kp I A) P := rx_get (h := "") (ci := 1) (k := 0) dq_Laid_copy_1 (by decide +kernel) ho (up_b (by decide)) rfl rfl (fl_r (by decide) (by decide) (by decide) (by decide))
theorem sq_Laid_copy_1_147 (ho : sx_o o pl true) : rn (lt_G o L) mm_Laid_copy 1 lv (.ref 147 :: st) (sx pl true I A) P ↔ rn (lt_G o L) mm_Laid_copy 4 lv (.ref 148 :: st) (sx pl true I A) P := rx_get (h := "") (ci := 1) (k := 0) dq_Laid_copy_1 (by decide +kernel) ho (up_k (by decide) (by decide)) rfl rfl (fl_k (by decide) (by decide))
theorem dq_Laid_copy_4 : decode (km_c mm_Laid_copy) 4 = .ok (.iconst 0, 1) := by decide +kernel
theorem sq_Laid_copy_4 : rn G mm_Laid_copy 4 lv st S P ↔ rn G mm_Laid_copy 5 lv (.int (nI 0) :: st) S P := rn_s dq_Laid_copy_4 rfl rfl rfl
theorem dq_Laid_copy_5 : decode (km_c mm_Laid_copy) 5 = .ok (.aload_n 0, 1) := by decide +kernel
theorem sq_Laid_copy_5 : rn G mm_Laid_copy 5 [some (.ref z), a1] st S P ↔ rn G mm_Laid_copy 6 [some (.ref z), a1] (.ref z :: st) S P := rn_s dq_Laid_copy_5 rfl rfl rfl
theorem dq_Laid_copy_6 : decode (km_c mm_Laid_copy) 6 = .ok (.getfield 9, 3) := by decide +kernel
theorem sq_Laid_copy_6_12 (ho : sx_o o pl kp) : rn (lt_G o L) mm_Laid_copy 6 lv (.ref 12 :: st) (sx pl kp I A) P ↔ rn (lt_G o L) mm_Laid_copy 9 lv (.ref 13 :: st) (sx pl kp I A) P := rx_get (h := "") (ci := 1) (k := 0) dq_Laid_copy_6 (by decide +kernel) ho (up_b (by decide)) rfl rfl (fl_r (by decide) (by decide) (by decide) (by decide))
theorem sq_Laid_copy_6_147 (ho : sx_o o pl true) : rn (lt_G o L) mm_Laid_copy 6 lv (.ref 147 :: st) (sx pl true I A) P ↔ rn (lt_G o L) mm_Laid_copy 9 lv (.ref 148 :: st) (sx pl true I A) P := rx_get (h := "") (ci := 1) (k := 0) dq_Laid_copy_6 (by decide +kernel) ho (up_k (by decide) (by decide)) rfl rfl (fl_k (by decide) (by decide))
theorem dq_Laid_copy_9 : decode (km_c mm_Laid_copy) 9 = .ok (.iconst 0, 1) := by decide +kernel
theorem sq_Laid_copy_9 : rn G mm_Laid_copy 9 lv st S P ↔ rn G mm_Laid_copy 10 lv (.int (nI 0) :: st) S P := rn_s dq_Laid_copy_9 rfl rfl rfl
theorem dq_Laid_copy_10 : decode (km_c mm_Laid_copy) 10 = .ok (.bipush 60, 2) := by decide +kernel
theorem sq_Laid_copy_10 : rn G mm_Laid_copy 10 lv st S P ↔ rn G mm_Laid_copy 12 lv (.int (nI 60) :: st) S P := rn_s dq_Laid_copy_10 rfl rfl rfl
theorem dq_Laid_copy_12 : decode (km_c mm_Laid_copy) 12 = .ok (.invokestatic 19, 3) := by decide +kernel
theorem dq_Laid_copy_15 : decode (km_c mm_Laid_copy) 15 = .ok (.aload_n 0, 1) := by decide +kernel
theorem sq_Laid_copy_15 : rn G mm_Laid_copy 15 [some (.ref z), a1] st S P ↔ rn G mm_Laid_copy 16 [some (.ref z), a1] (.ref z :: st) S P := rn_s dq_Laid_copy_15 rfl rfl rfl
theorem dq_Laid_copy_16 : decode (km_c mm_Laid_copy) 16 = .ok (.aload_n 1, 1) := by decide +kernel
theorem sq_Laid_copy_16 : rn G mm_Laid_copy 16 [a0, some (.ref z)] st S P ↔ rn G mm_Laid_copy 17 [a0, some (.ref z)] (.ref z :: st) S P := rn_s dq_Laid_copy_16 rfl rfl rfl
theorem dq_Laid_copy_17 : decode (km_c mm_Laid_copy) 17 = .ok (.getfield 15, 3) := by decide +kernel
theorem sq_Laid_copy_17_12 (ho : sx_o o pl kp) : rn (lt_G o L) mm_Laid_copy 17 lv (.ref 12 :: st) (sx pl kp I A) P ↔ rn (lt_G o L) mm_Laid_copy 20 lv (.int (I 12 1) :: st) (sx pl kp I A) P := rx_get (h := "") (ci := 1) (k := 1) dq_Laid_copy_17 (by decide +kernel) ho (up_b (by decide)) rfl rfl (fl_i (by decide))
theorem sq_Laid_copy_17_147 (ho : sx_o o pl true) : rn (lt_G o L) mm_Laid_copy 17 lv (.ref 147 :: st) (sx pl true I A) P ↔ rn (lt_G o L) mm_Laid_copy 20 lv (.int (I 147 1) :: st) (sx pl true I A) P := rx_get (h := "") (ci := 1) (k := 1) dq_Laid_copy_17 (by decide +kernel) ho (up_k (by decide) (by decide)) rfl rfl (fl_i (by decide))
theorem dq_Laid_copy_20 : decode (km_c mm_Laid_copy) 20 = .ok (.putfield 15, 3) := by decide +kernel
theorem sq_Laid_copy_20_12 (ho : sx_o o pl kp) : rn (lt_G o L) mm_Laid_copy 20 lv (.int x :: .ref 12 :: st) (sx pl kp I A) P ↔ rn (lt_G o L) mm_Laid_copy 23 lv st (sx pl kp (u2 I 12 1 x) A) P := rx_put (h := "") (ci := 1) (k := 1) dq_Laid_copy_20 (by decide +kernel) ho (up_b (by decide)) rfl rfl (by decide) (by decide)
theorem sq_Laid_copy_20_147 (ho : sx_o o pl true) : rn (lt_G o L) mm_Laid_copy 20 lv (.int x :: .ref 147 :: st) (sx pl true I A) P ↔ rn (lt_G o L) mm_Laid_copy 23 lv st (sx pl true (u2 I 147 1 x) A) P := rx_put (h := "") (ci := 1) (k := 1) dq_Laid_copy_20 (by decide +kernel) ho (up_k (by decide) (by decide)) rfl rfl (by decide) (by decide)
theorem dq_Laid_copy_23 : decode (km_c mm_Laid_copy) 23 = .ok (.return_, 1) := by decide +kernel
theorem sq_Laid_copy_23 : rn G mm_Laid_copy 23 lv [] S P ↔ P none S := rn_vr dq_Laid_copy_23 rfl
theorem dq_Water_init_0 : decode (km_c mm_Water_init) 0 = .ok (.aload_n 0, 1) := by decide +kernel
theorem sq_Water_init_0 : rn G mm_Water_init 0 [some (.ref z)] st S P ↔ rn G mm_Water_init 1 [some (.ref z)] (.ref z :: st) S P := rn_s dq_Water_init_0 rfl rfl rfl
theorem dq_Water_init_1 : decode (km_c mm_Water_init) 1 = .ok (.invokespecial 3, 3) := by decide +kernel
theorem dq_Water_init_4 : decode (km_c mm_Water_init) 4 = .ok (.aload_n 0, 1) := by decide +kernel
theorem sq_Water_init_4 : rn G mm_Water_init 4 [some (.ref z)] st S P ↔ rn G mm_Water_init 5 [some (.ref z)] (.ref z :: st) S P := rn_s dq_Water_init_4 rfl rfl rfl
theorem dq_Water_init_5 : decode (km_c mm_Water_init) 5 = .ok (.bipush 49, 2) := by decide +kernel
theorem sq_Water_init_5 : rn G mm_Water_init 5 lv st S P ↔ rn G mm_Water_init 7 lv (.int (nI 49) :: st) S P := rn_s dq_Water_init_5 rfl rfl rfl
theorem dq_Water_init_7 : decode (km_c mm_Water_init) 7 = .ok (.newarray .int, 2) := by decide +kernel
theorem dq_Water_init_9 : decode (km_c mm_Water_init) 9 = .ok (.putfield 9, 3) := by decide +kernel
theorem dq_Water_init_12 : decode (km_c mm_Water_init) 12 = .ok (.aload_n 0, 1) := by decide +kernel
theorem sq_Water_init_12 : rn G mm_Water_init 12 [some (.ref z)] st S P ↔ rn G mm_Water_init 13 [some (.ref z)] (.ref z :: st) S P := rn_s dq_Water_init_12 rfl rfl rfl
theorem dq_Water_init_13 : decode (km_c mm_Water_init) 13 = .ok (.bipush 49, 2) := by decide +kernel
theorem sq_Water_init_13 : rn G mm_Water_init 13 lv st S P ↔ rn G mm_Water_init 15 lv (.int (nI 49) :: st) S P := rn_s dq_Water_init_13 rfl rfl rfl
theorem dq_Water_init_15 : decode (km_c mm_Water_init) 15 = .ok (.newarray .int, 2) := by decide +kernel
theorem dq_Water_init_17 : decode (km_c mm_Water_init) 17 = .ok (.putfield 15, 3) := by decide +kernel
theorem dq_Water_init_20 : decode (km_c mm_Water_init) 20 = .ok (.aload_n 0, 1) := by decide +kernel
theorem sq_Water_init_20 : rn G mm_Water_init 20 [some (.ref z)] st S P ↔ rn G mm_Water_init 21 [some (.ref z)] (.ref z :: st) S P := rn_s dq_Water_init_20 rfl rfl rfl
theorem dq_Water_init_21 : decode (km_c mm_Water_init) 21 = .ok (.bipush 49, 2) := by decide +kernel
theorem sq_Water_init_21 : rn G mm_Water_init 21 lv st S P ↔ rn G mm_Water_init 23 lv (.int (nI 49) :: st) S P := rn_s dq_Water_init_21 rfl rfl rfl
theorem dq_Water_init_23 : decode (km_c mm_Water_init) 23 = .ok (.newarray .int, 2) := by decide +kernel
theorem dq_Water_init_25 : decode (km_c mm_Water_init) 25 = .ok (.putfield 18, 3) := by decide +kernel
theorem dq_Water_init_28 : decode (km_c mm_Water_init) 28 = .ok (.aload_n 0, 1) := by decide +kernel
theorem sq_Water_init_28 : rn G mm_Water_init 28 [some (.ref z)] st S P ↔ rn G mm_Water_init 29 [some (.ref z)] (.ref z :: st) S P := rn_s dq_Water_init_28 rfl rfl rfl
theorem dq_Water_init_29 : decode (km_c mm_Water_init) 29 = .ok (.iconst 0, 1) := by decide +kernel
theorem sq_Water_init_29 : rn G mm_Water_init 29 lv st S P ↔ rn G mm_Water_init 30 lv (.int (nI 0) :: st) S P := rn_s dq_Water_init_29 rfl rfl rfl
theorem dq_Water_init_30 : decode (km_c mm_Water_init) 30 = .ok (.putfield 21, 3) := by decide +kernel
theorem sq_Water_init_30_16 (ho : sx_o o pl kp) : rn (lt_G o L) mm_Water_init 30 lv (.int x :: .ref 16 :: st) (sx pl kp I A) P ↔ rn (lt_G o L) mm_Water_init 33 lv st (sx pl kp (u2 I 16 3 x) A) P := rx_put (h := "") (ci := 6) (k := 3) dq_Water_init_30 (by decide +kernel) ho (up_b (by decide)) rfl rfl (by decide) (by decide)
theorem sq_Water_init_30_20 (ho : sx_o o pl kp) : rn (lt_G o L) mm_Water_init 30 lv (.int x :: .ref 20 :: st) (sx pl kp I A) P ↔ rn (lt_G o L) mm_Water_init 33 lv st (sx pl kp (u2 I 20 3 x) A) P := rx_put (h := "") (ci := 6) (k := 3) dq_Water_init_30 (by decide +kernel) ho (up_b (by decide)) rfl rfl (by decide) (by decide)
theorem dq_Water_init_33 : decode (km_c mm_Water_init) 33 = .ok (.return_, 1) := by decide +kernel
theorem sq_Water_init_33 : rn G mm_Water_init 33 lv [] S P ↔ P none S := rn_vr dq_Water_init_33 rfl
theorem dq_Water_rise_0 : decode (km_c mm_Water_rise) 0 = .ok (.aload_n 0, 1) := by decide +kernel
theorem sq_Water_rise_0 : rn G mm_Water_rise 0 [some (.ref z), a1, a2, a3, a4, a5] st S P ↔ rn G mm_Water_rise 1 [some (.ref z), a1, a2, a3, a4, a5] (.ref z :: st) S P := rn_s dq_Water_rise_0 rfl rfl rfl
theorem dq_Water_rise_1 : decode (km_c mm_Water_rise) 1 = .ok (.getfield 9, 3) := by decide +kernel
theorem sq_Water_rise_1_16 (ho : sx_o o pl kp) : rn (lt_G o L) mm_Water_rise 1 lv (.ref 16 :: st) (sx pl kp I A) P ↔ rn (lt_G o L) mm_Water_rise 4 lv (.ref 17 :: st) (sx pl kp I A) P := rx_get (h := "") (ci := 6) (k := 0) dq_Water_rise_1 (by decide +kernel) ho (up_b (by decide)) rfl rfl (fl_r (by decide) (by decide) (by decide) (by decide))
theorem sq_Water_rise_1_20 (ho : sx_o o pl kp) : rn (lt_G o L) mm_Water_rise 1 lv (.ref 20 :: st) (sx pl kp I A) P ↔ rn (lt_G o L) mm_Water_rise 4 lv (.ref 21 :: st) (sx pl kp I A) P := rx_get (h := "") (ci := 6) (k := 0) dq_Water_rise_1 (by decide +kernel) ho (up_b (by decide)) rfl rfl (fl_r (by decide) (by decide) (by decide) (by decide))
theorem dq_Water_rise_4 : decode (km_c mm_Water_rise) 4 = .ok (.iconst 0, 1) := by decide +kernel
theorem sq_Water_rise_4 : rn G mm_Water_rise 4 lv st S P ↔ rn G mm_Water_rise 5 lv (.int (nI 0) :: st) S P := rn_s dq_Water_rise_4 rfl rfl rfl
theorem dq_Water_rise_5 : decode (km_c mm_Water_rise) 5 = .ok (.invokestatic 25, 3) := by decide +kernel
theorem sq_Water_rise_5 {z1 : Nat} {x2 : Int32} {v : Option Value} {S2 : ks_S} (hst : kx_cat st ≤ 8) (hc : ev G mm_Arrays_fill [.ref z1, .int x2] S v S2) : rn G mm_Water_rise 5 lv (.int x2 :: .ref z1 :: st) S P ↔ rn G mm_Water_rise 8 lv (v.toList ++ st) S2 P := rn_cs (k := 1) (host := "") (E' := mm_Arrays_fill) dq_Water_rise_5 (by decide) (by decide) rfl (ok_v rfl (by decide) (by decide) (Nat.le_add_left _ _) hst (Nat.le_of_ble_eq_true rfl) (Or.inl rfl)) rfl rfl hc
theorem dq_Water_rise_8 : decode (km_c mm_Water_rise) 8 = .ok (.aload_n 0, 1) := by decide +kernel
theorem sq_Water_rise_8 : rn G mm_Water_rise 8 [some (.ref z), a1, a2, a3, a4, a5] st S P ↔ rn G mm_Water_rise 9 [some (.ref z), a1, a2, a3, a4, a5] (.ref z :: st) S P := rn_s dq_Water_rise_8 rfl rfl rfl
theorem dq_Water_rise_9 : decode (km_c mm_Water_rise) 9 = .ok (.iconst 0, 1) := by decide +kernel
theorem sq_Water_rise_9 : rn G mm_Water_rise 9 lv st S P ↔ rn G mm_Water_rise 10 lv (.int (nI 0) :: st) S P := rn_s dq_Water_rise_9 rfl rfl rfl
theorem dq_Water_rise_10 : decode (km_c mm_Water_rise) 10 = .ok (.putfield 21, 3) := by decide +kernel
theorem sq_Water_rise_10_16 (ho : sx_o o pl kp) : rn (lt_G o L) mm_Water_rise 10 lv (.int x :: .ref 16 :: st) (sx pl kp I A) P ↔ rn (lt_G o L) mm_Water_rise 13 lv st (sx pl kp (u2 I 16 3 x) A) P := rx_put (h := "") (ci := 6) (k := 3) dq_Water_rise_10 (by decide +kernel) ho (up_b (by decide)) rfl rfl (by decide) (by decide)
theorem sq_Water_rise_10_20 (ho : sx_o o pl kp) : rn (lt_G o L) mm_Water_rise 10 lv (.int x :: .ref 20 :: st) (sx pl kp I A) P ↔ rn (lt_G o L) mm_Water_rise 13 lv st (sx pl kp (u2 I 20 3 x) A) P := rx_put (h := "") (ci := 6) (k := 3) dq_Water_rise_10 (by decide +kernel) ho (up_b (by decide)) rfl rfl (by decide) (by decide)
theorem dq_Water_rise_13 : decode (km_c mm_Water_rise) 13 = .ok (.iconst 0, 1) := by decide +kernel
theorem sq_Water_rise_13 : rn G mm_Water_rise 13 lv st S P ↔ rn G mm_Water_rise 14 lv (.int (nI 0) :: st) S P := rn_s dq_Water_rise_13 rfl rfl rfl
theorem dq_Water_rise_14 : decode (km_c mm_Water_rise) 14 = .ok (.istore_n 3, 1) := by decide +kernel
theorem sq_Water_rise_14n : rn G mm_Water_rise 14 [a0, a1, none, a3, a4, a5] (.int x :: st) S P ↔ rn G mm_Water_rise 15 [a0, a1, none, some (.int x), a4, a5] st S P := rn_s dq_Water_rise_14 rfl rfl rfl
theorem sq_Water_rise_14i : rn G mm_Water_rise 14 [a0, a1, some (.int x2), a3, a4, a5] (.int x :: st) S P ↔ rn G mm_Water_rise 15 [a0, a1, some (.int x2), some (.int x), a4, a5] st S P := rn_s dq_Water_rise_14 rfl rfl rfl
theorem sq_Water_rise_14r : rn G mm_Water_rise 14 [a0, a1, some (.ref z2), a3, a4, a5] (.int x :: st) S P ↔ rn G mm_Water_rise 15 [a0, a1, some (.ref z2), some (.int x), a4, a5] st S P := rn_s dq_Water_rise_14 rfl rfl rfl
theorem sq_Water_rise_14l : rn G mm_Water_rise 14 [a0, a1, some (.long y2), a3, a4, a5] (.int x :: st) S P ↔ rn G mm_Water_rise 15 [a0, a1, none, some (.int x), a4, a5] st S P := rn_s dq_Water_rise_14 rfl rfl rfl
theorem dq_Water_rise_15 : decode (km_c mm_Water_rise) 15 = .ok (.iload_n 3, 1) := by decide +kernel
theorem sq_Water_rise_15 : rn G mm_Water_rise 15 [a0, a1, a2, some (.int x), a4, a5] st S P ↔ rn G mm_Water_rise 16 [a0, a1, a2, some (.int x), a4, a5] (.int x :: st) S P := rn_s dq_Water_rise_15 rfl rfl rfl
theorem dq_Water_rise_16 : decode (km_c mm_Water_rise) 16 = .ok (.bipush 49, 2) := by decide +kernel
theorem sq_Water_rise_16 : rn G mm_Water_rise 16 lv st S P ↔ rn G mm_Water_rise 18 lv (.int (nI 49) :: st) S P := rn_s dq_Water_rise_16 rfl rfl rfl
theorem dq_Water_rise_18 : decode (km_c mm_Water_rise) 18 = .ok (.if_icmp .ge 28, 3) := by decide +kernel
theorem sq_Water_rise_18 : rn G mm_Water_rise 18 lv (.int x2 :: .int x :: st) S P ↔ ((x2 ≤ x → rn G mm_Water_rise 46 lv st S P) ∧ (¬ (x2 ≤ x) → rn G mm_Water_rise 21 lv st S P)) := rn_b (off := 28) dq_Water_rise_18 rfl rfl rfl rfl
theorem dq_Water_rise_21 : decode (km_c mm_Water_rise) 21 = .ok (.aload_n 1, 1) := by decide +kernel
theorem sq_Water_rise_21 : rn G mm_Water_rise 21 [a0, some (.ref z), a2, a3, a4, a5] st S P ↔ rn G mm_Water_rise 22 [a0, some (.ref z), a2, a3, a4, a5] (.ref z :: st) S P := rn_s dq_Water_rise_21 rfl rfl rfl
theorem dq_Water_rise_22 : decode (km_c mm_Water_rise) 22 = .ok (.getfield 31, 3) := by decide +kernel
theorem sq_Water_rise_22_2 (ho : sx_o o pl kp) : rn (lt_G o L) mm_Water_rise 22 lv (.ref 2 :: st) (sx pl kp I A) P ↔ rn (lt_G o L) mm_Water_rise 25 lv (.ref 3 :: st) (sx pl kp I A) P := rx_get (h := "DeltaRoad") (ci := 0) (k := 0) dq_Water_rise_22 (by decide +kernel) ho (up_b (by decide)) rfl rfl (fl_r (by decide) (by decide) (by decide) (by decide))
theorem sq_Water_rise_22_35 (ho : sx_o o pl kp) : rn (lt_G o L) mm_Water_rise 22 lv (.ref 35 :: st) (sx pl kp I A) P ↔ rn (lt_G o L) mm_Water_rise 25 lv (.ref 36 :: st) (sx pl kp I A) P := rx_get (h := "DeltaRoad") (ci := 0) (k := 0) dq_Water_rise_22 (by decide +kernel) ho (up_b (by decide)) rfl rfl (fl_r (by decide) (by decide) (by decide) (by decide))
theorem sq_Water_rise_22_137 (ho : sx_o o pl true) : rn (lt_G o L) mm_Water_rise 22 lv (.ref 137 :: st) (sx pl true I A) P ↔ rn (lt_G o L) mm_Water_rise 25 lv (.ref 138 :: st) (sx pl true I A) P := rx_get (h := "DeltaRoad") (ci := 0) (k := 0) dq_Water_rise_22 (by decide +kernel) ho (up_k (by decide) (by decide)) rfl rfl (fl_k (by decide) (by decide))
theorem dq_Water_rise_25 : decode (km_c mm_Water_rise) 25 = .ok (.iconst 4, 1) := by decide +kernel
theorem sq_Water_rise_25 : rn G mm_Water_rise 25 lv st S P ↔ rn G mm_Water_rise 26 lv (.int (nI 4) :: st) S P := rn_s dq_Water_rise_25 rfl rfl rfl
theorem dq_Water_rise_26 : decode (km_c mm_Water_rise) 26 = .ok (.aaload, 1) := by decide +kernel
theorem sq_Water_rise_26 (ho : sx_o o pl kp) (hk : ak L a = 3) (hu : sx_up pl kp a = true) (hc : c < ln L a) (hn : ln L a < 2 ^ 31) : rn (lt_G o L) mm_Water_rise 26 lv (.int (nI c) :: .ref a :: st) (sx pl kp I A) P ↔ rn (lt_G o L) mm_Water_rise 27 lv (.ref (ab L a + c) :: st) (sx pl kp I A) P := rx_ald dq_Water_rise_26 ho hk hu hc hn
theorem dq_Water_rise_27 : decode (km_c mm_Water_rise) 27 = .ok (.iload_n 3, 1) := by decide +kernel
theorem sq_Water_rise_27 : rn G mm_Water_rise 27 [a0, a1, a2, some (.int x), a4, a5] st S P ↔ rn G mm_Water_rise 28 [a0, a1, a2, some (.int x), a4, a5] (.int x :: st) S P := rn_s dq_Water_rise_27 rfl rfl rfl
theorem dq_Water_rise_28 : decode (km_c mm_Water_rise) 28 = .ok (.iaload, 1) := by decide +kernel
theorem sq_Water_rise_28 (ho : sx_o o pl kp) (hk : ak L a = 0) (hu : sx_up pl kp a = true ∨ 1000 ≤ a) (hc : c < ln L a) (hn : ln L a < 2 ^ 31) : rn (lt_G o L) mm_Water_rise 28 lv (.int (nI c) :: .ref a :: st) (sx pl kp I A) P ↔ rn (lt_G o L) mm_Water_rise 29 lv (.int (A a c) :: st) (sx pl kp I A) P := rx_ild dq_Water_rise_28 ho hk hu hc hn
theorem dq_Water_rise_29 : decode (km_c mm_Water_rise) 29 = .ok (.iconst 1, 1) := by decide +kernel
theorem sq_Water_rise_29 : rn G mm_Water_rise 29 lv st S P ↔ rn G mm_Water_rise 30 lv (.int (nI 1) :: st) S P := rn_s dq_Water_rise_29 rfl rfl rfl
theorem dq_Water_rise_30 : decode (km_c mm_Water_rise) 30 = .ok (.if_icmp .ne 10, 3) := by decide +kernel
theorem sq_Water_rise_30 : rn G mm_Water_rise 30 lv (.int x2 :: .int x :: st) S P ↔ ((¬ x = x2 → rn G mm_Water_rise 40 lv st S P) ∧ (¬ (¬ x = x2) → rn G mm_Water_rise 33 lv st S P)) := rn_b (off := 10) dq_Water_rise_30 rfl rfl rfl rfl
theorem dq_Water_rise_33 : decode (km_c mm_Water_rise) 33 = .ok (.aload_n 0, 1) := by decide +kernel
theorem sq_Water_rise_33 : rn G mm_Water_rise 33 [some (.ref z), a1, a2, a3, a4, a5] st S P ↔ rn G mm_Water_rise 34 [some (.ref z), a1, a2, a3, a4, a5] (.ref z :: st) S P := rn_s dq_Water_rise_33 rfl rfl rfl
theorem dq_Water_rise_34 : decode (km_c mm_Water_rise) 34 = .ok (.aload_n 1, 1) := by decide +kernel
theorem sq_Water_rise_34 : rn G mm_Water_rise 34 [a0, some (.ref z), a2, a3, a4, a5] st S P ↔ rn G mm_Water_rise 35 [a0, some (.ref z), a2, a3, a4, a5] (.ref z :: st) S P := rn_s dq_Water_rise_34 rfl rfl rfl
theorem dq_Water_rise_35 : decode (km_c mm_Water_rise) 35 = .ok (.iload_n 2, 1) := by decide +kernel
theorem sq_Water_rise_35 : rn G mm_Water_rise 35 [a0, a1, some (.int x), a3, a4, a5] st S P ↔ rn G mm_Water_rise 36 [a0, a1, some (.int x), a3, a4, a5] (.int x :: st) S P := rn_s dq_Water_rise_35 rfl rfl rfl
theorem dq_Water_rise_36 : decode (km_c mm_Water_rise) 36 = .ok (.iload_n 3, 1) := by decide +kernel
theorem sq_Water_rise_36 : rn G mm_Water_rise 36 [a0, a1, a2, some (.int x), a4, a5] st S P ↔ rn G mm_Water_rise 37 [a0, a1, a2, some (.int x), a4, a5] (.int x :: st) S P := rn_s dq_Water_rise_36 rfl rfl rfl
theorem dq_Water_rise_37 : decode (km_c mm_Water_rise) 37 = .ok (.invokevirtual 37, 3) := by decide +kernel
theorem sq_Water_rise_37_16 {z1 : Nat} {x2 : Int32} {x3 : Int32} {v : Option Value} {S2 : ks_S} (ho : sx_o o pl kp) (hst : kx_cat st ≤ 8) (hc : ev (lt_G o L) mm_Water_reach [.ref 16, .ref z1, .int x2, .int x3] (sx pl kp I A) v S2) : rn (lt_G o L) mm_Water_rise 37 lv (.int x3 :: .int x2 :: .ref z1 :: .ref 16 :: st) (sx pl kp I A) P ↔ rn (lt_G o L) mm_Water_rise 40 lv (v.toList ++ st) S2 P := rn_cv (k := 0) (host := "") (E' := mm_Water_reach) dq_Water_rise_37 rfl (ok_v rfl (by decide) (by decide) (Nat.le_add_left _ _) hst (Nat.le_of_ble_eq_true rfl) (Or.inr (rc_v ho (up_b (by decide)) rfl))) rfl rfl hc
theorem sq_Water_rise_37_20 {z1 : Nat} {x2 : Int32} {x3 : Int32} {v : Option Value} {S2 : ks_S} (ho : sx_o o pl kp) (hst : kx_cat st ≤ 8) (hc : ev (lt_G o L) mm_Water_reach [.ref 20, .ref z1, .int x2, .int x3] (sx pl kp I A) v S2) : rn (lt_G o L) mm_Water_rise 37 lv (.int x3 :: .int x2 :: .ref z1 :: .ref 20 :: st) (sx pl kp I A) P ↔ rn (lt_G o L) mm_Water_rise 40 lv (v.toList ++ st) S2 P := rn_cv (k := 0) (host := "") (E' := mm_Water_reach) dq_Water_rise_37 rfl (ok_v rfl (by decide) (by decide) (Nat.le_add_left _ _) hst (Nat.le_of_ble_eq_true rfl) (Or.inr (rc_v ho (up_b (by decide)) rfl))) rfl rfl hc
theorem dq_Water_rise_40 : decode (km_c mm_Water_rise) 40 = .ok (.iinc 3 1, 3) := by decide +kernel
theorem sq_Water_rise_40n : rn G mm_Water_rise 40 [a0, a1, none, some (.int x), a4, a5] st S P ↔ rn G mm_Water_rise 43 [a0, a1, none, some (.int (x + nI 1)), a4, a5] st S P := rn_s dq_Water_rise_40 rfl rfl rfl
theorem sq_Water_rise_40i : rn G mm_Water_rise 40 [a0, a1, some (.int x2), some (.int x), a4, a5] st S P ↔ rn G mm_Water_rise 43 [a0, a1, some (.int x2), some (.int (x + nI 1)), a4, a5] st S P := rn_s dq_Water_rise_40 rfl rfl rfl
theorem sq_Water_rise_40r : rn G mm_Water_rise 40 [a0, a1, some (.ref z2), some (.int x), a4, a5] st S P ↔ rn G mm_Water_rise 43 [a0, a1, some (.ref z2), some (.int (x + nI 1)), a4, a5] st S P := rn_s dq_Water_rise_40 rfl rfl rfl
theorem sq_Water_rise_40l : rn G mm_Water_rise 40 [a0, a1, some (.long y2), some (.int x), a4, a5] st S P ↔ rn G mm_Water_rise 43 [a0, a1, none, some (.int (x + nI 1)), a4, a5] st S P := rn_s dq_Water_rise_40 rfl rfl rfl
theorem dq_Water_rise_43 : decode (km_c mm_Water_rise) 43 = .ok (.goto (-28), 3) := by decide +kernel
theorem sq_Water_rise_43 : rn G mm_Water_rise 43 lv st S P ↔ rn G mm_Water_rise 15 lv st S P := rn_s dq_Water_rise_43 rfl rfl rfl
theorem dq_Water_rise_46 : decode (km_c mm_Water_rise) 46 = .ok (.iconst 0, 1) := by decide +kernel
theorem sq_Water_rise_46 : rn G mm_Water_rise 46 lv st S P ↔ rn G mm_Water_rise 47 lv (.int (nI 0) :: st) S P := rn_s dq_Water_rise_46 rfl rfl rfl
theorem dq_Water_rise_47 : decode (km_c mm_Water_rise) 47 = .ok (.istore_n 3, 1) := by decide +kernel
theorem sq_Water_rise_47n : rn G mm_Water_rise 47 [a0, a1, none, a3, a4, a5] (.int x :: st) S P ↔ rn G mm_Water_rise 48 [a0, a1, none, some (.int x), a4, a5] st S P := rn_s dq_Water_rise_47 rfl rfl rfl
theorem sq_Water_rise_47i : rn G mm_Water_rise 47 [a0, a1, some (.int x2), a3, a4, a5] (.int x :: st) S P ↔ rn G mm_Water_rise 48 [a0, a1, some (.int x2), some (.int x), a4, a5] st S P := rn_s dq_Water_rise_47 rfl rfl rfl
theorem sq_Water_rise_47r : rn G mm_Water_rise 47 [a0, a1, some (.ref z2), a3, a4, a5] (.int x :: st) S P ↔ rn G mm_Water_rise 48 [a0, a1, some (.ref z2), some (.int x), a4, a5] st S P := rn_s dq_Water_rise_47 rfl rfl rfl
theorem sq_Water_rise_47l : rn G mm_Water_rise 47 [a0, a1, some (.long y2), a3, a4, a5] (.int x :: st) S P ↔ rn G mm_Water_rise 48 [a0, a1, none, some (.int x), a4, a5] st S P := rn_s dq_Water_rise_47 rfl rfl rfl
theorem dq_Water_rise_48 : decode (km_c mm_Water_rise) 48 = .ok (.iload_n 3, 1) := by decide +kernel
theorem sq_Water_rise_48 : rn G mm_Water_rise 48 [a0, a1, a2, some (.int x), a4, a5] st S P ↔ rn G mm_Water_rise 49 [a0, a1, a2, some (.int x), a4, a5] (.int x :: st) S P := rn_s dq_Water_rise_48 rfl rfl rfl
theorem dq_Water_rise_49 : decode (km_c mm_Water_rise) 49 = .ok (.aload_n 0, 1) := by decide +kernel
theorem sq_Water_rise_49 : rn G mm_Water_rise 49 [some (.ref z), a1, a2, a3, a4, a5] st S P ↔ rn G mm_Water_rise 50 [some (.ref z), a1, a2, a3, a4, a5] (.ref z :: st) S P := rn_s dq_Water_rise_49 rfl rfl rfl
theorem dq_Water_rise_50 : decode (km_c mm_Water_rise) 50 = .ok (.getfield 21, 3) := by decide +kernel
theorem sq_Water_rise_50_16 (ho : sx_o o pl kp) : rn (lt_G o L) mm_Water_rise 50 lv (.ref 16 :: st) (sx pl kp I A) P ↔ rn (lt_G o L) mm_Water_rise 53 lv (.int (I 16 3) :: st) (sx pl kp I A) P := rx_get (h := "") (ci := 6) (k := 3) dq_Water_rise_50 (by decide +kernel) ho (up_b (by decide)) rfl rfl (fl_i (by decide))
theorem sq_Water_rise_50_20 (ho : sx_o o pl kp) : rn (lt_G o L) mm_Water_rise 50 lv (.ref 20 :: st) (sx pl kp I A) P ↔ rn (lt_G o L) mm_Water_rise 53 lv (.int (I 20 3) :: st) (sx pl kp I A) P := rx_get (h := "") (ci := 6) (k := 3) dq_Water_rise_50 (by decide +kernel) ho (up_b (by decide)) rfl rfl (fl_i (by decide))
theorem dq_Water_rise_53 : decode (km_c mm_Water_rise) 53 = .ok (.if_icmp .ge 56, 3) := by decide +kernel
theorem sq_Water_rise_53 : rn G mm_Water_rise 53 lv (.int x2 :: .int x :: st) S P ↔ ((x2 ≤ x → rn G mm_Water_rise 109 lv st S P) ∧ (¬ (x2 ≤ x) → rn G mm_Water_rise 56 lv st S P)) := rn_b (off := 56) dq_Water_rise_53 rfl rfl rfl rfl
theorem dq_Water_rise_56 : decode (km_c mm_Water_rise) 56 = .ok (.iload_n 3, 1) := by decide +kernel
theorem sq_Water_rise_56 : rn G mm_Water_rise 56 [a0, a1, a2, some (.int x), a4, a5] st S P ↔ rn G mm_Water_rise 57 [a0, a1, a2, some (.int x), a4, a5] (.int x :: st) S P := rn_s dq_Water_rise_56 rfl rfl rfl
theorem dq_Water_rise_57 : decode (km_c mm_Water_rise) 57 = .ok (.bipush 49, 2) := by decide +kernel
theorem sq_Water_rise_57 : rn G mm_Water_rise 57 lv st S P ↔ rn G mm_Water_rise 59 lv (.int (nI 49) :: st) S P := rn_s dq_Water_rise_57 rfl rfl rfl
theorem dq_Water_rise_59 : decode (km_c mm_Water_rise) 59 = .ok (.if_icmp .ge 50, 3) := by decide +kernel
theorem sq_Water_rise_59 : rn G mm_Water_rise 59 lv (.int x2 :: .int x :: st) S P ↔ ((x2 ≤ x → rn G mm_Water_rise 109 lv st S P) ∧ (¬ (x2 ≤ x) → rn G mm_Water_rise 62 lv st S P)) := rn_b (off := 50) dq_Water_rise_59 rfl rfl rfl rfl
theorem dq_Water_rise_62 : decode (km_c mm_Water_rise) 62 = .ok (.iconst 0, 1) := by decide +kernel
theorem sq_Water_rise_62 : rn G mm_Water_rise 62 lv st S P ↔ rn G mm_Water_rise 63 lv (.int (nI 0) :: st) S P := rn_s dq_Water_rise_62 rfl rfl rfl
theorem dq_Water_rise_63 : decode (km_c mm_Water_rise) 63 = .ok (.istore 4, 2) := by decide +kernel
theorem sq_Water_rise_63n : rn G mm_Water_rise 63 [a0, a1, a2, none, a4, a5] (.int x :: st) S P ↔ rn G mm_Water_rise 65 [a0, a1, a2, none, some (.int x), a5] st S P := rn_s dq_Water_rise_63 rfl rfl rfl
theorem sq_Water_rise_63i : rn G mm_Water_rise 63 [a0, a1, a2, some (.int x2), a4, a5] (.int x :: st) S P ↔ rn G mm_Water_rise 65 [a0, a1, a2, some (.int x2), some (.int x), a5] st S P := rn_s dq_Water_rise_63 rfl rfl rfl
theorem sq_Water_rise_63r : rn G mm_Water_rise 63 [a0, a1, a2, some (.ref z2), a4, a5] (.int x :: st) S P ↔ rn G mm_Water_rise 65 [a0, a1, a2, some (.ref z2), some (.int x), a5] st S P := rn_s dq_Water_rise_63 rfl rfl rfl
theorem sq_Water_rise_63l : rn G mm_Water_rise 63 [a0, a1, a2, some (.long y2), a4, a5] (.int x :: st) S P ↔ rn G mm_Water_rise 65 [a0, a1, a2, none, some (.int x), a5] st S P := rn_s dq_Water_rise_63 rfl rfl rfl
theorem dq_Water_rise_65 : decode (km_c mm_Water_rise) 65 = .ok (.iload 4, 2) := by decide +kernel
theorem sq_Water_rise_65 : rn G mm_Water_rise 65 [a0, a1, a2, a3, some (.int x), a5] st S P ↔ rn G mm_Water_rise 67 [a0, a1, a2, a3, some (.int x), a5] (.int x :: st) S P := rn_s dq_Water_rise_65 rfl rfl rfl
theorem dq_Water_rise_67 : decode (km_c mm_Water_rise) 67 = .ok (.iconst 4, 1) := by decide +kernel
theorem sq_Water_rise_67 : rn G mm_Water_rise 67 lv st S P ↔ rn G mm_Water_rise 68 lv (.int (nI 4) :: st) S P := rn_s dq_Water_rise_67 rfl rfl rfl
theorem dq_Water_rise_68 : decode (km_c mm_Water_rise) 68 = .ok (.if_icmp .ge 35, 3) := by decide +kernel
theorem sq_Water_rise_68 : rn G mm_Water_rise 68 lv (.int x2 :: .int x :: st) S P ↔ ((x2 ≤ x → rn G mm_Water_rise 103 lv st S P) ∧ (¬ (x2 ≤ x) → rn G mm_Water_rise 71 lv st S P)) := rn_b (off := 35) dq_Water_rise_68 rfl rfl rfl rfl
theorem dq_Water_rise_71 : decode (km_c mm_Water_rise) 71 = .ok (.aload_n 0, 1) := by decide +kernel
theorem sq_Water_rise_71 : rn G mm_Water_rise 71 [some (.ref z), a1, a2, a3, a4, a5] st S P ↔ rn G mm_Water_rise 72 [some (.ref z), a1, a2, a3, a4, a5] (.ref z :: st) S P := rn_s dq_Water_rise_71 rfl rfl rfl
theorem dq_Water_rise_72 : decode (km_c mm_Water_rise) 72 = .ok (.getfield 15, 3) := by decide +kernel
theorem sq_Water_rise_72_16 (ho : sx_o o pl kp) : rn (lt_G o L) mm_Water_rise 72 lv (.ref 16 :: st) (sx pl kp I A) P ↔ rn (lt_G o L) mm_Water_rise 75 lv (.ref 18 :: st) (sx pl kp I A) P := rx_get (h := "") (ci := 6) (k := 1) dq_Water_rise_72 (by decide +kernel) ho (up_b (by decide)) rfl rfl (fl_r (by decide) (by decide) (by decide) (by decide))
theorem sq_Water_rise_72_20 (ho : sx_o o pl kp) : rn (lt_G o L) mm_Water_rise 72 lv (.ref 20 :: st) (sx pl kp I A) P ↔ rn (lt_G o L) mm_Water_rise 75 lv (.ref 22 :: st) (sx pl kp I A) P := rx_get (h := "") (ci := 6) (k := 1) dq_Water_rise_72 (by decide +kernel) ho (up_b (by decide)) rfl rfl (fl_r (by decide) (by decide) (by decide) (by decide))
theorem dq_Water_rise_75 : decode (km_c mm_Water_rise) 75 = .ok (.iload_n 3, 1) := by decide +kernel
theorem sq_Water_rise_75 : rn G mm_Water_rise 75 [a0, a1, a2, some (.int x), a4, a5] st S P ↔ rn G mm_Water_rise 76 [a0, a1, a2, some (.int x), a4, a5] (.int x :: st) S P := rn_s dq_Water_rise_75 rfl rfl rfl
theorem dq_Water_rise_76 : decode (km_c mm_Water_rise) 76 = .ok (.iaload, 1) := by decide +kernel
theorem sq_Water_rise_76 (ho : sx_o o pl kp) (hk : ak L a = 0) (hu : sx_up pl kp a = true ∨ 1000 ≤ a) (hc : c < ln L a) (hn : ln L a < 2 ^ 31) : rn (lt_G o L) mm_Water_rise 76 lv (.int (nI c) :: .ref a :: st) (sx pl kp I A) P ↔ rn (lt_G o L) mm_Water_rise 77 lv (.int (A a c) :: st) (sx pl kp I A) P := rx_ild dq_Water_rise_76 ho hk hu hc hn
theorem dq_Water_rise_77 : decode (km_c mm_Water_rise) 77 = .ok (.iload 4, 2) := by decide +kernel
theorem sq_Water_rise_77 : rn G mm_Water_rise 77 [a0, a1, a2, a3, some (.int x), a5] st S P ↔ rn G mm_Water_rise 79 [a0, a1, a2, a3, some (.int x), a5] (.int x :: st) S P := rn_s dq_Water_rise_77 rfl rfl rfl
theorem dq_Water_rise_79 : decode (km_c mm_Water_rise) 79 = .ok (.invokestatic 41, 3) := by decide +kernel
theorem sq_Water_rise_79 {x1 : Int32} {x2 : Int32} {v : Option Value} {S2 : ks_S} (hst : kx_cat st ≤ 8) (hc : ev G mm_Road_cellAt [.int x1, .int x2] S v S2) : rn G mm_Water_rise 79 lv (.int x2 :: .int x1 :: st) S P ↔ rn G mm_Water_rise 82 lv (v.toList ++ st) S2 P := rn_cs (k := 1) (host := "DeltaRoad") (E' := mm_Road_cellAt) dq_Water_rise_79 (by decide) (by decide) rfl (ok_v rfl (by decide) (by decide) (Nat.le_add_left _ _) hst (Nat.le_of_ble_eq_true rfl) (Or.inl rfl)) rfl rfl hc
theorem dq_Water_rise_82 : decode (km_c mm_Water_rise) 82 = .ok (.istore 5, 2) := by decide +kernel
theorem sq_Water_rise_82n : rn G mm_Water_rise 82 [a0, a1, a2, a3, none, a5] (.int x :: st) S P ↔ rn G mm_Water_rise 84 [a0, a1, a2, a3, none, some (.int x)] st S P := rn_s dq_Water_rise_82 rfl rfl rfl
theorem sq_Water_rise_82i : rn G mm_Water_rise 82 [a0, a1, a2, a3, some (.int x2), a5] (.int x :: st) S P ↔ rn G mm_Water_rise 84 [a0, a1, a2, a3, some (.int x2), some (.int x)] st S P := rn_s dq_Water_rise_82 rfl rfl rfl
theorem sq_Water_rise_82r : rn G mm_Water_rise 82 [a0, a1, a2, a3, some (.ref z2), a5] (.int x :: st) S P ↔ rn G mm_Water_rise 84 [a0, a1, a2, a3, some (.ref z2), some (.int x)] st S P := rn_s dq_Water_rise_82 rfl rfl rfl
theorem sq_Water_rise_82l : rn G mm_Water_rise 82 [a0, a1, a2, a3, some (.long y2), a5] (.int x :: st) S P ↔ rn G mm_Water_rise 84 [a0, a1, a2, a3, none, some (.int x)] st S P := rn_s dq_Water_rise_82 rfl rfl rfl
theorem dq_Water_rise_84 : decode (km_c mm_Water_rise) 84 = .ok (.iload 5, 2) := by decide +kernel
theorem sq_Water_rise_84 : rn G mm_Water_rise 84 [a0, a1, a2, a3, a4, some (.int x)] st S P ↔ rn G mm_Water_rise 86 [a0, a1, a2, a3, a4, some (.int x)] (.int x :: st) S P := rn_s dq_Water_rise_84 rfl rfl rfl
theorem dq_Water_rise_86 : decode (km_c mm_Water_rise) 86 = .ok (.ifCond .lt 11, 3) := by decide +kernel
theorem sq_Water_rise_86 : rn G mm_Water_rise 86 lv (.int x :: st) S P ↔ ((x < 0 → rn G mm_Water_rise 97 lv st S P) ∧ (¬ (x < 0) → rn G mm_Water_rise 89 lv st S P)) := rn_b (off := 11) dq_Water_rise_86 rfl rfl rfl rfl
theorem dq_Water_rise_89 : decode (km_c mm_Water_rise) 89 = .ok (.aload_n 0, 1) := by decide +kernel
theorem sq_Water_rise_89 : rn G mm_Water_rise 89 [some (.ref z), a1, a2, a3, a4, a5] st S P ↔ rn G mm_Water_rise 90 [some (.ref z), a1, a2, a3, a4, a5] (.ref z :: st) S P := rn_s dq_Water_rise_89 rfl rfl rfl
theorem dq_Water_rise_90 : decode (km_c mm_Water_rise) 90 = .ok (.aload_n 1, 1) := by decide +kernel
theorem sq_Water_rise_90 : rn G mm_Water_rise 90 [a0, some (.ref z), a2, a3, a4, a5] st S P ↔ rn G mm_Water_rise 91 [a0, some (.ref z), a2, a3, a4, a5] (.ref z :: st) S P := rn_s dq_Water_rise_90 rfl rfl rfl
theorem dq_Water_rise_91 : decode (km_c mm_Water_rise) 91 = .ok (.iload_n 2, 1) := by decide +kernel
theorem sq_Water_rise_91 : rn G mm_Water_rise 91 [a0, a1, some (.int x), a3, a4, a5] st S P ↔ rn G mm_Water_rise 92 [a0, a1, some (.int x), a3, a4, a5] (.int x :: st) S P := rn_s dq_Water_rise_91 rfl rfl rfl
theorem dq_Water_rise_92 : decode (km_c mm_Water_rise) 92 = .ok (.iload 5, 2) := by decide +kernel
theorem sq_Water_rise_92 : rn G mm_Water_rise 92 [a0, a1, a2, a3, a4, some (.int x)] st S P ↔ rn G mm_Water_rise 94 [a0, a1, a2, a3, a4, some (.int x)] (.int x :: st) S P := rn_s dq_Water_rise_92 rfl rfl rfl
theorem dq_Water_rise_94 : decode (km_c mm_Water_rise) 94 = .ok (.invokevirtual 37, 3) := by decide +kernel
theorem sq_Water_rise_94_16 {z1 : Nat} {x2 : Int32} {x3 : Int32} {v : Option Value} {S2 : ks_S} (ho : sx_o o pl kp) (hst : kx_cat st ≤ 8) (hc : ev (lt_G o L) mm_Water_reach [.ref 16, .ref z1, .int x2, .int x3] (sx pl kp I A) v S2) : rn (lt_G o L) mm_Water_rise 94 lv (.int x3 :: .int x2 :: .ref z1 :: .ref 16 :: st) (sx pl kp I A) P ↔ rn (lt_G o L) mm_Water_rise 97 lv (v.toList ++ st) S2 P := rn_cv (k := 0) (host := "") (E' := mm_Water_reach) dq_Water_rise_94 rfl (ok_v rfl (by decide) (by decide) (Nat.le_add_left _ _) hst (Nat.le_of_ble_eq_true rfl) (Or.inr (rc_v ho (up_b (by decide)) rfl))) rfl rfl hc
theorem sq_Water_rise_94_20 {z1 : Nat} {x2 : Int32} {x3 : Int32} {v : Option Value} {S2 : ks_S} (ho : sx_o o pl kp) (hst : kx_cat st ≤ 8) (hc : ev (lt_G o L) mm_Water_reach [.ref 20, .ref z1, .int x2, .int x3] (sx pl kp I A) v S2) : rn (lt_G o L) mm_Water_rise 94 lv (.int x3 :: .int x2 :: .ref z1 :: .ref 20 :: st) (sx pl kp I A) P ↔ rn (lt_G o L) mm_Water_rise 97 lv (v.toList ++ st) S2 P := rn_cv (k := 0) (host := "") (E' := mm_Water_reach) dq_Water_rise_94 rfl (ok_v rfl (by decide) (by decide) (Nat.le_add_left _ _) hst (Nat.le_of_ble_eq_true rfl) (Or.inr (rc_v ho (up_b (by decide)) rfl))) rfl rfl hc
theorem dq_Water_rise_97 : decode (km_c mm_Water_rise) 97 = .ok (.iinc 4 1, 3) := by decide +kernel
theorem sq_Water_rise_97n : rn G mm_Water_rise 97 [a0, a1, a2, none, some (.int x), a5] st S P ↔ rn G mm_Water_rise 100 [a0, a1, a2, none, some (.int (x + nI 1)), a5] st S P := rn_s dq_Water_rise_97 rfl rfl rfl
theorem sq_Water_rise_97i : rn G mm_Water_rise 97 [a0, a1, a2, some (.int x2), some (.int x), a5] st S P ↔ rn G mm_Water_rise 100 [a0, a1, a2, some (.int x2), some (.int (x + nI 1)), a5] st S P := rn_s dq_Water_rise_97 rfl rfl rfl
theorem sq_Water_rise_97r : rn G mm_Water_rise 97 [a0, a1, a2, some (.ref z2), some (.int x), a5] st S P ↔ rn G mm_Water_rise 100 [a0, a1, a2, some (.ref z2), some (.int (x + nI 1)), a5] st S P := rn_s dq_Water_rise_97 rfl rfl rfl
theorem sq_Water_rise_97l : rn G mm_Water_rise 97 [a0, a1, a2, some (.long y2), some (.int x), a5] st S P ↔ rn G mm_Water_rise 100 [a0, a1, a2, none, some (.int (x + nI 1)), a5] st S P := rn_s dq_Water_rise_97 rfl rfl rfl
theorem dq_Water_rise_100 : decode (km_c mm_Water_rise) 100 = .ok (.goto (-35), 3) := by decide +kernel
theorem sq_Water_rise_100 : rn G mm_Water_rise 100 lv st S P ↔ rn G mm_Water_rise 65 lv st S P := rn_s dq_Water_rise_100 rfl rfl rfl
theorem dq_Water_rise_103 : decode (km_c mm_Water_rise) 103 = .ok (.iinc 3 1, 3) := by decide +kernel
theorem sq_Water_rise_103n : rn G mm_Water_rise 103 [a0, a1, none, some (.int x), a4, a5] st S P ↔ rn G mm_Water_rise 106 [a0, a1, none, some (.int (x + nI 1)), a4, a5] st S P := rn_s dq_Water_rise_103 rfl rfl rfl
theorem sq_Water_rise_103i : rn G mm_Water_rise 103 [a0, a1, some (.int x2), some (.int x), a4, a5] st S P ↔ rn G mm_Water_rise 106 [a0, a1, some (.int x2), some (.int (x + nI 1)), a4, a5] st S P := rn_s dq_Water_rise_103 rfl rfl rfl
theorem sq_Water_rise_103r : rn G mm_Water_rise 103 [a0, a1, some (.ref z2), some (.int x), a4, a5] st S P ↔ rn G mm_Water_rise 106 [a0, a1, some (.ref z2), some (.int (x + nI 1)), a4, a5] st S P := rn_s dq_Water_rise_103 rfl rfl rfl
theorem sq_Water_rise_103l : rn G mm_Water_rise 103 [a0, a1, some (.long y2), some (.int x), a4, a5] st S P ↔ rn G mm_Water_rise 106 [a0, a1, none, some (.int (x + nI 1)), a4, a5] st S P := rn_s dq_Water_rise_103 rfl rfl rfl
theorem dq_Water_rise_106 : decode (km_c mm_Water_rise) 106 = .ok (.goto (-58), 3) := by decide +kernel
theorem sq_Water_rise_106 : rn G mm_Water_rise 106 lv st S P ↔ rn G mm_Water_rise 48 lv st S P := rn_s dq_Water_rise_106 rfl rfl rfl
theorem dq_Water_rise_109 : decode (km_c mm_Water_rise) 109 = .ok (.return_, 1) := by decide +kernel
theorem sq_Water_rise_109 : rn G mm_Water_rise 109 lv [] S P ↔ P none S := rn_vr dq_Water_rise_109 rfl
theorem dq_Water_reach_0 : decode (km_c mm_Water_reach) 0 = .ok (.iload_n 2, 1) := by decide +kernel
theorem sq_Water_reach_0 : rn G mm_Water_reach 0 [a0, a1, some (.int x), a3, a4] st S P ↔ rn G mm_Water_reach 1 [a0, a1, some (.int x), a3, a4] (.int x :: st) S P := rn_s dq_Water_reach_0 rfl rfl rfl
theorem dq_Water_reach_1 : decode (km_c mm_Water_reach) 1 = .ok (.aload_n 1, 1) := by decide +kernel
theorem sq_Water_reach_1 : rn G mm_Water_reach 1 [a0, some (.ref z), a2, a3, a4] st S P ↔ rn G mm_Water_reach 2 [a0, some (.ref z), a2, a3, a4] (.ref z :: st) S P := rn_s dq_Water_reach_1 rfl rfl rfl
theorem dq_Water_reach_2 : decode (km_c mm_Water_reach) 2 = .ok (.iload_n 3, 1) := by decide +kernel
theorem sq_Water_reach_2 : rn G mm_Water_reach 2 [a0, a1, a2, some (.int x), a4] st S P ↔ rn G mm_Water_reach 3 [a0, a1, a2, some (.int x), a4] (.int x :: st) S P := rn_s dq_Water_reach_2 rfl rfl rfl
theorem dq_Water_reach_3 : decode (km_c mm_Water_reach) 3 = .ok (.invokevirtual 45, 3) := by decide +kernel
theorem sq_Water_reach_3_2 {x1 : Int32} {v : Option Value} {S2 : ks_S} (ho : sx_o o pl kp) (hst : kx_cat st ≤ 8) (hc : ev (lt_G o L) mm_Ground_top [.ref 2, .int x1] (sx pl kp I A) v S2) : rn (lt_G o L) mm_Water_reach 3 lv (.int x1 :: .ref 2 :: st) (sx pl kp I A) P ↔ rn (lt_G o L) mm_Water_reach 6 lv (v.toList ++ st) S2 P := rn_cv (k := 0) (host := "") (E' := mm_Ground_top) dq_Water_reach_3 rfl (ok_v rfl (by decide) (by decide) (Nat.le_add_left _ _) hst (Nat.le_of_ble_eq_true rfl) (Or.inr (rc_v ho (up_b (by decide)) rfl))) rfl rfl hc
theorem sq_Water_reach_3_35 {x1 : Int32} {v : Option Value} {S2 : ks_S} (ho : sx_o o pl kp) (hst : kx_cat st ≤ 8) (hc : ev (lt_G o L) mm_Ground_top [.ref 35, .int x1] (sx pl kp I A) v S2) : rn (lt_G o L) mm_Water_reach 3 lv (.int x1 :: .ref 35 :: st) (sx pl kp I A) P ↔ rn (lt_G o L) mm_Water_reach 6 lv (v.toList ++ st) S2 P := rn_cv (k := 0) (host := "") (E' := mm_Ground_top) dq_Water_reach_3 rfl (ok_v rfl (by decide) (by decide) (Nat.le_add_left _ _) hst (Nat.le_of_ble_eq_true rfl) (Or.inr (rc_v ho (up_b (by decide)) rfl))) rfl rfl hc
theorem sq_Water_reach_3_137 {x1 : Int32} {v : Option Value} {S2 : ks_S} (ho : sx_o o pl true) (hst : kx_cat st ≤ 8) (hc : ev (lt_G o L) mm_Ground_top [.ref 137, .int x1] (sx pl true I A) v S2) : rn (lt_G o L) mm_Water_reach 3 lv (.int x1 :: .ref 137 :: st) (sx pl true I A) P ↔ rn (lt_G o L) mm_Water_reach 6 lv (v.toList ++ st) S2 P := rn_cv (k := 0) (host := "") (E' := mm_Ground_top) dq_Water_reach_3 rfl (ok_v rfl (by decide) (by decide) (Nat.le_add_left _ _) hst (Nat.le_of_ble_eq_true rfl) (Or.inr (rc_v ho (up_k (by decide) (by decide)) rfl))) rfl rfl hc
theorem dq_Water_reach_6 : decode (km_c mm_Water_reach) 6 = .ok (.isub, 1) := by decide +kernel
theorem sq_Water_reach_6 : rn G mm_Water_reach 6 lv (.int x2 :: .int x :: st) S P ↔ rn G mm_Water_reach 7 lv (.int (x - x2) :: st) S P := rn_s dq_Water_reach_6 rfl rfl rfl
theorem dq_Water_reach_7 : decode (km_c mm_Water_reach) 7 = .ok (.istore 4, 2) := by decide +kernel
theorem sq_Water_reach_7n : rn G mm_Water_reach 7 [a0, a1, a2, none, a4] (.int x :: st) S P ↔ rn G mm_Water_reach 9 [a0, a1, a2, none, some (.int x)] st S P := rn_s dq_Water_reach_7 rfl rfl rfl
theorem sq_Water_reach_7i : rn G mm_Water_reach 7 [a0, a1, a2, some (.int x2), a4] (.int x :: st) S P ↔ rn G mm_Water_reach 9 [a0, a1, a2, some (.int x2), some (.int x)] st S P := rn_s dq_Water_reach_7 rfl rfl rfl
theorem sq_Water_reach_7r : rn G mm_Water_reach 7 [a0, a1, a2, some (.ref z2), a4] (.int x :: st) S P ↔ rn G mm_Water_reach 9 [a0, a1, a2, some (.ref z2), some (.int x)] st S P := rn_s dq_Water_reach_7 rfl rfl rfl
theorem sq_Water_reach_7l : rn G mm_Water_reach 7 [a0, a1, a2, some (.long y2), a4] (.int x :: st) S P ↔ rn G mm_Water_reach 9 [a0, a1, a2, none, some (.int x)] st S P := rn_s dq_Water_reach_7 rfl rfl rfl
theorem dq_Water_reach_9 : decode (km_c mm_Water_reach) 9 = .ok (.iload 4, 2) := by decide +kernel
theorem sq_Water_reach_9 : rn G mm_Water_reach 9 [a0, a1, a2, a3, some (.int x)] st S P ↔ rn G mm_Water_reach 11 [a0, a1, a2, a3, some (.int x)] (.int x :: st) S P := rn_s dq_Water_reach_9 rfl rfl rfl
theorem dq_Water_reach_11 : decode (km_c mm_Water_reach) 11 = .ok (.ifCond .le 49, 3) := by decide +kernel
theorem sq_Water_reach_11 : rn G mm_Water_reach 11 lv (.int x :: st) S P ↔ ((x ≤ 0 → rn G mm_Water_reach 60 lv st S P) ∧ (¬ (x ≤ 0) → rn G mm_Water_reach 14 lv st S P)) := rn_b (off := 49) dq_Water_reach_11 rfl rfl rfl rfl
theorem dq_Water_reach_14 : decode (km_c mm_Water_reach) 14 = .ok (.aload_n 0, 1) := by decide +kernel
theorem sq_Water_reach_14 : rn G mm_Water_reach 14 [some (.ref z), a1, a2, a3, a4] st S P ↔ rn G mm_Water_reach 15 [some (.ref z), a1, a2, a3, a4] (.ref z :: st) S P := rn_s dq_Water_reach_14 rfl rfl rfl
theorem dq_Water_reach_15 : decode (km_c mm_Water_reach) 15 = .ok (.getfield 9, 3) := by decide +kernel
theorem sq_Water_reach_15_16 (ho : sx_o o pl kp) : rn (lt_G o L) mm_Water_reach 15 lv (.ref 16 :: st) (sx pl kp I A) P ↔ rn (lt_G o L) mm_Water_reach 18 lv (.ref 17 :: st) (sx pl kp I A) P := rx_get (h := "") (ci := 6) (k := 0) dq_Water_reach_15 (by decide +kernel) ho (up_b (by decide)) rfl rfl (fl_r (by decide) (by decide) (by decide) (by decide))
theorem sq_Water_reach_15_20 (ho : sx_o o pl kp) : rn (lt_G o L) mm_Water_reach 15 lv (.ref 20 :: st) (sx pl kp I A) P ↔ rn (lt_G o L) mm_Water_reach 18 lv (.ref 21 :: st) (sx pl kp I A) P := rx_get (h := "") (ci := 6) (k := 0) dq_Water_reach_15 (by decide +kernel) ho (up_b (by decide)) rfl rfl (fl_r (by decide) (by decide) (by decide) (by decide))
theorem dq_Water_reach_18 : decode (km_c mm_Water_reach) 18 = .ok (.iload_n 3, 1) := by decide +kernel
theorem sq_Water_reach_18 : rn G mm_Water_reach 18 [a0, a1, a2, some (.int x), a4] st S P ↔ rn G mm_Water_reach 19 [a0, a1, a2, some (.int x), a4] (.int x :: st) S P := rn_s dq_Water_reach_18 rfl rfl rfl
theorem dq_Water_reach_19 : decode (km_c mm_Water_reach) 19 = .ok (.iaload, 1) := by decide +kernel
theorem sq_Water_reach_19 (ho : sx_o o pl kp) (hk : ak L a = 0) (hu : sx_up pl kp a = true ∨ 1000 ≤ a) (hc : c < ln L a) (hn : ln L a < 2 ^ 31) : rn (lt_G o L) mm_Water_reach 19 lv (.int (nI c) :: .ref a :: st) (sx pl kp I A) P ↔ rn (lt_G o L) mm_Water_reach 20 lv (.int (A a c) :: st) (sx pl kp I A) P := rx_ild dq_Water_reach_19 ho hk hu hc hn
theorem dq_Water_reach_20 : decode (km_c mm_Water_reach) 20 = .ok (.ifCond .ne 40, 3) := by decide +kernel
theorem sq_Water_reach_20 : rn G mm_Water_reach 20 lv (.int x :: st) S P ↔ ((¬ x = 0 → rn G mm_Water_reach 60 lv st S P) ∧ (¬ (¬ x = 0) → rn G mm_Water_reach 23 lv st S P)) := rn_b (off := 40) dq_Water_reach_20 rfl rfl rfl rfl
theorem dq_Water_reach_23 : decode (km_c mm_Water_reach) 23 = .ok (.aload_n 0, 1) := by decide +kernel
theorem sq_Water_reach_23 : rn G mm_Water_reach 23 [some (.ref z), a1, a2, a3, a4] st S P ↔ rn G mm_Water_reach 24 [some (.ref z), a1, a2, a3, a4] (.ref z :: st) S P := rn_s dq_Water_reach_23 rfl rfl rfl
theorem dq_Water_reach_24 : decode (km_c mm_Water_reach) 24 = .ok (.getfield 21, 3) := by decide +kernel
theorem sq_Water_reach_24_16 (ho : sx_o o pl kp) : rn (lt_G o L) mm_Water_reach 24 lv (.ref 16 :: st) (sx pl kp I A) P ↔ rn (lt_G o L) mm_Water_reach 27 lv (.int (I 16 3) :: st) (sx pl kp I A) P := rx_get (h := "") (ci := 6) (k := 3) dq_Water_reach_24 (by decide +kernel) ho (up_b (by decide)) rfl rfl (fl_i (by decide))
theorem sq_Water_reach_24_20 (ho : sx_o o pl kp) : rn (lt_G o L) mm_Water_reach 24 lv (.ref 20 :: st) (sx pl kp I A) P ↔ rn (lt_G o L) mm_Water_reach 27 lv (.int (I 20 3) :: st) (sx pl kp I A) P := rx_get (h := "") (ci := 6) (k := 3) dq_Water_reach_24 (by decide +kernel) ho (up_b (by decide)) rfl rfl (fl_i (by decide))
theorem dq_Water_reach_27 : decode (km_c mm_Water_reach) 27 = .ok (.bipush 49, 2) := by decide +kernel
theorem sq_Water_reach_27 : rn G mm_Water_reach 27 lv st S P ↔ rn G mm_Water_reach 29 lv (.int (nI 49) :: st) S P := rn_s dq_Water_reach_27 rfl rfl rfl
theorem dq_Water_reach_29 : decode (km_c mm_Water_reach) 29 = .ok (.if_icmp .ge 31, 3) := by decide +kernel
theorem sq_Water_reach_29 : rn G mm_Water_reach 29 lv (.int x2 :: .int x :: st) S P ↔ ((x2 ≤ x → rn G mm_Water_reach 60 lv st S P) ∧ (¬ (x2 ≤ x) → rn G mm_Water_reach 32 lv st S P)) := rn_b (off := 31) dq_Water_reach_29 rfl rfl rfl rfl
theorem dq_Water_reach_32 : decode (km_c mm_Water_reach) 32 = .ok (.aload_n 0, 1) := by decide +kernel
theorem sq_Water_reach_32 : rn G mm_Water_reach 32 [some (.ref z), a1, a2, a3, a4] st S P ↔ rn G mm_Water_reach 33 [some (.ref z), a1, a2, a3, a4] (.ref z :: st) S P := rn_s dq_Water_reach_32 rfl rfl rfl
theorem dq_Water_reach_33 : decode (km_c mm_Water_reach) 33 = .ok (.getfield 9, 3) := by decide +kernel
theorem sq_Water_reach_33_16 (ho : sx_o o pl kp) : rn (lt_G o L) mm_Water_reach 33 lv (.ref 16 :: st) (sx pl kp I A) P ↔ rn (lt_G o L) mm_Water_reach 36 lv (.ref 17 :: st) (sx pl kp I A) P := rx_get (h := "") (ci := 6) (k := 0) dq_Water_reach_33 (by decide +kernel) ho (up_b (by decide)) rfl rfl (fl_r (by decide) (by decide) (by decide) (by decide))
theorem sq_Water_reach_33_20 (ho : sx_o o pl kp) : rn (lt_G o L) mm_Water_reach 33 lv (.ref 20 :: st) (sx pl kp I A) P ↔ rn (lt_G o L) mm_Water_reach 36 lv (.ref 21 :: st) (sx pl kp I A) P := rx_get (h := "") (ci := 6) (k := 0) dq_Water_reach_33 (by decide +kernel) ho (up_b (by decide)) rfl rfl (fl_r (by decide) (by decide) (by decide) (by decide))
theorem dq_Water_reach_36 : decode (km_c mm_Water_reach) 36 = .ok (.iload_n 3, 1) := by decide +kernel
theorem sq_Water_reach_36 : rn G mm_Water_reach 36 [a0, a1, a2, some (.int x), a4] st S P ↔ rn G mm_Water_reach 37 [a0, a1, a2, some (.int x), a4] (.int x :: st) S P := rn_s dq_Water_reach_36 rfl rfl rfl
theorem dq_Water_reach_37 : decode (km_c mm_Water_reach) 37 = .ok (.iload 4, 2) := by decide +kernel
theorem sq_Water_reach_37 : rn G mm_Water_reach 37 [a0, a1, a2, a3, some (.int x)] st S P ↔ rn G mm_Water_reach 39 [a0, a1, a2, a3, some (.int x)] (.int x :: st) S P := rn_s dq_Water_reach_37 rfl rfl rfl
theorem dq_Water_reach_39 : decode (km_c mm_Water_reach) 39 = .ok (.iastore, 1) := by decide +kernel
theorem sq_Water_reach_39 (ho : sx_o o pl kp) (hk : ak L a = 0) (hu : sx_up pl kp a = true) (hc : c < ln L a) (hn : ln L a < 2 ^ 31) : rn (lt_G o L) mm_Water_reach 39 lv (.int x :: .int (nI c) :: .ref a :: st) (sx pl kp I A) P ↔ rn (lt_G o L) mm_Water_reach 40 lv st (sx pl kp I (u2 A a c x)) P := rx_ist dq_Water_reach_39 ho hk hu hc hn
theorem dq_Water_reach_40 : decode (km_c mm_Water_reach) 40 = .ok (.aload_n 0, 1) := by decide +kernel
theorem sq_Water_reach_40 : rn G mm_Water_reach 40 [some (.ref z), a1, a2, a3, a4] st S P ↔ rn G mm_Water_reach 41 [some (.ref z), a1, a2, a3, a4] (.ref z :: st) S P := rn_s dq_Water_reach_40 rfl rfl rfl
theorem dq_Water_reach_41 : decode (km_c mm_Water_reach) 41 = .ok (.getfield 15, 3) := by decide +kernel
theorem sq_Water_reach_41_16 (ho : sx_o o pl kp) : rn (lt_G o L) mm_Water_reach 41 lv (.ref 16 :: st) (sx pl kp I A) P ↔ rn (lt_G o L) mm_Water_reach 44 lv (.ref 18 :: st) (sx pl kp I A) P := rx_get (h := "") (ci := 6) (k := 1) dq_Water_reach_41 (by decide +kernel) ho (up_b (by decide)) rfl rfl (fl_r (by decide) (by decide) (by decide) (by decide))
theorem sq_Water_reach_41_20 (ho : sx_o o pl kp) : rn (lt_G o L) mm_Water_reach 41 lv (.ref 20 :: st) (sx pl kp I A) P ↔ rn (lt_G o L) mm_Water_reach 44 lv (.ref 22 :: st) (sx pl kp I A) P := rx_get (h := "") (ci := 6) (k := 1) dq_Water_reach_41 (by decide +kernel) ho (up_b (by decide)) rfl rfl (fl_r (by decide) (by decide) (by decide) (by decide))
theorem dq_Water_reach_44 : decode (km_c mm_Water_reach) 44 = .ok (.aload_n 0, 1) := by decide +kernel
theorem sq_Water_reach_44 : rn G mm_Water_reach 44 [some (.ref z), a1, a2, a3, a4] st S P ↔ rn G mm_Water_reach 45 [some (.ref z), a1, a2, a3, a4] (.ref z :: st) S P := rn_s dq_Water_reach_44 rfl rfl rfl
theorem dq_Water_reach_45 : decode (km_c mm_Water_reach) 45 = .ok (.getfield 21, 3) := by decide +kernel
theorem sq_Water_reach_45_16 (ho : sx_o o pl kp) : rn (lt_G o L) mm_Water_reach 45 lv (.ref 16 :: st) (sx pl kp I A) P ↔ rn (lt_G o L) mm_Water_reach 48 lv (.int (I 16 3) :: st) (sx pl kp I A) P := rx_get (h := "") (ci := 6) (k := 3) dq_Water_reach_45 (by decide +kernel) ho (up_b (by decide)) rfl rfl (fl_i (by decide))
theorem sq_Water_reach_45_20 (ho : sx_o o pl kp) : rn (lt_G o L) mm_Water_reach 45 lv (.ref 20 :: st) (sx pl kp I A) P ↔ rn (lt_G o L) mm_Water_reach 48 lv (.int (I 20 3) :: st) (sx pl kp I A) P := rx_get (h := "") (ci := 6) (k := 3) dq_Water_reach_45 (by decide +kernel) ho (up_b (by decide)) rfl rfl (fl_i (by decide))
theorem dq_Water_reach_48 : decode (km_c mm_Water_reach) 48 = .ok (.iload_n 3, 1) := by decide +kernel
theorem sq_Water_reach_48 : rn G mm_Water_reach 48 [a0, a1, a2, some (.int x), a4] st S P ↔ rn G mm_Water_reach 49 [a0, a1, a2, some (.int x), a4] (.int x :: st) S P := rn_s dq_Water_reach_48 rfl rfl rfl
theorem dq_Water_reach_49 : decode (km_c mm_Water_reach) 49 = .ok (.iastore, 1) := by decide +kernel
theorem sq_Water_reach_49 (ho : sx_o o pl kp) (hk : ak L a = 0) (hu : sx_up pl kp a = true) (hc : c < ln L a) (hn : ln L a < 2 ^ 31) : rn (lt_G o L) mm_Water_reach 49 lv (.int x :: .int (nI c) :: .ref a :: st) (sx pl kp I A) P ↔ rn (lt_G o L) mm_Water_reach 50 lv st (sx pl kp I (u2 A a c x)) P := rx_ist dq_Water_reach_49 ho hk hu hc hn
theorem dq_Water_reach_50 : decode (km_c mm_Water_reach) 50 = .ok (.aload_n 0, 1) := by decide +kernel
theorem sq_Water_reach_50 : rn G mm_Water_reach 50 [some (.ref z), a1, a2, a3, a4] st S P ↔ rn G mm_Water_reach 51 [some (.ref z), a1, a2, a3, a4] (.ref z :: st) S P := rn_s dq_Water_reach_50 rfl rfl rfl
theorem dq_Water_reach_51 : decode (km_c mm_Water_reach) 51 = .ok (.dup, 1) := by decide +kernel
theorem sq_Water_reach_51i : rn G mm_Water_reach 51 lv (.int x :: st) S P ↔ rn G mm_Water_reach 52 lv (.int x :: .int x :: st) S P := rn_s dq_Water_reach_51 rfl rfl rfl
theorem sq_Water_reach_51r : rn G mm_Water_reach 51 lv (.ref z :: st) S P ↔ rn G mm_Water_reach 52 lv (.ref z :: .ref z :: st) S P := rn_s dq_Water_reach_51 rfl rfl rfl
theorem dq_Water_reach_52 : decode (km_c mm_Water_reach) 52 = .ok (.getfield 21, 3) := by decide +kernel
theorem sq_Water_reach_52_16 (ho : sx_o o pl kp) : rn (lt_G o L) mm_Water_reach 52 lv (.ref 16 :: st) (sx pl kp I A) P ↔ rn (lt_G o L) mm_Water_reach 55 lv (.int (I 16 3) :: st) (sx pl kp I A) P := rx_get (h := "") (ci := 6) (k := 3) dq_Water_reach_52 (by decide +kernel) ho (up_b (by decide)) rfl rfl (fl_i (by decide))
theorem sq_Water_reach_52_20 (ho : sx_o o pl kp) : rn (lt_G o L) mm_Water_reach 52 lv (.ref 20 :: st) (sx pl kp I A) P ↔ rn (lt_G o L) mm_Water_reach 55 lv (.int (I 20 3) :: st) (sx pl kp I A) P := rx_get (h := "") (ci := 6) (k := 3) dq_Water_reach_52 (by decide +kernel) ho (up_b (by decide)) rfl rfl (fl_i (by decide))
theorem dq_Water_reach_55 : decode (km_c mm_Water_reach) 55 = .ok (.iconst 1, 1) := by decide +kernel
theorem sq_Water_reach_55 : rn G mm_Water_reach 55 lv st S P ↔ rn G mm_Water_reach 56 lv (.int (nI 1) :: st) S P := rn_s dq_Water_reach_55 rfl rfl rfl
theorem dq_Water_reach_56 : decode (km_c mm_Water_reach) 56 = .ok (.iadd, 1) := by decide +kernel
theorem sq_Water_reach_56 : rn G mm_Water_reach 56 lv (.int x2 :: .int x :: st) S P ↔ rn G mm_Water_reach 57 lv (.int (x + x2) :: st) S P := rn_s dq_Water_reach_56 rfl rfl rfl
theorem dq_Water_reach_57 : decode (km_c mm_Water_reach) 57 = .ok (.putfield 21, 3) := by decide +kernel
theorem sq_Water_reach_57_16 (ho : sx_o o pl kp) : rn (lt_G o L) mm_Water_reach 57 lv (.int x :: .ref 16 :: st) (sx pl kp I A) P ↔ rn (lt_G o L) mm_Water_reach 60 lv st (sx pl kp (u2 I 16 3 x) A) P := rx_put (h := "") (ci := 6) (k := 3) dq_Water_reach_57 (by decide +kernel) ho (up_b (by decide)) rfl rfl (by decide) (by decide)
theorem sq_Water_reach_57_20 (ho : sx_o o pl kp) : rn (lt_G o L) mm_Water_reach 57 lv (.int x :: .ref 20 :: st) (sx pl kp I A) P ↔ rn (lt_G o L) mm_Water_reach 60 lv st (sx pl kp (u2 I 20 3 x) A) P := rx_put (h := "") (ci := 6) (k := 3) dq_Water_reach_57 (by decide +kernel) ho (up_b (by decide)) rfl rfl (by decide) (by decide)
theorem dq_Water_reach_60 : decode (km_c mm_Water_reach) 60 = .ok (.return_, 1) := by decide +kernel
theorem sq_Water_reach_60 : rn G mm_Water_reach 60 lv [] S P ↔ P none S := rn_vr dq_Water_reach_60 rfl
theorem dq_Water_wetCells_0 : decode (km_c mm_Water_wetCells) 0 = .ok (.aload_n 0, 1) := by decide +kernel
theorem sq_Water_wetCells_0 : rn G mm_Water_wetCells 0 [some (.ref z)] st S P ↔ rn G mm_Water_wetCells 1 [some (.ref z)] (.ref z :: st) S P := rn_s dq_Water_wetCells_0 rfl rfl rfl
theorem dq_Water_wetCells_1 : decode (km_c mm_Water_wetCells) 1 = .ok (.getfield 21, 3) := by decide +kernel
theorem sq_Water_wetCells_1_16 (ho : sx_o o pl kp) : rn (lt_G o L) mm_Water_wetCells 1 lv (.ref 16 :: st) (sx pl kp I A) P ↔ rn (lt_G o L) mm_Water_wetCells 4 lv (.int (I 16 3) :: st) (sx pl kp I A) P := rx_get (h := "") (ci := 6) (k := 3) dq_Water_wetCells_1 (by decide +kernel) ho (up_b (by decide)) rfl rfl (fl_i (by decide))
theorem sq_Water_wetCells_1_20 (ho : sx_o o pl kp) : rn (lt_G o L) mm_Water_wetCells 1 lv (.ref 20 :: st) (sx pl kp I A) P ↔ rn (lt_G o L) mm_Water_wetCells 4 lv (.int (I 20 3) :: st) (sx pl kp I A) P := rx_get (h := "") (ci := 6) (k := 3) dq_Water_wetCells_1 (by decide +kernel) ho (up_b (by decide)) rfl rfl (fl_i (by decide))
theorem dq_Water_wetCells_4 : decode (km_c mm_Water_wetCells) 4 = .ok (.ireturn, 1) := by decide +kernel
theorem sq_Water_wetCells_4 : rn G mm_Water_wetCells 4 lv [.int x] S P ↔ P (some (.int x)) S := rn_ir dq_Water_wetCells_4 rfl
theorem dq_Water_carryMud_0 : decode (km_c mm_Water_carryMud) 0 = .ok (.aload_n 1, 1) := by decide +kernel
theorem sq_Water_carryMud_0 : rn G mm_Water_carryMud 0 [a0, some (.ref z), a2, a3, a4, a5] st S P ↔ rn G mm_Water_carryMud 1 [a0, some (.ref z), a2, a3, a4, a5] (.ref z :: st) S P := rn_s dq_Water_carryMud_0 rfl rfl rfl
theorem dq_Water_carryMud_1 : decode (km_c mm_Water_carryMud) 1 = .ok (.getfield 31, 3) := by decide +kernel
theorem sq_Water_carryMud_1_2 (ho : sx_o o pl kp) : rn (lt_G o L) mm_Water_carryMud 1 lv (.ref 2 :: st) (sx pl kp I A) P ↔ rn (lt_G o L) mm_Water_carryMud 4 lv (.ref 3 :: st) (sx pl kp I A) P := rx_get (h := "DeltaRoad") (ci := 0) (k := 0) dq_Water_carryMud_1 (by decide +kernel) ho (up_b (by decide)) rfl rfl (fl_r (by decide) (by decide) (by decide) (by decide))
theorem sq_Water_carryMud_1_35 (ho : sx_o o pl kp) : rn (lt_G o L) mm_Water_carryMud 1 lv (.ref 35 :: st) (sx pl kp I A) P ↔ rn (lt_G o L) mm_Water_carryMud 4 lv (.ref 36 :: st) (sx pl kp I A) P := rx_get (h := "DeltaRoad") (ci := 0) (k := 0) dq_Water_carryMud_1 (by decide +kernel) ho (up_b (by decide)) rfl rfl (fl_r (by decide) (by decide) (by decide) (by decide))
theorem sq_Water_carryMud_1_137 (ho : sx_o o pl true) : rn (lt_G o L) mm_Water_carryMud 1 lv (.ref 137 :: st) (sx pl true I A) P ↔ rn (lt_G o L) mm_Water_carryMud 4 lv (.ref 138 :: st) (sx pl true I A) P := rx_get (h := "DeltaRoad") (ci := 0) (k := 0) dq_Water_carryMud_1 (by decide +kernel) ho (up_k (by decide) (by decide)) rfl rfl (fl_k (by decide) (by decide))
theorem dq_Water_carryMud_4 : decode (km_c mm_Water_carryMud) 4 = .ok (.iconst 1, 1) := by decide +kernel
theorem sq_Water_carryMud_4 : rn G mm_Water_carryMud 4 lv st S P ↔ rn G mm_Water_carryMud 5 lv (.int (nI 1) :: st) S P := rn_s dq_Water_carryMud_4 rfl rfl rfl
theorem dq_Water_carryMud_5 : decode (km_c mm_Water_carryMud) 5 = .ok (.aaload, 1) := by decide +kernel
theorem sq_Water_carryMud_5 (ho : sx_o o pl kp) (hk : ak L a = 3) (hu : sx_up pl kp a = true) (hc : c < ln L a) (hn : ln L a < 2 ^ 31) : rn (lt_G o L) mm_Water_carryMud 5 lv (.int (nI c) :: .ref a :: st) (sx pl kp I A) P ↔ rn (lt_G o L) mm_Water_carryMud 6 lv (.ref (ab L a + c) :: st) (sx pl kp I A) P := rx_ald dq_Water_carryMud_5 ho hk hu hc hn
theorem dq_Water_carryMud_6 : decode (km_c mm_Water_carryMud) 6 = .ok (.astore_n 2, 1) := by decide +kernel
theorem sq_Water_carryMud_6n : rn G mm_Water_carryMud 6 [a0, none, a2, a3, a4, a5] (.ref z :: st) S P ↔ rn G mm_Water_carryMud 7 [a0, none, some (.ref z), a3, a4, a5] st S P := rn_s dq_Water_carryMud_6 rfl rfl rfl
theorem sq_Water_carryMud_6i : rn G mm_Water_carryMud 6 [a0, some (.int x2), a2, a3, a4, a5] (.ref z :: st) S P ↔ rn G mm_Water_carryMud 7 [a0, some (.int x2), some (.ref z), a3, a4, a5] st S P := rn_s dq_Water_carryMud_6 rfl rfl rfl
theorem sq_Water_carryMud_6r : rn G mm_Water_carryMud 6 [a0, some (.ref z2), a2, a3, a4, a5] (.ref z :: st) S P ↔ rn G mm_Water_carryMud 7 [a0, some (.ref z2), some (.ref z), a3, a4, a5] st S P := rn_s dq_Water_carryMud_6 rfl rfl rfl
theorem sq_Water_carryMud_6l : rn G mm_Water_carryMud 6 [a0, some (.long y2), a2, a3, a4, a5] (.ref z :: st) S P ↔ rn G mm_Water_carryMud 7 [a0, none, some (.ref z), a3, a4, a5] st S P := rn_s dq_Water_carryMud_6 rfl rfl rfl
theorem dq_Water_carryMud_7 : decode (km_c mm_Water_carryMud) 7 = .ok (.iconst 0, 1) := by decide +kernel
theorem sq_Water_carryMud_7 : rn G mm_Water_carryMud 7 lv st S P ↔ rn G mm_Water_carryMud 8 lv (.int (nI 0) :: st) S P := rn_s dq_Water_carryMud_7 rfl rfl rfl
theorem dq_Water_carryMud_8 : decode (km_c mm_Water_carryMud) 8 = .ok (.istore_n 3, 1) := by decide +kernel
theorem sq_Water_carryMud_8n : rn G mm_Water_carryMud 8 [a0, a1, none, a3, a4, a5] (.int x :: st) S P ↔ rn G mm_Water_carryMud 9 [a0, a1, none, some (.int x), a4, a5] st S P := rn_s dq_Water_carryMud_8 rfl rfl rfl
theorem sq_Water_carryMud_8i : rn G mm_Water_carryMud 8 [a0, a1, some (.int x2), a3, a4, a5] (.int x :: st) S P ↔ rn G mm_Water_carryMud 9 [a0, a1, some (.int x2), some (.int x), a4, a5] st S P := rn_s dq_Water_carryMud_8 rfl rfl rfl
theorem sq_Water_carryMud_8r : rn G mm_Water_carryMud 8 [a0, a1, some (.ref z2), a3, a4, a5] (.int x :: st) S P ↔ rn G mm_Water_carryMud 9 [a0, a1, some (.ref z2), some (.int x), a4, a5] st S P := rn_s dq_Water_carryMud_8 rfl rfl rfl
theorem sq_Water_carryMud_8l : rn G mm_Water_carryMud 8 [a0, a1, some (.long y2), a3, a4, a5] (.int x :: st) S P ↔ rn G mm_Water_carryMud 9 [a0, a1, none, some (.int x), a4, a5] st S P := rn_s dq_Water_carryMud_8 rfl rfl rfl
theorem dq_Water_carryMud_9 : decode (km_c mm_Water_carryMud) 9 = .ok (.iload_n 3, 1) := by decide +kernel
theorem sq_Water_carryMud_9 : rn G mm_Water_carryMud 9 [a0, a1, a2, some (.int x), a4, a5] st S P ↔ rn G mm_Water_carryMud 10 [a0, a1, a2, some (.int x), a4, a5] (.int x :: st) S P := rn_s dq_Water_carryMud_9 rfl rfl rfl
theorem dq_Water_carryMud_10 : decode (km_c mm_Water_carryMud) 10 = .ok (.bipush 49, 2) := by decide +kernel
theorem sq_Water_carryMud_10 : rn G mm_Water_carryMud 10 lv st S P ↔ rn G mm_Water_carryMud 12 lv (.int (nI 49) :: st) S P := rn_s dq_Water_carryMud_10 rfl rfl rfl
theorem dq_Water_carryMud_12 : decode (km_c mm_Water_carryMud) 12 = .ok (.if_icmp .ge 51, 3) := by decide +kernel
theorem sq_Water_carryMud_12 : rn G mm_Water_carryMud 12 lv (.int x2 :: .int x :: st) S P ↔ ((x2 ≤ x → rn G mm_Water_carryMud 63 lv st S P) ∧ (¬ (x2 ≤ x) → rn G mm_Water_carryMud 15 lv st S P)) := rn_b (off := 51) dq_Water_carryMud_12 rfl rfl rfl rfl
theorem dq_Water_carryMud_15 : decode (km_c mm_Water_carryMud) 15 = .ok (.aload_n 0, 1) := by decide +kernel
theorem sq_Water_carryMud_15 : rn G mm_Water_carryMud 15 [some (.ref z), a1, a2, a3, a4, a5] st S P ↔ rn G mm_Water_carryMud 16 [some (.ref z), a1, a2, a3, a4, a5] (.ref z :: st) S P := rn_s dq_Water_carryMud_15 rfl rfl rfl
theorem dq_Water_carryMud_16 : decode (km_c mm_Water_carryMud) 16 = .ok (.getfield 9, 3) := by decide +kernel
theorem sq_Water_carryMud_16_16 (ho : sx_o o pl kp) : rn (lt_G o L) mm_Water_carryMud 16 lv (.ref 16 :: st) (sx pl kp I A) P ↔ rn (lt_G o L) mm_Water_carryMud 19 lv (.ref 17 :: st) (sx pl kp I A) P := rx_get (h := "") (ci := 6) (k := 0) dq_Water_carryMud_16 (by decide +kernel) ho (up_b (by decide)) rfl rfl (fl_r (by decide) (by decide) (by decide) (by decide))
theorem sq_Water_carryMud_16_20 (ho : sx_o o pl kp) : rn (lt_G o L) mm_Water_carryMud 16 lv (.ref 20 :: st) (sx pl kp I A) P ↔ rn (lt_G o L) mm_Water_carryMud 19 lv (.ref 21 :: st) (sx pl kp I A) P := rx_get (h := "") (ci := 6) (k := 0) dq_Water_carryMud_16 (by decide +kernel) ho (up_b (by decide)) rfl rfl (fl_r (by decide) (by decide) (by decide) (by decide))
theorem dq_Water_carryMud_19 : decode (km_c mm_Water_carryMud) 19 = .ok (.iload_n 3, 1) := by decide +kernel
theorem sq_Water_carryMud_19 : rn G mm_Water_carryMud 19 [a0, a1, a2, some (.int x), a4, a5] st S P ↔ rn G mm_Water_carryMud 20 [a0, a1, a2, some (.int x), a4, a5] (.int x :: st) S P := rn_s dq_Water_carryMud_19 rfl rfl rfl
theorem dq_Water_carryMud_20 : decode (km_c mm_Water_carryMud) 20 = .ok (.iaload, 1) := by decide +kernel
theorem sq_Water_carryMud_20 (ho : sx_o o pl kp) (hk : ak L a = 0) (hu : sx_up pl kp a = true ∨ 1000 ≤ a) (hc : c < ln L a) (hn : ln L a < 2 ^ 31) : rn (lt_G o L) mm_Water_carryMud 20 lv (.int (nI c) :: .ref a :: st) (sx pl kp I A) P ↔ rn (lt_G o L) mm_Water_carryMud 21 lv (.int (A a c) :: st) (sx pl kp I A) P := rx_ild dq_Water_carryMud_20 ho hk hu hc hn
theorem dq_Water_carryMud_21 : decode (km_c mm_Water_carryMud) 21 = .ok (.ifCond .le 13, 3) := by decide +kernel
theorem sq_Water_carryMud_21 : rn G mm_Water_carryMud 21 lv (.int x :: st) S P ↔ ((x ≤ 0 → rn G mm_Water_carryMud 34 lv st S P) ∧ (¬ (x ≤ 0) → rn G mm_Water_carryMud 24 lv st S P)) := rn_b (off := 13) dq_Water_carryMud_21 rfl rfl rfl rfl
theorem dq_Water_carryMud_24 : decode (km_c mm_Water_carryMud) 24 = .ok (.aload_n 2, 1) := by decide +kernel
theorem sq_Water_carryMud_24 : rn G mm_Water_carryMud 24 [a0, a1, some (.ref z), a3, a4, a5] st S P ↔ rn G mm_Water_carryMud 25 [a0, a1, some (.ref z), a3, a4, a5] (.ref z :: st) S P := rn_s dq_Water_carryMud_24 rfl rfl rfl
theorem dq_Water_carryMud_25 : decode (km_c mm_Water_carryMud) 25 = .ok (.iload_n 3, 1) := by decide +kernel
theorem sq_Water_carryMud_25 : rn G mm_Water_carryMud 25 [a0, a1, a2, some (.int x), a4, a5] st S P ↔ rn G mm_Water_carryMud 26 [a0, a1, a2, some (.int x), a4, a5] (.int x :: st) S P := rn_s dq_Water_carryMud_25 rfl rfl rfl
theorem dq_Water_carryMud_26 : decode (km_c mm_Water_carryMud) 26 = .ok (.iaload, 1) := by decide +kernel
theorem sq_Water_carryMud_26 (ho : sx_o o pl kp) (hk : ak L a = 0) (hu : sx_up pl kp a = true ∨ 1000 ≤ a) (hc : c < ln L a) (hn : ln L a < 2 ^ 31) : rn (lt_G o L) mm_Water_carryMud 26 lv (.int (nI c) :: .ref a :: st) (sx pl kp I A) P ↔ rn (lt_G o L) mm_Water_carryMud 27 lv (.int (A a c) :: st) (sx pl kp I A) P := rx_ild dq_Water_carryMud_26 ho hk hu hc hn
theorem dq_Water_carryMud_27 : decode (km_c mm_Water_carryMud) 27 = .ok (.ifCond .le 7, 3) := by decide +kernel
theorem sq_Water_carryMud_27 : rn G mm_Water_carryMud 27 lv (.int x :: st) S P ↔ ((x ≤ 0 → rn G mm_Water_carryMud 34 lv st S P) ∧ (¬ (x ≤ 0) → rn G mm_Water_carryMud 30 lv st S P)) := rn_b (off := 7) dq_Water_carryMud_27 rfl rfl rfl rfl
theorem dq_Water_carryMud_30 : decode (km_c mm_Water_carryMud) 30 = .ok (.iconst 1, 1) := by decide +kernel
theorem sq_Water_carryMud_30 : rn G mm_Water_carryMud 30 lv st S P ↔ rn G mm_Water_carryMud 31 lv (.int (nI 1) :: st) S P := rn_s dq_Water_carryMud_30 rfl rfl rfl
theorem dq_Water_carryMud_31 : decode (km_c mm_Water_carryMud) 31 = .ok (.goto 4, 3) := by decide +kernel
theorem sq_Water_carryMud_31 : rn G mm_Water_carryMud 31 lv st S P ↔ rn G mm_Water_carryMud 35 lv st S P := rn_s dq_Water_carryMud_31 rfl rfl rfl
theorem dq_Water_carryMud_34 : decode (km_c mm_Water_carryMud) 34 = .ok (.iconst 0, 1) := by decide +kernel
theorem sq_Water_carryMud_34 : rn G mm_Water_carryMud 34 lv st S P ↔ rn G mm_Water_carryMud 35 lv (.int (nI 0) :: st) S P := rn_s dq_Water_carryMud_34 rfl rfl rfl
theorem dq_Water_carryMud_35 : decode (km_c mm_Water_carryMud) 35 = .ok (.istore 4, 2) := by decide +kernel
theorem sq_Water_carryMud_35n : rn G mm_Water_carryMud 35 [a0, a1, a2, none, a4, a5] (.int x :: st) S P ↔ rn G mm_Water_carryMud 37 [a0, a1, a2, none, some (.int x), a5] st S P := rn_s dq_Water_carryMud_35 rfl rfl rfl
theorem sq_Water_carryMud_35i : rn G mm_Water_carryMud 35 [a0, a1, a2, some (.int x2), a4, a5] (.int x :: st) S P ↔ rn G mm_Water_carryMud 37 [a0, a1, a2, some (.int x2), some (.int x), a5] st S P := rn_s dq_Water_carryMud_35 rfl rfl rfl
theorem sq_Water_carryMud_35r : rn G mm_Water_carryMud 35 [a0, a1, a2, some (.ref z2), a4, a5] (.int x :: st) S P ↔ rn G mm_Water_carryMud 37 [a0, a1, a2, some (.ref z2), some (.int x), a5] st S P := rn_s dq_Water_carryMud_35 rfl rfl rfl
theorem sq_Water_carryMud_35l : rn G mm_Water_carryMud 35 [a0, a1, a2, some (.long y2), a4, a5] (.int x :: st) S P ↔ rn G mm_Water_carryMud 37 [a0, a1, a2, none, some (.int x), a5] st S P := rn_s dq_Water_carryMud_35 rfl rfl rfl
theorem dq_Water_carryMud_37 : decode (km_c mm_Water_carryMud) 37 = .ok (.aload_n 0, 1) := by decide +kernel
theorem sq_Water_carryMud_37 : rn G mm_Water_carryMud 37 [some (.ref z), a1, a2, a3, a4, a5] st S P ↔ rn G mm_Water_carryMud 38 [some (.ref z), a1, a2, a3, a4, a5] (.ref z :: st) S P := rn_s dq_Water_carryMud_37 rfl rfl rfl
theorem dq_Water_carryMud_38 : decode (km_c mm_Water_carryMud) 38 = .ok (.getfield 18, 3) := by decide +kernel
theorem sq_Water_carryMud_38_16 (ho : sx_o o pl kp) : rn (lt_G o L) mm_Water_carryMud 38 lv (.ref 16 :: st) (sx pl kp I A) P ↔ rn (lt_G o L) mm_Water_carryMud 41 lv (.ref 19 :: st) (sx pl kp I A) P := rx_get (h := "") (ci := 6) (k := 2) dq_Water_carryMud_38 (by decide +kernel) ho (up_b (by decide)) rfl rfl (fl_r (by decide) (by decide) (by decide) (by decide))
theorem sq_Water_carryMud_38_20 (ho : sx_o o pl kp) : rn (lt_G o L) mm_Water_carryMud 38 lv (.ref 20 :: st) (sx pl kp I A) P ↔ rn (lt_G o L) mm_Water_carryMud 41 lv (.ref 23 :: st) (sx pl kp I A) P := rx_get (h := "") (ci := 6) (k := 2) dq_Water_carryMud_38 (by decide +kernel) ho (up_b (by decide)) rfl rfl (fl_r (by decide) (by decide) (by decide) (by decide))
theorem dq_Water_carryMud_41 : decode (km_c mm_Water_carryMud) 41 = .ok (.iload_n 3, 1) := by decide +kernel
theorem sq_Water_carryMud_41 : rn G mm_Water_carryMud 41 [a0, a1, a2, some (.int x), a4, a5] st S P ↔ rn G mm_Water_carryMud 42 [a0, a1, a2, some (.int x), a4, a5] (.int x :: st) S P := rn_s dq_Water_carryMud_41 rfl rfl rfl
theorem dq_Water_carryMud_42 : decode (km_c mm_Water_carryMud) 42 = .ok (.iload 4, 2) := by decide +kernel
theorem sq_Water_carryMud_42 : rn G mm_Water_carryMud 42 [a0, a1, a2, a3, some (.int x), a5] st S P ↔ rn G mm_Water_carryMud 44 [a0, a1, a2, a3, some (.int x), a5] (.int x :: st) S P := rn_s dq_Water_carryMud_42 rfl rfl rfl
theorem dq_Water_carryMud_44 : decode (km_c mm_Water_carryMud) 44 = .ok (.ifCond .eq 11, 3) := by decide +kernel
theorem sq_Water_carryMud_44 : rn G mm_Water_carryMud 44 lv (.int x :: st) S P ↔ ((x = 0 → rn G mm_Water_carryMud 55 lv st S P) ∧ (¬ (x = 0) → rn G mm_Water_carryMud 47 lv st S P)) := rn_b (off := 11) dq_Water_carryMud_44 rfl rfl rfl rfl
theorem dq_Water_carryMud_47 : decode (km_c mm_Water_carryMud) 47 = .ok (.aload_n 1, 1) := by decide +kernel
theorem sq_Water_carryMud_47 : rn G mm_Water_carryMud 47 [a0, some (.ref z), a2, a3, a4, a5] st S P ↔ rn G mm_Water_carryMud 48 [a0, some (.ref z), a2, a3, a4, a5] (.ref z :: st) S P := rn_s dq_Water_carryMud_47 rfl rfl rfl
theorem dq_Water_carryMud_48 : decode (km_c mm_Water_carryMud) 48 = .ok (.iload_n 3, 1) := by decide +kernel
theorem sq_Water_carryMud_48 : rn G mm_Water_carryMud 48 [a0, a1, a2, some (.int x), a4, a5] st S P ↔ rn G mm_Water_carryMud 49 [a0, a1, a2, some (.int x), a4, a5] (.int x :: st) S P := rn_s dq_Water_carryMud_48 rfl rfl rfl
theorem dq_Water_carryMud_49 : decode (km_c mm_Water_carryMud) 49 = .ok (.invokestatic 62, 3) := by decide +kernel
theorem sq_Water_carryMud_49 {z1 : Nat} {x2 : Int32} {v : Option Value} {S2 : ks_S} (hst : kx_cat st ≤ 8) (hc : ev G mm_Water_lowestNext [.ref z1, .int x2] S v S2) : rn G mm_Water_carryMud 49 lv (.int x2 :: .ref z1 :: st) S P ↔ rn G mm_Water_carryMud 52 lv (v.toList ++ st) S2 P := rn_cs (k := 1) (host := "") (E' := mm_Water_lowestNext) dq_Water_carryMud_49 (by decide) (by decide) rfl (ok_v rfl (by decide) (by decide) (Nat.le_add_left _ _) hst (Nat.le_of_ble_eq_true rfl) (Or.inl rfl)) rfl rfl hc
theorem dq_Water_carryMud_52 : decode (km_c mm_Water_carryMud) 52 = .ok (.goto 4, 3) := by decide +kernel
theorem sq_Water_carryMud_52 : rn G mm_Water_carryMud 52 lv st S P ↔ rn G mm_Water_carryMud 56 lv st S P := rn_s dq_Water_carryMud_52 rfl rfl rfl
theorem dq_Water_carryMud_55 : decode (km_c mm_Water_carryMud) 55 = .ok (.iconst (-1), 1) := by decide +kernel
theorem sq_Water_carryMud_55 : rn G mm_Water_carryMud 55 lv st S P ↔ rn G mm_Water_carryMud 56 lv (.int ((-1)) :: st) S P := rn_s dq_Water_carryMud_55 rfl rfl rfl
theorem dq_Water_carryMud_56 : decode (km_c mm_Water_carryMud) 56 = .ok (.iastore, 1) := by decide +kernel
theorem sq_Water_carryMud_56 (ho : sx_o o pl kp) (hk : ak L a = 0) (hu : sx_up pl kp a = true) (hc : c < ln L a) (hn : ln L a < 2 ^ 31) : rn (lt_G o L) mm_Water_carryMud 56 lv (.int x :: .int (nI c) :: .ref a :: st) (sx pl kp I A) P ↔ rn (lt_G o L) mm_Water_carryMud 57 lv st (sx pl kp I (u2 A a c x)) P := rx_ist dq_Water_carryMud_56 ho hk hu hc hn
theorem dq_Water_carryMud_57 : decode (km_c mm_Water_carryMud) 57 = .ok (.iinc 3 1, 3) := by decide +kernel
theorem sq_Water_carryMud_57n : rn G mm_Water_carryMud 57 [a0, a1, none, some (.int x), a4, a5] st S P ↔ rn G mm_Water_carryMud 60 [a0, a1, none, some (.int (x + nI 1)), a4, a5] st S P := rn_s dq_Water_carryMud_57 rfl rfl rfl
theorem sq_Water_carryMud_57i : rn G mm_Water_carryMud 57 [a0, a1, some (.int x2), some (.int x), a4, a5] st S P ↔ rn G mm_Water_carryMud 60 [a0, a1, some (.int x2), some (.int (x + nI 1)), a4, a5] st S P := rn_s dq_Water_carryMud_57 rfl rfl rfl
theorem sq_Water_carryMud_57r : rn G mm_Water_carryMud 57 [a0, a1, some (.ref z2), some (.int x), a4, a5] st S P ↔ rn G mm_Water_carryMud 60 [a0, a1, some (.ref z2), some (.int (x + nI 1)), a4, a5] st S P := rn_s dq_Water_carryMud_57 rfl rfl rfl
theorem sq_Water_carryMud_57l : rn G mm_Water_carryMud 57 [a0, a1, some (.long y2), some (.int x), a4, a5] st S P ↔ rn G mm_Water_carryMud 60 [a0, a1, none, some (.int (x + nI 1)), a4, a5] st S P := rn_s dq_Water_carryMud_57 rfl rfl rfl
theorem dq_Water_carryMud_60 : decode (km_c mm_Water_carryMud) 60 = .ok (.goto (-51), 3) := by decide +kernel
theorem sq_Water_carryMud_60 : rn G mm_Water_carryMud 60 lv st S P ↔ rn G mm_Water_carryMud 9 lv st S P := rn_s dq_Water_carryMud_60 rfl rfl rfl
theorem dq_Water_carryMud_63 : decode (km_c mm_Water_carryMud) 63 = .ok (.iconst 0, 1) := by decide +kernel
theorem sq_Water_carryMud_63 : rn G mm_Water_carryMud 63 lv st S P ↔ rn G mm_Water_carryMud 64 lv (.int (nI 0) :: st) S P := rn_s dq_Water_carryMud_63 rfl rfl rfl
theorem dq_Water_carryMud_64 : decode (km_c mm_Water_carryMud) 64 = .ok (.istore_n 3, 1) := by decide +kernel
theorem sq_Water_carryMud_64n : rn G mm_Water_carryMud 64 [a0, a1, none, a3, a4, a5] (.int x :: st) S P ↔ rn G mm_Water_carryMud 65 [a0, a1, none, some (.int x), a4, a5] st S P := rn_s dq_Water_carryMud_64 rfl rfl rfl
theorem sq_Water_carryMud_64i : rn G mm_Water_carryMud 64 [a0, a1, some (.int x2), a3, a4, a5] (.int x :: st) S P ↔ rn G mm_Water_carryMud 65 [a0, a1, some (.int x2), some (.int x), a4, a5] st S P := rn_s dq_Water_carryMud_64 rfl rfl rfl
theorem sq_Water_carryMud_64r : rn G mm_Water_carryMud 64 [a0, a1, some (.ref z2), a3, a4, a5] (.int x :: st) S P ↔ rn G mm_Water_carryMud 65 [a0, a1, some (.ref z2), some (.int x), a4, a5] st S P := rn_s dq_Water_carryMud_64 rfl rfl rfl
theorem sq_Water_carryMud_64l : rn G mm_Water_carryMud 64 [a0, a1, some (.long y2), a3, a4, a5] (.int x :: st) S P ↔ rn G mm_Water_carryMud 65 [a0, a1, none, some (.int x), a4, a5] st S P := rn_s dq_Water_carryMud_64 rfl rfl rfl
theorem dq_Water_carryMud_65 : decode (km_c mm_Water_carryMud) 65 = .ok (.iconst 0, 1) := by decide +kernel
theorem sq_Water_carryMud_65 : rn G mm_Water_carryMud 65 lv st S P ↔ rn G mm_Water_carryMud 66 lv (.int (nI 0) :: st) S P := rn_s dq_Water_carryMud_65 rfl rfl rfl
theorem dq_Water_carryMud_66 : decode (km_c mm_Water_carryMud) 66 = .ok (.istore 4, 2) := by decide +kernel
theorem sq_Water_carryMud_66n : rn G mm_Water_carryMud 66 [a0, a1, a2, none, a4, a5] (.int x :: st) S P ↔ rn G mm_Water_carryMud 68 [a0, a1, a2, none, some (.int x), a5] st S P := rn_s dq_Water_carryMud_66 rfl rfl rfl
theorem sq_Water_carryMud_66i : rn G mm_Water_carryMud 66 [a0, a1, a2, some (.int x2), a4, a5] (.int x :: st) S P ↔ rn G mm_Water_carryMud 68 [a0, a1, a2, some (.int x2), some (.int x), a5] st S P := rn_s dq_Water_carryMud_66 rfl rfl rfl
theorem sq_Water_carryMud_66r : rn G mm_Water_carryMud 66 [a0, a1, a2, some (.ref z2), a4, a5] (.int x :: st) S P ↔ rn G mm_Water_carryMud 68 [a0, a1, a2, some (.ref z2), some (.int x), a5] st S P := rn_s dq_Water_carryMud_66 rfl rfl rfl
theorem sq_Water_carryMud_66l : rn G mm_Water_carryMud 66 [a0, a1, a2, some (.long y2), a4, a5] (.int x :: st) S P ↔ rn G mm_Water_carryMud 68 [a0, a1, a2, none, some (.int x), a5] st S P := rn_s dq_Water_carryMud_66 rfl rfl rfl
theorem dq_Water_carryMud_68 : decode (km_c mm_Water_carryMud) 68 = .ok (.iload 4, 2) := by decide +kernel
theorem sq_Water_carryMud_68 : rn G mm_Water_carryMud 68 [a0, a1, a2, a3, some (.int x), a5] st S P ↔ rn G mm_Water_carryMud 70 [a0, a1, a2, a3, some (.int x), a5] (.int x :: st) S P := rn_s dq_Water_carryMud_68 rfl rfl rfl
theorem dq_Water_carryMud_70 : decode (km_c mm_Water_carryMud) 70 = .ok (.bipush 49, 2) := by decide +kernel
theorem sq_Water_carryMud_70 : rn G mm_Water_carryMud 70 lv st S P ↔ rn G mm_Water_carryMud 72 lv (.int (nI 49) :: st) S P := rn_s dq_Water_carryMud_70 rfl rfl rfl
theorem dq_Water_carryMud_72 : decode (km_c mm_Water_carryMud) 72 = .ok (.if_icmp .ge 51, 3) := by decide +kernel
theorem sq_Water_carryMud_72 : rn G mm_Water_carryMud 72 lv (.int x2 :: .int x :: st) S P ↔ ((x2 ≤ x → rn G mm_Water_carryMud 123 lv st S P) ∧ (¬ (x2 ≤ x) → rn G mm_Water_carryMud 75 lv st S P)) := rn_b (off := 51) dq_Water_carryMud_72 rfl rfl rfl rfl
theorem dq_Water_carryMud_75 : decode (km_c mm_Water_carryMud) 75 = .ok (.aload_n 0, 1) := by decide +kernel
theorem sq_Water_carryMud_75 : rn G mm_Water_carryMud 75 [some (.ref z), a1, a2, a3, a4, a5] st S P ↔ rn G mm_Water_carryMud 76 [some (.ref z), a1, a2, a3, a4, a5] (.ref z :: st) S P := rn_s dq_Water_carryMud_75 rfl rfl rfl
theorem dq_Water_carryMud_76 : decode (km_c mm_Water_carryMud) 76 = .ok (.getfield 18, 3) := by decide +kernel
theorem sq_Water_carryMud_76_16 (ho : sx_o o pl kp) : rn (lt_G o L) mm_Water_carryMud 76 lv (.ref 16 :: st) (sx pl kp I A) P ↔ rn (lt_G o L) mm_Water_carryMud 79 lv (.ref 19 :: st) (sx pl kp I A) P := rx_get (h := "") (ci := 6) (k := 2) dq_Water_carryMud_76 (by decide +kernel) ho (up_b (by decide)) rfl rfl (fl_r (by decide) (by decide) (by decide) (by decide))
theorem sq_Water_carryMud_76_20 (ho : sx_o o pl kp) : rn (lt_G o L) mm_Water_carryMud 76 lv (.ref 20 :: st) (sx pl kp I A) P ↔ rn (lt_G o L) mm_Water_carryMud 79 lv (.ref 23 :: st) (sx pl kp I A) P := rx_get (h := "") (ci := 6) (k := 2) dq_Water_carryMud_76 (by decide +kernel) ho (up_b (by decide)) rfl rfl (fl_r (by decide) (by decide) (by decide) (by decide))
theorem dq_Water_carryMud_79 : decode (km_c mm_Water_carryMud) 79 = .ok (.iload 4, 2) := by decide +kernel
theorem sq_Water_carryMud_79 : rn G mm_Water_carryMud 79 [a0, a1, a2, a3, some (.int x), a5] st S P ↔ rn G mm_Water_carryMud 81 [a0, a1, a2, a3, some (.int x), a5] (.int x :: st) S P := rn_s dq_Water_carryMud_79 rfl rfl rfl
theorem dq_Water_carryMud_81 : decode (km_c mm_Water_carryMud) 81 = .ok (.iaload, 1) := by decide +kernel
theorem sq_Water_carryMud_81 (ho : sx_o o pl kp) (hk : ak L a = 0) (hu : sx_up pl kp a = true ∨ 1000 ≤ a) (hc : c < ln L a) (hn : ln L a < 2 ^ 31) : rn (lt_G o L) mm_Water_carryMud 81 lv (.int (nI c) :: .ref a :: st) (sx pl kp I A) P ↔ rn (lt_G o L) mm_Water_carryMud 82 lv (.int (A a c) :: st) (sx pl kp I A) P := rx_ild dq_Water_carryMud_81 ho hk hu hc hn
theorem dq_Water_carryMud_82 : decode (km_c mm_Water_carryMud) 82 = .ok (.istore 5, 2) := by decide +kernel
theorem sq_Water_carryMud_82n : rn G mm_Water_carryMud 82 [a0, a1, a2, a3, none, a5] (.int x :: st) S P ↔ rn G mm_Water_carryMud 84 [a0, a1, a2, a3, none, some (.int x)] st S P := rn_s dq_Water_carryMud_82 rfl rfl rfl
theorem sq_Water_carryMud_82i : rn G mm_Water_carryMud 82 [a0, a1, a2, a3, some (.int x2), a5] (.int x :: st) S P ↔ rn G mm_Water_carryMud 84 [a0, a1, a2, a3, some (.int x2), some (.int x)] st S P := rn_s dq_Water_carryMud_82 rfl rfl rfl
theorem sq_Water_carryMud_82r : rn G mm_Water_carryMud 82 [a0, a1, a2, a3, some (.ref z2), a5] (.int x :: st) S P ↔ rn G mm_Water_carryMud 84 [a0, a1, a2, a3, some (.ref z2), some (.int x)] st S P := rn_s dq_Water_carryMud_82 rfl rfl rfl
theorem sq_Water_carryMud_82l : rn G mm_Water_carryMud 82 [a0, a1, a2, a3, some (.long y2), a5] (.int x :: st) S P ↔ rn G mm_Water_carryMud 84 [a0, a1, a2, a3, none, some (.int x)] st S P := rn_s dq_Water_carryMud_82 rfl rfl rfl
theorem dq_Water_carryMud_84 : decode (km_c mm_Water_carryMud) 84 = .ok (.iload 5, 2) := by decide +kernel
theorem sq_Water_carryMud_84 : rn G mm_Water_carryMud 84 [a0, a1, a2, a3, a4, some (.int x)] st S P ↔ rn G mm_Water_carryMud 86 [a0, a1, a2, a3, a4, some (.int x)] (.int x :: st) S P := rn_s dq_Water_carryMud_84 rfl rfl rfl
theorem dq_Water_carryMud_86 : decode (km_c mm_Water_carryMud) 86 = .ok (.ifCond .lt 31, 3) := by decide +kernel
theorem sq_Water_carryMud_86 : rn G mm_Water_carryMud 86 lv (.int x :: st) S P ↔ ((x < 0 → rn G mm_Water_carryMud 117 lv st S P) ∧ (¬ (x < 0) → rn G mm_Water_carryMud 89 lv st S P)) := rn_b (off := 31) dq_Water_carryMud_86 rfl rfl rfl rfl
theorem dq_Water_carryMud_89 : decode (km_c mm_Water_carryMud) 89 = .ok (.aload_n 2, 1) := by decide +kernel
theorem sq_Water_carryMud_89 : rn G mm_Water_carryMud 89 [a0, a1, some (.ref z), a3, a4, a5] st S P ↔ rn G mm_Water_carryMud 90 [a0, a1, some (.ref z), a3, a4, a5] (.ref z :: st) S P := rn_s dq_Water_carryMud_89 rfl rfl rfl
theorem dq_Water_carryMud_90 : decode (km_c mm_Water_carryMud) 90 = .ok (.iload 5, 2) := by decide +kernel
theorem sq_Water_carryMud_90 : rn G mm_Water_carryMud 90 [a0, a1, a2, a3, a4, some (.int x)] st S P ↔ rn G mm_Water_carryMud 92 [a0, a1, a2, a3, a4, some (.int x)] (.int x :: st) S P := rn_s dq_Water_carryMud_90 rfl rfl rfl
theorem dq_Water_carryMud_92 : decode (km_c mm_Water_carryMud) 92 = .ok (.iaload, 1) := by decide +kernel
theorem sq_Water_carryMud_92 (ho : sx_o o pl kp) (hk : ak L a = 0) (hu : sx_up pl kp a = true ∨ 1000 ≤ a) (hc : c < ln L a) (hn : ln L a < 2 ^ 31) : rn (lt_G o L) mm_Water_carryMud 92 lv (.int (nI c) :: .ref a :: st) (sx pl kp I A) P ↔ rn (lt_G o L) mm_Water_carryMud 93 lv (.int (A a c) :: st) (sx pl kp I A) P := rx_ild dq_Water_carryMud_92 ho hk hu hc hn
theorem dq_Water_carryMud_93 : decode (km_c mm_Water_carryMud) 93 = .ok (.bipush 9, 2) := by decide +kernel
theorem sq_Water_carryMud_93 : rn G mm_Water_carryMud 93 lv st S P ↔ rn G mm_Water_carryMud 95 lv (.int (nI 9) :: st) S P := rn_s dq_Water_carryMud_93 rfl rfl rfl
theorem dq_Water_carryMud_95 : decode (km_c mm_Water_carryMud) 95 = .ok (.if_icmp .ge 22, 3) := by decide +kernel
theorem sq_Water_carryMud_95 : rn G mm_Water_carryMud 95 lv (.int x2 :: .int x :: st) S P ↔ ((x2 ≤ x → rn G mm_Water_carryMud 117 lv st S P) ∧ (¬ (x2 ≤ x) → rn G mm_Water_carryMud 98 lv st S P)) := rn_b (off := 22) dq_Water_carryMud_95 rfl rfl rfl rfl
theorem dq_Water_carryMud_98 : decode (km_c mm_Water_carryMud) 98 = .ok (.aload_n 2, 1) := by decide +kernel
theorem sq_Water_carryMud_98 : rn G mm_Water_carryMud 98 [a0, a1, some (.ref z), a3, a4, a5] st S P ↔ rn G mm_Water_carryMud 99 [a0, a1, some (.ref z), a3, a4, a5] (.ref z :: st) S P := rn_s dq_Water_carryMud_98 rfl rfl rfl
theorem dq_Water_carryMud_99 : decode (km_c mm_Water_carryMud) 99 = .ok (.iload 4, 2) := by decide +kernel
theorem sq_Water_carryMud_99 : rn G mm_Water_carryMud 99 [a0, a1, a2, a3, some (.int x), a5] st S P ↔ rn G mm_Water_carryMud 101 [a0, a1, a2, a3, some (.int x), a5] (.int x :: st) S P := rn_s dq_Water_carryMud_99 rfl rfl rfl
theorem dq_Water_carryMud_101 : decode (km_c mm_Water_carryMud) 101 = .ok (.dup2, 1) := by decide +kernel
theorem sq_Water_carryMud_101 : rn G mm_Water_carryMud 101 lv (.int x :: .ref z :: st) S P ↔ rn G mm_Water_carryMud 102 lv (.int x :: .ref z :: .int x :: .ref z :: st) S P := rn_s dq_Water_carryMud_101 rfl rfl rfl
theorem dq_Water_carryMud_102 : decode (km_c mm_Water_carryMud) 102 = .ok (.iaload, 1) := by decide +kernel
theorem sq_Water_carryMud_102 (ho : sx_o o pl kp) (hk : ak L a = 0) (hu : sx_up pl kp a = true ∨ 1000 ≤ a) (hc : c < ln L a) (hn : ln L a < 2 ^ 31) : rn (lt_G o L) mm_Water_carryMud 102 lv (.int (nI c) :: .ref a :: st) (sx pl kp I A) P ↔ rn (lt_G o L) mm_Water_carryMud 103 lv (.int (A a c) :: st) (sx pl kp I A) P := rx_ild dq_Water_carryMud_102 ho hk hu hc hn
theorem dq_Water_carryMud_103 : decode (km_c mm_Water_carryMud) 103 = .ok (.iconst 1, 1) := by decide +kernel
theorem sq_Water_carryMud_103 : rn G mm_Water_carryMud 103 lv st S P ↔ rn G mm_Water_carryMud 104 lv (.int (nI 1) :: st) S P := rn_s dq_Water_carryMud_103 rfl rfl rfl
theorem dq_Water_carryMud_104 : decode (km_c mm_Water_carryMud) 104 = .ok (.isub, 1) := by decide +kernel
theorem sq_Water_carryMud_104 : rn G mm_Water_carryMud 104 lv (.int x2 :: .int x :: st) S P ↔ rn G mm_Water_carryMud 105 lv (.int (x - x2) :: st) S P := rn_s dq_Water_carryMud_104 rfl rfl rfl
theorem dq_Water_carryMud_105 : decode (km_c mm_Water_carryMud) 105 = .ok (.iastore, 1) := by decide +kernel
theorem sq_Water_carryMud_105 (ho : sx_o o pl kp) (hk : ak L a = 0) (hu : sx_up pl kp a = true) (hc : c < ln L a) (hn : ln L a < 2 ^ 31) : rn (lt_G o L) mm_Water_carryMud 105 lv (.int x :: .int (nI c) :: .ref a :: st) (sx pl kp I A) P ↔ rn (lt_G o L) mm_Water_carryMud 106 lv st (sx pl kp I (u2 A a c x)) P := rx_ist dq_Water_carryMud_105 ho hk hu hc hn
theorem dq_Water_carryMud_106 : decode (km_c mm_Water_carryMud) 106 = .ok (.aload_n 2, 1) := by decide +kernel
theorem sq_Water_carryMud_106 : rn G mm_Water_carryMud 106 [a0, a1, some (.ref z), a3, a4, a5] st S P ↔ rn G mm_Water_carryMud 107 [a0, a1, some (.ref z), a3, a4, a5] (.ref z :: st) S P := rn_s dq_Water_carryMud_106 rfl rfl rfl
theorem dq_Water_carryMud_107 : decode (km_c mm_Water_carryMud) 107 = .ok (.iload 5, 2) := by decide +kernel
theorem sq_Water_carryMud_107 : rn G mm_Water_carryMud 107 [a0, a1, a2, a3, a4, some (.int x)] st S P ↔ rn G mm_Water_carryMud 109 [a0, a1, a2, a3, a4, some (.int x)] (.int x :: st) S P := rn_s dq_Water_carryMud_107 rfl rfl rfl
theorem dq_Water_carryMud_109 : decode (km_c mm_Water_carryMud) 109 = .ok (.dup2, 1) := by decide +kernel
theorem sq_Water_carryMud_109 : rn G mm_Water_carryMud 109 lv (.int x :: .ref z :: st) S P ↔ rn G mm_Water_carryMud 110 lv (.int x :: .ref z :: .int x :: .ref z :: st) S P := rn_s dq_Water_carryMud_109 rfl rfl rfl
theorem dq_Water_carryMud_110 : decode (km_c mm_Water_carryMud) 110 = .ok (.iaload, 1) := by decide +kernel
theorem sq_Water_carryMud_110 (ho : sx_o o pl kp) (hk : ak L a = 0) (hu : sx_up pl kp a = true ∨ 1000 ≤ a) (hc : c < ln L a) (hn : ln L a < 2 ^ 31) : rn (lt_G o L) mm_Water_carryMud 110 lv (.int (nI c) :: .ref a :: st) (sx pl kp I A) P ↔ rn (lt_G o L) mm_Water_carryMud 111 lv (.int (A a c) :: st) (sx pl kp I A) P := rx_ild dq_Water_carryMud_110 ho hk hu hc hn
theorem dq_Water_carryMud_111 : decode (km_c mm_Water_carryMud) 111 = .ok (.iconst 1, 1) := by decide +kernel
theorem sq_Water_carryMud_111 : rn G mm_Water_carryMud 111 lv st S P ↔ rn G mm_Water_carryMud 112 lv (.int (nI 1) :: st) S P := rn_s dq_Water_carryMud_111 rfl rfl rfl
theorem dq_Water_carryMud_112 : decode (km_c mm_Water_carryMud) 112 = .ok (.iadd, 1) := by decide +kernel
theorem sq_Water_carryMud_112 : rn G mm_Water_carryMud 112 lv (.int x2 :: .int x :: st) S P ↔ rn G mm_Water_carryMud 113 lv (.int (x + x2) :: st) S P := rn_s dq_Water_carryMud_112 rfl rfl rfl
theorem dq_Water_carryMud_113 : decode (km_c mm_Water_carryMud) 113 = .ok (.iastore, 1) := by decide +kernel
theorem sq_Water_carryMud_113 (ho : sx_o o pl kp) (hk : ak L a = 0) (hu : sx_up pl kp a = true) (hc : c < ln L a) (hn : ln L a < 2 ^ 31) : rn (lt_G o L) mm_Water_carryMud 113 lv (.int x :: .int (nI c) :: .ref a :: st) (sx pl kp I A) P ↔ rn (lt_G o L) mm_Water_carryMud 114 lv st (sx pl kp I (u2 A a c x)) P := rx_ist dq_Water_carryMud_113 ho hk hu hc hn
theorem dq_Water_carryMud_114 : decode (km_c mm_Water_carryMud) 114 = .ok (.iinc 3 1, 3) := by decide +kernel
theorem sq_Water_carryMud_114n : rn G mm_Water_carryMud 114 [a0, a1, none, some (.int x), a4, a5] st S P ↔ rn G mm_Water_carryMud 117 [a0, a1, none, some (.int (x + nI 1)), a4, a5] st S P := rn_s dq_Water_carryMud_114 rfl rfl rfl
theorem sq_Water_carryMud_114i : rn G mm_Water_carryMud 114 [a0, a1, some (.int x2), some (.int x), a4, a5] st S P ↔ rn G mm_Water_carryMud 117 [a0, a1, some (.int x2), some (.int (x + nI 1)), a4, a5] st S P := rn_s dq_Water_carryMud_114 rfl rfl rfl
theorem sq_Water_carryMud_114r : rn G mm_Water_carryMud 114 [a0, a1, some (.ref z2), some (.int x), a4, a5] st S P ↔ rn G mm_Water_carryMud 117 [a0, a1, some (.ref z2), some (.int (x + nI 1)), a4, a5] st S P := rn_s dq_Water_carryMud_114 rfl rfl rfl
theorem sq_Water_carryMud_114l : rn G mm_Water_carryMud 114 [a0, a1, some (.long y2), some (.int x), a4, a5] st S P ↔ rn G mm_Water_carryMud 117 [a0, a1, none, some (.int (x + nI 1)), a4, a5] st S P := rn_s dq_Water_carryMud_114 rfl rfl rfl
theorem dq_Water_carryMud_117 : decode (km_c mm_Water_carryMud) 117 = .ok (.iinc 4 1, 3) := by decide +kernel
theorem sq_Water_carryMud_117n : rn G mm_Water_carryMud 117 [a0, a1, a2, none, some (.int x), a5] st S P ↔ rn G mm_Water_carryMud 120 [a0, a1, a2, none, some (.int (x + nI 1)), a5] st S P := rn_s dq_Water_carryMud_117 rfl rfl rfl
theorem sq_Water_carryMud_117i : rn G mm_Water_carryMud 117 [a0, a1, a2, some (.int x2), some (.int x), a5] st S P ↔ rn G mm_Water_carryMud 120 [a0, a1, a2, some (.int x2), some (.int (x + nI 1)), a5] st S P := rn_s dq_Water_carryMud_117 rfl rfl rfl
theorem sq_Water_carryMud_117r : rn G mm_Water_carryMud 117 [a0, a1, a2, some (.ref z2), some (.int x), a5] st S P ↔ rn G mm_Water_carryMud 120 [a0, a1, a2, some (.ref z2), some (.int (x + nI 1)), a5] st S P := rn_s dq_Water_carryMud_117 rfl rfl rfl
theorem sq_Water_carryMud_117l : rn G mm_Water_carryMud 117 [a0, a1, a2, some (.long y2), some (.int x), a5] st S P ↔ rn G mm_Water_carryMud 120 [a0, a1, a2, none, some (.int (x + nI 1)), a5] st S P := rn_s dq_Water_carryMud_117 rfl rfl rfl
theorem dq_Water_carryMud_120 : decode (km_c mm_Water_carryMud) 120 = .ok (.goto (-52), 3) := by decide +kernel
theorem sq_Water_carryMud_120 : rn G mm_Water_carryMud 120 lv st S P ↔ rn G mm_Water_carryMud 68 lv st S P := rn_s dq_Water_carryMud_120 rfl rfl rfl
theorem dq_Water_carryMud_123 : decode (km_c mm_Water_carryMud) 123 = .ok (.iload_n 3, 1) := by decide +kernel
theorem sq_Water_carryMud_123 : rn G mm_Water_carryMud 123 [a0, a1, a2, some (.int x), a4, a5] st S P ↔ rn G mm_Water_carryMud 124 [a0, a1, a2, some (.int x), a4, a5] (.int x :: st) S P := rn_s dq_Water_carryMud_123 rfl rfl rfl
theorem dq_Water_carryMud_124 : decode (km_c mm_Water_carryMud) 124 = .ok (.ireturn, 1) := by decide +kernel
theorem sq_Water_carryMud_124 : rn G mm_Water_carryMud 124 lv [.int x] S P ↔ P (some (.int x)) S := rn_ir dq_Water_carryMud_124 rfl
theorem dq_Water_lowestNext_0 : decode (km_c mm_Water_lowestNext) 0 = .ok (.iconst (-1), 1) := by decide +kernel
theorem sq_Water_lowestNext_0 : rn G mm_Water_lowestNext 0 lv st S P ↔ rn G mm_Water_lowestNext 1 lv (.int ((-1)) :: st) S P := rn_s dq_Water_lowestNext_0 rfl rfl rfl
theorem dq_Water_lowestNext_1 : decode (km_c mm_Water_lowestNext) 1 = .ok (.istore_n 2, 1) := by decide +kernel
theorem sq_Water_lowestNext_1n : rn G mm_Water_lowestNext 1 [a0, none, a2, a3, a4, a5] (.int x :: st) S P ↔ rn G mm_Water_lowestNext 2 [a0, none, some (.int x), a3, a4, a5] st S P := rn_s dq_Water_lowestNext_1 rfl rfl rfl
theorem sq_Water_lowestNext_1i : rn G mm_Water_lowestNext 1 [a0, some (.int x2), a2, a3, a4, a5] (.int x :: st) S P ↔ rn G mm_Water_lowestNext 2 [a0, some (.int x2), some (.int x), a3, a4, a5] st S P := rn_s dq_Water_lowestNext_1 rfl rfl rfl
theorem sq_Water_lowestNext_1r : rn G mm_Water_lowestNext 1 [a0, some (.ref z2), a2, a3, a4, a5] (.int x :: st) S P ↔ rn G mm_Water_lowestNext 2 [a0, some (.ref z2), some (.int x), a3, a4, a5] st S P := rn_s dq_Water_lowestNext_1 rfl rfl rfl
theorem sq_Water_lowestNext_1l : rn G mm_Water_lowestNext 1 [a0, some (.long y2), a2, a3, a4, a5] (.int x :: st) S P ↔ rn G mm_Water_lowestNext 2 [a0, none, some (.int x), a3, a4, a5] st S P := rn_s dq_Water_lowestNext_1 rfl rfl rfl
theorem dq_Water_lowestNext_2 : decode (km_c mm_Water_lowestNext) 2 = .ok (.aload_n 0, 1) := by decide +kernel
theorem sq_Water_lowestNext_2 : rn G mm_Water_lowestNext 2 [some (.ref z), a1, a2, a3, a4, a5] st S P ↔ rn G mm_Water_lowestNext 3 [some (.ref z), a1, a2, a3, a4, a5] (.ref z :: st) S P := rn_s dq_Water_lowestNext_2 rfl rfl rfl
theorem dq_Water_lowestNext_3 : decode (km_c mm_Water_lowestNext) 3 = .ok (.iload_n 1, 1) := by decide +kernel
theorem sq_Water_lowestNext_3 : rn G mm_Water_lowestNext 3 [a0, some (.int x), a2, a3, a4, a5] st S P ↔ rn G mm_Water_lowestNext 4 [a0, some (.int x), a2, a3, a4, a5] (.int x :: st) S P := rn_s dq_Water_lowestNext_3 rfl rfl rfl
theorem dq_Water_lowestNext_4 : decode (km_c mm_Water_lowestNext) 4 = .ok (.invokevirtual 45, 3) := by decide +kernel
theorem sq_Water_lowestNext_4_2 {x1 : Int32} {v : Option Value} {S2 : ks_S} (ho : sx_o o pl kp) (hst : kx_cat st ≤ 8) (hc : ev (lt_G o L) mm_Ground_top [.ref 2, .int x1] (sx pl kp I A) v S2) : rn (lt_G o L) mm_Water_lowestNext 4 lv (.int x1 :: .ref 2 :: st) (sx pl kp I A) P ↔ rn (lt_G o L) mm_Water_lowestNext 7 lv (v.toList ++ st) S2 P := rn_cv (k := 0) (host := "") (E' := mm_Ground_top) dq_Water_lowestNext_4 rfl (ok_v rfl (by decide) (by decide) (Nat.le_add_left _ _) hst (Nat.le_of_ble_eq_true rfl) (Or.inr (rc_v ho (up_b (by decide)) rfl))) rfl rfl hc
theorem sq_Water_lowestNext_4_35 {x1 : Int32} {v : Option Value} {S2 : ks_S} (ho : sx_o o pl kp) (hst : kx_cat st ≤ 8) (hc : ev (lt_G o L) mm_Ground_top [.ref 35, .int x1] (sx pl kp I A) v S2) : rn (lt_G o L) mm_Water_lowestNext 4 lv (.int x1 :: .ref 35 :: st) (sx pl kp I A) P ↔ rn (lt_G o L) mm_Water_lowestNext 7 lv (v.toList ++ st) S2 P := rn_cv (k := 0) (host := "") (E' := mm_Ground_top) dq_Water_lowestNext_4 rfl (ok_v rfl (by decide) (by decide) (Nat.le_add_left _ _) hst (Nat.le_of_ble_eq_true rfl) (Or.inr (rc_v ho (up_b (by decide)) rfl))) rfl rfl hc
theorem sq_Water_lowestNext_4_137 {x1 : Int32} {v : Option Value} {S2 : ks_S} (ho : sx_o o pl true) (hst : kx_cat st ≤ 8) (hc : ev (lt_G o L) mm_Ground_top [.ref 137, .int x1] (sx pl true I A) v S2) : rn (lt_G o L) mm_Water_lowestNext 4 lv (.int x1 :: .ref 137 :: st) (sx pl true I A) P ↔ rn (lt_G o L) mm_Water_lowestNext 7 lv (v.toList ++ st) S2 P := rn_cv (k := 0) (host := "") (E' := mm_Ground_top) dq_Water_lowestNext_4 rfl (ok_v rfl (by decide) (by decide) (Nat.le_add_left _ _) hst (Nat.le_of_ble_eq_true rfl) (Or.inr (rc_v ho (up_k (by decide) (by decide)) rfl))) rfl rfl hc
theorem dq_Water_lowestNext_7 : decode (km_c mm_Water_lowestNext) 7 = .ok (.istore_n 3, 1) := by decide +kernel
theorem sq_Water_lowestNext_7n : rn G mm_Water_lowestNext 7 [a0, a1, none, a3, a4, a5] (.int x :: st) S P ↔ rn G mm_Water_lowestNext 8 [a0, a1, none, some (.int x), a4, a5] st S P := rn_s dq_Water_lowestNext_7 rfl rfl rfl
theorem sq_Water_lowestNext_7i : rn G mm_Water_lowestNext 7 [a0, a1, some (.int x2), a3, a4, a5] (.int x :: st) S P ↔ rn G mm_Water_lowestNext 8 [a0, a1, some (.int x2), some (.int x), a4, a5] st S P := rn_s dq_Water_lowestNext_7 rfl rfl rfl
theorem sq_Water_lowestNext_7r : rn G mm_Water_lowestNext 7 [a0, a1, some (.ref z2), a3, a4, a5] (.int x :: st) S P ↔ rn G mm_Water_lowestNext 8 [a0, a1, some (.ref z2), some (.int x), a4, a5] st S P := rn_s dq_Water_lowestNext_7 rfl rfl rfl
theorem sq_Water_lowestNext_7l : rn G mm_Water_lowestNext 7 [a0, a1, some (.long y2), a3, a4, a5] (.int x :: st) S P ↔ rn G mm_Water_lowestNext 8 [a0, a1, none, some (.int x), a4, a5] st S P := rn_s dq_Water_lowestNext_7 rfl rfl rfl
theorem dq_Water_lowestNext_8 : decode (km_c mm_Water_lowestNext) 8 = .ok (.iconst 0, 1) := by decide +kernel
theorem sq_Water_lowestNext_8 : rn G mm_Water_lowestNext 8 lv st S P ↔ rn G mm_Water_lowestNext 9 lv (.int (nI 0) :: st) S P := rn_s dq_Water_lowestNext_8 rfl rfl rfl
theorem dq_Water_lowestNext_9 : decode (km_c mm_Water_lowestNext) 9 = .ok (.istore 4, 2) := by decide +kernel
theorem sq_Water_lowestNext_9n : rn G mm_Water_lowestNext 9 [a0, a1, a2, none, a4, a5] (.int x :: st) S P ↔ rn G mm_Water_lowestNext 11 [a0, a1, a2, none, some (.int x), a5] st S P := rn_s dq_Water_lowestNext_9 rfl rfl rfl
theorem sq_Water_lowestNext_9i : rn G mm_Water_lowestNext 9 [a0, a1, a2, some (.int x2), a4, a5] (.int x :: st) S P ↔ rn G mm_Water_lowestNext 11 [a0, a1, a2, some (.int x2), some (.int x), a5] st S P := rn_s dq_Water_lowestNext_9 rfl rfl rfl
theorem sq_Water_lowestNext_9r : rn G mm_Water_lowestNext 9 [a0, a1, a2, some (.ref z2), a4, a5] (.int x :: st) S P ↔ rn G mm_Water_lowestNext 11 [a0, a1, a2, some (.ref z2), some (.int x), a5] st S P := rn_s dq_Water_lowestNext_9 rfl rfl rfl
theorem sq_Water_lowestNext_9l : rn G mm_Water_lowestNext 9 [a0, a1, a2, some (.long y2), a4, a5] (.int x :: st) S P ↔ rn G mm_Water_lowestNext 11 [a0, a1, a2, none, some (.int x), a5] st S P := rn_s dq_Water_lowestNext_9 rfl rfl rfl
theorem dq_Water_lowestNext_11 : decode (km_c mm_Water_lowestNext) 11 = .ok (.iload 4, 2) := by decide +kernel
theorem sq_Water_lowestNext_11 : rn G mm_Water_lowestNext 11 [a0, a1, a2, a3, some (.int x), a5] st S P ↔ rn G mm_Water_lowestNext 13 [a0, a1, a2, a3, some (.int x), a5] (.int x :: st) S P := rn_s dq_Water_lowestNext_11 rfl rfl rfl
theorem dq_Water_lowestNext_13 : decode (km_c mm_Water_lowestNext) 13 = .ok (.iconst 4, 1) := by decide +kernel
theorem sq_Water_lowestNext_13 : rn G mm_Water_lowestNext 13 lv st S P ↔ rn G mm_Water_lowestNext 14 lv (.int (nI 4) :: st) S P := rn_s dq_Water_lowestNext_13 rfl rfl rfl
theorem dq_Water_lowestNext_14 : decode (km_c mm_Water_lowestNext) 14 = .ok (.if_icmp .ge 42, 3) := by decide +kernel
theorem sq_Water_lowestNext_14 : rn G mm_Water_lowestNext 14 lv (.int x2 :: .int x :: st) S P ↔ ((x2 ≤ x → rn G mm_Water_lowestNext 56 lv st S P) ∧ (¬ (x2 ≤ x) → rn G mm_Water_lowestNext 17 lv st S P)) := rn_b (off := 42) dq_Water_lowestNext_14 rfl rfl rfl rfl
theorem dq_Water_lowestNext_17 : decode (km_c mm_Water_lowestNext) 17 = .ok (.iload_n 1, 1) := by decide +kernel
theorem sq_Water_lowestNext_17 : rn G mm_Water_lowestNext 17 [a0, some (.int x), a2, a3, a4, a5] st S P ↔ rn G mm_Water_lowestNext 18 [a0, some (.int x), a2, a3, a4, a5] (.int x :: st) S P := rn_s dq_Water_lowestNext_17 rfl rfl rfl
theorem dq_Water_lowestNext_18 : decode (km_c mm_Water_lowestNext) 18 = .ok (.iload 4, 2) := by decide +kernel
theorem sq_Water_lowestNext_18 : rn G mm_Water_lowestNext 18 [a0, a1, a2, a3, some (.int x), a5] st S P ↔ rn G mm_Water_lowestNext 20 [a0, a1, a2, a3, some (.int x), a5] (.int x :: st) S P := rn_s dq_Water_lowestNext_18 rfl rfl rfl
theorem dq_Water_lowestNext_20 : decode (km_c mm_Water_lowestNext) 20 = .ok (.invokestatic 41, 3) := by decide +kernel
theorem sq_Water_lowestNext_20 {x1 : Int32} {x2 : Int32} {v : Option Value} {S2 : ks_S} (hst : kx_cat st ≤ 8) (hc : ev G mm_Road_cellAt [.int x1, .int x2] S v S2) : rn G mm_Water_lowestNext 20 lv (.int x2 :: .int x1 :: st) S P ↔ rn G mm_Water_lowestNext 23 lv (v.toList ++ st) S2 P := rn_cs (k := 1) (host := "DeltaRoad") (E' := mm_Road_cellAt) dq_Water_lowestNext_20 (by decide) (by decide) rfl (ok_v rfl (by decide) (by decide) (Nat.le_add_left _ _) hst (Nat.le_of_ble_eq_true rfl) (Or.inl rfl)) rfl rfl hc
theorem dq_Water_lowestNext_23 : decode (km_c mm_Water_lowestNext) 23 = .ok (.istore 5, 2) := by decide +kernel
theorem sq_Water_lowestNext_23n : rn G mm_Water_lowestNext 23 [a0, a1, a2, a3, none, a5] (.int x :: st) S P ↔ rn G mm_Water_lowestNext 25 [a0, a1, a2, a3, none, some (.int x)] st S P := rn_s dq_Water_lowestNext_23 rfl rfl rfl
theorem sq_Water_lowestNext_23i : rn G mm_Water_lowestNext 23 [a0, a1, a2, a3, some (.int x2), a5] (.int x :: st) S P ↔ rn G mm_Water_lowestNext 25 [a0, a1, a2, a3, some (.int x2), some (.int x)] st S P := rn_s dq_Water_lowestNext_23 rfl rfl rfl
theorem sq_Water_lowestNext_23r : rn G mm_Water_lowestNext 23 [a0, a1, a2, a3, some (.ref z2), a5] (.int x :: st) S P ↔ rn G mm_Water_lowestNext 25 [a0, a1, a2, a3, some (.ref z2), some (.int x)] st S P := rn_s dq_Water_lowestNext_23 rfl rfl rfl
theorem sq_Water_lowestNext_23l : rn G mm_Water_lowestNext 23 [a0, a1, a2, a3, some (.long y2), a5] (.int x :: st) S P ↔ rn G mm_Water_lowestNext 25 [a0, a1, a2, a3, none, some (.int x)] st S P := rn_s dq_Water_lowestNext_23 rfl rfl rfl
theorem dq_Water_lowestNext_25 : decode (km_c mm_Water_lowestNext) 25 = .ok (.iload 5, 2) := by decide +kernel
theorem sq_Water_lowestNext_25 : rn G mm_Water_lowestNext 25 [a0, a1, a2, a3, a4, some (.int x)] st S P ↔ rn G mm_Water_lowestNext 27 [a0, a1, a2, a3, a4, some (.int x)] (.int x :: st) S P := rn_s dq_Water_lowestNext_25 rfl rfl rfl
theorem dq_Water_lowestNext_27 : decode (km_c mm_Water_lowestNext) 27 = .ok (.ifCond .lt 23, 3) := by decide +kernel
theorem sq_Water_lowestNext_27 : rn G mm_Water_lowestNext 27 lv (.int x :: st) S P ↔ ((x < 0 → rn G mm_Water_lowestNext 50 lv st S P) ∧ (¬ (x < 0) → rn G mm_Water_lowestNext 30 lv st S P)) := rn_b (off := 23) dq_Water_lowestNext_27 rfl rfl rfl rfl
theorem dq_Water_lowestNext_30 : decode (km_c mm_Water_lowestNext) 30 = .ok (.aload_n 0, 1) := by decide +kernel
theorem sq_Water_lowestNext_30 : rn G mm_Water_lowestNext 30 [some (.ref z), a1, a2, a3, a4, a5] st S P ↔ rn G mm_Water_lowestNext 31 [some (.ref z), a1, a2, a3, a4, a5] (.ref z :: st) S P := rn_s dq_Water_lowestNext_30 rfl rfl rfl
theorem dq_Water_lowestNext_31 : decode (km_c mm_Water_lowestNext) 31 = .ok (.iload 5, 2) := by decide +kernel
theorem sq_Water_lowestNext_31 : rn G mm_Water_lowestNext 31 [a0, a1, a2, a3, a4, some (.int x)] st S P ↔ rn G mm_Water_lowestNext 33 [a0, a1, a2, a3, a4, some (.int x)] (.int x :: st) S P := rn_s dq_Water_lowestNext_31 rfl rfl rfl
theorem dq_Water_lowestNext_33 : decode (km_c mm_Water_lowestNext) 33 = .ok (.invokevirtual 45, 3) := by decide +kernel
theorem sq_Water_lowestNext_33_2 {x1 : Int32} {v : Option Value} {S2 : ks_S} (ho : sx_o o pl kp) (hst : kx_cat st ≤ 8) (hc : ev (lt_G o L) mm_Ground_top [.ref 2, .int x1] (sx pl kp I A) v S2) : rn (lt_G o L) mm_Water_lowestNext 33 lv (.int x1 :: .ref 2 :: st) (sx pl kp I A) P ↔ rn (lt_G o L) mm_Water_lowestNext 36 lv (v.toList ++ st) S2 P := rn_cv (k := 0) (host := "") (E' := mm_Ground_top) dq_Water_lowestNext_33 rfl (ok_v rfl (by decide) (by decide) (Nat.le_add_left _ _) hst (Nat.le_of_ble_eq_true rfl) (Or.inr (rc_v ho (up_b (by decide)) rfl))) rfl rfl hc
theorem sq_Water_lowestNext_33_35 {x1 : Int32} {v : Option Value} {S2 : ks_S} (ho : sx_o o pl kp) (hst : kx_cat st ≤ 8) (hc : ev (lt_G o L) mm_Ground_top [.ref 35, .int x1] (sx pl kp I A) v S2) : rn (lt_G o L) mm_Water_lowestNext 33 lv (.int x1 :: .ref 35 :: st) (sx pl kp I A) P ↔ rn (lt_G o L) mm_Water_lowestNext 36 lv (v.toList ++ st) S2 P := rn_cv (k := 0) (host := "") (E' := mm_Ground_top) dq_Water_lowestNext_33 rfl (ok_v rfl (by decide) (by decide) (Nat.le_add_left _ _) hst (Nat.le_of_ble_eq_true rfl) (Or.inr (rc_v ho (up_b (by decide)) rfl))) rfl rfl hc
theorem sq_Water_lowestNext_33_137 {x1 : Int32} {v : Option Value} {S2 : ks_S} (ho : sx_o o pl true) (hst : kx_cat st ≤ 8) (hc : ev (lt_G o L) mm_Ground_top [.ref 137, .int x1] (sx pl true I A) v S2) : rn (lt_G o L) mm_Water_lowestNext 33 lv (.int x1 :: .ref 137 :: st) (sx pl true I A) P ↔ rn (lt_G o L) mm_Water_lowestNext 36 lv (v.toList ++ st) S2 P := rn_cv (k := 0) (host := "") (E' := mm_Ground_top) dq_Water_lowestNext_33 rfl (ok_v rfl (by decide) (by decide) (Nat.le_add_left _ _) hst (Nat.le_of_ble_eq_true rfl) (Or.inr (rc_v ho (up_k (by decide) (by decide)) rfl))) rfl rfl hc
theorem dq_Water_lowestNext_36 : decode (km_c mm_Water_lowestNext) 36 = .ok (.iload_n 3, 1) := by decide +kernel
theorem sq_Water_lowestNext_36 : rn G mm_Water_lowestNext 36 [a0, a1, a2, some (.int x), a4, a5] st S P ↔ rn G mm_Water_lowestNext 37 [a0, a1, a2, some (.int x), a4, a5] (.int x :: st) S P := rn_s dq_Water_lowestNext_36 rfl rfl rfl
theorem dq_Water_lowestNext_37 : decode (km_c mm_Water_lowestNext) 37 = .ok (.if_icmp .ge 13, 3) := by decide +kernel
theorem sq_Water_lowestNext_37 : rn G mm_Water_lowestNext 37 lv (.int x2 :: .int x :: st) S P ↔ ((x2 ≤ x → rn G mm_Water_lowestNext 50 lv st S P) ∧ (¬ (x2 ≤ x) → rn G mm_Water_lowestNext 40 lv st S P)) := rn_b (off := 13) dq_Water_lowestNext_37 rfl rfl rfl rfl
theorem dq_Water_lowestNext_40 : decode (km_c mm_Water_lowestNext) 40 = .ok (.aload_n 0, 1) := by decide +kernel
theorem sq_Water_lowestNext_40 : rn G mm_Water_lowestNext 40 [some (.ref z), a1, a2, a3, a4, a5] st S P ↔ rn G mm_Water_lowestNext 41 [some (.ref z), a1, a2, a3, a4, a5] (.ref z :: st) S P := rn_s dq_Water_lowestNext_40 rfl rfl rfl
theorem dq_Water_lowestNext_41 : decode (km_c mm_Water_lowestNext) 41 = .ok (.iload 5, 2) := by decide +kernel
theorem sq_Water_lowestNext_41 : rn G mm_Water_lowestNext 41 [a0, a1, a2, a3, a4, some (.int x)] st S P ↔ rn G mm_Water_lowestNext 43 [a0, a1, a2, a3, a4, some (.int x)] (.int x :: st) S P := rn_s dq_Water_lowestNext_41 rfl rfl rfl
theorem dq_Water_lowestNext_43 : decode (km_c mm_Water_lowestNext) 43 = .ok (.invokevirtual 45, 3) := by decide +kernel
theorem sq_Water_lowestNext_43_2 {x1 : Int32} {v : Option Value} {S2 : ks_S} (ho : sx_o o pl kp) (hst : kx_cat st ≤ 8) (hc : ev (lt_G o L) mm_Ground_top [.ref 2, .int x1] (sx pl kp I A) v S2) : rn (lt_G o L) mm_Water_lowestNext 43 lv (.int x1 :: .ref 2 :: st) (sx pl kp I A) P ↔ rn (lt_G o L) mm_Water_lowestNext 46 lv (v.toList ++ st) S2 P := rn_cv (k := 0) (host := "") (E' := mm_Ground_top) dq_Water_lowestNext_43 rfl (ok_v rfl (by decide) (by decide) (Nat.le_add_left _ _) hst (Nat.le_of_ble_eq_true rfl) (Or.inr (rc_v ho (up_b (by decide)) rfl))) rfl rfl hc
theorem sq_Water_lowestNext_43_35 {x1 : Int32} {v : Option Value} {S2 : ks_S} (ho : sx_o o pl kp) (hst : kx_cat st ≤ 8) (hc : ev (lt_G o L) mm_Ground_top [.ref 35, .int x1] (sx pl kp I A) v S2) : rn (lt_G o L) mm_Water_lowestNext 43 lv (.int x1 :: .ref 35 :: st) (sx pl kp I A) P ↔ rn (lt_G o L) mm_Water_lowestNext 46 lv (v.toList ++ st) S2 P := rn_cv (k := 0) (host := "") (E' := mm_Ground_top) dq_Water_lowestNext_43 rfl (ok_v rfl (by decide) (by decide) (Nat.le_add_left _ _) hst (Nat.le_of_ble_eq_true rfl) (Or.inr (rc_v ho (up_b (by decide)) rfl))) rfl rfl hc
theorem sq_Water_lowestNext_43_137 {x1 : Int32} {v : Option Value} {S2 : ks_S} (ho : sx_o o pl true) (hst : kx_cat st ≤ 8) (hc : ev (lt_G o L) mm_Ground_top [.ref 137, .int x1] (sx pl true I A) v S2) : rn (lt_G o L) mm_Water_lowestNext 43 lv (.int x1 :: .ref 137 :: st) (sx pl true I A) P ↔ rn (lt_G o L) mm_Water_lowestNext 46 lv (v.toList ++ st) S2 P := rn_cv (k := 0) (host := "") (E' := mm_Ground_top) dq_Water_lowestNext_43 rfl (ok_v rfl (by decide) (by decide) (Nat.le_add_left _ _) hst (Nat.le_of_ble_eq_true rfl) (Or.inr (rc_v ho (up_k (by decide) (by decide)) rfl))) rfl rfl hc
theorem dq_Water_lowestNext_46 : decode (km_c mm_Water_lowestNext) 46 = .ok (.istore_n 3, 1) := by decide +kernel
theorem sq_Water_lowestNext_46n : rn G mm_Water_lowestNext 46 [a0, a1, none, a3, a4, a5] (.int x :: st) S P ↔ rn G mm_Water_lowestNext 47 [a0, a1, none, some (.int x), a4, a5] st S P := rn_s dq_Water_lowestNext_46 rfl rfl rfl
theorem sq_Water_lowestNext_46i : rn G mm_Water_lowestNext 46 [a0, a1, some (.int x2), a3, a4, a5] (.int x :: st) S P ↔ rn G mm_Water_lowestNext 47 [a0, a1, some (.int x2), some (.int x), a4, a5] st S P := rn_s dq_Water_lowestNext_46 rfl rfl rfl
theorem sq_Water_lowestNext_46r : rn G mm_Water_lowestNext 46 [a0, a1, some (.ref z2), a3, a4, a5] (.int x :: st) S P ↔ rn G mm_Water_lowestNext 47 [a0, a1, some (.ref z2), some (.int x), a4, a5] st S P := rn_s dq_Water_lowestNext_46 rfl rfl rfl
theorem sq_Water_lowestNext_46l : rn G mm_Water_lowestNext 46 [a0, a1, some (.long y2), a3, a4, a5] (.int x :: st) S P ↔ rn G mm_Water_lowestNext 47 [a0, a1, none, some (.int x), a4, a5] st S P := rn_s dq_Water_lowestNext_46 rfl rfl rfl
theorem dq_Water_lowestNext_47 : decode (km_c mm_Water_lowestNext) 47 = .ok (.iload 5, 2) := by decide +kernel
theorem sq_Water_lowestNext_47 : rn G mm_Water_lowestNext 47 [a0, a1, a2, a3, a4, some (.int x)] st S P ↔ rn G mm_Water_lowestNext 49 [a0, a1, a2, a3, a4, some (.int x)] (.int x :: st) S P := rn_s dq_Water_lowestNext_47 rfl rfl rfl
theorem dq_Water_lowestNext_49 : decode (km_c mm_Water_lowestNext) 49 = .ok (.istore_n 2, 1) := by decide +kernel
theorem sq_Water_lowestNext_49n : rn G mm_Water_lowestNext 49 [a0, none, a2, a3, a4, a5] (.int x :: st) S P ↔ rn G mm_Water_lowestNext 50 [a0, none, some (.int x), a3, a4, a5] st S P := rn_s dq_Water_lowestNext_49 rfl rfl rfl
theorem sq_Water_lowestNext_49i : rn G mm_Water_lowestNext 49 [a0, some (.int x2), a2, a3, a4, a5] (.int x :: st) S P ↔ rn G mm_Water_lowestNext 50 [a0, some (.int x2), some (.int x), a3, a4, a5] st S P := rn_s dq_Water_lowestNext_49 rfl rfl rfl
theorem sq_Water_lowestNext_49r : rn G mm_Water_lowestNext 49 [a0, some (.ref z2), a2, a3, a4, a5] (.int x :: st) S P ↔ rn G mm_Water_lowestNext 50 [a0, some (.ref z2), some (.int x), a3, a4, a5] st S P := rn_s dq_Water_lowestNext_49 rfl rfl rfl
theorem sq_Water_lowestNext_49l : rn G mm_Water_lowestNext 49 [a0, some (.long y2), a2, a3, a4, a5] (.int x :: st) S P ↔ rn G mm_Water_lowestNext 50 [a0, none, some (.int x), a3, a4, a5] st S P := rn_s dq_Water_lowestNext_49 rfl rfl rfl
theorem dq_Water_lowestNext_50 : decode (km_c mm_Water_lowestNext) 50 = .ok (.iinc 4 1, 3) := by decide +kernel
theorem sq_Water_lowestNext_50n : rn G mm_Water_lowestNext 50 [a0, a1, a2, none, some (.int x), a5] st S P ↔ rn G mm_Water_lowestNext 53 [a0, a1, a2, none, some (.int (x + nI 1)), a5] st S P := rn_s dq_Water_lowestNext_50 rfl rfl rfl
theorem sq_Water_lowestNext_50i : rn G mm_Water_lowestNext 50 [a0, a1, a2, some (.int x2), some (.int x), a5] st S P ↔ rn G mm_Water_lowestNext 53 [a0, a1, a2, some (.int x2), some (.int (x + nI 1)), a5] st S P := rn_s dq_Water_lowestNext_50 rfl rfl rfl
theorem sq_Water_lowestNext_50r : rn G mm_Water_lowestNext 50 [a0, a1, a2, some (.ref z2), some (.int x), a5] st S P ↔ rn G mm_Water_lowestNext 53 [a0, a1, a2, some (.ref z2), some (.int (x + nI 1)), a5] st S P := rn_s dq_Water_lowestNext_50 rfl rfl rfl
theorem sq_Water_lowestNext_50l : rn G mm_Water_lowestNext 50 [a0, a1, a2, some (.long y2), some (.int x), a5] st S P ↔ rn G mm_Water_lowestNext 53 [a0, a1, a2, none, some (.int (x + nI 1)), a5] st S P := rn_s dq_Water_lowestNext_50 rfl rfl rfl
theorem dq_Water_lowestNext_53 : decode (km_c mm_Water_lowestNext) 53 = .ok (.goto (-42), 3) := by decide +kernel
theorem sq_Water_lowestNext_53 : rn G mm_Water_lowestNext 53 lv st S P ↔ rn G mm_Water_lowestNext 11 lv st S P := rn_s dq_Water_lowestNext_53 rfl rfl rfl
theorem dq_Water_lowestNext_56 : decode (km_c mm_Water_lowestNext) 56 = .ok (.iload_n 2, 1) := by decide +kernel
theorem sq_Water_lowestNext_56 : rn G mm_Water_lowestNext 56 [a0, a1, some (.int x), a3, a4, a5] st S P ↔ rn G mm_Water_lowestNext 57 [a0, a1, some (.int x), a3, a4, a5] (.int x :: st) S P := rn_s dq_Water_lowestNext_56 rfl rfl rfl
theorem dq_Water_lowestNext_57 : decode (km_c mm_Water_lowestNext) 57 = .ok (.ireturn, 1) := by decide +kernel
theorem sq_Water_lowestNext_57 : rn G mm_Water_lowestNext 57 lv [.int x] S P ↔ P (some (.int x)) S := rn_ir dq_Water_lowestNext_57 rfl
theorem dq_Water_deepest_0 : decode (km_c mm_Water_deepest) 0 = .ok (.iconst 0, 1) := by decide +kernel
theorem sq_Water_deepest_0 : rn G mm_Water_deepest 0 lv st S P ↔ rn G mm_Water_deepest 1 lv (.int (nI 0) :: st) S P := rn_s dq_Water_deepest_0 rfl rfl rfl
theorem dq_Water_deepest_1 : decode (km_c mm_Water_deepest) 1 = .ok (.istore_n 2, 1) := by decide +kernel
theorem sq_Water_deepest_1n : rn G mm_Water_deepest 1 [a0, none, a2, a3] (.int x :: st) S P ↔ rn G mm_Water_deepest 2 [a0, none, some (.int x), a3] st S P := rn_s dq_Water_deepest_1 rfl rfl rfl
theorem sq_Water_deepest_1i : rn G mm_Water_deepest 1 [a0, some (.int x2), a2, a3] (.int x :: st) S P ↔ rn G mm_Water_deepest 2 [a0, some (.int x2), some (.int x), a3] st S P := rn_s dq_Water_deepest_1 rfl rfl rfl
theorem sq_Water_deepest_1r : rn G mm_Water_deepest 1 [a0, some (.ref z2), a2, a3] (.int x :: st) S P ↔ rn G mm_Water_deepest 2 [a0, some (.ref z2), some (.int x), a3] st S P := rn_s dq_Water_deepest_1 rfl rfl rfl
theorem sq_Water_deepest_1l : rn G mm_Water_deepest 1 [a0, some (.long y2), a2, a3] (.int x :: st) S P ↔ rn G mm_Water_deepest 2 [a0, none, some (.int x), a3] st S P := rn_s dq_Water_deepest_1 rfl rfl rfl
theorem dq_Water_deepest_2 : decode (km_c mm_Water_deepest) 2 = .ok (.iconst 0, 1) := by decide +kernel
theorem sq_Water_deepest_2 : rn G mm_Water_deepest 2 lv st S P ↔ rn G mm_Water_deepest 3 lv (.int (nI 0) :: st) S P := rn_s dq_Water_deepest_2 rfl rfl rfl
theorem dq_Water_deepest_3 : decode (km_c mm_Water_deepest) 3 = .ok (.istore_n 3, 1) := by decide +kernel
theorem sq_Water_deepest_3n : rn G mm_Water_deepest 3 [a0, a1, none, a3] (.int x :: st) S P ↔ rn G mm_Water_deepest 4 [a0, a1, none, some (.int x)] st S P := rn_s dq_Water_deepest_3 rfl rfl rfl
theorem sq_Water_deepest_3i : rn G mm_Water_deepest 3 [a0, a1, some (.int x2), a3] (.int x :: st) S P ↔ rn G mm_Water_deepest 4 [a0, a1, some (.int x2), some (.int x)] st S P := rn_s dq_Water_deepest_3 rfl rfl rfl
theorem sq_Water_deepest_3r : rn G mm_Water_deepest 3 [a0, a1, some (.ref z2), a3] (.int x :: st) S P ↔ rn G mm_Water_deepest 4 [a0, a1, some (.ref z2), some (.int x)] st S P := rn_s dq_Water_deepest_3 rfl rfl rfl
theorem sq_Water_deepest_3l : rn G mm_Water_deepest 3 [a0, a1, some (.long y2), a3] (.int x :: st) S P ↔ rn G mm_Water_deepest 4 [a0, a1, none, some (.int x)] st S P := rn_s dq_Water_deepest_3 rfl rfl rfl
theorem dq_Water_deepest_4 : decode (km_c mm_Water_deepest) 4 = .ok (.iload_n 3, 1) := by decide +kernel
theorem sq_Water_deepest_4 : rn G mm_Water_deepest 4 [a0, a1, a2, some (.int x)] st S P ↔ rn G mm_Water_deepest 5 [a0, a1, a2, some (.int x)] (.int x :: st) S P := rn_s dq_Water_deepest_4 rfl rfl rfl
theorem dq_Water_deepest_5 : decode (km_c mm_Water_deepest) 5 = .ok (.aload_n 1, 1) := by decide +kernel
theorem sq_Water_deepest_5 : rn G mm_Water_deepest 5 [a0, some (.ref z), a2, a3] st S P ↔ rn G mm_Water_deepest 6 [a0, some (.ref z), a2, a3] (.ref z :: st) S P := rn_s dq_Water_deepest_5 rfl rfl rfl
theorem dq_Water_deepest_6 : decode (km_c mm_Water_deepest) 6 = .ok (.getfield 49, 3) := by decide +kernel
theorem sq_Water_deepest_6_12 (ho : sx_o o pl kp) : rn (lt_G o L) mm_Water_deepest 6 lv (.ref 12 :: st) (sx pl kp I A) P ↔ rn (lt_G o L) mm_Water_deepest 9 lv (.int (I 12 1) :: st) (sx pl kp I A) P := rx_get (h := "DeltaRoad") (ci := 1) (k := 1) dq_Water_deepest_6 (by decide +kernel) ho (up_b (by decide)) rfl rfl (fl_i (by decide))
theorem sq_Water_deepest_6_147 (ho : sx_o o pl true) : rn (lt_G o L) mm_Water_deepest 6 lv (.ref 147 :: st) (sx pl true I A) P ↔ rn (lt_G o L) mm_Water_deepest 9 lv (.int (I 147 1) :: st) (sx pl true I A) P := rx_get (h := "DeltaRoad") (ci := 1) (k := 1) dq_Water_deepest_6 (by decide +kernel) ho (up_k (by decide) (by decide)) rfl rfl (fl_i (by decide))
theorem dq_Water_deepest_9 : decode (km_c mm_Water_deepest) 9 = .ok (.if_icmp .ge 25, 3) := by decide +kernel
theorem sq_Water_deepest_9 : rn G mm_Water_deepest 9 lv (.int x2 :: .int x :: st) S P ↔ ((x2 ≤ x → rn G mm_Water_deepest 34 lv st S P) ∧ (¬ (x2 ≤ x) → rn G mm_Water_deepest 12 lv st S P)) := rn_b (off := 25) dq_Water_deepest_9 rfl rfl rfl rfl
theorem dq_Water_deepest_12 : decode (km_c mm_Water_deepest) 12 = .ok (.iload_n 2, 1) := by decide +kernel
theorem sq_Water_deepest_12 : rn G mm_Water_deepest 12 [a0, a1, some (.int x), a3] st S P ↔ rn G mm_Water_deepest 13 [a0, a1, some (.int x), a3] (.int x :: st) S P := rn_s dq_Water_deepest_12 rfl rfl rfl
theorem dq_Water_deepest_13 : decode (km_c mm_Water_deepest) 13 = .ok (.aload_n 0, 1) := by decide +kernel
theorem sq_Water_deepest_13 : rn G mm_Water_deepest 13 [some (.ref z), a1, a2, a3] st S P ↔ rn G mm_Water_deepest 14 [some (.ref z), a1, a2, a3] (.ref z :: st) S P := rn_s dq_Water_deepest_13 rfl rfl rfl
theorem dq_Water_deepest_14 : decode (km_c mm_Water_deepest) 14 = .ok (.getfield 9, 3) := by decide +kernel
theorem sq_Water_deepest_14_16 (ho : sx_o o pl kp) : rn (lt_G o L) mm_Water_deepest 14 lv (.ref 16 :: st) (sx pl kp I A) P ↔ rn (lt_G o L) mm_Water_deepest 17 lv (.ref 17 :: st) (sx pl kp I A) P := rx_get (h := "") (ci := 6) (k := 0) dq_Water_deepest_14 (by decide +kernel) ho (up_b (by decide)) rfl rfl (fl_r (by decide) (by decide) (by decide) (by decide))
theorem sq_Water_deepest_14_20 (ho : sx_o o pl kp) : rn (lt_G o L) mm_Water_deepest 14 lv (.ref 20 :: st) (sx pl kp I A) P ↔ rn (lt_G o L) mm_Water_deepest 17 lv (.ref 21 :: st) (sx pl kp I A) P := rx_get (h := "") (ci := 6) (k := 0) dq_Water_deepest_14 (by decide +kernel) ho (up_b (by decide)) rfl rfl (fl_r (by decide) (by decide) (by decide) (by decide))
theorem dq_Water_deepest_17 : decode (km_c mm_Water_deepest) 17 = .ok (.aload_n 1, 1) := by decide +kernel
theorem sq_Water_deepest_17 : rn G mm_Water_deepest 17 [a0, some (.ref z), a2, a3] st S P ↔ rn G mm_Water_deepest 18 [a0, some (.ref z), a2, a3] (.ref z :: st) S P := rn_s dq_Water_deepest_17 rfl rfl rfl
theorem dq_Water_deepest_18 : decode (km_c mm_Water_deepest) 18 = .ok (.getfield 54, 3) := by decide +kernel
theorem sq_Water_deepest_18_12 (ho : sx_o o pl kp) : rn (lt_G o L) mm_Water_deepest 18 lv (.ref 12 :: st) (sx pl kp I A) P ↔ rn (lt_G o L) mm_Water_deepest 21 lv (.ref 13 :: st) (sx pl kp I A) P := rx_get (h := "DeltaRoad") (ci := 1) (k := 0) dq_Water_deepest_18 (by decide +kernel) ho (up_b (by decide)) rfl rfl (fl_r (by decide) (by decide) (by decide) (by decide))
theorem sq_Water_deepest_18_147 (ho : sx_o o pl true) : rn (lt_G o L) mm_Water_deepest 18 lv (.ref 147 :: st) (sx pl true I A) P ↔ rn (lt_G o L) mm_Water_deepest 21 lv (.ref 148 :: st) (sx pl true I A) P := rx_get (h := "DeltaRoad") (ci := 1) (k := 0) dq_Water_deepest_18 (by decide +kernel) ho (up_k (by decide) (by decide)) rfl rfl (fl_k (by decide) (by decide))
theorem dq_Water_deepest_21 : decode (km_c mm_Water_deepest) 21 = .ok (.iload_n 3, 1) := by decide +kernel
theorem sq_Water_deepest_21 : rn G mm_Water_deepest 21 [a0, a1, a2, some (.int x)] st S P ↔ rn G mm_Water_deepest 22 [a0, a1, a2, some (.int x)] (.int x :: st) S P := rn_s dq_Water_deepest_21 rfl rfl rfl
theorem dq_Water_deepest_22 : decode (km_c mm_Water_deepest) 22 = .ok (.iaload, 1) := by decide +kernel
theorem sq_Water_deepest_22 (ho : sx_o o pl kp) (hk : ak L a = 0) (hu : sx_up pl kp a = true ∨ 1000 ≤ a) (hc : c < ln L a) (hn : ln L a < 2 ^ 31) : rn (lt_G o L) mm_Water_deepest 22 lv (.int (nI c) :: .ref a :: st) (sx pl kp I A) P ↔ rn (lt_G o L) mm_Water_deepest 23 lv (.int (A a c) :: st) (sx pl kp I A) P := rx_ild dq_Water_deepest_22 ho hk hu hc hn
theorem dq_Water_deepest_23 : decode (km_c mm_Water_deepest) 23 = .ok (.iaload, 1) := by decide +kernel
theorem sq_Water_deepest_23 (ho : sx_o o pl kp) (hk : ak L a = 0) (hu : sx_up pl kp a = true ∨ 1000 ≤ a) (hc : c < ln L a) (hn : ln L a < 2 ^ 31) : rn (lt_G o L) mm_Water_deepest 23 lv (.int (nI c) :: .ref a :: st) (sx pl kp I A) P ↔ rn (lt_G o L) mm_Water_deepest 24 lv (.int (A a c) :: st) (sx pl kp I A) P := rx_ild dq_Water_deepest_23 ho hk hu hc hn
theorem dq_Water_deepest_24 : decode (km_c mm_Water_deepest) 24 = .ok (.invokestatic 57, 3) := by decide +kernel
theorem sq_Water_deepest_24 (hst : kx_cat st ≤ 8) : rn G mm_Water_deepest 24 lv (.int x2 :: .int x :: st) S P ↔ rn G mm_Water_deepest 27 lv (.int (if x < x2 then x2 else x) :: st) S P := rn_mm dq_Water_deepest_24 (by decide) (w := 0) (by decide) (if_pos ⟨by decide, Nat.le_trans (Nat.add_le_add_right hst 13) (by decide)⟩)
theorem dq_Water_deepest_27 : decode (km_c mm_Water_deepest) 27 = .ok (.istore_n 2, 1) := by decide +kernel
theorem sq_Water_deepest_27n : rn G mm_Water_deepest 27 [a0, none, a2, a3] (.int x :: st) S P ↔ rn G mm_Water_deepest 28 [a0, none, some (.int x), a3] st S P := rn_s dq_Water_deepest_27 rfl rfl rfl
theorem sq_Water_deepest_27i : rn G mm_Water_deepest 27 [a0, some (.int x2), a2, a3] (.int x :: st) S P ↔ rn G mm_Water_deepest 28 [a0, some (.int x2), some (.int x), a3] st S P := rn_s dq_Water_deepest_27 rfl rfl rfl
theorem sq_Water_deepest_27r : rn G mm_Water_deepest 27 [a0, some (.ref z2), a2, a3] (.int x :: st) S P ↔ rn G mm_Water_deepest 28 [a0, some (.ref z2), some (.int x), a3] st S P := rn_s dq_Water_deepest_27 rfl rfl rfl
theorem sq_Water_deepest_27l : rn G mm_Water_deepest 27 [a0, some (.long y2), a2, a3] (.int x :: st) S P ↔ rn G mm_Water_deepest 28 [a0, none, some (.int x), a3] st S P := rn_s dq_Water_deepest_27 rfl rfl rfl
theorem dq_Water_deepest_28 : decode (km_c mm_Water_deepest) 28 = .ok (.iinc 3 1, 3) := by decide +kernel
theorem sq_Water_deepest_28n : rn G mm_Water_deepest 28 [a0, a1, none, some (.int x)] st S P ↔ rn G mm_Water_deepest 31 [a0, a1, none, some (.int (x + nI 1))] st S P := rn_s dq_Water_deepest_28 rfl rfl rfl
theorem sq_Water_deepest_28i : rn G mm_Water_deepest 28 [a0, a1, some (.int x2), some (.int x)] st S P ↔ rn G mm_Water_deepest 31 [a0, a1, some (.int x2), some (.int (x + nI 1))] st S P := rn_s dq_Water_deepest_28 rfl rfl rfl
theorem sq_Water_deepest_28r : rn G mm_Water_deepest 28 [a0, a1, some (.ref z2), some (.int x)] st S P ↔ rn G mm_Water_deepest 31 [a0, a1, some (.ref z2), some (.int (x + nI 1))] st S P := rn_s dq_Water_deepest_28 rfl rfl rfl
theorem sq_Water_deepest_28l : rn G mm_Water_deepest 28 [a0, a1, some (.long y2), some (.int x)] st S P ↔ rn G mm_Water_deepest 31 [a0, a1, none, some (.int (x + nI 1))] st S P := rn_s dq_Water_deepest_28 rfl rfl rfl
theorem dq_Water_deepest_31 : decode (km_c mm_Water_deepest) 31 = .ok (.goto (-27), 3) := by decide +kernel
theorem sq_Water_deepest_31 : rn G mm_Water_deepest 31 lv st S P ↔ rn G mm_Water_deepest 4 lv st S P := rn_s dq_Water_deepest_31 rfl rfl rfl
theorem dq_Water_deepest_34 : decode (km_c mm_Water_deepest) 34 = .ok (.iload_n 2, 1) := by decide +kernel
theorem sq_Water_deepest_34 : rn G mm_Water_deepest 34 [a0, a1, some (.int x), a3] st S P ↔ rn G mm_Water_deepest 35 [a0, a1, some (.int x), a3] (.int x :: st) S P := rn_s dq_Water_deepest_34 rfl rfl rfl
theorem dq_Water_deepest_35 : decode (km_c mm_Water_deepest) 35 = .ok (.ireturn, 1) := by decide +kernel
theorem sq_Water_deepest_35 : rn G mm_Water_deepest 35 lv [.int x] S P ↔ P (some (.int x)) S := rn_ir dq_Water_deepest_35 rfl
end SQ
