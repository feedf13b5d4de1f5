section SQ
variable {o pl kp : Bool} {L : Nat} {I A : Nat → Nat → Int32} {G : kg_G} {S : ks_S} {lv : List (Option Value)} {st : List Value} {P : Option Value → ks_S → Prop} {x x2 : Int32} {y y2 : Int64} {z z2 c a : Nat} {a0 a1 a2 a3 a4 a5 a6 a7 a8 a9 a10 a11 a12 a13 a14 a15 a16 a17 a18 a19 a20 a21 a22 a23 : Option Value}
theorem dq_Road_delta_0 : decode (km_c mm_Road_delta) 0 = .ok (.aload_n 0, 1) := by decide +kernel
theorem sq_Road_delta_0 : rn G mm_Road_delta 0 [some (.ref z), a1] st S P ↔ rn G mm_Road_delta 1 [some (.ref z), a1] (.ref z :: st) S P := rn_s dq_Road_delta_0 rfl rfl rfl
theorem dq_Road_delta_1 : decode (km_c mm_Road_delta) 1 = .ok (.getfield 43, 3) := by decide +kernel
theorem sq_Road_delta_1_0 (ho : sx_o o pl kp) : rn (lt_G o L) mm_Road_delta 1 lv (.ref 0 :: st) (sx pl kp I A) P ↔ rn (lt_G o L) mm_Road_delta 4 lv (.ref 35 :: st) (sx pl kp I A) P := rx_get (h := "") (ci := 9) (k := 5) dq_Road_delta_1 (by decide +kernel) ho (up_b (by decide)) rfl rfl (fl_r (by decide) (by decide) (by decide) (by decide))
theorem dq_Road_delta_4 : decode (km_c mm_Road_delta) 4 = .ok (.aload_n 0, 1) := by decide +kernel
theorem sq_Road_delta_4 : rn G mm_Road_delta 4 [some (.ref z), a1] st S P ↔ rn G mm_Road_delta 5 [some (.ref z), a1] (.ref z :: st) S P := rn_s dq_Road_delta_4 rfl rfl rfl
theorem dq_Road_delta_5 : decode (km_c mm_Road_delta) 5 = .ok (.getfield 10, 3) := by decide +kernel
theorem sq_Road_delta_5_0 (ho : sx_o o pl kp) : rn (lt_G o L) mm_Road_delta 5 lv (.ref 0 :: st) (sx pl kp I A) P ↔ rn (lt_G o L) mm_Road_delta 8 lv (.ref 1 :: st) (sx pl kp I A) P := rx_get (h := "") (ci := 9) (k := 0) dq_Road_delta_5 (by decide +kernel) ho (up_b (by decide)) rfl rfl (fl_r (by decide) (by decide) (by decide) (by decide))
theorem dq_Road_delta_8 : decode (km_c mm_Road_delta) 8 = .ok (.getfield 80, 3) := by decide +kernel
theorem sq_Road_delta_8_1 (ho : sx_o o pl kp) : rn (lt_G o L) mm_Road_delta 8 lv (.ref 1 :: st) (sx pl kp I A) P ↔ rn (lt_G o L) mm_Road_delta 11 lv (.ref 2 :: st) (sx pl kp I A) P := rx_get (h := "DeltaRoad") (ci := 8) (k := 0) dq_Road_delta_8 (by decide +kernel) ho (up_b (by decide)) rfl rfl (fl_r (by decide) (by decide) (by decide) (by decide))
theorem sq_Road_delta_8_136 (ho : sx_o o pl true) : rn (lt_G o L) mm_Road_delta 8 lv (.ref 136 :: st) (sx pl true I A) P ↔ rn (lt_G o L) mm_Road_delta 11 lv (.ref 137 :: st) (sx pl true I A) P := rx_get (h := "DeltaRoad") (ci := 8) (k := 0) dq_Road_delta_8 (by decide +kernel) ho (up_k (by decide) (by decide)) rfl rfl (fl_k (by decide) (by decide))
theorem dq_Road_delta_11 : decode (km_c mm_Road_delta) 11 = .ok (.invokevirtual 126, 3) := by decide +kernel
theorem sq_Road_delta_11_2 {z1 : Nat} {v : Option Value} {S2 : ks_S} (hc : ev (lt_G o L) mm_Ground_copy [.ref 2, .ref z1] (sx pl kp I A) v S2) (ho : sx_o o pl kp) (hst : kx_cat st ≤ 8) : rn (lt_G o L) mm_Road_delta 11 lv (.ref z1 :: .ref 2 :: st) (sx pl kp I A) P ↔ rn (lt_G o L) mm_Road_delta 14 lv (v.toList ++ st) S2 P := rn_cv (k := 0) (host := "") (E' := mm_Ground_copy) dq_Road_delta_11 rfl (ok_v rfl (by decide) (by decide) (Nat.le_add_left _ _) hst (Nat.le_of_ble_eq_true rfl) (Or.inr (rc_v ho (up_b (by decide)) rfl))) rfl rfl hc
theorem sq_Road_delta_11_35 {z1 : Nat} {v : Option Value} {S2 : ks_S} (hc : ev (lt_G o L) mm_Ground_copy [.ref 35, .ref z1] (sx pl kp I A) v S2) (ho : sx_o o pl kp) (hst : kx_cat st ≤ 8) : rn (lt_G o L) mm_Road_delta 11 lv (.ref z1 :: .ref 35 :: st) (sx pl kp I A) P ↔ rn (lt_G o L) mm_Road_delta 14 lv (v.toList ++ st) S2 P := rn_cv (k := 0) (host := "") (E' := mm_Ground_copy) dq_Road_delta_11 rfl (ok_v rfl (by decide) (by decide) (Nat.le_add_left _ _) hst (Nat.le_of_ble_eq_true rfl) (Or.inr (rc_v ho (up_b (by decide)) rfl))) rfl rfl hc
theorem sq_Road_delta_11_137 {z1 : Nat} {v : Option Value} {S2 : ks_S} (hc : ev (lt_G o L) mm_Ground_copy [.ref 137, .ref z1] (sx pl true I A) v S2) (ho : sx_o o pl true) (hst : kx_cat st ≤ 8) : rn (lt_G o L) mm_Road_delta 11 lv (.ref z1 :: .ref 137 :: st) (sx pl true I A) P ↔ rn (lt_G o L) mm_Road_delta 14 lv (v.toList ++ st) S2 P := rn_cv (k := 0) (host := "") (E' := mm_Ground_copy) dq_Road_delta_11 rfl (ok_v rfl (by decide) (by decide) (Nat.le_add_left _ _) hst (Nat.le_of_ble_eq_true rfl) (Or.inr (rc_v ho (up_k (by decide) (by decide)) rfl))) rfl rfl hc
theorem dq_Road_delta_14 : decode (km_c mm_Road_delta) 14 = .ok (.aload_n 0, 1) := by decide +kernel
theorem sq_Road_delta_14 : rn G mm_Road_delta 14 [some (.ref z), a1] st S P ↔ rn G mm_Road_delta 15 [some (.ref z), a1] (.ref z :: st) S P := rn_s dq_Road_delta_14 rfl rfl rfl
theorem dq_Road_delta_15 : decode (km_c mm_Road_delta) 15 = .ok (.getfield 29, 3) := by decide +kernel
theorem sq_Road_delta_15_0 (ho : sx_o o pl kp) : rn (lt_G o L) mm_Road_delta 15 lv (.ref 0 :: st) (sx pl kp I A) P ↔ rn (lt_G o L) mm_Road_delta 18 lv (.ref 24 :: st) (sx pl kp I A) P := rx_get (h := "") (ci := 9) (k := 3) dq_Road_delta_15 (by decide +kernel) ho (up_b (by decide)) rfl rfl (fl_r (by decide) (by decide) (by decide) (by decide))
theorem dq_Road_delta_18 : decode (km_c mm_Road_delta) 18 = .ok (.aload_n 0, 1) := by decide +kernel
theorem sq_Road_delta_18 : rn G mm_Road_delta 18 [some (.ref z), a1] st S P ↔ rn G mm_Road_delta 19 [some (.ref z), a1] (.ref z :: st) S P := rn_s dq_Road_delta_18 rfl rfl rfl
theorem dq_Road_delta_19 : decode (km_c mm_Road_delta) 19 = .ok (.getfield 43, 3) := by decide +kernel
theorem sq_Road_delta_19_0 (ho : sx_o o pl kp) : rn (lt_G o L) mm_Road_delta 19 lv (.ref 0 :: st) (sx pl kp I A) P ↔ rn (lt_G o L) mm_Road_delta 22 lv (.ref 35 :: st) (sx pl kp I A) P := rx_get (h := "") (ci := 9) (k := 5) dq_Road_delta_19 (by decide +kernel) ho (up_b (by decide)) rfl rfl (fl_r (by decide) (by decide) (by decide) (by decide))
theorem dq_Road_delta_22 : decode (km_c mm_Road_delta) 22 = .ok (.invokevirtual 130, 3) := by decide +kernel
theorem sq_Road_delta_22_24 {z1 : Nat} {v : Option Value} {S2 : ks_S} (hc : ev (lt_G o L) mm_Tape_readDelta [.ref 24, .ref z1] (sx pl kp I A) v S2) (ho : sx_o o pl kp) (hst : kx_cat st ≤ 8) : rn (lt_G o L) mm_Road_delta 22 lv (.ref z1 :: .ref 24 :: st) (sx pl kp I A) P ↔ rn (lt_G o L) mm_Road_delta 25 lv (v.toList ++ st) S2 P := rn_cv (k := 0) (host := "") (E' := mm_Tape_readDelta) dq_Road_delta_22 rfl (ok_v rfl (by decide) (by decide) (Nat.le_add_left _ _) hst (Nat.le_of_ble_eq_true rfl) (Or.inr (rc_v ho (up_b (by decide)) rfl))) rfl rfl hc
theorem dq_Road_delta_25 : decode (km_c mm_Road_delta) 25 = .ok (.istore_n 1, 1) := by decide +kernel
theorem sq_Road_delta_25n : rn G mm_Road_delta 25 [none, a1] (.int x :: st) S P ↔ rn G mm_Road_delta 26 [none, some (.int x)] st S P := rn_s dq_Road_delta_25 rfl rfl rfl
theorem sq_Road_delta_25i : rn G mm_Road_delta 25 [some (.int x2), a1] (.int x :: st) S P ↔ rn G mm_Road_delta 26 [some (.int x2), some (.int x)] st S P := rn_s dq_Road_delta_25 rfl rfl rfl
theorem sq_Road_delta_25r : rn G mm_Road_delta 25 [some (.ref z2), a1] (.int x :: st) S P ↔ rn G mm_Road_delta 26 [some (.ref z2), some (.int x)] st S P := rn_s dq_Road_delta_25 rfl rfl rfl
theorem dq_Road_delta_26 : decode (km_c mm_Road_delta) 26 = .ok (.aload_n 0, 1) := by decide +kernel
theorem sq_Road_delta_26 : rn G mm_Road_delta 26 [some (.ref z), a1] st S P ↔ rn G mm_Road_delta 27 [some (.ref z), a1] (.ref z :: st) S P := rn_s dq_Road_delta_26 rfl rfl rfl
theorem dq_Road_delta_27 : decode (km_c mm_Road_delta) 27 = .ok (.getfield 29, 3) := by decide +kernel
theorem sq_Road_delta_27_0 (ho : sx_o o pl kp) : rn (lt_G o L) mm_Road_delta 27 lv (.ref 0 :: st) (sx pl kp I A) P ↔ rn (lt_G o L) mm_Road_delta 30 lv (.ref 24 :: st) (sx pl kp I A) P := rx_get (h := "") (ci := 9) (k := 3) dq_Road_delta_27 (by decide +kernel) ho (up_b (by decide)) rfl rfl (fl_r (by decide) (by decide) (by decide) (by decide))
theorem dq_Road_delta_30 : decode (km_c mm_Road_delta) 30 = .ok (.invokevirtual 134, 3) := by decide +kernel
theorem sq_Road_delta_30_24  {v : Option Value} {S2 : ks_S} (hc : ev (lt_G o L) mm_Tape_clear [.ref 24] (sx pl kp I A) v S2) (ho : sx_o o pl kp) (hst : kx_cat st ≤ 8) : rn (lt_G o L) mm_Road_delta 30 lv (.ref 24 :: st) (sx pl kp I A) P ↔ rn (lt_G o L) mm_Road_delta 33 lv (v.toList ++ st) S2 P := rn_cv (k := 0) (host := "") (E' := mm_Tape_clear) dq_Road_delta_30 rfl (ok_v rfl (by decide) (by decide) (Nat.le_add_left _ _) hst (Nat.le_of_ble_eq_true rfl) (Or.inr (rc_v ho (up_b (by decide)) rfl))) rfl rfl hc
theorem dq_Road_delta_33 : decode (km_c mm_Road_delta) 33 = .ok (.iload_n 1, 1) := by decide +kernel
theorem sq_Road_delta_33 : rn G mm_Road_delta 33 [a0, some (.int x)] st S P ↔ rn G mm_Road_delta 34 [a0, some (.int x)] (.int x :: st) S P := rn_s dq_Road_delta_33 rfl rfl rfl
theorem dq_Road_delta_34 : decode (km_c mm_Road_delta) 34 = .ok (.ifCond .le 21, 3) := by decide +kernel
theorem sq_Road_delta_34 : rn G mm_Road_delta 34 lv (.int x :: st) S P ↔ ((x ≤ 0 → rn G mm_Road_delta 55 lv st S P) ∧ (¬ (x ≤ 0) → rn G mm_Road_delta 37 lv st S P)) := rn_b (off := 21) dq_Road_delta_34 rfl rfl rfl rfl
theorem dq_Road_delta_37 : decode (km_c mm_Road_delta) 37 = .ok (.aload_n 0, 1) := by decide +kernel
theorem sq_Road_delta_37 : rn G mm_Road_delta 37 [some (.ref z), a1] st S P ↔ rn G mm_Road_delta 38 [some (.ref z), a1] (.ref z :: st) S P := rn_s dq_Road_delta_37 rfl rfl rfl
theorem dq_Road_delta_38 : decode (km_c mm_Road_delta) 38 = .ok (.getfield 10, 3) := by decide +kernel
theorem sq_Road_delta_38_0 (ho : sx_o o pl kp) : rn (lt_G o L) mm_Road_delta 38 lv (.ref 0 :: st) (sx pl kp I A) P ↔ rn (lt_G o L) mm_Road_delta 41 lv (.ref 1 :: st) (sx pl kp I A) P := rx_get (h := "") (ci := 9) (k := 0) dq_Road_delta_38 (by decide +kernel) ho (up_b (by decide)) rfl rfl (fl_r (by decide) (by decide) (by decide) (by decide))
theorem dq_Road_delta_41 : decode (km_c mm_Road_delta) 41 = .ok (.getfield 80, 3) := by decide +kernel
theorem sq_Road_delta_41_1 (ho : sx_o o pl kp) : rn (lt_G o L) mm_Road_delta 41 lv (.ref 1 :: st) (sx pl kp I A) P ↔ rn (lt_G o L) mm_Road_delta 44 lv (.ref 2 :: st) (sx pl kp I A) P := rx_get (h := "DeltaRoad") (ci := 8) (k := 0) dq_Road_delta_41 (by decide +kernel) ho (up_b (by decide)) rfl rfl (fl_r (by decide) (by decide) (by decide) (by decide))
theorem sq_Road_delta_41_136 (ho : sx_o o pl true) : rn (lt_G o L) mm_Road_delta 41 lv (.ref 136 :: st) (sx pl true I A) P ↔ rn (lt_G o L) mm_Road_delta 44 lv (.ref 137 :: st) (sx pl true I A) P := rx_get (h := "DeltaRoad") (ci := 8) (k := 0) dq_Road_delta_41 (by decide +kernel) ho (up_k (by decide) (by decide)) rfl rfl (fl_k (by decide) (by decide))
theorem dq_Road_delta_44 : decode (km_c mm_Road_delta) 44 = .ok (.aload_n 0, 1) := by decide +kernel
theorem sq_Road_delta_44 : rn G mm_Road_delta 44 [some (.ref z), a1] st S P ↔ rn G mm_Road_delta 45 [some (.ref z), a1] (.ref z :: st) S P := rn_s dq_Road_delta_44 rfl rfl rfl
theorem dq_Road_delta_45 : decode (km_c mm_Road_delta) 45 = .ok (.getfield 43, 3) := by decide +kernel
theorem sq_Road_delta_45_0 (ho : sx_o o pl kp) : rn (lt_G o L) mm_Road_delta 45 lv (.ref 0 :: st) (sx pl kp I A) P ↔ rn (lt_G o L) mm_Road_delta 48 lv (.ref 35 :: st) (sx pl kp I A) P := rx_get (h := "") (ci := 9) (k := 5) dq_Road_delta_45 (by decide +kernel) ho (up_b (by decide)) rfl rfl (fl_r (by decide) (by decide) (by decide) (by decide))
theorem dq_Road_delta_48 : decode (km_c mm_Road_delta) 48 = .ok (.invokevirtual 126, 3) := by decide +kernel
theorem sq_Road_delta_48_2 {z1 : Nat} {v : Option Value} {S2 : ks_S} (hc : ev (lt_G o L) mm_Ground_copy [.ref 2, .ref z1] (sx pl kp I A) v S2) (ho : sx_o o pl kp) (hst : kx_cat st ≤ 8) : rn (lt_G o L) mm_Road_delta 48 lv (.ref z1 :: .ref 2 :: st) (sx pl kp I A) P ↔ rn (lt_G o L) mm_Road_delta 51 lv (v.toList ++ st) S2 P := rn_cv (k := 0) (host := "") (E' := mm_Ground_copy) dq_Road_delta_48 rfl (ok_v rfl (by decide) (by decide) (Nat.le_add_left _ _) hst (Nat.le_of_ble_eq_true rfl) (Or.inr (rc_v ho (up_b (by decide)) rfl))) rfl rfl hc
theorem sq_Road_delta_48_35 {z1 : Nat} {v : Option Value} {S2 : ks_S} (hc : ev (lt_G o L) mm_Ground_copy [.ref 35, .ref z1] (sx pl kp I A) v S2) (ho : sx_o o pl kp) (hst : kx_cat st ≤ 8) : rn (lt_G o L) mm_Road_delta 48 lv (.ref z1 :: .ref 35 :: st) (sx pl kp I A) P ↔ rn (lt_G o L) mm_Road_delta 51 lv (v.toList ++ st) S2 P := rn_cv (k := 0) (host := "") (E' := mm_Ground_copy) dq_Road_delta_48 rfl (ok_v rfl (by decide) (by decide) (Nat.le_add_left _ _) hst (Nat.le_of_ble_eq_true rfl) (Or.inr (rc_v ho (up_b (by decide)) rfl))) rfl rfl hc
theorem sq_Road_delta_48_137 {z1 : Nat} {v : Option Value} {S2 : ks_S} (hc : ev (lt_G o L) mm_Ground_copy [.ref 137, .ref z1] (sx pl true I A) v S2) (ho : sx_o o pl true) (hst : kx_cat st ≤ 8) : rn (lt_G o L) mm_Road_delta 48 lv (.ref z1 :: .ref 137 :: st) (sx pl true I A) P ↔ rn (lt_G o L) mm_Road_delta 51 lv (v.toList ++ st) S2 P := rn_cv (k := 0) (host := "") (E' := mm_Ground_copy) dq_Road_delta_48 rfl (ok_v rfl (by decide) (by decide) (Nat.le_add_left _ _) hst (Nat.le_of_ble_eq_true rfl) (Or.inr (rc_v ho (up_k (by decide) (by decide)) rfl))) rfl rfl hc
theorem dq_Road_delta_51 : decode (km_c mm_Road_delta) 51 = .ok (.aload_n 0, 1) := by decide +kernel
theorem sq_Road_delta_51 : rn G mm_Road_delta 51 [some (.ref z), a1] st S P ↔ rn G mm_Road_delta 52 [some (.ref z), a1] (.ref z :: st) S P := rn_s dq_Road_delta_51 rfl rfl rfl
theorem dq_Road_delta_52 : decode (km_c mm_Road_delta) 52 = .ok (.invokevirtual 87, 3) := by decide +kernel
theorem sq_Road_delta_52_0  {v : Option Value} {S2 : ks_S} (hc : ev (lt_G o L) mm_Road_forget [.ref 0] (sx pl kp I A) v S2) (ho : sx_o o pl kp) (hst : kx_cat st ≤ 8) : rn (lt_G o L) mm_Road_delta 52 lv (.ref 0 :: st) (sx pl kp I A) P ↔ rn (lt_G o L) mm_Road_delta 55 lv (v.toList ++ st) S2 P := rn_cv (k := 0) (host := "") (E' := mm_Road_forget) dq_Road_delta_52 rfl (ok_v rfl (by decide) (by decide) (Nat.le_add_left _ _) hst (Nat.le_of_ble_eq_true rfl) (Or.inr (rc_v ho (up_b (by decide)) rfl))) rfl rfl hc
theorem dq_Road_delta_55 : decode (km_c mm_Road_delta) 55 = .ok (.iload_n 1, 1) := by decide +kernel
theorem sq_Road_delta_55 : rn G mm_Road_delta 55 [a0, some (.int x)] st S P ↔ rn G mm_Road_delta 56 [a0, some (.int x)] (.int x :: st) S P := rn_s dq_Road_delta_55 rfl rfl rfl
theorem dq_Road_delta_56 : decode (km_c mm_Road_delta) 56 = .ok (.ireturn, 1) := by decide +kernel
theorem sq_Road_delta_56 : rn G mm_Road_delta 56 lv [.int x] S P ↔ P (some (.int x)) S := rn_ir dq_Road_delta_56 rfl
theorem dq_Road_villages_0 : decode (km_c mm_Road_villages) 0 = .ok (.aload_n 0, 1) := by decide +kernel
theorem sq_Road_villages_0 : rn G mm_Road_villages 0 [some (.ref z), a1] st S P ↔ rn G mm_Road_villages 1 [some (.ref z), a1] (.ref z :: st) S P := rn_s dq_Road_villages_0 rfl rfl rfl
theorem dq_Road_villages_1 : decode (km_c mm_Road_villages) 1 = .ok (.getfield 29, 3) := by decide +kernel
theorem sq_Road_villages_1_0 (ho : sx_o o pl kp) : rn (lt_G o L) mm_Road_villages 1 lv (.ref 0 :: st) (sx pl kp I A) P ↔ rn (lt_G o L) mm_Road_villages 4 lv (.ref 24 :: st) (sx pl kp I A) P := rx_get (h := "") (ci := 9) (k := 3) dq_Road_villages_1 (by decide +kernel) ho (up_b (by decide)) rfl rfl (fl_r (by decide) (by decide) (by decide) (by decide))
theorem dq_Road_villages_4 : decode (km_c mm_Road_villages) 4 = .ok (.aload_n 0, 1) := by decide +kernel
theorem sq_Road_villages_4 : rn G mm_Road_villages 4 [some (.ref z), a1] st S P ↔ rn G mm_Road_villages 5 [some (.ref z), a1] (.ref z :: st) S P := rn_s dq_Road_villages_4 rfl rfl rfl
theorem dq_Road_villages_5 : decode (km_c mm_Road_villages) 5 = .ok (.getfield 50, 3) := by decide +kernel
theorem sq_Road_villages_5_0 (ho : sx_o o pl kp) : rn (lt_G o L) mm_Road_villages 5 lv (.ref 0 :: st) (sx pl kp I A) P ↔ rn (lt_G o L) mm_Road_villages 8 lv (.ref 42 :: st) (sx pl kp I A) P := rx_get (h := "") (ci := 9) (k := 6) dq_Road_villages_5 (by decide +kernel) ho (up_b (by decide)) rfl rfl (fl_r (by decide) (by decide) (by decide) (by decide))
theorem dq_Road_villages_8 : decode (km_c mm_Road_villages) 8 = .ok (.invokevirtual 137, 3) := by decide +kernel
theorem sq_Road_villages_8_24 {z1 : Nat} {v : Option Value} {S2 : ks_S} (hc : ev (lt_G o L) mm_Tape_readVillages [.ref 24, .ref z1] (sx pl kp I A) v S2) (ho : sx_o o pl kp) (hst : kx_cat st ≤ 8) : rn (lt_G o L) mm_Road_villages 8 lv (.ref z1 :: .ref 24 :: st) (sx pl kp I A) P ↔ rn (lt_G o L) mm_Road_villages 11 lv (v.toList ++ st) S2 P := rn_cv (k := 0) (host := "") (E' := mm_Tape_readVillages) dq_Road_villages_8 rfl (ok_v rfl (by decide) (by decide) (Nat.le_add_left _ _) hst (Nat.le_of_ble_eq_true rfl) (Or.inr (rc_v ho (up_b (by decide)) rfl))) rfl rfl hc
theorem dq_Road_villages_11 : decode (km_c mm_Road_villages) 11 = .ok (.istore_n 1, 1) := by decide +kernel
theorem sq_Road_villages_11n : rn G mm_Road_villages 11 [none, a1] (.int x :: st) S P ↔ rn G mm_Road_villages 12 [none, some (.int x)] st S P := rn_s dq_Road_villages_11 rfl rfl rfl
theorem sq_Road_villages_11i : rn G mm_Road_villages 11 [some (.int x2), a1] (.int x :: st) S P ↔ rn G mm_Road_villages 12 [some (.int x2), some (.int x)] st S P := rn_s dq_Road_villages_11 rfl rfl rfl
theorem sq_Road_villages_11r : rn G mm_Road_villages 11 [some (.ref z2), a1] (.int x :: st) S P ↔ rn G mm_Road_villages 12 [some (.ref z2), some (.int x)] st S P := rn_s dq_Road_villages_11 rfl rfl rfl
theorem dq_Road_villages_12 : decode (km_c mm_Road_villages) 12 = .ok (.aload_n 0, 1) := by decide +kernel
theorem sq_Road_villages_12 : rn G mm_Road_villages 12 [some (.ref z), a1] st S P ↔ rn G mm_Road_villages 13 [some (.ref z), a1] (.ref z :: st) S P := rn_s dq_Road_villages_12 rfl rfl rfl
theorem dq_Road_villages_13 : decode (km_c mm_Road_villages) 13 = .ok (.getfield 29, 3) := by decide +kernel
theorem sq_Road_villages_13_0 (ho : sx_o o pl kp) : rn (lt_G o L) mm_Road_villages 13 lv (.ref 0 :: st) (sx pl kp I A) P ↔ rn (lt_G o L) mm_Road_villages 16 lv (.ref 24 :: st) (sx pl kp I A) P := rx_get (h := "") (ci := 9) (k := 3) dq_Road_villages_13 (by decide +kernel) ho (up_b (by decide)) rfl rfl (fl_r (by decide) (by decide) (by decide) (by decide))
theorem dq_Road_villages_16 : decode (km_c mm_Road_villages) 16 = .ok (.invokevirtual 134, 3) := by decide +kernel
theorem sq_Road_villages_16_24  {v : Option Value} {S2 : ks_S} (hc : ev (lt_G o L) mm_Tape_clear [.ref 24] (sx pl kp I A) v S2) (ho : sx_o o pl kp) (hst : kx_cat st ≤ 8) : rn (lt_G o L) mm_Road_villages 16 lv (.ref 24 :: st) (sx pl kp I A) P ↔ rn (lt_G o L) mm_Road_villages 19 lv (v.toList ++ st) S2 P := rn_cv (k := 0) (host := "") (E' := mm_Tape_clear) dq_Road_villages_16 rfl (ok_v rfl (by decide) (by decide) (Nat.le_add_left _ _) hst (Nat.le_of_ble_eq_true rfl) (Or.inr (rc_v ho (up_b (by decide)) rfl))) rfl rfl hc
theorem dq_Road_villages_19 : decode (km_c mm_Road_villages) 19 = .ok (.iload_n 1, 1) := by decide +kernel
theorem sq_Road_villages_19 : rn G mm_Road_villages 19 [a0, some (.int x)] st S P ↔ rn G mm_Road_villages 20 [a0, some (.int x)] (.int x :: st) S P := rn_s dq_Road_villages_19 rfl rfl rfl
theorem dq_Road_villages_20 : decode (km_c mm_Road_villages) 20 = .ok (.ifCond .le 21, 3) := by decide +kernel
theorem sq_Road_villages_20 : rn G mm_Road_villages 20 lv (.int x :: st) S P ↔ ((x ≤ 0 → rn G mm_Road_villages 41 lv st S P) ∧ (¬ (x ≤ 0) → rn G mm_Road_villages 23 lv st S P)) := rn_b (off := 21) dq_Road_villages_20 rfl rfl rfl rfl
theorem dq_Road_villages_23 : decode (km_c mm_Road_villages) 23 = .ok (.aload_n 0, 1) := by decide +kernel
theorem sq_Road_villages_23 : rn G mm_Road_villages 23 [some (.ref z), a1] st S P ↔ rn G mm_Road_villages 24 [some (.ref z), a1] (.ref z :: st) S P := rn_s dq_Road_villages_23 rfl rfl rfl
theorem dq_Road_villages_24 : decode (km_c mm_Road_villages) 24 = .ok (.getfield 10, 3) := by decide +kernel
theorem sq_Road_villages_24_0 (ho : sx_o o pl kp) : rn (lt_G o L) mm_Road_villages 24 lv (.ref 0 :: st) (sx pl kp I A) P ↔ rn (lt_G o L) mm_Road_villages 27 lv (.ref 1 :: st) (sx pl kp I A) P := rx_get (h := "") (ci := 9) (k := 0) dq_Road_villages_24 (by decide +kernel) ho (up_b (by decide)) rfl rfl (fl_r (by decide) (by decide) (by decide) (by decide))
theorem dq_Road_villages_27 : decode (km_c mm_Road_villages) 27 = .ok (.getfield 141, 3) := by decide +kernel
theorem sq_Road_villages_27_1 (ho : sx_o o pl kp) : rn (lt_G o L) mm_Road_villages 27 lv (.ref 1 :: st) (sx pl kp I A) P ↔ rn (lt_G o L) mm_Road_villages 30 lv (.ref 9 :: st) (sx pl kp I A) P := rx_get (h := "DeltaRoad") (ci := 8) (k := 1) dq_Road_villages_27 (by decide +kernel) ho (up_b (by decide)) rfl rfl (fl_r (by decide) (by decide) (by decide) (by decide))
theorem sq_Road_villages_27_136 (ho : sx_o o pl true) : rn (lt_G o L) mm_Road_villages 27 lv (.ref 136 :: st) (sx pl true I A) P ↔ rn (lt_G o L) mm_Road_villages 30 lv (.ref 144 :: st) (sx pl true I A) P := rx_get (h := "DeltaRoad") (ci := 8) (k := 1) dq_Road_villages_27 (by decide +kernel) ho (up_k (by decide) (by decide)) rfl rfl (fl_k (by decide) (by decide))
theorem dq_Road_villages_30 : decode (km_c mm_Road_villages) 30 = .ok (.aload_n 0, 1) := by decide +kernel
theorem sq_Road_villages_30 : rn G mm_Road_villages 30 [some (.ref z), a1] st S P ↔ rn G mm_Road_villages 31 [some (.ref z), a1] (.ref z :: st) S P := rn_s dq_Road_villages_30 rfl rfl rfl
theorem dq_Road_villages_31 : decode (km_c mm_Road_villages) 31 = .ok (.getfield 50, 3) := by decide +kernel
theorem sq_Road_villages_31_0 (ho : sx_o o pl kp) : rn (lt_G o L) mm_Road_villages 31 lv (.ref 0 :: st) (sx pl kp I A) P ↔ rn (lt_G o L) mm_Road_villages 34 lv (.ref 42 :: st) (sx pl kp I A) P := rx_get (h := "") (ci := 9) (k := 6) dq_Road_villages_31 (by decide +kernel) ho (up_b (by decide)) rfl rfl (fl_r (by decide) (by decide) (by decide) (by decide))
theorem dq_Road_villages_34 : decode (km_c mm_Road_villages) 34 = .ok (.invokevirtual 144, 3) := by decide +kernel
theorem sq_Road_villages_34_9 {z1 : Nat} {v : Option Value} {S2 : ks_S} (hc : ev (lt_G o L) mm_Villages_copy [.ref 9, .ref z1] (sx pl kp I A) v S2) (ho : sx_o o pl kp) (hst : kx_cat st ≤ 8) : rn (lt_G o L) mm_Road_villages 34 lv (.ref z1 :: .ref 9 :: st) (sx pl kp I A) P ↔ rn (lt_G o L) mm_Road_villages 37 lv (v.toList ++ st) S2 P := rn_cv (k := 0) (host := "") (E' := mm_Villages_copy) dq_Road_villages_34 rfl (ok_v rfl (by decide) (by decide) (Nat.le_add_left _ _) hst (Nat.le_of_ble_eq_true rfl) (Or.inr (rc_v ho (up_b (by decide)) rfl))) rfl rfl hc
theorem sq_Road_villages_34_42 {z1 : Nat} {v : Option Value} {S2 : ks_S} (hc : ev (lt_G o L) mm_Villages_copy [.ref 42, .ref z1] (sx pl kp I A) v S2) (ho : sx_o o pl kp) (hst : kx_cat st ≤ 8) : rn (lt_G o L) mm_Road_villages 34 lv (.ref z1 :: .ref 42 :: st) (sx pl kp I A) P ↔ rn (lt_G o L) mm_Road_villages 37 lv (v.toList ++ st) S2 P := rn_cv (k := 0) (host := "") (E' := mm_Villages_copy) dq_Road_villages_34 rfl (ok_v rfl (by decide) (by decide) (Nat.le_add_left _ _) hst (Nat.le_of_ble_eq_true rfl) (Or.inr (rc_v ho (up_b (by decide)) rfl))) rfl rfl hc
theorem sq_Road_villages_34_144 {z1 : Nat} {v : Option Value} {S2 : ks_S} (hc : ev (lt_G o L) mm_Villages_copy [.ref 144, .ref z1] (sx pl true I A) v S2) (ho : sx_o o pl true) (hst : kx_cat st ≤ 8) : rn (lt_G o L) mm_Road_villages 34 lv (.ref z1 :: .ref 144 :: st) (sx pl true I A) P ↔ rn (lt_G o L) mm_Road_villages 37 lv (v.toList ++ st) S2 P := rn_cv (k := 0) (host := "") (E' := mm_Villages_copy) dq_Road_villages_34 rfl (ok_v rfl (by decide) (by decide) (Nat.le_add_left _ _) hst (Nat.le_of_ble_eq_true rfl) (Or.inr (rc_v ho (up_k (by decide) (by decide)) rfl))) rfl rfl hc
theorem dq_Road_villages_37 : decode (km_c mm_Road_villages) 37 = .ok (.aload_n 0, 1) := by decide +kernel
theorem sq_Road_villages_37 : rn G mm_Road_villages 37 [some (.ref z), a1] st S P ↔ rn G mm_Road_villages 38 [some (.ref z), a1] (.ref z :: st) S P := rn_s dq_Road_villages_37 rfl rfl rfl
theorem dq_Road_villages_38 : decode (km_c mm_Road_villages) 38 = .ok (.invokevirtual 87, 3) := by decide +kernel
theorem sq_Road_villages_38_0  {v : Option Value} {S2 : ks_S} (hc : ev (lt_G o L) mm_Road_forget [.ref 0] (sx pl kp I A) v S2) (ho : sx_o o pl kp) (hst : kx_cat st ≤ 8) : rn (lt_G o L) mm_Road_villages 38 lv (.ref 0 :: st) (sx pl kp I A) P ↔ rn (lt_G o L) mm_Road_villages 41 lv (v.toList ++ st) S2 P := rn_cv (k := 0) (host := "") (E' := mm_Road_forget) dq_Road_villages_38 rfl (ok_v rfl (by decide) (by decide) (Nat.le_add_left _ _) hst (Nat.le_of_ble_eq_true rfl) (Or.inr (rc_v ho (up_b (by decide)) rfl))) rfl rfl hc
theorem dq_Road_villages_41 : decode (km_c mm_Road_villages) 41 = .ok (.iload_n 1, 1) := by decide +kernel
theorem sq_Road_villages_41 : rn G mm_Road_villages 41 [a0, some (.int x)] st S P ↔ rn G mm_Road_villages 42 [a0, some (.int x)] (.int x :: st) S P := rn_s dq_Road_villages_41 rfl rfl rfl
theorem dq_Road_villages_42 : decode (km_c mm_Road_villages) 42 = .ok (.ireturn, 1) := by decide +kernel
theorem sq_Road_villages_42 : rn G mm_Road_villages 42 lv [.int x] S P ↔ P (some (.int x)) S := rn_ir dq_Road_villages_42 rfl
theorem dq_Road_count_0 : decode (km_c mm_Road_count) 0 = .ok (.iload_n 1, 1) := by decide +kernel
theorem sq_Road_count_0 : rn G mm_Road_count 0 [a0, some (.int x)] st S P ↔ rn G mm_Road_count 1 [a0, some (.int x)] (.int x :: st) S P := rn_s dq_Road_count_0 rfl rfl rfl
theorem dq_Road_count_1 : decode (km_c mm_Road_count) 1 = .ok (.tableswitch 119 0 6 #[43, 54, 65, 73, 85, 97, 108], 43) := by decide +kernel
theorem dq_Road_count_44 : decode (km_c mm_Road_count) 44 = .ok (.aload_n 0, 1) := by decide +kernel
theorem sq_Road_count_44 : rn G mm_Road_count 44 [some (.ref z), a1] st S P ↔ rn G mm_Road_count 45 [some (.ref z), a1] (.ref z :: st) S P := rn_s dq_Road_count_44 rfl rfl rfl
theorem dq_Road_count_45 : decode (km_c mm_Road_count) 45 = .ok (.getfield 10, 3) := by decide +kernel
theorem sq_Road_count_45_0 (ho : sx_o o pl kp) : rn (lt_G o L) mm_Road_count 45 lv (.ref 0 :: st) (sx pl kp I A) P ↔ rn (lt_G o L) mm_Road_count 48 lv (.ref 1 :: st) (sx pl kp I A) P := rx_get (h := "") (ci := 9) (k := 0) dq_Road_count_45 (by decide +kernel) ho (up_b (by decide)) rfl rfl (fl_r (by decide) (by decide) (by decide) (by decide))
theorem dq_Road_count_48 : decode (km_c mm_Road_count) 48 = .ok (.getfield 141, 3) := by decide +kernel
theorem sq_Road_count_48_1 (ho : sx_o o pl kp) : rn (lt_G o L) mm_Road_count 48 lv (.ref 1 :: st) (sx pl kp I A) P ↔ rn (lt_G o L) mm_Road_count 51 lv (.ref 9 :: st) (sx pl kp I A) P := rx_get (h := "DeltaRoad") (ci := 8) (k := 1) dq_Road_count_48 (by decide +kernel) ho (up_b (by decide)) rfl rfl (fl_r (by decide) (by decide) (by decide) (by decide))
theorem sq_Road_count_48_136 (ho : sx_o o pl true) : rn (lt_G o L) mm_Road_count 48 lv (.ref 136 :: st) (sx pl true I A) P ↔ rn (lt_G o L) mm_Road_count 51 lv (.ref 144 :: st) (sx pl true I A) P := rx_get (h := "DeltaRoad") (ci := 8) (k := 1) dq_Road_count_48 (by decide +kernel) ho (up_k (by decide) (by decide)) rfl rfl (fl_k (by decide) (by decide))
theorem dq_Road_count_51 : decode (km_c mm_Road_count) 51 = .ok (.getfield 147, 3) := by decide +kernel
theorem sq_Road_count_51_9 (ho : sx_o o pl kp) : rn (lt_G o L) mm_Road_count 51 lv (.ref 9 :: st) (sx pl kp I A) P ↔ rn (lt_G o L) mm_Road_count 54 lv (.int (I 9 2) :: st) (sx pl kp I A) P := rx_get (h := "DeltaRoad") (ci := 5) (k := 2) dq_Road_count_51 (by decide +kernel) ho (up_b (by decide)) rfl rfl (fl_i (by decide))
theorem sq_Road_count_51_42 (ho : sx_o o pl kp) : rn (lt_G o L) mm_Road_count 51 lv (.ref 42 :: st) (sx pl kp I A) P ↔ rn (lt_G o L) mm_Road_count 54 lv (.int (I 42 2) :: st) (sx pl kp I A) P := rx_get (h := "DeltaRoad") (ci := 5) (k := 2) dq_Road_count_51 (by decide +kernel) ho (up_b (by decide)) rfl rfl (fl_i (by decide))
theorem sq_Road_count_51_144 (ho : sx_o o pl true) : rn (lt_G o L) mm_Road_count 51 lv (.ref 144 :: st) (sx pl true I A) P ↔ rn (lt_G o L) mm_Road_count 54 lv (.int (I 144 2) :: st) (sx pl true I A) P := rx_get (h := "DeltaRoad") (ci := 5) (k := 2) dq_Road_count_51 (by decide +kernel) ho (up_k (by decide) (by decide)) rfl rfl (fl_i (by decide))
theorem dq_Road_count_54 : decode (km_c mm_Road_count) 54 = .ok (.ireturn, 1) := by decide +kernel
theorem sq_Road_count_54 : rn G mm_Road_count 54 lv [.int x] S P ↔ P (some (.int x)) S := rn_ir dq_Road_count_54 rfl
theorem dq_Road_count_55 : decode (km_c mm_Road_count) 55 = .ok (.aload_n 0, 1) := by decide +kernel
theorem sq_Road_count_55 : rn G mm_Road_count 55 [some (.ref z), a1] st S P ↔ rn G mm_Road_count 56 [some (.ref z), a1] (.ref z :: st) S P := rn_s dq_Road_count_55 rfl rfl rfl
theorem dq_Road_count_56 : decode (km_c mm_Road_count) 56 = .ok (.getfield 10, 3) := by decide +kernel
theorem sq_Road_count_56_0 (ho : sx_o o pl kp) : rn (lt_G o L) mm_Road_count 56 lv (.ref 0 :: st) (sx pl kp I A) P ↔ rn (lt_G o L) mm_Road_count 59 lv (.ref 1 :: st) (sx pl kp I A) P := rx_get (h := "") (ci := 9) (k := 0) dq_Road_count_56 (by decide +kernel) ho (up_b (by decide)) rfl rfl (fl_r (by decide) (by decide) (by decide) (by decide))
theorem dq_Road_count_59 : decode (km_c mm_Road_count) 59 = .ok (.getfield 150, 3) := by decide +kernel
theorem sq_Road_count_59_1 (ho : sx_o o pl kp) : rn (lt_G o L) mm_Road_count 59 lv (.ref 1 :: st) (sx pl kp I A) P ↔ rn (lt_G o L) mm_Road_count 62 lv (.ref 12 :: st) (sx pl kp I A) P := rx_get (h := "DeltaRoad") (ci := 8) (k := 2) dq_Road_count_59 (by decide +kernel) ho (up_b (by decide)) rfl rfl (fl_r (by decide) (by decide) (by decide) (by decide))
theorem sq_Road_count_59_136 (ho : sx_o o pl true) : rn (lt_G o L) mm_Road_count 59 lv (.ref 136 :: st) (sx pl true I A) P ↔ rn (lt_G o L) mm_Road_count 62 lv (.ref 147 :: st) (sx pl true I A) P := rx_get (h := "DeltaRoad") (ci := 8) (k := 2) dq_Road_count_59 (by decide +kernel) ho (up_k (by decide) (by decide)) rfl rfl (fl_k (by decide) (by decide))
theorem dq_Road_count_62 : decode (km_c mm_Road_count) 62 = .ok (.getfield 154, 3) := by decide +kernel
theorem sq_Road_count_62_12 (ho : sx_o o pl kp) : rn (lt_G o L) mm_Road_count 62 lv (.ref 12 :: st) (sx pl kp I A) P ↔ rn (lt_G o L) mm_Road_count 65 lv (.int (I 12 1) :: st) (sx pl kp I A) P := rx_get (h := "DeltaRoad") (ci := 1) (k := 1) dq_Road_count_62 (by decide +kernel) ho (up_b (by decide)) rfl rfl (fl_i (by decide))
theorem sq_Road_count_62_147 (ho : sx_o o pl true) : rn (lt_G o L) mm_Road_count 62 lv (.ref 147 :: st) (sx pl true I A) P ↔ rn (lt_G o L) mm_Road_count 65 lv (.int (I 147 1) :: st) (sx pl true I A) P := rx_get (h := "DeltaRoad") (ci := 1) (k := 1) dq_Road_count_62 (by decide +kernel) ho (up_k (by decide) (by decide)) rfl rfl (fl_i (by decide))
theorem dq_Road_count_65 : decode (km_c mm_Road_count) 65 = .ok (.ireturn, 1) := by decide +kernel
theorem sq_Road_count_65 : rn G mm_Road_count 65 lv [.int x] S P ↔ P (some (.int x)) S := rn_ir dq_Road_count_65 rfl
theorem dq_Road_count_66 : decode (km_c mm_Road_count) 66 = .ok (.aload_n 0, 1) := by decide +kernel
theorem sq_Road_count_66 : rn G mm_Road_count 66 [some (.ref z), a1] st S P ↔ rn G mm_Road_count 67 [some (.ref z), a1] (.ref z :: st) S P := rn_s dq_Road_count_66 rfl rfl rfl
theorem dq_Road_count_67 : decode (km_c mm_Road_count) 67 = .ok (.invokevirtual 90, 3) := by decide +kernel
theorem sq_Road_count_67_0  {v : Option Value} {S2 : ks_S} (hc : ev (lt_G o L) mm_Road_waterNow [.ref 0] (sx pl kp I A) v S2) (ho : sx_o o pl kp) (hst : kx_cat st ≤ 8) : rn (lt_G o L) mm_Road_count 67 lv (.ref 0 :: st) (sx pl kp I A) P ↔ rn (lt_G o L) mm_Road_count 70 lv (v.toList ++ st) S2 P := rn_cv (k := 0) (host := "") (E' := mm_Road_waterNow) dq_Road_count_67 rfl (ok_v rfl (by decide) (by decide) (Nat.le_add_left _ _) hst (Nat.le_of_ble_eq_true rfl) (Or.inr (rc_v ho (up_b (by decide)) rfl))) rfl rfl hc
theorem dq_Road_count_70 : decode (km_c mm_Road_count) 70 = .ok (.invokevirtual 108, 3) := by decide +kernel
theorem sq_Road_count_70_16  {v : Option Value} {S2 : ks_S} (hc : ev (lt_G o L) mm_Water_wetCells [.ref 16] (sx pl kp I A) v S2) (ho : sx_o o pl kp) (hst : kx_cat st ≤ 8) : rn (lt_G o L) mm_Road_count 70 lv (.ref 16 :: st) (sx pl kp I A) P ↔ rn (lt_G o L) mm_Road_count 73 lv (v.toList ++ st) S2 P := rn_cv (k := 0) (host := "") (E' := mm_Water_wetCells) dq_Road_count_70 rfl (ok_v rfl (by decide) (by decide) (Nat.le_add_left _ _) hst (Nat.le_of_ble_eq_true rfl) (Or.inr (rc_v ho (up_b (by decide)) rfl))) rfl rfl hc
theorem sq_Road_count_70_20  {v : Option Value} {S2 : ks_S} (hc : ev (lt_G o L) mm_Water_wetCells [.ref 20] (sx pl kp I A) v S2) (ho : sx_o o pl kp) (hst : kx_cat st ≤ 8) : rn (lt_G o L) mm_Road_count 70 lv (.ref 20 :: st) (sx pl kp I A) P ↔ rn (lt_G o L) mm_Road_count 73 lv (v.toList ++ st) S2 P := rn_cv (k := 0) (host := "") (E' := mm_Water_wetCells) dq_Road_count_70 rfl (ok_v rfl (by decide) (by decide) (Nat.le_add_left _ _) hst (Nat.le_of_ble_eq_true rfl) (Or.inr (rc_v ho (up_b (by decide)) rfl))) rfl rfl hc
theorem dq_Road_count_73 : decode (km_c mm_Road_count) 73 = .ok (.ireturn, 1) := by decide +kernel
theorem sq_Road_count_73 : rn G mm_Road_count 73 lv [.int x] S P ↔ P (some (.int x)) S := rn_ir dq_Road_count_73 rfl
theorem dq_Road_count_74 : decode (km_c mm_Road_count) 74 = .ok (.aload_n 0, 1) := by decide +kernel
theorem sq_Road_count_74 : rn G mm_Road_count 74 [some (.ref z), a1] st S P ↔ rn G mm_Road_count 75 [some (.ref z), a1] (.ref z :: st) S P := rn_s dq_Road_count_74 rfl rfl rfl
theorem dq_Road_count_75 : decode (km_c mm_Road_count) 75 = .ok (.getfield 10, 3) := by decide +kernel
theorem sq_Road_count_75_0 (ho : sx_o o pl kp) : rn (lt_G o L) mm_Road_count 75 lv (.ref 0 :: st) (sx pl kp I A) P ↔ rn (lt_G o L) mm_Road_count 78 lv (.ref 1 :: st) (sx pl kp I A) P := rx_get (h := "") (ci := 9) (k := 0) dq_Road_count_75 (by decide +kernel) ho (up_b (by decide)) rfl rfl (fl_r (by decide) (by decide) (by decide) (by decide))
theorem dq_Road_count_78 : decode (km_c mm_Road_count) 78 = .ok (.getfield 80, 3) := by decide +kernel
theorem sq_Road_count_78_1 (ho : sx_o o pl kp) : rn (lt_G o L) mm_Road_count 78 lv (.ref 1 :: st) (sx pl kp I A) P ↔ rn (lt_G o L) mm_Road_count 81 lv (.ref 2 :: st) (sx pl kp I A) P := rx_get (h := "DeltaRoad") (ci := 8) (k := 0) dq_Road_count_78 (by decide +kernel) ho (up_b (by decide)) rfl rfl (fl_r (by decide) (by decide) (by decide) (by decide))
theorem sq_Road_count_78_136 (ho : sx_o o pl true) : rn (lt_G o L) mm_Road_count 78 lv (.ref 136 :: st) (sx pl true I A) P ↔ rn (lt_G o L) mm_Road_count 81 lv (.ref 137 :: st) (sx pl true I A) P := rx_get (h := "DeltaRoad") (ci := 8) (k := 0) dq_Road_count_78 (by decide +kernel) ho (up_k (by decide) (by decide)) rfl rfl (fl_k (by decide) (by decide))
theorem dq_Road_count_81 : decode (km_c mm_Road_count) 81 = .ok (.iconst 1, 1) := by decide +kernel
theorem sq_Road_count_81 : rn G mm_Road_count 81 lv st S P ↔ rn G mm_Road_count 82 lv (.int (nI 1) :: st) S P := rn_s dq_Road_count_81 rfl rfl rfl
theorem dq_Road_count_82 : decode (km_c mm_Road_count) 82 = .ok (.invokevirtual 157, 3) := by decide +kernel
theorem sq_Road_count_82_2 {x1 : Int32} {v : Option Value} {S2 : ks_S} (hc : ev (lt_G o L) mm_Ground_total [.ref 2, .int x1] (sx pl kp I A) v S2) (ho : sx_o o pl kp) (hst : kx_cat st ≤ 8) : rn (lt_G o L) mm_Road_count 82 lv (.int x1 :: .ref 2 :: st) (sx pl kp I A) P ↔ rn (lt_G o L) mm_Road_count 85 lv (v.toList ++ st) S2 P := rn_cv (k := 0) (host := "") (E' := mm_Ground_total) dq_Road_count_82 rfl (ok_v rfl (by decide) (by decide) (Nat.le_add_left _ _) hst (Nat.le_of_ble_eq_true rfl) (Or.inr (rc_v ho (up_b (by decide)) rfl))) rfl rfl hc
theorem sq_Road_count_82_35 {x1 : Int32} {v : Option Value} {S2 : ks_S} (hc : ev (lt_G o L) mm_Ground_total [.ref 35, .int x1] (sx pl kp I A) v S2) (ho : sx_o o pl kp) (hst : kx_cat st ≤ 8) : rn (lt_G o L) mm_Road_count 82 lv (.int x1 :: .ref 35 :: st) (sx pl kp I A) P ↔ rn (lt_G o L) mm_Road_count 85 lv (v.toList ++ st) S2 P := rn_cv (k := 0) (host := "") (E' := mm_Ground_total) dq_Road_count_82 rfl (ok_v rfl (by decide) (by decide) (Nat.le_add_left _ _) hst (Nat.le_of_ble_eq_true rfl) (Or.inr (rc_v ho (up_b (by decide)) rfl))) rfl rfl hc
theorem sq_Road_count_82_137 {x1 : Int32} {v : Option Value} {S2 : ks_S} (hc : ev (lt_G o L) mm_Ground_total [.ref 137, .int x1] (sx pl true I A) v S2) (ho : sx_o o pl true) (hst : kx_cat st ≤ 8) : rn (lt_G o L) mm_Road_count 82 lv (.int x1 :: .ref 137 :: st) (sx pl true I A) P ↔ rn (lt_G o L) mm_Road_count 85 lv (v.toList ++ st) S2 P := rn_cv (k := 0) (host := "") (E' := mm_Ground_total) dq_Road_count_82 rfl (ok_v rfl (by decide) (by decide) (Nat.le_add_left _ _) hst (Nat.le_of_ble_eq_true rfl) (Or.inr (rc_v ho (up_k (by decide) (by decide)) rfl))) rfl rfl hc
theorem dq_Road_count_85 : decode (km_c mm_Road_count) 85 = .ok (.ireturn, 1) := by decide +kernel
theorem sq_Road_count_85 : rn G mm_Road_count 85 lv [.int x] S P ↔ P (some (.int x)) S := rn_ir dq_Road_count_85 rfl
theorem dq_Road_count_86 : decode (km_c mm_Road_count) 86 = .ok (.aload_n 0, 1) := by decide +kernel
theorem sq_Road_count_86 : rn G mm_Road_count 86 [some (.ref z), a1] st S P ↔ rn G mm_Road_count 87 [some (.ref z), a1] (.ref z :: st) S P := rn_s dq_Road_count_86 rfl rfl rfl
theorem dq_Road_count_87 : decode (km_c mm_Road_count) 87 = .ok (.getfield 10, 3) := by decide +kernel
theorem sq_Road_count_87_0 (ho : sx_o o pl kp) : rn (lt_G o L) mm_Road_count 87 lv (.ref 0 :: st) (sx pl kp I A) P ↔ rn (lt_G o L) mm_Road_count 90 lv (.ref 1 :: st) (sx pl kp I A) P := rx_get (h := "") (ci := 9) (k := 0) dq_Road_count_87 (by decide +kernel) ho (up_b (by decide)) rfl rfl (fl_r (by decide) (by decide) (by decide) (by decide))
theorem dq_Road_count_90 : decode (km_c mm_Road_count) 90 = .ok (.getfield 80, 3) := by decide +kernel
theorem sq_Road_count_90_1 (ho : sx_o o pl kp) : rn (lt_G o L) mm_Road_count 90 lv (.ref 1 :: st) (sx pl kp I A) P ↔ rn (lt_G o L) mm_Road_count 93 lv (.ref 2 :: st) (sx pl kp I A) P := rx_get (h := "DeltaRoad") (ci := 8) (k := 0) dq_Road_count_90 (by decide +kernel) ho (up_b (by decide)) rfl rfl (fl_r (by decide) (by decide) (by decide) (by decide))
theorem sq_Road_count_90_136 (ho : sx_o o pl true) : rn (lt_G o L) mm_Road_count 90 lv (.ref 136 :: st) (sx pl true I A) P ↔ rn (lt_G o L) mm_Road_count 93 lv (.ref 137 :: st) (sx pl true I A) P := rx_get (h := "DeltaRoad") (ci := 8) (k := 0) dq_Road_count_90 (by decide +kernel) ho (up_k (by decide) (by decide)) rfl rfl (fl_k (by decide) (by decide))
theorem dq_Road_count_93 : decode (km_c mm_Road_count) 93 = .ok (.iconst 3, 1) := by decide +kernel
theorem sq_Road_count_93 : rn G mm_Road_count 93 lv st S P ↔ rn G mm_Road_count 94 lv (.int (nI 3) :: st) S P := rn_s dq_Road_count_93 rfl rfl rfl
theorem dq_Road_count_94 : decode (km_c mm_Road_count) 94 = .ok (.invokevirtual 157, 3) := by decide +kernel
theorem sq_Road_count_94_2 {x1 : Int32} {v : Option Value} {S2 : ks_S} (hc : ev (lt_G o L) mm_Ground_total [.ref 2, .int x1] (sx pl kp I A) v S2) (ho : sx_o o pl kp) (hst : kx_cat st ≤ 8) : rn (lt_G o L) mm_Road_count 94 lv (.int x1 :: .ref 2 :: st) (sx pl kp I A) P ↔ rn (lt_G o L) mm_Road_count 97 lv (v.toList ++ st) S2 P := rn_cv (k := 0) (host := "") (E' := mm_Ground_total) dq_Road_count_94 rfl (ok_v rfl (by decide) (by decide) (Nat.le_add_left _ _) hst (Nat.le_of_ble_eq_true rfl) (Or.inr (rc_v ho (up_b (by decide)) rfl))) rfl rfl hc
theorem sq_Road_count_94_35 {x1 : Int32} {v : Option Value} {S2 : ks_S} (hc : ev (lt_G o L) mm_Ground_total [.ref 35, .int x1] (sx pl kp I A) v S2) (ho : sx_o o pl kp) (hst : kx_cat st ≤ 8) : rn (lt_G o L) mm_Road_count 94 lv (.int x1 :: .ref 35 :: st) (sx pl kp I A) P ↔ rn (lt_G o L) mm_Road_count 97 lv (v.toList ++ st) S2 P := rn_cv (k := 0) (host := "") (E' := mm_Ground_total) dq_Road_count_94 rfl (ok_v rfl (by decide) (by decide) (Nat.le_add_left _ _) hst (Nat.le_of_ble_eq_true rfl) (Or.inr (rc_v ho (up_b (by decide)) rfl))) rfl rfl hc
theorem sq_Road_count_94_137 {x1 : Int32} {v : Option Value} {S2 : ks_S} (hc : ev (lt_G o L) mm_Ground_total [.ref 137, .int x1] (sx pl true I A) v S2) (ho : sx_o o pl true) (hst : kx_cat st ≤ 8) : rn (lt_G o L) mm_Road_count 94 lv (.int x1 :: .ref 137 :: st) (sx pl true I A) P ↔ rn (lt_G o L) mm_Road_count 97 lv (v.toList ++ st) S2 P := rn_cv (k := 0) (host := "") (E' := mm_Ground_total) dq_Road_count_94 rfl (ok_v rfl (by decide) (by decide) (Nat.le_add_left _ _) hst (Nat.le_of_ble_eq_true rfl) (Or.inr (rc_v ho (up_k (by decide) (by decide)) rfl))) rfl rfl hc
theorem dq_Road_count_97 : decode (km_c mm_Road_count) 97 = .ok (.ireturn, 1) := by decide +kernel
theorem sq_Road_count_97 : rn G mm_Road_count 97 lv [.int x] S P ↔ P (some (.int x)) S := rn_ir dq_Road_count_97 rfl
theorem dq_Road_count_98 : decode (km_c mm_Road_count) 98 = .ok (.aload_n 0, 1) := by decide +kernel
theorem sq_Road_count_98 : rn G mm_Road_count 98 [some (.ref z), a1] st S P ↔ rn G mm_Road_count 99 [some (.ref z), a1] (.ref z :: st) S P := rn_s dq_Road_count_98 rfl rfl rfl
theorem dq_Road_count_99 : decode (km_c mm_Road_count) 99 = .ok (.getfield 10, 3) := by decide +kernel
theorem sq_Road_count_99_0 (ho : sx_o o pl kp) : rn (lt_G o L) mm_Road_count 99 lv (.ref 0 :: st) (sx pl kp I A) P ↔ rn (lt_G o L) mm_Road_count 102 lv (.ref 1 :: st) (sx pl kp I A) P := rx_get (h := "") (ci := 9) (k := 0) dq_Road_count_99 (by decide +kernel) ho (up_b (by decide)) rfl rfl (fl_r (by decide) (by decide) (by decide) (by decide))
theorem dq_Road_count_102 : decode (km_c mm_Road_count) 102 = .ok (.getfield 160, 3) := by decide +kernel
theorem sq_Road_count_102_1 (ho : sx_o o pl kp) : rn (lt_G o L) mm_Road_count 102 lv (.ref 1 :: st) (sx pl kp I A) P ↔ rn (lt_G o L) mm_Road_count 105 lv (.ref 14 :: st) (sx pl kp I A) P := rx_get (h := "DeltaRoad") (ci := 8) (k := 3) dq_Road_count_102 (by decide +kernel) ho (up_b (by decide)) rfl rfl (fl_r (by decide) (by decide) (by decide) (by decide))
theorem sq_Road_count_102_136 (ho : sx_o o pl true) : rn (lt_G o L) mm_Road_count 102 lv (.ref 136 :: st) (sx pl true I A) P ↔ rn (lt_G o L) mm_Road_count 105 lv (.ref 149 :: st) (sx pl true I A) P := rx_get (h := "DeltaRoad") (ci := 8) (k := 3) dq_Road_count_102 (by decide +kernel) ho (up_k (by decide) (by decide)) rfl rfl (fl_k (by decide) (by decide))
theorem dq_Road_count_105 : decode (km_c mm_Road_count) 105 = .ok (.invokevirtual 164, 3) := by decide +kernel
theorem sq_Road_count_105_14  {v : Option Value} {S2 : ks_S} (hc : ev (lt_G o L) mm_Weather_total [.ref 14] (sx pl kp I A) v S2) (ho : sx_o o pl kp) (hst : kx_cat st ≤ 8) : rn (lt_G o L) mm_Road_count 105 lv (.ref 14 :: st) (sx pl kp I A) P ↔ rn (lt_G o L) mm_Road_count 108 lv (v.toList ++ st) S2 P := rn_cv (k := 0) (host := "") (E' := mm_Weather_total) dq_Road_count_105 rfl (ok_v rfl (by decide) (by decide) (Nat.le_add_left _ _) hst (Nat.le_of_ble_eq_true rfl) (Or.inr (rc_v ho (up_b (by decide)) rfl))) rfl rfl hc
theorem sq_Road_count_105_149  {v : Option Value} {S2 : ks_S} (hc : ev (lt_G o L) mm_Weather_total [.ref 149] (sx pl true I A) v S2) (ho : sx_o o pl true) (hst : kx_cat st ≤ 8) : rn (lt_G o L) mm_Road_count 105 lv (.ref 149 :: st) (sx pl true I A) P ↔ rn (lt_G o L) mm_Road_count 108 lv (v.toList ++ st) S2 P := rn_cv (k := 0) (host := "") (E' := mm_Weather_total) dq_Road_count_105 rfl (ok_v rfl (by decide) (by decide) (Nat.le_add_left _ _) hst (Nat.le_of_ble_eq_true rfl) (Or.inr (rc_v ho (up_k (by decide) (by decide)) rfl))) rfl rfl hc
theorem dq_Road_count_108 : decode (km_c mm_Road_count) 108 = .ok (.ireturn, 1) := by decide +kernel
theorem sq_Road_count_108 : rn G mm_Road_count 108 lv [.int x] S P ↔ P (some (.int x)) S := rn_ir dq_Road_count_108 rfl
theorem dq_Road_count_109 : decode (km_c mm_Road_count) 109 = .ok (.aload_n 0, 1) := by decide +kernel
theorem sq_Road_count_109 : rn G mm_Road_count 109 [some (.ref z), a1] st S P ↔ rn G mm_Road_count 110 [some (.ref z), a1] (.ref z :: st) S P := rn_s dq_Road_count_109 rfl rfl rfl
theorem dq_Road_count_110 : decode (km_c mm_Road_count) 110 = .ok (.getfield 10, 3) := by decide +kernel
theorem sq_Road_count_110_0 (ho : sx_o o pl kp) : rn (lt_G o L) mm_Road_count 110 lv (.ref 0 :: st) (sx pl kp I A) P ↔ rn (lt_G o L) mm_Road_count 113 lv (.ref 1 :: st) (sx pl kp I A) P := rx_get (h := "") (ci := 9) (k := 0) dq_Road_count_110 (by decide +kernel) ho (up_b (by decide)) rfl rfl (fl_r (by decide) (by decide) (by decide) (by decide))
theorem dq_Road_count_113 : decode (km_c mm_Road_count) 113 = .ok (.getfield 80, 3) := by decide +kernel
theorem sq_Road_count_113_1 (ho : sx_o o pl kp) : rn (lt_G o L) mm_Road_count 113 lv (.ref 1 :: st) (sx pl kp I A) P ↔ rn (lt_G o L) mm_Road_count 116 lv (.ref 2 :: st) (sx pl kp I A) P := rx_get (h := "DeltaRoad") (ci := 8) (k := 0) dq_Road_count_113 (by decide +kernel) ho (up_b (by decide)) rfl rfl (fl_r (by decide) (by decide) (by decide) (by decide))
theorem sq_Road_count_113_136 (ho : sx_o o pl true) : rn (lt_G o L) mm_Road_count 113 lv (.ref 136 :: st) (sx pl true I A) P ↔ rn (lt_G o L) mm_Road_count 116 lv (.ref 137 :: st) (sx pl true I A) P := rx_get (h := "DeltaRoad") (ci := 8) (k := 0) dq_Road_count_113 (by decide +kernel) ho (up_k (by decide) (by decide)) rfl rfl (fl_k (by decide) (by decide))
theorem dq_Road_count_116 : decode (km_c mm_Road_count) 116 = .ok (.getfield 104, 3) := by decide +kernel
theorem sq_Road_count_116_2 (ho : sx_o o pl kp) : rn (lt_G o L) mm_Road_count 116 lv (.ref 2 :: st) (sx pl kp I A) P ↔ rn (lt_G o L) mm_Road_count 119 lv (.int (I 2 1) :: st) (sx pl kp I A) P := rx_get (h := "DeltaRoad") (ci := 0) (k := 1) dq_Road_count_116 (by decide +kernel) ho (up_b (by decide)) rfl rfl (fl_i (by decide))
theorem sq_Road_count_116_35 (ho : sx_o o pl kp) : rn (lt_G o L) mm_Road_count 116 lv (.ref 35 :: st) (sx pl kp I A) P ↔ rn (lt_G o L) mm_Road_count 119 lv (.int (I 35 1) :: st) (sx pl kp I A) P := rx_get (h := "DeltaRoad") (ci := 0) (k := 1) dq_Road_count_116 (by decide +kernel) ho (up_b (by decide)) rfl rfl (fl_i (by decide))
theorem sq_Road_count_116_137 (ho : sx_o o pl true) : rn (lt_G o L) mm_Road_count 116 lv (.ref 137 :: st) (sx pl true I A) P ↔ rn (lt_G o L) mm_Road_count 119 lv (.int (I 137 1) :: st) (sx pl true I A) P := rx_get (h := "DeltaRoad") (ci := 0) (k := 1) dq_Road_count_116 (by decide +kernel) ho (up_k (by decide) (by decide)) rfl rfl (fl_i (by decide))
theorem dq_Road_count_119 : decode (km_c mm_Road_count) 119 = .ok (.ireturn, 1) := by decide +kernel
theorem sq_Road_count_119 : rn G mm_Road_count 119 lv [.int x] S P ↔ P (some (.int x)) S := rn_ir dq_Road_count_119 rfl
theorem dq_Road_count_120 : decode (km_c mm_Road_count) 120 = .ok (.iconst (-1), 1) := by decide +kernel
theorem sq_Road_count_120 : rn G mm_Road_count 120 lv st S P ↔ rn G mm_Road_count 121 lv (.int ((-1)) :: st) S P := rn_s dq_Road_count_120 rfl rfl rfl
theorem dq_Road_count_121 : decode (km_c mm_Road_count) 121 = .ok (.ireturn, 1) := by decide +kernel
theorem sq_Road_count_121 : rn G mm_Road_count 121 lv [.int x] S P ↔ P (some (.int x)) S := rn_ir dq_Road_count_121 rfl
theorem dq_Road_village_0 : decode (km_c mm_Road_village) 0 = .ok (.iload_n 1, 1) := by decide +kernel
theorem sq_Road_village_0 : rn G mm_Road_village 0 [a0, some (.int x), a2] st S P ↔ rn G mm_Road_village 1 [a0, some (.int x), a2] (.int x :: st) S P := rn_s dq_Road_village_0 rfl rfl rfl
theorem dq_Road_village_1 : decode (km_c mm_Road_village) 1 = .ok (.invokestatic 68, 3) := by decide +kernel
theorem sq_Road_village_1 {x1 : Int32} {v : Option Value} {S2 : ks_S} (hc : ev G mm_Road_noCell [.int x1] S v S2) (hst : kx_cat st ≤ 8) : rn G mm_Road_village 1 lv (.int x1 :: st) S P ↔ rn G mm_Road_village 4 lv (v.toList ++ st) S2 P := rn_cs (k := 1) (host := "") (E' := mm_Road_noCell) dq_Road_village_1 (by decide) (by decide) rfl (ok_v rfl (by decide) (by decide) (Nat.le_add_left _ _) hst (Nat.le_of_ble_eq_true rfl) (Or.inl rfl)) rfl rfl hc
theorem dq_Road_village_4 : decode (km_c mm_Road_village) 4 = .ok (.ifCond .ne 13, 3) := by decide +kernel
theorem sq_Road_village_4 : rn G mm_Road_village 4 lv (.int x :: st) S P ↔ ((¬ x = 0 → rn G mm_Road_village 17 lv st S P) ∧ (¬ (¬ x = 0) → rn G mm_Road_village 7 lv st S P)) := rn_b (off := 13) dq_Road_village_4 rfl rfl rfl rfl
theorem dq_Road_village_7 : decode (km_c mm_Road_village) 7 = .ok (.iload_n 2, 1) := by decide +kernel
theorem sq_Road_village_7 : rn G mm_Road_village 7 [a0, a1, some (.int x)] st S P ↔ rn G mm_Road_village 8 [a0, a1, some (.int x)] (.int x :: st) S P := rn_s dq_Road_village_7 rfl rfl rfl
theorem dq_Road_village_8 : decode (km_c mm_Road_village) 8 = .ok (.iconst 1, 1) := by decide +kernel
theorem sq_Road_village_8 : rn G mm_Road_village 8 lv st S P ↔ rn G mm_Road_village 9 lv (.int (nI 1) :: st) S P := rn_s dq_Road_village_8 rfl rfl rfl
theorem dq_Road_village_9 : decode (km_c mm_Road_village) 9 = .ok (.bipush 99, 2) := by decide +kernel
theorem sq_Road_village_9 : rn G mm_Road_village 9 lv st S P ↔ rn G mm_Road_village 11 lv (.int (nI 99) :: st) S P := rn_s dq_Road_village_9 rfl rfl rfl
theorem dq_Road_village_11 : decode (km_c mm_Road_village) 11 = .ok (.invokestatic 72, 3) := by decide +kernel
theorem sq_Road_village_11 {x1 : Int32} {x2 : Int32} {x3 : Int32} {v : Option Value} {S2 : ks_S} (hc : ev G mm_Road_outside [.int x1, .int x2, .int x3] S v S2) (hst : kx_cat st ≤ 8) : rn G mm_Road_village 11 lv (.int x3 :: .int x2 :: .int x1 :: st) S P ↔ rn G mm_Road_village 14 lv (v.toList ++ st) S2 P := rn_cs (k := 1) (host := "") (E' := mm_Road_outside) dq_Road_village_11 (by decide) (by decide) rfl (ok_v rfl (by decide) (by decide) (Nat.le_add_left _ _) hst (Nat.le_of_ble_eq_true rfl) (Or.inl rfl)) rfl rfl hc
theorem dq_Road_village_14 : decode (km_c mm_Road_village) 14 = .ok (.ifCond .eq 5, 3) := by decide +kernel
theorem sq_Road_village_14 : rn G mm_Road_village 14 lv (.int x :: st) S P ↔ ((x = 0 → rn G mm_Road_village 19 lv st S P) ∧ (¬ (x = 0) → rn G mm_Road_village 17 lv st S P)) := rn_b (off := 5) dq_Road_village_14 rfl rfl rfl rfl
theorem dq_Road_village_17 : decode (km_c mm_Road_village) 17 = .ok (.iconst (-1), 1) := by decide +kernel
theorem sq_Road_village_17 : rn G mm_Road_village 17 lv st S P ↔ rn G mm_Road_village 18 lv (.int ((-1)) :: st) S P := rn_s dq_Road_village_17 rfl rfl rfl
theorem dq_Road_village_18 : decode (km_c mm_Road_village) 18 = .ok (.ireturn, 1) := by decide +kernel
theorem sq_Road_village_18 : rn G mm_Road_village 18 lv [.int x] S P ↔ P (some (.int x)) S := rn_ir dq_Road_village_18 rfl
theorem dq_Road_village_19 : decode (km_c mm_Road_village) 19 = .ok (.aload_n 0, 1) := by decide +kernel
theorem sq_Road_village_19 : rn G mm_Road_village 19 [some (.ref z), a1, a2] st S P ↔ rn G mm_Road_village 20 [some (.ref z), a1, a2] (.ref z :: st) S P := rn_s dq_Road_village_19 rfl rfl rfl
theorem dq_Road_village_20 : decode (km_c mm_Road_village) 20 = .ok (.getfield 10, 3) := by decide +kernel
theorem sq_Road_village_20_0 (ho : sx_o o pl kp) : rn (lt_G o L) mm_Road_village 20 lv (.ref 0 :: st) (sx pl kp I A) P ↔ rn (lt_G o L) mm_Road_village 23 lv (.ref 1 :: st) (sx pl kp I A) P := rx_get (h := "") (ci := 9) (k := 0) dq_Road_village_20 (by decide +kernel) ho (up_b (by decide)) rfl rfl (fl_r (by decide) (by decide) (by decide) (by decide))
theorem dq_Road_village_23 : decode (km_c mm_Road_village) 23 = .ok (.getfield 141, 3) := by decide +kernel
theorem sq_Road_village_23_1 (ho : sx_o o pl kp) : rn (lt_G o L) mm_Road_village 23 lv (.ref 1 :: st) (sx pl kp I A) P ↔ rn (lt_G o L) mm_Road_village 26 lv (.ref 9 :: st) (sx pl kp I A) P := rx_get (h := "DeltaRoad") (ci := 8) (k := 1) dq_Road_village_23 (by decide +kernel) ho (up_b (by decide)) rfl rfl (fl_r (by decide) (by decide) (by decide) (by decide))
theorem sq_Road_village_23_136 (ho : sx_o o pl true) : rn (lt_G o L) mm_Road_village 23 lv (.ref 136 :: st) (sx pl true I A) P ↔ rn (lt_G o L) mm_Road_village 26 lv (.ref 144 :: st) (sx pl true I A) P := rx_get (h := "DeltaRoad") (ci := 8) (k := 1) dq_Road_village_23 (by decide +kernel) ho (up_k (by decide) (by decide)) rfl rfl (fl_k (by decide) (by decide))
theorem dq_Road_village_26 : decode (km_c mm_Road_village) 26 = .ok (.getfield 147, 3) := by decide +kernel
theorem sq_Road_village_26_9 (ho : sx_o o pl kp) : rn (lt_G o L) mm_Road_village 26 lv (.ref 9 :: st) (sx pl kp I A) P ↔ rn (lt_G o L) mm_Road_village 29 lv (.int (I 9 2) :: st) (sx pl kp I A) P := rx_get (h := "DeltaRoad") (ci := 5) (k := 2) dq_Road_village_26 (by decide +kernel) ho (up_b (by decide)) rfl rfl (fl_i (by decide))
theorem sq_Road_village_26_42 (ho : sx_o o pl kp) : rn (lt_G o L) mm_Road_village 26 lv (.ref 42 :: st) (sx pl kp I A) P ↔ rn (lt_G o L) mm_Road_village 29 lv (.int (I 42 2) :: st) (sx pl kp I A) P := rx_get (h := "DeltaRoad") (ci := 5) (k := 2) dq_Road_village_26 (by decide +kernel) ho (up_b (by decide)) rfl rfl (fl_i (by decide))
theorem sq_Road_village_26_144 (ho : sx_o o pl true) : rn (lt_G o L) mm_Road_village 26 lv (.ref 144 :: st) (sx pl true I A) P ↔ rn (lt_G o L) mm_Road_village 29 lv (.int (I 144 2) :: st) (sx pl true I A) P := rx_get (h := "DeltaRoad") (ci := 5) (k := 2) dq_Road_village_26 (by decide +kernel) ho (up_k (by decide) (by decide)) rfl rfl (fl_i (by decide))
theorem dq_Road_village_29 : decode (km_c mm_Road_village) 29 = .ok (.bipush 6, 2) := by decide +kernel
theorem sq_Road_village_29 : rn G mm_Road_village 29 lv st S P ↔ rn G mm_Road_village 31 lv (.int (nI 6) :: st) S P := rn_s dq_Road_village_29 rfl rfl rfl
theorem dq_Road_village_31 : decode (km_c mm_Road_village) 31 = .ok (.if_icmp .lt 6, 3) := by decide +kernel
theorem sq_Road_village_31 : rn G mm_Road_village 31 lv (.int x2 :: .int x :: st) S P ↔ ((x < x2 → rn G mm_Road_village 37 lv st S P) ∧ (¬ (x < x2) → rn G mm_Road_village 34 lv st S P)) := rn_b (off := 6) dq_Road_village_31 rfl rfl rfl rfl
theorem dq_Road_village_34 : decode (km_c mm_Road_village) 34 = .ok (.bipush (-3), 2) := by decide +kernel
theorem sq_Road_village_34 : rn G mm_Road_village 34 lv st S P ↔ rn G mm_Road_village 36 lv (.int ((-3)) :: st) S P := rn_s dq_Road_village_34 rfl rfl rfl
theorem dq_Road_village_36 : decode (km_c mm_Road_village) 36 = .ok (.ireturn, 1) := by decide +kernel
theorem sq_Road_village_36 : rn G mm_Road_village 36 lv [.int x] S P ↔ P (some (.int x)) S := rn_ir dq_Road_village_36 rfl
theorem dq_Road_village_37 : decode (km_c mm_Road_village) 37 = .ok (.aload_n 0, 1) := by decide +kernel
theorem sq_Road_village_37 : rn G mm_Road_village 37 [some (.ref z), a1, a2] st S P ↔ rn G mm_Road_village 38 [some (.ref z), a1, a2] (.ref z :: st) S P := rn_s dq_Road_village_37 rfl rfl rfl
theorem dq_Road_village_38 : decode (km_c mm_Road_village) 38 = .ok (.invokevirtual 87, 3) := by decide +kernel
theorem sq_Road_village_38_0  {v : Option Value} {S2 : ks_S} (hc : ev (lt_G o L) mm_Road_forget [.ref 0] (sx pl kp I A) v S2) (ho : sx_o o pl kp) (hst : kx_cat st ≤ 8) : rn (lt_G o L) mm_Road_village 38 lv (.ref 0 :: st) (sx pl kp I A) P ↔ rn (lt_G o L) mm_Road_village 41 lv (v.toList ++ st) S2 P := rn_cv (k := 0) (host := "") (E' := mm_Road_forget) dq_Road_village_38 rfl (ok_v rfl (by decide) (by decide) (Nat.le_add_left _ _) hst (Nat.le_of_ble_eq_true rfl) (Or.inr (rc_v ho (up_b (by decide)) rfl))) rfl rfl hc
theorem dq_Road_village_41 : decode (km_c mm_Road_village) 41 = .ok (.aload_n 0, 1) := by decide +kernel
theorem sq_Road_village_41 : rn G mm_Road_village 41 [some (.ref z), a1, a2] st S P ↔ rn G mm_Road_village 42 [some (.ref z), a1, a2] (.ref z :: st) S P := rn_s dq_Road_village_41 rfl rfl rfl
theorem dq_Road_village_42 : decode (km_c mm_Road_village) 42 = .ok (.getfield 10, 3) := by decide +kernel
theorem sq_Road_village_42_0 (ho : sx_o o pl kp) : rn (lt_G o L) mm_Road_village 42 lv (.ref 0 :: st) (sx pl kp I A) P ↔ rn (lt_G o L) mm_Road_village 45 lv (.ref 1 :: st) (sx pl kp I A) P := rx_get (h := "") (ci := 9) (k := 0) dq_Road_village_42 (by decide +kernel) ho (up_b (by decide)) rfl rfl (fl_r (by decide) (by decide) (by decide) (by decide))
theorem dq_Road_village_45 : decode (km_c mm_Road_village) 45 = .ok (.getfield 141, 3) := by decide +kernel
theorem sq_Road_village_45_1 (ho : sx_o o pl kp) : rn (lt_G o L) mm_Road_village 45 lv (.ref 1 :: st) (sx pl kp I A) P ↔ rn (lt_G o L) mm_Road_village 48 lv (.ref 9 :: st) (sx pl kp I A) P := rx_get (h := "DeltaRoad") (ci := 8) (k := 1) dq_Road_village_45 (by decide +kernel) ho (up_b (by decide)) rfl rfl (fl_r (by decide) (by decide) (by decide) (by decide))
theorem sq_Road_village_45_136 (ho : sx_o o pl true) : rn (lt_G o L) mm_Road_village 45 lv (.ref 136 :: st) (sx pl true I A) P ↔ rn (lt_G o L) mm_Road_village 48 lv (.ref 144 :: st) (sx pl true I A) P := rx_get (h := "DeltaRoad") (ci := 8) (k := 1) dq_Road_village_45 (by decide +kernel) ho (up_k (by decide) (by decide)) rfl rfl (fl_k (by decide) (by decide))
theorem dq_Road_village_48 : decode (km_c mm_Road_village) 48 = .ok (.iload_n 1, 1) := by decide +kernel
theorem sq_Road_village_48 : rn G mm_Road_village 48 [a0, some (.int x), a2] st S P ↔ rn G mm_Road_village 49 [a0, some (.int x), a2] (.int x :: st) S P := rn_s dq_Road_village_48 rfl rfl rfl
theorem dq_Road_village_49 : decode (km_c mm_Road_village) 49 = .ok (.iload_n 2, 1) := by decide +kernel
theorem sq_Road_village_49 : rn G mm_Road_village 49 [a0, a1, some (.int x)] st S P ↔ rn G mm_Road_village 50 [a0, a1, some (.int x)] (.int x :: st) S P := rn_s dq_Road_village_49 rfl rfl rfl
theorem dq_Road_village_50 : decode (km_c mm_Road_village) 50 = .ok (.invokevirtual 168, 3) := by decide +kernel
theorem sq_Road_village_50_9 {x1 : Int32} {x2 : Int32} {v : Option Value} {S2 : ks_S} (hc : ev (lt_G o L) mm_Villages_add [.ref 9, .int x1, .int x2] (sx pl kp I A) v S2) (ho : sx_o o pl kp) (hst : kx_cat st ≤ 8) : rn (lt_G o L) mm_Road_village 50 lv (.int x2 :: .int x1 :: .ref 9 :: st) (sx pl kp I A) P ↔ rn (lt_G o L) mm_Road_village 53 lv (v.toList ++ st) S2 P := rn_cv (k := 0) (host := "") (E' := mm_Villages_add) dq_Road_village_50 rfl (ok_v rfl (by decide) (by decide) (Nat.le_add_left _ _) hst (Nat.le_of_ble_eq_true rfl) (Or.inr (rc_v ho (up_b (by decide)) rfl))) rfl rfl hc
theorem sq_Road_village_50_42 {x1 : Int32} {x2 : Int32} {v : Option Value} {S2 : ks_S} (hc : ev (lt_G o L) mm_Villages_add [.ref 42, .int x1, .int x2] (sx pl kp I A) v S2) (ho : sx_o o pl kp) (hst : kx_cat st ≤ 8) : rn (lt_G o L) mm_Road_village 50 lv (.int x2 :: .int x1 :: .ref 42 :: st) (sx pl kp I A) P ↔ rn (lt_G o L) mm_Road_village 53 lv (v.toList ++ st) S2 P := rn_cv (k := 0) (host := "") (E' := mm_Villages_add) dq_Road_village_50 rfl (ok_v rfl (by decide) (by decide) (Nat.le_add_left _ _) hst (Nat.le_of_ble_eq_true rfl) (Or.inr (rc_v ho (up_b (by decide)) rfl))) rfl rfl hc
theorem sq_Road_village_50_144 {x1 : Int32} {x2 : Int32} {v : Option Value} {S2 : ks_S} (hc : ev (lt_G o L) mm_Villages_add [.ref 144, .int x1, .int x2] (sx pl true I A) v S2) (ho : sx_o o pl true) (hst : kx_cat st ≤ 8) : rn (lt_G o L) mm_Road_village 50 lv (.int x2 :: .int x1 :: .ref 144 :: st) (sx pl true I A) P ↔ rn (lt_G o L) mm_Road_village 53 lv (v.toList ++ st) S2 P := rn_cv (k := 0) (host := "") (E' := mm_Villages_add) dq_Road_village_50 rfl (ok_v rfl (by decide) (by decide) (Nat.le_add_left _ _) hst (Nat.le_of_ble_eq_true rfl) (Or.inr (rc_v ho (up_k (by decide) (by decide)) rfl))) rfl rfl hc
theorem dq_Road_village_53 : decode (km_c mm_Road_village) 53 = .ok (.ireturn, 1) := by decide +kernel
theorem sq_Road_village_53 : rn G mm_Road_village 53 lv [.int x] S P ↔ P (some (.int x)) S := rn_ir dq_Road_village_53 rfl
theorem dq_Road_of_0 : decode (km_c mm_Road_of) 0 = .ok (.iload_n 1, 1) := by decide +kernel
theorem sq_Road_of_0 : rn G mm_Road_of 0 [a0, some (.int x), a2] st S P ↔ rn G mm_Road_of 1 [a0, some (.int x), a2] (.int x :: st) S P := rn_s dq_Road_of_0 rfl rfl rfl
theorem dq_Road_of_1 : decode (km_c mm_Road_of) 1 = .ok (.iconst 0, 1) := by decide +kernel
theorem sq_Road_of_1 : rn G mm_Road_of 1 lv st S P ↔ rn G mm_Road_of 2 lv (.int (nI 0) :: st) S P := rn_s dq_Road_of_1 rfl rfl rfl
theorem dq_Road_of_2 : decode (km_c mm_Road_of) 2 = .ok (.aload_n 0, 1) := by decide +kernel
theorem sq_Road_of_2 : rn G mm_Road_of 2 [some (.ref z), a1, a2] st S P ↔ rn G mm_Road_of 3 [some (.ref z), a1, a2] (.ref z :: st) S P := rn_s dq_Road_of_2 rfl rfl rfl
theorem dq_Road_of_3 : decode (km_c mm_Road_of) 3 = .ok (.getfield 10, 3) := by decide +kernel
theorem sq_Road_of_3_0 (ho : sx_o o pl kp) : rn (lt_G o L) mm_Road_of 3 lv (.ref 0 :: st) (sx pl kp I A) P ↔ rn (lt_G o L) mm_Road_of 6 lv (.ref 1 :: st) (sx pl kp I A) P := rx_get (h := "") (ci := 9) (k := 0) dq_Road_of_3 (by decide +kernel) ho (up_b (by decide)) rfl rfl (fl_r (by decide) (by decide) (by decide) (by decide))
theorem dq_Road_of_6 : decode (km_c mm_Road_of) 6 = .ok (.getfield 141, 3) := by decide +kernel
theorem sq_Road_of_6_1 (ho : sx_o o pl kp) : rn (lt_G o L) mm_Road_of 6 lv (.ref 1 :: st) (sx pl kp I A) P ↔ rn (lt_G o L) mm_Road_of 9 lv (.ref 9 :: st) (sx pl kp I A) P := rx_get (h := "DeltaRoad") (ci := 8) (k := 1) dq_Road_of_6 (by decide +kernel) ho (up_b (by decide)) rfl rfl (fl_r (by decide) (by decide) (by decide) (by decide))
theorem sq_Road_of_6_136 (ho : sx_o o pl true) : rn (lt_G o L) mm_Road_of 6 lv (.ref 136 :: st) (sx pl true I A) P ↔ rn (lt_G o L) mm_Road_of 9 lv (.ref 144 :: st) (sx pl true I A) P := rx_get (h := "DeltaRoad") (ci := 8) (k := 1) dq_Road_of_6 (by decide +kernel) ho (up_k (by decide) (by decide)) rfl rfl (fl_k (by decide) (by decide))
theorem dq_Road_of_9 : decode (km_c mm_Road_of) 9 = .ok (.getfield 147, 3) := by decide +kernel
theorem sq_Road_of_9_9 (ho : sx_o o pl kp) : rn (lt_G o L) mm_Road_of 9 lv (.ref 9 :: st) (sx pl kp I A) P ↔ rn (lt_G o L) mm_Road_of 12 lv (.int (I 9 2) :: st) (sx pl kp I A) P := rx_get (h := "DeltaRoad") (ci := 5) (k := 2) dq_Road_of_9 (by decide +kernel) ho (up_b (by decide)) rfl rfl (fl_i (by decide))
theorem sq_Road_of_9_42 (ho : sx_o o pl kp) : rn (lt_G o L) mm_Road_of 9 lv (.ref 42 :: st) (sx pl kp I A) P ↔ rn (lt_G o L) mm_Road_of 12 lv (.int (I 42 2) :: st) (sx pl kp I A) P := rx_get (h := "DeltaRoad") (ci := 5) (k := 2) dq_Road_of_9 (by decide +kernel) ho (up_b (by decide)) rfl rfl (fl_i (by decide))
theorem sq_Road_of_9_144 (ho : sx_o o pl true) : rn (lt_G o L) mm_Road_of 9 lv (.ref 144 :: st) (sx pl true I A) P ↔ rn (lt_G o L) mm_Road_of 12 lv (.int (I 144 2) :: st) (sx pl true I A) P := rx_get (h := "DeltaRoad") (ci := 5) (k := 2) dq_Road_of_9 (by decide +kernel) ho (up_k (by decide) (by decide)) rfl rfl (fl_i (by decide))
theorem dq_Road_of_12 : decode (km_c mm_Road_of) 12 = .ok (.iconst 1, 1) := by decide +kernel
theorem sq_Road_of_12 : rn G mm_Road_of 12 lv st S P ↔ rn G mm_Road_of 13 lv (.int (nI 1) :: st) S P := rn_s dq_Road_of_12 rfl rfl rfl
theorem dq_Road_of_13 : decode (km_c mm_Road_of) 13 = .ok (.isub, 1) := by decide +kernel
theorem sq_Road_of_13 : rn G mm_Road_of 13 lv (.int x2 :: .int x :: st) S P ↔ rn G mm_Road_of 14 lv (.int (x - x2) :: st) S P := rn_s dq_Road_of_13 rfl rfl rfl
theorem dq_Road_of_14 : decode (km_c mm_Road_of) 14 = .ok (.invokestatic 72, 3) := by decide +kernel
theorem sq_Road_of_14 {x1 : Int32} {x2 : Int32} {x3 : Int32} {v : Option Value} {S2 : ks_S} (hc : ev G mm_Road_outside [.int x1, .int x2, .int x3] S v S2) (hst : kx_cat st ≤ 8) : rn G mm_Road_of 14 lv (.int x3 :: .int x2 :: .int x1 :: st) S P ↔ rn G mm_Road_of 17 lv (v.toList ++ st) S2 P := rn_cs (k := 1) (host := "") (E' := mm_Road_outside) dq_Road_of_14 (by decide) (by decide) rfl (ok_v rfl (by decide) (by decide) (Nat.le_add_left _ _) hst (Nat.le_of_ble_eq_true rfl) (Or.inl rfl)) rfl rfl hc
theorem dq_Road_of_17 : decode (km_c mm_Road_of) 17 = .ok (.ifCond .eq 5, 3) := by decide +kernel
theorem sq_Road_of_17 : rn G mm_Road_of 17 lv (.int x :: st) S P ↔ ((x = 0 → rn G mm_Road_of 22 lv st S P) ∧ (¬ (x = 0) → rn G mm_Road_of 20 lv st S P)) := rn_b (off := 5) dq_Road_of_17 rfl rfl rfl rfl
theorem dq_Road_of_20 : decode (km_c mm_Road_of) 20 = .ok (.iconst (-1), 1) := by decide +kernel
theorem sq_Road_of_20 : rn G mm_Road_of 20 lv st S P ↔ rn G mm_Road_of 21 lv (.int ((-1)) :: st) S P := rn_s dq_Road_of_20 rfl rfl rfl
theorem dq_Road_of_21 : decode (km_c mm_Road_of) 21 = .ok (.ireturn, 1) := by decide +kernel
theorem sq_Road_of_21 : rn G mm_Road_of 21 lv [.int x] S P ↔ P (some (.int x)) S := rn_ir dq_Road_of_21 rfl
theorem dq_Road_of_22 : decode (km_c mm_Road_of) 22 = .ok (.iload_n 2, 1) := by decide +kernel
theorem sq_Road_of_22 : rn G mm_Road_of 22 [a0, a1, some (.int x)] st S P ↔ rn G mm_Road_of 23 [a0, a1, some (.int x)] (.int x :: st) S P := rn_s dq_Road_of_22 rfl rfl rfl
theorem dq_Road_of_23 : decode (km_c mm_Road_of) 23 = .ok (.lookupswitch 51 #[(0, 25), (1, 38)], 25) := by decide +kernel
theorem dq_Road_of_48 : decode (km_c mm_Road_of) 48 = .ok (.aload_n 0, 1) := by decide +kernel
theorem sq_Road_of_48 : rn G mm_Road_of 48 [some (.ref z), a1, a2] st S P ↔ rn G mm_Road_of 49 [some (.ref z), a1, a2] (.ref z :: st) S P := rn_s dq_Road_of_48 rfl rfl rfl
theorem dq_Road_of_49 : decode (km_c mm_Road_of) 49 = .ok (.getfield 10, 3) := by decide +kernel
theorem sq_Road_of_49_0 (ho : sx_o o pl kp) : rn (lt_G o L) mm_Road_of 49 lv (.ref 0 :: st) (sx pl kp I A) P ↔ rn (lt_G o L) mm_Road_of 52 lv (.ref 1 :: st) (sx pl kp I A) P := rx_get (h := "") (ci := 9) (k := 0) dq_Road_of_49 (by decide +kernel) ho (up_b (by decide)) rfl rfl (fl_r (by decide) (by decide) (by decide) (by decide))
theorem dq_Road_of_52 : decode (km_c mm_Road_of) 52 = .ok (.getfield 141, 3) := by decide +kernel
theorem sq_Road_of_52_1 (ho : sx_o o pl kp) : rn (lt_G o L) mm_Road_of 52 lv (.ref 1 :: st) (sx pl kp I A) P ↔ rn (lt_G o L) mm_Road_of 55 lv (.ref 9 :: st) (sx pl kp I A) P := rx_get (h := "DeltaRoad") (ci := 8) (k := 1) dq_Road_of_52 (by decide +kernel) ho (up_b (by decide)) rfl rfl (fl_r (by decide) (by decide) (by decide) (by decide))
theorem sq_Road_of_52_136 (ho : sx_o o pl true) : rn (lt_G o L) mm_Road_of 52 lv (.ref 136 :: st) (sx pl true I A) P ↔ rn (lt_G o L) mm_Road_of 55 lv (.ref 144 :: st) (sx pl true I A) P := rx_get (h := "DeltaRoad") (ci := 8) (k := 1) dq_Road_of_52 (by decide +kernel) ho (up_k (by decide) (by decide)) rfl rfl (fl_k (by decide) (by decide))
theorem dq_Road_of_55 : decode (km_c mm_Road_of) 55 = .ok (.getfield 172, 3) := by decide +kernel
theorem sq_Road_of_55_9 (ho : sx_o o pl kp) : rn (lt_G o L) mm_Road_of 55 lv (.ref 9 :: st) (sx pl kp I A) P ↔ rn (lt_G o L) mm_Road_of 58 lv (.ref 10 :: st) (sx pl kp I A) P := rx_get (h := "DeltaRoad") (ci := 5) (k := 0) dq_Road_of_55 (by decide +kernel) ho (up_b (by decide)) rfl rfl (fl_r (by decide) (by decide) (by decide) (by decide))
theorem sq_Road_of_55_42 (ho : sx_o o pl kp) : rn (lt_G o L) mm_Road_of 55 lv (.ref 42 :: st) (sx pl kp I A) P ↔ rn (lt_G o L) mm_Road_of 58 lv (.ref 43 :: st) (sx pl kp I A) P := rx_get (h := "DeltaRoad") (ci := 5) (k := 0) dq_Road_of_55 (by decide +kernel) ho (up_b (by decide)) rfl rfl (fl_r (by decide) (by decide) (by decide) (by decide))
theorem sq_Road_of_55_144 (ho : sx_o o pl true) : rn (lt_G o L) mm_Road_of 55 lv (.ref 144 :: st) (sx pl true I A) P ↔ rn (lt_G o L) mm_Road_of 58 lv (.ref 145 :: st) (sx pl true I A) P := rx_get (h := "DeltaRoad") (ci := 5) (k := 0) dq_Road_of_55 (by decide +kernel) ho (up_k (by decide) (by decide)) rfl rfl (fl_k (by decide) (by decide))
theorem dq_Road_of_58 : decode (km_c mm_Road_of) 58 = .ok (.iload_n 1, 1) := by decide +kernel
theorem sq_Road_of_58 : rn G mm_Road_of 58 [a0, some (.int x), a2] st S P ↔ rn G mm_Road_of 59 [a0, some (.int x), a2] (.int x :: st) S P := rn_s dq_Road_of_58 rfl rfl rfl
theorem dq_Road_of_59 : decode (km_c mm_Road_of) 59 = .ok (.iaload, 1) := by decide +kernel
theorem sq_Road_of_59 (ho : sx_o o pl kp) (hk : ak L a = 0) (hu : sx_up pl kp a = true ∨ 1000 ≤ a) (hc : c < ln L a) (hn : ln L a < 2 ^ 31) : rn (lt_G o L) mm_Road_of 59 lv (.int (nI c) :: .ref a :: st) (sx pl kp I A) P ↔ rn (lt_G o L) mm_Road_of 60 lv (.int (A a c) :: st) (sx pl kp I A) P := rx_ild dq_Road_of_59 ho hk hu hc hn
theorem dq_Road_of_60 : decode (km_c mm_Road_of) 60 = .ok (.ireturn, 1) := by decide +kernel
theorem sq_Road_of_60 : rn G mm_Road_of 60 lv [.int x] S P ↔ P (some (.int x)) S := rn_ir dq_Road_of_60 rfl
theorem dq_Road_of_61 : decode (km_c mm_Road_of) 61 = .ok (.aload_n 0, 1) := by decide +kernel
theorem sq_Road_of_61 : rn G mm_Road_of 61 [some (.ref z), a1, a2] st S P ↔ rn G mm_Road_of 62 [some (.ref z), a1, a2] (.ref z :: st) S P := rn_s dq_Road_of_61 rfl rfl rfl
theorem dq_Road_of_62 : decode (km_c mm_Road_of) 62 = .ok (.getfield 10, 3) := by decide +kernel
theorem sq_Road_of_62_0 (ho : sx_o o pl kp) : rn (lt_G o L) mm_Road_of 62 lv (.ref 0 :: st) (sx pl kp I A) P ↔ rn (lt_G o L) mm_Road_of 65 lv (.ref 1 :: st) (sx pl kp I A) P := rx_get (h := "") (ci := 9) (k := 0) dq_Road_of_62 (by decide +kernel) ho (up_b (by decide)) rfl rfl (fl_r (by decide) (by decide) (by decide) (by decide))
theorem dq_Road_of_65 : decode (km_c mm_Road_of) 65 = .ok (.getfield 141, 3) := by decide +kernel
theorem sq_Road_of_65_1 (ho : sx_o o pl kp) : rn (lt_G o L) mm_Road_of 65 lv (.ref 1 :: st) (sx pl kp I A) P ↔ rn (lt_G o L) mm_Road_of 68 lv (.ref 9 :: st) (sx pl kp I A) P := rx_get (h := "DeltaRoad") (ci := 8) (k := 1) dq_Road_of_65 (by decide +kernel) ho (up_b (by decide)) rfl rfl (fl_r (by decide) (by decide) (by decide) (by decide))
theorem sq_Road_of_65_136 (ho : sx_o o pl true) : rn (lt_G o L) mm_Road_of 65 lv (.ref 136 :: st) (sx pl true I A) P ↔ rn (lt_G o L) mm_Road_of 68 lv (.ref 144 :: st) (sx pl true I A) P := rx_get (h := "DeltaRoad") (ci := 8) (k := 1) dq_Road_of_65 (by decide +kernel) ho (up_k (by decide) (by decide)) rfl rfl (fl_k (by decide) (by decide))
theorem dq_Road_of_68 : decode (km_c mm_Road_of) 68 = .ok (.getfield 175, 3) := by decide +kernel
theorem sq_Road_of_68_9 (ho : sx_o o pl kp) : rn (lt_G o L) mm_Road_of 68 lv (.ref 9 :: st) (sx pl kp I A) P ↔ rn (lt_G o L) mm_Road_of 71 lv (.ref 11 :: st) (sx pl kp I A) P := rx_get (h := "DeltaRoad") (ci := 5) (k := 1) dq_Road_of_68 (by decide +kernel) ho (up_b (by decide)) rfl rfl (fl_r (by decide) (by decide) (by decide) (by decide))
theorem sq_Road_of_68_42 (ho : sx_o o pl kp) : rn (lt_G o L) mm_Road_of 68 lv (.ref 42 :: st) (sx pl kp I A) P ↔ rn (lt_G o L) mm_Road_of 71 lv (.ref 44 :: st) (sx pl kp I A) P := rx_get (h := "DeltaRoad") (ci := 5) (k := 1) dq_Road_of_68 (by decide +kernel) ho (up_b (by decide)) rfl rfl (fl_r (by decide) (by decide) (by decide) (by decide))
theorem sq_Road_of_68_144 (ho : sx_o o pl true) : rn (lt_G o L) mm_Road_of 68 lv (.ref 144 :: st) (sx pl true I A) P ↔ rn (lt_G o L) mm_Road_of 71 lv (.ref 146 :: st) (sx pl true I A) P := rx_get (h := "DeltaRoad") (ci := 5) (k := 1) dq_Road_of_68 (by decide +kernel) ho (up_k (by decide) (by decide)) rfl rfl (fl_k (by decide) (by decide))
theorem dq_Road_of_71 : decode (km_c mm_Road_of) 71 = .ok (.iload_n 1, 1) := by decide +kernel
theorem sq_Road_of_71 : rn G mm_Road_of 71 [a0, some (.int x), a2] st S P ↔ rn G mm_Road_of 72 [a0, some (.int x), a2] (.int x :: st) S P := rn_s dq_Road_of_71 rfl rfl rfl
theorem dq_Road_of_72 : decode (km_c mm_Road_of) 72 = .ok (.iaload, 1) := by decide +kernel
theorem sq_Road_of_72 (ho : sx_o o pl kp) (hk : ak L a = 0) (hu : sx_up pl kp a = true ∨ 1000 ≤ a) (hc : c < ln L a) (hn : ln L a < 2 ^ 31) : rn (lt_G o L) mm_Road_of 72 lv (.int (nI c) :: .ref a :: st) (sx pl kp I A) P ↔ rn (lt_G o L) mm_Road_of 73 lv (.int (A a c) :: st) (sx pl kp I A) P := rx_ild dq_Road_of_72 ho hk hu hc hn
theorem dq_Road_of_73 : decode (km_c mm_Road_of) 73 = .ok (.ireturn, 1) := by decide +kernel
theorem sq_Road_of_73 : rn G mm_Road_of 73 lv [.int x] S P ↔ P (some (.int x)) S := rn_ir dq_Road_of_73 rfl
theorem dq_Road_of_74 : decode (km_c mm_Road_of) 74 = .ok (.iconst (-1), 1) := by decide +kernel
theorem sq_Road_of_74 : rn G mm_Road_of 74 lv st S P ↔ rn G mm_Road_of 75 lv (.int ((-1)) :: st) S P := rn_s dq_Road_of_74 rfl rfl rfl
theorem dq_Road_of_75 : decode (km_c mm_Road_of) 75 = .ok (.ireturn, 1) := by decide +kernel
theorem sq_Road_of_75 : rn G mm_Road_of 75 lv [.int x] S P ↔ P (some (.int x)) S := rn_ir dq_Road_of_75 rfl
theorem dq_Road_ends_0 : decode (km_c mm_Road_ends) 0 = .ok (.iload_n 1, 1) := by decide +kernel
theorem sq_Road_ends_0 : rn G mm_Road_ends 0 [a0, some (.int x), a2, a3] st S P ↔ rn G mm_Road_ends 1 [a0, some (.int x), a2, a3] (.int x :: st) S P := rn_s dq_Road_ends_0 rfl rfl rfl
theorem dq_Road_ends_1 : decode (km_c mm_Road_ends) 1 = .ok (.invokestatic 68, 3) := by decide +kernel
theorem sq_Road_ends_1 {x1 : Int32} {v : Option Value} {S2 : ks_S} (hc : ev G mm_Road_noCell [.int x1] S v S2) (hst : kx_cat st ≤ 8) : rn G mm_Road_ends 1 lv (.int x1 :: st) S P ↔ rn G mm_Road_ends 4 lv (v.toList ++ st) S2 P := rn_cs (k := 1) (host := "") (E' := mm_Road_noCell) dq_Road_ends_1 (by decide) (by decide) rfl (ok_v rfl (by decide) (by decide) (Nat.le_add_left _ _) hst (Nat.le_of_ble_eq_true rfl) (Or.inl rfl)) rfl rfl hc
theorem dq_Road_ends_4 : decode (km_c mm_Road_ends) 4 = .ok (.ifCond .ne 10, 3) := by decide +kernel
theorem sq_Road_ends_4 : rn G mm_Road_ends 4 lv (.int x :: st) S P ↔ ((¬ x = 0 → rn G mm_Road_ends 14 lv st S P) ∧ (¬ (¬ x = 0) → rn G mm_Road_ends 7 lv st S P)) := rn_b (off := 10) dq_Road_ends_4 rfl rfl rfl rfl
theorem dq_Road_ends_7 : decode (km_c mm_Road_ends) 7 = .ok (.iload_n 2, 1) := by decide +kernel
theorem sq_Road_ends_7 : rn G mm_Road_ends 7 [a0, a1, some (.int x), a3] st S P ↔ rn G mm_Road_ends 8 [a0, a1, some (.int x), a3] (.int x :: st) S P := rn_s dq_Road_ends_7 rfl rfl rfl
theorem dq_Road_ends_8 : decode (km_c mm_Road_ends) 8 = .ok (.invokestatic 68, 3) := by decide +kernel
theorem sq_Road_ends_8 {x1 : Int32} {v : Option Value} {S2 : ks_S} (hc : ev G mm_Road_noCell [.int x1] S v S2) (hst : kx_cat st ≤ 8) : rn G mm_Road_ends 8 lv (.int x1 :: st) S P ↔ rn G mm_Road_ends 11 lv (v.toList ++ st) S2 P := rn_cs (k := 1) (host := "") (E' := mm_Road_noCell) dq_Road_ends_8 (by decide) (by decide) rfl (ok_v rfl (by decide) (by decide) (Nat.le_add_left _ _) hst (Nat.le_of_ble_eq_true rfl) (Or.inl rfl)) rfl rfl hc
theorem dq_Road_ends_11 : decode (km_c mm_Road_ends) 11 = .ok (.ifCond .eq 5, 3) := by decide +kernel
theorem sq_Road_ends_11 : rn G mm_Road_ends 11 lv (.int x :: st) S P ↔ ((x = 0 → rn G mm_Road_ends 16 lv st S P) ∧ (¬ (x = 0) → rn G mm_Road_ends 14 lv st S P)) := rn_b (off := 5) dq_Road_ends_11 rfl rfl rfl rfl
theorem dq_Road_ends_14 : decode (km_c mm_Road_ends) 14 = .ok (.iconst (-1), 1) := by decide +kernel
theorem sq_Road_ends_14 : rn G mm_Road_ends 14 lv st S P ↔ rn G mm_Road_ends 15 lv (.int ((-1)) :: st) S P := rn_s dq_Road_ends_14 rfl rfl rfl
theorem dq_Road_ends_15 : decode (km_c mm_Road_ends) 15 = .ok (.ireturn, 1) := by decide +kernel
theorem sq_Road_ends_15 : rn G mm_Road_ends 15 lv [.int x] S P ↔ P (some (.int x)) S := rn_ir dq_Road_ends_15 rfl
theorem dq_Road_ends_16 : decode (km_c mm_Road_ends) 16 = .ok (.bipush 100, 2) := by decide +kernel
theorem sq_Road_ends_16 : rn G mm_Road_ends 16 lv st S P ↔ rn G mm_Road_ends 18 lv (.int (nI 100) :: st) S P := rn_s dq_Road_ends_16 rfl rfl rfl
theorem dq_Road_ends_18 : decode (km_c mm_Road_ends) 18 = .ok (.aload_n 0, 1) := by decide +kernel
theorem sq_Road_ends_18 : rn G mm_Road_ends 18 [some (.ref z), a1, a2, a3] st S P ↔ rn G mm_Road_ends 19 [some (.ref z), a1, a2, a3] (.ref z :: st) S P := rn_s dq_Road_ends_18 rfl rfl rfl
theorem dq_Road_ends_19 : decode (km_c mm_Road_ends) 19 = .ok (.getfield 10, 3) := by decide +kernel
theorem sq_Road_ends_19_0 (ho : sx_o o pl kp) : rn (lt_G o L) mm_Road_ends 19 lv (.ref 0 :: st) (sx pl kp I A) P ↔ rn (lt_G o L) mm_Road_ends 22 lv (.ref 1 :: st) (sx pl kp I A) P := rx_get (h := "") (ci := 9) (k := 0) dq_Road_ends_19 (by decide +kernel) ho (up_b (by decide)) rfl rfl (fl_r (by decide) (by decide) (by decide) (by decide))
theorem dq_Road_ends_22 : decode (km_c mm_Road_ends) 22 = .ok (.getfield 178, 3) := by decide +kernel
theorem sq_Road_ends_22_1 (ho : sx_o o pl kp) : rn (lt_G o L) mm_Road_ends 22 lv (.ref 1 :: st) (sx pl kp I A) P ↔ rn (lt_G o L) mm_Road_ends 25 lv (.int (I 1 4) :: st) (sx pl kp I A) P := rx_get (h := "DeltaRoad") (ci := 8) (k := 4) dq_Road_ends_22 (by decide +kernel) ho (up_b (by decide)) rfl rfl (fl_i (by decide))
theorem sq_Road_ends_22_136 (ho : sx_o o pl true) : rn (lt_G o L) mm_Road_ends 22 lv (.ref 136 :: st) (sx pl true I A) P ↔ rn (lt_G o L) mm_Road_ends 25 lv (.int (I 136 4) :: st) (sx pl true I A) P := rx_get (h := "DeltaRoad") (ci := 8) (k := 4) dq_Road_ends_22 (by decide +kernel) ho (up_k (by decide) (by decide)) rfl rfl (fl_i (by decide))
theorem dq_Road_ends_25 : decode (km_c mm_Road_ends) 25 = .ok (.imul, 1) := by decide +kernel
theorem sq_Road_ends_25 : rn G mm_Road_ends 25 lv (.int x2 :: .int x :: st) S P ↔ rn G mm_Road_ends 26 lv (.int (x * x2) :: st) S P := rn_s dq_Road_ends_25 rfl rfl rfl
theorem dq_Road_ends_26 : decode (km_c mm_Road_ends) 26 = .ok (.aload_n 0, 1) := by decide +kernel
theorem sq_Road_ends_26 : rn G mm_Road_ends 26 [some (.ref z), a1, a2, a3] st S P ↔ rn G mm_Road_ends 27 [some (.ref z), a1, a2, a3] (.ref z :: st) S P := rn_s dq_Road_ends_26 rfl rfl rfl
theorem dq_Road_ends_27 : decode (km_c mm_Road_ends) 27 = .ok (.getfield 10, 3) := by decide +kernel
theorem sq_Road_ends_27_0 (ho : sx_o o pl kp) : rn (lt_G o L) mm_Road_ends 27 lv (.ref 0 :: st) (sx pl kp I A) P ↔ rn (lt_G o L) mm_Road_ends 30 lv (.ref 1 :: st) (sx pl kp I A) P := rx_get (h := "") (ci := 9) (k := 0) dq_Road_ends_27 (by decide +kernel) ho (up_b (by decide)) rfl rfl (fl_r (by decide) (by decide) (by decide) (by decide))
theorem dq_Road_ends_30 : decode (km_c mm_Road_ends) 30 = .ok (.getfield 181, 3) := by decide +kernel
theorem sq_Road_ends_30_1 (ho : sx_o o pl kp) : rn (lt_G o L) mm_Road_ends 30 lv (.ref 1 :: st) (sx pl kp I A) P ↔ rn (lt_G o L) mm_Road_ends 33 lv (.int (I 1 5) :: st) (sx pl kp I A) P := rx_get (h := "DeltaRoad") (ci := 8) (k := 5) dq_Road_ends_30 (by decide +kernel) ho (up_b (by decide)) rfl rfl (fl_i (by decide))
theorem sq_Road_ends_30_136 (ho : sx_o o pl true) : rn (lt_G o L) mm_Road_ends 30 lv (.ref 136 :: st) (sx pl true I A) P ↔ rn (lt_G o L) mm_Road_ends 33 lv (.int (I 136 5) :: st) (sx pl true I A) P := rx_get (h := "DeltaRoad") (ci := 8) (k := 5) dq_Road_ends_30 (by decide +kernel) ho (up_k (by decide) (by decide)) rfl rfl (fl_i (by decide))
theorem dq_Road_ends_33 : decode (km_c mm_Road_ends) 33 = .ok (.iadd, 1) := by decide +kernel
theorem sq_Road_ends_33 : rn G mm_Road_ends 33 lv (.int x2 :: .int x :: st) S P ↔ rn G mm_Road_ends 34 lv (.int (x + x2) :: st) S P := rn_s dq_Road_ends_33 rfl rfl rfl
theorem dq_Road_ends_34 : decode (km_c mm_Road_ends) 34 = .ok (.istore_n 3, 1) := by decide +kernel
theorem sq_Road_ends_34n : rn G mm_Road_ends 34 [a0, a1, none, a3] (.int x :: st) S P ↔ rn G mm_Road_ends 35 [a0, a1, none, some (.int x)] st S P := rn_s dq_Road_ends_34 rfl rfl rfl
theorem sq_Road_ends_34i : rn G mm_Road_ends 34 [a0, a1, some (.int x2), a3] (.int x :: st) S P ↔ rn G mm_Road_ends 35 [a0, a1, some (.int x2), some (.int x)] st S P := rn_s dq_Road_ends_34 rfl rfl rfl
theorem sq_Road_ends_34r : rn G mm_Road_ends 34 [a0, a1, some (.ref z2), a3] (.int x :: st) S P ↔ rn G mm_Road_ends 35 [a0, a1, some (.ref z2), some (.int x)] st S P := rn_s dq_Road_ends_34 rfl rfl rfl
theorem dq_Road_ends_35 : decode (km_c mm_Road_ends) 35 = .ok (.aload_n 0, 1) := by decide +kernel
theorem sq_Road_ends_35 : rn G mm_Road_ends 35 [some (.ref z), a1, a2, a3] st S P ↔ rn G mm_Road_ends 36 [some (.ref z), a1, a2, a3] (.ref z :: st) S P := rn_s dq_Road_ends_35 rfl rfl rfl
theorem dq_Road_ends_36 : decode (km_c mm_Road_ends) 36 = .ok (.getfield 10, 3) := by decide +kernel
theorem sq_Road_ends_36_0 (ho : sx_o o pl kp) : rn (lt_G o L) mm_Road_ends 36 lv (.ref 0 :: st) (sx pl kp I A) P ↔ rn (lt_G o L) mm_Road_ends 39 lv (.ref 1 :: st) (sx pl kp I A) P := rx_get (h := "") (ci := 9) (k := 0) dq_Road_ends_36 (by decide +kernel) ho (up_b (by decide)) rfl rfl (fl_r (by decide) (by decide) (by decide) (by decide))
theorem dq_Road_ends_39 : decode (km_c mm_Road_ends) 39 = .ok (.iload_n 1, 1) := by decide +kernel
theorem sq_Road_ends_39 : rn G mm_Road_ends 39 [a0, some (.int x), a2, a3] st S P ↔ rn G mm_Road_ends 40 [a0, some (.int x), a2, a3] (.int x :: st) S P := rn_s dq_Road_ends_39 rfl rfl rfl
theorem dq_Road_ends_40 : decode (km_c mm_Road_ends) 40 = .ok (.putfield 178, 3) := by decide +kernel
theorem sq_Road_ends_40_1 (ho : sx_o o pl kp) : rn (lt_G o L) mm_Road_ends 40 lv (.int x :: .ref 1 :: st) (sx pl kp I A) P ↔ rn (lt_G o L) mm_Road_ends 43 lv st (sx pl kp (u2 I 1 4 x) A) P := rx_put (h := "DeltaRoad") (ci := 8) (k := 4) dq_Road_ends_40 (by decide +kernel) ho (up_b (by decide)) rfl rfl (by decide) (by decide)
theorem sq_Road_ends_40_136 (ho : sx_o o pl true) : rn (lt_G o L) mm_Road_ends 40 lv (.int x :: .ref 136 :: st) (sx pl true I A) P ↔ rn (lt_G o L) mm_Road_ends 43 lv st (sx pl true (u2 I 136 4 x) A) P := rx_put (h := "DeltaRoad") (ci := 8) (k := 4) dq_Road_ends_40 (by decide +kernel) ho (up_k (by decide) (by decide)) rfl rfl (by decide) (by decide)
theorem dq_Road_ends_43 : decode (km_c mm_Road_ends) 43 = .ok (.aload_n 0, 1) := by decide +kernel
theorem sq_Road_ends_43 : rn G mm_Road_ends 43 [some (.ref z), a1, a2, a3] st S P ↔ rn G mm_Road_ends 44 [some (.ref z), a1, a2, a3] (.ref z :: st) S P := rn_s dq_Road_ends_43 rfl rfl rfl
theorem dq_Road_ends_44 : decode (km_c mm_Road_ends) 44 = .ok (.getfield 10, 3) := by decide +kernel
theorem sq_Road_ends_44_0 (ho : sx_o o pl kp) : rn (lt_G o L) mm_Road_ends 44 lv (.ref 0 :: st) (sx pl kp I A) P ↔ rn (lt_G o L) mm_Road_ends 47 lv (.ref 1 :: st) (sx pl kp I A) P := rx_get (h := "") (ci := 9) (k := 0) dq_Road_ends_44 (by decide +kernel) ho (up_b (by decide)) rfl rfl (fl_r (by decide) (by decide) (by decide) (by decide))
theorem dq_Road_ends_47 : decode (km_c mm_Road_ends) 47 = .ok (.iload_n 2, 1) := by decide +kernel
theorem sq_Road_ends_47 : rn G mm_Road_ends 47 [a0, a1, some (.int x), a3] st S P ↔ rn G mm_Road_ends 48 [a0, a1, some (.int x), a3] (.int x :: st) S P := rn_s dq_Road_ends_47 rfl rfl rfl
theorem dq_Road_ends_48 : decode (km_c mm_Road_ends) 48 = .ok (.putfield 181, 3) := by decide +kernel
theorem sq_Road_ends_48_1 (ho : sx_o o pl kp) : rn (lt_G o L) mm_Road_ends 48 lv (.int x :: .ref 1 :: st) (sx pl kp I A) P ↔ rn (lt_G o L) mm_Road_ends 51 lv st (sx pl kp (u2 I 1 5 x) A) P := rx_put (h := "DeltaRoad") (ci := 8) (k := 5) dq_Road_ends_48 (by decide +kernel) ho (up_b (by decide)) rfl rfl (by decide) (by decide)
theorem sq_Road_ends_48_136 (ho : sx_o o pl true) : rn (lt_G o L) mm_Road_ends 48 lv (.int x :: .ref 136 :: st) (sx pl true I A) P ↔ rn (lt_G o L) mm_Road_ends 51 lv st (sx pl true (u2 I 136 5 x) A) P := rx_put (h := "DeltaRoad") (ci := 8) (k := 5) dq_Road_ends_48 (by decide +kernel) ho (up_k (by decide) (by decide)) rfl rfl (by decide) (by decide)
theorem dq_Road_ends_51 : decode (km_c mm_Road_ends) 51 = .ok (.aload_n 0, 1) := by decide +kernel
theorem sq_Road_ends_51 : rn G mm_Road_ends 51 [some (.ref z), a1, a2, a3] st S P ↔ rn G mm_Road_ends 52 [some (.ref z), a1, a2, a3] (.ref z :: st) S P := rn_s dq_Road_ends_51 rfl rfl rfl
theorem dq_Road_ends_52 : decode (km_c mm_Road_ends) 52 = .ok (.invokevirtual 87, 3) := by decide +kernel
theorem sq_Road_ends_52_0  {v : Option Value} {S2 : ks_S} (hc : ev (lt_G o L) mm_Road_forget [.ref 0] (sx pl kp I A) v S2) (ho : sx_o o pl kp) (hst : kx_cat st ≤ 8) : rn (lt_G o L) mm_Road_ends 52 lv (.ref 0 :: st) (sx pl kp I A) P ↔ rn (lt_G o L) mm_Road_ends 55 lv (v.toList ++ st) S2 P := rn_cv (k := 0) (host := "") (E' := mm_Road_forget) dq_Road_ends_52 rfl (ok_v rfl (by decide) (by decide) (Nat.le_add_left _ _) hst (Nat.le_of_ble_eq_true rfl) (Or.inr (rc_v ho (up_b (by decide)) rfl))) rfl rfl hc
theorem dq_Road_ends_55 : decode (km_c mm_Road_ends) 55 = .ok (.iload_n 3, 1) := by decide +kernel
theorem sq_Road_ends_55 : rn G mm_Road_ends 55 [a0, a1, a2, some (.int x)] st S P ↔ rn G mm_Road_ends 56 [a0, a1, a2, some (.int x)] (.int x :: st) S P := rn_s dq_Road_ends_55 rfl rfl rfl
theorem dq_Road_ends_56 : decode (km_c mm_Road_ends) 56 = .ok (.ireturn, 1) := by decide +kernel
theorem sq_Road_ends_56 : rn G mm_Road_ends 56 lv [.int x] S P ↔ P (some (.int x)) S := rn_ir dq_Road_ends_56 rfl
theorem dq_Road_cheapest_0 : decode (km_c mm_Road_cheapest) 0 = .ok (.aload_n 0, 1) := by decide +kernel
theorem sq_Road_cheapest_0 : rn G mm_Road_cheapest 0 [some (.ref z), a1] st S P ↔ rn G mm_Road_cheapest 1 [some (.ref z), a1] (.ref z :: st) S P := rn_s dq_Road_cheapest_0 rfl rfl rfl
theorem dq_Road_cheapest_1 : decode (km_c mm_Road_cheapest) 1 = .ok (.iload_n 1, 1) := by decide +kernel
theorem sq_Road_cheapest_1 : rn G mm_Road_cheapest 1 [a0, some (.int x)] st S P ↔ rn G mm_Road_cheapest 2 [a0, some (.int x)] (.int x :: st) S P := rn_s dq_Road_cheapest_1 rfl rfl rfl
theorem dq_Road_cheapest_2 : decode (km_c mm_Road_cheapest) 2 = .ok (.invokevirtual 184, 3) := by decide +kernel
theorem sq_Road_cheapest_2_0 {x1 : Int32} {v : Option Value} {S2 : ks_S} (hc : ev (lt_G o L) mm_Road_noSet [.ref 0, .int x1] (sx pl kp I A) v S2) (ho : sx_o o pl kp) (hst : kx_cat st ≤ 8) : rn (lt_G o L) mm_Road_cheapest 2 lv (.int x1 :: .ref 0 :: st) (sx pl kp I A) P ↔ rn (lt_G o L) mm_Road_cheapest 5 lv (v.toList ++ st) S2 P := rn_cv (k := 0) (host := "") (E' := mm_Road_noSet) dq_Road_cheapest_2 rfl (ok_v rfl (by decide) (by decide) (Nat.le_add_left _ _) hst (Nat.le_of_ble_eq_true rfl) (Or.inr (rc_v ho (up_b (by decide)) rfl))) rfl rfl hc
theorem dq_Road_cheapest_5 : decode (km_c mm_Road_cheapest) 5 = .ok (.ifCond .eq 5, 3) := by decide +kernel
theorem sq_Road_cheapest_5 : rn G mm_Road_cheapest 5 lv (.int x :: st) S P ↔ ((x = 0 → rn G mm_Road_cheapest 10 lv st S P) ∧ (¬ (x = 0) → rn G mm_Road_cheapest 8 lv st S P)) := rn_b (off := 5) dq_Road_cheapest_5 rfl rfl rfl rfl
theorem dq_Road_cheapest_8 : decode (km_c mm_Road_cheapest) 8 = .ok (.iconst (-1), 1) := by decide +kernel
theorem sq_Road_cheapest_8 : rn G mm_Road_cheapest 8 lv st S P ↔ rn G mm_Road_cheapest 9 lv (.int ((-1)) :: st) S P := rn_s dq_Road_cheapest_8 rfl rfl rfl
theorem dq_Road_cheapest_9 : decode (km_c mm_Road_cheapest) 9 = .ok (.ireturn, 1) := by decide +kernel
theorem sq_Road_cheapest_9 : rn G mm_Road_cheapest 9 lv [.int x] S P ↔ P (some (.int x)) S := rn_ir dq_Road_cheapest_9 rfl
theorem dq_Road_cheapest_10 : decode (km_c mm_Road_cheapest) 10 = .ok (.aload_n 0, 1) := by decide +kernel
theorem sq_Road_cheapest_10 : rn G mm_Road_cheapest 10 [some (.ref z), a1] st S P ↔ rn G mm_Road_cheapest 11 [some (.ref z), a1] (.ref z :: st) S P := rn_s dq_Road_cheapest_10 rfl rfl rfl
theorem dq_Road_cheapest_11 : decode (km_c mm_Road_cheapest) 11 = .ok (.invokevirtual 187, 3) := by decide +kernel
theorem sq_Road_cheapest_11_0  {v : Option Value} {S2 : ks_S} (hc : ev (lt_G o L) mm_Road_planNow [.ref 0] (sx pl kp I A) v S2) (ho : sx_o o pl kp) (hst : kx_cat st ≤ 8) : rn (lt_G o L) mm_Road_cheapest 11 lv (.ref 0 :: st) (sx pl kp I A) P ↔ rn (lt_G o L) mm_Road_cheapest 14 lv (v.toList ++ st) S2 P := rn_cv (k := 0) (host := "") (E' := mm_Road_planNow) dq_Road_cheapest_11 rfl (ok_v rfl (by decide) (by decide) (Nat.le_add_left _ _) hst (Nat.le_of_ble_eq_true rfl) (Or.inr (rc_v ho (up_b (by decide)) rfl))) rfl rfl hc
theorem dq_Road_cheapest_14 : decode (km_c mm_Road_cheapest) 14 = .ok (.iload_n 1, 1) := by decide +kernel
theorem sq_Road_cheapest_14 : rn G mm_Road_cheapest 14 [a0, some (.int x)] st S P ↔ rn G mm_Road_cheapest 15 [a0, some (.int x)] (.int x :: st) S P := rn_s dq_Road_cheapest_14 rfl rfl rfl
theorem dq_Road_cheapest_15 : decode (km_c mm_Road_cheapest) 15 = .ok (.invokevirtual 191, 3) := by decide +kernel
theorem sq_Road_cheapest_15_65 {x1 : Int32} {v : Option Value} {S2 : ks_S} (hc : ev (lt_G o L) mm_Plan_costFor [.ref 65, .int x1] (sx true kp I A) v S2) (ho : sx_o o true kp) (hst : kx_cat st ≤ 8) : rn (lt_G o L) mm_Road_cheapest 15 lv (.int x1 :: .ref 65 :: st) (sx true kp I A) P ↔ rn (lt_G o L) mm_Road_cheapest 18 lv (v.toList ++ st) S2 P := rn_cv (k := 0) (host := "") (E' := mm_Plan_costFor) dq_Road_cheapest_15 rfl (ok_v rfl (by decide) (by decide) (Nat.le_add_left _ _) hst (Nat.le_of_ble_eq_true rfl) (Or.inr (rc_v ho (up_p (by decide)) rfl))) rfl rfl hc
theorem dq_Road_cheapest_18 : decode (km_c mm_Road_cheapest) 18 = .ok (.ireturn, 1) := by decide +kernel
theorem sq_Road_cheapest_18 : rn G mm_Road_cheapest 18 lv [.int x] S P ↔ P (some (.int x)) S := rn_ir dq_Road_cheapest_18 rfl
theorem dq_Road_noSet_0 : decode (km_c mm_Road_noSet) 0 = .ok (.iload_n 1, 1) := by decide +kernel
theorem sq_Road_noSet_0 : rn G mm_Road_noSet 0 [a0, some (.int x)] st S P ↔ rn G mm_Road_noSet 1 [a0, some (.int x)] (.int x :: st) S P := rn_s dq_Road_noSet_0 rfl rfl rfl
theorem dq_Road_noSet_1 : decode (km_c mm_Road_noSet) 1 = .ok (.iconst 0, 1) := by decide +kernel
theorem sq_Road_noSet_1 : rn G mm_Road_noSet 1 lv st S P ↔ rn G mm_Road_noSet 2 lv (.int (nI 0) :: st) S P := rn_s dq_Road_noSet_1 rfl rfl rfl
theorem dq_Road_noSet_2 : decode (km_c mm_Road_noSet) 2 = .ok (.aload_n 0, 1) := by decide +kernel
theorem sq_Road_noSet_2 : rn G mm_Road_noSet 2 [some (.ref z), a1] st S P ↔ rn G mm_Road_noSet 3 [some (.ref z), a1] (.ref z :: st) S P := rn_s dq_Road_noSet_2 rfl rfl rfl
theorem dq_Road_noSet_3 : decode (km_c mm_Road_noSet) 3 = .ok (.getfield 10, 3) := by decide +kernel
theorem sq_Road_noSet_3_0 (ho : sx_o o pl kp) : rn (lt_G o L) mm_Road_noSet 3 lv (.ref 0 :: st) (sx pl kp I A) P ↔ rn (lt_G o L) mm_Road_noSet 6 lv (.ref 1 :: st) (sx pl kp I A) P := rx_get (h := "") (ci := 9) (k := 0) dq_Road_noSet_3 (by decide +kernel) ho (up_b (by decide)) rfl rfl (fl_r (by decide) (by decide) (by decide) (by decide))
theorem dq_Road_noSet_6 : decode (km_c mm_Road_noSet) 6 = .ok (.getfield 141, 3) := by decide +kernel
theorem sq_Road_noSet_6_1 (ho : sx_o o pl kp) : rn (lt_G o L) mm_Road_noSet 6 lv (.ref 1 :: st) (sx pl kp I A) P ↔ rn (lt_G o L) mm_Road_noSet 9 lv (.ref 9 :: st) (sx pl kp I A) P := rx_get (h := "DeltaRoad") (ci := 8) (k := 1) dq_Road_noSet_6 (by decide +kernel) ho (up_b (by decide)) rfl rfl (fl_r (by decide) (by decide) (by decide) (by decide))
theorem sq_Road_noSet_6_136 (ho : sx_o o pl true) : rn (lt_G o L) mm_Road_noSet 6 lv (.ref 136 :: st) (sx pl true I A) P ↔ rn (lt_G o L) mm_Road_noSet 9 lv (.ref 144 :: st) (sx pl true I A) P := rx_get (h := "DeltaRoad") (ci := 8) (k := 1) dq_Road_noSet_6 (by decide +kernel) ho (up_k (by decide) (by decide)) rfl rfl (fl_k (by decide) (by decide))
theorem dq_Road_noSet_9 : decode (km_c mm_Road_noSet) 9 = .ok (.invokevirtual 201, 3) := by decide +kernel
theorem sq_Road_noSet_9_9  {v : Option Value} {S2 : ks_S} (hc : ev (lt_G o L) mm_Villages_sets [.ref 9] (sx pl kp I A) v S2) (ho : sx_o o pl kp) (hst : kx_cat st ≤ 8) : rn (lt_G o L) mm_Road_noSet 9 lv (.ref 9 :: st) (sx pl kp I A) P ↔ rn (lt_G o L) mm_Road_noSet 12 lv (v.toList ++ st) S2 P := rn_cv (k := 0) (host := "") (E' := mm_Villages_sets) dq_Road_noSet_9 rfl (ok_v rfl (by decide) (by decide) (Nat.le_add_left _ _) hst (Nat.le_of_ble_eq_true rfl) (Or.inr (rc_v ho (up_b (by decide)) rfl))) rfl rfl hc
theorem sq_Road_noSet_9_42  {v : Option Value} {S2 : ks_S} (hc : ev (lt_G o L) mm_Villages_sets [.ref 42] (sx pl kp I A) v S2) (ho : sx_o o pl kp) (hst : kx_cat st ≤ 8) : rn (lt_G o L) mm_Road_noSet 9 lv (.ref 42 :: st) (sx pl kp I A) P ↔ rn (lt_G o L) mm_Road_noSet 12 lv (v.toList ++ st) S2 P := rn_cv (k := 0) (host := "") (E' := mm_Villages_sets) dq_Road_noSet_9 rfl (ok_v rfl (by decide) (by decide) (Nat.le_add_left _ _) hst (Nat.le_of_ble_eq_true rfl) (Or.inr (rc_v ho (up_b (by decide)) rfl))) rfl rfl hc
theorem sq_Road_noSet_9_144  {v : Option Value} {S2 : ks_S} (hc : ev (lt_G o L) mm_Villages_sets [.ref 144] (sx pl true I A) v S2) (ho : sx_o o pl true) (hst : kx_cat st ≤ 8) : rn (lt_G o L) mm_Road_noSet 9 lv (.ref 144 :: st) (sx pl true I A) P ↔ rn (lt_G o L) mm_Road_noSet 12 lv (v.toList ++ st) S2 P := rn_cv (k := 0) (host := "") (E' := mm_Villages_sets) dq_Road_noSet_9 rfl (ok_v rfl (by decide) (by decide) (Nat.le_add_left _ _) hst (Nat.le_of_ble_eq_true rfl) (Or.inr (rc_v ho (up_k (by decide) (by decide)) rfl))) rfl rfl hc
theorem dq_Road_noSet_12 : decode (km_c mm_Road_noSet) 12 = .ok (.iconst 1, 1) := by decide +kernel
theorem sq_Road_noSet_12 : rn G mm_Road_noSet 12 lv st S P ↔ rn G mm_Road_noSet 13 lv (.int (nI 1) :: st) S P := rn_s dq_Road_noSet_12 rfl rfl rfl
theorem dq_Road_noSet_13 : decode (km_c mm_Road_noSet) 13 = .ok (.isub, 1) := by decide +kernel
theorem sq_Road_noSet_13 : rn G mm_Road_noSet 13 lv (.int x2 :: .int x :: st) S P ↔ rn G mm_Road_noSet 14 lv (.int (x - x2) :: st) S P := rn_s dq_Road_noSet_13 rfl rfl rfl
theorem dq_Road_noSet_14 : decode (km_c mm_Road_noSet) 14 = .ok (.invokestatic 72, 3) := by decide +kernel
theorem sq_Road_noSet_14 {x1 : Int32} {x2 : Int32} {x3 : Int32} {v : Option Value} {S2 : ks_S} (hc : ev G mm_Road_outside [.int x1, .int x2, .int x3] S v S2) (hst : kx_cat st ≤ 8) : rn G mm_Road_noSet 14 lv (.int x3 :: .int x2 :: .int x1 :: st) S P ↔ rn G mm_Road_noSet 17 lv (v.toList ++ st) S2 P := rn_cs (k := 1) (host := "") (E' := mm_Road_outside) dq_Road_noSet_14 (by decide) (by decide) rfl (ok_v rfl (by decide) (by decide) (Nat.le_add_left _ _) hst (Nat.le_of_ble_eq_true rfl) (Or.inl rfl)) rfl rfl hc
theorem dq_Road_noSet_17 : decode (km_c mm_Road_noSet) 17 = .ok (.ireturn, 1) := by decide +kernel
theorem sq_Road_noSet_17_0 : rn G mm_Road_noSet 17 lv [.int (nI 0)] S P ↔ P (some (.int (nI 0))) S := rn_ir dq_Road_noSet_17 (by decide)
theorem sq_Road_noSet_17_1 : rn G mm_Road_noSet 17 lv [.int (nI 1)] S P ↔ P (some (.int (nI 1))) S := rn_ir dq_Road_noSet_17 (by decide)
theorem dq_Road_planNow_0 : decode (km_c mm_Road_planNow) 0 = .ok (.aload_n 0, 1) := by decide +kernel
theorem sq_Road_planNow_0 : rn G mm_Road_planNow 0 [some (.ref z), a1] st S P ↔ rn G mm_Road_planNow 1 [some (.ref z), a1] (.ref z :: st) S P := rn_s dq_Road_planNow_0 rfl rfl rfl
theorem dq_Road_planNow_1 : decode (km_c mm_Road_planNow) 1 = .ok (.getfield 57, 3) := by decide +kernel
theorem sq_Road_planNow_1_0t (ho : sx_o o true kp) : rn (lt_G o L) mm_Road_planNow 1 lv (.ref 0 :: st) (sx true kp I A) P ↔ rn (lt_G o L) mm_Road_planNow 4 lv (.ref 65 :: st) (sx true kp I A) P := rx_get (h := "") (ci := 9) (k := 8) dq_Road_planNow_1 (by decide +kernel) ho (up_b (by decide)) rfl rfl rfl
theorem sq_Road_planNow_1_0f (ho : sx_o o false kp) : rn (lt_G o L) mm_Road_planNow 1 lv (.ref 0 :: st) (sx false kp I A) P ↔ rn (lt_G o L) mm_Road_planNow 4 lv (.null :: st) (sx false kp I A) P := rx_get (h := "") (ci := 9) (k := 8) dq_Road_planNow_1 (by decide +kernel) ho (up_b (by decide)) rfl rfl rfl
theorem dq_Road_planNow_4 : decode (km_c mm_Road_planNow) 4 = .ok (.ifnonnull 14, 3) := by decide +kernel
theorem sq_Road_planNow_4r : rn G mm_Road_planNow 4 lv (.ref z :: st) S P ↔ rn G mm_Road_planNow 18 lv st S P := rn_s dq_Road_planNow_4 rfl rfl rfl
theorem sq_Road_planNow_4n : rn G mm_Road_planNow 4 lv (.null :: st) S P ↔ rn G mm_Road_planNow 7 lv st S P := rn_s dq_Road_planNow_4 rfl rfl rfl
theorem dq_Road_planNow_7 : decode (km_c mm_Road_planNow) 7 = .ok (.aload_n 0, 1) := by decide +kernel
theorem sq_Road_planNow_7 : rn G mm_Road_planNow 7 [some (.ref z), a1] st S P ↔ rn G mm_Road_planNow 8 [some (.ref z), a1] (.ref z :: st) S P := rn_s dq_Road_planNow_7 rfl rfl rfl
theorem dq_Road_planNow_8 : decode (km_c mm_Road_planNow) 8 = .ok (.new 192, 3) := by decide +kernel
theorem dq_Road_planNow_11 : decode (km_c mm_Road_planNow) 11 = .ok (.dup, 1) := by decide +kernel
theorem sq_Road_planNow_11i : rn G mm_Road_planNow 11 lv (.int x :: st) S P ↔ rn G mm_Road_planNow 12 lv (.int x :: .int x :: st) S P := rn_s dq_Road_planNow_11 rfl rfl rfl
theorem sq_Road_planNow_11r : rn G mm_Road_planNow 11 lv (.ref z :: st) S P ↔ rn G mm_Road_planNow 12 lv (.ref z :: .ref z :: st) S P := rn_s dq_Road_planNow_11 rfl rfl rfl
theorem dq_Road_planNow_12 : decode (km_c mm_Road_planNow) 12 = .ok (.invokespecial 311, 3) := by decide +kernel
theorem sq_Road_planNow_12_65  {v : Option Value} {S2 : ks_S} (hc : ev (lt_G o L) mm_Plan_init [.ref 65] (sx true kp I A) v S2) (ho : sx_o o true kp) (hst : kx_cat st ≤ 8) : rn (lt_G o L) mm_Road_planNow 12 lv (.ref 65 :: st) (sx true kp I A) P ↔ rn (lt_G o L) mm_Road_planNow 15 lv (v.toList ++ st) S2 P := rn_ci (k := 2) (host := "DeltaRoad") (E' := mm_Plan_init) dq_Road_planNow_12 (by decide) rfl (ok_v rfl (by decide) (by decide) (Nat.le_add_left _ _) hst (Nat.le_of_ble_eq_true rfl) (Or.inr (rc_v ho (up_p (by decide)) rfl))) rfl rfl hc
theorem dq_Road_planNow_15 : decode (km_c mm_Road_planNow) 15 = .ok (.putfield 57, 3) := by decide +kernel
theorem dq_Road_planNow_18 : decode (km_c mm_Road_planNow) 18 = .ok (.aload_n 0, 1) := by decide +kernel
theorem sq_Road_planNow_18 : rn G mm_Road_planNow 18 [some (.ref z), a1] st S P ↔ rn G mm_Road_planNow 19 [some (.ref z), a1] (.ref z :: st) S P := rn_s dq_Road_planNow_18 rfl rfl rfl
theorem dq_Road_planNow_19 : decode (km_c mm_Road_planNow) 19 = .ok (.getfield 65, 3) := by decide +kernel
theorem sq_Road_planNow_19_0 (ho : sx_o o pl kp) : rn (lt_G o L) mm_Road_planNow 19 lv (.ref 0 :: st) (sx pl kp I A) P ↔ rn (lt_G o L) mm_Road_planNow 22 lv (.int (I 0 10) :: st) (sx pl kp I A) P := rx_get (h := "") (ci := 9) (k := 10) dq_Road_planNow_19 (by decide +kernel) ho (up_b (by decide)) rfl rfl (fl_z (by decide))
theorem dq_Road_planNow_22 : decode (km_c mm_Road_planNow) 22 = .ok (.ifCond .ne 67, 3) := by decide +kernel
theorem sq_Road_planNow_22 : rn G mm_Road_planNow 22 lv (.int x :: st) S P ↔ ((¬ x = 0 → rn G mm_Road_planNow 89 lv st S P) ∧ (¬ (¬ x = 0) → rn G mm_Road_planNow 25 lv st S P)) := rn_b (off := 67) dq_Road_planNow_22 rfl rfl rfl rfl
theorem dq_Road_planNow_25 : decode (km_c mm_Road_planNow) 25 = .ok (.iconst 0, 1) := by decide +kernel
theorem sq_Road_planNow_25 : rn G mm_Road_planNow 25 lv st S P ↔ rn G mm_Road_planNow 26 lv (.int (nI 0) :: st) S P := rn_s dq_Road_planNow_25 rfl rfl rfl
theorem dq_Road_planNow_26 : decode (km_c mm_Road_planNow) 26 = .ok (.istore_n 1, 1) := by decide +kernel
theorem sq_Road_planNow_26n : rn G mm_Road_planNow 26 [none, a1] (.int x :: st) S P ↔ rn G mm_Road_planNow 27 [none, some (.int x)] st S P := rn_s dq_Road_planNow_26 rfl rfl rfl
theorem sq_Road_planNow_26i : rn G mm_Road_planNow 26 [some (.int x2), a1] (.int x :: st) S P ↔ rn G mm_Road_planNow 27 [some (.int x2), some (.int x)] st S P := rn_s dq_Road_planNow_26 rfl rfl rfl
theorem sq_Road_planNow_26r : rn G mm_Road_planNow 26 [some (.ref z2), a1] (.int x :: st) S P ↔ rn G mm_Road_planNow 27 [some (.ref z2), some (.int x)] st S P := rn_s dq_Road_planNow_26 rfl rfl rfl
theorem dq_Road_planNow_27 : decode (km_c mm_Road_planNow) 27 = .ok (.iload_n 1, 1) := by decide +kernel
theorem sq_Road_planNow_27 : rn G mm_Road_planNow 27 [a0, some (.int x)] st S P ↔ rn G mm_Road_planNow 28 [a0, some (.int x)] (.int x :: st) S P := rn_s dq_Road_planNow_27 rfl rfl rfl
theorem dq_Road_planNow_28 : decode (km_c mm_Road_planNow) 28 = .ok (.bipush 49, 2) := by decide +kernel
theorem sq_Road_planNow_28 : rn G mm_Road_planNow 28 lv st S P ↔ rn G mm_Road_planNow 30 lv (.int (nI 49) :: st) S P := rn_s dq_Road_planNow_28 rfl rfl rfl
theorem dq_Road_planNow_30 : decode (km_c mm_Road_planNow) 30 = .ok (.if_icmp .ge 33, 3) := by decide +kernel
theorem sq_Road_planNow_30 : rn G mm_Road_planNow 30 lv (.int x2 :: .int x :: st) S P ↔ ((x2 ≤ x → rn G mm_Road_planNow 63 lv st S P) ∧ (¬ (x2 ≤ x) → rn G mm_Road_planNow 33 lv st S P)) := rn_b (off := 33) dq_Road_planNow_30 rfl rfl rfl rfl
theorem dq_Road_planNow_33 : decode (km_c mm_Road_planNow) 33 = .ok (.aload_n 0, 1) := by decide +kernel
theorem sq_Road_planNow_33 : rn G mm_Road_planNow 33 [some (.ref z), a1] st S P ↔ rn G mm_Road_planNow 34 [some (.ref z), a1] (.ref z :: st) S P := rn_s dq_Road_planNow_33 rfl rfl rfl
theorem dq_Road_planNow_34 : decode (km_c mm_Road_planNow) 34 = .ok (.getfield 57, 3) := by decide +kernel
theorem sq_Road_planNow_34_0t (ho : sx_o o true kp) : rn (lt_G o L) mm_Road_planNow 34 lv (.ref 0 :: st) (sx true kp I A) P ↔ rn (lt_G o L) mm_Road_planNow 37 lv (.ref 65 :: st) (sx true kp I A) P := rx_get (h := "") (ci := 9) (k := 8) dq_Road_planNow_34 (by decide +kernel) ho (up_b (by decide)) rfl rfl rfl
theorem sq_Road_planNow_34_0f (ho : sx_o o false kp) : rn (lt_G o L) mm_Road_planNow 34 lv (.ref 0 :: st) (sx false kp I A) P ↔ rn (lt_G o L) mm_Road_planNow 37 lv (.null :: st) (sx false kp I A) P := rx_get (h := "") (ci := 9) (k := 8) dq_Road_planNow_34 (by decide +kernel) ho (up_b (by decide)) rfl rfl rfl
theorem dq_Road_planNow_37 : decode (km_c mm_Road_planNow) 37 = .ok (.iload_n 1, 1) := by decide +kernel
theorem sq_Road_planNow_37 : rn G mm_Road_planNow 37 [a0, some (.int x)] st S P ↔ rn G mm_Road_planNow 38 [a0, some (.int x)] (.int x :: st) S P := rn_s dq_Road_planNow_37 rfl rfl rfl
theorem dq_Road_planNow_38 : decode (km_c mm_Road_planNow) 38 = .ok (.aload_n 0, 1) := by decide +kernel
theorem sq_Road_planNow_38 : rn G mm_Road_planNow 38 [some (.ref z), a1] st S P ↔ rn G mm_Road_planNow 39 [some (.ref z), a1] (.ref z :: st) S P := rn_s dq_Road_planNow_38 rfl rfl rfl
theorem dq_Road_planNow_39 : decode (km_c mm_Road_planNow) 39 = .ok (.iload_n 1, 1) := by decide +kernel
theorem sq_Road_planNow_39 : rn G mm_Road_planNow 39 [a0, some (.int x)] st S P ↔ rn G mm_Road_planNow 40 [a0, some (.int x)] (.int x :: st) S P := rn_s dq_Road_planNow_39 rfl rfl rfl
theorem dq_Road_planNow_40 : decode (km_c mm_Road_planNow) 40 = .ok (.invokevirtual 97, 3) := by decide +kernel
theorem sq_Road_planNow_40_0 {x1 : Int32} {v : Option Value} {S2 : ks_S} (hc : ev (lt_G o L) mm_Road_costOf [.ref 0, .int x1] (sx pl kp I A) v S2) (ho : sx_o o pl kp) (hst : kx_cat st ≤ 8) : rn (lt_G o L) mm_Road_planNow 40 lv (.int x1 :: .ref 0 :: st) (sx pl kp I A) P ↔ rn (lt_G o L) mm_Road_planNow 43 lv (v.toList ++ st) S2 P := rn_cv (k := 0) (host := "") (E' := mm_Road_costOf) dq_Road_planNow_40 rfl (ok_v rfl (by decide) (by decide) (Nat.le_add_left _ _) hst (Nat.le_of_ble_eq_true rfl) (Or.inr (rc_v ho (up_b (by decide)) rfl))) rfl rfl hc
theorem dq_Road_planNow_43 : decode (km_c mm_Road_planNow) 43 = .ok (.aload_n 0, 1) := by decide +kernel
theorem sq_Road_planNow_43 : rn G mm_Road_planNow 43 [some (.ref z), a1] st S P ↔ rn G mm_Road_planNow 44 [some (.ref z), a1] (.ref z :: st) S P := rn_s dq_Road_planNow_43 rfl rfl rfl
theorem dq_Road_planNow_44 : decode (km_c mm_Road_planNow) 44 = .ok (.getfield 10, 3) := by decide +kernel
theorem sq_Road_planNow_44_0 (ho : sx_o o pl kp) : rn (lt_G o L) mm_Road_planNow 44 lv (.ref 0 :: st) (sx pl kp I A) P ↔ rn (lt_G o L) mm_Road_planNow 47 lv (.ref 1 :: st) (sx pl kp I A) P := rx_get (h := "") (ci := 9) (k := 0) dq_Road_planNow_44 (by decide +kernel) ho (up_b (by decide)) rfl rfl (fl_r (by decide) (by decide) (by decide) (by decide))
theorem dq_Road_planNow_47 : decode (km_c mm_Road_planNow) 47 = .ok (.getfield 141, 3) := by decide +kernel
theorem sq_Road_planNow_47_1 (ho : sx_o o pl kp) : rn (lt_G o L) mm_Road_planNow 47 lv (.ref 1 :: st) (sx pl kp I A) P ↔ rn (lt_G o L) mm_Road_planNow 50 lv (.ref 9 :: st) (sx pl kp I A) P := rx_get (h := "DeltaRoad") (ci := 8) (k := 1) dq_Road_planNow_47 (by decide +kernel) ho (up_b (by decide)) rfl rfl (fl_r (by decide) (by decide) (by decide) (by decide))
theorem sq_Road_planNow_47_136 (ho : sx_o o pl true) : rn (lt_G o L) mm_Road_planNow 47 lv (.ref 136 :: st) (sx pl true I A) P ↔ rn (lt_G o L) mm_Road_planNow 50 lv (.ref 144 :: st) (sx pl true I A) P := rx_get (h := "DeltaRoad") (ci := 8) (k := 1) dq_Road_planNow_47 (by decide +kernel) ho (up_k (by decide) (by decide)) rfl rfl (fl_k (by decide) (by decide))
theorem dq_Road_planNow_50 : decode (km_c mm_Road_planNow) 50 = .ok (.iload_n 1, 1) := by decide +kernel
theorem sq_Road_planNow_50 : rn G mm_Road_planNow 50 [a0, some (.int x)] st S P ↔ rn G mm_Road_planNow 51 [a0, some (.int x)] (.int x :: st) S P := rn_s dq_Road_planNow_50 rfl rfl rfl
theorem dq_Road_planNow_51 : decode (km_c mm_Road_planNow) 51 = .ok (.invokevirtual 312, 3) := by decide +kernel
theorem sq_Road_planNow_51_9 {x1 : Int32} {v : Option Value} {S2 : ks_S} (hc : ev (lt_G o L) mm_Villages_servedFrom [.ref 9, .int x1] (sx pl kp I A) v S2) (ho : sx_o o pl kp) (hst : kx_cat st ≤ 8) : rn (lt_G o L) mm_Road_planNow 51 lv (.int x1 :: .ref 9 :: st) (sx pl kp I A) P ↔ rn (lt_G o L) mm_Road_planNow 54 lv (v.toList ++ st) S2 P := rn_cv (k := 0) (host := "") (E' := mm_Villages_servedFrom) dq_Road_planNow_51 rfl (ok_v rfl (by decide) (by decide) (Nat.le_add_left _ _) hst (Nat.le_of_ble_eq_true rfl) (Or.inr (rc_v ho (up_b (by decide)) rfl))) rfl rfl hc
theorem sq_Road_planNow_51_42 {x1 : Int32} {v : Option Value} {S2 : ks_S} (hc : ev (lt_G o L) mm_Villages_servedFrom [.ref 42, .int x1] (sx pl kp I A) v S2) (ho : sx_o o pl kp) (hst : kx_cat st ≤ 8) : rn (lt_G o L) mm_Road_planNow 51 lv (.int x1 :: .ref 42 :: st) (sx pl kp I A) P ↔ rn (lt_G o L) mm_Road_planNow 54 lv (v.toList ++ st) S2 P := rn_cv (k := 0) (host := "") (E' := mm_Villages_servedFrom) dq_Road_planNow_51 rfl (ok_v rfl (by decide) (by decide) (Nat.le_add_left _ _) hst (Nat.le_of_ble_eq_true rfl) (Or.inr (rc_v ho (up_b (by decide)) rfl))) rfl rfl hc
theorem sq_Road_planNow_51_144 {x1 : Int32} {v : Option Value} {S2 : ks_S} (hc : ev (lt_G o L) mm_Villages_servedFrom [.ref 144, .int x1] (sx pl true I A) v S2) (ho : sx_o o pl true) (hst : kx_cat st ≤ 8) : rn (lt_G o L) mm_Road_planNow 51 lv (.int x1 :: .ref 144 :: st) (sx pl true I A) P ↔ rn (lt_G o L) mm_Road_planNow 54 lv (v.toList ++ st) S2 P := rn_cv (k := 0) (host := "") (E' := mm_Villages_servedFrom) dq_Road_planNow_51 rfl (ok_v rfl (by decide) (by decide) (Nat.le_add_left _ _) hst (Nat.le_of_ble_eq_true rfl) (Or.inr (rc_v ho (up_k (by decide) (by decide)) rfl))) rfl rfl hc
theorem dq_Road_planNow_54 : decode (km_c mm_Road_planNow) 54 = .ok (.invokevirtual 315, 3) := by decide +kernel
theorem sq_Road_planNow_54_65 {x1 : Int32} {x2 : Int32} {x3 : Int32} {v : Option Value} {S2 : ks_S} (hc : ev (lt_G o L) mm_Plan_survey [.ref 65, .int x1, .int x2, .int x3] (sx true kp I A) v S2) (ho : sx_o o true kp) (hst : kx_cat st ≤ 8) : rn (lt_G o L) mm_Road_planNow 54 lv (.int x3 :: .int x2 :: .int x1 :: .ref 65 :: st) (sx true kp I A) P ↔ rn (lt_G o L) mm_Road_planNow 57 lv (v.toList ++ st) S2 P := rn_cv (k := 0) (host := "") (E' := mm_Plan_survey) dq_Road_planNow_54 rfl (ok_v rfl (by decide) (by decide) (Nat.le_add_left _ _) hst (Nat.le_of_ble_eq_true rfl) (Or.inr (rc_v ho (up_p (by decide)) rfl))) rfl rfl hc
theorem dq_Road_planNow_57 : decode (km_c mm_Road_planNow) 57 = .ok (.iinc 1 1, 3) := by decide +kernel
theorem sq_Road_planNow_57n : rn G mm_Road_planNow 57 [none, some (.int x)] st S P ↔ rn G mm_Road_planNow 60 [none, some (.int (x + nI 1))] st S P := rn_s dq_Road_planNow_57 rfl rfl rfl
theorem sq_Road_planNow_57i : rn G mm_Road_planNow 57 [some (.int x2), some (.int x)] st S P ↔ rn G mm_Road_planNow 60 [some (.int x2), some (.int (x + nI 1))] st S P := rn_s dq_Road_planNow_57 rfl rfl rfl
theorem sq_Road_planNow_57r : rn G mm_Road_planNow 57 [some (.ref z2), some (.int x)] st S P ↔ rn G mm_Road_planNow 60 [some (.ref z2), some (.int (x + nI 1))] st S P := rn_s dq_Road_planNow_57 rfl rfl rfl
theorem dq_Road_planNow_60 : decode (km_c mm_Road_planNow) 60 = .ok (.goto (-33), 3) := by decide +kernel
theorem sq_Road_planNow_60 : rn G mm_Road_planNow 60 lv st S P ↔ rn G mm_Road_planNow 27 lv st S P := rn_s dq_Road_planNow_60 rfl rfl rfl
theorem dq_Road_planNow_63 : decode (km_c mm_Road_planNow) 63 = .ok (.aload_n 0, 1) := by decide +kernel
theorem sq_Road_planNow_63 : rn G mm_Road_planNow 63 [some (.ref z), a1] st S P ↔ rn G mm_Road_planNow 64 [some (.ref z), a1] (.ref z :: st) S P := rn_s dq_Road_planNow_63 rfl rfl rfl
theorem dq_Road_planNow_64 : decode (km_c mm_Road_planNow) 64 = .ok (.getfield 57, 3) := by decide +kernel
theorem sq_Road_planNow_64_0t (ho : sx_o o true kp) : rn (lt_G o L) mm_Road_planNow 64 lv (.ref 0 :: st) (sx true kp I A) P ↔ rn (lt_G o L) mm_Road_planNow 67 lv (.ref 65 :: st) (sx true kp I A) P := rx_get (h := "") (ci := 9) (k := 8) dq_Road_planNow_64 (by decide +kernel) ho (up_b (by decide)) rfl rfl rfl
theorem sq_Road_planNow_64_0f (ho : sx_o o false kp) : rn (lt_G o L) mm_Road_planNow 64 lv (.ref 0 :: st) (sx false kp I A) P ↔ rn (lt_G o L) mm_Road_planNow 67 lv (.null :: st) (sx false kp I A) P := rx_get (h := "") (ci := 9) (k := 8) dq_Road_planNow_64 (by decide +kernel) ho (up_b (by decide)) rfl rfl rfl
theorem dq_Road_planNow_67 : decode (km_c mm_Road_planNow) 67 = .ok (.aload_n 0, 1) := by decide +kernel
theorem sq_Road_planNow_67 : rn G mm_Road_planNow 67 [some (.ref z), a1] st S P ↔ rn G mm_Road_planNow 68 [some (.ref z), a1] (.ref z :: st) S P := rn_s dq_Road_planNow_67 rfl rfl rfl
theorem dq_Road_planNow_68 : decode (km_c mm_Road_planNow) 68 = .ok (.getfield 10, 3) := by decide +kernel
theorem sq_Road_planNow_68_0 (ho : sx_o o pl kp) : rn (lt_G o L) mm_Road_planNow 68 lv (.ref 0 :: st) (sx pl kp I A) P ↔ rn (lt_G o L) mm_Road_planNow 71 lv (.ref 1 :: st) (sx pl kp I A) P := rx_get (h := "") (ci := 9) (k := 0) dq_Road_planNow_68 (by decide +kernel) ho (up_b (by decide)) rfl rfl (fl_r (by decide) (by decide) (by decide) (by decide))
theorem dq_Road_planNow_71 : decode (km_c mm_Road_planNow) 71 = .ok (.getfield 178, 3) := by decide +kernel
theorem sq_Road_planNow_71_1 (ho : sx_o o pl kp) : rn (lt_G o L) mm_Road_planNow 71 lv (.ref 1 :: st) (sx pl kp I A) P ↔ rn (lt_G o L) mm_Road_planNow 74 lv (.int (I 1 4) :: st) (sx pl kp I A) P := rx_get (h := "DeltaRoad") (ci := 8) (k := 4) dq_Road_planNow_71 (by decide +kernel) ho (up_b (by decide)) rfl rfl (fl_i (by decide))
theorem sq_Road_planNow_71_136 (ho : sx_o o pl true) : rn (lt_G o L) mm_Road_planNow 71 lv (.ref 136 :: st) (sx pl true I A) P ↔ rn (lt_G o L) mm_Road_planNow 74 lv (.int (I 136 4) :: st) (sx pl true I A) P := rx_get (h := "DeltaRoad") (ci := 8) (k := 4) dq_Road_planNow_71 (by decide +kernel) ho (up_k (by decide) (by decide)) rfl rfl (fl_i (by decide))
theorem dq_Road_planNow_74 : decode (km_c mm_Road_planNow) 74 = .ok (.aload_n 0, 1) := by decide +kernel
theorem sq_Road_planNow_74 : rn G mm_Road_planNow 74 [some (.ref z), a1] st S P ↔ rn G mm_Road_planNow 75 [some (.ref z), a1] (.ref z :: st) S P := rn_s dq_Road_planNow_74 rfl rfl rfl
theorem dq_Road_planNow_75 : decode (km_c mm_Road_planNow) 75 = .ok (.getfield 10, 3) := by decide +kernel
theorem sq_Road_planNow_75_0 (ho : sx_o o pl kp) : rn (lt_G o L) mm_Road_planNow 75 lv (.ref 0 :: st) (sx pl kp I A) P ↔ rn (lt_G o L) mm_Road_planNow 78 lv (.ref 1 :: st) (sx pl kp I A) P := rx_get (h := "") (ci := 9) (k := 0) dq_Road_planNow_75 (by decide +kernel) ho (up_b (by decide)) rfl rfl (fl_r (by decide) (by decide) (by decide) (by decide))
theorem dq_Road_planNow_78 : decode (km_c mm_Road_planNow) 78 = .ok (.getfield 181, 3) := by decide +kernel
theorem sq_Road_planNow_78_1 (ho : sx_o o pl kp) : rn (lt_G o L) mm_Road_planNow 78 lv (.ref 1 :: st) (sx pl kp I A) P ↔ rn (lt_G o L) mm_Road_planNow 81 lv (.int (I 1 5) :: st) (sx pl kp I A) P := rx_get (h := "DeltaRoad") (ci := 8) (k := 5) dq_Road_planNow_78 (by decide +kernel) ho (up_b (by decide)) rfl rfl (fl_i (by decide))
theorem sq_Road_planNow_78_136 (ho : sx_o o pl true) : rn (lt_G o L) mm_Road_planNow 78 lv (.ref 136 :: st) (sx pl true I A) P ↔ rn (lt_G o L) mm_Road_planNow 81 lv (.int (I 136 5) :: st) (sx pl true I A) P := rx_get (h := "DeltaRoad") (ci := 8) (k := 5) dq_Road_planNow_78 (by decide +kernel) ho (up_k (by decide) (by decide)) rfl rfl (fl_i (by decide))
theorem dq_Road_planNow_81 : decode (km_c mm_Road_planNow) 81 = .ok (.invokevirtual 318, 3) := by decide +kernel
theorem sq_Road_planNow_81_65 {x1 : Int32} {x2 : Int32} {v : Option Value} {S2 : ks_S} (hc : ev (lt_G o L) mm_Plan_begin [.ref 65, .int x1, .int x2] (sx true kp I A) v S2) (ho : sx_o o true kp) (hst : kx_cat st ≤ 8) : rn (lt_G o L) mm_Road_planNow 81 lv (.int x2 :: .int x1 :: .ref 65 :: st) (sx true kp I A) P ↔ rn (lt_G o L) mm_Road_planNow 84 lv (v.toList ++ st) S2 P := rn_cv (k := 0) (host := "") (E' := mm_Plan_begin) dq_Road_planNow_81 rfl (ok_v rfl (by decide) (by decide) (Nat.le_add_left _ _) hst (Nat.le_of_ble_eq_true rfl) (Or.inr (rc_v ho (up_p (by decide)) rfl))) rfl rfl hc
theorem dq_Road_planNow_84 : decode (km_c mm_Road_planNow) 84 = .ok (.aload_n 0, 1) := by decide +kernel
theorem sq_Road_planNow_84 : rn G mm_Road_planNow 84 [some (.ref z), a1] st S P ↔ rn G mm_Road_planNow 85 [some (.ref z), a1] (.ref z :: st) S P := rn_s dq_Road_planNow_84 rfl rfl rfl
theorem dq_Road_planNow_85 : decode (km_c mm_Road_planNow) 85 = .ok (.iconst 1, 1) := by decide +kernel
theorem sq_Road_planNow_85 : rn G mm_Road_planNow 85 lv st S P ↔ rn G mm_Road_planNow 86 lv (.int (nI 1) :: st) S P := rn_s dq_Road_planNow_85 rfl rfl rfl
theorem dq_Road_planNow_86 : decode (km_c mm_Road_planNow) 86 = .ok (.putfield 65, 3) := by decide +kernel
theorem sq_Road_planNow_86_0 (ho : sx_o o pl kp) (hx : x = 0 ∨ x = 1) : rn (lt_G o L) mm_Road_planNow 86 lv (.int x :: .ref 0 :: st) (sx pl kp I A) P ↔ rn (lt_G o L) mm_Road_planNow 89 lv st (sx pl kp (u2 I 0 10 x) A) P := rx_putZ (h := "") (ci := 9) (k := 10) dq_Road_planNow_86 (by decide +kernel) ho (up_b (by decide)) rfl rfl (by decide) (by decide) hx
theorem dq_Road_planNow_89 : decode (km_c mm_Road_planNow) 89 = .ok (.aload_n 0, 1) := by decide +kernel
theorem sq_Road_planNow_89 : rn G mm_Road_planNow 89 [some (.ref z), a1] st S P ↔ rn G mm_Road_planNow 90 [some (.ref z), a1] (.ref z :: st) S P := rn_s dq_Road_planNow_89 rfl rfl rfl
theorem dq_Road_planNow_90 : decode (km_c mm_Road_planNow) 90 = .ok (.getfield 57, 3) := by decide +kernel
theorem sq_Road_planNow_90_0t (ho : sx_o o true kp) : rn (lt_G o L) mm_Road_planNow 90 lv (.ref 0 :: st) (sx true kp I A) P ↔ rn (lt_G o L) mm_Road_planNow 93 lv (.ref 65 :: st) (sx true kp I A) P := rx_get (h := "") (ci := 9) (k := 8) dq_Road_planNow_90 (by decide +kernel) ho (up_b (by decide)) rfl rfl rfl
theorem sq_Road_planNow_90_0f (ho : sx_o o false kp) : rn (lt_G o L) mm_Road_planNow 90 lv (.ref 0 :: st) (sx false kp I A) P ↔ rn (lt_G o L) mm_Road_planNow 93 lv (.null :: st) (sx false kp I A) P := rx_get (h := "") (ci := 9) (k := 8) dq_Road_planNow_90 (by decide +kernel) ho (up_b (by decide)) rfl rfl rfl
theorem dq_Road_planNow_93 : decode (km_c mm_Road_planNow) 93 = .ok (.areturn, 1) := by decide +kernel
theorem sq_Road_planNow_93 : rn G mm_Road_planNow 93 lv [.ref z] S P ↔ P (some (.ref z)) S := rn_ar dq_Road_planNow_93 rfl
theorem dq_Road_worth_0 : decode (km_c mm_Road_worth) 0 = .ok (.aload_n 0, 1) := by decide +kernel
theorem sq_Road_worth_0 : rn G mm_Road_worth 0 [some (.ref z), a1] st S P ↔ rn G mm_Road_worth 1 [some (.ref z), a1] (.ref z :: st) S P := rn_s dq_Road_worth_0 rfl rfl rfl
theorem dq_Road_worth_1 : decode (km_c mm_Road_worth) 1 = .ok (.iload_n 1, 1) := by decide +kernel
theorem sq_Road_worth_1 : rn G mm_Road_worth 1 [a0, some (.int x)] st S P ↔ rn G mm_Road_worth 2 [a0, some (.int x)] (.int x :: st) S P := rn_s dq_Road_worth_1 rfl rfl rfl
theorem dq_Road_worth_2 : decode (km_c mm_Road_worth) 2 = .ok (.invokevirtual 184, 3) := by decide +kernel
theorem sq_Road_worth_2_0 {x1 : Int32} {v : Option Value} {S2 : ks_S} (hc : ev (lt_G o L) mm_Road_noSet [.ref 0, .int x1] (sx pl kp I A) v S2) (ho : sx_o o pl kp) (hst : kx_cat st ≤ 8) : rn (lt_G o L) mm_Road_worth 2 lv (.int x1 :: .ref 0 :: st) (sx pl kp I A) P ↔ rn (lt_G o L) mm_Road_worth 5 lv (v.toList ++ st) S2 P := rn_cv (k := 0) (host := "") (E' := mm_Road_noSet) dq_Road_worth_2 rfl (ok_v rfl (by decide) (by decide) (Nat.le_add_left _ _) hst (Nat.le_of_ble_eq_true rfl) (Or.inr (rc_v ho (up_b (by decide)) rfl))) rfl rfl hc
theorem dq_Road_worth_5 : decode (km_c mm_Road_worth) 5 = .ok (.ifCond .eq 6, 3) := by decide +kernel
theorem sq_Road_worth_5 : rn G mm_Road_worth 5 lv (.int x :: st) S P ↔ ((x = 0 → rn G mm_Road_worth 11 lv st S P) ∧ (¬ (x = 0) → rn G mm_Road_worth 8 lv st S P)) := rn_b (off := 6) dq_Road_worth_5 rfl rfl rfl rfl
theorem dq_Road_worth_8 : decode (km_c mm_Road_worth) 8 = .ok (.ldc 196, 2) := by decide +kernel
theorem sq_Road_worth_8 : rn G mm_Road_worth 8 lv st S P ↔ rn G mm_Road_worth 10 lv (.int ((-100001)) :: st) S P := rn_s dq_Road_worth_8 rfl rfl rfl
theorem dq_Road_worth_10 : decode (km_c mm_Road_worth) 10 = .ok (.ireturn, 1) := by decide +kernel
theorem sq_Road_worth_10 : rn G mm_Road_worth 10 lv [.int x] S P ↔ P (some (.int x)) S := rn_ir dq_Road_worth_10 rfl
theorem dq_Road_worth_11 : decode (km_c mm_Road_worth) 11 = .ok (.aload_n 0, 1) := by decide +kernel
theorem sq_Road_worth_11 : rn G mm_Road_worth 11 [some (.ref z), a1] st S P ↔ rn G mm_Road_worth 12 [some (.ref z), a1] (.ref z :: st) S P := rn_s dq_Road_worth_11 rfl rfl rfl
theorem dq_Road_worth_12 : decode (km_c mm_Road_worth) 12 = .ok (.aload_n 0, 1) := by decide +kernel
theorem sq_Road_worth_12 : rn G mm_Road_worth 12 [some (.ref z), a1] st S P ↔ rn G mm_Road_worth 13 [some (.ref z), a1] (.ref z :: st) S P := rn_s dq_Road_worth_12 rfl rfl rfl
theorem dq_Road_worth_13 : decode (km_c mm_Road_worth) 13 = .ok (.invokevirtual 187, 3) := by decide +kernel
theorem sq_Road_worth_13_0  {v : Option Value} {S2 : ks_S} (hc : ev (lt_G o L) mm_Road_planNow [.ref 0] (sx pl kp I A) v S2) (ho : sx_o o pl kp) (hst : kx_cat st ≤ 8) : rn (lt_G o L) mm_Road_worth 13 lv (.ref 0 :: st) (sx pl kp I A) P ↔ rn (lt_G o L) mm_Road_worth 16 lv (v.toList ++ st) S2 P := rn_cv (k := 0) (host := "") (E' := mm_Road_planNow) dq_Road_worth_13 rfl (ok_v rfl (by decide) (by decide) (Nat.le_add_left _ _) hst (Nat.le_of_ble_eq_true rfl) (Or.inr (rc_v ho (up_b (by decide)) rfl))) rfl rfl hc
theorem dq_Road_worth_16 : decode (km_c mm_Road_worth) 16 = .ok (.iload_n 1, 1) := by decide +kernel
theorem sq_Road_worth_16 : rn G mm_Road_worth 16 [a0, some (.int x)] st S P ↔ rn G mm_Road_worth 17 [a0, some (.int x)] (.int x :: st) S P := rn_s dq_Road_worth_16 rfl rfl rfl
theorem dq_Road_worth_17 : decode (km_c mm_Road_worth) 17 = .ok (.invokevirtual 197, 3) := by decide +kernel
theorem sq_Road_worth_17_0 {z1 : Nat} {x2 : Int32} {v : Option Value} {S2 : ks_S} (hc : ev (lt_G o L) mm_Road_worthBy [.ref 0, .ref z1, .int x2] (sx pl kp I A) v S2) (ho : sx_o o pl kp) (hst : kx_cat st ≤ 8) : rn (lt_G o L) mm_Road_worth 17 lv (.int x2 :: .ref z1 :: .ref 0 :: st) (sx pl kp I A) P ↔ rn (lt_G o L) mm_Road_worth 20 lv (v.toList ++ st) S2 P := rn_cv (k := 0) (host := "") (E' := mm_Road_worthBy) dq_Road_worth_17 rfl (ok_v rfl (by decide) (by decide) (Nat.le_add_left _ _) hst (Nat.le_of_ble_eq_true rfl) (Or.inr (rc_v ho (up_b (by decide)) rfl))) rfl rfl hc
theorem dq_Road_worth_20 : decode (km_c mm_Road_worth) 20 = .ok (.ireturn, 1) := by decide +kernel
theorem sq_Road_worth_20 : rn G mm_Road_worth 20 lv [.int x] S P ↔ P (some (.int x)) S := rn_ir dq_Road_worth_20 rfl
theorem dq_Road_worthBy_0 : decode (km_c mm_Road_worthBy) 0 = .ok (.aload_n 0, 1) := by decide +kernel
theorem sq_Road_worthBy_0 : rn G mm_Road_worthBy 0 [some (.ref z), a1, a2] st S P ↔ rn G mm_Road_worthBy 1 [some (.ref z), a1, a2] (.ref z :: st) S P := rn_s dq_Road_worthBy_0 rfl rfl rfl
theorem dq_Road_worthBy_1 : decode (km_c mm_Road_worthBy) 1 = .ok (.getfield 10, 3) := by decide +kernel
theorem sq_Road_worthBy_1_0 (ho : sx_o o pl kp) : rn (lt_G o L) mm_Road_worthBy 1 lv (.ref 0 :: st) (sx pl kp I A) P ↔ rn (lt_G o L) mm_Road_worthBy 4 lv (.ref 1 :: st) (sx pl kp I A) P := rx_get (h := "") (ci := 9) (k := 0) dq_Road_worthBy_1 (by decide +kernel) ho (up_b (by decide)) rfl rfl (fl_r (by decide) (by decide) (by decide) (by decide))
theorem dq_Road_worthBy_4 : decode (km_c mm_Road_worthBy) 4 = .ok (.getfield 141, 3) := by decide +kernel
theorem sq_Road_worthBy_4_1 (ho : sx_o o pl kp) : rn (lt_G o L) mm_Road_worthBy 4 lv (.ref 1 :: st) (sx pl kp I A) P ↔ rn (lt_G o L) mm_Road_worthBy 7 lv (.ref 9 :: st) (sx pl kp I A) P := rx_get (h := "DeltaRoad") (ci := 8) (k := 1) dq_Road_worthBy_4 (by decide +kernel) ho (up_b (by decide)) rfl rfl (fl_r (by decide) (by decide) (by decide) (by decide))
theorem sq_Road_worthBy_4_136 (ho : sx_o o pl true) : rn (lt_G o L) mm_Road_worthBy 4 lv (.ref 136 :: st) (sx pl true I A) P ↔ rn (lt_G o L) mm_Road_worthBy 7 lv (.ref 144 :: st) (sx pl true I A) P := rx_get (h := "DeltaRoad") (ci := 8) (k := 1) dq_Road_worthBy_4 (by decide +kernel) ho (up_k (by decide) (by decide)) rfl rfl (fl_k (by decide) (by decide))
theorem dq_Road_worthBy_7 : decode (km_c mm_Road_worthBy) 7 = .ok (.iload_n 2, 1) := by decide +kernel
theorem sq_Road_worthBy_7 : rn G mm_Road_worthBy 7 [a0, a1, some (.int x)] st S P ↔ rn G mm_Road_worthBy 8 [a0, a1, some (.int x)] (.int x :: st) S P := rn_s dq_Road_worthBy_7 rfl rfl rfl
theorem dq_Road_worthBy_8 : decode (km_c mm_Road_worthBy) 8 = .ok (.invokevirtual 333, 3) := by decide +kernel
theorem sq_Road_worthBy_8_9 {x1 : Int32} {v : Option Value} {S2 : ks_S} (hc : ev (lt_G o L) mm_Villages_loadsOf [.ref 9, .int x1] (sx pl kp I A) v S2) (ho : sx_o o pl kp) (hst : kx_cat st ≤ 8) : rn (lt_G o L) mm_Road_worthBy 8 lv (.int x1 :: .ref 9 :: st) (sx pl kp I A) P ↔ rn (lt_G o L) mm_Road_worthBy 11 lv (v.toList ++ st) S2 P := rn_cv (k := 0) (host := "") (E' := mm_Villages_loadsOf) dq_Road_worthBy_8 rfl (ok_v rfl (by decide) (by decide) (Nat.le_add_left _ _) hst (Nat.le_of_ble_eq_true rfl) (Or.inr (rc_v ho (up_b (by decide)) rfl))) rfl rfl hc
theorem sq_Road_worthBy_8_42 {x1 : Int32} {v : Option Value} {S2 : ks_S} (hc : ev (lt_G o L) mm_Villages_loadsOf [.ref 42, .int x1] (sx pl kp I A) v S2) (ho : sx_o o pl kp) (hst : kx_cat st ≤ 8) : rn (lt_G o L) mm_Road_worthBy 8 lv (.int x1 :: .ref 42 :: st) (sx pl kp I A) P ↔ rn (lt_G o L) mm_Road_worthBy 11 lv (v.toList ++ st) S2 P := rn_cv (k := 0) (host := "") (E' := mm_Villages_loadsOf) dq_Road_worthBy_8 rfl (ok_v rfl (by decide) (by decide) (Nat.le_add_left _ _) hst (Nat.le_of_ble_eq_true rfl) (Or.inr (rc_v ho (up_b (by decide)) rfl))) rfl rfl hc
theorem sq_Road_worthBy_8_144 {x1 : Int32} {v : Option Value} {S2 : ks_S} (hc : ev (lt_G o L) mm_Villages_loadsOf [.ref 144, .int x1] (sx pl true I A) v S2) (ho : sx_o o pl true) (hst : kx_cat st ≤ 8) : rn (lt_G o L) mm_Road_worthBy 8 lv (.int x1 :: .ref 144 :: st) (sx pl true I A) P ↔ rn (lt_G o L) mm_Road_worthBy 11 lv (v.toList ++ st) S2 P := rn_cv (k := 0) (host := "") (E' := mm_Villages_loadsOf) dq_Road_worthBy_8 rfl (ok_v rfl (by decide) (by decide) (Nat.le_add_left _ _) hst (Nat.le_of_ble_eq_true rfl) (Or.inr (rc_v ho (up_k (by decide) (by decide)) rfl))) rfl rfl hc
theorem dq_Road_worthBy_11 : decode (km_c mm_Road_worthBy) 11 = .ok (.aload_n 1, 1) := by decide +kernel
theorem sq_Road_worthBy_11 : rn G mm_Road_worthBy 11 [a0, some (.ref z), a2] st S P ↔ rn G mm_Road_worthBy 12 [a0, some (.ref z), a2] (.ref z :: st) S P := rn_s dq_Road_worthBy_11 rfl rfl rfl
theorem dq_Road_worthBy_12 : decode (km_c mm_Road_worthBy) 12 = .ok (.iload_n 2, 1) := by decide +kernel
theorem sq_Road_worthBy_12 : rn G mm_Road_worthBy 12 [a0, a1, some (.int x)] st S P ↔ rn G mm_Road_worthBy 13 [a0, a1, some (.int x)] (.int x :: st) S P := rn_s dq_Road_worthBy_12 rfl rfl rfl
theorem dq_Road_worthBy_13 : decode (km_c mm_Road_worthBy) 13 = .ok (.invokevirtual 191, 3) := by decide +kernel
theorem sq_Road_worthBy_13_65 {x1 : Int32} {v : Option Value} {S2 : ks_S} (hc : ev (lt_G o L) mm_Plan_costFor [.ref 65, .int x1] (sx true kp I A) v S2) (ho : sx_o o true kp) (hst : kx_cat st ≤ 8) : rn (lt_G o L) mm_Road_worthBy 13 lv (.int x1 :: .ref 65 :: st) (sx true kp I A) P ↔ rn (lt_G o L) mm_Road_worthBy 16 lv (v.toList ++ st) S2 P := rn_cv (k := 0) (host := "") (E' := mm_Plan_costFor) dq_Road_worthBy_13 rfl (ok_v rfl (by decide) (by decide) (Nat.le_add_left _ _) hst (Nat.le_of_ble_eq_true rfl) (Or.inr (rc_v ho (up_p (by decide)) rfl))) rfl rfl hc
theorem dq_Road_worthBy_16 : decode (km_c mm_Road_worthBy) 16 = .ok (.isub, 1) := by decide +kernel
theorem sq_Road_worthBy_16 : rn G mm_Road_worthBy 16 lv (.int x2 :: .int x :: st) S P ↔ rn G mm_Road_worthBy 17 lv (.int (x - x2) :: st) S P := rn_s dq_Road_worthBy_16 rfl rfl rfl
theorem dq_Road_worthBy_17 : decode (km_c mm_Road_worthBy) 17 = .ok (.ireturn, 1) := by decide +kernel
theorem sq_Road_worthBy_17 : rn G mm_Road_worthBy 17 lv [.int x] S P ↔ P (some (.int x)) S := rn_ir dq_Road_worthBy_17 rfl
theorem dq_Road_vote_0 : decode (km_c mm_Road_vote) 0 = .ok (.aload_n 0, 1) := by decide +kernel
theorem sq_Road_vote_0 : rn G mm_Road_vote 0 [some (.ref z), a1, a2, a3, a4, a5] st S P ↔ rn G mm_Road_vote 1 [some (.ref z), a1, a2, a3, a4, a5] (.ref z :: st) S P := rn_s dq_Road_vote_0 rfl rfl rfl
theorem dq_Road_vote_1 : decode (km_c mm_Road_vote) 1 = .ok (.invokevirtual 187, 3) := by decide +kernel
theorem sq_Road_vote_1_0  {v : Option Value} {S2 : ks_S} (hc : ev (lt_G o L) mm_Road_planNow [.ref 0] (sx pl kp I A) v S2) (ho : sx_o o pl kp) (hst : kx_cat st ≤ 8) : rn (lt_G o L) mm_Road_vote 1 lv (.ref 0 :: st) (sx pl kp I A) P ↔ rn (lt_G o L) mm_Road_vote 4 lv (v.toList ++ st) S2 P := rn_cv (k := 0) (host := "") (E' := mm_Road_planNow) dq_Road_vote_1 rfl (ok_v rfl (by decide) (by decide) (Nat.le_add_left _ _) hst (Nat.le_of_ble_eq_true rfl) (Or.inr (rc_v ho (up_b (by decide)) rfl))) rfl rfl hc
theorem dq_Road_vote_4 : decode (km_c mm_Road_vote) 4 = .ok (.astore_n 1, 1) := by decide +kernel
theorem sq_Road_vote_4n : rn G mm_Road_vote 4 [none, a1, a2, a3, a4, a5] (.ref z :: st) S P ↔ rn G mm_Road_vote 5 [none, some (.ref z), a2, a3, a4, a5] st S P := rn_s dq_Road_vote_4 rfl rfl rfl
theorem sq_Road_vote_4i : rn G mm_Road_vote 4 [some (.int x2), a1, a2, a3, a4, a5] (.ref z :: st) S P ↔ rn G mm_Road_vote 5 [some (.int x2), some (.ref z), a2, a3, a4, a5] st S P := rn_s dq_Road_vote_4 rfl rfl rfl
theorem sq_Road_vote_4r : rn G mm_Road_vote 4 [some (.ref z2), a1, a2, a3, a4, a5] (.ref z :: st) S P ↔ rn G mm_Road_vote 5 [some (.ref z2), some (.ref z), a2, a3, a4, a5] st S P := rn_s dq_Road_vote_4 rfl rfl rfl
theorem dq_Road_vote_5 : decode (km_c mm_Road_vote) 5 = .ok (.iconst 0, 1) := by decide +kernel
theorem sq_Road_vote_5 : rn G mm_Road_vote 5 lv st S P ↔ rn G mm_Road_vote 6 lv (.int (nI 0) :: st) S P := rn_s dq_Road_vote_5 rfl rfl rfl
theorem dq_Road_vote_6 : decode (km_c mm_Road_vote) 6 = .ok (.istore_n 2, 1) := by decide +kernel
theorem sq_Road_vote_6n : rn G mm_Road_vote 6 [a0, none, a2, a3, a4, a5] (.int x :: st) S P ↔ rn G mm_Road_vote 7 [a0, none, some (.int x), a3, a4, a5] st S P := rn_s dq_Road_vote_6 rfl rfl rfl
theorem sq_Road_vote_6i : rn G mm_Road_vote 6 [a0, some (.int x2), a2, a3, a4, a5] (.int x :: st) S P ↔ rn G mm_Road_vote 7 [a0, some (.int x2), some (.int x), a3, a4, a5] st S P := rn_s dq_Road_vote_6 rfl rfl rfl
theorem sq_Road_vote_6r : rn G mm_Road_vote 6 [a0, some (.ref z2), a2, a3, a4, a5] (.int x :: st) S P ↔ rn G mm_Road_vote 7 [a0, some (.ref z2), some (.int x), a3, a4, a5] st S P := rn_s dq_Road_vote_6 rfl rfl rfl
theorem dq_Road_vote_7 : decode (km_c mm_Road_vote) 7 = .ok (.aload_n 0, 1) := by decide +kernel
theorem sq_Road_vote_7 : rn G mm_Road_vote 7 [some (.ref z), a1, a2, a3, a4, a5] st S P ↔ rn G mm_Road_vote 8 [some (.ref z), a1, a2, a3, a4, a5] (.ref z :: st) S P := rn_s dq_Road_vote_7 rfl rfl rfl
theorem dq_Road_vote_8 : decode (km_c mm_Road_vote) 8 = .ok (.aload_n 1, 1) := by decide +kernel
theorem sq_Road_vote_8 : rn G mm_Road_vote 8 [a0, some (.ref z), a2, a3, a4, a5] st S P ↔ rn G mm_Road_vote 9 [a0, some (.ref z), a2, a3, a4, a5] (.ref z :: st) S P := rn_s dq_Road_vote_8 rfl rfl rfl
theorem dq_Road_vote_9 : decode (km_c mm_Road_vote) 9 = .ok (.iconst 0, 1) := by decide +kernel
theorem sq_Road_vote_9 : rn G mm_Road_vote 9 lv st S P ↔ rn G mm_Road_vote 10 lv (.int (nI 0) :: st) S P := rn_s dq_Road_vote_9 rfl rfl rfl
theorem dq_Road_vote_10 : decode (km_c mm_Road_vote) 10 = .ok (.invokevirtual 197, 3) := by decide +kernel
theorem sq_Road_vote_10_0 {z1 : Nat} {x2 : Int32} {v : Option Value} {S2 : ks_S} (hc : ev (lt_G o L) mm_Road_worthBy [.ref 0, .ref z1, .int x2] (sx pl kp I A) v S2) (ho : sx_o o pl kp) (hst : kx_cat st ≤ 8) : rn (lt_G o L) mm_Road_vote 10 lv (.int x2 :: .ref z1 :: .ref 0 :: st) (sx pl kp I A) P ↔ rn (lt_G o L) mm_Road_vote 13 lv (v.toList ++ st) S2 P := rn_cv (k := 0) (host := "") (E' := mm_Road_worthBy) dq_Road_vote_10 rfl (ok_v rfl (by decide) (by decide) (Nat.le_add_left _ _) hst (Nat.le_of_ble_eq_true rfl) (Or.inr (rc_v ho (up_b (by decide)) rfl))) rfl rfl hc
theorem dq_Road_vote_13 : decode (km_c mm_Road_vote) 13 = .ok (.istore_n 3, 1) := by decide +kernel
theorem sq_Road_vote_13n : rn G mm_Road_vote 13 [a0, a1, none, a3, a4, a5] (.int x :: st) S P ↔ rn G mm_Road_vote 14 [a0, a1, none, some (.int x), a4, a5] st S P := rn_s dq_Road_vote_13 rfl rfl rfl
theorem sq_Road_vote_13i : rn G mm_Road_vote 13 [a0, a1, some (.int x2), a3, a4, a5] (.int x :: st) S P ↔ rn G mm_Road_vote 14 [a0, a1, some (.int x2), some (.int x), a4, a5] st S P := rn_s dq_Road_vote_13 rfl rfl rfl
theorem sq_Road_vote_13r : rn G mm_Road_vote 13 [a0, a1, some (.ref z2), a3, a4, a5] (.int x :: st) S P ↔ rn G mm_Road_vote 14 [a0, a1, some (.ref z2), some (.int x), a4, a5] st S P := rn_s dq_Road_vote_13 rfl rfl rfl
theorem dq_Road_vote_14 : decode (km_c mm_Road_vote) 14 = .ok (.iconst 1, 1) := by decide +kernel
theorem sq_Road_vote_14 : rn G mm_Road_vote 14 lv st S P ↔ rn G mm_Road_vote 15 lv (.int (nI 1) :: st) S P := rn_s dq_Road_vote_14 rfl rfl rfl
theorem dq_Road_vote_15 : decode (km_c mm_Road_vote) 15 = .ok (.istore 4, 2) := by decide +kernel
theorem sq_Road_vote_15n : rn G mm_Road_vote 15 [a0, a1, a2, none, a4, a5] (.int x :: st) S P ↔ rn G mm_Road_vote 17 [a0, a1, a2, none, some (.int x), a5] st S P := rn_s dq_Road_vote_15 rfl rfl rfl
theorem sq_Road_vote_15i : rn G mm_Road_vote 15 [a0, a1, a2, some (.int x2), a4, a5] (.int x :: st) S P ↔ rn G mm_Road_vote 17 [a0, a1, a2, some (.int x2), some (.int x), a5] st S P := rn_s dq_Road_vote_15 rfl rfl rfl
theorem sq_Road_vote_15r : rn G mm_Road_vote 15 [a0, a1, a2, some (.ref z2), a4, a5] (.int x :: st) S P ↔ rn G mm_Road_vote 17 [a0, a1, a2, some (.ref z2), some (.int x), a5] st S P := rn_s dq_Road_vote_15 rfl rfl rfl
theorem dq_Road_vote_17 : decode (km_c mm_Road_vote) 17 = .ok (.iload 4, 2) := by decide +kernel
theorem sq_Road_vote_17 : rn G mm_Road_vote 17 [a0, a1, a2, a3, some (.int x), a5] st S P ↔ rn G mm_Road_vote 19 [a0, a1, a2, a3, some (.int x), a5] (.int x :: st) S P := rn_s dq_Road_vote_17 rfl rfl rfl
theorem dq_Road_vote_19 : decode (km_c mm_Road_vote) 19 = .ok (.aload_n 0, 1) := by decide +kernel
theorem sq_Road_vote_19 : rn G mm_Road_vote 19 [some (.ref z), a1, a2, a3, a4, a5] st S P ↔ rn G mm_Road_vote 20 [some (.ref z), a1, a2, a3, a4, a5] (.ref z :: st) S P := rn_s dq_Road_vote_19 rfl rfl rfl
theorem dq_Road_vote_20 : decode (km_c mm_Road_vote) 20 = .ok (.getfield 10, 3) := by decide +kernel
theorem sq_Road_vote_20_0 (ho : sx_o o pl kp) : rn (lt_G o L) mm_Road_vote 20 lv (.ref 0 :: st) (sx pl kp I A) P ↔ rn (lt_G o L) mm_Road_vote 23 lv (.ref 1 :: st) (sx pl kp I A) P := rx_get (h := "") (ci := 9) (k := 0) dq_Road_vote_20 (by decide +kernel) ho (up_b (by decide)) rfl rfl (fl_r (by decide) (by decide) (by decide) (by decide))
theorem dq_Road_vote_23 : decode (km_c mm_Road_vote) 23 = .ok (.getfield 141, 3) := by decide +kernel
theorem sq_Road_vote_23_1 (ho : sx_o o pl kp) : rn (lt_G o L) mm_Road_vote 23 lv (.ref 1 :: st) (sx pl kp I A) P ↔ rn (lt_G o L) mm_Road_vote 26 lv (.ref 9 :: st) (sx pl kp I A) P := rx_get (h := "DeltaRoad") (ci := 8) (k := 1) dq_Road_vote_23 (by decide +kernel) ho (up_b (by decide)) rfl rfl (fl_r (by decide) (by decide) (by decide) (by decide))
theorem sq_Road_vote_23_136 (ho : sx_o o pl true) : rn (lt_G o L) mm_Road_vote 23 lv (.ref 136 :: st) (sx pl true I A) P ↔ rn (lt_G o L) mm_Road_vote 26 lv (.ref 144 :: st) (sx pl true I A) P := rx_get (h := "DeltaRoad") (ci := 8) (k := 1) dq_Road_vote_23 (by decide +kernel) ho (up_k (by decide) (by decide)) rfl rfl (fl_k (by decide) (by decide))
theorem dq_Road_vote_26 : decode (km_c mm_Road_vote) 26 = .ok (.invokevirtual 201, 3) := by decide +kernel
theorem sq_Road_vote_26_9  {v : Option Value} {S2 : ks_S} (hc : ev (lt_G o L) mm_Villages_sets [.ref 9] (sx pl kp I A) v S2) (ho : sx_o o pl kp) (hst : kx_cat st ≤ 8) : rn (lt_G o L) mm_Road_vote 26 lv (.ref 9 :: st) (sx pl kp I A) P ↔ rn (lt_G o L) mm_Road_vote 29 lv (v.toList ++ st) S2 P := rn_cv (k := 0) (host := "") (E' := mm_Villages_sets) dq_Road_vote_26 rfl (ok_v rfl (by decide) (by decide) (Nat.le_add_left _ _) hst (Nat.le_of_ble_eq_true rfl) (Or.inr (rc_v ho (up_b (by decide)) rfl))) rfl rfl hc
theorem sq_Road_vote_26_42  {v : Option Value} {S2 : ks_S} (hc : ev (lt_G o L) mm_Villages_sets [.ref 42] (sx pl kp I A) v S2) (ho : sx_o o pl kp) (hst : kx_cat st ≤ 8) : rn (lt_G o L) mm_Road_vote 26 lv (.ref 42 :: st) (sx pl kp I A) P ↔ rn (lt_G o L) mm_Road_vote 29 lv (v.toList ++ st) S2 P := rn_cv (k := 0) (host := "") (E' := mm_Villages_sets) dq_Road_vote_26 rfl (ok_v rfl (by decide) (by decide) (Nat.le_add_left _ _) hst (Nat.le_of_ble_eq_true rfl) (Or.inr (rc_v ho (up_b (by decide)) rfl))) rfl rfl hc
theorem sq_Road_vote_26_144  {v : Option Value} {S2 : ks_S} (hc : ev (lt_G o L) mm_Villages_sets [.ref 144] (sx pl true I A) v S2) (ho : sx_o o pl true) (hst : kx_cat st ≤ 8) : rn (lt_G o L) mm_Road_vote 26 lv (.ref 144 :: st) (sx pl true I A) P ↔ rn (lt_G o L) mm_Road_vote 29 lv (v.toList ++ st) S2 P := rn_cv (k := 0) (host := "") (E' := mm_Villages_sets) dq_Road_vote_26 rfl (ok_v rfl (by decide) (by decide) (Nat.le_add_left _ _) hst (Nat.le_of_ble_eq_true rfl) (Or.inr (rc_v ho (up_k (by decide) (by decide)) rfl))) rfl rfl hc
theorem dq_Road_vote_29 : decode (km_c mm_Road_vote) 29 = .ok (.if_icmp .ge 30, 3) := by decide +kernel
theorem sq_Road_vote_29 : rn G mm_Road_vote 29 lv (.int x2 :: .int x :: st) S P ↔ ((x2 ≤ x → rn G mm_Road_vote 59 lv st S P) ∧ (¬ (x2 ≤ x) → rn G mm_Road_vote 32 lv st S P)) := rn_b (off := 30) dq_Road_vote_29 rfl rfl rfl rfl
theorem dq_Road_vote_32 : decode (km_c mm_Road_vote) 32 = .ok (.aload_n 0, 1) := by decide +kernel
theorem sq_Road_vote_32 : rn G mm_Road_vote 32 [some (.ref z), a1, a2, a3, a4, a5] st S P ↔ rn G mm_Road_vote 33 [some (.ref z), a1, a2, a3, a4, a5] (.ref z :: st) S P := rn_s dq_Road_vote_32 rfl rfl rfl
theorem dq_Road_vote_33 : decode (km_c mm_Road_vote) 33 = .ok (.aload_n 1, 1) := by decide +kernel
theorem sq_Road_vote_33 : rn G mm_Road_vote 33 [a0, some (.ref z), a2, a3, a4, a5] st S P ↔ rn G mm_Road_vote 34 [a0, some (.ref z), a2, a3, a4, a5] (.ref z :: st) S P := rn_s dq_Road_vote_33 rfl rfl rfl
theorem dq_Road_vote_34 : decode (km_c mm_Road_vote) 34 = .ok (.iload 4, 2) := by decide +kernel
theorem sq_Road_vote_34 : rn G mm_Road_vote 34 [a0, a1, a2, a3, some (.int x), a5] st S P ↔ rn G mm_Road_vote 36 [a0, a1, a2, a3, some (.int x), a5] (.int x :: st) S P := rn_s dq_Road_vote_34 rfl rfl rfl
theorem dq_Road_vote_36 : decode (km_c mm_Road_vote) 36 = .ok (.invokevirtual 197, 3) := by decide +kernel
theorem sq_Road_vote_36_0 {z1 : Nat} {x2 : Int32} {v : Option Value} {S2 : ks_S} (hc : ev (lt_G o L) mm_Road_worthBy [.ref 0, .ref z1, .int x2] (sx pl kp I A) v S2) (ho : sx_o o pl kp) (hst : kx_cat st ≤ 8) : rn (lt_G o L) mm_Road_vote 36 lv (.int x2 :: .ref z1 :: .ref 0 :: st) (sx pl kp I A) P ↔ rn (lt_G o L) mm_Road_vote 39 lv (v.toList ++ st) S2 P := rn_cv (k := 0) (host := "") (E' := mm_Road_worthBy) dq_Road_vote_36 rfl (ok_v rfl (by decide) (by decide) (Nat.le_add_left _ _) hst (Nat.le_of_ble_eq_true rfl) (Or.inr (rc_v ho (up_b (by decide)) rfl))) rfl rfl hc
theorem dq_Road_vote_39 : decode (km_c mm_Road_vote) 39 = .ok (.istore 5, 2) := by decide +kernel
theorem sq_Road_vote_39n : rn G mm_Road_vote 39 [a0, a1, a2, a3, none, a5] (.int x :: st) S P ↔ rn G mm_Road_vote 41 [a0, a1, a2, a3, none, some (.int x)] st S P := rn_s dq_Road_vote_39 rfl rfl rfl
theorem sq_Road_vote_39i : rn G mm_Road_vote 39 [a0, a1, a2, a3, some (.int x2), a5] (.int x :: st) S P ↔ rn G mm_Road_vote 41 [a0, a1, a2, a3, some (.int x2), some (.int x)] st S P := rn_s dq_Road_vote_39 rfl rfl rfl
theorem sq_Road_vote_39r : rn G mm_Road_vote 39 [a0, a1, a2, a3, some (.ref z2), a5] (.int x :: st) S P ↔ rn G mm_Road_vote 41 [a0, a1, a2, a3, some (.ref z2), some (.int x)] st S P := rn_s dq_Road_vote_39 rfl rfl rfl
theorem dq_Road_vote_41 : decode (km_c mm_Road_vote) 41 = .ok (.iload 5, 2) := by decide +kernel
theorem sq_Road_vote_41 : rn G mm_Road_vote 41 [a0, a1, a2, a3, a4, some (.int x)] st S P ↔ rn G mm_Road_vote 43 [a0, a1, a2, a3, a4, some (.int x)] (.int x :: st) S P := rn_s dq_Road_vote_41 rfl rfl rfl
theorem dq_Road_vote_43 : decode (km_c mm_Road_vote) 43 = .ok (.iload_n 3, 1) := by decide +kernel
theorem sq_Road_vote_43 : rn G mm_Road_vote 43 [a0, a1, a2, some (.int x), a4, a5] st S P ↔ rn G mm_Road_vote 44 [a0, a1, a2, some (.int x), a4, a5] (.int x :: st) S P := rn_s dq_Road_vote_43 rfl rfl rfl
theorem dq_Road_vote_44 : decode (km_c mm_Road_vote) 44 = .ok (.if_icmp .le 9, 3) := by decide +kernel
theorem sq_Road_vote_44 : rn G mm_Road_vote 44 lv (.int x2 :: .int x :: st) S P ↔ ((x ≤ x2 → rn G mm_Road_vote 53 lv st S P) ∧ (¬ (x ≤ x2) → rn G mm_Road_vote 47 lv st S P)) := rn_b (off := 9) dq_Road_vote_44 rfl rfl rfl rfl
theorem dq_Road_vote_47 : decode (km_c mm_Road_vote) 47 = .ok (.iload 5, 2) := by decide +kernel
theorem sq_Road_vote_47 : rn G mm_Road_vote 47 [a0, a1, a2, a3, a4, some (.int x)] st S P ↔ rn G mm_Road_vote 49 [a0, a1, a2, a3, a4, some (.int x)] (.int x :: st) S P := rn_s dq_Road_vote_47 rfl rfl rfl
theorem dq_Road_vote_49 : decode (km_c mm_Road_vote) 49 = .ok (.istore_n 3, 1) := by decide +kernel
theorem sq_Road_vote_49n : rn G mm_Road_vote 49 [a0, a1, none, a3, a4, a5] (.int x :: st) S P ↔ rn G mm_Road_vote 50 [a0, a1, none, some (.int x), a4, a5] st S P := rn_s dq_Road_vote_49 rfl rfl rfl
theorem sq_Road_vote_49i : rn G mm_Road_vote 49 [a0, a1, some (.int x2), a3, a4, a5] (.int x :: st) S P ↔ rn G mm_Road_vote 50 [a0, a1, some (.int x2), some (.int x), a4, a5] st S P := rn_s dq_Road_vote_49 rfl rfl rfl
theorem sq_Road_vote_49r : rn G mm_Road_vote 49 [a0, a1, some (.ref z2), a3, a4, a5] (.int x :: st) S P ↔ rn G mm_Road_vote 50 [a0, a1, some (.ref z2), some (.int x), a4, a5] st S P := rn_s dq_Road_vote_49 rfl rfl rfl
theorem dq_Road_vote_50 : decode (km_c mm_Road_vote) 50 = .ok (.iload 4, 2) := by decide +kernel
theorem sq_Road_vote_50 : rn G mm_Road_vote 50 [a0, a1, a2, a3, some (.int x), a5] st S P ↔ rn G mm_Road_vote 52 [a0, a1, a2, a3, some (.int x), a5] (.int x :: st) S P := rn_s dq_Road_vote_50 rfl rfl rfl
theorem dq_Road_vote_52 : decode (km_c mm_Road_vote) 52 = .ok (.istore_n 2, 1) := by decide +kernel
theorem sq_Road_vote_52n : rn G mm_Road_vote 52 [a0, none, a2, a3, a4, a5] (.int x :: st) S P ↔ rn G mm_Road_vote 53 [a0, none, some (.int x), a3, a4, a5] st S P := rn_s dq_Road_vote_52 rfl rfl rfl
theorem sq_Road_vote_52i : rn G mm_Road_vote 52 [a0, some (.int x2), a2, a3, a4, a5] (.int x :: st) S P ↔ rn G mm_Road_vote 53 [a0, some (.int x2), some (.int x), a3, a4, a5] st S P := rn_s dq_Road_vote_52 rfl rfl rfl
theorem sq_Road_vote_52r : rn G mm_Road_vote 52 [a0, some (.ref z2), a2, a3, a4, a5] (.int x :: st) S P ↔ rn G mm_Road_vote 53 [a0, some (.ref z2), some (.int x), a3, a4, a5] st S P := rn_s dq_Road_vote_52 rfl rfl rfl
theorem dq_Road_vote_53 : decode (km_c mm_Road_vote) 53 = .ok (.iinc 4 1, 3) := by decide +kernel
theorem sq_Road_vote_53n : rn G mm_Road_vote 53 [a0, a1, a2, none, some (.int x), a5] st S P ↔ rn G mm_Road_vote 56 [a0, a1, a2, none, some (.int (x + nI 1)), a5] st S P := rn_s dq_Road_vote_53 rfl rfl rfl
theorem sq_Road_vote_53i : rn G mm_Road_vote 53 [a0, a1, a2, some (.int x2), some (.int x), a5] st S P ↔ rn G mm_Road_vote 56 [a0, a1, a2, some (.int x2), some (.int (x + nI 1)), a5] st S P := rn_s dq_Road_vote_53 rfl rfl rfl
theorem sq_Road_vote_53r : rn G mm_Road_vote 53 [a0, a1, a2, some (.ref z2), some (.int x), a5] st S P ↔ rn G mm_Road_vote 56 [a0, a1, a2, some (.ref z2), some (.int (x + nI 1)), a5] st S P := rn_s dq_Road_vote_53 rfl rfl rfl
theorem dq_Road_vote_56 : decode (km_c mm_Road_vote) 56 = .ok (.goto (-39), 3) := by decide +kernel
theorem sq_Road_vote_56 : rn G mm_Road_vote 56 lv st S P ↔ rn G mm_Road_vote 17 lv st S P := rn_s dq_Road_vote_56 rfl rfl rfl
theorem dq_Road_vote_59 : decode (km_c mm_Road_vote) 59 = .ok (.iload_n 2, 1) := by decide +kernel
theorem sq_Road_vote_59 : rn G mm_Road_vote 59 [a0, a1, some (.int x), a3, a4, a5] st S P ↔ rn G mm_Road_vote 60 [a0, a1, some (.int x), a3, a4, a5] (.int x :: st) S P := rn_s dq_Road_vote_59 rfl rfl rfl
theorem dq_Road_vote_60 : decode (km_c mm_Road_vote) 60 = .ok (.ireturn, 1) := by decide +kernel
theorem sq_Road_vote_60 : rn G mm_Road_vote 60 lv [.int x] S P ↔ P (some (.int x)) S := rn_ir dq_Road_vote_60 rfl
theorem dq_Road_share_0 : decode (km_c mm_Road_share) 0 = .ok (.aload_n 0, 1) := by decide +kernel
theorem sq_Road_share_0 : rn G mm_Road_share 0 [some (.ref z), a1, a2, a3, a4, a5] st S P ↔ rn G mm_Road_share 1 [some (.ref z), a1, a2, a3, a4, a5] (.ref z :: st) S P := rn_s dq_Road_share_0 rfl rfl rfl
theorem dq_Road_share_1 : decode (km_c mm_Road_share) 1 = .ok (.iload_n 1, 1) := by decide +kernel
theorem sq_Road_share_1 : rn G mm_Road_share 1 [a0, some (.int x), a2, a3, a4, a5] st S P ↔ rn G mm_Road_share 2 [a0, some (.int x), a2, a3, a4, a5] (.int x :: st) S P := rn_s dq_Road_share_1 rfl rfl rfl
theorem dq_Road_share_2 : decode (km_c mm_Road_share) 2 = .ok (.invokevirtual 184, 3) := by decide +kernel
theorem sq_Road_share_2_0 {x1 : Int32} {v : Option Value} {S2 : ks_S} (hc : ev (lt_G o L) mm_Road_noSet [.ref 0, .int x1] (sx pl kp I A) v S2) (ho : sx_o o pl kp) (hst : kx_cat st ≤ 8) : rn (lt_G o L) mm_Road_share 2 lv (.int x1 :: .ref 0 :: st) (sx pl kp I A) P ↔ rn (lt_G o L) mm_Road_share 5 lv (v.toList ++ st) S2 P := rn_cv (k := 0) (host := "") (E' := mm_Road_noSet) dq_Road_share_2 rfl (ok_v rfl (by decide) (by decide) (Nat.le_add_left _ _) hst (Nat.le_of_ble_eq_true rfl) (Or.inr (rc_v ho (up_b (by decide)) rfl))) rfl rfl hc
theorem dq_Road_share_5 : decode (km_c mm_Road_share) 5 = .ok (.ifCond .ne 32, 3) := by decide +kernel
theorem sq_Road_share_5 : rn G mm_Road_share 5 lv (.int x :: st) S P ↔ ((¬ x = 0 → rn G mm_Road_share 37 lv st S P) ∧ (¬ (¬ x = 0) → rn G mm_Road_share 8 lv st S P)) := rn_b (off := 32) dq_Road_share_5 rfl rfl rfl rfl
theorem dq_Road_share_8 : decode (km_c mm_Road_share) 8 = .ok (.iload_n 2, 1) := by decide +kernel
theorem sq_Road_share_8 : rn G mm_Road_share 8 [a0, a1, some (.int x), a3, a4, a5] st S P ↔ rn G mm_Road_share 9 [a0, a1, some (.int x), a3, a4, a5] (.int x :: st) S P := rn_s dq_Road_share_8 rfl rfl rfl
theorem dq_Road_share_9 : decode (km_c mm_Road_share) 9 = .ok (.iconst 0, 1) := by decide +kernel
theorem sq_Road_share_9 : rn G mm_Road_share 9 lv st S P ↔ rn G mm_Road_share 10 lv (.int (nI 0) :: st) S P := rn_s dq_Road_share_9 rfl rfl rfl
theorem dq_Road_share_10 : decode (km_c mm_Road_share) 10 = .ok (.aload_n 0, 1) := by decide +kernel
theorem sq_Road_share_10 : rn G mm_Road_share 10 [some (.ref z), a1, a2, a3, a4, a5] st S P ↔ rn G mm_Road_share 11 [some (.ref z), a1, a2, a3, a4, a5] (.ref z :: st) S P := rn_s dq_Road_share_10 rfl rfl rfl
theorem dq_Road_share_11 : decode (km_c mm_Road_share) 11 = .ok (.getfield 10, 3) := by decide +kernel
theorem sq_Road_share_11_0 (ho : sx_o o pl kp) : rn (lt_G o L) mm_Road_share 11 lv (.ref 0 :: st) (sx pl kp I A) P ↔ rn (lt_G o L) mm_Road_share 14 lv (.ref 1 :: st) (sx pl kp I A) P := rx_get (h := "") (ci := 9) (k := 0) dq_Road_share_11 (by decide +kernel) ho (up_b (by decide)) rfl rfl (fl_r (by decide) (by decide) (by decide) (by decide))
theorem dq_Road_share_14 : decode (km_c mm_Road_share) 14 = .ok (.getfield 141, 3) := by decide +kernel
theorem sq_Road_share_14_1 (ho : sx_o o pl kp) : rn (lt_G o L) mm_Road_share 14 lv (.ref 1 :: st) (sx pl kp I A) P ↔ rn (lt_G o L) mm_Road_share 17 lv (.ref 9 :: st) (sx pl kp I A) P := rx_get (h := "DeltaRoad") (ci := 8) (k := 1) dq_Road_share_14 (by decide +kernel) ho (up_b (by decide)) rfl rfl (fl_r (by decide) (by decide) (by decide) (by decide))
theorem sq_Road_share_14_136 (ho : sx_o o pl true) : rn (lt_G o L) mm_Road_share 14 lv (.ref 136 :: st) (sx pl true I A) P ↔ rn (lt_G o L) mm_Road_share 17 lv (.ref 144 :: st) (sx pl true I A) P := rx_get (h := "DeltaRoad") (ci := 8) (k := 1) dq_Road_share_14 (by decide +kernel) ho (up_k (by decide) (by decide)) rfl rfl (fl_k (by decide) (by decide))
theorem dq_Road_share_17 : decode (km_c mm_Road_share) 17 = .ok (.getfield 147, 3) := by decide +kernel
theorem sq_Road_share_17_9 (ho : sx_o o pl kp) : rn (lt_G o L) mm_Road_share 17 lv (.ref 9 :: st) (sx pl kp I A) P ↔ rn (lt_G o L) mm_Road_share 20 lv (.int (I 9 2) :: st) (sx pl kp I A) P := rx_get (h := "DeltaRoad") (ci := 5) (k := 2) dq_Road_share_17 (by decide +kernel) ho (up_b (by decide)) rfl rfl (fl_i (by decide))
theorem sq_Road_share_17_42 (ho : sx_o o pl kp) : rn (lt_G o L) mm_Road_share 17 lv (.ref 42 :: st) (sx pl kp I A) P ↔ rn (lt_G o L) mm_Road_share 20 lv (.int (I 42 2) :: st) (sx pl kp I A) P := rx_get (h := "DeltaRoad") (ci := 5) (k := 2) dq_Road_share_17 (by decide +kernel) ho (up_b (by decide)) rfl rfl (fl_i (by decide))
theorem sq_Road_share_17_144 (ho : sx_o o pl true) : rn (lt_G o L) mm_Road_share 17 lv (.ref 144 :: st) (sx pl true I A) P ↔ rn (lt_G o L) mm_Road_share 20 lv (.int (I 144 2) :: st) (sx pl true I A) P := rx_get (h := "DeltaRoad") (ci := 5) (k := 2) dq_Road_share_17 (by decide +kernel) ho (up_k (by decide) (by decide)) rfl rfl (fl_i (by decide))
theorem dq_Road_share_20 : decode (km_c mm_Road_share) 20 = .ok (.iconst 1, 1) := by decide +kernel
theorem sq_Road_share_20 : rn G mm_Road_share 20 lv st S P ↔ rn G mm_Road_share 21 lv (.int (nI 1) :: st) S P := rn_s dq_Road_share_20 rfl rfl rfl
theorem dq_Road_share_21 : decode (km_c mm_Road_share) 21 = .ok (.isub, 1) := by decide +kernel
theorem sq_Road_share_21 : rn G mm_Road_share 21 lv (.int x2 :: .int x :: st) S P ↔ rn G mm_Road_share 22 lv (.int (x - x2) :: st) S P := rn_s dq_Road_share_21 rfl rfl rfl
theorem dq_Road_share_22 : decode (km_c mm_Road_share) 22 = .ok (.invokestatic 72, 3) := by decide +kernel
theorem sq_Road_share_22 {x1 : Int32} {x2 : Int32} {x3 : Int32} {v : Option Value} {S2 : ks_S} (hc : ev G mm_Road_outside [.int x1, .int x2, .int x3] S v S2) (hst : kx_cat st ≤ 8) : rn G mm_Road_share 22 lv (.int x3 :: .int x2 :: .int x1 :: st) S P ↔ rn G mm_Road_share 25 lv (v.toList ++ st) S2 P := rn_cs (k := 1) (host := "") (E' := mm_Road_outside) dq_Road_share_22 (by decide) (by decide) rfl (ok_v rfl (by decide) (by decide) (Nat.le_add_left _ _) hst (Nat.le_of_ble_eq_true rfl) (Or.inl rfl)) rfl rfl hc
theorem dq_Road_share_25 : decode (km_c mm_Road_share) 25 = .ok (.ifCond .ne 12, 3) := by decide +kernel
theorem sq_Road_share_25 : rn G mm_Road_share 25 lv (.int x :: st) S P ↔ ((¬ x = 0 → rn G mm_Road_share 37 lv st S P) ∧ (¬ (¬ x = 0) → rn G mm_Road_share 28 lv st S P)) := rn_b (off := 12) dq_Road_share_25 rfl rfl rfl rfl
theorem dq_Road_share_28 : decode (km_c mm_Road_share) 28 = .ok (.iload_n 3, 1) := by decide +kernel
theorem sq_Road_share_28 : rn G mm_Road_share 28 [a0, a1, a2, some (.int x), a4, a5] st S P ↔ rn G mm_Road_share 29 [a0, a1, a2, some (.int x), a4, a5] (.int x :: st) S P := rn_s dq_Road_share_28 rfl rfl rfl
theorem dq_Road_share_29 : decode (km_c mm_Road_share) 29 = .ok (.iconst 0, 1) := by decide +kernel
theorem sq_Road_share_29 : rn G mm_Road_share 29 lv st S P ↔ rn G mm_Road_share 30 lv (.int (nI 0) :: st) S P := rn_s dq_Road_share_29 rfl rfl rfl
theorem dq_Road_share_30 : decode (km_c mm_Road_share) 30 = .ok (.iconst 1, 1) := by decide +kernel
theorem sq_Road_share_30 : rn G mm_Road_share 30 lv st S P ↔ rn G mm_Road_share 31 lv (.int (nI 1) :: st) S P := rn_s dq_Road_share_30 rfl rfl rfl
theorem dq_Road_share_31 : decode (km_c mm_Road_share) 31 = .ok (.invokestatic 72, 3) := by decide +kernel
theorem sq_Road_share_31 {x1 : Int32} {x2 : Int32} {x3 : Int32} {v : Option Value} {S2 : ks_S} (hc : ev G mm_Road_outside [.int x1, .int x2, .int x3] S v S2) (hst : kx_cat st ≤ 8) : rn G mm_Road_share 31 lv (.int x3 :: .int x2 :: .int x1 :: st) S P ↔ rn G mm_Road_share 34 lv (v.toList ++ st) S2 P := rn_cs (k := 1) (host := "") (E' := mm_Road_outside) dq_Road_share_31 (by decide) (by decide) rfl (ok_v rfl (by decide) (by decide) (Nat.le_add_left _ _) hst (Nat.le_of_ble_eq_true rfl) (Or.inl rfl)) rfl rfl hc
theorem dq_Road_share_34 : decode (km_c mm_Road_share) 34 = .ok (.ifCond .eq 5, 3) := by decide +kernel
theorem sq_Road_share_34 : rn G mm_Road_share 34 lv (.int x :: st) S P ↔ ((x = 0 → rn G mm_Road_share 39 lv st S P) ∧ (¬ (x = 0) → rn G mm_Road_share 37 lv st S P)) := rn_b (off := 5) dq_Road_share_34 rfl rfl rfl rfl
theorem dq_Road_share_37 : decode (km_c mm_Road_share) 37 = .ok (.iconst (-1), 1) := by decide +kernel
theorem sq_Road_share_37 : rn G mm_Road_share 37 lv st S P ↔ rn G mm_Road_share 38 lv (.int ((-1)) :: st) S P := rn_s dq_Road_share_37 rfl rfl rfl
theorem dq_Road_share_38 : decode (km_c mm_Road_share) 38 = .ok (.ireturn, 1) := by decide +kernel
theorem sq_Road_share_38 : rn G mm_Road_share 38 lv [.int x] S P ↔ P (some (.int x)) S := rn_ir dq_Road_share_38 rfl
theorem dq_Road_share_39 : decode (km_c mm_Road_share) 39 = .ok (.iload_n 1, 1) := by decide +kernel
theorem sq_Road_share_39 : rn G mm_Road_share 39 [a0, some (.int x), a2, a3, a4, a5] st S P ↔ rn G mm_Road_share 40 [a0, some (.int x), a2, a3, a4, a5] (.int x :: st) S P := rn_s dq_Road_share_39 rfl rfl rfl
theorem dq_Road_share_40 : decode (km_c mm_Road_share) 40 = .ok (.iload_n 2, 1) := by decide +kernel
theorem sq_Road_share_40 : rn G mm_Road_share 40 [a0, a1, some (.int x), a3, a4, a5] st S P ↔ rn G mm_Road_share 41 [a0, a1, some (.int x), a3, a4, a5] (.int x :: st) S P := rn_s dq_Road_share_40 rfl rfl rfl
theorem dq_Road_share_41 : decode (km_c mm_Road_share) 41 = .ok (.ishr, 1) := by decide +kernel
theorem sq_Road_share_41 : rn G mm_Road_share 41 lv (.int x2 :: .int x :: st) S P ↔ rn G mm_Road_share 42 lv (.int (x >>> (x2 &&& 31)) :: st) S P := rn_s dq_Road_share_41 rfl rfl rfl
theorem dq_Road_share_42 : decode (km_c mm_Road_share) 42 = .ok (.iconst 1, 1) := by decide +kernel
theorem sq_Road_share_42 : rn G mm_Road_share 42 lv st S P ↔ rn G mm_Road_share 43 lv (.int (nI 1) :: st) S P := rn_s dq_Road_share_42 rfl rfl rfl
theorem dq_Road_share_43 : decode (km_c mm_Road_share) 43 = .ok (.iand, 1) := by decide +kernel
theorem sq_Road_share_43 : rn G mm_Road_share 43 lv (.int x2 :: .int x :: st) S P ↔ rn G mm_Road_share 44 lv (.int (x &&& x2) :: st) S P := rn_s dq_Road_share_43 rfl rfl rfl
theorem dq_Road_share_44 : decode (km_c mm_Road_share) 44 = .ok (.ifCond .ne 5, 3) := by decide +kernel
theorem sq_Road_share_44 : rn G mm_Road_share 44 lv (.int x :: st) S P ↔ ((¬ x = 0 → rn G mm_Road_share 49 lv st S P) ∧ (¬ (¬ x = 0) → rn G mm_Road_share 47 lv st S P)) := rn_b (off := 5) dq_Road_share_44 rfl rfl rfl rfl
theorem dq_Road_share_47 : decode (km_c mm_Road_share) 47 = .ok (.iconst (-1), 1) := by decide +kernel
theorem sq_Road_share_47 : rn G mm_Road_share 47 lv st S P ↔ rn G mm_Road_share 48 lv (.int ((-1)) :: st) S P := rn_s dq_Road_share_47 rfl rfl rfl
theorem dq_Road_share_48 : decode (km_c mm_Road_share) 48 = .ok (.ireturn, 1) := by decide +kernel
theorem sq_Road_share_48 : rn G mm_Road_share 48 lv [.int x] S P ↔ P (some (.int x)) S := rn_ir dq_Road_share_48 rfl
theorem dq_Road_share_49 : decode (km_c mm_Road_share) 49 = .ok (.aload_n 0, 1) := by decide +kernel
theorem sq_Road_share_49 : rn G mm_Road_share 49 [some (.ref z), a1, a2, a3, a4, a5] st S P ↔ rn G mm_Road_share 50 [some (.ref z), a1, a2, a3, a4, a5] (.ref z :: st) S P := rn_s dq_Road_share_49 rfl rfl rfl
theorem dq_Road_share_50 : decode (km_c mm_Road_share) 50 = .ok (.invokevirtual 187, 3) := by decide +kernel
theorem sq_Road_share_50_0  {v : Option Value} {S2 : ks_S} (hc : ev (lt_G o L) mm_Road_planNow [.ref 0] (sx pl kp I A) v S2) (ho : sx_o o pl kp) (hst : kx_cat st ≤ 8) : rn (lt_G o L) mm_Road_share 50 lv (.ref 0 :: st) (sx pl kp I A) P ↔ rn (lt_G o L) mm_Road_share 53 lv (v.toList ++ st) S2 P := rn_cv (k := 0) (host := "") (E' := mm_Road_planNow) dq_Road_share_50 rfl (ok_v rfl (by decide) (by decide) (Nat.le_add_left _ _) hst (Nat.le_of_ble_eq_true rfl) (Or.inr (rc_v ho (up_b (by decide)) rfl))) rfl rfl hc
theorem dq_Road_share_53 : decode (km_c mm_Road_share) 53 = .ok (.iload_n 1, 1) := by decide +kernel
theorem sq_Road_share_53 : rn G mm_Road_share 53 [a0, some (.int x), a2, a3, a4, a5] st S P ↔ rn G mm_Road_share 54 [a0, some (.int x), a2, a3, a4, a5] (.int x :: st) S P := rn_s dq_Road_share_53 rfl rfl rfl
theorem dq_Road_share_54 : decode (km_c mm_Road_share) 54 = .ok (.iload_n 2, 1) := by decide +kernel
theorem sq_Road_share_54 : rn G mm_Road_share 54 [a0, a1, some (.int x), a3, a4, a5] st S P ↔ rn G mm_Road_share 55 [a0, a1, some (.int x), a3, a4, a5] (.int x :: st) S P := rn_s dq_Road_share_54 rfl rfl rfl
theorem dq_Road_share_55 : decode (km_c mm_Road_share) 55 = .ok (.invokevirtual 204, 3) := by decide +kernel
theorem sq_Road_share_55_65 {x1 : Int32} {x2 : Int32} {v : Option Value} {S2 : ks_S} (hc : ev (lt_G o L) mm_Plan_costInAllOrders [.ref 65, .int x1, .int x2] (sx true kp I A) v S2) (ho : sx_o o true kp) (hst : kx_cat st ≤ 8) : rn (lt_G o L) mm_Road_share 55 lv (.int x2 :: .int x1 :: .ref 65 :: st) (sx true kp I A) P ↔ rn (lt_G o L) mm_Road_share 58 lv (v.toList ++ st) S2 P := rn_cv (k := 0) (host := "") (E' := mm_Plan_costInAllOrders) dq_Road_share_55 rfl (ok_v rfl (by decide) (by decide) (Nat.le_add_left _ _) hst (Nat.le_of_ble_eq_true rfl) (Or.inr (rc_v ho (up_p (by decide)) rfl))) rfl rfl hc
theorem dq_Road_share_58 : decode (km_c mm_Road_share) 58 = .ok (.lstore 4, 2) := by decide +kernel
theorem sq_Road_share_58n : rn G mm_Road_share 58 [a0, a1, a2, none, a4, a5] (.long y :: st) S P ↔ rn G mm_Road_share 60 [a0, a1, a2, none, some (.long y), none] st S P := rn_s dq_Road_share_58 rfl rfl rfl
theorem sq_Road_share_58i : rn G mm_Road_share 58 [a0, a1, a2, some (.int x2), a4, a5] (.long y :: st) S P ↔ rn G mm_Road_share 60 [a0, a1, a2, some (.int x2), some (.long y), none] st S P := rn_s dq_Road_share_58 rfl rfl rfl
theorem sq_Road_share_58r : rn G mm_Road_share 58 [a0, a1, a2, some (.ref z2), a4, a5] (.long y :: st) S P ↔ rn G mm_Road_share 60 [a0, a1, a2, some (.ref z2), some (.long y), none] st S P := rn_s dq_Road_share_58 rfl rfl rfl
theorem sq_Road_share_58l : rn G mm_Road_share 58 [a0, a1, a2, some (.long y2), a4, a5] (.long y :: st) S P ↔ rn G mm_Road_share 60 [a0, a1, a2, none, some (.long y), none] st S P := rn_s dq_Road_share_58 rfl rfl rfl
theorem dq_Road_share_60 : decode (km_c mm_Road_share) 60 = .ok (.lload 4, 2) := by decide +kernel
theorem sq_Road_share_60 : rn G mm_Road_share 60 [a0, a1, a2, a3, some (.long y), a5] st S P ↔ rn G mm_Road_share 62 [a0, a1, a2, a3, some (.long y), a5] (.long y :: st) S P := rn_s dq_Road_share_60 rfl rfl rfl
theorem dq_Road_share_62 : decode (km_c mm_Road_share) 62 = .ok (.getstatic 208, 3) := by decide +kernel
theorem sq_Road_share_62 : rn (lt_G o L) mm_Road_share 62 lv st (sx pl kp I A) P ↔ rn (lt_G o L) mm_Road_share 65 lv (.ref 1003 :: st) (sx pl kp I A) P := rx_st (h := "") (k := 3) dq_Road_share_62 (by decide +kernel)
theorem dq_Road_share_65 : decode (km_c mm_Road_share) 65 = .ok (.iload_n 1, 1) := by decide +kernel
theorem sq_Road_share_65 : rn G mm_Road_share 65 [a0, some (.int x), a2, a3, a4, a5] st S P ↔ rn G mm_Road_share 66 [a0, some (.int x), a2, a3, a4, a5] (.int x :: st) S P := rn_s dq_Road_share_65 rfl rfl rfl
theorem dq_Road_share_66 : decode (km_c mm_Road_share) 66 = .ok (.invokestatic 211, 3) := by decide +kernel
theorem sq_Road_share_66 {x1 : Int32} {v : Option Value} {S2 : ks_S} (hc : ev G mm_Integer_bitCount [.int x1] S v S2) (hst : kx_cat st ≤ 8) : rn G mm_Road_share 66 lv (.int x1 :: st) S P ↔ rn G mm_Road_share 69 lv (v.toList ++ st) S2 P := rn_cs (k := 1) (host := "") (E' := mm_Integer_bitCount) dq_Road_share_66 (by decide) (by decide) rfl (ok_v rfl (by decide) (by decide) (Nat.le_add_left _ _) hst (Nat.le_of_ble_eq_true rfl) (Or.inl rfl)) rfl rfl hc
theorem dq_Road_share_69 : decode (km_c mm_Road_share) 69 = .ok (.iaload, 1) := by decide +kernel
theorem sq_Road_share_69 (ho : sx_o o pl kp) (hk : ak L a = 0) (hu : sx_up pl kp a = true ∨ 1000 ≤ a) (hc : c < ln L a) (hn : ln L a < 2 ^ 31) : rn (lt_G o L) mm_Road_share 69 lv (.int (nI c) :: .ref a :: st) (sx pl kp I A) P ↔ rn (lt_G o L) mm_Road_share 70 lv (.int (A a c) :: st) (sx pl kp I A) P := rx_ild dq_Road_share_69 ho hk hu hc hn
theorem dq_Road_share_70 : decode (km_c mm_Road_share) 70 = .ok (.i2l, 1) := by decide +kernel
theorem sq_Road_share_70 : rn G mm_Road_share 70 lv (.int x :: st) S P ↔ rn G mm_Road_share 71 lv (.long x.toInt64 :: st) S P := rn_s dq_Road_share_70 rfl rfl rfl
theorem dq_Road_share_71 : decode (km_c mm_Road_share) 71 = .ok (.iload_n 3, 1) := by decide +kernel
theorem sq_Road_share_71 : rn G mm_Road_share 71 [a0, a1, a2, some (.int x), a4, a5] st S P ↔ rn G mm_Road_share 72 [a0, a1, a2, some (.int x), a4, a5] (.int x :: st) S P := rn_s dq_Road_share_71 rfl rfl rfl
theorem dq_Road_share_72 : decode (km_c mm_Road_share) 72 = .ok (.invokestatic 216, 3) := by decide +kernel
theorem sq_Road_share_72 {y1 : Int64} {y2 : Int64} {x3 : Int32} {v : Option Value} {S2 : ks_S} (hc : ev G mm_Road_lowestTerms [.long y1, .long y2, .int x3] S v S2) (hst : kx_cat st ≤ 8) : rn G mm_Road_share 72 lv (.int x3 :: .long y2 :: .long y1 :: st) S P ↔ rn G mm_Road_share 75 lv (v.toList ++ st) S2 P := rn_cs (k := 1) (host := "") (E' := mm_Road_lowestTerms) dq_Road_share_72 (by decide) (by decide) rfl (ok_v rfl (by decide) (by decide) (Nat.le_add_left _ _) hst (Nat.le_of_ble_eq_true rfl) (Or.inl rfl)) rfl rfl hc
theorem dq_Road_share_75 : decode (km_c mm_Road_share) 75 = .ok (.l2i, 1) := by decide +kernel
theorem sq_Road_share_75 : rn G mm_Road_share 75 lv (.long y :: st) S P ↔ rn G mm_Road_share 76 lv (.int y.toInt32 :: st) S P := rn_s dq_Road_share_75 rfl rfl rfl
theorem dq_Road_share_76 : decode (km_c mm_Road_share) 76 = .ok (.ireturn, 1) := by decide +kernel
theorem sq_Road_share_76 : rn G mm_Road_share 76 lv [.int x] S P ↔ P (some (.int x)) S := rn_ir dq_Road_share_76 rfl
theorem dq_Road_lowestTerms_0 : decode (km_c mm_Road_lowestTerms) 0 = .ok (.lload_n 0, 1) := by decide +kernel
theorem sq_Road_lowestTerms_0 : rn G mm_Road_lowestTerms 0 [some (.long y), a1, a2, a3, a4, a5, a6, a7, a8, a9, a10, a11] st S P ↔ rn G mm_Road_lowestTerms 1 [some (.long y), a1, a2, a3, a4, a5, a6, a7, a8, a9, a10, a11] (.long y :: st) S P := rn_s dq_Road_lowestTerms_0 rfl rfl rfl
theorem dq_Road_lowestTerms_1 : decode (km_c mm_Road_lowestTerms) 1 = .ok (.lstore 5, 2) := by decide +kernel
theorem sq_Road_lowestTerms_1n : rn G mm_Road_lowestTerms 1 [a0, a1, a2, a3, none, a5, a6, a7, a8, a9, a10, a11] (.long y :: st) S P ↔ rn G mm_Road_lowestTerms 3 [a0, a1, a2, a3, none, some (.long y), none, a7, a8, a9, a10, a11] st S P := rn_s dq_Road_lowestTerms_1 rfl rfl rfl
theorem sq_Road_lowestTerms_1i : rn G mm_Road_lowestTerms 1 [a0, a1, a2, a3, some (.int x2), a5, a6, a7, a8, a9, a10, a11] (.long y :: st) S P ↔ rn G mm_Road_lowestTerms 3 [a0, a1, a2, a3, some (.int x2), some (.long y), none, a7, a8, a9, a10, a11] st S P := rn_s dq_Road_lowestTerms_1 rfl rfl rfl
theorem sq_Road_lowestTerms_1r : rn G mm_Road_lowestTerms 1 [a0, a1, a2, a3, some (.ref z2), a5, a6, a7, a8, a9, a10, a11] (.long y :: st) S P ↔ rn G mm_Road_lowestTerms 3 [a0, a1, a2, a3, some (.ref z2), some (.long y), none, a7, a8, a9, a10, a11] st S P := rn_s dq_Road_lowestTerms_1 rfl rfl rfl
theorem sq_Road_lowestTerms_1l : rn G mm_Road_lowestTerms 1 [a0, a1, a2, a3, some (.long y2), a5, a6, a7, a8, a9, a10, a11] (.long y :: st) S P ↔ rn G mm_Road_lowestTerms 3 [a0, a1, a2, a3, none, some (.long y), none, a7, a8, a9, a10, a11] st S P := rn_s dq_Road_lowestTerms_1 rfl rfl rfl
theorem dq_Road_lowestTerms_3 : decode (km_c mm_Road_lowestTerms) 3 = .ok (.lload_n 2, 1) := by decide +kernel
theorem sq_Road_lowestTerms_3 : rn G mm_Road_lowestTerms 3 [a0, a1, some (.long y), a3, a4, a5, a6, a7, a8, a9, a10, a11] st S P ↔ rn G mm_Road_lowestTerms 4 [a0, a1, some (.long y), a3, a4, a5, a6, a7, a8, a9, a10, a11] (.long y :: st) S P := rn_s dq_Road_lowestTerms_3 rfl rfl rfl
theorem dq_Road_lowestTerms_4 : decode (km_c mm_Road_lowestTerms) 4 = .ok (.lstore 7, 2) := by decide +kernel
theorem sq_Road_lowestTerms_4n : rn G mm_Road_lowestTerms 4 [a0, a1, a2, a3, a4, a5, none, a7, a8, a9, a10, a11] (.long y :: st) S P ↔ rn G mm_Road_lowestTerms 6 [a0, a1, a2, a3, a4, a5, none, some (.long y), none, a9, a10, a11] st S P := rn_s dq_Road_lowestTerms_4 rfl rfl rfl
theorem sq_Road_lowestTerms_4i : rn G mm_Road_lowestTerms 4 [a0, a1, a2, a3, a4, a5, some (.int x2), a7, a8, a9, a10, a11] (.long y :: st) S P ↔ rn G mm_Road_lowestTerms 6 [a0, a1, a2, a3, a4, a5, some (.int x2), some (.long y), none, a9, a10, a11] st S P := rn_s dq_Road_lowestTerms_4 rfl rfl rfl
theorem sq_Road_lowestTerms_4r : rn G mm_Road_lowestTerms 4 [a0, a1, a2, a3, a4, a5, some (.ref z2), a7, a8, a9, a10, a11] (.long y :: st) S P ↔ rn G mm_Road_lowestTerms 6 [a0, a1, a2, a3, a4, a5, some (.ref z2), some (.long y), none, a9, a10, a11] st S P := rn_s dq_Road_lowestTerms_4 rfl rfl rfl
theorem sq_Road_lowestTerms_4l : rn G mm_Road_lowestTerms 4 [a0, a1, a2, a3, a4, a5, some (.long y2), a7, a8, a9, a10, a11] (.long y :: st) S P ↔ rn G mm_Road_lowestTerms 6 [a0, a1, a2, a3, a4, a5, none, some (.long y), none, a9, a10, a11] st S P := rn_s dq_Road_lowestTerms_4 rfl rfl rfl
theorem dq_Road_lowestTerms_6 : decode (km_c mm_Road_lowestTerms) 6 = .ok (.iconst 0, 1) := by decide +kernel
theorem sq_Road_lowestTerms_6 : rn G mm_Road_lowestTerms 6 lv st S P ↔ rn G mm_Road_lowestTerms 7 lv (.int (nI 0) :: st) S P := rn_s dq_Road_lowestTerms_6 rfl rfl rfl
theorem dq_Road_lowestTerms_7 : decode (km_c mm_Road_lowestTerms) 7 = .ok (.istore 9, 2) := by decide +kernel
theorem sq_Road_lowestTerms_7n : rn G mm_Road_lowestTerms 7 [a0, a1, a2, a3, a4, a5, a6, a7, none, a9, a10, a11] (.int x :: st) S P ↔ rn G mm_Road_lowestTerms 9 [a0, a1, a2, a3, a4, a5, a6, a7, none, some (.int x), a10, a11] st S P := rn_s dq_Road_lowestTerms_7 rfl rfl rfl
theorem sq_Road_lowestTerms_7i : rn G mm_Road_lowestTerms 7 [a0, a1, a2, a3, a4, a5, a6, a7, some (.int x2), a9, a10, a11] (.int x :: st) S P ↔ rn G mm_Road_lowestTerms 9 [a0, a1, a2, a3, a4, a5, a6, a7, some (.int x2), some (.int x), a10, a11] st S P := rn_s dq_Road_lowestTerms_7 rfl rfl rfl
theorem sq_Road_lowestTerms_7r : rn G mm_Road_lowestTerms 7 [a0, a1, a2, a3, a4, a5, a6, a7, some (.ref z2), a9, a10, a11] (.int x :: st) S P ↔ rn G mm_Road_lowestTerms 9 [a0, a1, a2, a3, a4, a5, a6, a7, some (.ref z2), some (.int x), a10, a11] st S P := rn_s dq_Road_lowestTerms_7 rfl rfl rfl
theorem sq_Road_lowestTerms_7l : rn G mm_Road_lowestTerms 7 [a0, a1, a2, a3, a4, a5, a6, a7, some (.long y2), a9, a10, a11] (.int x :: st) S P ↔ rn G mm_Road_lowestTerms 9 [a0, a1, a2, a3, a4, a5, a6, a7, none, some (.int x), a10, a11] st S P := rn_s dq_Road_lowestTerms_7 rfl rfl rfl
theorem dq_Road_lowestTerms_9 : decode (km_c mm_Road_lowestTerms) 9 = .ok (.iload 9, 2) := by decide +kernel
theorem sq_Road_lowestTerms_9 : rn G mm_Road_lowestTerms 9 [a0, a1, a2, a3, a4, a5, a6, a7, a8, some (.int x), a10, a11] st S P ↔ rn G mm_Road_lowestTerms 11 [a0, a1, a2, a3, a4, a5, a6, a7, a8, some (.int x), a10, a11] (.int x :: st) S P := rn_s dq_Road_lowestTerms_9 rfl rfl rfl
theorem dq_Road_lowestTerms_11 : decode (km_c mm_Road_lowestTerms) 11 = .ok (.sipush 200, 3) := by decide +kernel
theorem sq_Road_lowestTerms_11 : rn G mm_Road_lowestTerms 11 lv st S P ↔ rn G mm_Road_lowestTerms 14 lv (.int (nI 200) :: st) S P := rn_s dq_Road_lowestTerms_11 rfl rfl rfl
theorem dq_Road_lowestTerms_14 : decode (km_c mm_Road_lowestTerms) 14 = .ok (.if_icmp .ge 31, 3) := by decide +kernel
theorem sq_Road_lowestTerms_14 : rn G mm_Road_lowestTerms 14 lv (.int x2 :: .int x :: st) S P ↔ ((x2 ≤ x → rn G mm_Road_lowestTerms 45 lv st S P) ∧ (¬ (x2 ≤ x) → rn G mm_Road_lowestTerms 17 lv st S P)) := rn_b (off := 31) dq_Road_lowestTerms_14 rfl rfl rfl rfl
theorem dq_Road_lowestTerms_17 : decode (km_c mm_Road_lowestTerms) 17 = .ok (.lload 7, 2) := by decide +kernel
theorem sq_Road_lowestTerms_17 : rn G mm_Road_lowestTerms 17 [a0, a1, a2, a3, a4, a5, a6, some (.long y), a8, a9, a10, a11] st S P ↔ rn G mm_Road_lowestTerms 19 [a0, a1, a2, a3, a4, a5, a6, some (.long y), a8, a9, a10, a11] (.long y :: st) S P := rn_s dq_Road_lowestTerms_17 rfl rfl rfl
theorem dq_Road_lowestTerms_19 : decode (km_c mm_Road_lowestTerms) 19 = .ok (.lconst 0, 1) := by decide +kernel
theorem sq_Road_lowestTerms_19 : rn G mm_Road_lowestTerms 19 lv st S P ↔ rn G mm_Road_lowestTerms 20 lv (.long (0) :: st) S P := rn_s dq_Road_lowestTerms_19 rfl rfl rfl
theorem dq_Road_lowestTerms_20 : decode (km_c mm_Road_lowestTerms) 20 = .ok (.lcmp, 1) := by decide +kernel
theorem sq_Road_lowestTerms_20 : rn G mm_Road_lowestTerms 20 lv (.long y2 :: .long y :: st) S P ↔ rn G mm_Road_lowestTerms 21 lv (.int (lg_cmp y y2) :: st) S P := rn_s dq_Road_lowestTerms_20 rfl rfl rfl
theorem dq_Road_lowestTerms_21 : decode (km_c mm_Road_lowestTerms) 21 = .ok (.ifCond .eq 24, 3) := by decide +kernel
theorem sq_Road_lowestTerms_21 : rn G mm_Road_lowestTerms 21 lv (.int x :: st) S P ↔ ((x = 0 → rn G mm_Road_lowestTerms 45 lv st S P) ∧ (¬ (x = 0) → rn G mm_Road_lowestTerms 24 lv st S P)) := rn_b (off := 24) dq_Road_lowestTerms_21 rfl rfl rfl rfl
theorem dq_Road_lowestTerms_24 : decode (km_c mm_Road_lowestTerms) 24 = .ok (.lload 5, 2) := by decide +kernel
theorem sq_Road_lowestTerms_24 : rn G mm_Road_lowestTerms 24 [a0, a1, a2, a3, a4, some (.long y), a6, a7, a8, a9, a10, a11] st S P ↔ rn G mm_Road_lowestTerms 26 [a0, a1, a2, a3, a4, some (.long y), a6, a7, a8, a9, a10, a11] (.long y :: st) S P := rn_s dq_Road_lowestTerms_24 rfl rfl rfl
theorem dq_Road_lowestTerms_26 : decode (km_c mm_Road_lowestTerms) 26 = .ok (.lload 7, 2) := by decide +kernel
theorem sq_Road_lowestTerms_26 : rn G mm_Road_lowestTerms 26 [a0, a1, a2, a3, a4, a5, a6, some (.long y), a8, a9, a10, a11] st S P ↔ rn G mm_Road_lowestTerms 28 [a0, a1, a2, a3, a4, a5, a6, some (.long y), a8, a9, a10, a11] (.long y :: st) S P := rn_s dq_Road_lowestTerms_26 rfl rfl rfl
theorem dq_Road_lowestTerms_28 : decode (km_c mm_Road_lowestTerms) 28 = .ok (.lrem, 1) := by decide +kernel
theorem sq_Road_lowestTerms_28 (hz : ¬ y2 = 0) : rn G mm_Road_lowestTerms 28 lv (.long y2 :: .long y :: st) S P ↔ rn G mm_Road_lowestTerms 29 lv (.long (y - y / y2 * y2) :: st) S P := rn_s dq_Road_lowestTerms_28 rfl rfl (if_neg hz)
theorem dq_Road_lowestTerms_29 : decode (km_c mm_Road_lowestTerms) 29 = .ok (.lstore 10, 2) := by decide +kernel
theorem sq_Road_lowestTerms_29n : rn G mm_Road_lowestTerms 29 [a0, a1, a2, a3, a4, a5, a6, a7, a8, none, a10, a11] (.long y :: st) S P ↔ rn G mm_Road_lowestTerms 31 [a0, a1, a2, a3, a4, a5, a6, a7, a8, none, some (.long y), none] st S P := rn_s dq_Road_lowestTerms_29 rfl rfl rfl
theorem sq_Road_lowestTerms_29i : rn G mm_Road_lowestTerms 29 [a0, a1, a2, a3, a4, a5, a6, a7, a8, some (.int x2), a10, a11] (.long y :: st) S P ↔ rn G mm_Road_lowestTerms 31 [a0, a1, a2, a3, a4, a5, a6, a7, a8, some (.int x2), some (.long y), none] st S P := rn_s dq_Road_lowestTerms_29 rfl rfl rfl
theorem sq_Road_lowestTerms_29r : rn G mm_Road_lowestTerms 29 [a0, a1, a2, a3, a4, a5, a6, a7, a8, some (.ref z2), a10, a11] (.long y :: st) S P ↔ rn G mm_Road_lowestTerms 31 [a0, a1, a2, a3, a4, a5, a6, a7, a8, some (.ref z2), some (.long y), none] st S P := rn_s dq_Road_lowestTerms_29 rfl rfl rfl
theorem sq_Road_lowestTerms_29l : rn G mm_Road_lowestTerms 29 [a0, a1, a2, a3, a4, a5, a6, a7, a8, some (.long y2), a10, a11] (.long y :: st) S P ↔ rn G mm_Road_lowestTerms 31 [a0, a1, a2, a3, a4, a5, a6, a7, a8, none, some (.long y), none] st S P := rn_s dq_Road_lowestTerms_29 rfl rfl rfl
theorem dq_Road_lowestTerms_31 : decode (km_c mm_Road_lowestTerms) 31 = .ok (.lload 7, 2) := by decide +kernel
theorem sq_Road_lowestTerms_31 : rn G mm_Road_lowestTerms 31 [a0, a1, a2, a3, a4, a5, a6, some (.long y), a8, a9, a10, a11] st S P ↔ rn G mm_Road_lowestTerms 33 [a0, a1, a2, a3, a4, a5, a6, some (.long y), a8, a9, a10, a11] (.long y :: st) S P := rn_s dq_Road_lowestTerms_31 rfl rfl rfl
theorem dq_Road_lowestTerms_33 : decode (km_c mm_Road_lowestTerms) 33 = .ok (.lstore 5, 2) := by decide +kernel
theorem sq_Road_lowestTerms_33n : rn G mm_Road_lowestTerms 33 [a0, a1, a2, a3, none, a5, a6, a7, a8, a9, a10, a11] (.long y :: st) S P ↔ rn G mm_Road_lowestTerms 35 [a0, a1, a2, a3, none, some (.long y), none, a7, a8, a9, a10, a11] st S P := rn_s dq_Road_lowestTerms_33 rfl rfl rfl
theorem sq_Road_lowestTerms_33i : rn G mm_Road_lowestTerms 33 [a0, a1, a2, a3, some (.int x2), a5, a6, a7, a8, a9, a10, a11] (.long y :: st) S P ↔ rn G mm_Road_lowestTerms 35 [a0, a1, a2, a3, some (.int x2), some (.long y), none, a7, a8, a9, a10, a11] st S P := rn_s dq_Road_lowestTerms_33 rfl rfl rfl
theorem sq_Road_lowestTerms_33r : rn G mm_Road_lowestTerms 33 [a0, a1, a2, a3, some (.ref z2), a5, a6, a7, a8, a9, a10, a11] (.long y :: st) S P ↔ rn G mm_Road_lowestTerms 35 [a0, a1, a2, a3, some (.ref z2), some (.long y), none, a7, a8, a9, a10, a11] st S P := rn_s dq_Road_lowestTerms_33 rfl rfl rfl
theorem sq_Road_lowestTerms_33l : rn G mm_Road_lowestTerms 33 [a0, a1, a2, a3, some (.long y2), a5, a6, a7, a8, a9, a10, a11] (.long y :: st) S P ↔ rn G mm_Road_lowestTerms 35 [a0, a1, a2, a3, none, some (.long y), none, a7, a8, a9, a10, a11] st S P := rn_s dq_Road_lowestTerms_33 rfl rfl rfl
theorem dq_Road_lowestTerms_35 : decode (km_c mm_Road_lowestTerms) 35 = .ok (.lload 10, 2) := by decide +kernel
theorem sq_Road_lowestTerms_35 : rn G mm_Road_lowestTerms 35 [a0, a1, a2, a3, a4, a5, a6, a7, a8, a9, some (.long y), a11] st S P ↔ rn G mm_Road_lowestTerms 37 [a0, a1, a2, a3, a4, a5, a6, a7, a8, a9, some (.long y), a11] (.long y :: st) S P := rn_s dq_Road_lowestTerms_35 rfl rfl rfl
theorem dq_Road_lowestTerms_37 : decode (km_c mm_Road_lowestTerms) 37 = .ok (.lstore 7, 2) := by decide +kernel
theorem sq_Road_lowestTerms_37n : rn G mm_Road_lowestTerms 37 [a0, a1, a2, a3, a4, a5, none, a7, a8, a9, a10, a11] (.long y :: st) S P ↔ rn G mm_Road_lowestTerms 39 [a0, a1, a2, a3, a4, a5, none, some (.long y), none, a9, a10, a11] st S P := rn_s dq_Road_lowestTerms_37 rfl rfl rfl
theorem sq_Road_lowestTerms_37i : rn G mm_Road_lowestTerms 37 [a0, a1, a2, a3, a4, a5, some (.int x2), a7, a8, a9, a10, a11] (.long y :: st) S P ↔ rn G mm_Road_lowestTerms 39 [a0, a1, a2, a3, a4, a5, some (.int x2), some (.long y), none, a9, a10, a11] st S P := rn_s dq_Road_lowestTerms_37 rfl rfl rfl
theorem sq_Road_lowestTerms_37r : rn G mm_Road_lowestTerms 37 [a0, a1, a2, a3, a4, a5, some (.ref z2), a7, a8, a9, a10, a11] (.long y :: st) S P ↔ rn G mm_Road_lowestTerms 39 [a0, a1, a2, a3, a4, a5, some (.ref z2), some (.long y), none, a9, a10, a11] st S P := rn_s dq_Road_lowestTerms_37 rfl rfl rfl
theorem sq_Road_lowestTerms_37l : rn G mm_Road_lowestTerms 37 [a0, a1, a2, a3, a4, a5, some (.long y2), a7, a8, a9, a10, a11] (.long y :: st) S P ↔ rn G mm_Road_lowestTerms 39 [a0, a1, a2, a3, a4, a5, none, some (.long y), none, a9, a10, a11] st S P := rn_s dq_Road_lowestTerms_37 rfl rfl rfl
theorem dq_Road_lowestTerms_39 : decode (km_c mm_Road_lowestTerms) 39 = .ok (.iinc 9 1, 3) := by decide +kernel
theorem sq_Road_lowestTerms_39n : rn G mm_Road_lowestTerms 39 [a0, a1, a2, a3, a4, a5, a6, a7, none, some (.int x), a10, a11] st S P ↔ rn G mm_Road_lowestTerms 42 [a0, a1, a2, a3, a4, a5, a6, a7, none, some (.int (x + nI 1)), a10, a11] st S P := rn_s dq_Road_lowestTerms_39 rfl rfl rfl
theorem sq_Road_lowestTerms_39i : rn G mm_Road_lowestTerms 39 [a0, a1, a2, a3, a4, a5, a6, a7, some (.int x2), some (.int x), a10, a11] st S P ↔ rn G mm_Road_lowestTerms 42 [a0, a1, a2, a3, a4, a5, a6, a7, some (.int x2), some (.int (x + nI 1)), a10, a11] st S P := rn_s dq_Road_lowestTerms_39 rfl rfl rfl
theorem sq_Road_lowestTerms_39r : rn G mm_Road_lowestTerms 39 [a0, a1, a2, a3, a4, a5, a6, a7, some (.ref z2), some (.int x), a10, a11] st S P ↔ rn G mm_Road_lowestTerms 42 [a0, a1, a2, a3, a4, a5, a6, a7, some (.ref z2), some (.int (x + nI 1)), a10, a11] st S P := rn_s dq_Road_lowestTerms_39 rfl rfl rfl
theorem sq_Road_lowestTerms_39l : rn G mm_Road_lowestTerms 39 [a0, a1, a2, a3, a4, a5, a6, a7, some (.long y2), some (.int x), a10, a11] st S P ↔ rn G mm_Road_lowestTerms 42 [a0, a1, a2, a3, a4, a5, a6, a7, none, some (.int (x + nI 1)), a10, a11] st S P := rn_s dq_Road_lowestTerms_39 rfl rfl rfl
theorem dq_Road_lowestTerms_42 : decode (km_c mm_Road_lowestTerms) 42 = .ok (.goto (-33), 3) := by decide +kernel
theorem sq_Road_lowestTerms_42 : rn G mm_Road_lowestTerms 42 lv st S P ↔ rn G mm_Road_lowestTerms 9 lv st S P := rn_s dq_Road_lowestTerms_42 rfl rfl rfl
theorem dq_Road_lowestTerms_45 : decode (km_c mm_Road_lowestTerms) 45 = .ok (.lload 5, 2) := by decide +kernel
theorem sq_Road_lowestTerms_45 : rn G mm_Road_lowestTerms 45 [a0, a1, a2, a3, a4, some (.long y), a6, a7, a8, a9, a10, a11] st S P ↔ rn G mm_Road_lowestTerms 47 [a0, a1, a2, a3, a4, some (.long y), a6, a7, a8, a9, a10, a11] (.long y :: st) S P := rn_s dq_Road_lowestTerms_45 rfl rfl rfl
theorem dq_Road_lowestTerms_47 : decode (km_c mm_Road_lowestTerms) 47 = .ok (.lconst 0, 1) := by decide +kernel
theorem sq_Road_lowestTerms_47 : rn G mm_Road_lowestTerms 47 lv st S P ↔ rn G mm_Road_lowestTerms 48 lv (.long (0) :: st) S P := rn_s dq_Road_lowestTerms_47 rfl rfl rfl
theorem dq_Road_lowestTerms_48 : decode (km_c mm_Road_lowestTerms) 48 = .ok (.lcmp, 1) := by decide +kernel
theorem sq_Road_lowestTerms_48 : rn G mm_Road_lowestTerms 48 lv (.long y2 :: .long y :: st) S P ↔ rn G mm_Road_lowestTerms 49 lv (.int (lg_cmp y y2) :: st) S P := rn_s dq_Road_lowestTerms_48 rfl rfl rfl
theorem dq_Road_lowestTerms_49 : decode (km_c mm_Road_lowestTerms) 49 = .ok (.ifCond .gt 5, 3) := by decide +kernel
theorem sq_Road_lowestTerms_49 : rn G mm_Road_lowestTerms 49 lv (.int x :: st) S P ↔ ((0 < x → rn G mm_Road_lowestTerms 54 lv st S P) ∧ (¬ (0 < x) → rn G mm_Road_lowestTerms 52 lv st S P)) := rn_b (off := 5) dq_Road_lowestTerms_49 rfl rfl rfl rfl
theorem dq_Road_lowestTerms_52 : decode (km_c mm_Road_lowestTerms) 52 = .ok (.lconst 0, 1) := by decide +kernel
theorem sq_Road_lowestTerms_52 : rn G mm_Road_lowestTerms 52 lv st S P ↔ rn G mm_Road_lowestTerms 53 lv (.long (0) :: st) S P := rn_s dq_Road_lowestTerms_52 rfl rfl rfl
theorem dq_Road_lowestTerms_53 : decode (km_c mm_Road_lowestTerms) 53 = .ok (.lreturn, 1) := by decide +kernel
theorem sq_Road_lowestTerms_53 : rn G mm_Road_lowestTerms 53 lv [.long y] S P ↔ P (some (.long y)) S := rn_lr dq_Road_lowestTerms_53 rfl
theorem dq_Road_lowestTerms_54 : decode (km_c mm_Road_lowestTerms) 54 = .ok (.iload 4, 2) := by decide +kernel
theorem sq_Road_lowestTerms_54 : rn G mm_Road_lowestTerms 54 [a0, a1, a2, a3, some (.int x), a5, a6, a7, a8, a9, a10, a11] st S P ↔ rn G mm_Road_lowestTerms 56 [a0, a1, a2, a3, some (.int x), a5, a6, a7, a8, a9, a10, a11] (.int x :: st) S P := rn_s dq_Road_lowestTerms_54 rfl rfl rfl
theorem dq_Road_lowestTerms_56 : decode (km_c mm_Road_lowestTerms) 56 = .ok (.ifCond .ne 10, 3) := by decide +kernel
theorem sq_Road_lowestTerms_56 : rn G mm_Road_lowestTerms 56 lv (.int x :: st) S P ↔ ((¬ x = 0 → rn G mm_Road_lowestTerms 66 lv st S P) ∧ (¬ (¬ x = 0) → rn G mm_Road_lowestTerms 59 lv st S P)) := rn_b (off := 10) dq_Road_lowestTerms_56 rfl rfl rfl rfl
theorem dq_Road_lowestTerms_59 : decode (km_c mm_Road_lowestTerms) 59 = .ok (.lload_n 0, 1) := by decide +kernel
theorem sq_Road_lowestTerms_59 : rn G mm_Road_lowestTerms 59 [some (.long y), a1, a2, a3, a4, a5, a6, a7, a8, a9, a10, a11] st S P ↔ rn G mm_Road_lowestTerms 60 [some (.long y), a1, a2, a3, a4, a5, a6, a7, a8, a9, a10, a11] (.long y :: st) S P := rn_s dq_Road_lowestTerms_59 rfl rfl rfl
theorem dq_Road_lowestTerms_60 : decode (km_c mm_Road_lowestTerms) 60 = .ok (.lload 5, 2) := by decide +kernel
theorem sq_Road_lowestTerms_60 : rn G mm_Road_lowestTerms 60 [a0, a1, a2, a3, a4, some (.long y), a6, a7, a8, a9, a10, a11] st S P ↔ rn G mm_Road_lowestTerms 62 [a0, a1, a2, a3, a4, some (.long y), a6, a7, a8, a9, a10, a11] (.long y :: st) S P := rn_s dq_Road_lowestTerms_60 rfl rfl rfl
theorem dq_Road_lowestTerms_62 : decode (km_c mm_Road_lowestTerms) 62 = .ok (.ldiv, 1) := by decide +kernel
theorem sq_Road_lowestTerms_62 (hz : ¬ y2 = 0) : rn G mm_Road_lowestTerms 62 lv (.long y2 :: .long y :: st) S P ↔ rn G mm_Road_lowestTerms 63 lv (.long (y / y2) :: st) S P := rn_s dq_Road_lowestTerms_62 rfl rfl (if_neg hz)
theorem dq_Road_lowestTerms_63 : decode (km_c mm_Road_lowestTerms) 63 = .ok (.goto 7, 3) := by decide +kernel
theorem sq_Road_lowestTerms_63 : rn G mm_Road_lowestTerms 63 lv st S P ↔ rn G mm_Road_lowestTerms 70 lv st S P := rn_s dq_Road_lowestTerms_63 rfl rfl rfl
theorem dq_Road_lowestTerms_66 : decode (km_c mm_Road_lowestTerms) 66 = .ok (.lload_n 2, 1) := by decide +kernel
theorem sq_Road_lowestTerms_66 : rn G mm_Road_lowestTerms 66 [a0, a1, some (.long y), a3, a4, a5, a6, a7, a8, a9, a10, a11] st S P ↔ rn G mm_Road_lowestTerms 67 [a0, a1, some (.long y), a3, a4, a5, a6, a7, a8, a9, a10, a11] (.long y :: st) S P := rn_s dq_Road_lowestTerms_66 rfl rfl rfl
theorem dq_Road_lowestTerms_67 : decode (km_c mm_Road_lowestTerms) 67 = .ok (.lload 5, 2) := by decide +kernel
theorem sq_Road_lowestTerms_67 : rn G mm_Road_lowestTerms 67 [a0, a1, a2, a3, a4, some (.long y), a6, a7, a8, a9, a10, a11] st S P ↔ rn G mm_Road_lowestTerms 69 [a0, a1, a2, a3, a4, some (.long y), a6, a7, a8, a9, a10, a11] (.long y :: st) S P := rn_s dq_Road_lowestTerms_67 rfl rfl rfl
theorem dq_Road_lowestTerms_69 : decode (km_c mm_Road_lowestTerms) 69 = .ok (.ldiv, 1) := by decide +kernel
theorem sq_Road_lowestTerms_69 (hz : ¬ y2 = 0) : rn G mm_Road_lowestTerms 69 lv (.long y2 :: .long y :: st) S P ↔ rn G mm_Road_lowestTerms 70 lv (.long (y / y2) :: st) S P := rn_s dq_Road_lowestTerms_69 rfl rfl (if_neg hz)
theorem dq_Road_lowestTerms_70 : decode (km_c mm_Road_lowestTerms) 70 = .ok (.lreturn, 1) := by decide +kernel
theorem sq_Road_lowestTerms_70 : rn G mm_Road_lowestTerms 70 lv [.long y] S P ↔ P (some (.long y)) S := rn_lr dq_Road_lowestTerms_70 rfl
theorem dq_Road_lay_0 : decode (km_c mm_Road_lay) 0 = .ok (.aload_n 0, 1) := by decide +kernel
theorem sq_Road_lay_0 : rn G mm_Road_lay 0 [some (.ref z), a1, a2] st S P ↔ rn G mm_Road_lay 1 [some (.ref z), a1, a2] (.ref z :: st) S P := rn_s dq_Road_lay_0 rfl rfl rfl
theorem dq_Road_lay_1 : decode (km_c mm_Road_lay) 1 = .ok (.iload_n 1, 1) := by decide +kernel
theorem sq_Road_lay_1 : rn G mm_Road_lay 1 [a0, some (.int x), a2] st S P ↔ rn G mm_Road_lay 2 [a0, some (.int x), a2] (.int x :: st) S P := rn_s dq_Road_lay_1 rfl rfl rfl
theorem dq_Road_lay_2 : decode (km_c mm_Road_lay) 2 = .ok (.invokevirtual 184, 3) := by decide +kernel
theorem sq_Road_lay_2_0 {x1 : Int32} {v : Option Value} {S2 : ks_S} (hc : ev (lt_G o L) mm_Road_noSet [.ref 0, .int x1] (sx pl kp I A) v S2) (ho : sx_o o pl kp) (hst : kx_cat st ≤ 8) : rn (lt_G o L) mm_Road_lay 2 lv (.int x1 :: .ref 0 :: st) (sx pl kp I A) P ↔ rn (lt_G o L) mm_Road_lay 5 lv (v.toList ++ st) S2 P := rn_cv (k := 0) (host := "") (E' := mm_Road_noSet) dq_Road_lay_2 rfl (ok_v rfl (by decide) (by decide) (Nat.le_add_left _ _) hst (Nat.le_of_ble_eq_true rfl) (Or.inr (rc_v ho (up_b (by decide)) rfl))) rfl rfl hc
theorem dq_Road_lay_5 : decode (km_c mm_Road_lay) 5 = .ok (.ifCond .eq 5, 3) := by decide +kernel
theorem sq_Road_lay_5 : rn G mm_Road_lay 5 lv (.int x :: st) S P ↔ ((x = 0 → rn G mm_Road_lay 10 lv st S P) ∧ (¬ (x = 0) → rn G mm_Road_lay 8 lv st S P)) := rn_b (off := 5) dq_Road_lay_5 rfl rfl rfl rfl
theorem dq_Road_lay_8 : decode (km_c mm_Road_lay) 8 = .ok (.iconst (-1), 1) := by decide +kernel
theorem sq_Road_lay_8 : rn G mm_Road_lay 8 lv st S P ↔ rn G mm_Road_lay 9 lv (.int ((-1)) :: st) S P := rn_s dq_Road_lay_8 rfl rfl rfl
theorem dq_Road_lay_9 : decode (km_c mm_Road_lay) 9 = .ok (.ireturn, 1) := by decide +kernel
theorem sq_Road_lay_9 : rn G mm_Road_lay 9 lv [.int x] S P ↔ P (some (.int x)) S := rn_ir dq_Road_lay_9 rfl
theorem dq_Road_lay_10 : decode (km_c mm_Road_lay) 10 = .ok (.aload_n 0, 1) := by decide +kernel
theorem sq_Road_lay_10 : rn G mm_Road_lay 10 [some (.ref z), a1, a2] st S P ↔ rn G mm_Road_lay 11 [some (.ref z), a1, a2] (.ref z :: st) S P := rn_s dq_Road_lay_10 rfl rfl rfl
theorem dq_Road_lay_11 : decode (km_c mm_Road_lay) 11 = .ok (.invokevirtual 187, 3) := by decide +kernel
theorem sq_Road_lay_11_0  {v : Option Value} {S2 : ks_S} (hc : ev (lt_G o L) mm_Road_planNow [.ref 0] (sx pl kp I A) v S2) (ho : sx_o o pl kp) (hst : kx_cat st ≤ 8) : rn (lt_G o L) mm_Road_lay 11 lv (.ref 0 :: st) (sx pl kp I A) P ↔ rn (lt_G o L) mm_Road_lay 14 lv (v.toList ++ st) S2 P := rn_cv (k := 0) (host := "") (E' := mm_Road_planNow) dq_Road_lay_11 rfl (ok_v rfl (by decide) (by decide) (Nat.le_add_left _ _) hst (Nat.le_of_ble_eq_true rfl) (Or.inr (rc_v ho (up_b (by decide)) rfl))) rfl rfl hc
theorem dq_Road_lay_14 : decode (km_c mm_Road_lay) 14 = .ok (.astore_n 2, 1) := by decide +kernel
theorem sq_Road_lay_14n : rn G mm_Road_lay 14 [a0, none, a2] (.ref z :: st) S P ↔ rn G mm_Road_lay 15 [a0, none, some (.ref z)] st S P := rn_s dq_Road_lay_14 rfl rfl rfl
theorem sq_Road_lay_14i : rn G mm_Road_lay 14 [a0, some (.int x2), a2] (.ref z :: st) S P ↔ rn G mm_Road_lay 15 [a0, some (.int x2), some (.ref z)] st S P := rn_s dq_Road_lay_14 rfl rfl rfl
theorem sq_Road_lay_14r : rn G mm_Road_lay 14 [a0, some (.ref z2), a2] (.ref z :: st) S P ↔ rn G mm_Road_lay 15 [a0, some (.ref z2), some (.ref z)] st S P := rn_s dq_Road_lay_14 rfl rfl rfl
theorem dq_Road_lay_15 : decode (km_c mm_Road_lay) 15 = .ok (.aload_n 2, 1) := by decide +kernel
theorem sq_Road_lay_15 : rn G mm_Road_lay 15 [a0, a1, some (.ref z)] st S P ↔ rn G mm_Road_lay 16 [a0, a1, some (.ref z)] (.ref z :: st) S P := rn_s dq_Road_lay_15 rfl rfl rfl
theorem dq_Road_lay_16 : decode (km_c mm_Road_lay) 16 = .ok (.iload_n 1, 1) := by decide +kernel
theorem sq_Road_lay_16 : rn G mm_Road_lay 16 [a0, some (.int x), a2] st S P ↔ rn G mm_Road_lay 17 [a0, some (.int x), a2] (.int x :: st) S P := rn_s dq_Road_lay_16 rfl rfl rfl
theorem dq_Road_lay_17 : decode (km_c mm_Road_lay) 17 = .ok (.invokevirtual 220, 3) := by decide +kernel
theorem sq_Road_lay_17_65 {x1 : Int32} {v : Option Value} {S2 : ks_S} (hc : ev (lt_G o L) mm_Plan_cellsFor [.ref 65, .int x1] (sx true kp I A) v S2) (ho : sx_o o true kp) (hst : kx_cat st ≤ 8) : rn (lt_G o L) mm_Road_lay 17 lv (.int x1 :: .ref 65 :: st) (sx true kp I A) P ↔ rn (lt_G o L) mm_Road_lay 20 lv (v.toList ++ st) S2 P := rn_cv (k := 0) (host := "") (E' := mm_Plan_cellsFor) dq_Road_lay_17 rfl (ok_v rfl (by decide) (by decide) (Nat.le_add_left _ _) hst (Nat.le_of_ble_eq_true rfl) (Or.inr (rc_v ho (up_p (by decide)) rfl))) rfl rfl hc
theorem dq_Road_lay_20 : decode (km_c mm_Road_lay) 20 = .ok (.bipush 60, 2) := by decide +kernel
theorem sq_Road_lay_20 : rn G mm_Road_lay 20 lv st S P ↔ rn G mm_Road_lay 22 lv (.int (nI 60) :: st) S P := rn_s dq_Road_lay_20 rfl rfl rfl
theorem dq_Road_lay_22 : decode (km_c mm_Road_lay) 22 = .ok (.if_icmp .le 6, 3) := by decide +kernel
theorem sq_Road_lay_22 : rn G mm_Road_lay 22 lv (.int x2 :: .int x :: st) S P ↔ ((x ≤ x2 → rn G mm_Road_lay 28 lv st S P) ∧ (¬ (x ≤ x2) → rn G mm_Road_lay 25 lv st S P)) := rn_b (off := 6) dq_Road_lay_22 rfl rfl rfl rfl
theorem dq_Road_lay_25 : decode (km_c mm_Road_lay) 25 = .ok (.bipush (-3), 2) := by decide +kernel
theorem sq_Road_lay_25 : rn G mm_Road_lay 25 lv st S P ↔ rn G mm_Road_lay 27 lv (.int ((-3)) :: st) S P := rn_s dq_Road_lay_25 rfl rfl rfl
theorem dq_Road_lay_27 : decode (km_c mm_Road_lay) 27 = .ok (.ireturn, 1) := by decide +kernel
theorem sq_Road_lay_27 : rn G mm_Road_lay 27 lv [.int x] S P ↔ P (some (.int x)) S := rn_ir dq_Road_lay_27 rfl
theorem dq_Road_lay_28 : decode (km_c mm_Road_lay) 28 = .ok (.aload_n 2, 1) := by decide +kernel
theorem sq_Road_lay_28 : rn G mm_Road_lay 28 [a0, a1, some (.ref z)] st S P ↔ rn G mm_Road_lay 29 [a0, a1, some (.ref z)] (.ref z :: st) S P := rn_s dq_Road_lay_28 rfl rfl rfl
theorem dq_Road_lay_29 : decode (km_c mm_Road_lay) 29 = .ok (.iload_n 1, 1) := by decide +kernel
theorem sq_Road_lay_29 : rn G mm_Road_lay 29 [a0, some (.int x), a2] st S P ↔ rn G mm_Road_lay 30 [a0, some (.int x), a2] (.int x :: st) S P := rn_s dq_Road_lay_29 rfl rfl rfl
theorem dq_Road_lay_30 : decode (km_c mm_Road_lay) 30 = .ok (.aload_n 0, 1) := by decide +kernel
theorem sq_Road_lay_30 : rn G mm_Road_lay 30 [some (.ref z), a1, a2] st S P ↔ rn G mm_Road_lay 31 [some (.ref z), a1, a2] (.ref z :: st) S P := rn_s dq_Road_lay_30 rfl rfl rfl
theorem dq_Road_lay_31 : decode (km_c mm_Road_lay) 31 = .ok (.getfield 10, 3) := by decide +kernel
theorem sq_Road_lay_31_0 (ho : sx_o o pl kp) : rn (lt_G o L) mm_Road_lay 31 lv (.ref 0 :: st) (sx pl kp I A) P ↔ rn (lt_G o L) mm_Road_lay 34 lv (.ref 1 :: st) (sx pl kp I A) P := rx_get (h := "") (ci := 9) (k := 0) dq_Road_lay_31 (by decide +kernel) ho (up_b (by decide)) rfl rfl (fl_r (by decide) (by decide) (by decide) (by decide))
theorem dq_Road_lay_34 : decode (km_c mm_Road_lay) 34 = .ok (.getfield 150, 3) := by decide +kernel
theorem sq_Road_lay_34_1 (ho : sx_o o pl kp) : rn (lt_G o L) mm_Road_lay 34 lv (.ref 1 :: st) (sx pl kp I A) P ↔ rn (lt_G o L) mm_Road_lay 37 lv (.ref 12 :: st) (sx pl kp I A) P := rx_get (h := "DeltaRoad") (ci := 8) (k := 2) dq_Road_lay_34 (by decide +kernel) ho (up_b (by decide)) rfl rfl (fl_r (by decide) (by decide) (by decide) (by decide))
theorem sq_Road_lay_34_136 (ho : sx_o o pl true) : rn (lt_G o L) mm_Road_lay 34 lv (.ref 136 :: st) (sx pl true I A) P ↔ rn (lt_G o L) mm_Road_lay 37 lv (.ref 147 :: st) (sx pl true I A) P := rx_get (h := "DeltaRoad") (ci := 8) (k := 2) dq_Road_lay_34 (by decide +kernel) ho (up_k (by decide) (by decide)) rfl rfl (fl_k (by decide) (by decide))
theorem dq_Road_lay_37 : decode (km_c mm_Road_lay) 37 = .ok (.invokevirtual 223, 3) := by decide +kernel
theorem sq_Road_lay_37_65 {x1 : Int32} {z2 : Nat} {v : Option Value} {S2 : ks_S} (hc : ev (lt_G o L) mm_Plan_walk [.ref 65, .int x1, .ref z2] (sx true kp I A) v S2) (ho : sx_o o true kp) (hst : kx_cat st ≤ 8) : rn (lt_G o L) mm_Road_lay 37 lv (.ref z2 :: .int x1 :: .ref 65 :: st) (sx true kp I A) P ↔ rn (lt_G o L) mm_Road_lay 40 lv (v.toList ++ st) S2 P := rn_cv (k := 0) (host := "") (E' := mm_Plan_walk) dq_Road_lay_37 rfl (ok_v rfl (by decide) (by decide) (Nat.le_add_left _ _) hst (Nat.le_of_ble_eq_true rfl) (Or.inr (rc_v ho (up_p (by decide)) rfl))) rfl rfl hc
theorem dq_Road_lay_40 : decode (km_c mm_Road_lay) 40 = .ok (.aload_n 0, 1) := by decide +kernel
theorem sq_Road_lay_40 : rn G mm_Road_lay 40 [some (.ref z), a1, a2] st S P ↔ rn G mm_Road_lay 41 [some (.ref z), a1, a2] (.ref z :: st) S P := rn_s dq_Road_lay_40 rfl rfl rfl
theorem dq_Road_lay_41 : decode (km_c mm_Road_lay) 41 = .ok (.getfield 10, 3) := by decide +kernel
theorem sq_Road_lay_41_0 (ho : sx_o o pl kp) : rn (lt_G o L) mm_Road_lay 41 lv (.ref 0 :: st) (sx pl kp I A) P ↔ rn (lt_G o L) mm_Road_lay 44 lv (.ref 1 :: st) (sx pl kp I A) P := rx_get (h := "") (ci := 9) (k := 0) dq_Road_lay_41 (by decide +kernel) ho (up_b (by decide)) rfl rfl (fl_r (by decide) (by decide) (by decide) (by decide))
theorem dq_Road_lay_44 : decode (km_c mm_Road_lay) 44 = .ok (.getfield 150, 3) := by decide +kernel
theorem sq_Road_lay_44_1 (ho : sx_o o pl kp) : rn (lt_G o L) mm_Road_lay 44 lv (.ref 1 :: st) (sx pl kp I A) P ↔ rn (lt_G o L) mm_Road_lay 47 lv (.ref 12 :: st) (sx pl kp I A) P := rx_get (h := "DeltaRoad") (ci := 8) (k := 2) dq_Road_lay_44 (by decide +kernel) ho (up_b (by decide)) rfl rfl (fl_r (by decide) (by decide) (by decide) (by decide))
theorem sq_Road_lay_44_136 (ho : sx_o o pl true) : rn (lt_G o L) mm_Road_lay 44 lv (.ref 136 :: st) (sx pl true I A) P ↔ rn (lt_G o L) mm_Road_lay 47 lv (.ref 147 :: st) (sx pl true I A) P := rx_get (h := "DeltaRoad") (ci := 8) (k := 2) dq_Road_lay_44 (by decide +kernel) ho (up_k (by decide) (by decide)) rfl rfl (fl_k (by decide) (by decide))
theorem dq_Road_lay_47 : decode (km_c mm_Road_lay) 47 = .ok (.getfield 154, 3) := by decide +kernel
theorem sq_Road_lay_47_12 (ho : sx_o o pl kp) : rn (lt_G o L) mm_Road_lay 47 lv (.ref 12 :: st) (sx pl kp I A) P ↔ rn (lt_G o L) mm_Road_lay 50 lv (.int (I 12 1) :: st) (sx pl kp I A) P := rx_get (h := "DeltaRoad") (ci := 1) (k := 1) dq_Road_lay_47 (by decide +kernel) ho (up_b (by decide)) rfl rfl (fl_i (by decide))
theorem sq_Road_lay_47_147 (ho : sx_o o pl true) : rn (lt_G o L) mm_Road_lay 47 lv (.ref 147 :: st) (sx pl true I A) P ↔ rn (lt_G o L) mm_Road_lay 50 lv (.int (I 147 1) :: st) (sx pl true I A) P := rx_get (h := "DeltaRoad") (ci := 1) (k := 1) dq_Road_lay_47 (by decide +kernel) ho (up_k (by decide) (by decide)) rfl rfl (fl_i (by decide))
theorem dq_Road_lay_50 : decode (km_c mm_Road_lay) 50 = .ok (.ireturn, 1) := by decide +kernel
theorem sq_Road_lay_50 : rn G mm_Road_lay 50 lv [.int x] S P ↔ P (some (.int x)) S := rn_ir dq_Road_lay_50 rfl
theorem dq_Road_step_0 : decode (km_c mm_Road_step) 0 = .ok (.aload_n 0, 1) := by decide +kernel
theorem sq_Road_step_0 : rn G mm_Road_step 0 [some (.ref z), a1, a2] st S P ↔ rn G mm_Road_step 1 [some (.ref z), a1, a2] (.ref z :: st) S P := rn_s dq_Road_step_0 rfl rfl rfl
theorem dq_Road_step_1 : decode (km_c mm_Road_step) 1 = .ok (.getfield 10, 3) := by decide +kernel
theorem sq_Road_step_1_0 (ho : sx_o o pl kp) : rn (lt_G o L) mm_Road_step 1 lv (.ref 0 :: st) (sx pl kp I A) P ↔ rn (lt_G o L) mm_Road_step 4 lv (.ref 1 :: st) (sx pl kp I A) P := rx_get (h := "") (ci := 9) (k := 0) dq_Road_step_1 (by decide +kernel) ho (up_b (by decide)) rfl rfl (fl_r (by decide) (by decide) (by decide) (by decide))
theorem dq_Road_step_4 : decode (km_c mm_Road_step) 4 = .ok (.getfield 150, 3) := by decide +kernel
theorem sq_Road_step_4_1 (ho : sx_o o pl kp) : rn (lt_G o L) mm_Road_step 4 lv (.ref 1 :: st) (sx pl kp I A) P ↔ rn (lt_G o L) mm_Road_step 7 lv (.ref 12 :: st) (sx pl kp I A) P := rx_get (h := "DeltaRoad") (ci := 8) (k := 2) dq_Road_step_4 (by decide +kernel) ho (up_b (by decide)) rfl rfl (fl_r (by decide) (by decide) (by decide) (by decide))
theorem sq_Road_step_4_136 (ho : sx_o o pl true) : rn (lt_G o L) mm_Road_step 4 lv (.ref 136 :: st) (sx pl true I A) P ↔ rn (lt_G o L) mm_Road_step 7 lv (.ref 147 :: st) (sx pl true I A) P := rx_get (h := "DeltaRoad") (ci := 8) (k := 2) dq_Road_step_4 (by decide +kernel) ho (up_k (by decide) (by decide)) rfl rfl (fl_k (by decide) (by decide))
theorem dq_Road_step_7 : decode (km_c mm_Road_step) 7 = .ok (.astore_n 2, 1) := by decide +kernel
theorem sq_Road_step_7n : rn G mm_Road_step 7 [a0, none, a2] (.ref z :: st) S P ↔ rn G mm_Road_step 8 [a0, none, some (.ref z)] st S P := rn_s dq_Road_step_7 rfl rfl rfl
theorem sq_Road_step_7i : rn G mm_Road_step 7 [a0, some (.int x2), a2] (.ref z :: st) S P ↔ rn G mm_Road_step 8 [a0, some (.int x2), some (.ref z)] st S P := rn_s dq_Road_step_7 rfl rfl rfl
theorem sq_Road_step_7r : rn G mm_Road_step 7 [a0, some (.ref z2), a2] (.ref z :: st) S P ↔ rn G mm_Road_step 8 [a0, some (.ref z2), some (.ref z)] st S P := rn_s dq_Road_step_7 rfl rfl rfl
theorem dq_Road_step_8 : decode (km_c mm_Road_step) 8 = .ok (.iload_n 1, 1) := by decide +kernel
theorem sq_Road_step_8 : rn G mm_Road_step 8 [a0, some (.int x), a2] st S P ↔ rn G mm_Road_step 9 [a0, some (.int x), a2] (.int x :: st) S P := rn_s dq_Road_step_8 rfl rfl rfl
theorem dq_Road_step_9 : decode (km_c mm_Road_step) 9 = .ok (.invokestatic 68, 3) := by decide +kernel
theorem sq_Road_step_9 {x1 : Int32} {v : Option Value} {S2 : ks_S} (hc : ev G mm_Road_noCell [.int x1] S v S2) (hst : kx_cat st ≤ 8) : rn G mm_Road_step 9 lv (.int x1 :: st) S P ↔ rn G mm_Road_step 12 lv (v.toList ++ st) S2 P := rn_cs (k := 1) (host := "") (E' := mm_Road_noCell) dq_Road_step_9 (by decide) (by decide) rfl (ok_v rfl (by decide) (by decide) (Nat.le_add_left _ _) hst (Nat.le_of_ble_eq_true rfl) (Or.inl rfl)) rfl rfl hc
theorem dq_Road_step_12 : decode (km_c mm_Road_step) 12 = .ok (.ifCond .eq 5, 3) := by decide +kernel
theorem sq_Road_step_12 : rn G mm_Road_step 12 lv (.int x :: st) S P ↔ ((x = 0 → rn G mm_Road_step 17 lv st S P) ∧ (¬ (x = 0) → rn G mm_Road_step 15 lv st S P)) := rn_b (off := 5) dq_Road_step_12 rfl rfl rfl rfl
theorem dq_Road_step_15 : decode (km_c mm_Road_step) 15 = .ok (.iconst (-1), 1) := by decide +kernel
theorem sq_Road_step_15 : rn G mm_Road_step 15 lv st S P ↔ rn G mm_Road_step 16 lv (.int ((-1)) :: st) S P := rn_s dq_Road_step_15 rfl rfl rfl
theorem dq_Road_step_16 : decode (km_c mm_Road_step) 16 = .ok (.ireturn, 1) := by decide +kernel
theorem sq_Road_step_16 : rn G mm_Road_step 16 lv [.int x] S P ↔ P (some (.int x)) S := rn_ir dq_Road_step_16 rfl
theorem dq_Road_step_17 : decode (km_c mm_Road_step) 17 = .ok (.aload_n 2, 1) := by decide +kernel
theorem sq_Road_step_17 : rn G mm_Road_step 17 [a0, a1, some (.ref z)] st S P ↔ rn G mm_Road_step 18 [a0, a1, some (.ref z)] (.ref z :: st) S P := rn_s dq_Road_step_17 rfl rfl rfl
theorem dq_Road_step_18 : decode (km_c mm_Road_step) 18 = .ok (.getfield 154, 3) := by decide +kernel
theorem sq_Road_step_18_12 (ho : sx_o o pl kp) : rn (lt_G o L) mm_Road_step 18 lv (.ref 12 :: st) (sx pl kp I A) P ↔ rn (lt_G o L) mm_Road_step 21 lv (.int (I 12 1) :: st) (sx pl kp I A) P := rx_get (h := "DeltaRoad") (ci := 1) (k := 1) dq_Road_step_18 (by decide +kernel) ho (up_b (by decide)) rfl rfl (fl_i (by decide))
theorem sq_Road_step_18_147 (ho : sx_o o pl true) : rn (lt_G o L) mm_Road_step 18 lv (.ref 147 :: st) (sx pl true I A) P ↔ rn (lt_G o L) mm_Road_step 21 lv (.int (I 147 1) :: st) (sx pl true I A) P := rx_get (h := "DeltaRoad") (ci := 1) (k := 1) dq_Road_step_18 (by decide +kernel) ho (up_k (by decide) (by decide)) rfl rfl (fl_i (by decide))
theorem dq_Road_step_21 : decode (km_c mm_Road_step) 21 = .ok (.ifCond .le 24, 3) := by decide +kernel
theorem sq_Road_step_21 : rn G mm_Road_step 21 lv (.int x :: st) S P ↔ ((x ≤ 0 → rn G mm_Road_step 45 lv st S P) ∧ (¬ (x ≤ 0) → rn G mm_Road_step 24 lv st S P)) := rn_b (off := 24) dq_Road_step_21 rfl rfl rfl rfl
theorem dq_Road_step_24 : decode (km_c mm_Road_step) 24 = .ok (.aload_n 2, 1) := by decide +kernel
theorem sq_Road_step_24 : rn G mm_Road_step 24 [a0, a1, some (.ref z)] st S P ↔ rn G mm_Road_step 25 [a0, a1, some (.ref z)] (.ref z :: st) S P := rn_s dq_Road_step_24 rfl rfl rfl
theorem dq_Road_step_25 : decode (km_c mm_Road_step) 25 = .ok (.getfield 227, 3) := by decide +kernel
theorem sq_Road_step_25_12 (ho : sx_o o pl kp) : rn (lt_G o L) mm_Road_step 25 lv (.ref 12 :: st) (sx pl kp I A) P ↔ rn (lt_G o L) mm_Road_step 28 lv (.ref 13 :: st) (sx pl kp I A) P := rx_get (h := "DeltaRoad") (ci := 1) (k := 0) dq_Road_step_25 (by decide +kernel) ho (up_b (by decide)) rfl rfl (fl_r (by decide) (by decide) (by decide) (by decide))
theorem sq_Road_step_25_147 (ho : sx_o o pl true) : rn (lt_G o L) mm_Road_step 25 lv (.ref 147 :: st) (sx pl true I A) P ↔ rn (lt_G o L) mm_Road_step 28 lv (.ref 148 :: st) (sx pl true I A) P := rx_get (h := "DeltaRoad") (ci := 1) (k := 0) dq_Road_step_25 (by decide +kernel) ho (up_k (by decide) (by decide)) rfl rfl (fl_k (by decide) (by decide))
theorem dq_Road_step_28 : decode (km_c mm_Road_step) 28 = .ok (.aload_n 2, 1) := by decide +kernel
theorem sq_Road_step_28 : rn G mm_Road_step 28 [a0, a1, some (.ref z)] st S P ↔ rn G mm_Road_step 29 [a0, a1, some (.ref z)] (.ref z :: st) S P := rn_s dq_Road_step_28 rfl rfl rfl
theorem dq_Road_step_29 : decode (km_c mm_Road_step) 29 = .ok (.getfield 154, 3) := by decide +kernel
theorem sq_Road_step_29_12 (ho : sx_o o pl kp) : rn (lt_G o L) mm_Road_step 29 lv (.ref 12 :: st) (sx pl kp I A) P ↔ rn (lt_G o L) mm_Road_step 32 lv (.int (I 12 1) :: st) (sx pl kp I A) P := rx_get (h := "DeltaRoad") (ci := 1) (k := 1) dq_Road_step_29 (by decide +kernel) ho (up_b (by decide)) rfl rfl (fl_i (by decide))
theorem sq_Road_step_29_147 (ho : sx_o o pl true) : rn (lt_G o L) mm_Road_step 29 lv (.ref 147 :: st) (sx pl true I A) P ↔ rn (lt_G o L) mm_Road_step 32 lv (.int (I 147 1) :: st) (sx pl true I A) P := rx_get (h := "DeltaRoad") (ci := 1) (k := 1) dq_Road_step_29 (by decide +kernel) ho (up_k (by decide) (by decide)) rfl rfl (fl_i (by decide))
theorem dq_Road_step_32 : decode (km_c mm_Road_step) 32 = .ok (.iconst 1, 1) := by decide +kernel
theorem sq_Road_step_32 : rn G mm_Road_step 32 lv st S P ↔ rn G mm_Road_step 33 lv (.int (nI 1) :: st) S P := rn_s dq_Road_step_32 rfl rfl rfl
theorem dq_Road_step_33 : decode (km_c mm_Road_step) 33 = .ok (.isub, 1) := by decide +kernel
theorem sq_Road_step_33 : rn G mm_Road_step 33 lv (.int x2 :: .int x :: st) S P ↔ rn G mm_Road_step 34 lv (.int (x - x2) :: st) S P := rn_s dq_Road_step_33 rfl rfl rfl
theorem dq_Road_step_34 : decode (km_c mm_Road_step) 34 = .ok (.iaload, 1) := by decide +kernel
theorem sq_Road_step_34 (ho : sx_o o pl kp) (hk : ak L a = 0) (hu : sx_up pl kp a = true ∨ 1000 ≤ a) (hc : c < ln L a) (hn : ln L a < 2 ^ 31) : rn (lt_G o L) mm_Road_step 34 lv (.int (nI c) :: .ref a :: st) (sx pl kp I A) P ↔ rn (lt_G o L) mm_Road_step 35 lv (.int (A a c) :: st) (sx pl kp I A) P := rx_ild dq_Road_step_34 ho hk hu hc hn
theorem dq_Road_step_35 : decode (km_c mm_Road_step) 35 = .ok (.iload_n 1, 1) := by decide +kernel
theorem sq_Road_step_35 : rn G mm_Road_step 35 [a0, some (.int x), a2] st S P ↔ rn G mm_Road_step 36 [a0, some (.int x), a2] (.int x :: st) S P := rn_s dq_Road_step_35 rfl rfl rfl
theorem dq_Road_step_36 : decode (km_c mm_Road_step) 36 = .ok (.invokestatic 228, 3) := by decide +kernel
theorem sq_Road_step_36 {x1 : Int32} {x2 : Int32} {v : Option Value} {S2 : ks_S} (hc : ev G mm_Road_sideTo [.int x1, .int x2] S v S2) (hst : kx_cat st ≤ 8) : rn G mm_Road_step 36 lv (.int x2 :: .int x1 :: st) S P ↔ rn G mm_Road_step 39 lv (v.toList ++ st) S2 P := rn_cs (k := 1) (host := "") (E' := mm_Road_sideTo) dq_Road_step_36 (by decide) (by decide) rfl (ok_v rfl (by decide) (by decide) (Nat.le_add_left _ _) hst (Nat.le_of_ble_eq_true rfl) (Or.inl rfl)) rfl rfl hc
theorem dq_Road_step_39 : decode (km_c mm_Road_step) 39 = .ok (.ifCond .ge 6, 3) := by decide +kernel
theorem sq_Road_step_39 : rn G mm_Road_step 39 lv (.int x :: st) S P ↔ ((0 ≤ x → rn G mm_Road_step 45 lv st S P) ∧ (¬ (0 ≤ x) → rn G mm_Road_step 42 lv st S P)) := rn_b (off := 6) dq_Road_step_39 rfl rfl rfl rfl
theorem dq_Road_step_42 : decode (km_c mm_Road_step) 42 = .ok (.bipush (-2), 2) := by decide +kernel
theorem sq_Road_step_42 : rn G mm_Road_step 42 lv st S P ↔ rn G mm_Road_step 44 lv (.int ((-2)) :: st) S P := rn_s dq_Road_step_42 rfl rfl rfl
theorem dq_Road_step_44 : decode (km_c mm_Road_step) 44 = .ok (.ireturn, 1) := by decide +kernel
theorem sq_Road_step_44 : rn G mm_Road_step 44 lv [.int x] S P ↔ P (some (.int x)) S := rn_ir dq_Road_step_44 rfl
theorem dq_Road_step_45 : decode (km_c mm_Road_step) 45 = .ok (.aload_n 2, 1) := by decide +kernel
theorem sq_Road_step_45 : rn G mm_Road_step 45 [a0, a1, some (.ref z)] st S P ↔ rn G mm_Road_step 46 [a0, a1, some (.ref z)] (.ref z :: st) S P := rn_s dq_Road_step_45 rfl rfl rfl
theorem dq_Road_step_46 : decode (km_c mm_Road_step) 46 = .ok (.getfield 154, 3) := by decide +kernel
theorem sq_Road_step_46_12 (ho : sx_o o pl kp) : rn (lt_G o L) mm_Road_step 46 lv (.ref 12 :: st) (sx pl kp I A) P ↔ rn (lt_G o L) mm_Road_step 49 lv (.int (I 12 1) :: st) (sx pl kp I A) P := rx_get (h := "DeltaRoad") (ci := 1) (k := 1) dq_Road_step_46 (by decide +kernel) ho (up_b (by decide)) rfl rfl (fl_i (by decide))
theorem sq_Road_step_46_147 (ho : sx_o o pl true) : rn (lt_G o L) mm_Road_step 46 lv (.ref 147 :: st) (sx pl true I A) P ↔ rn (lt_G o L) mm_Road_step 49 lv (.int (I 147 1) :: st) (sx pl true I A) P := rx_get (h := "DeltaRoad") (ci := 1) (k := 1) dq_Road_step_46 (by decide +kernel) ho (up_k (by decide) (by decide)) rfl rfl (fl_i (by decide))
theorem dq_Road_step_49 : decode (km_c mm_Road_step) 49 = .ok (.bipush 60, 2) := by decide +kernel
theorem sq_Road_step_49 : rn G mm_Road_step 49 lv st S P ↔ rn G mm_Road_step 51 lv (.int (nI 60) :: st) S P := rn_s dq_Road_step_49 rfl rfl rfl
theorem dq_Road_step_51 : decode (km_c mm_Road_step) 51 = .ok (.if_icmp .lt 6, 3) := by decide +kernel
theorem sq_Road_step_51 : rn G mm_Road_step 51 lv (.int x2 :: .int x :: st) S P ↔ ((x < x2 → rn G mm_Road_step 57 lv st S P) ∧ (¬ (x < x2) → rn G mm_Road_step 54 lv st S P)) := rn_b (off := 6) dq_Road_step_51 rfl rfl rfl rfl
theorem dq_Road_step_54 : decode (km_c mm_Road_step) 54 = .ok (.bipush (-3), 2) := by decide +kernel
theorem sq_Road_step_54 : rn G mm_Road_step 54 lv st S P ↔ rn G mm_Road_step 56 lv (.int ((-3)) :: st) S P := rn_s dq_Road_step_54 rfl rfl rfl
theorem dq_Road_step_56 : decode (km_c mm_Road_step) 56 = .ok (.ireturn, 1) := by decide +kernel
theorem sq_Road_step_56 : rn G mm_Road_step 56 lv [.int x] S P ↔ P (some (.int x)) S := rn_ir dq_Road_step_56 rfl
theorem dq_Road_step_57 : decode (km_c mm_Road_step) 57 = .ok (.aload_n 2, 1) := by decide +kernel
theorem sq_Road_step_57 : rn G mm_Road_step 57 [a0, a1, some (.ref z)] st S P ↔ rn G mm_Road_step 58 [a0, a1, some (.ref z)] (.ref z :: st) S P := rn_s dq_Road_step_57 rfl rfl rfl
theorem dq_Road_step_58 : decode (km_c mm_Road_step) 58 = .ok (.iload_n 1, 1) := by decide +kernel
theorem sq_Road_step_58 : rn G mm_Road_step 58 [a0, some (.int x), a2] st S P ↔ rn G mm_Road_step 59 [a0, some (.int x), a2] (.int x :: st) S P := rn_s dq_Road_step_58 rfl rfl rfl
theorem dq_Road_step_59 : decode (km_c mm_Road_step) 59 = .ok (.invokevirtual 231, 3) := by decide +kernel
theorem sq_Road_step_59_12 {x1 : Int32} {v : Option Value} {S2 : ks_S} (hc : ev (lt_G o L) mm_Laid_add [.ref 12, .int x1] (sx pl kp I A) v S2) (ho : sx_o o pl kp) (hst : kx_cat st ≤ 8) : rn (lt_G o L) mm_Road_step 59 lv (.int x1 :: .ref 12 :: st) (sx pl kp I A) P ↔ rn (lt_G o L) mm_Road_step 62 lv (v.toList ++ st) S2 P := rn_cv (k := 0) (host := "") (E' := mm_Laid_add) dq_Road_step_59 rfl (ok_v rfl (by decide) (by decide) (Nat.le_add_left _ _) hst (Nat.le_of_ble_eq_true rfl) (Or.inr (rc_v ho (up_b (by decide)) rfl))) rfl rfl hc
theorem sq_Road_step_59_147 {x1 : Int32} {v : Option Value} {S2 : ks_S} (hc : ev (lt_G o L) mm_Laid_add [.ref 147, .int x1] (sx pl true I A) v S2) (ho : sx_o o pl true) (hst : kx_cat st ≤ 8) : rn (lt_G o L) mm_Road_step 59 lv (.int x1 :: .ref 147 :: st) (sx pl true I A) P ↔ rn (lt_G o L) mm_Road_step 62 lv (v.toList ++ st) S2 P := rn_cv (k := 0) (host := "") (E' := mm_Laid_add) dq_Road_step_59 rfl (ok_v rfl (by decide) (by decide) (Nat.le_add_left _ _) hst (Nat.le_of_ble_eq_true rfl) (Or.inr (rc_v ho (up_k (by decide) (by decide)) rfl))) rfl rfl hc
theorem dq_Road_step_62 : decode (km_c mm_Road_step) 62 = .ok (.aload_n 2, 1) := by decide +kernel
theorem sq_Road_step_62 : rn G mm_Road_step 62 [a0, a1, some (.ref z)] st S P ↔ rn G mm_Road_step 63 [a0, a1, some (.ref z)] (.ref z :: st) S P := rn_s dq_Road_step_62 rfl rfl rfl
theorem dq_Road_step_63 : decode (km_c mm_Road_step) 63 = .ok (.getfield 154, 3) := by decide +kernel
theorem sq_Road_step_63_12 (ho : sx_o o pl kp) : rn (lt_G o L) mm_Road_step 63 lv (.ref 12 :: st) (sx pl kp I A) P ↔ rn (lt_G o L) mm_Road_step 66 lv (.int (I 12 1) :: st) (sx pl kp I A) P := rx_get (h := "DeltaRoad") (ci := 1) (k := 1) dq_Road_step_63 (by decide +kernel) ho (up_b (by decide)) rfl rfl (fl_i (by decide))
theorem sq_Road_step_63_147 (ho : sx_o o pl true) : rn (lt_G o L) mm_Road_step 63 lv (.ref 147 :: st) (sx pl true I A) P ↔ rn (lt_G o L) mm_Road_step 66 lv (.int (I 147 1) :: st) (sx pl true I A) P := rx_get (h := "DeltaRoad") (ci := 1) (k := 1) dq_Road_step_63 (by decide +kernel) ho (up_k (by decide) (by decide)) rfl rfl (fl_i (by decide))
theorem dq_Road_step_66 : decode (km_c mm_Road_step) 66 = .ok (.ireturn, 1) := by decide +kernel
theorem sq_Road_step_66 : rn G mm_Road_step 66 lv [.int x] S P ↔ P (some (.int x)) S := rn_ir dq_Road_step_66 rfl
end SQ
