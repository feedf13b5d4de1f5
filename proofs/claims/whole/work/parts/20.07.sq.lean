section SQ
variable {o pl kp : Bool} {L : Nat} {I A : Nat → Nat → Int32} {G : kg_G} {S : ks_S} {lv : List (Option Value)} {st : List Value} {P : Option Value → ks_S → Prop} {x x2 : Int32} {y y2 : Int64} {z z2 c a : Nat} {a0 a1 a2 a3 a4 a5 a6 a7 a8 a9 a10 a11 a12 a13 a14 a15 a16 a17 a18 a19 a20 a21 a22 a23 : Option Value}
theorem dq_Road_leaves_0 : decode (km_c mm_Road_leaves) 0 = .ok (.aload_n 0, 1) := by decide +kernel
theorem sq_Road_leaves_0 : rn G mm_Road_leaves 0 [some (.ref z), a1, a2, a3, a4, a5, a6, a7] st S P ↔ rn G mm_Road_leaves 1 [some (.ref z), a1, a2, a3, a4, a5, a6, a7] (.ref z :: st) S P := rn_s dq_Road_leaves_0 rfl rfl rfl
theorem dq_Road_leaves_1 : decode (km_c mm_Road_leaves) 1 = .ok (.iload_n 1, 1) := by decide +kernel
theorem sq_Road_leaves_1 : rn G mm_Road_leaves 1 [a0, some (.int x), a2, a3, a4, a5, a6, a7] st S P ↔ rn G mm_Road_leaves 2 [a0, some (.int x), a2, a3, a4, a5, a6, a7] (.int x :: st) S P := rn_s dq_Road_leaves_1 rfl rfl rfl
theorem dq_Road_leaves_2 : decode (km_c mm_Road_leaves) 2 = .ok (.invokevirtual 184, 3) := by decide +kernel
theorem sq_Road_leaves_2_0 {x1 : Int32} {v : Option Value} {S2 : ks_S} (hc : ev (lt_G o L) mm_Road_noSet [.ref 0, .int x1] (sx pl kp I A) v S2) (ho : sx_o o pl kp) (hst : kx_cat st ≤ 8) : rn (lt_G o L) mm_Road_leaves 2 lv (.int x1 :: .ref 0 :: st) (sx pl kp I A) P ↔ rn (lt_G o L) mm_Road_leaves 5 lv (v.toList ++ st) S2 P := rn_cv (k := 0) (host := "") (E' := mm_Road_noSet) dq_Road_leaves_2 rfl (ok_v rfl (by decide) (by decide) (Nat.le_add_left _ _) hst (Nat.le_of_ble_eq_true rfl) (Or.inr (rc_v ho (up_b (by decide)) rfl))) rfl rfl hc
theorem dq_Road_leaves_5 : decode (km_c mm_Road_leaves) 5 = .ok (.ifCond .ne 21, 3) := by decide +kernel
theorem sq_Road_leaves_5 : rn G mm_Road_leaves 5 lv (.int x :: st) S P ↔ ((¬ x = 0 → rn G mm_Road_leaves 26 lv st S P) ∧ (¬ (¬ x = 0) → rn G mm_Road_leaves 8 lv st S P)) := rn_b (off := 21) dq_Road_leaves_5 rfl rfl rfl rfl
theorem dq_Road_leaves_8 : decode (km_c mm_Road_leaves) 8 = .ok (.iload_n 1, 1) := by decide +kernel
theorem sq_Road_leaves_8 : rn G mm_Road_leaves 8 [a0, some (.int x), a2, a3, a4, a5, a6, a7] st S P ↔ rn G mm_Road_leaves 9 [a0, some (.int x), a2, a3, a4, a5, a6, a7] (.int x :: st) S P := rn_s dq_Road_leaves_8 rfl rfl rfl
theorem dq_Road_leaves_9 : decode (km_c mm_Road_leaves) 9 = .ok (.ifCond .eq 17, 3) := by decide +kernel
theorem sq_Road_leaves_9 : rn G mm_Road_leaves 9 lv (.int x :: st) S P ↔ ((x = 0 → rn G mm_Road_leaves 26 lv st S P) ∧ (¬ (x = 0) → rn G mm_Road_leaves 12 lv st S P)) := rn_b (off := 17) dq_Road_leaves_9 rfl rfl rfl rfl
theorem dq_Road_leaves_12 : decode (km_c mm_Road_leaves) 12 = .ok (.iload_n 2, 1) := by decide +kernel
theorem sq_Road_leaves_12 : rn G mm_Road_leaves 12 [a0, a1, some (.int x), a3, a4, a5, a6, a7] st S P ↔ rn G mm_Road_leaves 13 [a0, a1, some (.int x), a3, a4, a5, a6, a7] (.int x :: st) S P := rn_s dq_Road_leaves_12 rfl rfl rfl
theorem dq_Road_leaves_13 : decode (km_c mm_Road_leaves) 13 = .ok (.invokestatic 279, 3) := by decide +kernel
theorem sq_Road_leaves_13 {x1 : Int32} {v : Option Value} {S2 : ks_S} (hc : ev G mm_Road_noSheet [.int x1] S v S2) (hst : kx_cat st ≤ 8) : rn G mm_Road_leaves 13 lv (.int x1 :: st) S P ↔ rn G mm_Road_leaves 16 lv (v.toList ++ st) S2 P := rn_cs (k := 1) (host := "") (E' := mm_Road_noSheet) dq_Road_leaves_13 (by decide) (by decide) rfl (ok_v rfl (by decide) (by decide) (Nat.le_add_left _ _) hst (Nat.le_of_ble_eq_true rfl) (Or.inl rfl)) rfl rfl hc
theorem dq_Road_leaves_16 : decode (km_c mm_Road_leaves) 16 = .ok (.ifCond .ne 10, 3) := by decide +kernel
theorem sq_Road_leaves_16 : rn G mm_Road_leaves 16 lv (.int x :: st) S P ↔ ((¬ x = 0 → rn G mm_Road_leaves 26 lv st S P) ∧ (¬ (¬ x = 0) → rn G mm_Road_leaves 19 lv st S P)) := rn_b (off := 10) dq_Road_leaves_16 rfl rfl rfl rfl
theorem dq_Road_leaves_19 : decode (km_c mm_Road_leaves) 19 = .ok (.iload_n 3, 1) := by decide +kernel
theorem sq_Road_leaves_19 : rn G mm_Road_leaves 19 [a0, a1, a2, some (.int x), a4, a5, a6, a7] st S P ↔ rn G mm_Road_leaves 20 [a0, a1, a2, some (.int x), a4, a5, a6, a7] (.int x :: st) S P := rn_s dq_Road_leaves_19 rfl rfl rfl
theorem dq_Road_leaves_20 : decode (km_c mm_Road_leaves) 20 = .ok (.invokestatic 282, 3) := by decide +kernel
theorem sq_Road_leaves_20 {x1 : Int32} {v : Option Value} {S2 : ks_S} (hc : ev G mm_Road_noLane [.int x1] S v S2) (hst : kx_cat st ≤ 8) : rn G mm_Road_leaves 20 lv (.int x1 :: st) S P ↔ rn G mm_Road_leaves 23 lv (v.toList ++ st) S2 P := rn_cs (k := 1) (host := "") (E' := mm_Road_noLane) dq_Road_leaves_20 (by decide) (by decide) rfl (ok_v rfl (by decide) (by decide) (Nat.le_add_left _ _) hst (Nat.le_of_ble_eq_true rfl) (Or.inl rfl)) rfl rfl hc
theorem dq_Road_leaves_23 : decode (km_c mm_Road_leaves) 23 = .ok (.ifCond .eq 5, 3) := by decide +kernel
theorem sq_Road_leaves_23 : rn G mm_Road_leaves 23 lv (.int x :: st) S P ↔ ((x = 0 → rn G mm_Road_leaves 28 lv st S P) ∧ (¬ (x = 0) → rn G mm_Road_leaves 26 lv st S P)) := rn_b (off := 5) dq_Road_leaves_23 rfl rfl rfl rfl
theorem dq_Road_leaves_26 : decode (km_c mm_Road_leaves) 26 = .ok (.iconst (-1), 1) := by decide +kernel
theorem sq_Road_leaves_26 : rn G mm_Road_leaves 26 lv st S P ↔ rn G mm_Road_leaves 27 lv (.int ((-1)) :: st) S P := rn_s dq_Road_leaves_26 rfl rfl rfl
theorem dq_Road_leaves_27 : decode (km_c mm_Road_leaves) 27 = .ok (.ireturn, 1) := by decide +kernel
theorem sq_Road_leaves_27 : rn G mm_Road_leaves 27 lv [.int x] S P ↔ P (some (.int x)) S := rn_ir dq_Road_leaves_27 rfl
theorem dq_Road_leaves_28 : decode (km_c mm_Road_leaves) 28 = .ok (.aload_n 0, 1) := by decide +kernel
theorem sq_Road_leaves_28 : rn G mm_Road_leaves 28 [some (.ref z), a1, a2, a3, a4, a5, a6, a7] st S P ↔ rn G mm_Road_leaves 29 [some (.ref z), a1, a2, a3, a4, a5, a6, a7] (.ref z :: st) S P := rn_s dq_Road_leaves_28 rfl rfl rfl
theorem dq_Road_leaves_29 : decode (km_c mm_Road_leaves) 29 = .ok (.getfield 36, 3) := by decide +kernel
theorem sq_Road_leaves_29_0 (ho : sx_o o pl kp) : rn (lt_G o L) mm_Road_leaves 29 lv (.ref 0 :: st) (sx pl kp I A) P ↔ rn (lt_G o L) mm_Road_leaves 32 lv (.ref 26 :: st) (sx pl kp I A) P := rx_get (h := "") (ci := 9) (k := 4) dq_Road_leaves_29 (by decide +kernel) ho (up_b (by decide)) rfl rfl (fl_r (by decide) (by decide) (by decide) (by decide))
theorem dq_Road_leaves_32 : decode (km_c mm_Road_leaves) 32 = .ok (.iload_n 2, 1) := by decide +kernel
theorem sq_Road_leaves_32 : rn G mm_Road_leaves 32 [a0, a1, some (.int x), a3, a4, a5, a6, a7] st S P ↔ rn G mm_Road_leaves 33 [a0, a1, some (.int x), a3, a4, a5, a6, a7] (.int x :: st) S P := rn_s dq_Road_leaves_32 rfl rfl rfl
theorem dq_Road_leaves_33 : decode (km_c mm_Road_leaves) 33 = .ok (.iload_n 3, 1) := by decide +kernel
theorem sq_Road_leaves_33 : rn G mm_Road_leaves 33 [a0, a1, a2, some (.int x), a4, a5, a6, a7] st S P ↔ rn G mm_Road_leaves 34 [a0, a1, a2, some (.int x), a4, a5, a6, a7] (.int x :: st) S P := rn_s dq_Road_leaves_33 rfl rfl rfl
theorem dq_Road_leaves_34 : decode (km_c mm_Road_leaves) 34 = .ok (.iload 4, 2) := by decide +kernel
theorem sq_Road_leaves_34 : rn G mm_Road_leaves 34 [a0, a1, a2, a3, some (.int x), a5, a6, a7] st S P ↔ rn G mm_Road_leaves 36 [a0, a1, a2, a3, some (.int x), a5, a6, a7] (.int x :: st) S P := rn_s dq_Road_leaves_34 rfl rfl rfl
theorem dq_Road_leaves_36 : decode (km_c mm_Road_leaves) 36 = .ok (.iload_n 1, 1) := by decide +kernel
theorem sq_Road_leaves_36 : rn G mm_Road_leaves 36 [a0, some (.int x), a2, a3, a4, a5, a6, a7] st S P ↔ rn G mm_Road_leaves 37 [a0, some (.int x), a2, a3, a4, a5, a6, a7] (.int x :: st) S P := rn_s dq_Road_leaves_36 rfl rfl rfl
theorem dq_Road_leaves_37 : decode (km_c mm_Road_leaves) 37 = .ok (.invokestatic 211, 3) := by decide +kernel
theorem sq_Road_leaves_37 {x1 : Int32} {v : Option Value} {S2 : ks_S} (hc : ev G mm_Integer_bitCount [.int x1] S v S2) (hst : kx_cat st ≤ 8) : rn G mm_Road_leaves 37 lv (.int x1 :: st) S P ↔ rn G mm_Road_leaves 40 lv (v.toList ++ st) S2 P := rn_cs (k := 1) (host := "") (E' := mm_Integer_bitCount) dq_Road_leaves_37 (by decide) (by decide) rfl (ok_v rfl (by decide) (by decide) (Nat.le_add_left _ _) hst (Nat.le_of_ble_eq_true rfl) (Or.inl rfl)) rfl rfl hc
theorem dq_Road_leaves_40 : decode (km_c mm_Road_leaves) 40 = .ok (.invokevirtual 285, 3) := by decide +kernel
theorem sq_Road_leaves_40_26 {x1 : Int32} {x2 : Int32} {x3 : Int32} {x4 : Int32} {v : Option Value} {S2 : ks_S} (hc : ev (lt_G o L) mm_Sheets_refusal [.ref 26, .int x1, .int x2, .int x3, .int x4] (sx pl kp I A) v S2) (ho : sx_o o pl kp) (hst : kx_cat st ≤ 8) : rn (lt_G o L) mm_Road_leaves 40 lv (.int x4 :: .int x3 :: .int x2 :: .int x1 :: .ref 26 :: st) (sx pl kp I A) P ↔ rn (lt_G o L) mm_Road_leaves 43 lv (v.toList ++ st) S2 P := rn_cv (k := 0) (host := "") (E' := mm_Sheets_refusal) dq_Road_leaves_40 rfl (ok_v rfl (by decide) (by decide) (Nat.le_add_left _ _) hst (Nat.le_of_ble_eq_true rfl) (Or.inr (rc_v ho (up_b (by decide)) rfl))) rfl rfl hc
theorem dq_Road_leaves_43 : decode (km_c mm_Road_leaves) 43 = .ok (.istore 5, 2) := by decide +kernel
theorem sq_Road_leaves_43n : rn G mm_Road_leaves 43 [a0, a1, a2, a3, none, a5, a6, a7] (.int x :: st) S P ↔ rn G mm_Road_leaves 45 [a0, a1, a2, a3, none, some (.int x), a6, a7] st S P := rn_s dq_Road_leaves_43 rfl rfl rfl
theorem sq_Road_leaves_43i : rn G mm_Road_leaves 43 [a0, a1, a2, a3, some (.int x2), a5, a6, a7] (.int x :: st) S P ↔ rn G mm_Road_leaves 45 [a0, a1, a2, a3, some (.int x2), some (.int x), a6, a7] st S P := rn_s dq_Road_leaves_43 rfl rfl rfl
theorem sq_Road_leaves_43r : rn G mm_Road_leaves 43 [a0, a1, a2, a3, some (.ref z2), a5, a6, a7] (.int x :: st) S P ↔ rn G mm_Road_leaves 45 [a0, a1, a2, a3, some (.ref z2), some (.int x), a6, a7] st S P := rn_s dq_Road_leaves_43 rfl rfl rfl
theorem dq_Road_leaves_45 : decode (km_c mm_Road_leaves) 45 = .ok (.iload 5, 2) := by decide +kernel
theorem sq_Road_leaves_45 : rn G mm_Road_leaves 45 [a0, a1, a2, a3, a4, some (.int x), a6, a7] st S P ↔ rn G mm_Road_leaves 47 [a0, a1, a2, a3, a4, some (.int x), a6, a7] (.int x :: st) S P := rn_s dq_Road_leaves_45 rfl rfl rfl
theorem dq_Road_leaves_47 : decode (km_c mm_Road_leaves) 47 = .ok (.ifCond .eq 6, 3) := by decide +kernel
theorem sq_Road_leaves_47 : rn G mm_Road_leaves 47 lv (.int x :: st) S P ↔ ((x = 0 → rn G mm_Road_leaves 53 lv st S P) ∧ (¬ (x = 0) → rn G mm_Road_leaves 50 lv st S P)) := rn_b (off := 6) dq_Road_leaves_47 rfl rfl rfl rfl
theorem dq_Road_leaves_50 : decode (km_c mm_Road_leaves) 50 = .ok (.iload 5, 2) := by decide +kernel
theorem sq_Road_leaves_50 : rn G mm_Road_leaves 50 [a0, a1, a2, a3, a4, some (.int x), a6, a7] st S P ↔ rn G mm_Road_leaves 52 [a0, a1, a2, a3, a4, some (.int x), a6, a7] (.int x :: st) S P := rn_s dq_Road_leaves_50 rfl rfl rfl
theorem dq_Road_leaves_52 : decode (km_c mm_Road_leaves) 52 = .ok (.ireturn, 1) := by decide +kernel
theorem sq_Road_leaves_52 : rn G mm_Road_leaves 52 lv [.int x] S P ↔ P (some (.int x)) S := rn_ir dq_Road_leaves_52 rfl
theorem dq_Road_leaves_53 : decode (km_c mm_Road_leaves) 53 = .ok (.aload_n 0, 1) := by decide +kernel
theorem sq_Road_leaves_53 : rn G mm_Road_leaves 53 [some (.ref z), a1, a2, a3, a4, a5, a6, a7] st S P ↔ rn G mm_Road_leaves 54 [some (.ref z), a1, a2, a3, a4, a5, a6, a7] (.ref z :: st) S P := rn_s dq_Road_leaves_53 rfl rfl rfl
theorem dq_Road_leaves_54 : decode (km_c mm_Road_leaves) 54 = .ok (.invokevirtual 187, 3) := by decide +kernel
theorem sq_Road_leaves_54_0  {v : Option Value} {S2 : ks_S} (hc : ev (lt_G o L) mm_Road_planNow [.ref 0] (sx pl kp I A) v S2) (ho : sx_o o pl kp) (hst : kx_cat st ≤ 8) : rn (lt_G o L) mm_Road_leaves 54 lv (.ref 0 :: st) (sx pl kp I A) P ↔ rn (lt_G o L) mm_Road_leaves 57 lv (v.toList ++ st) S2 P := rn_cv (k := 0) (host := "") (E' := mm_Road_planNow) dq_Road_leaves_54 rfl (ok_v rfl (by decide) (by decide) (Nat.le_add_left _ _) hst (Nat.le_of_ble_eq_true rfl) (Or.inr (rc_v ho (up_b (by decide)) rfl))) rfl rfl hc
theorem dq_Road_leaves_57 : decode (km_c mm_Road_leaves) 57 = .ok (.astore 6, 2) := by decide +kernel
theorem sq_Road_leaves_57n : rn G mm_Road_leaves 57 [a0, a1, a2, a3, a4, none, a6, a7] (.ref z :: st) S P ↔ rn G mm_Road_leaves 59 [a0, a1, a2, a3, a4, none, some (.ref z), a7] st S P := rn_s dq_Road_leaves_57 rfl rfl rfl
theorem sq_Road_leaves_57i : rn G mm_Road_leaves 57 [a0, a1, a2, a3, a4, some (.int x2), a6, a7] (.ref z :: st) S P ↔ rn G mm_Road_leaves 59 [a0, a1, a2, a3, a4, some (.int x2), some (.ref z), a7] st S P := rn_s dq_Road_leaves_57 rfl rfl rfl
theorem sq_Road_leaves_57r : rn G mm_Road_leaves 57 [a0, a1, a2, a3, a4, some (.ref z2), a6, a7] (.ref z :: st) S P ↔ rn G mm_Road_leaves 59 [a0, a1, a2, a3, a4, some (.ref z2), some (.ref z), a7] st S P := rn_s dq_Road_leaves_57 rfl rfl rfl
theorem dq_Road_leaves_59 : decode (km_c mm_Road_leaves) 59 = .ok (.iconst 1, 1) := by decide +kernel
theorem sq_Road_leaves_59 : rn G mm_Road_leaves 59 lv st S P ↔ rn G mm_Road_leaves 60 lv (.int (nI 1) :: st) S P := rn_s dq_Road_leaves_59 rfl rfl rfl
theorem dq_Road_leaves_60 : decode (km_c mm_Road_leaves) 60 = .ok (.istore 7, 2) := by decide +kernel
theorem sq_Road_leaves_60n : rn G mm_Road_leaves 60 [a0, a1, a2, a3, a4, a5, none, a7] (.int x :: st) S P ↔ rn G mm_Road_leaves 62 [a0, a1, a2, a3, a4, a5, none, some (.int x)] st S P := rn_s dq_Road_leaves_60 rfl rfl rfl
theorem sq_Road_leaves_60i : rn G mm_Road_leaves 60 [a0, a1, a2, a3, a4, a5, some (.int x2), a7] (.int x :: st) S P ↔ rn G mm_Road_leaves 62 [a0, a1, a2, a3, a4, a5, some (.int x2), some (.int x)] st S P := rn_s dq_Road_leaves_60 rfl rfl rfl
theorem sq_Road_leaves_60r : rn G mm_Road_leaves 60 [a0, a1, a2, a3, a4, a5, some (.ref z2), a7] (.int x :: st) S P ↔ rn G mm_Road_leaves 62 [a0, a1, a2, a3, a4, a5, some (.ref z2), some (.int x)] st S P := rn_s dq_Road_leaves_60 rfl rfl rfl
theorem dq_Road_leaves_62 : decode (km_c mm_Road_leaves) 62 = .ok (.iload 7, 2) := by decide +kernel
theorem sq_Road_leaves_62 : rn G mm_Road_leaves 62 [a0, a1, a2, a3, a4, a5, a6, some (.int x)] st S P ↔ rn G mm_Road_leaves 64 [a0, a1, a2, a3, a4, a5, a6, some (.int x)] (.int x :: st) S P := rn_s dq_Road_leaves_62 rfl rfl rfl
theorem dq_Road_leaves_64 : decode (km_c mm_Road_leaves) 64 = .ok (.iload_n 1, 1) := by decide +kernel
theorem sq_Road_leaves_64 : rn G mm_Road_leaves 64 [a0, some (.int x), a2, a3, a4, a5, a6, a7] st S P ↔ rn G mm_Road_leaves 65 [a0, some (.int x), a2, a3, a4, a5, a6, a7] (.int x :: st) S P := rn_s dq_Road_leaves_64 rfl rfl rfl
theorem dq_Road_leaves_65 : decode (km_c mm_Road_leaves) 65 = .ok (.if_icmp .gt 46, 3) := by decide +kernel
theorem sq_Road_leaves_65 : rn G mm_Road_leaves 65 lv (.int x2 :: .int x :: st) S P ↔ ((x2 < x → rn G mm_Road_leaves 111 lv st S P) ∧ (¬ (x2 < x) → rn G mm_Road_leaves 68 lv st S P)) := rn_b (off := 46) dq_Road_leaves_65 rfl rfl rfl rfl
theorem dq_Road_leaves_68 : decode (km_c mm_Road_leaves) 68 = .ok (.iload 7, 2) := by decide +kernel
theorem sq_Road_leaves_68 : rn G mm_Road_leaves 68 [a0, a1, a2, a3, a4, a5, a6, some (.int x)] st S P ↔ rn G mm_Road_leaves 70 [a0, a1, a2, a3, a4, a5, a6, some (.int x)] (.int x :: st) S P := rn_s dq_Road_leaves_68 rfl rfl rfl
theorem dq_Road_leaves_70 : decode (km_c mm_Road_leaves) 70 = .ok (.iload_n 1, 1) := by decide +kernel
theorem sq_Road_leaves_70 : rn G mm_Road_leaves 70 [a0, some (.int x), a2, a3, a4, a5, a6, a7] st S P ↔ rn G mm_Road_leaves 71 [a0, some (.int x), a2, a3, a4, a5, a6, a7] (.int x :: st) S P := rn_s dq_Road_leaves_70 rfl rfl rfl
theorem dq_Road_leaves_71 : decode (km_c mm_Road_leaves) 71 = .ok (.iconst (-1), 1) := by decide +kernel
theorem sq_Road_leaves_71 : rn G mm_Road_leaves 71 lv st S P ↔ rn G mm_Road_leaves 72 lv (.int ((-1)) :: st) S P := rn_s dq_Road_leaves_71 rfl rfl rfl
theorem dq_Road_leaves_72 : decode (km_c mm_Road_leaves) 72 = .ok (.ixor, 1) := by decide +kernel
theorem sq_Road_leaves_72 : rn G mm_Road_leaves 72 lv (.int x2 :: .int x :: st) S P ↔ rn G mm_Road_leaves 73 lv (.int (x ^^^ x2) :: st) S P := rn_s dq_Road_leaves_72 rfl rfl rfl
theorem dq_Road_leaves_73 : decode (km_c mm_Road_leaves) 73 = .ok (.iand, 1) := by decide +kernel
theorem sq_Road_leaves_73 : rn G mm_Road_leaves 73 lv (.int x2 :: .int x :: st) S P ↔ rn G mm_Road_leaves 74 lv (.int (x &&& x2) :: st) S P := rn_s dq_Road_leaves_73 rfl rfl rfl
theorem dq_Road_leaves_74 : decode (km_c mm_Road_leaves) 74 = .ok (.ifCond .ne 31, 3) := by decide +kernel
theorem sq_Road_leaves_74 : rn G mm_Road_leaves 74 lv (.int x :: st) S P ↔ ((¬ x = 0 → rn G mm_Road_leaves 105 lv st S P) ∧ (¬ (¬ x = 0) → rn G mm_Road_leaves 77 lv st S P)) := rn_b (off := 31) dq_Road_leaves_74 rfl rfl rfl rfl
theorem dq_Road_leaves_77 : decode (km_c mm_Road_leaves) 77 = .ok (.aload_n 0, 1) := by decide +kernel
theorem sq_Road_leaves_77 : rn G mm_Road_leaves 77 [some (.ref z), a1, a2, a3, a4, a5, a6, a7] st S P ↔ rn G mm_Road_leaves 78 [some (.ref z), a1, a2, a3, a4, a5, a6, a7] (.ref z :: st) S P := rn_s dq_Road_leaves_77 rfl rfl rfl
theorem dq_Road_leaves_78 : decode (km_c mm_Road_leaves) 78 = .ok (.getfield 36, 3) := by decide +kernel
theorem sq_Road_leaves_78_0 (ho : sx_o o pl kp) : rn (lt_G o L) mm_Road_leaves 78 lv (.ref 0 :: st) (sx pl kp I A) P ↔ rn (lt_G o L) mm_Road_leaves 81 lv (.ref 26 :: st) (sx pl kp I A) P := rx_get (h := "") (ci := 9) (k := 4) dq_Road_leaves_78 (by decide +kernel) ho (up_b (by decide)) rfl rfl (fl_r (by decide) (by decide) (by decide) (by decide))
theorem dq_Road_leaves_81 : decode (km_c mm_Road_leaves) 81 = .ok (.iload_n 2, 1) := by decide +kernel
theorem sq_Road_leaves_81 : rn G mm_Road_leaves 81 [a0, a1, some (.int x), a3, a4, a5, a6, a7] st S P ↔ rn G mm_Road_leaves 82 [a0, a1, some (.int x), a3, a4, a5, a6, a7] (.int x :: st) S P := rn_s dq_Road_leaves_81 rfl rfl rfl
theorem dq_Road_leaves_82 : decode (km_c mm_Road_leaves) 82 = .ok (.iload 4, 2) := by decide +kernel
theorem sq_Road_leaves_82 : rn G mm_Road_leaves 82 [a0, a1, a2, a3, some (.int x), a5, a6, a7] st S P ↔ rn G mm_Road_leaves 84 [a0, a1, a2, a3, some (.int x), a5, a6, a7] (.int x :: st) S P := rn_s dq_Road_leaves_82 rfl rfl rfl
theorem dq_Road_leaves_84 : decode (km_c mm_Road_leaves) 84 = .ok (.iload_n 1, 1) := by decide +kernel
theorem sq_Road_leaves_84 : rn G mm_Road_leaves 84 [a0, some (.int x), a2, a3, a4, a5, a6, a7] st S P ↔ rn G mm_Road_leaves 85 [a0, some (.int x), a2, a3, a4, a5, a6, a7] (.int x :: st) S P := rn_s dq_Road_leaves_84 rfl rfl rfl
theorem dq_Road_leaves_85 : decode (km_c mm_Road_leaves) 85 = .ok (.iload 7, 2) := by decide +kernel
theorem sq_Road_leaves_85 : rn G mm_Road_leaves 85 [a0, a1, a2, a3, a4, a5, a6, some (.int x)] st S P ↔ rn G mm_Road_leaves 87 [a0, a1, a2, a3, a4, a5, a6, some (.int x)] (.int x :: st) S P := rn_s dq_Road_leaves_85 rfl rfl rfl
theorem dq_Road_leaves_87 : decode (km_c mm_Road_leaves) 87 = .ok (.invokevirtual 289, 3) := by decide +kernel
theorem sq_Road_leaves_87_26 {x1 : Int32} {x2 : Int32} {x3 : Int32} {x4 : Int32} {v : Option Value} {S2 : ks_S} (hc : ev (lt_G o L) mm_Sheets_sum [.ref 26, .int x1, .int x2, .int x3, .int x4] (sx pl kp I A) v S2) (ho : sx_o o pl kp) (hst : kx_cat st ≤ 8) : rn (lt_G o L) mm_Road_leaves 87 lv (.int x4 :: .int x3 :: .int x2 :: .int x1 :: .ref 26 :: st) (sx pl kp I A) P ↔ rn (lt_G o L) mm_Road_leaves 90 lv (v.toList ++ st) S2 P := rn_cv (k := 0) (host := "") (E' := mm_Sheets_sum) dq_Road_leaves_87 rfl (ok_v rfl (by decide) (by decide) (Nat.le_add_left _ _) hst (Nat.le_of_ble_eq_true rfl) (Or.inr (rc_v ho (up_b (by decide)) rfl))) rfl rfl hc
theorem dq_Road_leaves_90 : decode (km_c mm_Road_leaves) 90 = .ok (.aload 6, 2) := by decide +kernel
theorem sq_Road_leaves_90 : rn G mm_Road_leaves 90 [a0, a1, a2, a3, a4, a5, some (.ref z), a7] st S P ↔ rn G mm_Road_leaves 92 [a0, a1, a2, a3, a4, a5, some (.ref z), a7] (.ref z :: st) S P := rn_s dq_Road_leaves_90 rfl rfl rfl
theorem dq_Road_leaves_92 : decode (km_c mm_Road_leaves) 92 = .ok (.iload 7, 2) := by decide +kernel
theorem sq_Road_leaves_92 : rn G mm_Road_leaves 92 [a0, a1, a2, a3, a4, a5, a6, some (.int x)] st S P ↔ rn G mm_Road_leaves 94 [a0, a1, a2, a3, a4, a5, a6, some (.int x)] (.int x :: st) S P := rn_s dq_Road_leaves_92 rfl rfl rfl
theorem dq_Road_leaves_94 : decode (km_c mm_Road_leaves) 94 = .ok (.invokevirtual 191, 3) := by decide +kernel
theorem sq_Road_leaves_94_65 {x1 : Int32} {v : Option Value} {S2 : ks_S} (hc : ev (lt_G o L) mm_Plan_costFor [.ref 65, .int x1] (sx true kp I A) v S2) (ho : sx_o o true kp) (hst : kx_cat st ≤ 8) : rn (lt_G o L) mm_Road_leaves 94 lv (.int x1 :: .ref 65 :: st) (sx true kp I A) P ↔ rn (lt_G o L) mm_Road_leaves 97 lv (v.toList ++ st) S2 P := rn_cv (k := 0) (host := "") (E' := mm_Plan_costFor) dq_Road_leaves_94 rfl (ok_v rfl (by decide) (by decide) (Nat.le_add_left _ _) hst (Nat.le_of_ble_eq_true rfl) (Or.inr (rc_v ho (up_p (by decide)) rfl))) rfl rfl hc
theorem dq_Road_leaves_97 : decode (km_c mm_Road_leaves) 97 = .ok (.i2l, 1) := by decide +kernel
theorem sq_Road_leaves_97 : rn G mm_Road_leaves 97 lv (.int x :: st) S P ↔ rn G mm_Road_leaves 98 lv (.long x.toInt64 :: st) S P := rn_s dq_Road_leaves_97 rfl rfl rfl
theorem dq_Road_leaves_98 : decode (km_c mm_Road_leaves) 98 = .ok (.lcmp, 1) := by decide +kernel
theorem sq_Road_leaves_98 : rn G mm_Road_leaves 98 lv (.long y2 :: .long y :: st) S P ↔ rn G mm_Road_leaves 99 lv (.int (lg_cmp y y2) :: st) S P := rn_s dq_Road_leaves_98 rfl rfl rfl
theorem dq_Road_leaves_99 : decode (km_c mm_Road_leaves) 99 = .ok (.ifCond .le 6, 3) := by decide +kernel
theorem sq_Road_leaves_99 : rn G mm_Road_leaves 99 lv (.int x :: st) S P ↔ ((x ≤ 0 → rn G mm_Road_leaves 105 lv st S P) ∧ (¬ (x ≤ 0) → rn G mm_Road_leaves 102 lv st S P)) := rn_b (off := 6) dq_Road_leaves_99 rfl rfl rfl rfl
theorem dq_Road_leaves_102 : decode (km_c mm_Road_leaves) 102 = .ok (.iload 7, 2) := by decide +kernel
theorem sq_Road_leaves_102 : rn G mm_Road_leaves 102 [a0, a1, a2, a3, a4, a5, a6, some (.int x)] st S P ↔ rn G mm_Road_leaves 104 [a0, a1, a2, a3, a4, a5, a6, some (.int x)] (.int x :: st) S P := rn_s dq_Road_leaves_102 rfl rfl rfl
theorem dq_Road_leaves_104 : decode (km_c mm_Road_leaves) 104 = .ok (.ireturn, 1) := by decide +kernel
theorem sq_Road_leaves_104 : rn G mm_Road_leaves 104 lv [.int x] S P ↔ P (some (.int x)) S := rn_ir dq_Road_leaves_104 rfl
theorem dq_Road_leaves_105 : decode (km_c mm_Road_leaves) 105 = .ok (.iinc 7 1, 3) := by decide +kernel
theorem sq_Road_leaves_105n : rn G mm_Road_leaves 105 [a0, a1, a2, a3, a4, a5, none, some (.int x)] st S P ↔ rn G mm_Road_leaves 108 [a0, a1, a2, a3, a4, a5, none, some (.int (x + nI 1))] st S P := rn_s dq_Road_leaves_105 rfl rfl rfl
theorem sq_Road_leaves_105i : rn G mm_Road_leaves 105 [a0, a1, a2, a3, a4, a5, some (.int x2), some (.int x)] st S P ↔ rn G mm_Road_leaves 108 [a0, a1, a2, a3, a4, a5, some (.int x2), some (.int (x + nI 1))] st S P := rn_s dq_Road_leaves_105 rfl rfl rfl
theorem sq_Road_leaves_105r : rn G mm_Road_leaves 105 [a0, a1, a2, a3, a4, a5, some (.ref z2), some (.int x)] st S P ↔ rn G mm_Road_leaves 108 [a0, a1, a2, a3, a4, a5, some (.ref z2), some (.int (x + nI 1))] st S P := rn_s dq_Road_leaves_105 rfl rfl rfl
theorem dq_Road_leaves_108 : decode (km_c mm_Road_leaves) 108 = .ok (.goto (-46), 3) := by decide +kernel
theorem sq_Road_leaves_108 : rn G mm_Road_leaves 108 lv st S P ↔ rn G mm_Road_leaves 62 lv st S P := rn_s dq_Road_leaves_108 rfl rfl rfl
theorem dq_Road_leaves_111 : decode (km_c mm_Road_leaves) 111 = .ok (.bipush (-4), 2) := by decide +kernel
theorem sq_Road_leaves_111 : rn G mm_Road_leaves 111 lv st S P ↔ rn G mm_Road_leaves 113 lv (.int ((-4)) :: st) S P := rn_s dq_Road_leaves_111 rfl rfl rfl
theorem dq_Road_leaves_113 : decode (km_c mm_Road_leaves) 113 = .ok (.ireturn, 1) := by decide +kernel
theorem sq_Road_leaves_113 : rn G mm_Road_leaves 113 lv [.int x] S P ↔ P (some (.int x)) S := rn_ir dq_Road_leaves_113 rfl
theorem dq_Road_noSheet_0 : decode (km_c mm_Road_noSheet) 0 = .ok (.iload_n 0, 1) := by decide +kernel
theorem sq_Road_noSheet_0 : rn G mm_Road_noSheet 0 [some (.int x)] st S P ↔ rn G mm_Road_noSheet 1 [some (.int x)] (.int x :: st) S P := rn_s dq_Road_noSheet_0 rfl rfl rfl
theorem dq_Road_noSheet_1 : decode (km_c mm_Road_noSheet) 1 = .ok (.iconst 0, 1) := by decide +kernel
theorem sq_Road_noSheet_1 : rn G mm_Road_noSheet 1 lv st S P ↔ rn G mm_Road_noSheet 2 lv (.int (nI 0) :: st) S P := rn_s dq_Road_noSheet_1 rfl rfl rfl
theorem dq_Road_noSheet_2 : decode (km_c mm_Road_noSheet) 2 = .ok (.iconst 3, 1) := by decide +kernel
theorem sq_Road_noSheet_2 : rn G mm_Road_noSheet 2 lv st S P ↔ rn G mm_Road_noSheet 3 lv (.int (nI 3) :: st) S P := rn_s dq_Road_noSheet_2 rfl rfl rfl
theorem dq_Road_noSheet_3 : decode (km_c mm_Road_noSheet) 3 = .ok (.invokestatic 72, 3) := by decide +kernel
theorem sq_Road_noSheet_3 {x1 : Int32} {x2 : Int32} {x3 : Int32} {v : Option Value} {S2 : ks_S} (hc : ev G mm_Road_outside [.int x1, .int x2, .int x3] S v S2) (hst : kx_cat st ≤ 8) : rn G mm_Road_noSheet 3 lv (.int x3 :: .int x2 :: .int x1 :: st) S P ↔ rn G mm_Road_noSheet 6 lv (v.toList ++ st) S2 P := rn_cs (k := 1) (host := "") (E' := mm_Road_outside) dq_Road_noSheet_3 (by decide) (by decide) rfl (ok_v rfl (by decide) (by decide) (Nat.le_add_left _ _) hst (Nat.le_of_ble_eq_true rfl) (Or.inl rfl)) rfl rfl hc
theorem dq_Road_noSheet_6 : decode (km_c mm_Road_noSheet) 6 = .ok (.ireturn, 1) := by decide +kernel
theorem sq_Road_noSheet_6_0 : rn G mm_Road_noSheet 6 lv [.int (nI 0)] S P ↔ P (some (.int (nI 0))) S := rn_ir dq_Road_noSheet_6 (by decide)
theorem sq_Road_noSheet_6_1 : rn G mm_Road_noSheet 6 lv [.int (nI 1)] S P ↔ P (some (.int (nI 1))) S := rn_ir dq_Road_noSheet_6 (by decide)
theorem dq_Road_noLane_0 : decode (km_c mm_Road_noLane) 0 = .ok (.iload_n 0, 1) := by decide +kernel
theorem sq_Road_noLane_0 : rn G mm_Road_noLane 0 [some (.int x)] st S P ↔ rn G mm_Road_noLane 1 [some (.int x)] (.int x :: st) S P := rn_s dq_Road_noLane_0 rfl rfl rfl
theorem dq_Road_noLane_1 : decode (km_c mm_Road_noLane) 1 = .ok (.iconst 0, 1) := by decide +kernel
theorem sq_Road_noLane_1 : rn G mm_Road_noLane 1 lv st S P ↔ rn G mm_Road_noLane 2 lv (.int (nI 0) :: st) S P := rn_s dq_Road_noLane_1 rfl rfl rfl
theorem dq_Road_noLane_2 : decode (km_c mm_Road_noLane) 2 = .ok (.iconst 2, 1) := by decide +kernel
theorem sq_Road_noLane_2 : rn G mm_Road_noLane 2 lv st S P ↔ rn G mm_Road_noLane 3 lv (.int (nI 2) :: st) S P := rn_s dq_Road_noLane_2 rfl rfl rfl
theorem dq_Road_noLane_3 : decode (km_c mm_Road_noLane) 3 = .ok (.invokestatic 72, 3) := by decide +kernel
theorem sq_Road_noLane_3 {x1 : Int32} {x2 : Int32} {x3 : Int32} {v : Option Value} {S2 : ks_S} (hc : ev G mm_Road_outside [.int x1, .int x2, .int x3] S v S2) (hst : kx_cat st ≤ 8) : rn G mm_Road_noLane 3 lv (.int x3 :: .int x2 :: .int x1 :: st) S P ↔ rn G mm_Road_noLane 6 lv (v.toList ++ st) S2 P := rn_cs (k := 1) (host := "") (E' := mm_Road_outside) dq_Road_noLane_3 (by decide) (by decide) rfl (ok_v rfl (by decide) (by decide) (Nat.le_add_left _ _) hst (Nat.le_of_ble_eq_true rfl) (Or.inl rfl)) rfl rfl hc
theorem dq_Road_noLane_6 : decode (km_c mm_Road_noLane) 6 = .ok (.ireturn, 1) := by decide +kernel
theorem sq_Road_noLane_6_0 : rn G mm_Road_noLane 6 lv [.int (nI 0)] S P ↔ P (some (.int (nI 0))) S := rn_ir dq_Road_noLane_6 (by decide)
theorem sq_Road_noLane_6_1 : rn G mm_Road_noLane 6 lv [.int (nI 1)] S P ↔ P (some (.int (nI 1))) S := rn_ir dq_Road_noLane_6 (by decide)
theorem dq_Road_sheet_0 : decode (km_c mm_Road_sheet) 0 = .ok (.iload_n 1, 1) := by decide +kernel
theorem sq_Road_sheet_0 : rn G mm_Road_sheet 0 [a0, some (.int x), a2, a3] st S P ↔ rn G mm_Road_sheet 1 [a0, some (.int x), a2, a3] (.int x :: st) S P := rn_s dq_Road_sheet_0 rfl rfl rfl
theorem dq_Road_sheet_1 : decode (km_c mm_Road_sheet) 1 = .ok (.invokestatic 279, 3) := by decide +kernel
theorem sq_Road_sheet_1 {x1 : Int32} {v : Option Value} {S2 : ks_S} (hc : ev G mm_Road_noSheet [.int x1] S v S2) (hst : kx_cat st ≤ 8) : rn G mm_Road_sheet 1 lv (.int x1 :: st) S P ↔ rn G mm_Road_sheet 4 lv (v.toList ++ st) S2 P := rn_cs (k := 1) (host := "") (E' := mm_Road_noSheet) dq_Road_sheet_1 (by decide) (by decide) rfl (ok_v rfl (by decide) (by decide) (Nat.le_add_left _ _) hst (Nat.le_of_ble_eq_true rfl) (Or.inl rfl)) rfl rfl hc
theorem dq_Road_sheet_4 : decode (km_c mm_Road_sheet) 4 = .ok (.ifCond .ne 16, 3) := by decide +kernel
theorem sq_Road_sheet_4 : rn G mm_Road_sheet 4 lv (.int x :: st) S P ↔ ((¬ x = 0 → rn G mm_Road_sheet 20 lv st S P) ∧ (¬ (¬ x = 0) → rn G mm_Road_sheet 7 lv st S P)) := rn_b (off := 16) dq_Road_sheet_4 rfl rfl rfl rfl
theorem dq_Road_sheet_7 : decode (km_c mm_Road_sheet) 7 = .ok (.iload_n 2, 1) := by decide +kernel
theorem sq_Road_sheet_7 : rn G mm_Road_sheet 7 [a0, a1, some (.int x), a3] st S P ↔ rn G mm_Road_sheet 8 [a0, a1, some (.int x), a3] (.int x :: st) S P := rn_s dq_Road_sheet_7 rfl rfl rfl
theorem dq_Road_sheet_8 : decode (km_c mm_Road_sheet) 8 = .ok (.invokestatic 282, 3) := by decide +kernel
theorem sq_Road_sheet_8 {x1 : Int32} {v : Option Value} {S2 : ks_S} (hc : ev G mm_Road_noLane [.int x1] S v S2) (hst : kx_cat st ≤ 8) : rn G mm_Road_sheet 8 lv (.int x1 :: st) S P ↔ rn G mm_Road_sheet 11 lv (v.toList ++ st) S2 P := rn_cs (k := 1) (host := "") (E' := mm_Road_noLane) dq_Road_sheet_8 (by decide) (by decide) rfl (ok_v rfl (by decide) (by decide) (Nat.le_add_left _ _) hst (Nat.le_of_ble_eq_true rfl) (Or.inl rfl)) rfl rfl hc
theorem dq_Road_sheet_11 : decode (km_c mm_Road_sheet) 11 = .ok (.ifCond .ne 9, 3) := by decide +kernel
theorem sq_Road_sheet_11 : rn G mm_Road_sheet 11 lv (.int x :: st) S P ↔ ((¬ x = 0 → rn G mm_Road_sheet 20 lv st S P) ∧ (¬ (¬ x = 0) → rn G mm_Road_sheet 14 lv st S P)) := rn_b (off := 9) dq_Road_sheet_11 rfl rfl rfl rfl
theorem dq_Road_sheet_14 : decode (km_c mm_Road_sheet) 14 = .ok (.iload_n 3, 1) := by decide +kernel
theorem sq_Road_sheet_14 : rn G mm_Road_sheet 14 [a0, a1, a2, some (.int x)] st S P ↔ rn G mm_Road_sheet 15 [a0, a1, a2, some (.int x)] (.int x :: st) S P := rn_s dq_Road_sheet_14 rfl rfl rfl
theorem dq_Road_sheet_15 : decode (km_c mm_Road_sheet) 15 = .ok (.bipush 24, 2) := by decide +kernel
theorem sq_Road_sheet_15 : rn G mm_Road_sheet 15 lv st S P ↔ rn G mm_Road_sheet 17 lv (.int (nI 24) :: st) S P := rn_s dq_Road_sheet_15 rfl rfl rfl
theorem dq_Road_sheet_17 : decode (km_c mm_Road_sheet) 17 = .ok (.if_icmp .le 5, 3) := by decide +kernel
theorem sq_Road_sheet_17 : rn G mm_Road_sheet 17 lv (.int x2 :: .int x :: st) S P ↔ ((x ≤ x2 → rn G mm_Road_sheet 22 lv st S P) ∧ (¬ (x ≤ x2) → rn G mm_Road_sheet 20 lv st S P)) := rn_b (off := 5) dq_Road_sheet_17 rfl rfl rfl rfl
theorem dq_Road_sheet_20 : decode (km_c mm_Road_sheet) 20 = .ok (.iconst (-1), 1) := by decide +kernel
theorem sq_Road_sheet_20 : rn G mm_Road_sheet 20 lv st S P ↔ rn G mm_Road_sheet 21 lv (.int ((-1)) :: st) S P := rn_s dq_Road_sheet_20 rfl rfl rfl
theorem dq_Road_sheet_21 : decode (km_c mm_Road_sheet) 21 = .ok (.ireturn, 1) := by decide +kernel
theorem sq_Road_sheet_21 : rn G mm_Road_sheet 21 lv [.int x] S P ↔ P (some (.int x)) S := rn_ir dq_Road_sheet_21 rfl
theorem dq_Road_sheet_22 : decode (km_c mm_Road_sheet) 22 = .ok (.iload_n 3, 1) := by decide +kernel
theorem sq_Road_sheet_22 : rn G mm_Road_sheet 22 [a0, a1, a2, some (.int x)] st S P ↔ rn G mm_Road_sheet 23 [a0, a1, a2, some (.int x)] (.int x :: st) S P := rn_s dq_Road_sheet_22 rfl rfl rfl
theorem dq_Road_sheet_23 : decode (km_c mm_Road_sheet) 23 = .ok (.ifCond .ge 6, 3) := by decide +kernel
theorem sq_Road_sheet_23 : rn G mm_Road_sheet 23 lv (.int x :: st) S P ↔ ((0 ≤ x → rn G mm_Road_sheet 29 lv st S P) ∧ (¬ (0 ≤ x) → rn G mm_Road_sheet 26 lv st S P)) := rn_b (off := 6) dq_Road_sheet_23 rfl rfl rfl rfl
theorem dq_Road_sheet_26 : decode (km_c mm_Road_sheet) 26 = .ok (.bipush (-14), 2) := by decide +kernel
theorem sq_Road_sheet_26 : rn G mm_Road_sheet 26 lv st S P ↔ rn G mm_Road_sheet 28 lv (.int ((-14)) :: st) S P := rn_s dq_Road_sheet_26 rfl rfl rfl
theorem dq_Road_sheet_28 : decode (km_c mm_Road_sheet) 28 = .ok (.ireturn, 1) := by decide +kernel
theorem sq_Road_sheet_28 : rn G mm_Road_sheet 28 lv [.int x] S P ↔ P (some (.int x)) S := rn_ir dq_Road_sheet_28 rfl
theorem dq_Road_sheet_29 : decode (km_c mm_Road_sheet) 29 = .ok (.aload_n 0, 1) := by decide +kernel
theorem sq_Road_sheet_29 : rn G mm_Road_sheet 29 [some (.ref z), a1, a2, a3] st S P ↔ rn G mm_Road_sheet 30 [some (.ref z), a1, a2, a3] (.ref z :: st) S P := rn_s dq_Road_sheet_29 rfl rfl rfl
theorem dq_Road_sheet_30 : decode (km_c mm_Road_sheet) 30 = .ok (.getfield 36, 3) := by decide +kernel
theorem sq_Road_sheet_30_0 (ho : sx_o o pl kp) : rn (lt_G o L) mm_Road_sheet 30 lv (.ref 0 :: st) (sx pl kp I A) P ↔ rn (lt_G o L) mm_Road_sheet 33 lv (.ref 26 :: st) (sx pl kp I A) P := rx_get (h := "") (ci := 9) (k := 4) dq_Road_sheet_30 (by decide +kernel) ho (up_b (by decide)) rfl rfl (fl_r (by decide) (by decide) (by decide) (by decide))
theorem dq_Road_sheet_33 : decode (km_c mm_Road_sheet) 33 = .ok (.iload_n 1, 1) := by decide +kernel
theorem sq_Road_sheet_33 : rn G mm_Road_sheet 33 [a0, some (.int x), a2, a3] st S P ↔ rn G mm_Road_sheet 34 [a0, some (.int x), a2, a3] (.int x :: st) S P := rn_s dq_Road_sheet_33 rfl rfl rfl
theorem dq_Road_sheet_34 : decode (km_c mm_Road_sheet) 34 = .ok (.iload_n 2, 1) := by decide +kernel
theorem sq_Road_sheet_34 : rn G mm_Road_sheet 34 [a0, a1, some (.int x), a3] st S P ↔ rn G mm_Road_sheet 35 [a0, a1, some (.int x), a3] (.int x :: st) S P := rn_s dq_Road_sheet_34 rfl rfl rfl
theorem dq_Road_sheet_35 : decode (km_c mm_Road_sheet) 35 = .ok (.iload_n 3, 1) := by decide +kernel
theorem sq_Road_sheet_35 : rn G mm_Road_sheet 35 [a0, a1, a2, some (.int x)] st S P ↔ rn G mm_Road_sheet 36 [a0, a1, a2, some (.int x)] (.int x :: st) S P := rn_s dq_Road_sheet_35 rfl rfl rfl
theorem dq_Road_sheet_36 : decode (km_c mm_Road_sheet) 36 = .ok (.invokevirtual 293, 3) := by decide +kernel
theorem sq_Road_sheet_36_26 {x1 : Int32} {x2 : Int32} {x3 : Int32} {v : Option Value} {S2 : ks_S} (hc : ev (lt_G o L) mm_Sheets_renew [.ref 26, .int x1, .int x2, .int x3] (sx pl kp I A) v S2) (ho : sx_o o pl kp) (hst : kx_cat st ≤ 8) : rn (lt_G o L) mm_Road_sheet 36 lv (.int x3 :: .int x2 :: .int x1 :: .ref 26 :: st) (sx pl kp I A) P ↔ rn (lt_G o L) mm_Road_sheet 39 lv (v.toList ++ st) S2 P := rn_cv (k := 0) (host := "") (E' := mm_Sheets_renew) dq_Road_sheet_36 rfl (ok_v rfl (by decide) (by decide) (Nat.le_add_left _ _) hst (Nat.le_of_ble_eq_true rfl) (Or.inr (rc_v ho (up_b (by decide)) rfl))) rfl rfl hc
theorem dq_Road_sheet_39 : decode (km_c mm_Road_sheet) 39 = .ok (.iload_n 3, 1) := by decide +kernel
theorem sq_Road_sheet_39 : rn G mm_Road_sheet 39 [a0, a1, a2, some (.int x)] st S P ↔ rn G mm_Road_sheet 40 [a0, a1, a2, some (.int x)] (.int x :: st) S P := rn_s dq_Road_sheet_39 rfl rfl rfl
theorem dq_Road_sheet_40 : decode (km_c mm_Road_sheet) 40 = .ok (.ireturn, 1) := by decide +kernel
theorem sq_Road_sheet_40 : rn G mm_Road_sheet 40 lv [.int x] S P ↔ P (some (.int x)) S := rn_ir dq_Road_sheet_40 rfl
theorem dq_Road_drop_0 : decode (km_c mm_Road_drop) 0 = .ok (.iload_n 1, 1) := by decide +kernel
theorem sq_Road_drop_0 : rn G mm_Road_drop 0 [a0, some (.int x)] st S P ↔ rn G mm_Road_drop 1 [a0, some (.int x)] (.int x :: st) S P := rn_s dq_Road_drop_0 rfl rfl rfl
theorem dq_Road_drop_1 : decode (km_c mm_Road_drop) 1 = .ok (.invokestatic 279, 3) := by decide +kernel
theorem sq_Road_drop_1 {x1 : Int32} {v : Option Value} {S2 : ks_S} (hc : ev G mm_Road_noSheet [.int x1] S v S2) (hst : kx_cat st ≤ 8) : rn G mm_Road_drop 1 lv (.int x1 :: st) S P ↔ rn G mm_Road_drop 4 lv (v.toList ++ st) S2 P := rn_cs (k := 1) (host := "") (E' := mm_Road_noSheet) dq_Road_drop_1 (by decide) (by decide) rfl (ok_v rfl (by decide) (by decide) (Nat.le_add_left _ _) hst (Nat.le_of_ble_eq_true rfl) (Or.inl rfl)) rfl rfl hc
theorem dq_Road_drop_4 : decode (km_c mm_Road_drop) 4 = .ok (.ifCond .eq 5, 3) := by decide +kernel
theorem sq_Road_drop_4 : rn G mm_Road_drop 4 lv (.int x :: st) S P ↔ ((x = 0 → rn G mm_Road_drop 9 lv st S P) ∧ (¬ (x = 0) → rn G mm_Road_drop 7 lv st S P)) := rn_b (off := 5) dq_Road_drop_4 rfl rfl rfl rfl
theorem dq_Road_drop_7 : decode (km_c mm_Road_drop) 7 = .ok (.iconst (-1), 1) := by decide +kernel
theorem sq_Road_drop_7 : rn G mm_Road_drop 7 lv st S P ↔ rn G mm_Road_drop 8 lv (.int ((-1)) :: st) S P := rn_s dq_Road_drop_7 rfl rfl rfl
theorem dq_Road_drop_8 : decode (km_c mm_Road_drop) 8 = .ok (.ireturn, 1) := by decide +kernel
theorem sq_Road_drop_8 : rn G mm_Road_drop 8 lv [.int x] S P ↔ P (some (.int x)) S := rn_ir dq_Road_drop_8 rfl
theorem dq_Road_drop_9 : decode (km_c mm_Road_drop) 9 = .ok (.aload_n 0, 1) := by decide +kernel
theorem sq_Road_drop_9 : rn G mm_Road_drop 9 [some (.ref z), a1] st S P ↔ rn G mm_Road_drop 10 [some (.ref z), a1] (.ref z :: st) S P := rn_s dq_Road_drop_9 rfl rfl rfl
theorem dq_Road_drop_10 : decode (km_c mm_Road_drop) 10 = .ok (.getfield 36, 3) := by decide +kernel
theorem sq_Road_drop_10_0 (ho : sx_o o pl kp) : rn (lt_G o L) mm_Road_drop 10 lv (.ref 0 :: st) (sx pl kp I A) P ↔ rn (lt_G o L) mm_Road_drop 13 lv (.ref 26 :: st) (sx pl kp I A) P := rx_get (h := "") (ci := 9) (k := 4) dq_Road_drop_10 (by decide +kernel) ho (up_b (by decide)) rfl rfl (fl_r (by decide) (by decide) (by decide) (by decide))
theorem dq_Road_drop_13 : decode (km_c mm_Road_drop) 13 = .ok (.getfield 297, 3) := by decide +kernel
theorem sq_Road_drop_13_26 (ho : sx_o o pl kp) : rn (lt_G o L) mm_Road_drop 13 lv (.ref 26 :: st) (sx pl kp I A) P ↔ rn (lt_G o L) mm_Road_drop 16 lv (.ref 27 :: st) (sx pl kp I A) P := rx_get (h := "DeltaRoad") (ci := 3) (k := 0) dq_Road_drop_13 (by decide +kernel) ho (up_b (by decide)) rfl rfl (fl_r (by decide) (by decide) (by decide) (by decide))
theorem dq_Road_drop_16 : decode (km_c mm_Road_drop) 16 = .ok (.iload_n 1, 1) := by decide +kernel
theorem sq_Road_drop_16 : rn G mm_Road_drop 16 [a0, some (.int x)] st S P ↔ rn G mm_Road_drop 17 [a0, some (.int x)] (.int x :: st) S P := rn_s dq_Road_drop_16 rfl rfl rfl
theorem dq_Road_drop_17 : decode (km_c mm_Road_drop) 17 = .ok (.baload, 1) := by decide +kernel
theorem sq_Road_drop_17 (ho : sx_o o pl kp) (hk : ak L a = 1 ∨ ak L a = 2) (hu : sx_up pl kp a = true) (hc : c < ln L a) (hn : ln L a < 2 ^ 31) : rn (lt_G o L) mm_Road_drop 17 lv (.int (nI c) :: .ref a :: st) (sx pl kp I A) P ↔ rn (lt_G o L) mm_Road_drop 18 lv (.int (A a c) :: st) (sx pl kp I A) P := rx_bld dq_Road_drop_17 ho hk hu hc hn
theorem dq_Road_drop_18 : decode (km_c mm_Road_drop) 18 = .ok (.ifCond .ne 6, 3) := by decide +kernel
theorem sq_Road_drop_18 : rn G mm_Road_drop 18 lv (.int x :: st) S P ↔ ((¬ x = 0 → rn G mm_Road_drop 24 lv st S P) ∧ (¬ (¬ x = 0) → rn G mm_Road_drop 21 lv st S P)) := rn_b (off := 6) dq_Road_drop_18 rfl rfl rfl rfl
theorem dq_Road_drop_21 : decode (km_c mm_Road_drop) 21 = .ok (.bipush (-11), 2) := by decide +kernel
theorem sq_Road_drop_21 : rn G mm_Road_drop 21 lv st S P ↔ rn G mm_Road_drop 23 lv (.int ((-11)) :: st) S P := rn_s dq_Road_drop_21 rfl rfl rfl
theorem dq_Road_drop_23 : decode (km_c mm_Road_drop) 23 = .ok (.ireturn, 1) := by decide +kernel
theorem sq_Road_drop_23 : rn G mm_Road_drop 23 lv [.int x] S P ↔ P (some (.int x)) S := rn_ir dq_Road_drop_23 rfl
theorem dq_Road_drop_24 : decode (km_c mm_Road_drop) 24 = .ok (.aload_n 0, 1) := by decide +kernel
theorem sq_Road_drop_24 : rn G mm_Road_drop 24 [some (.ref z), a1] st S P ↔ rn G mm_Road_drop 25 [some (.ref z), a1] (.ref z :: st) S P := rn_s dq_Road_drop_24 rfl rfl rfl
theorem dq_Road_drop_25 : decode (km_c mm_Road_drop) 25 = .ok (.getfield 36, 3) := by decide +kernel
theorem sq_Road_drop_25_0 (ho : sx_o o pl kp) : rn (lt_G o L) mm_Road_drop 25 lv (.ref 0 :: st) (sx pl kp I A) P ↔ rn (lt_G o L) mm_Road_drop 28 lv (.ref 26 :: st) (sx pl kp I A) P := rx_get (h := "") (ci := 9) (k := 4) dq_Road_drop_25 (by decide +kernel) ho (up_b (by decide)) rfl rfl (fl_r (by decide) (by decide) (by decide) (by decide))
theorem dq_Road_drop_28 : decode (km_c mm_Road_drop) 28 = .ok (.getfield 297, 3) := by decide +kernel
theorem sq_Road_drop_28_26 (ho : sx_o o pl kp) : rn (lt_G o L) mm_Road_drop 28 lv (.ref 26 :: st) (sx pl kp I A) P ↔ rn (lt_G o L) mm_Road_drop 31 lv (.ref 27 :: st) (sx pl kp I A) P := rx_get (h := "DeltaRoad") (ci := 3) (k := 0) dq_Road_drop_28 (by decide +kernel) ho (up_b (by decide)) rfl rfl (fl_r (by decide) (by decide) (by decide) (by decide))
theorem dq_Road_drop_31 : decode (km_c mm_Road_drop) 31 = .ok (.iload_n 1, 1) := by decide +kernel
theorem sq_Road_drop_31 : rn G mm_Road_drop 31 [a0, some (.int x)] st S P ↔ rn G mm_Road_drop 32 [a0, some (.int x)] (.int x :: st) S P := rn_s dq_Road_drop_31 rfl rfl rfl
theorem dq_Road_drop_32 : decode (km_c mm_Road_drop) 32 = .ok (.iconst 0, 1) := by decide +kernel
theorem sq_Road_drop_32 : rn G mm_Road_drop 32 lv st S P ↔ rn G mm_Road_drop 33 lv (.int (nI 0) :: st) S P := rn_s dq_Road_drop_32 rfl rfl rfl
theorem dq_Road_drop_33 : decode (km_c mm_Road_drop) 33 = .ok (.bastore, 1) := by decide +kernel
theorem sq_Road_drop_33 (ho : sx_o o pl kp) (hk : ak L a = 1 ∨ ak L a = 2) (hu : sx_up pl kp a = true) (hc : c < ln L a) (hn : ln L a < 2 ^ 31) : rn (lt_G o L) mm_Road_drop 33 lv (.int x :: .int (nI c) :: .ref a :: st) (sx pl kp I A) P ↔ rn (lt_G o L) mm_Road_drop 34 lv st (sx pl kp I (u2 A a c (vp_nar (kx_ty (ak L a)) x))) P := rx_bst dq_Road_drop_33 ho hk hu hc hn
theorem dq_Road_drop_34 : decode (km_c mm_Road_drop) 34 = .ok (.aload_n 0, 1) := by decide +kernel
theorem sq_Road_drop_34 : rn G mm_Road_drop 34 [some (.ref z), a1] st S P ↔ rn G mm_Road_drop 35 [some (.ref z), a1] (.ref z :: st) S P := rn_s dq_Road_drop_34 rfl rfl rfl
theorem dq_Road_drop_35 : decode (km_c mm_Road_drop) 35 = .ok (.getfield 36, 3) := by decide +kernel
theorem sq_Road_drop_35_0 (ho : sx_o o pl kp) : rn (lt_G o L) mm_Road_drop 35 lv (.ref 0 :: st) (sx pl kp I A) P ↔ rn (lt_G o L) mm_Road_drop 38 lv (.ref 26 :: st) (sx pl kp I A) P := rx_get (h := "") (ci := 9) (k := 4) dq_Road_drop_35 (by decide +kernel) ho (up_b (by decide)) rfl rfl (fl_r (by decide) (by decide) (by decide) (by decide))
theorem dq_Road_drop_38 : decode (km_c mm_Road_drop) 38 = .ok (.getfield 301, 3) := by decide +kernel
theorem sq_Road_drop_38_26 (ho : sx_o o pl kp) : rn (lt_G o L) mm_Road_drop 38 lv (.ref 26 :: st) (sx pl kp I A) P ↔ rn (lt_G o L) mm_Road_drop 41 lv (.ref 29 :: st) (sx pl kp I A) P := rx_get (h := "DeltaRoad") (ci := 3) (k := 2) dq_Road_drop_38 (by decide +kernel) ho (up_b (by decide)) rfl rfl (fl_r (by decide) (by decide) (by decide) (by decide))
theorem dq_Road_drop_41 : decode (km_c mm_Road_drop) 41 = .ok (.iload_n 1, 1) := by decide +kernel
theorem sq_Road_drop_41 : rn G mm_Road_drop 41 [a0, some (.int x)] st S P ↔ rn G mm_Road_drop 42 [a0, some (.int x)] (.int x :: st) S P := rn_s dq_Road_drop_41 rfl rfl rfl
theorem dq_Road_drop_42 : decode (km_c mm_Road_drop) 42 = .ok (.iaload, 1) := by decide +kernel
theorem sq_Road_drop_42 (ho : sx_o o pl kp) (hk : ak L a = 0) (hu : sx_up pl kp a = true ∨ 1000 ≤ a) (hc : c < ln L a) (hn : ln L a < 2 ^ 31) : rn (lt_G o L) mm_Road_drop 42 lv (.int (nI c) :: .ref a :: st) (sx pl kp I A) P ↔ rn (lt_G o L) mm_Road_drop 43 lv (.int (A a c) :: st) (sx pl kp I A) P := rx_ild dq_Road_drop_42 ho hk hu hc hn
theorem dq_Road_drop_43 : decode (km_c mm_Road_drop) 43 = .ok (.ireturn, 1) := by decide +kernel
theorem sq_Road_drop_43 : rn G mm_Road_drop 43 lv [.int x] S P ↔ P (some (.int x)) S := rn_ir dq_Road_drop_43 rfl
theorem dq_Road_item_0 : decode (km_c mm_Road_item) 0 = .ok (.iload_n 1, 1) := by decide +kernel
theorem sq_Road_item_0 : rn G mm_Road_item 0 [a0, some (.int x), a2, a3, a4, a5] st S P ↔ rn G mm_Road_item 1 [a0, some (.int x), a2, a3, a4, a5] (.int x :: st) S P := rn_s dq_Road_item_0 rfl rfl rfl
theorem dq_Road_item_1 : decode (km_c mm_Road_item) 1 = .ok (.invokestatic 279, 3) := by decide +kernel
theorem sq_Road_item_1 {x1 : Int32} {v : Option Value} {S2 : ks_S} (hc : ev G mm_Road_noSheet [.int x1] S v S2) (hst : kx_cat st ≤ 8) : rn G mm_Road_item 1 lv (.int x1 :: st) S P ↔ rn G mm_Road_item 4 lv (v.toList ++ st) S2 P := rn_cs (k := 1) (host := "") (E' := mm_Road_noSheet) dq_Road_item_1 (by decide) (by decide) rfl (ok_v rfl (by decide) (by decide) (Nat.le_add_left _ _) hst (Nat.le_of_ble_eq_true rfl) (Or.inl rfl)) rfl rfl hc
theorem dq_Road_item_4 : decode (km_c mm_Road_item) 4 = .ok (.ifCond .ne 10, 3) := by decide +kernel
theorem sq_Road_item_4 : rn G mm_Road_item 4 lv (.int x :: st) S P ↔ ((¬ x = 0 → rn G mm_Road_item 14 lv st S P) ∧ (¬ (¬ x = 0) → rn G mm_Road_item 7 lv st S P)) := rn_b (off := 10) dq_Road_item_4 rfl rfl rfl rfl
theorem dq_Road_item_7 : decode (km_c mm_Road_item) 7 = .ok (.iload_n 2, 1) := by decide +kernel
theorem sq_Road_item_7 : rn G mm_Road_item 7 [a0, a1, some (.int x), a3, a4, a5] st S P ↔ rn G mm_Road_item 8 [a0, a1, some (.int x), a3, a4, a5] (.int x :: st) S P := rn_s dq_Road_item_7 rfl rfl rfl
theorem dq_Road_item_8 : decode (km_c mm_Road_item) 8 = .ok (.invokestatic 282, 3) := by decide +kernel
theorem sq_Road_item_8 {x1 : Int32} {v : Option Value} {S2 : ks_S} (hc : ev G mm_Road_noLane [.int x1] S v S2) (hst : kx_cat st ≤ 8) : rn G mm_Road_item 8 lv (.int x1 :: st) S P ↔ rn G mm_Road_item 11 lv (v.toList ++ st) S2 P := rn_cs (k := 1) (host := "") (E' := mm_Road_noLane) dq_Road_item_8 (by decide) (by decide) rfl (ok_v rfl (by decide) (by decide) (Nat.le_add_left _ _) hst (Nat.le_of_ble_eq_true rfl) (Or.inl rfl)) rfl rfl hc
theorem dq_Road_item_11 : decode (km_c mm_Road_item) 11 = .ok (.ifCond .eq 5, 3) := by decide +kernel
theorem sq_Road_item_11 : rn G mm_Road_item 11 lv (.int x :: st) S P ↔ ((x = 0 → rn G mm_Road_item 16 lv st S P) ∧ (¬ (x = 0) → rn G mm_Road_item 14 lv st S P)) := rn_b (off := 5) dq_Road_item_11 rfl rfl rfl rfl
theorem dq_Road_item_14 : decode (km_c mm_Road_item) 14 = .ok (.iconst (-1), 1) := by decide +kernel
theorem sq_Road_item_14 : rn G mm_Road_item 14 lv st S P ↔ rn G mm_Road_item 15 lv (.int ((-1)) :: st) S P := rn_s dq_Road_item_14 rfl rfl rfl
theorem dq_Road_item_15 : decode (km_c mm_Road_item) 15 = .ok (.ireturn, 1) := by decide +kernel
theorem sq_Road_item_15 : rn G mm_Road_item 15 lv [.int x] S P ↔ P (some (.int x)) S := rn_ir dq_Road_item_15 rfl
theorem dq_Road_item_16 : decode (km_c mm_Road_item) 16 = .ok (.aload_n 0, 1) := by decide +kernel
theorem sq_Road_item_16 : rn G mm_Road_item 16 [some (.ref z), a1, a2, a3, a4, a5] st S P ↔ rn G mm_Road_item 17 [some (.ref z), a1, a2, a3, a4, a5] (.ref z :: st) S P := rn_s dq_Road_item_16 rfl rfl rfl
theorem dq_Road_item_17 : decode (km_c mm_Road_item) 17 = .ok (.getfield 36, 3) := by decide +kernel
theorem sq_Road_item_17_0 (ho : sx_o o pl kp) : rn (lt_G o L) mm_Road_item 17 lv (.ref 0 :: st) (sx pl kp I A) P ↔ rn (lt_G o L) mm_Road_item 20 lv (.ref 26 :: st) (sx pl kp I A) P := rx_get (h := "") (ci := 9) (k := 4) dq_Road_item_17 (by decide +kernel) ho (up_b (by decide)) rfl rfl (fl_r (by decide) (by decide) (by decide) (by decide))
theorem dq_Road_item_20 : decode (km_c mm_Road_item) 20 = .ok (.iload_n 1, 1) := by decide +kernel
theorem sq_Road_item_20 : rn G mm_Road_item 20 [a0, some (.int x), a2, a3, a4, a5] st S P ↔ rn G mm_Road_item 21 [a0, some (.int x), a2, a3, a4, a5] (.int x :: st) S P := rn_s dq_Road_item_20 rfl rfl rfl
theorem dq_Road_item_21 : decode (km_c mm_Road_item) 21 = .ok (.iload_n 2, 1) := by decide +kernel
theorem sq_Road_item_21 : rn G mm_Road_item 21 [a0, a1, some (.int x), a3, a4, a5] st S P ↔ rn G mm_Road_item 22 [a0, a1, some (.int x), a3, a4, a5] (.int x :: st) S P := rn_s dq_Road_item_21 rfl rfl rfl
theorem dq_Road_item_22 : decode (km_c mm_Road_item) 22 = .ok (.iload_n 3, 1) := by decide +kernel
theorem sq_Road_item_22 : rn G mm_Road_item 22 [a0, a1, a2, some (.int x), a4, a5] st S P ↔ rn G mm_Road_item 23 [a0, a1, a2, some (.int x), a4, a5] (.int x :: st) S P := rn_s dq_Road_item_22 rfl rfl rfl
theorem dq_Road_item_23 : decode (km_c mm_Road_item) 23 = .ok (.iconst 1, 1) := by decide +kernel
theorem sq_Road_item_23 : rn G mm_Road_item 23 lv st S P ↔ rn G mm_Road_item 24 lv (.int (nI 1) :: st) S P := rn_s dq_Road_item_23 rfl rfl rfl
theorem dq_Road_item_24 : decode (km_c mm_Road_item) 24 = .ok (.invokevirtual 285, 3) := by decide +kernel
theorem sq_Road_item_24_26 {x1 : Int32} {x2 : Int32} {x3 : Int32} {x4 : Int32} {v : Option Value} {S2 : ks_S} (hc : ev (lt_G o L) mm_Sheets_refusal [.ref 26, .int x1, .int x2, .int x3, .int x4] (sx pl kp I A) v S2) (ho : sx_o o pl kp) (hst : kx_cat st ≤ 8) : rn (lt_G o L) mm_Road_item 24 lv (.int x4 :: .int x3 :: .int x2 :: .int x1 :: .ref 26 :: st) (sx pl kp I A) P ↔ rn (lt_G o L) mm_Road_item 27 lv (v.toList ++ st) S2 P := rn_cv (k := 0) (host := "") (E' := mm_Sheets_refusal) dq_Road_item_24 rfl (ok_v rfl (by decide) (by decide) (Nat.le_add_left _ _) hst (Nat.le_of_ble_eq_true rfl) (Or.inr (rc_v ho (up_b (by decide)) rfl))) rfl rfl hc
theorem dq_Road_item_27 : decode (km_c mm_Road_item) 27 = .ok (.istore 5, 2) := by decide +kernel
theorem sq_Road_item_27n : rn G mm_Road_item 27 [a0, a1, a2, a3, none, a5] (.int x :: st) S P ↔ rn G mm_Road_item 29 [a0, a1, a2, a3, none, some (.int x)] st S P := rn_s dq_Road_item_27 rfl rfl rfl
theorem sq_Road_item_27i : rn G mm_Road_item 27 [a0, a1, a2, a3, some (.int x2), a5] (.int x :: st) S P ↔ rn G mm_Road_item 29 [a0, a1, a2, a3, some (.int x2), some (.int x)] st S P := rn_s dq_Road_item_27 rfl rfl rfl
theorem sq_Road_item_27r : rn G mm_Road_item 27 [a0, a1, a2, a3, some (.ref z2), a5] (.int x :: st) S P ↔ rn G mm_Road_item 29 [a0, a1, a2, a3, some (.ref z2), some (.int x)] st S P := rn_s dq_Road_item_27 rfl rfl rfl
theorem dq_Road_item_29 : decode (km_c mm_Road_item) 29 = .ok (.iload 5, 2) := by decide +kernel
theorem sq_Road_item_29 : rn G mm_Road_item 29 [a0, a1, a2, a3, a4, some (.int x)] st S P ↔ rn G mm_Road_item 31 [a0, a1, a2, a3, a4, some (.int x)] (.int x :: st) S P := rn_s dq_Road_item_29 rfl rfl rfl
theorem dq_Road_item_31 : decode (km_c mm_Road_item) 31 = .ok (.ifCond .eq 6, 3) := by decide +kernel
theorem sq_Road_item_31 : rn G mm_Road_item 31 lv (.int x :: st) S P ↔ ((x = 0 → rn G mm_Road_item 37 lv st S P) ∧ (¬ (x = 0) → rn G mm_Road_item 34 lv st S P)) := rn_b (off := 6) dq_Road_item_31 rfl rfl rfl rfl
theorem dq_Road_item_34 : decode (km_c mm_Road_item) 34 = .ok (.iload 5, 2) := by decide +kernel
theorem sq_Road_item_34 : rn G mm_Road_item 34 [a0, a1, a2, a3, a4, some (.int x)] st S P ↔ rn G mm_Road_item 36 [a0, a1, a2, a3, a4, some (.int x)] (.int x :: st) S P := rn_s dq_Road_item_34 rfl rfl rfl
theorem dq_Road_item_36 : decode (km_c mm_Road_item) 36 = .ok (.ireturn, 1) := by decide +kernel
theorem sq_Road_item_36 : rn G mm_Road_item 36 lv [.int x] S P ↔ P (some (.int x)) S := rn_ir dq_Road_item_36 rfl
theorem dq_Road_item_37 : decode (km_c mm_Road_item) 37 = .ok (.aload_n 0, 1) := by decide +kernel
theorem sq_Road_item_37 : rn G mm_Road_item 37 [some (.ref z), a1, a2, a3, a4, a5] st S P ↔ rn G mm_Road_item 38 [some (.ref z), a1, a2, a3, a4, a5] (.ref z :: st) S P := rn_s dq_Road_item_37 rfl rfl rfl
theorem dq_Road_item_38 : decode (km_c mm_Road_item) 38 = .ok (.getfield 36, 3) := by decide +kernel
theorem sq_Road_item_38_0 (ho : sx_o o pl kp) : rn (lt_G o L) mm_Road_item 38 lv (.ref 0 :: st) (sx pl kp I A) P ↔ rn (lt_G o L) mm_Road_item 41 lv (.ref 26 :: st) (sx pl kp I A) P := rx_get (h := "") (ci := 9) (k := 4) dq_Road_item_38 (by decide +kernel) ho (up_b (by decide)) rfl rfl (fl_r (by decide) (by decide) (by decide) (by decide))
theorem dq_Road_item_41 : decode (km_c mm_Road_item) 41 = .ok (.iload_n 1, 1) := by decide +kernel
theorem sq_Road_item_41 : rn G mm_Road_item 41 [a0, some (.int x), a2, a3, a4, a5] st S P ↔ rn G mm_Road_item 42 [a0, some (.int x), a2, a3, a4, a5] (.int x :: st) S P := rn_s dq_Road_item_41 rfl rfl rfl
theorem dq_Road_item_42 : decode (km_c mm_Road_item) 42 = .ok (.iload_n 3, 1) := by decide +kernel
theorem sq_Road_item_42 : rn G mm_Road_item 42 [a0, a1, a2, some (.int x), a4, a5] st S P ↔ rn G mm_Road_item 43 [a0, a1, a2, some (.int x), a4, a5] (.int x :: st) S P := rn_s dq_Road_item_42 rfl rfl rfl
theorem dq_Road_item_43 : decode (km_c mm_Road_item) 43 = .ok (.iload 4, 2) := by decide +kernel
theorem sq_Road_item_43 : rn G mm_Road_item 43 [a0, a1, a2, a3, some (.int x), a5] st S P ↔ rn G mm_Road_item 45 [a0, a1, a2, a3, some (.int x), a5] (.int x :: st) S P := rn_s dq_Road_item_43 rfl rfl rfl
theorem dq_Road_item_45 : decode (km_c mm_Road_item) 45 = .ok (.invokevirtual 304, 3) := by decide +kernel
theorem sq_Road_item_45_26 {x1 : Int32} {x2 : Int32} {x3 : Int32} {v : Option Value} {S2 : ks_S} (hc : ev (lt_G o L) mm_Sheets_put [.ref 26, .int x1, .int x2, .int x3] (sx pl kp I A) v S2) (ho : sx_o o pl kp) (hst : kx_cat st ≤ 8) : rn (lt_G o L) mm_Road_item 45 lv (.int x3 :: .int x2 :: .int x1 :: .ref 26 :: st) (sx pl kp I A) P ↔ rn (lt_G o L) mm_Road_item 48 lv (v.toList ++ st) S2 P := rn_cv (k := 0) (host := "") (E' := mm_Sheets_put) dq_Road_item_45 rfl (ok_v rfl (by decide) (by decide) (Nat.le_add_left _ _) hst (Nat.le_of_ble_eq_true rfl) (Or.inr (rc_v ho (up_b (by decide)) rfl))) rfl rfl hc
theorem dq_Road_item_48 : decode (km_c mm_Road_item) 48 = .ok (.iconst 1, 1) := by decide +kernel
theorem sq_Road_item_48 : rn G mm_Road_item 48 lv st S P ↔ rn G mm_Road_item 49 lv (.int (nI 1) :: st) S P := rn_s dq_Road_item_48 rfl rfl rfl
theorem dq_Road_item_49 : decode (km_c mm_Road_item) 49 = .ok (.ireturn, 1) := by decide +kernel
theorem sq_Road_item_49 : rn G mm_Road_item 49 lv [.int x] S P ↔ P (some (.int x)) S := rn_ir dq_Road_item_49 rfl
theorem dq_Road_film_0 : decode (km_c mm_Road_film) 0 = .ok (.iload_n 1, 1) := by decide +kernel
theorem sq_Road_film_0 : rn G mm_Road_film 0 [a0, some (.int x), a2, a3, a4, a5, a6, a7] st S P ↔ rn G mm_Road_film 1 [a0, some (.int x), a2, a3, a4, a5, a6, a7] (.int x :: st) S P := rn_s dq_Road_film_0 rfl rfl rfl
theorem dq_Road_film_1 : decode (km_c mm_Road_film) 1 = .ok (.iconst 0, 1) := by decide +kernel
theorem sq_Road_film_1 : rn G mm_Road_film 1 lv st S P ↔ rn G mm_Road_film 2 lv (.int (nI 0) :: st) S P := rn_s dq_Road_film_1 rfl rfl rfl
theorem dq_Road_film_2 : decode (km_c mm_Road_film) 2 = .ok (.bipush 6, 2) := by decide +kernel
theorem sq_Road_film_2 : rn G mm_Road_film 2 lv st S P ↔ rn G mm_Road_film 4 lv (.int (nI 6) :: st) S P := rn_s dq_Road_film_2 rfl rfl rfl
theorem dq_Road_film_4 : decode (km_c mm_Road_film) 4 = .ok (.invokestatic 72, 3) := by decide +kernel
theorem sq_Road_film_4 {x1 : Int32} {x2 : Int32} {x3 : Int32} {v : Option Value} {S2 : ks_S} (hc : ev G mm_Road_outside [.int x1, .int x2, .int x3] S v S2) (hst : kx_cat st ≤ 8) : rn G mm_Road_film 4 lv (.int x3 :: .int x2 :: .int x1 :: st) S P ↔ rn G mm_Road_film 7 lv (v.toList ++ st) S2 P := rn_cs (k := 1) (host := "") (E' := mm_Road_outside) dq_Road_film_4 (by decide) (by decide) rfl (ok_v rfl (by decide) (by decide) (Nat.le_add_left _ _) hst (Nat.le_of_ble_eq_true rfl) (Or.inl rfl)) rfl rfl hc
theorem dq_Road_film_7 : decode (km_c mm_Road_film) 7 = .ok (.ifCond .ne 17, 3) := by decide +kernel
theorem sq_Road_film_7 : rn G mm_Road_film 7 lv (.int x :: st) S P ↔ ((¬ x = 0 → rn G mm_Road_film 24 lv st S P) ∧ (¬ (¬ x = 0) → rn G mm_Road_film 10 lv st S P)) := rn_b (off := 17) dq_Road_film_7 rfl rfl rfl rfl
theorem dq_Road_film_10 : decode (km_c mm_Road_film) 10 = .ok (.iload_n 2, 1) := by decide +kernel
theorem sq_Road_film_10 : rn G mm_Road_film 10 [a0, a1, some (.int x), a3, a4, a5, a6, a7] st S P ↔ rn G mm_Road_film 11 [a0, a1, some (.int x), a3, a4, a5, a6, a7] (.int x :: st) S P := rn_s dq_Road_film_10 rfl rfl rfl
theorem dq_Road_film_11 : decode (km_c mm_Road_film) 11 = .ok (.invokestatic 279, 3) := by decide +kernel
theorem sq_Road_film_11 {x1 : Int32} {v : Option Value} {S2 : ks_S} (hc : ev G mm_Road_noSheet [.int x1] S v S2) (hst : kx_cat st ≤ 8) : rn G mm_Road_film 11 lv (.int x1 :: st) S P ↔ rn G mm_Road_film 14 lv (v.toList ++ st) S2 P := rn_cs (k := 1) (host := "") (E' := mm_Road_noSheet) dq_Road_film_11 (by decide) (by decide) rfl (ok_v rfl (by decide) (by decide) (Nat.le_add_left _ _) hst (Nat.le_of_ble_eq_true rfl) (Or.inl rfl)) rfl rfl hc
theorem dq_Road_film_14 : decode (km_c mm_Road_film) 14 = .ok (.ifCond .ne 10, 3) := by decide +kernel
theorem sq_Road_film_14 : rn G mm_Road_film 14 lv (.int x :: st) S P ↔ ((¬ x = 0 → rn G mm_Road_film 24 lv st S P) ∧ (¬ (¬ x = 0) → rn G mm_Road_film 17 lv st S P)) := rn_b (off := 10) dq_Road_film_14 rfl rfl rfl rfl
theorem dq_Road_film_17 : decode (km_c mm_Road_film) 17 = .ok (.iload_n 3, 1) := by decide +kernel
theorem sq_Road_film_17 : rn G mm_Road_film 17 [a0, a1, a2, some (.int x), a4, a5, a6, a7] st S P ↔ rn G mm_Road_film 18 [a0, a1, a2, some (.int x), a4, a5, a6, a7] (.int x :: st) S P := rn_s dq_Road_film_17 rfl rfl rfl
theorem dq_Road_film_18 : decode (km_c mm_Road_film) 18 = .ok (.invokestatic 282, 3) := by decide +kernel
theorem sq_Road_film_18 {x1 : Int32} {v : Option Value} {S2 : ks_S} (hc : ev G mm_Road_noLane [.int x1] S v S2) (hst : kx_cat st ≤ 8) : rn G mm_Road_film 18 lv (.int x1 :: st) S P ↔ rn G mm_Road_film 21 lv (v.toList ++ st) S2 P := rn_cs (k := 1) (host := "") (E' := mm_Road_noLane) dq_Road_film_18 (by decide) (by decide) rfl (ok_v rfl (by decide) (by decide) (Nat.le_add_left _ _) hst (Nat.le_of_ble_eq_true rfl) (Or.inl rfl)) rfl rfl hc
theorem dq_Road_film_21 : decode (km_c mm_Road_film) 21 = .ok (.ifCond .eq 5, 3) := by decide +kernel
theorem sq_Road_film_21 : rn G mm_Road_film 21 lv (.int x :: st) S P ↔ ((x = 0 → rn G mm_Road_film 26 lv st S P) ∧ (¬ (x = 0) → rn G mm_Road_film 24 lv st S P)) := rn_b (off := 5) dq_Road_film_21 rfl rfl rfl rfl
theorem dq_Road_film_24 : decode (km_c mm_Road_film) 24 = .ok (.iconst (-1), 1) := by decide +kernel
theorem sq_Road_film_24 : rn G mm_Road_film 24 lv st S P ↔ rn G mm_Road_film 25 lv (.int ((-1)) :: st) S P := rn_s dq_Road_film_24 rfl rfl rfl
theorem dq_Road_film_25 : decode (km_c mm_Road_film) 25 = .ok (.ireturn, 1) := by decide +kernel
theorem sq_Road_film_25 : rn G mm_Road_film 25 lv [.int x] S P ↔ P (some (.int x)) S := rn_ir dq_Road_film_25 rfl
theorem dq_Road_film_26 : decode (km_c mm_Road_film) 26 = .ok (.aload_n 0, 1) := by decide +kernel
theorem sq_Road_film_26 : rn G mm_Road_film 26 [some (.ref z), a1, a2, a3, a4, a5, a6, a7] st S P ↔ rn G mm_Road_film 27 [some (.ref z), a1, a2, a3, a4, a5, a6, a7] (.ref z :: st) S P := rn_s dq_Road_film_26 rfl rfl rfl
theorem dq_Road_film_27 : decode (km_c mm_Road_film) 27 = .ok (.getfield 36, 3) := by decide +kernel
theorem sq_Road_film_27_0 (ho : sx_o o pl kp) : rn (lt_G o L) mm_Road_film 27 lv (.ref 0 :: st) (sx pl kp I A) P ↔ rn (lt_G o L) mm_Road_film 30 lv (.ref 26 :: st) (sx pl kp I A) P := rx_get (h := "") (ci := 9) (k := 4) dq_Road_film_27 (by decide +kernel) ho (up_b (by decide)) rfl rfl (fl_r (by decide) (by decide) (by decide) (by decide))
theorem dq_Road_film_30 : decode (km_c mm_Road_film) 30 = .ok (.iload_n 2, 1) := by decide +kernel
theorem sq_Road_film_30 : rn G mm_Road_film 30 [a0, a1, some (.int x), a3, a4, a5, a6, a7] st S P ↔ rn G mm_Road_film 31 [a0, a1, some (.int x), a3, a4, a5, a6, a7] (.int x :: st) S P := rn_s dq_Road_film_30 rfl rfl rfl
theorem dq_Road_film_31 : decode (km_c mm_Road_film) 31 = .ok (.iload_n 3, 1) := by decide +kernel
theorem sq_Road_film_31 : rn G mm_Road_film 31 [a0, a1, a2, some (.int x), a4, a5, a6, a7] st S P ↔ rn G mm_Road_film 32 [a0, a1, a2, some (.int x), a4, a5, a6, a7] (.int x :: st) S P := rn_s dq_Road_film_31 rfl rfl rfl
theorem dq_Road_film_32 : decode (km_c mm_Road_film) 32 = .ok (.iload 4, 2) := by decide +kernel
theorem sq_Road_film_32 : rn G mm_Road_film 32 [a0, a1, a2, a3, some (.int x), a5, a6, a7] st S P ↔ rn G mm_Road_film 34 [a0, a1, a2, a3, some (.int x), a5, a6, a7] (.int x :: st) S P := rn_s dq_Road_film_32 rfl rfl rfl
theorem dq_Road_film_34 : decode (km_c mm_Road_film) 34 = .ok (.bipush 7, 2) := by decide +kernel
theorem sq_Road_film_34 : rn G mm_Road_film 34 lv st S P ↔ rn G mm_Road_film 36 lv (.int (nI 7) :: st) S P := rn_s dq_Road_film_34 rfl rfl rfl
theorem dq_Road_film_36 : decode (km_c mm_Road_film) 36 = .ok (.invokevirtual 285, 3) := by decide +kernel
theorem sq_Road_film_36_26 {x1 : Int32} {x2 : Int32} {x3 : Int32} {x4 : Int32} {v : Option Value} {S2 : ks_S} (hc : ev (lt_G o L) mm_Sheets_refusal [.ref 26, .int x1, .int x2, .int x3, .int x4] (sx pl kp I A) v S2) (ho : sx_o o pl kp) (hst : kx_cat st ≤ 8) : rn (lt_G o L) mm_Road_film 36 lv (.int x4 :: .int x3 :: .int x2 :: .int x1 :: .ref 26 :: st) (sx pl kp I A) P ↔ rn (lt_G o L) mm_Road_film 39 lv (v.toList ++ st) S2 P := rn_cv (k := 0) (host := "") (E' := mm_Sheets_refusal) dq_Road_film_36 rfl (ok_v rfl (by decide) (by decide) (Nat.le_add_left _ _) hst (Nat.le_of_ble_eq_true rfl) (Or.inr (rc_v ho (up_b (by decide)) rfl))) rfl rfl hc
theorem dq_Road_film_39 : decode (km_c mm_Road_film) 39 = .ok (.istore 5, 2) := by decide +kernel
theorem sq_Road_film_39n : rn G mm_Road_film 39 [a0, a1, a2, a3, none, a5, a6, a7] (.int x :: st) S P ↔ rn G mm_Road_film 41 [a0, a1, a2, a3, none, some (.int x), a6, a7] st S P := rn_s dq_Road_film_39 rfl rfl rfl
theorem sq_Road_film_39i : rn G mm_Road_film 39 [a0, a1, a2, a3, some (.int x2), a5, a6, a7] (.int x :: st) S P ↔ rn G mm_Road_film 41 [a0, a1, a2, a3, some (.int x2), some (.int x), a6, a7] st S P := rn_s dq_Road_film_39 rfl rfl rfl
theorem sq_Road_film_39r : rn G mm_Road_film 39 [a0, a1, a2, a3, some (.ref z2), a5, a6, a7] (.int x :: st) S P ↔ rn G mm_Road_film 41 [a0, a1, a2, a3, some (.ref z2), some (.int x), a6, a7] st S P := rn_s dq_Road_film_39 rfl rfl rfl
theorem dq_Road_film_41 : decode (km_c mm_Road_film) 41 = .ok (.iload 5, 2) := by decide +kernel
theorem sq_Road_film_41 : rn G mm_Road_film 41 [a0, a1, a2, a3, a4, some (.int x), a6, a7] st S P ↔ rn G mm_Road_film 43 [a0, a1, a2, a3, a4, some (.int x), a6, a7] (.int x :: st) S P := rn_s dq_Road_film_41 rfl rfl rfl
theorem dq_Road_film_43 : decode (km_c mm_Road_film) 43 = .ok (.ifCond .eq 6, 3) := by decide +kernel
theorem sq_Road_film_43 : rn G mm_Road_film 43 lv (.int x :: st) S P ↔ ((x = 0 → rn G mm_Road_film 49 lv st S P) ∧ (¬ (x = 0) → rn G mm_Road_film 46 lv st S P)) := rn_b (off := 6) dq_Road_film_43 rfl rfl rfl rfl
theorem dq_Road_film_46 : decode (km_c mm_Road_film) 46 = .ok (.iload 5, 2) := by decide +kernel
theorem sq_Road_film_46 : rn G mm_Road_film 46 [a0, a1, a2, a3, a4, some (.int x), a6, a7] st S P ↔ rn G mm_Road_film 48 [a0, a1, a2, a3, a4, some (.int x), a6, a7] (.int x :: st) S P := rn_s dq_Road_film_46 rfl rfl rfl
theorem dq_Road_film_48 : decode (km_c mm_Road_film) 48 = .ok (.ireturn, 1) := by decide +kernel
theorem sq_Road_film_48 : rn G mm_Road_film 48 lv [.int x] S P ↔ P (some (.int x)) S := rn_ir dq_Road_film_48 rfl
theorem dq_Road_film_49 : decode (km_c mm_Road_film) 49 = .ok (.aload_n 0, 1) := by decide +kernel
theorem sq_Road_film_49 : rn G mm_Road_film 49 [some (.ref z), a1, a2, a3, a4, a5, a6, a7] st S P ↔ rn G mm_Road_film 50 [some (.ref z), a1, a2, a3, a4, a5, a6, a7] (.ref z :: st) S P := rn_s dq_Road_film_49 rfl rfl rfl
theorem dq_Road_film_50 : decode (km_c mm_Road_film) 50 = .ok (.invokevirtual 90, 3) := by decide +kernel
theorem sq_Road_film_50_0  {v : Option Value} {S2 : ks_S} (hc : ev (lt_G o L) mm_Road_waterNow [.ref 0] (sx pl kp I A) v S2) (ho : sx_o o pl kp) (hst : kx_cat st ≤ 8) : rn (lt_G o L) mm_Road_film 50 lv (.ref 0 :: st) (sx pl kp I A) P ↔ rn (lt_G o L) mm_Road_film 53 lv (v.toList ++ st) S2 P := rn_cv (k := 0) (host := "") (E' := mm_Road_waterNow) dq_Road_film_50 rfl (ok_v rfl (by decide) (by decide) (Nat.le_add_left _ _) hst (Nat.le_of_ble_eq_true rfl) (Or.inr (rc_v ho (up_b (by decide)) rfl))) rfl rfl hc
theorem dq_Road_film_53 : decode (km_c mm_Road_film) 53 = .ok (.astore 6, 2) := by decide +kernel
theorem sq_Road_film_53n : rn G mm_Road_film 53 [a0, a1, a2, a3, a4, none, a6, a7] (.ref z :: st) S P ↔ rn G mm_Road_film 55 [a0, a1, a2, a3, a4, none, some (.ref z), a7] st S P := rn_s dq_Road_film_53 rfl rfl rfl
theorem sq_Road_film_53i : rn G mm_Road_film 53 [a0, a1, a2, a3, a4, some (.int x2), a6, a7] (.ref z :: st) S P ↔ rn G mm_Road_film 55 [a0, a1, a2, a3, a4, some (.int x2), some (.ref z), a7] st S P := rn_s dq_Road_film_53 rfl rfl rfl
theorem sq_Road_film_53r : rn G mm_Road_film 53 [a0, a1, a2, a3, a4, some (.ref z2), a6, a7] (.ref z :: st) S P ↔ rn G mm_Road_film 55 [a0, a1, a2, a3, a4, some (.ref z2), some (.ref z), a7] st S P := rn_s dq_Road_film_53 rfl rfl rfl
theorem dq_Road_film_55 : decode (km_c mm_Road_film) 55 = .ok (.iconst 0, 1) := by decide +kernel
theorem sq_Road_film_55 : rn G mm_Road_film 55 lv st S P ↔ rn G mm_Road_film 56 lv (.int (nI 0) :: st) S P := rn_s dq_Road_film_55 rfl rfl rfl
theorem dq_Road_film_56 : decode (km_c mm_Road_film) 56 = .ok (.istore 7, 2) := by decide +kernel
theorem sq_Road_film_56n : rn G mm_Road_film 56 [a0, a1, a2, a3, a4, a5, none, a7] (.int x :: st) S P ↔ rn G mm_Road_film 58 [a0, a1, a2, a3, a4, a5, none, some (.int x)] st S P := rn_s dq_Road_film_56 rfl rfl rfl
theorem sq_Road_film_56i : rn G mm_Road_film 56 [a0, a1, a2, a3, a4, a5, some (.int x2), a7] (.int x :: st) S P ↔ rn G mm_Road_film 58 [a0, a1, a2, a3, a4, a5, some (.int x2), some (.int x)] st S P := rn_s dq_Road_film_56 rfl rfl rfl
theorem sq_Road_film_56r : rn G mm_Road_film 56 [a0, a1, a2, a3, a4, a5, some (.ref z2), a7] (.int x :: st) S P ↔ rn G mm_Road_film 58 [a0, a1, a2, a3, a4, a5, some (.ref z2), some (.int x)] st S P := rn_s dq_Road_film_56 rfl rfl rfl
theorem dq_Road_film_58 : decode (km_c mm_Road_film) 58 = .ok (.iload 7, 2) := by decide +kernel
theorem sq_Road_film_58 : rn G mm_Road_film 58 [a0, a1, a2, a3, a4, a5, a6, some (.int x)] st S P ↔ rn G mm_Road_film 60 [a0, a1, a2, a3, a4, a5, a6, some (.int x)] (.int x :: st) S P := rn_s dq_Road_film_58 rfl rfl rfl
theorem dq_Road_film_60 : decode (km_c mm_Road_film) 60 = .ok (.bipush 7, 2) := by decide +kernel
theorem sq_Road_film_60 : rn G mm_Road_film 60 lv st S P ↔ rn G mm_Road_film 62 lv (.int (nI 7) :: st) S P := rn_s dq_Road_film_60 rfl rfl rfl
theorem dq_Road_film_62 : decode (km_c mm_Road_film) 62 = .ok (.if_icmp .ge 35, 3) := by decide +kernel
theorem sq_Road_film_62 : rn G mm_Road_film 62 lv (.int x2 :: .int x :: st) S P ↔ ((x2 ≤ x → rn G mm_Road_film 97 lv st S P) ∧ (¬ (x2 ≤ x) → rn G mm_Road_film 65 lv st S P)) := rn_b (off := 35) dq_Road_film_62 rfl rfl rfl rfl
theorem dq_Road_film_65 : decode (km_c mm_Road_film) 65 = .ok (.aload_n 0, 1) := by decide +kernel
theorem sq_Road_film_65 : rn G mm_Road_film 65 [some (.ref z), a1, a2, a3, a4, a5, a6, a7] st S P ↔ rn G mm_Road_film 66 [some (.ref z), a1, a2, a3, a4, a5, a6, a7] (.ref z :: st) S P := rn_s dq_Road_film_65 rfl rfl rfl
theorem dq_Road_film_66 : decode (km_c mm_Road_film) 66 = .ok (.getfield 36, 3) := by decide +kernel
theorem sq_Road_film_66_0 (ho : sx_o o pl kp) : rn (lt_G o L) mm_Road_film 66 lv (.ref 0 :: st) (sx pl kp I A) P ↔ rn (lt_G o L) mm_Road_film 69 lv (.ref 26 :: st) (sx pl kp I A) P := rx_get (h := "") (ci := 9) (k := 4) dq_Road_film_66 (by decide +kernel) ho (up_b (by decide)) rfl rfl (fl_r (by decide) (by decide) (by decide) (by decide))
theorem dq_Road_film_69 : decode (km_c mm_Road_film) 69 = .ok (.iload_n 2, 1) := by decide +kernel
theorem sq_Road_film_69 : rn G mm_Road_film 69 [a0, a1, some (.int x), a3, a4, a5, a6, a7] st S P ↔ rn G mm_Road_film 70 [a0, a1, some (.int x), a3, a4, a5, a6, a7] (.int x :: st) S P := rn_s dq_Road_film_69 rfl rfl rfl
theorem dq_Road_film_70 : decode (km_c mm_Road_film) 70 = .ok (.iload 4, 2) := by decide +kernel
theorem sq_Road_film_70 : rn G mm_Road_film 70 [a0, a1, a2, a3, some (.int x), a5, a6, a7] st S P ↔ rn G mm_Road_film 72 [a0, a1, a2, a3, some (.int x), a5, a6, a7] (.int x :: st) S P := rn_s dq_Road_film_70 rfl rfl rfl
theorem dq_Road_film_72 : decode (km_c mm_Road_film) 72 = .ok (.iload 7, 2) := by decide +kernel
theorem sq_Road_film_72 : rn G mm_Road_film 72 [a0, a1, a2, a3, a4, a5, a6, some (.int x)] st S P ↔ rn G mm_Road_film 74 [a0, a1, a2, a3, a4, a5, a6, some (.int x)] (.int x :: st) S P := rn_s dq_Road_film_72 rfl rfl rfl
theorem dq_Road_film_74 : decode (km_c mm_Road_film) 74 = .ok (.iadd, 1) := by decide +kernel
theorem sq_Road_film_74 : rn G mm_Road_film 74 lv (.int x2 :: .int x :: st) S P ↔ rn G mm_Road_film 75 lv (.int (x + x2) :: st) S P := rn_s dq_Road_film_74 rfl rfl rfl
theorem dq_Road_film_75 : decode (km_c mm_Road_film) 75 = .ok (.aload 6, 2) := by decide +kernel
theorem sq_Road_film_75 : rn G mm_Road_film 75 [a0, a1, a2, a3, a4, a5, some (.ref z), a7] st S P ↔ rn G mm_Road_film 77 [a0, a1, a2, a3, a4, a5, some (.ref z), a7] (.ref z :: st) S P := rn_s dq_Road_film_75 rfl rfl rfl
theorem dq_Road_film_77 : decode (km_c mm_Road_film) 77 = .ok (.getfield 94, 3) := by decide +kernel
theorem sq_Road_film_77_16 (ho : sx_o o pl kp) : rn (lt_G o L) mm_Road_film 77 lv (.ref 16 :: st) (sx pl kp I A) P ↔ rn (lt_G o L) mm_Road_film 80 lv (.ref 17 :: st) (sx pl kp I A) P := rx_get (h := "DeltaRoad") (ci := 6) (k := 0) dq_Road_film_77 (by decide +kernel) ho (up_b (by decide)) rfl rfl (fl_r (by decide) (by decide) (by decide) (by decide))
theorem sq_Road_film_77_20 (ho : sx_o o pl kp) : rn (lt_G o L) mm_Road_film 77 lv (.ref 20 :: st) (sx pl kp I A) P ↔ rn (lt_G o L) mm_Road_film 80 lv (.ref 21 :: st) (sx pl kp I A) P := rx_get (h := "DeltaRoad") (ci := 6) (k := 0) dq_Road_film_77 (by decide +kernel) ho (up_b (by decide)) rfl rfl (fl_r (by decide) (by decide) (by decide) (by decide))
theorem dq_Road_film_80 : decode (km_c mm_Road_film) 80 = .ok (.bipush 7, 2) := by decide +kernel
theorem sq_Road_film_80 : rn G mm_Road_film 80 lv st S P ↔ rn G mm_Road_film 82 lv (.int (nI 7) :: st) S P := rn_s dq_Road_film_80 rfl rfl rfl
theorem dq_Road_film_82 : decode (km_c mm_Road_film) 82 = .ok (.iload_n 1, 1) := by decide +kernel
theorem sq_Road_film_82 : rn G mm_Road_film 82 [a0, some (.int x), a2, a3, a4, a5, a6, a7] st S P ↔ rn G mm_Road_film 83 [a0, some (.int x), a2, a3, a4, a5, a6, a7] (.int x :: st) S P := rn_s dq_Road_film_82 rfl rfl rfl
theorem dq_Road_film_83 : decode (km_c mm_Road_film) 83 = .ok (.imul, 1) := by decide +kernel
theorem sq_Road_film_83 : rn G mm_Road_film 83 lv (.int x2 :: .int x :: st) S P ↔ rn G mm_Road_film 84 lv (.int (x * x2) :: st) S P := rn_s dq_Road_film_83 rfl rfl rfl
theorem dq_Road_film_84 : decode (km_c mm_Road_film) 84 = .ok (.iload 7, 2) := by decide +kernel
theorem sq_Road_film_84 : rn G mm_Road_film 84 [a0, a1, a2, a3, a4, a5, a6, some (.int x)] st S P ↔ rn G mm_Road_film 86 [a0, a1, a2, a3, a4, a5, a6, some (.int x)] (.int x :: st) S P := rn_s dq_Road_film_84 rfl rfl rfl
theorem dq_Road_film_86 : decode (km_c mm_Road_film) 86 = .ok (.iadd, 1) := by decide +kernel
theorem sq_Road_film_86 : rn G mm_Road_film 86 lv (.int x2 :: .int x :: st) S P ↔ rn G mm_Road_film 87 lv (.int (x + x2) :: st) S P := rn_s dq_Road_film_86 rfl rfl rfl
theorem dq_Road_film_87 : decode (km_c mm_Road_film) 87 = .ok (.iaload, 1) := by decide +kernel
theorem sq_Road_film_87 (ho : sx_o o pl kp) (hk : ak L a = 0) (hu : sx_up pl kp a = true ∨ 1000 ≤ a) (hc : c < ln L a) (hn : ln L a < 2 ^ 31) : rn (lt_G o L) mm_Road_film 87 lv (.int (nI c) :: .ref a :: st) (sx pl kp I A) P ↔ rn (lt_G o L) mm_Road_film 88 lv (.int (A a c) :: st) (sx pl kp I A) P := rx_ild dq_Road_film_87 ho hk hu hc hn
theorem dq_Road_film_88 : decode (km_c mm_Road_film) 88 = .ok (.invokevirtual 304, 3) := by decide +kernel
theorem sq_Road_film_88_26 {x1 : Int32} {x2 : Int32} {x3 : Int32} {v : Option Value} {S2 : ks_S} (hc : ev (lt_G o L) mm_Sheets_put [.ref 26, .int x1, .int x2, .int x3] (sx pl kp I A) v S2) (ho : sx_o o pl kp) (hst : kx_cat st ≤ 8) : rn (lt_G o L) mm_Road_film 88 lv (.int x3 :: .int x2 :: .int x1 :: .ref 26 :: st) (sx pl kp I A) P ↔ rn (lt_G o L) mm_Road_film 91 lv (v.toList ++ st) S2 P := rn_cv (k := 0) (host := "") (E' := mm_Sheets_put) dq_Road_film_88 rfl (ok_v rfl (by decide) (by decide) (Nat.le_add_left _ _) hst (Nat.le_of_ble_eq_true rfl) (Or.inr (rc_v ho (up_b (by decide)) rfl))) rfl rfl hc
theorem dq_Road_film_91 : decode (km_c mm_Road_film) 91 = .ok (.iinc 7 1, 3) := by decide +kernel
theorem sq_Road_film_91n : rn G mm_Road_film 91 [a0, a1, a2, a3, a4, a5, none, some (.int x)] st S P ↔ rn G mm_Road_film 94 [a0, a1, a2, a3, a4, a5, none, some (.int (x + nI 1))] st S P := rn_s dq_Road_film_91 rfl rfl rfl
theorem sq_Road_film_91i : rn G mm_Road_film 91 [a0, a1, a2, a3, a4, a5, some (.int x2), some (.int x)] st S P ↔ rn G mm_Road_film 94 [a0, a1, a2, a3, a4, a5, some (.int x2), some (.int (x + nI 1))] st S P := rn_s dq_Road_film_91 rfl rfl rfl
theorem sq_Road_film_91r : rn G mm_Road_film 91 [a0, a1, a2, a3, a4, a5, some (.ref z2), some (.int x)] st S P ↔ rn G mm_Road_film 94 [a0, a1, a2, a3, a4, a5, some (.ref z2), some (.int (x + nI 1))] st S P := rn_s dq_Road_film_91 rfl rfl rfl
theorem dq_Road_film_94 : decode (km_c mm_Road_film) 94 = .ok (.goto (-36), 3) := by decide +kernel
theorem sq_Road_film_94 : rn G mm_Road_film 94 lv st S P ↔ rn G mm_Road_film 58 lv st S P := rn_s dq_Road_film_94 rfl rfl rfl
theorem dq_Road_film_97 : decode (km_c mm_Road_film) 97 = .ok (.bipush 7, 2) := by decide +kernel
theorem sq_Road_film_97 : rn G mm_Road_film 97 lv st S P ↔ rn G mm_Road_film 99 lv (.int (nI 7) :: st) S P := rn_s dq_Road_film_97 rfl rfl rfl
theorem dq_Road_film_99 : decode (km_c mm_Road_film) 99 = .ok (.ireturn, 1) := by decide +kernel
theorem sq_Road_film_99 : rn G mm_Road_film 99 lv [.int x] S P ↔ P (some (.int x)) S := rn_ir dq_Road_film_99 rfl
theorem dq_Model_init_0 : decode (km_c mm_Model_init) 0 = .ok (.aload_n 0, 1) := by decide +kernel
theorem sq_Model_init_0 : rn G mm_Model_init 0 [some (.ref z), a1] st S P ↔ rn G mm_Model_init 1 [some (.ref z), a1] (.ref z :: st) S P := rn_s dq_Model_init_0 rfl rfl rfl
theorem dq_Model_init_1 : decode (km_c mm_Model_init) 1 = .ok (.invokespecial 1, 3) := by decide +kernel
theorem dq_Model_init_4 : decode (km_c mm_Model_init) 4 = .ok (.aload_n 0, 1) := by decide +kernel
theorem sq_Model_init_4 : rn G mm_Model_init 4 [some (.ref z), a1] st S P ↔ rn G mm_Model_init 5 [some (.ref z), a1] (.ref z :: st) S P := rn_s dq_Model_init_4 rfl rfl rfl
theorem dq_Model_init_5 : decode (km_c mm_Model_init) 5 = .ok (.sipush 245, 3) := by decide +kernel
theorem sq_Model_init_5 : rn G mm_Model_init 5 lv st S P ↔ rn G mm_Model_init 8 lv (.int (nI 245) :: st) S P := rn_s dq_Model_init_5 rfl rfl rfl
theorem dq_Model_init_8 : decode (km_c mm_Model_init) 8 = .ok (.newarray .int, 2) := by decide +kernel
theorem dq_Model_init_10 : decode (km_c mm_Model_init) 10 = .ok (.putfield 7, 3) := by decide +kernel
theorem dq_Model_init_13 : decode (km_c mm_Model_init) 13 = .ok (.aload_n 0, 1) := by decide +kernel
theorem sq_Model_init_13 : rn G mm_Model_init 13 [some (.ref z), a1] st S P ↔ rn G mm_Model_init 14 [some (.ref z), a1] (.ref z :: st) S P := rn_s dq_Model_init_13 rfl rfl rfl
theorem dq_Model_init_14 : decode (km_c mm_Model_init) 14 = .ok (.bipush 6, 2) := by decide +kernel
theorem sq_Model_init_14 : rn G mm_Model_init 14 lv st S P ↔ rn G mm_Model_init 16 lv (.int (nI 6) :: st) S P := rn_s dq_Model_init_14 rfl rfl rfl
theorem dq_Model_init_16 : decode (km_c mm_Model_init) 16 = .ok (.newarray .int, 2) := by decide +kernel
theorem dq_Model_init_18 : decode (km_c mm_Model_init) 18 = .ok (.putfield 13, 3) := by decide +kernel
theorem dq_Model_init_21 : decode (km_c mm_Model_init) 21 = .ok (.aload_n 0, 1) := by decide +kernel
theorem sq_Model_init_21 : rn G mm_Model_init 21 [some (.ref z), a1] st S P ↔ rn G mm_Model_init 22 [some (.ref z), a1] (.ref z :: st) S P := rn_s dq_Model_init_21 rfl rfl rfl
theorem dq_Model_init_22 : decode (km_c mm_Model_init) 22 = .ok (.bipush 6, 2) := by decide +kernel
theorem sq_Model_init_22 : rn G mm_Model_init 22 lv st S P ↔ rn G mm_Model_init 24 lv (.int (nI 6) :: st) S P := rn_s dq_Model_init_22 rfl rfl rfl
theorem dq_Model_init_24 : decode (km_c mm_Model_init) 24 = .ok (.newarray .int, 2) := by decide +kernel
theorem dq_Model_init_26 : decode (km_c mm_Model_init) 26 = .ok (.putfield 16, 3) := by decide +kernel
theorem dq_Model_init_29 : decode (km_c mm_Model_init) 29 = .ok (.aload_n 0, 1) := by decide +kernel
theorem sq_Model_init_29 : rn G mm_Model_init 29 [some (.ref z), a1] st S P ↔ rn G mm_Model_init 30 [some (.ref z), a1] (.ref z :: st) S P := rn_s dq_Model_init_29 rfl rfl rfl
theorem dq_Model_init_30 : decode (km_c mm_Model_init) 30 = .ok (.bipush 48, 2) := by decide +kernel
theorem sq_Model_init_30 : rn G mm_Model_init 30 lv st S P ↔ rn G mm_Model_init 32 lv (.int (nI 48) :: st) S P := rn_s dq_Model_init_30 rfl rfl rfl
theorem dq_Model_init_32 : decode (km_c mm_Model_init) 32 = .ok (.putfield 19, 3) := by decide +kernel
theorem sq_Model_init_32_45 (ho : sx_o o pl kp) : rn (lt_G o L) mm_Model_init 32 lv (.int x :: .ref 45 :: st) (sx pl kp I A) P ↔ rn (lt_G o L) mm_Model_init 35 lv st (sx pl kp (u2 I 45 6 x) A) P := rx_put (h := "") (ci := 10) (k := 6) dq_Model_init_32 (by decide +kernel) ho (up_b (by decide)) rfl rfl (by decide) (by decide)
theorem dq_Model_init_35 : decode (km_c mm_Model_init) 35 = .ok (.aload_n 0, 1) := by decide +kernel
theorem sq_Model_init_35 : rn G mm_Model_init 35 [some (.ref z), a1] st S P ↔ rn G mm_Model_init 36 [some (.ref z), a1] (.ref z :: st) S P := rn_s dq_Model_init_35 rfl rfl rfl
theorem dq_Model_init_36 : decode (km_c mm_Model_init) 36 = .ok (.bipush 60, 2) := by decide +kernel
theorem sq_Model_init_36 : rn G mm_Model_init 36 lv st S P ↔ rn G mm_Model_init 38 lv (.int (nI 60) :: st) S P := rn_s dq_Model_init_36 rfl rfl rfl
theorem dq_Model_init_38 : decode (km_c mm_Model_init) 38 = .ok (.newarray .int, 2) := by decide +kernel
theorem dq_Model_init_40 : decode (km_c mm_Model_init) 40 = .ok (.putfield 23, 3) := by decide +kernel
theorem dq_Model_init_43 : decode (km_c mm_Model_init) 43 = .ok (.aload_n 0, 1) := by decide +kernel
theorem sq_Model_init_43 : rn G mm_Model_init 43 [some (.ref z), a1] st S P ↔ rn G mm_Model_init 44 [some (.ref z), a1] (.ref z :: st) S P := rn_s dq_Model_init_43 rfl rfl rfl
theorem dq_Model_init_44 : decode (km_c mm_Model_init) 44 = .ok (.bipush 41, 2) := by decide +kernel
theorem sq_Model_init_44 : rn G mm_Model_init 44 lv st S P ↔ rn G mm_Model_init 46 lv (.int (nI 41) :: st) S P := rn_s dq_Model_init_44 rfl rfl rfl
theorem dq_Model_init_46 : decode (km_c mm_Model_init) 46 = .ok (.newarray .int, 2) := by decide +kernel
theorem dq_Model_init_48 : decode (km_c mm_Model_init) 48 = .ok (.putfield 26, 3) := by decide +kernel
theorem dq_Model_init_51 : decode (km_c mm_Model_init) 51 = .ok (.aload_n 0, 1) := by decide +kernel
theorem sq_Model_init_51 : rn G mm_Model_init 51 [some (.ref z), a1] st S P ↔ rn G mm_Model_init 52 [some (.ref z), a1] (.ref z :: st) S P := rn_s dq_Model_init_51 rfl rfl rfl
theorem dq_Model_init_52 : decode (km_c mm_Model_init) 52 = .ok (.iconst 1, 1) := by decide +kernel
theorem sq_Model_init_52 : rn G mm_Model_init 52 lv st S P ↔ rn G mm_Model_init 53 lv (.int (nI 1) :: st) S P := rn_s dq_Model_init_52 rfl rfl rfl
theorem dq_Model_init_53 : decode (km_c mm_Model_init) 53 = .ok (.putfield 29, 3) := by decide +kernel
theorem sq_Model_init_53_45 (ho : sx_o o pl kp) : rn (lt_G o L) mm_Model_init 53 lv (.int x :: .ref 45 :: st) (sx pl kp I A) P ↔ rn (lt_G o L) mm_Model_init 56 lv st (sx pl kp (u2 I 45 10 x) A) P := rx_put (h := "") (ci := 10) (k := 10) dq_Model_init_53 (by decide +kernel) ho (up_b (by decide)) rfl rfl (by decide) (by decide)
theorem dq_Model_init_56 : decode (km_c mm_Model_init) 56 = .ok (.aload_n 0, 1) := by decide +kernel
theorem sq_Model_init_56 : rn G mm_Model_init 56 [some (.ref z), a1] st S P ↔ rn G mm_Model_init 57 [some (.ref z), a1] (.ref z :: st) S P := rn_s dq_Model_init_56 rfl rfl rfl
theorem dq_Model_init_57 : decode (km_c mm_Model_init) 57 = .ok (.bipush 49, 2) := by decide +kernel
theorem sq_Model_init_57 : rn G mm_Model_init 57 lv st S P ↔ rn G mm_Model_init 59 lv (.int (nI 49) :: st) S P := rn_s dq_Model_init_57 rfl rfl rfl
theorem dq_Model_init_59 : decode (km_c mm_Model_init) 59 = .ok (.newarray .int, 2) := by decide +kernel
theorem dq_Model_init_61 : decode (km_c mm_Model_init) 61 = .ok (.putfield 32, 3) := by decide +kernel
theorem dq_Model_init_64 : decode (km_c mm_Model_init) 64 = .ok (.aload_n 0, 1) := by decide +kernel
theorem sq_Model_init_64 : rn G mm_Model_init 64 [some (.ref z), a1] st S P ↔ rn G mm_Model_init 65 [some (.ref z), a1] (.ref z :: st) S P := rn_s dq_Model_init_64 rfl rfl rfl
theorem dq_Model_init_65 : decode (km_c mm_Model_init) 65 = .ok (.bipush 49, 2) := by decide +kernel
theorem sq_Model_init_65 : rn G mm_Model_init 65 lv st S P ↔ rn G mm_Model_init 67 lv (.int (nI 49) :: st) S P := rn_s dq_Model_init_65 rfl rfl rfl
theorem dq_Model_init_67 : decode (km_c mm_Model_init) 67 = .ok (.newarray .int, 2) := by decide +kernel
theorem dq_Model_init_69 : decode (km_c mm_Model_init) 69 = .ok (.putfield 35, 3) := by decide +kernel
theorem dq_Model_init_72 : decode (km_c mm_Model_init) 72 = .ok (.aload_n 0, 1) := by decide +kernel
theorem sq_Model_init_72 : rn G mm_Model_init 72 [some (.ref z), a1] st S P ↔ rn G mm_Model_init 73 [some (.ref z), a1] (.ref z :: st) S P := rn_s dq_Model_init_72 rfl rfl rfl
theorem dq_Model_init_73 : decode (km_c mm_Model_init) 73 = .ok (.bipush 49, 2) := by decide +kernel
theorem sq_Model_init_73 : rn G mm_Model_init 73 lv st S P ↔ rn G mm_Model_init 75 lv (.int (nI 49) :: st) S P := rn_s dq_Model_init_73 rfl rfl rfl
theorem dq_Model_init_75 : decode (km_c mm_Model_init) 75 = .ok (.newarray .int, 2) := by decide +kernel
theorem dq_Model_init_77 : decode (km_c mm_Model_init) 77 = .ok (.putfield 38, 3) := by decide +kernel
theorem dq_Model_init_80 : decode (km_c mm_Model_init) 80 = .ok (.aload_n 0, 1) := by decide +kernel
theorem sq_Model_init_80 : rn G mm_Model_init 80 [some (.ref z), a1] st S P ↔ rn G mm_Model_init 81 [some (.ref z), a1] (.ref z :: st) S P := rn_s dq_Model_init_80 rfl rfl rfl
theorem dq_Model_init_81 : decode (km_c mm_Model_init) 81 = .ok (.sipush 140, 3) := by decide +kernel
theorem sq_Model_init_81 : rn G mm_Model_init 81 lv st S P ↔ rn G mm_Model_init 84 lv (.int (nI 140) :: st) S P := rn_s dq_Model_init_81 rfl rfl rfl
theorem dq_Model_init_84 : decode (km_c mm_Model_init) 84 = .ok (.newarray .int, 2) := by decide +kernel
theorem dq_Model_init_86 : decode (km_c mm_Model_init) 86 = .ok (.putfield 41, 3) := by decide +kernel
theorem dq_Model_init_89 : decode (km_c mm_Model_init) 89 = .ok (.aload_n 0, 1) := by decide +kernel
theorem sq_Model_init_89 : rn G mm_Model_init 89 [some (.ref z), a1] st S P ↔ rn G mm_Model_init 90 [some (.ref z), a1] (.ref z :: st) S P := rn_s dq_Model_init_89 rfl rfl rfl
theorem dq_Model_init_90 : decode (km_c mm_Model_init) 90 = .ok (.bipush 49, 2) := by decide +kernel
theorem sq_Model_init_90 : rn G mm_Model_init 90 lv st S P ↔ rn G mm_Model_init 92 lv (.int (nI 49) :: st) S P := rn_s dq_Model_init_90 rfl rfl rfl
theorem dq_Model_init_92 : decode (km_c mm_Model_init) 92 = .ok (.newarray .int, 2) := by decide +kernel
theorem dq_Model_init_94 : decode (km_c mm_Model_init) 94 = .ok (.putfield 44, 3) := by decide +kernel
theorem dq_Model_init_97 : decode (km_c mm_Model_init) 97 = .ok (.aload_n 0, 1) := by decide +kernel
theorem sq_Model_init_97 : rn G mm_Model_init 97 [some (.ref z), a1] st S P ↔ rn G mm_Model_init 98 [some (.ref z), a1] (.ref z :: st) S P := rn_s dq_Model_init_97 rfl rfl rfl
theorem dq_Model_init_98 : decode (km_c mm_Model_init) 98 = .ok (.bipush 49, 2) := by decide +kernel
theorem sq_Model_init_98 : rn G mm_Model_init 98 lv st S P ↔ rn G mm_Model_init 100 lv (.int (nI 49) :: st) S P := rn_s dq_Model_init_98 rfl rfl rfl
theorem dq_Model_init_100 : decode (km_c mm_Model_init) 100 = .ok (.newarray .int, 2) := by decide +kernel
theorem dq_Model_init_102 : decode (km_c mm_Model_init) 102 = .ok (.putfield 47, 3) := by decide +kernel
theorem dq_Model_init_105 : decode (km_c mm_Model_init) 105 = .ok (.aload_n 0, 1) := by decide +kernel
theorem sq_Model_init_105 : rn G mm_Model_init 105 [some (.ref z), a1] st S P ↔ rn G mm_Model_init 106 [some (.ref z), a1] (.ref z :: st) S P := rn_s dq_Model_init_105 rfl rfl rfl
theorem dq_Model_init_106 : decode (km_c mm_Model_init) 106 = .ok (.bipush 49, 2) := by decide +kernel
theorem sq_Model_init_106 : rn G mm_Model_init 106 lv st S P ↔ rn G mm_Model_init 108 lv (.int (nI 49) :: st) S P := rn_s dq_Model_init_106 rfl rfl rfl
theorem dq_Model_init_108 : decode (km_c mm_Model_init) 108 = .ok (.newarray .int, 2) := by decide +kernel
theorem dq_Model_init_110 : decode (km_c mm_Model_init) 110 = .ok (.putfield 50, 3) := by decide +kernel
theorem dq_Model_init_113 : decode (km_c mm_Model_init) 113 = .ok (.aload_n 0, 1) := by decide +kernel
theorem sq_Model_init_113 : rn G mm_Model_init 113 [some (.ref z), a1] st S P ↔ rn G mm_Model_init 114 [some (.ref z), a1] (.ref z :: st) S P := rn_s dq_Model_init_113 rfl rfl rfl
theorem dq_Model_init_114 : decode (km_c mm_Model_init) 114 = .ok (.sipush 3136, 3) := by decide +kernel
theorem sq_Model_init_114 : rn G mm_Model_init 114 lv st S P ↔ rn G mm_Model_init 117 lv (.int (nI 3136) :: st) S P := rn_s dq_Model_init_114 rfl rfl rfl
theorem dq_Model_init_117 : decode (km_c mm_Model_init) 117 = .ok (.newarray .int, 2) := by decide +kernel
theorem dq_Model_init_119 : decode (km_c mm_Model_init) 119 = .ok (.putfield 53, 3) := by decide +kernel
theorem dq_Model_init_122 : decode (km_c mm_Model_init) 122 = .ok (.aload_n 0, 1) := by decide +kernel
theorem sq_Model_init_122 : rn G mm_Model_init 122 [some (.ref z), a1] st S P ↔ rn G mm_Model_init 123 [some (.ref z), a1] (.ref z :: st) S P := rn_s dq_Model_init_122 rfl rfl rfl
theorem dq_Model_init_123 : decode (km_c mm_Model_init) 123 = .ok (.bipush 64, 2) := by decide +kernel
theorem sq_Model_init_123 : rn G mm_Model_init 123 lv st S P ↔ rn G mm_Model_init 125 lv (.int (nI 64) :: st) S P := rn_s dq_Model_init_123 rfl rfl rfl
theorem dq_Model_init_125 : decode (km_c mm_Model_init) 125 = .ok (.newarray .int, 2) := by decide +kernel
theorem dq_Model_init_127 : decode (km_c mm_Model_init) 127 = .ok (.putfield 56, 3) := by decide +kernel
theorem dq_Model_init_130 : decode (km_c mm_Model_init) 130 = .ok (.aload_n 0, 1) := by decide +kernel
theorem sq_Model_init_130 : rn G mm_Model_init 130 [some (.ref z), a1] st S P ↔ rn G mm_Model_init 131 [some (.ref z), a1] (.ref z :: st) S P := rn_s dq_Model_init_130 rfl rfl rfl
theorem dq_Model_init_131 : decode (km_c mm_Model_init) 131 = .ok (.sipush 358, 3) := by decide +kernel
theorem sq_Model_init_131 : rn G mm_Model_init 131 lv st S P ↔ rn G mm_Model_init 134 lv (.int (nI 358) :: st) S P := rn_s dq_Model_init_131 rfl rfl rfl
theorem dq_Model_init_134 : decode (km_c mm_Model_init) 134 = .ok (.newarray .int, 2) := by decide +kernel
theorem dq_Model_init_136 : decode (km_c mm_Model_init) 136 = .ok (.putfield 59, 3) := by decide +kernel
theorem dq_Model_init_139 : decode (km_c mm_Model_init) 139 = .ok (.aload_n 0, 1) := by decide +kernel
theorem sq_Model_init_139 : rn G mm_Model_init 139 [some (.ref z), a1] st S P ↔ rn G mm_Model_init 140 [some (.ref z), a1] (.ref z :: st) S P := rn_s dq_Model_init_139 rfl rfl rfl
theorem dq_Model_init_140 : decode (km_c mm_Model_init) 140 = .ok (.bipush 6, 2) := by decide +kernel
theorem sq_Model_init_140 : rn G mm_Model_init 140 lv st S P ↔ rn G mm_Model_init 142 lv (.int (nI 6) :: st) S P := rn_s dq_Model_init_140 rfl rfl rfl
theorem dq_Model_init_142 : decode (km_c mm_Model_init) 142 = .ok (.newarray .int, 2) := by decide +kernel
theorem dq_Model_init_144 : decode (km_c mm_Model_init) 144 = .ok (.putfield 62, 3) := by decide +kernel
theorem dq_Model_init_147 : decode (km_c mm_Model_init) 147 = .ok (.aload_n 0, 1) := by decide +kernel
theorem sq_Model_init_147 : rn G mm_Model_init 147 [some (.ref z), a1] st S P ↔ rn G mm_Model_init 148 [some (.ref z), a1] (.ref z :: st) S P := rn_s dq_Model_init_147 rfl rfl rfl
theorem dq_Model_init_148 : decode (km_c mm_Model_init) 148 = .ok (.iconst 4, 1) := by decide +kernel
theorem sq_Model_init_148 : rn G mm_Model_init 148 lv st S P ↔ rn G mm_Model_init 149 lv (.int (nI 4) :: st) S P := rn_s dq_Model_init_148 rfl rfl rfl
theorem dq_Model_init_149 : decode (km_c mm_Model_init) 149 = .ok (.newarray .int, 2) := by decide +kernel
theorem dq_Model_init_151 : decode (km_c mm_Model_init) 151 = .ok (.putfield 65, 3) := by decide +kernel
theorem dq_Model_init_154 : decode (km_c mm_Model_init) 154 = .ok (.aload_n 0, 1) := by decide +kernel
theorem sq_Model_init_154 : rn G mm_Model_init 154 [some (.ref z), a1] st S P ↔ rn G mm_Model_init 155 [some (.ref z), a1] (.ref z :: st) S P := rn_s dq_Model_init_154 rfl rfl rfl
theorem dq_Model_init_155 : decode (km_c mm_Model_init) 155 = .ok (.iconst 4, 1) := by decide +kernel
theorem sq_Model_init_155 : rn G mm_Model_init 155 lv st S P ↔ rn G mm_Model_init 156 lv (.int (nI 4) :: st) S P := rn_s dq_Model_init_155 rfl rfl rfl
theorem dq_Model_init_156 : decode (km_c mm_Model_init) 156 = .ok (.newarray .int, 2) := by decide +kernel
theorem dq_Model_init_158 : decode (km_c mm_Model_init) 158 = .ok (.putfield 68, 3) := by decide +kernel
theorem dq_Model_init_161 : decode (km_c mm_Model_init) 161 = .ok (.aload_n 0, 1) := by decide +kernel
theorem sq_Model_init_161 : rn G mm_Model_init 161 [some (.ref z), a1] st S P ↔ rn G mm_Model_init 162 [some (.ref z), a1] (.ref z :: st) S P := rn_s dq_Model_init_161 rfl rfl rfl
theorem dq_Model_init_162 : decode (km_c mm_Model_init) 162 = .ok (.bipush 96, 2) := by decide +kernel
theorem sq_Model_init_162 : rn G mm_Model_init 162 lv st S P ↔ rn G mm_Model_init 164 lv (.int (nI 96) :: st) S P := rn_s dq_Model_init_162 rfl rfl rfl
theorem dq_Model_init_164 : decode (km_c mm_Model_init) 164 = .ok (.newarray .int, 2) := by decide +kernel
theorem dq_Model_init_166 : decode (km_c mm_Model_init) 166 = .ok (.putfield 71, 3) := by decide +kernel
theorem dq_Model_init_169 : decode (km_c mm_Model_init) 169 = .ok (.iconst 0, 1) := by decide +kernel
theorem sq_Model_init_169 : rn G mm_Model_init 169 lv st S P ↔ rn G mm_Model_init 170 lv (.int (nI 0) :: st) S P := rn_s dq_Model_init_169 rfl rfl rfl
theorem dq_Model_init_170 : decode (km_c mm_Model_init) 170 = .ok (.istore_n 1, 1) := by decide +kernel
theorem sq_Model_init_170n : rn G mm_Model_init 170 [none, a1] (.int x :: st) S P ↔ rn G mm_Model_init 171 [none, some (.int x)] st S P := rn_s dq_Model_init_170 rfl rfl rfl
theorem sq_Model_init_170i : rn G mm_Model_init 170 [some (.int x2), a1] (.int x :: st) S P ↔ rn G mm_Model_init 171 [some (.int x2), some (.int x)] st S P := rn_s dq_Model_init_170 rfl rfl rfl
theorem sq_Model_init_170r : rn G mm_Model_init 170 [some (.ref z2), a1] (.int x :: st) S P ↔ rn G mm_Model_init 171 [some (.ref z2), some (.int x)] st S P := rn_s dq_Model_init_170 rfl rfl rfl
theorem dq_Model_init_171 : decode (km_c mm_Model_init) 171 = .ok (.iload_n 1, 1) := by decide +kernel
theorem sq_Model_init_171 : rn G mm_Model_init 171 [a0, some (.int x)] st S P ↔ rn G mm_Model_init 172 [a0, some (.int x)] (.int x :: st) S P := rn_s dq_Model_init_171 rfl rfl rfl
theorem dq_Model_init_172 : decode (km_c mm_Model_init) 172 = .ok (.iconst 4, 1) := by decide +kernel
theorem sq_Model_init_172 : rn G mm_Model_init 172 lv st S P ↔ rn G mm_Model_init 173 lv (.int (nI 4) :: st) S P := rn_s dq_Model_init_172 rfl rfl rfl
theorem dq_Model_init_173 : decode (km_c mm_Model_init) 173 = .ok (.if_icmp .ge 16, 3) := by decide +kernel
theorem sq_Model_init_173 : rn G mm_Model_init 173 lv (.int x2 :: .int x :: st) S P ↔ ((x2 ≤ x → rn G mm_Model_init 189 lv st S P) ∧ (¬ (x2 ≤ x) → rn G mm_Model_init 176 lv st S P)) := rn_b (off := 16) dq_Model_init_173 rfl rfl rfl rfl
theorem dq_Model_init_176 : decode (km_c mm_Model_init) 176 = .ok (.aload_n 0, 1) := by decide +kernel
theorem sq_Model_init_176 : rn G mm_Model_init 176 [some (.ref z), a1] st S P ↔ rn G mm_Model_init 177 [some (.ref z), a1] (.ref z :: st) S P := rn_s dq_Model_init_176 rfl rfl rfl
theorem dq_Model_init_177 : decode (km_c mm_Model_init) 177 = .ok (.getfield 65, 3) := by decide +kernel
theorem sq_Model_init_177_45 (ho : sx_o o pl kp) : rn (lt_G o L) mm_Model_init 177 lv (.ref 45 :: st) (sx pl kp I A) P ↔ rn (lt_G o L) mm_Model_init 180 lv (.ref 62 :: st) (sx pl kp I A) P := rx_get (h := "") (ci := 10) (k := 27) dq_Model_init_177 (by decide +kernel) ho (up_b (by decide)) rfl rfl (fl_r (by decide) (by decide) (by decide) (by decide))
theorem dq_Model_init_180 : decode (km_c mm_Model_init) 180 = .ok (.iload_n 1, 1) := by decide +kernel
theorem sq_Model_init_180 : rn G mm_Model_init 180 [a0, some (.int x)] st S P ↔ rn G mm_Model_init 181 [a0, some (.int x)] (.int x :: st) S P := rn_s dq_Model_init_180 rfl rfl rfl
theorem dq_Model_init_181 : decode (km_c mm_Model_init) 181 = .ok (.iconst (-1), 1) := by decide +kernel
theorem sq_Model_init_181 : rn G mm_Model_init 181 lv st S P ↔ rn G mm_Model_init 182 lv (.int ((-1)) :: st) S P := rn_s dq_Model_init_181 rfl rfl rfl
theorem dq_Model_init_182 : decode (km_c mm_Model_init) 182 = .ok (.iastore, 1) := by decide +kernel
theorem sq_Model_init_182 (ho : sx_o o pl kp) (hk : ak L a = 0) (hu : sx_up pl kp a = true) (hc : c < ln L a) (hn : ln L a < 2 ^ 31) : rn (lt_G o L) mm_Model_init 182 lv (.int x :: .int (nI c) :: .ref a :: st) (sx pl kp I A) P ↔ rn (lt_G o L) mm_Model_init 183 lv st (sx pl kp I (u2 A a c x)) P := rx_ist dq_Model_init_182 ho hk hu hc hn
theorem dq_Model_init_183 : decode (km_c mm_Model_init) 183 = .ok (.iinc 1 1, 3) := by decide +kernel
theorem sq_Model_init_183n : rn G mm_Model_init 183 [none, some (.int x)] st S P ↔ rn G mm_Model_init 186 [none, some (.int (x + nI 1))] st S P := rn_s dq_Model_init_183 rfl rfl rfl
theorem sq_Model_init_183i : rn G mm_Model_init 183 [some (.int x2), some (.int x)] st S P ↔ rn G mm_Model_init 186 [some (.int x2), some (.int (x + nI 1))] st S P := rn_s dq_Model_init_183 rfl rfl rfl
theorem sq_Model_init_183r : rn G mm_Model_init 183 [some (.ref z2), some (.int x)] st S P ↔ rn G mm_Model_init 186 [some (.ref z2), some (.int (x + nI 1))] st S P := rn_s dq_Model_init_183 rfl rfl rfl
theorem dq_Model_init_186 : decode (km_c mm_Model_init) 186 = .ok (.goto (-15), 3) := by decide +kernel
theorem sq_Model_init_186 : rn G mm_Model_init 186 lv st S P ↔ rn G mm_Model_init 171 lv st S P := rn_s dq_Model_init_186 rfl rfl rfl
theorem dq_Model_init_189 : decode (km_c mm_Model_init) 189 = .ok (.iconst 0, 1) := by decide +kernel
theorem sq_Model_init_189 : rn G mm_Model_init 189 lv st S P ↔ rn G mm_Model_init 190 lv (.int (nI 0) :: st) S P := rn_s dq_Model_init_189 rfl rfl rfl
theorem dq_Model_init_190 : decode (km_c mm_Model_init) 190 = .ok (.istore_n 1, 1) := by decide +kernel
theorem sq_Model_init_190n : rn G mm_Model_init 190 [none, a1] (.int x :: st) S P ↔ rn G mm_Model_init 191 [none, some (.int x)] st S P := rn_s dq_Model_init_190 rfl rfl rfl
theorem sq_Model_init_190i : rn G mm_Model_init 190 [some (.int x2), a1] (.int x :: st) S P ↔ rn G mm_Model_init 191 [some (.int x2), some (.int x)] st S P := rn_s dq_Model_init_190 rfl rfl rfl
theorem sq_Model_init_190r : rn G mm_Model_init 190 [some (.ref z2), a1] (.int x :: st) S P ↔ rn G mm_Model_init 191 [some (.ref z2), some (.int x)] st S P := rn_s dq_Model_init_190 rfl rfl rfl
theorem dq_Model_init_191 : decode (km_c mm_Model_init) 191 = .ok (.iload_n 1, 1) := by decide +kernel
theorem sq_Model_init_191 : rn G mm_Model_init 191 [a0, some (.int x)] st S P ↔ rn G mm_Model_init 192 [a0, some (.int x)] (.int x :: st) S P := rn_s dq_Model_init_191 rfl rfl rfl
theorem dq_Model_init_192 : decode (km_c mm_Model_init) 192 = .ok (.bipush 49, 2) := by decide +kernel
theorem sq_Model_init_192 : rn G mm_Model_init 192 lv st S P ↔ rn G mm_Model_init 194 lv (.int (nI 49) :: st) S P := rn_s dq_Model_init_192 rfl rfl rfl
theorem dq_Model_init_194 : decode (km_c mm_Model_init) 194 = .ok (.if_icmp .ge 16, 3) := by decide +kernel
theorem sq_Model_init_194 : rn G mm_Model_init 194 lv (.int x2 :: .int x :: st) S P ↔ ((x2 ≤ x → rn G mm_Model_init 210 lv st S P) ∧ (¬ (x2 ≤ x) → rn G mm_Model_init 197 lv st S P)) := rn_b (off := 16) dq_Model_init_194 rfl rfl rfl rfl
theorem dq_Model_init_197 : decode (km_c mm_Model_init) 197 = .ok (.aload_n 0, 1) := by decide +kernel
theorem sq_Model_init_197 : rn G mm_Model_init 197 [some (.ref z), a1] st S P ↔ rn G mm_Model_init 198 [some (.ref z), a1] (.ref z :: st) S P := rn_s dq_Model_init_197 rfl rfl rfl
theorem dq_Model_init_198 : decode (km_c mm_Model_init) 198 = .ok (.getfield 7, 3) := by decide +kernel
theorem sq_Model_init_198_45 (ho : sx_o o pl kp) : rn (lt_G o L) mm_Model_init 198 lv (.ref 45 :: st) (sx pl kp I A) P ↔ rn (lt_G o L) mm_Model_init 201 lv (.ref 46 :: st) (sx pl kp I A) P := rx_get (h := "") (ci := 10) (k := 0) dq_Model_init_198 (by decide +kernel) ho (up_b (by decide)) rfl rfl (fl_r (by decide) (by decide) (by decide) (by decide))
theorem dq_Model_init_201 : decode (km_c mm_Model_init) 201 = .ok (.iload_n 1, 1) := by decide +kernel
theorem sq_Model_init_201 : rn G mm_Model_init 201 [a0, some (.int x)] st S P ↔ rn G mm_Model_init 202 [a0, some (.int x)] (.int x :: st) S P := rn_s dq_Model_init_201 rfl rfl rfl
theorem dq_Model_init_202 : decode (km_c mm_Model_init) 202 = .ok (.iconst 5, 1) := by decide +kernel
theorem sq_Model_init_202 : rn G mm_Model_init 202 lv st S P ↔ rn G mm_Model_init 203 lv (.int (nI 5) :: st) S P := rn_s dq_Model_init_202 rfl rfl rfl
theorem dq_Model_init_203 : decode (km_c mm_Model_init) 203 = .ok (.iastore, 1) := by decide +kernel
theorem sq_Model_init_203 (ho : sx_o o pl kp) (hk : ak L a = 0) (hu : sx_up pl kp a = true) (hc : c < ln L a) (hn : ln L a < 2 ^ 31) : rn (lt_G o L) mm_Model_init 203 lv (.int x :: .int (nI c) :: .ref a :: st) (sx pl kp I A) P ↔ rn (lt_G o L) mm_Model_init 204 lv st (sx pl kp I (u2 A a c x)) P := rx_ist dq_Model_init_203 ho hk hu hc hn
theorem dq_Model_init_204 : decode (km_c mm_Model_init) 204 = .ok (.iinc 1 1, 3) := by decide +kernel
theorem sq_Model_init_204n : rn G mm_Model_init 204 [none, some (.int x)] st S P ↔ rn G mm_Model_init 207 [none, some (.int (x + nI 1))] st S P := rn_s dq_Model_init_204 rfl rfl rfl
theorem sq_Model_init_204i : rn G mm_Model_init 204 [some (.int x2), some (.int x)] st S P ↔ rn G mm_Model_init 207 [some (.int x2), some (.int (x + nI 1))] st S P := rn_s dq_Model_init_204 rfl rfl rfl
theorem sq_Model_init_204r : rn G mm_Model_init 204 [some (.ref z2), some (.int x)] st S P ↔ rn G mm_Model_init 207 [some (.ref z2), some (.int (x + nI 1))] st S P := rn_s dq_Model_init_204 rfl rfl rfl
theorem dq_Model_init_207 : decode (km_c mm_Model_init) 207 = .ok (.goto (-16), 3) := by decide +kernel
theorem sq_Model_init_207 : rn G mm_Model_init 207 lv st S P ↔ rn G mm_Model_init 191 lv st S P := rn_s dq_Model_init_207 rfl rfl rfl
theorem dq_Model_init_210 : decode (km_c mm_Model_init) 210 = .ok (.return_, 1) := by decide +kernel
theorem sq_Model_init_210 : rn G mm_Model_init 210 lv [] S P ↔ P none S := rn_vr dq_Model_init_210 rfl
theorem dq_Model_make_0 : decode (km_c mm_Model_make) 0 = .ok (.iload_n 1, 1) := by decide +kernel
theorem sq_Model_make_0 : rn G mm_Model_make 0 [a0, some (.int x), a2, a3, a4] st S P ↔ rn G mm_Model_make 1 [a0, some (.int x), a2, a3, a4] (.int x :: st) S P := rn_s dq_Model_make_0 rfl rfl rfl
theorem dq_Model_make_1 : decode (km_c mm_Model_make) 1 = .ok (.invokestatic 104, 3) := by decide +kernel
theorem sq_Model_make_1 {x1 : Int32} {v : Option Value} {S2 : ks_S} (hc : ev G mm_Model_isCell [.int x1] S v S2) (hst : kx_cat st ≤ 8) : rn G mm_Model_make 1 lv (.int x1 :: st) S P ↔ rn G mm_Model_make 4 lv (v.toList ++ st) S2 P := rn_cs (k := 1) (host := "") (E' := mm_Model_isCell) dq_Model_make_1 (by decide) (by decide) rfl (ok_v rfl (by decide) (by decide) (Nat.le_add_left _ _) hst (Nat.le_of_ble_eq_true rfl) (Or.inl rfl)) rfl rfl hc
theorem dq_Model_make_4 : decode (km_c mm_Model_make) 4 = .ok (.ifCond .eq 29, 3) := by decide +kernel
theorem sq_Model_make_4 : rn G mm_Model_make 4 lv (.int x :: st) S P ↔ ((x = 0 → rn G mm_Model_make 33 lv st S P) ∧ (¬ (x = 0) → rn G mm_Model_make 7 lv st S P)) := rn_b (off := 29) dq_Model_make_4 rfl rfl rfl rfl
theorem dq_Model_make_7 : decode (km_c mm_Model_make) 7 = .ok (.iload_n 2, 1) := by decide +kernel
theorem sq_Model_make_7 : rn G mm_Model_make 7 [a0, a1, some (.int x), a3, a4] st S P ↔ rn G mm_Model_make 8 [a0, a1, some (.int x), a3, a4] (.int x :: st) S P := rn_s dq_Model_make_7 rfl rfl rfl
theorem dq_Model_make_8 : decode (km_c mm_Model_make) 8 = .ok (.i2l, 1) := by decide +kernel
theorem sq_Model_make_8 : rn G mm_Model_make 8 lv (.int x :: st) S P ↔ rn G mm_Model_make 9 lv (.long x.toInt64 :: st) S P := rn_s dq_Model_make_8 rfl rfl rfl
theorem dq_Model_make_9 : decode (km_c mm_Model_make) 9 = .ok (.lconst 0, 1) := by decide +kernel
theorem sq_Model_make_9 : rn G mm_Model_make 9 lv st S P ↔ rn G mm_Model_make 10 lv (.long (0) :: st) S P := rn_s dq_Model_make_9 rfl rfl rfl
theorem dq_Model_make_10 : decode (km_c mm_Model_make) 10 = .ok (.ldc2_w 108, 3) := by decide +kernel
theorem sq_Model_make_10 : rn G mm_Model_make 10 lv st S P ↔ rn G mm_Model_make 13 lv (.long (4) :: st) S P := rn_s dq_Model_make_10 rfl rfl rfl
theorem dq_Model_make_13 : decode (km_c mm_Model_make) 13 = .ok (.invokestatic 76, 3) := by decide +kernel
theorem sq_Model_make_13 {y1 : Int64} {y2 : Int64} {y3 : Int64} {v : Option Value} {S2 : ks_S} (hc : ev G mm_Model_in [.long y1, .long y2, .long y3] S v S2) (hst : kx_cat st ≤ 8) : rn G mm_Model_make 13 lv (.long y3 :: .long y2 :: .long y1 :: st) S P ↔ rn G mm_Model_make 16 lv (v.toList ++ st) S2 P := rn_cs (k := 1) (host := "") (E' := mm_Model_in) dq_Model_make_13 (by decide) (by decide) rfl (ok_v rfl (by decide) (by decide) (Nat.le_add_left _ _) hst (Nat.le_of_ble_eq_true rfl) (Or.inl rfl)) rfl rfl hc
theorem dq_Model_make_16 : decode (km_c mm_Model_make) 16 = .ok (.ifCond .eq 17, 3) := by decide +kernel
theorem sq_Model_make_16 : rn G mm_Model_make 16 lv (.int x :: st) S P ↔ ((x = 0 → rn G mm_Model_make 33 lv st S P) ∧ (¬ (x = 0) → rn G mm_Model_make 19 lv st S P)) := rn_b (off := 17) dq_Model_make_16 rfl rfl rfl rfl
theorem dq_Model_make_19 : decode (km_c mm_Model_make) 19 = .ok (.iload_n 3, 1) := by decide +kernel
theorem sq_Model_make_19 : rn G mm_Model_make 19 [a0, a1, a2, some (.int x), a4] st S P ↔ rn G mm_Model_make 20 [a0, a1, a2, some (.int x), a4] (.int x :: st) S P := rn_s dq_Model_make_19 rfl rfl rfl
theorem dq_Model_make_20 : decode (km_c mm_Model_make) 20 = .ok (.i2l, 1) := by decide +kernel
theorem sq_Model_make_20 : rn G mm_Model_make 20 lv (.int x :: st) S P ↔ rn G mm_Model_make 21 lv (.long x.toInt64 :: st) S P := rn_s dq_Model_make_20 rfl rfl rfl
theorem dq_Model_make_21 : decode (km_c mm_Model_make) 21 = .ok (.lconst 0, 1) := by decide +kernel
theorem sq_Model_make_21 : rn G mm_Model_make 21 lv st S P ↔ rn G mm_Model_make 22 lv (.long (0) :: st) S P := rn_s dq_Model_make_21 rfl rfl rfl
theorem dq_Model_make_22 : decode (km_c mm_Model_make) 22 = .ok (.iload_n 2, 1) := by decide +kernel
theorem sq_Model_make_22 : rn G mm_Model_make 22 [a0, a1, some (.int x), a3, a4] st S P ↔ rn G mm_Model_make 23 [a0, a1, some (.int x), a3, a4] (.int x :: st) S P := rn_s dq_Model_make_22 rfl rfl rfl
theorem dq_Model_make_23 : decode (km_c mm_Model_make) 23 = .ok (.invokestatic 110, 3) := by decide +kernel
theorem sq_Model_make_23 {x1 : Int32} {v : Option Value} {S2 : ks_S} (hc : ev G mm_Model_mostOf [.int x1] S v S2) (hst : kx_cat st ≤ 8) : rn G mm_Model_make 23 lv (.int x1 :: st) S P ↔ rn G mm_Model_make 26 lv (v.toList ++ st) S2 P := rn_cs (k := 1) (host := "") (E' := mm_Model_mostOf) dq_Model_make_23 (by decide) (by decide) rfl (ok_v rfl (by decide) (by decide) (Nat.le_add_left _ _) hst (Nat.le_of_ble_eq_true rfl) (Or.inl rfl)) rfl rfl hc
theorem dq_Model_make_26 : decode (km_c mm_Model_make) 26 = .ok (.i2l, 1) := by decide +kernel
theorem sq_Model_make_26 : rn G mm_Model_make 26 lv (.int x :: st) S P ↔ rn G mm_Model_make 27 lv (.long x.toInt64 :: st) S P := rn_s dq_Model_make_26 rfl rfl rfl
theorem dq_Model_make_27 : decode (km_c mm_Model_make) 27 = .ok (.invokestatic 76, 3) := by decide +kernel
theorem sq_Model_make_27 {y1 : Int64} {y2 : Int64} {y3 : Int64} {v : Option Value} {S2 : ks_S} (hc : ev G mm_Model_in [.long y1, .long y2, .long y3] S v S2) (hst : kx_cat st ≤ 8) : rn G mm_Model_make 27 lv (.long y3 :: .long y2 :: .long y1 :: st) S P ↔ rn G mm_Model_make 30 lv (v.toList ++ st) S2 P := rn_cs (k := 1) (host := "") (E' := mm_Model_in) dq_Model_make_27 (by decide) (by decide) rfl (ok_v rfl (by decide) (by decide) (Nat.le_add_left _ _) hst (Nat.le_of_ble_eq_true rfl) (Or.inl rfl)) rfl rfl hc
theorem dq_Model_make_30 : decode (km_c mm_Model_make) 30 = .ok (.ifCond .ne 5, 3) := by decide +kernel
theorem sq_Model_make_30 : rn G mm_Model_make 30 lv (.int x :: st) S P ↔ ((¬ x = 0 → rn G mm_Model_make 35 lv st S P) ∧ (¬ (¬ x = 0) → rn G mm_Model_make 33 lv st S P)) := rn_b (off := 5) dq_Model_make_30 rfl rfl rfl rfl
theorem dq_Model_make_33 : decode (km_c mm_Model_make) 33 = .ok (.iconst (-1), 1) := by decide +kernel
theorem sq_Model_make_33 : rn G mm_Model_make 33 lv st S P ↔ rn G mm_Model_make 34 lv (.int ((-1)) :: st) S P := rn_s dq_Model_make_33 rfl rfl rfl
theorem dq_Model_make_34 : decode (km_c mm_Model_make) 34 = .ok (.ireturn, 1) := by decide +kernel
theorem sq_Model_make_34 : rn G mm_Model_make 34 lv [.int x] S P ↔ P (some (.int x)) S := rn_ir dq_Model_make_34 rfl
theorem dq_Model_make_35 : decode (km_c mm_Model_make) 35 = .ok (.aload_n 0, 1) := by decide +kernel
theorem sq_Model_make_35 : rn G mm_Model_make 35 [some (.ref z), a1, a2, a3, a4] st S P ↔ rn G mm_Model_make 36 [some (.ref z), a1, a2, a3, a4] (.ref z :: st) S P := rn_s dq_Model_make_35 rfl rfl rfl
theorem dq_Model_make_36 : decode (km_c mm_Model_make) 36 = .ok (.getfield 7, 3) := by decide +kernel
theorem sq_Model_make_36_45 (ho : sx_o o pl kp) : rn (lt_G o L) mm_Model_make 36 lv (.ref 45 :: st) (sx pl kp I A) P ↔ rn (lt_G o L) mm_Model_make 39 lv (.ref 46 :: st) (sx pl kp I A) P := rx_get (h := "") (ci := 10) (k := 0) dq_Model_make_36 (by decide +kernel) ho (up_b (by decide)) rfl rfl (fl_r (by decide) (by decide) (by decide) (by decide))
theorem dq_Model_make_39 : decode (km_c mm_Model_make) 39 = .ok (.bipush 49, 2) := by decide +kernel
theorem sq_Model_make_39 : rn G mm_Model_make 39 lv st S P ↔ rn G mm_Model_make 41 lv (.int (nI 49) :: st) S P := rn_s dq_Model_make_39 rfl rfl rfl
theorem dq_Model_make_41 : decode (km_c mm_Model_make) 41 = .ok (.iload_n 2, 1) := by decide +kernel
theorem sq_Model_make_41 : rn G mm_Model_make 41 [a0, a1, some (.int x), a3, a4] st S P ↔ rn G mm_Model_make 42 [a0, a1, some (.int x), a3, a4] (.int x :: st) S P := rn_s dq_Model_make_41 rfl rfl rfl
theorem dq_Model_make_42 : decode (km_c mm_Model_make) 42 = .ok (.imul, 1) := by decide +kernel
theorem sq_Model_make_42 : rn G mm_Model_make 42 lv (.int x2 :: .int x :: st) S P ↔ rn G mm_Model_make 43 lv (.int (x * x2) :: st) S P := rn_s dq_Model_make_42 rfl rfl rfl
theorem dq_Model_make_43 : decode (km_c mm_Model_make) 43 = .ok (.iload_n 1, 1) := by decide +kernel
theorem sq_Model_make_43 : rn G mm_Model_make 43 [a0, some (.int x), a2, a3, a4] st S P ↔ rn G mm_Model_make 44 [a0, some (.int x), a2, a3, a4] (.int x :: st) S P := rn_s dq_Model_make_43 rfl rfl rfl
theorem dq_Model_make_44 : decode (km_c mm_Model_make) 44 = .ok (.iadd, 1) := by decide +kernel
theorem sq_Model_make_44 : rn G mm_Model_make 44 lv (.int x2 :: .int x :: st) S P ↔ rn G mm_Model_make 45 lv (.int (x + x2) :: st) S P := rn_s dq_Model_make_44 rfl rfl rfl
theorem dq_Model_make_45 : decode (km_c mm_Model_make) 45 = .ok (.iaload, 1) := by decide +kernel
theorem sq_Model_make_45 (ho : sx_o o pl kp) (hk : ak L a = 0) (hu : sx_up pl kp a = true ∨ 1000 ≤ a) (hc : c < ln L a) (hn : ln L a < 2 ^ 31) : rn (lt_G o L) mm_Model_make 45 lv (.int (nI c) :: .ref a :: st) (sx pl kp I A) P ↔ rn (lt_G o L) mm_Model_make 46 lv (.int (A a c) :: st) (sx pl kp I A) P := rx_ild dq_Model_make_45 ho hk hu hc hn
theorem dq_Model_make_46 : decode (km_c mm_Model_make) 46 = .ok (.istore 4, 2) := by decide +kernel
theorem sq_Model_make_46n : rn G mm_Model_make 46 [a0, a1, a2, none, a4] (.int x :: st) S P ↔ rn G mm_Model_make 48 [a0, a1, a2, none, some (.int x)] st S P := rn_s dq_Model_make_46 rfl rfl rfl
theorem sq_Model_make_46i : rn G mm_Model_make 46 [a0, a1, a2, some (.int x2), a4] (.int x :: st) S P ↔ rn G mm_Model_make 48 [a0, a1, a2, some (.int x2), some (.int x)] st S P := rn_s dq_Model_make_46 rfl rfl rfl
theorem sq_Model_make_46r : rn G mm_Model_make 46 [a0, a1, a2, some (.ref z2), a4] (.int x :: st) S P ↔ rn G mm_Model_make 48 [a0, a1, a2, some (.ref z2), some (.int x)] st S P := rn_s dq_Model_make_46 rfl rfl rfl
theorem dq_Model_make_48 : decode (km_c mm_Model_make) 48 = .ok (.aload_n 0, 1) := by decide +kernel
theorem sq_Model_make_48 : rn G mm_Model_make 48 [some (.ref z), a1, a2, a3, a4] st S P ↔ rn G mm_Model_make 49 [some (.ref z), a1, a2, a3, a4] (.ref z :: st) S P := rn_s dq_Model_make_48 rfl rfl rfl
theorem dq_Model_make_49 : decode (km_c mm_Model_make) 49 = .ok (.getfield 7, 3) := by decide +kernel
theorem sq_Model_make_49_45 (ho : sx_o o pl kp) : rn (lt_G o L) mm_Model_make 49 lv (.ref 45 :: st) (sx pl kp I A) P ↔ rn (lt_G o L) mm_Model_make 52 lv (.ref 46 :: st) (sx pl kp I A) P := rx_get (h := "") (ci := 10) (k := 0) dq_Model_make_49 (by decide +kernel) ho (up_b (by decide)) rfl rfl (fl_r (by decide) (by decide) (by decide) (by decide))
theorem dq_Model_make_52 : decode (km_c mm_Model_make) 52 = .ok (.bipush 49, 2) := by decide +kernel
theorem sq_Model_make_52 : rn G mm_Model_make 52 lv st S P ↔ rn G mm_Model_make 54 lv (.int (nI 49) :: st) S P := rn_s dq_Model_make_52 rfl rfl rfl
theorem dq_Model_make_54 : decode (km_c mm_Model_make) 54 = .ok (.iload_n 2, 1) := by decide +kernel
theorem sq_Model_make_54 : rn G mm_Model_make 54 [a0, a1, some (.int x), a3, a4] st S P ↔ rn G mm_Model_make 55 [a0, a1, some (.int x), a3, a4] (.int x :: st) S P := rn_s dq_Model_make_54 rfl rfl rfl
theorem dq_Model_make_55 : decode (km_c mm_Model_make) 55 = .ok (.imul, 1) := by decide +kernel
theorem sq_Model_make_55 : rn G mm_Model_make 55 lv (.int x2 :: .int x :: st) S P ↔ rn G mm_Model_make 56 lv (.int (x * x2) :: st) S P := rn_s dq_Model_make_55 rfl rfl rfl
theorem dq_Model_make_56 : decode (km_c mm_Model_make) 56 = .ok (.iload_n 1, 1) := by decide +kernel
theorem sq_Model_make_56 : rn G mm_Model_make 56 [a0, some (.int x), a2, a3, a4] st S P ↔ rn G mm_Model_make 57 [a0, some (.int x), a2, a3, a4] (.int x :: st) S P := rn_s dq_Model_make_56 rfl rfl rfl
theorem dq_Model_make_57 : decode (km_c mm_Model_make) 57 = .ok (.iadd, 1) := by decide +kernel
theorem sq_Model_make_57 : rn G mm_Model_make 57 lv (.int x2 :: .int x :: st) S P ↔ rn G mm_Model_make 58 lv (.int (x + x2) :: st) S P := rn_s dq_Model_make_57 rfl rfl rfl
theorem dq_Model_make_58 : decode (km_c mm_Model_make) 58 = .ok (.iload_n 3, 1) := by decide +kernel
theorem sq_Model_make_58 : rn G mm_Model_make 58 [a0, a1, a2, some (.int x), a4] st S P ↔ rn G mm_Model_make 59 [a0, a1, a2, some (.int x), a4] (.int x :: st) S P := rn_s dq_Model_make_58 rfl rfl rfl
theorem dq_Model_make_59 : decode (km_c mm_Model_make) 59 = .ok (.iastore, 1) := by decide +kernel
theorem sq_Model_make_59 (ho : sx_o o pl kp) (hk : ak L a = 0) (hu : sx_up pl kp a = true) (hc : c < ln L a) (hn : ln L a < 2 ^ 31) : rn (lt_G o L) mm_Model_make 59 lv (.int x :: .int (nI c) :: .ref a :: st) (sx pl kp I A) P ↔ rn (lt_G o L) mm_Model_make 60 lv st (sx pl kp I (u2 A a c x)) P := rx_ist dq_Model_make_59 ho hk hu hc hn
theorem dq_Model_make_60 : decode (km_c mm_Model_make) 60 = .ok (.iload 4, 2) := by decide +kernel
theorem sq_Model_make_60 : rn G mm_Model_make 60 [a0, a1, a2, a3, some (.int x)] st S P ↔ rn G mm_Model_make 62 [a0, a1, a2, a3, some (.int x)] (.int x :: st) S P := rn_s dq_Model_make_60 rfl rfl rfl
theorem dq_Model_make_62 : decode (km_c mm_Model_make) 62 = .ok (.ireturn, 1) := by decide +kernel
theorem sq_Model_make_62 : rn G mm_Model_make 62 lv [.int x] S P ↔ P (some (.int x)) S := rn_ir dq_Model_make_62 rfl
theorem dq_Model_isCell_0 : decode (km_c mm_Model_isCell) 0 = .ok (.iload_n 0, 1) := by decide +kernel
theorem sq_Model_isCell_0 : rn G mm_Model_isCell 0 [some (.int x)] st S P ↔ rn G mm_Model_isCell 1 [some (.int x)] (.int x :: st) S P := rn_s dq_Model_isCell_0 rfl rfl rfl
theorem dq_Model_isCell_1 : decode (km_c mm_Model_isCell) 1 = .ok (.i2l, 1) := by decide +kernel
theorem sq_Model_isCell_1 : rn G mm_Model_isCell 1 lv (.int x :: st) S P ↔ rn G mm_Model_isCell 2 lv (.long x.toInt64 :: st) S P := rn_s dq_Model_isCell_1 rfl rfl rfl
theorem dq_Model_isCell_2 : decode (km_c mm_Model_isCell) 2 = .ok (.lconst 0, 1) := by decide +kernel
theorem sq_Model_isCell_2 : rn G mm_Model_isCell 2 lv st S P ↔ rn G mm_Model_isCell 3 lv (.long (0) :: st) S P := rn_s dq_Model_isCell_2 rfl rfl rfl
theorem dq_Model_isCell_3 : decode (km_c mm_Model_isCell) 3 = .ok (.ldc2_w 74, 3) := by decide +kernel
theorem sq_Model_isCell_3 : rn G mm_Model_isCell 3 lv st S P ↔ rn G mm_Model_isCell 6 lv (.long (48) :: st) S P := rn_s dq_Model_isCell_3 rfl rfl rfl
theorem dq_Model_isCell_6 : decode (km_c mm_Model_isCell) 6 = .ok (.invokestatic 76, 3) := by decide +kernel
theorem sq_Model_isCell_6 {y1 : Int64} {y2 : Int64} {y3 : Int64} {v : Option Value} {S2 : ks_S} (hc : ev G mm_Model_in [.long y1, .long y2, .long y3] S v S2) (hst : kx_cat st ≤ 8) : rn G mm_Model_isCell 6 lv (.long y3 :: .long y2 :: .long y1 :: st) S P ↔ rn G mm_Model_isCell 9 lv (v.toList ++ st) S2 P := rn_cs (k := 1) (host := "") (E' := mm_Model_in) dq_Model_isCell_6 (by decide) (by decide) rfl (ok_v rfl (by decide) (by decide) (Nat.le_add_left _ _) hst (Nat.le_of_ble_eq_true rfl) (Or.inl rfl)) rfl rfl hc
theorem dq_Model_isCell_9 : decode (km_c mm_Model_isCell) 9 = .ok (.ireturn, 1) := by decide +kernel
theorem sq_Model_isCell_9_0 : rn G mm_Model_isCell 9 lv [.int (nI 0)] S P ↔ P (some (.int (nI 0))) S := rn_ir dq_Model_isCell_9 (by decide)
theorem sq_Model_isCell_9_1 : rn G mm_Model_isCell 9 lv [.int (nI 1)] S P ↔ P (some (.int (nI 1))) S := rn_ir dq_Model_isCell_9 (by decide)
theorem dq_Model_in_0 : decode (km_c mm_Model_in) 0 = .ok (.lload_n 0, 1) := by decide +kernel
theorem sq_Model_in_0 : rn G mm_Model_in 0 [some (.long y), a1, a2, a3, a4, a5] st S P ↔ rn G mm_Model_in 1 [some (.long y), a1, a2, a3, a4, a5] (.long y :: st) S P := rn_s dq_Model_in_0 rfl rfl rfl
theorem dq_Model_in_1 : decode (km_c mm_Model_in) 1 = .ok (.lload_n 2, 1) := by decide +kernel
theorem sq_Model_in_1 : rn G mm_Model_in 1 [a0, a1, some (.long y), a3, a4, a5] st S P ↔ rn G mm_Model_in 2 [a0, a1, some (.long y), a3, a4, a5] (.long y :: st) S P := rn_s dq_Model_in_1 rfl rfl rfl
theorem dq_Model_in_2 : decode (km_c mm_Model_in) 2 = .ok (.lcmp, 1) := by decide +kernel
theorem sq_Model_in_2 : rn G mm_Model_in 2 lv (.long y2 :: .long y :: st) S P ↔ rn G mm_Model_in 3 lv (.int (lg_cmp y y2) :: st) S P := rn_s dq_Model_in_2 rfl rfl rfl
theorem dq_Model_in_3 : decode (km_c mm_Model_in) 3 = .ok (.ifCond .lt 14, 3) := by decide +kernel
theorem sq_Model_in_3 : rn G mm_Model_in 3 lv (.int x :: st) S P ↔ ((x < 0 → rn G mm_Model_in 17 lv st S P) ∧ (¬ (x < 0) → rn G mm_Model_in 6 lv st S P)) := rn_b (off := 14) dq_Model_in_3 rfl rfl rfl rfl
theorem dq_Model_in_6 : decode (km_c mm_Model_in) 6 = .ok (.lload_n 0, 1) := by decide +kernel
theorem sq_Model_in_6 : rn G mm_Model_in 6 [some (.long y), a1, a2, a3, a4, a5] st S P ↔ rn G mm_Model_in 7 [some (.long y), a1, a2, a3, a4, a5] (.long y :: st) S P := rn_s dq_Model_in_6 rfl rfl rfl
theorem dq_Model_in_7 : decode (km_c mm_Model_in) 7 = .ok (.lload 4, 2) := by decide +kernel
theorem sq_Model_in_7 : rn G mm_Model_in 7 [a0, a1, a2, a3, some (.long y), a5] st S P ↔ rn G mm_Model_in 9 [a0, a1, a2, a3, some (.long y), a5] (.long y :: st) S P := rn_s dq_Model_in_7 rfl rfl rfl
theorem dq_Model_in_9 : decode (km_c mm_Model_in) 9 = .ok (.lcmp, 1) := by decide +kernel
theorem sq_Model_in_9 : rn G mm_Model_in 9 lv (.long y2 :: .long y :: st) S P ↔ rn G mm_Model_in 10 lv (.int (lg_cmp y y2) :: st) S P := rn_s dq_Model_in_9 rfl rfl rfl
theorem dq_Model_in_10 : decode (km_c mm_Model_in) 10 = .ok (.ifCond .gt 7, 3) := by decide +kernel
theorem sq_Model_in_10 : rn G mm_Model_in 10 lv (.int x :: st) S P ↔ ((0 < x → rn G mm_Model_in 17 lv st S P) ∧ (¬ (0 < x) → rn G mm_Model_in 13 lv st S P)) := rn_b (off := 7) dq_Model_in_10 rfl rfl rfl rfl
theorem dq_Model_in_13 : decode (km_c mm_Model_in) 13 = .ok (.iconst 1, 1) := by decide +kernel
theorem sq_Model_in_13 : rn G mm_Model_in 13 lv st S P ↔ rn G mm_Model_in 14 lv (.int (nI 1) :: st) S P := rn_s dq_Model_in_13 rfl rfl rfl
theorem dq_Model_in_14 : decode (km_c mm_Model_in) 14 = .ok (.goto 4, 3) := by decide +kernel
theorem sq_Model_in_14 : rn G mm_Model_in 14 lv st S P ↔ rn G mm_Model_in 18 lv st S P := rn_s dq_Model_in_14 rfl rfl rfl
theorem dq_Model_in_17 : decode (km_c mm_Model_in) 17 = .ok (.iconst 0, 1) := by decide +kernel
theorem sq_Model_in_17 : rn G mm_Model_in 17 lv st S P ↔ rn G mm_Model_in 18 lv (.int (nI 0) :: st) S P := rn_s dq_Model_in_17 rfl rfl rfl
theorem dq_Model_in_18 : decode (km_c mm_Model_in) 18 = .ok (.ireturn, 1) := by decide +kernel
theorem sq_Model_in_18_0 : rn G mm_Model_in 18 lv [.int (nI 0)] S P ↔ P (some (.int (nI 0))) S := rn_ir dq_Model_in_18 (by decide)
theorem sq_Model_in_18_1 : rn G mm_Model_in 18 lv [.int (nI 1)] S P ↔ P (some (.int (nI 1))) S := rn_ir dq_Model_in_18 (by decide)
theorem dq_Model_mostOf_0 : decode (km_c mm_Model_mostOf) 0 = .ok (.iload_n 0, 1) := by decide +kernel
theorem sq_Model_mostOf_0 : rn G mm_Model_mostOf 0 [some (.int x)] st S P ↔ rn G mm_Model_mostOf 1 [some (.int x)] (.int x :: st) S P := rn_s dq_Model_mostOf_0 rfl rfl rfl
theorem dq_Model_mostOf_1 : decode (km_c mm_Model_mostOf) 1 = .ok (.ifCond .ne 8, 3) := by decide +kernel
theorem sq_Model_mostOf_1 : rn G mm_Model_mostOf 1 lv (.int x :: st) S P ↔ ((¬ x = 0 → rn G mm_Model_mostOf 9 lv st S P) ∧ (¬ (¬ x = 0) → rn G mm_Model_mostOf 4 lv st S P)) := rn_b (off := 8) dq_Model_mostOf_1 rfl rfl rfl rfl
theorem dq_Model_mostOf_4 : decode (km_c mm_Model_mostOf) 4 = .ok (.bipush 20, 2) := by decide +kernel
theorem sq_Model_mostOf_4 : rn G mm_Model_mostOf 4 lv st S P ↔ rn G mm_Model_mostOf 6 lv (.int (nI 20) :: st) S P := rn_s dq_Model_mostOf_4 rfl rfl rfl
theorem dq_Model_mostOf_6 : decode (km_c mm_Model_mostOf) 6 = .ok (.goto 23, 3) := by decide +kernel
theorem sq_Model_mostOf_6 : rn G mm_Model_mostOf 6 lv st S P ↔ rn G mm_Model_mostOf 29 lv st S P := rn_s dq_Model_mostOf_6 rfl rfl rfl
theorem dq_Model_mostOf_9 : decode (km_c mm_Model_mostOf) 9 = .ok (.iload_n 0, 1) := by decide +kernel
theorem sq_Model_mostOf_9 : rn G mm_Model_mostOf 9 [some (.int x)] st S P ↔ rn G mm_Model_mostOf 10 [some (.int x)] (.int x :: st) S P := rn_s dq_Model_mostOf_9 rfl rfl rfl
theorem dq_Model_mostOf_10 : decode (km_c mm_Model_mostOf) 10 = .ok (.iconst 1, 1) := by decide +kernel
theorem sq_Model_mostOf_10 : rn G mm_Model_mostOf 10 lv st S P ↔ rn G mm_Model_mostOf 11 lv (.int (nI 1) :: st) S P := rn_s dq_Model_mostOf_10 rfl rfl rfl
theorem dq_Model_mostOf_11 : decode (km_c mm_Model_mostOf) 11 = .ok (.if_icmp .ne 8, 3) := by decide +kernel
theorem sq_Model_mostOf_11 : rn G mm_Model_mostOf 11 lv (.int x2 :: .int x :: st) S P ↔ ((¬ x = x2 → rn G mm_Model_mostOf 19 lv st S P) ∧ (¬ (¬ x = x2) → rn G mm_Model_mostOf 14 lv st S P)) := rn_b (off := 8) dq_Model_mostOf_11 rfl rfl rfl rfl
theorem dq_Model_mostOf_14 : decode (km_c mm_Model_mostOf) 14 = .ok (.bipush 9, 2) := by decide +kernel
theorem sq_Model_mostOf_14 : rn G mm_Model_mostOf 14 lv st S P ↔ rn G mm_Model_mostOf 16 lv (.int (nI 9) :: st) S P := rn_s dq_Model_mostOf_14 rfl rfl rfl
theorem dq_Model_mostOf_16 : decode (km_c mm_Model_mostOf) 16 = .ok (.goto 13, 3) := by decide +kernel
theorem sq_Model_mostOf_16 : rn G mm_Model_mostOf 16 lv st S P ↔ rn G mm_Model_mostOf 29 lv st S P := rn_s dq_Model_mostOf_16 rfl rfl rfl
theorem dq_Model_mostOf_19 : decode (km_c mm_Model_mostOf) 19 = .ok (.iload_n 0, 1) := by decide +kernel
theorem sq_Model_mostOf_19 : rn G mm_Model_mostOf 19 [some (.int x)] st S P ↔ rn G mm_Model_mostOf 20 [some (.int x)] (.int x :: st) S P := rn_s dq_Model_mostOf_19 rfl rfl rfl
theorem dq_Model_mostOf_20 : decode (km_c mm_Model_mostOf) 20 = .ok (.iconst 2, 1) := by decide +kernel
theorem sq_Model_mostOf_20 : rn G mm_Model_mostOf 20 lv st S P ↔ rn G mm_Model_mostOf 21 lv (.int (nI 2) :: st) S P := rn_s dq_Model_mostOf_20 rfl rfl rfl
theorem dq_Model_mostOf_21 : decode (km_c mm_Model_mostOf) 21 = .ok (.if_icmp .ne 7, 3) := by decide +kernel
theorem sq_Model_mostOf_21 : rn G mm_Model_mostOf 21 lv (.int x2 :: .int x :: st) S P ↔ ((¬ x = x2 → rn G mm_Model_mostOf 28 lv st S P) ∧ (¬ (¬ x = x2) → rn G mm_Model_mostOf 24 lv st S P)) := rn_b (off := 7) dq_Model_mostOf_21 rfl rfl rfl rfl
theorem dq_Model_mostOf_24 : decode (km_c mm_Model_mostOf) 24 = .ok (.iconst 3, 1) := by decide +kernel
theorem sq_Model_mostOf_24 : rn G mm_Model_mostOf 24 lv st S P ↔ rn G mm_Model_mostOf 25 lv (.int (nI 3) :: st) S P := rn_s dq_Model_mostOf_24 rfl rfl rfl
theorem dq_Model_mostOf_25 : decode (km_c mm_Model_mostOf) 25 = .ok (.goto 4, 3) := by decide +kernel
theorem sq_Model_mostOf_25 : rn G mm_Model_mostOf 25 lv st S P ↔ rn G mm_Model_mostOf 29 lv st S P := rn_s dq_Model_mostOf_25 rfl rfl rfl
theorem dq_Model_mostOf_28 : decode (km_c mm_Model_mostOf) 28 = .ok (.iconst 1, 1) := by decide +kernel
theorem sq_Model_mostOf_28 : rn G mm_Model_mostOf 28 lv st S P ↔ rn G mm_Model_mostOf 29 lv (.int (nI 1) :: st) S P := rn_s dq_Model_mostOf_28 rfl rfl rfl
theorem dq_Model_mostOf_29 : decode (km_c mm_Model_mostOf) 29 = .ok (.ireturn, 1) := by decide +kernel
theorem sq_Model_mostOf_29 : rn G mm_Model_mostOf 29 lv [.int x] S P ↔ P (some (.int x)) S := rn_ir dq_Model_mostOf_29 rfl
theorem dq_Model_told_0 : decode (km_c mm_Model_told) 0 = .ok (.iload_n 1, 1) := by decide +kernel
theorem sq_Model_told_0 : rn G mm_Model_told 0 [a0, some (.int x), a2] st S P ↔ rn G mm_Model_told 1 [a0, some (.int x), a2] (.int x :: st) S P := rn_s dq_Model_told_0 rfl rfl rfl
theorem dq_Model_told_1 : decode (km_c mm_Model_told) 1 = .ok (.invokestatic 104, 3) := by decide +kernel
theorem sq_Model_told_1 {x1 : Int32} {v : Option Value} {S2 : ks_S} (hc : ev G mm_Model_isCell [.int x1] S v S2) (hst : kx_cat st ≤ 8) : rn G mm_Model_told 1 lv (.int x1 :: st) S P ↔ rn G mm_Model_told 4 lv (v.toList ++ st) S2 P := rn_cs (k := 1) (host := "") (E' := mm_Model_isCell) dq_Model_told_1 (by decide) (by decide) rfl (ok_v rfl (by decide) (by decide) (Nat.le_add_left _ _) hst (Nat.le_of_ble_eq_true rfl) (Or.inl rfl)) rfl rfl hc
theorem dq_Model_told_4 : decode (km_c mm_Model_told) 4 = .ok (.ifCond .eq 15, 3) := by decide +kernel
theorem sq_Model_told_4 : rn G mm_Model_told 4 lv (.int x :: st) S P ↔ ((x = 0 → rn G mm_Model_told 19 lv st S P) ∧ (¬ (x = 0) → rn G mm_Model_told 7 lv st S P)) := rn_b (off := 15) dq_Model_told_4 rfl rfl rfl rfl
theorem dq_Model_told_7 : decode (km_c mm_Model_told) 7 = .ok (.iload_n 2, 1) := by decide +kernel
theorem sq_Model_told_7 : rn G mm_Model_told 7 [a0, a1, some (.int x)] st S P ↔ rn G mm_Model_told 8 [a0, a1, some (.int x)] (.int x :: st) S P := rn_s dq_Model_told_7 rfl rfl rfl
theorem dq_Model_told_8 : decode (km_c mm_Model_told) 8 = .ok (.i2l, 1) := by decide +kernel
theorem sq_Model_told_8 : rn G mm_Model_told 8 lv (.int x :: st) S P ↔ rn G mm_Model_told 9 lv (.long x.toInt64 :: st) S P := rn_s dq_Model_told_8 rfl rfl rfl
theorem dq_Model_told_9 : decode (km_c mm_Model_told) 9 = .ok (.lconst 0, 1) := by decide +kernel
theorem sq_Model_told_9 : rn G mm_Model_told 9 lv st S P ↔ rn G mm_Model_told 10 lv (.long (0) :: st) S P := rn_s dq_Model_told_9 rfl rfl rfl
theorem dq_Model_told_10 : decode (km_c mm_Model_told) 10 = .ok (.ldc2_w 113, 3) := by decide +kernel
theorem sq_Model_told_10 : rn G mm_Model_told 10 lv st S P ↔ rn G mm_Model_told 13 lv (.long (7) :: st) S P := rn_s dq_Model_told_10 rfl rfl rfl
theorem dq_Model_told_13 : decode (km_c mm_Model_told) 13 = .ok (.invokestatic 76, 3) := by decide +kernel
theorem sq_Model_told_13 {y1 : Int64} {y2 : Int64} {y3 : Int64} {v : Option Value} {S2 : ks_S} (hc : ev G mm_Model_in [.long y1, .long y2, .long y3] S v S2) (hst : kx_cat st ≤ 8) : rn G mm_Model_told 13 lv (.long y3 :: .long y2 :: .long y1 :: st) S P ↔ rn G mm_Model_told 16 lv (v.toList ++ st) S2 P := rn_cs (k := 1) (host := "") (E' := mm_Model_in) dq_Model_told_13 (by decide) (by decide) rfl (ok_v rfl (by decide) (by decide) (Nat.le_add_left _ _) hst (Nat.le_of_ble_eq_true rfl) (Or.inl rfl)) rfl rfl hc
theorem dq_Model_told_16 : decode (km_c mm_Model_told) 16 = .ok (.ifCond .ne 5, 3) := by decide +kernel
theorem sq_Model_told_16 : rn G mm_Model_told 16 lv (.int x :: st) S P ↔ ((¬ x = 0 → rn G mm_Model_told 21 lv st S P) ∧ (¬ (¬ x = 0) → rn G mm_Model_told 19 lv st S P)) := rn_b (off := 5) dq_Model_told_16 rfl rfl rfl rfl
theorem dq_Model_told_19 : decode (km_c mm_Model_told) 19 = .ok (.iconst (-1), 1) := by decide +kernel
theorem sq_Model_told_19 : rn G mm_Model_told 19 lv st S P ↔ rn G mm_Model_told 20 lv (.int ((-1)) :: st) S P := rn_s dq_Model_told_19 rfl rfl rfl
theorem dq_Model_told_20 : decode (km_c mm_Model_told) 20 = .ok (.ireturn, 1) := by decide +kernel
theorem sq_Model_told_20 : rn G mm_Model_told 20 lv [.int x] S P ↔ P (some (.int x)) S := rn_ir dq_Model_told_20 rfl
theorem dq_Model_told_21 : decode (km_c mm_Model_told) 21 = .ok (.aload_n 0, 1) := by decide +kernel
theorem sq_Model_told_21 : rn G mm_Model_told 21 [some (.ref z), a1, a2] st S P ↔ rn G mm_Model_told 22 [some (.ref z), a1, a2] (.ref z :: st) S P := rn_s dq_Model_told_21 rfl rfl rfl
theorem dq_Model_told_22 : decode (km_c mm_Model_told) 22 = .ok (.aload_n 0, 1) := by decide +kernel
theorem sq_Model_told_22 : rn G mm_Model_told 22 [some (.ref z), a1, a2] st S P ↔ rn G mm_Model_told 23 [some (.ref z), a1, a2] (.ref z :: st) S P := rn_s dq_Model_told_22 rfl rfl rfl
theorem dq_Model_told_23 : decode (km_c mm_Model_told) 23 = .ok (.getfield 98, 3) := by decide +kernel
theorem sq_Model_told_23_45 (ho : sx_o o pl kp) : rn (lt_G o L) mm_Model_told 23 lv (.ref 45 :: st) (sx pl kp I A) P ↔ rn (lt_G o L) mm_Model_told 26 lv (.int (I 45 1) :: st) (sx pl kp I A) P := rx_get (h := "") (ci := 10) (k := 1) dq_Model_told_23 (by decide +kernel) ho (up_b (by decide)) rfl rfl (fl_i (by decide))
theorem dq_Model_told_26 : decode (km_c mm_Model_told) 26 = .ok (.invokevirtual 115, 3) := by decide +kernel
theorem sq_Model_told_26_45 {x1 : Int32} {v : Option Value} {S2 : ks_S} (hc : ev (lt_G o L) mm_Model_findWet [.ref 45, .int x1] (sx pl kp I A) v S2) (ho : sx_o o pl kp) (hst : kx_cat st ≤ 8) : rn (lt_G o L) mm_Model_told 26 lv (.int x1 :: .ref 45 :: st) (sx pl kp I A) P ↔ rn (lt_G o L) mm_Model_told 29 lv (v.toList ++ st) S2 P := rn_cv (k := 0) (host := "") (E' := mm_Model_findWet) dq_Model_told_26 rfl (ok_v rfl (by decide) (by decide) (Nat.le_add_left _ _) hst (Nat.le_of_ble_eq_true rfl) (Or.inr (rc_v ho (up_b (by decide)) rfl))) rfl rfl hc
theorem dq_Model_told_29 : decode (km_c mm_Model_told) 29 = .ok (.iload_n 2, 1) := by decide +kernel
theorem sq_Model_told_29 : rn G mm_Model_told 29 [a0, a1, some (.int x)] st S P ↔ rn G mm_Model_told 30 [a0, a1, some (.int x)] (.int x :: st) S P := rn_s dq_Model_told_29 rfl rfl rfl
theorem dq_Model_told_30 : decode (km_c mm_Model_told) 30 = .ok (.iconst 5, 1) := by decide +kernel
theorem sq_Model_told_30 : rn G mm_Model_told 30 lv st S P ↔ rn G mm_Model_told 31 lv (.int (nI 5) :: st) S P := rn_s dq_Model_told_30 rfl rfl rfl
theorem dq_Model_told_31 : decode (km_c mm_Model_told) 31 = .ok (.if_icmp .ge 17, 3) := by decide +kernel
theorem sq_Model_told_31 : rn G mm_Model_told 31 lv (.int x2 :: .int x :: st) S P ↔ ((x2 ≤ x → rn G mm_Model_told 48 lv st S P) ∧ (¬ (x2 ≤ x) → rn G mm_Model_told 34 lv st S P)) := rn_b (off := 17) dq_Model_told_31 rfl rfl rfl rfl
theorem dq_Model_told_34 : decode (km_c mm_Model_told) 34 = .ok (.aload_n 0, 1) := by decide +kernel
theorem sq_Model_told_34 : rn G mm_Model_told 34 [some (.ref z), a1, a2] st S P ↔ rn G mm_Model_told 35 [some (.ref z), a1, a2] (.ref z :: st) S P := rn_s dq_Model_told_34 rfl rfl rfl
theorem dq_Model_told_35 : decode (km_c mm_Model_told) 35 = .ok (.getfield 7, 3) := by decide +kernel
theorem sq_Model_told_35_45 (ho : sx_o o pl kp) : rn (lt_G o L) mm_Model_told 35 lv (.ref 45 :: st) (sx pl kp I A) P ↔ rn (lt_G o L) mm_Model_told 38 lv (.ref 46 :: st) (sx pl kp I A) P := rx_get (h := "") (ci := 10) (k := 0) dq_Model_told_35 (by decide +kernel) ho (up_b (by decide)) rfl rfl (fl_r (by decide) (by decide) (by decide) (by decide))
theorem dq_Model_told_38 : decode (km_c mm_Model_told) 38 = .ok (.bipush 49, 2) := by decide +kernel
theorem sq_Model_told_38 : rn G mm_Model_told 38 lv st S P ↔ rn G mm_Model_told 40 lv (.int (nI 49) :: st) S P := rn_s dq_Model_told_38 rfl rfl rfl
theorem dq_Model_told_40 : decode (km_c mm_Model_told) 40 = .ok (.iload_n 2, 1) := by decide +kernel
theorem sq_Model_told_40 : rn G mm_Model_told 40 [a0, a1, some (.int x)] st S P ↔ rn G mm_Model_told 41 [a0, a1, some (.int x)] (.int x :: st) S P := rn_s dq_Model_told_40 rfl rfl rfl
theorem dq_Model_told_41 : decode (km_c mm_Model_told) 41 = .ok (.imul, 1) := by decide +kernel
theorem sq_Model_told_41 : rn G mm_Model_told 41 lv (.int x2 :: .int x :: st) S P ↔ rn G mm_Model_told 42 lv (.int (x * x2) :: st) S P := rn_s dq_Model_told_41 rfl rfl rfl
theorem dq_Model_told_42 : decode (km_c mm_Model_told) 42 = .ok (.iload_n 1, 1) := by decide +kernel
theorem sq_Model_told_42 : rn G mm_Model_told 42 [a0, some (.int x), a2] st S P ↔ rn G mm_Model_told 43 [a0, some (.int x), a2] (.int x :: st) S P := rn_s dq_Model_told_42 rfl rfl rfl
theorem dq_Model_told_43 : decode (km_c mm_Model_told) 43 = .ok (.iadd, 1) := by decide +kernel
theorem sq_Model_told_43 : rn G mm_Model_told 43 lv (.int x2 :: .int x :: st) S P ↔ rn G mm_Model_told 44 lv (.int (x + x2) :: st) S P := rn_s dq_Model_told_43 rfl rfl rfl
theorem dq_Model_told_44 : decode (km_c mm_Model_told) 44 = .ok (.iaload, 1) := by decide +kernel
theorem sq_Model_told_44 (ho : sx_o o pl kp) (hk : ak L a = 0) (hu : sx_up pl kp a = true ∨ 1000 ≤ a) (hc : c < ln L a) (hn : ln L a < 2 ^ 31) : rn (lt_G o L) mm_Model_told 44 lv (.int (nI c) :: .ref a :: st) (sx pl kp I A) P ↔ rn (lt_G o L) mm_Model_told 45 lv (.int (A a c) :: st) (sx pl kp I A) P := rx_ild dq_Model_told_44 ho hk hu hc hn
theorem dq_Model_told_45 : decode (km_c mm_Model_told) 45 = .ok (.goto 39, 3) := by decide +kernel
theorem sq_Model_told_45 : rn G mm_Model_told 45 lv st S P ↔ rn G mm_Model_told 84 lv st S P := rn_s dq_Model_told_45 rfl rfl rfl
theorem dq_Model_told_48 : decode (km_c mm_Model_told) 48 = .ok (.iload_n 2, 1) := by decide +kernel
theorem sq_Model_told_48 : rn G mm_Model_told 48 [a0, a1, some (.int x)] st S P ↔ rn G mm_Model_told 49 [a0, a1, some (.int x)] (.int x :: st) S P := rn_s dq_Model_told_48 rfl rfl rfl
theorem dq_Model_told_49 : decode (km_c mm_Model_told) 49 = .ok (.iconst 5, 1) := by decide +kernel
theorem sq_Model_told_49 : rn G mm_Model_told 49 lv st S P ↔ rn G mm_Model_told 50 lv (.int (nI 5) :: st) S P := rn_s dq_Model_told_49 rfl rfl rfl
theorem dq_Model_told_50 : decode (km_c mm_Model_told) 50 = .ok (.if_icmp .ne 15, 3) := by decide +kernel
theorem sq_Model_told_50 : rn G mm_Model_told 50 lv (.int x2 :: .int x :: st) S P ↔ ((¬ x = x2 → rn G mm_Model_told 65 lv st S P) ∧ (¬ (¬ x = x2) → rn G mm_Model_told 53 lv st S P)) := rn_b (off := 15) dq_Model_told_50 rfl rfl rfl rfl
theorem dq_Model_told_53 : decode (km_c mm_Model_told) 53 = .ok (.aload_n 0, 1) := by decide +kernel
theorem sq_Model_told_53 : rn G mm_Model_told 53 [some (.ref z), a1, a2] st S P ↔ rn G mm_Model_told 54 [some (.ref z), a1, a2] (.ref z :: st) S P := rn_s dq_Model_told_53 rfl rfl rfl
theorem dq_Model_told_54 : decode (km_c mm_Model_told) 54 = .ok (.iload_n 1, 1) := by decide +kernel
theorem sq_Model_told_54 : rn G mm_Model_told 54 [a0, some (.int x), a2] st S P ↔ rn G mm_Model_told 55 [a0, some (.int x), a2] (.int x :: st) S P := rn_s dq_Model_told_54 rfl rfl rfl
theorem dq_Model_told_55 : decode (km_c mm_Model_told) 55 = .ok (.aload_n 0, 1) := by decide +kernel
theorem sq_Model_told_55 : rn G mm_Model_told 55 [some (.ref z), a1, a2] st S P ↔ rn G mm_Model_told 56 [some (.ref z), a1, a2] (.ref z :: st) S P := rn_s dq_Model_told_55 rfl rfl rfl
theorem dq_Model_told_56 : decode (km_c mm_Model_told) 56 = .ok (.getfield 98, 3) := by decide +kernel
theorem sq_Model_told_56_45 (ho : sx_o o pl kp) : rn (lt_G o L) mm_Model_told 56 lv (.ref 45 :: st) (sx pl kp I A) P ↔ rn (lt_G o L) mm_Model_told 59 lv (.int (I 45 1) :: st) (sx pl kp I A) P := rx_get (h := "") (ci := 10) (k := 1) dq_Model_told_56 (by decide +kernel) ho (up_b (by decide)) rfl rfl (fl_i (by decide))
theorem dq_Model_told_59 : decode (km_c mm_Model_told) 59 = .ok (.invokevirtual 101, 3) := by decide +kernel
theorem sq_Model_told_59_45 {x1 : Int32} {x2 : Int32} {v : Option Value} {S2 : ks_S} (hc : ev (lt_G o L) mm_Model_waterAt [.ref 45, .int x1, .int x2] (sx pl kp I A) v S2) (ho : sx_o o pl kp) (hst : kx_cat st ≤ 8) : rn (lt_G o L) mm_Model_told 59 lv (.int x2 :: .int x1 :: .ref 45 :: st) (sx pl kp I A) P ↔ rn (lt_G o L) mm_Model_told 62 lv (v.toList ++ st) S2 P := rn_cv (k := 0) (host := "") (E' := mm_Model_waterAt) dq_Model_told_59 rfl (ok_v rfl (by decide) (by decide) (Nat.le_add_left _ _) hst (Nat.le_of_ble_eq_true rfl) (Or.inr (rc_v ho (up_b (by decide)) rfl))) rfl rfl hc
theorem dq_Model_told_62 : decode (km_c mm_Model_told) 62 = .ok (.goto 22, 3) := by decide +kernel
theorem sq_Model_told_62 : rn G mm_Model_told 62 lv st S P ↔ rn G mm_Model_told 84 lv st S P := rn_s dq_Model_told_62 rfl rfl rfl
theorem dq_Model_told_65 : decode (km_c mm_Model_told) 65 = .ok (.iload_n 2, 1) := by decide +kernel
theorem sq_Model_told_65 : rn G mm_Model_told 65 [a0, a1, some (.int x)] st S P ↔ rn G mm_Model_told 66 [a0, a1, some (.int x)] (.int x :: st) S P := rn_s dq_Model_told_65 rfl rfl rfl
theorem dq_Model_told_66 : decode (km_c mm_Model_told) 66 = .ok (.bipush 6, 2) := by decide +kernel
theorem sq_Model_told_66 : rn G mm_Model_told 66 lv st S P ↔ rn G mm_Model_told 68 lv (.int (nI 6) :: st) S P := rn_s dq_Model_told_66 rfl rfl rfl
theorem dq_Model_told_68 : decode (km_c mm_Model_told) 68 = .ok (.if_icmp .ne 11, 3) := by decide +kernel
theorem sq_Model_told_68 : rn G mm_Model_told 68 lv (.int x2 :: .int x :: st) S P ↔ ((¬ x = x2 → rn G mm_Model_told 79 lv st S P) ∧ (¬ (¬ x = x2) → rn G mm_Model_told 71 lv st S P)) := rn_b (off := 11) dq_Model_told_68 rfl rfl rfl rfl
theorem dq_Model_told_71 : decode (km_c mm_Model_told) 71 = .ok (.aload_n 0, 1) := by decide +kernel
theorem sq_Model_told_71 : rn G mm_Model_told 71 [some (.ref z), a1, a2] st S P ↔ rn G mm_Model_told 72 [some (.ref z), a1, a2] (.ref z :: st) S P := rn_s dq_Model_told_71 rfl rfl rfl
theorem dq_Model_told_72 : decode (km_c mm_Model_told) 72 = .ok (.iload_n 1, 1) := by decide +kernel
theorem sq_Model_told_72 : rn G mm_Model_told 72 [a0, some (.int x), a2] st S P ↔ rn G mm_Model_told 73 [a0, some (.int x), a2] (.int x :: st) S P := rn_s dq_Model_told_72 rfl rfl rfl
theorem dq_Model_told_73 : decode (km_c mm_Model_told) 73 = .ok (.invokevirtual 119, 3) := by decide +kernel
theorem sq_Model_told_73_45 {x1 : Int32} {v : Option Value} {S2 : ks_S} (hc : ev (lt_G o L) mm_Model_costOf [.ref 45, .int x1] (sx pl kp I A) v S2) (ho : sx_o o pl kp) (hst : kx_cat st ≤ 8) : rn (lt_G o L) mm_Model_told 73 lv (.int x1 :: .ref 45 :: st) (sx pl kp I A) P ↔ rn (lt_G o L) mm_Model_told 76 lv (v.toList ++ st) S2 P := rn_cv (k := 0) (host := "") (E' := mm_Model_costOf) dq_Model_told_73 rfl (ok_v rfl (by decide) (by decide) (Nat.le_add_left _ _) hst (Nat.le_of_ble_eq_true rfl) (Or.inr (rc_v ho (up_b (by decide)) rfl))) rfl rfl hc
theorem dq_Model_told_76 : decode (km_c mm_Model_told) 76 = .ok (.goto 8, 3) := by decide +kernel
theorem sq_Model_told_76 : rn G mm_Model_told 76 lv st S P ↔ rn G mm_Model_told 84 lv st S P := rn_s dq_Model_told_76 rfl rfl rfl
theorem dq_Model_told_79 : decode (km_c mm_Model_told) 79 = .ok (.aload_n 0, 1) := by decide +kernel
theorem sq_Model_told_79 : rn G mm_Model_told 79 [some (.ref z), a1, a2] st S P ↔ rn G mm_Model_told 80 [some (.ref z), a1, a2] (.ref z :: st) S P := rn_s dq_Model_told_79 rfl rfl rfl
theorem dq_Model_told_80 : decode (km_c mm_Model_told) 80 = .ok (.iload_n 1, 1) := by decide +kernel
theorem sq_Model_told_80 : rn G mm_Model_told 80 [a0, some (.int x), a2] st S P ↔ rn G mm_Model_told 81 [a0, some (.int x), a2] (.int x :: st) S P := rn_s dq_Model_told_80 rfl rfl rfl
theorem dq_Model_told_81 : decode (km_c mm_Model_told) 81 = .ok (.invokevirtual 122, 3) := by decide +kernel
theorem sq_Model_told_81_45 {x1 : Int32} {v : Option Value} {S2 : ks_S} (hc : ev (lt_G o L) mm_Model_bears [.ref 45, .int x1] (sx pl kp I A) v S2) (ho : sx_o o pl kp) (hst : kx_cat st ≤ 8) : rn (lt_G o L) mm_Model_told 81 lv (.int x1 :: .ref 45 :: st) (sx pl kp I A) P ↔ rn (lt_G o L) mm_Model_told 84 lv (v.toList ++ st) S2 P := rn_cv (k := 0) (host := "") (E' := mm_Model_bears) dq_Model_told_81 rfl (ok_v rfl (by decide) (by decide) (Nat.le_add_left _ _) hst (Nat.le_of_ble_eq_true rfl) (Or.inr (rc_v ho (up_b (by decide)) rfl))) rfl rfl hc
theorem dq_Model_told_84 : decode (km_c mm_Model_told) 84 = .ok (.ireturn, 1) := by decide +kernel
theorem sq_Model_told_84 : rn G mm_Model_told 84 lv [.int x] S P ↔ P (some (.int x)) S := rn_ir dq_Model_told_84 rfl
end SQ
