section SQ
variable {o pl kp : Bool} {L : Nat} {I A : Nat → Nat → Int32} {G : kg_G} {S : ks_S} {lv : List (Option Value)} {st : List Value} {P : Option Value → ks_S → Prop} {x x2 : Int32} {y y2 : Int64} {z z2 c a : Nat} {a0 a1 a2 a3 a4 a5 a6 a7 a8 a9 a10 a11 a12 a13 a14 a15 a16 a17 a18 a19 a20 a21 a22 a23 : Option Value}
theorem dq_Plan_spread_0 : decode (km_c mm_Plan_spread) 0 = .ok (.iconst 0, 1) := by decide +kernel
theorem sq_Plan_spread_0 : rn G mm_Plan_spread 0 lv st S P ↔ rn G mm_Plan_spread 1 lv (.int (nI 0) :: st) S P := rn_s dq_Plan_spread_0 rfl rfl rfl
theorem dq_Plan_spread_1 : decode (km_c mm_Plan_spread) 1 = .ok (.istore_n 2, 1) := by decide +kernel
theorem sq_Plan_spread_1n : rn G mm_Plan_spread 1 [a0, none, a2, a3, a4] (.int x :: st) S P ↔ rn G mm_Plan_spread 2 [a0, none, some (.int x), a3, a4] st S P := rn_s dq_Plan_spread_1 rfl rfl rfl
theorem sq_Plan_spread_1i : rn G mm_Plan_spread 1 [a0, some (.int x2), a2, a3, a4] (.int x :: st) S P ↔ rn G mm_Plan_spread 2 [a0, some (.int x2), some (.int x), a3, a4] st S P := rn_s dq_Plan_spread_1 rfl rfl rfl
theorem sq_Plan_spread_1r : rn G mm_Plan_spread 1 [a0, some (.ref z2), a2, a3, a4] (.int x :: st) S P ↔ rn G mm_Plan_spread 2 [a0, some (.ref z2), some (.int x), a3, a4] st S P := rn_s dq_Plan_spread_1 rfl rfl rfl
theorem dq_Plan_spread_2 : decode (km_c mm_Plan_spread) 2 = .ok (.iload_n 2, 1) := by decide +kernel
theorem sq_Plan_spread_2 : rn G mm_Plan_spread 2 [a0, a1, some (.int x), a3, a4] st S P ↔ rn G mm_Plan_spread 3 [a0, a1, some (.int x), a3, a4] (.int x :: st) S P := rn_s dq_Plan_spread_2 rfl rfl rfl
theorem dq_Plan_spread_3 : decode (km_c mm_Plan_spread) 3 = .ok (.bipush 49, 2) := by decide +kernel
theorem sq_Plan_spread_3 : rn G mm_Plan_spread 3 lv st S P ↔ rn G mm_Plan_spread 5 lv (.int (nI 49) :: st) S P := rn_s dq_Plan_spread_3 rfl rfl rfl
theorem dq_Plan_spread_5 : decode (km_c mm_Plan_spread) 5 = .ok (.if_icmp .ge 22, 3) := by decide +kernel
theorem sq_Plan_spread_5 : rn G mm_Plan_spread 5 lv (.int x2 :: .int x :: st) S P ↔ ((x2 ≤ x → rn G mm_Plan_spread 27 lv st S P) ∧ (¬ (x2 ≤ x) → rn G mm_Plan_spread 8 lv st S P)) := rn_b (off := 22) dq_Plan_spread_5 rfl rfl rfl rfl
theorem dq_Plan_spread_8 : decode (km_c mm_Plan_spread) 8 = .ok (.aload_n 1, 1) := by decide +kernel
theorem sq_Plan_spread_8 : rn G mm_Plan_spread 8 [a0, some (.ref z), a2, a3, a4] st S P ↔ rn G mm_Plan_spread 9 [a0, some (.ref z), a2, a3, a4] (.ref z :: st) S P := rn_s dq_Plan_spread_8 rfl rfl rfl
theorem dq_Plan_spread_9 : decode (km_c mm_Plan_spread) 9 = .ok (.iload_n 2, 1) := by decide +kernel
theorem sq_Plan_spread_9 : rn G mm_Plan_spread 9 [a0, a1, some (.int x), a3, a4] st S P ↔ rn G mm_Plan_spread 10 [a0, a1, some (.int x), a3, a4] (.int x :: st) S P := rn_s dq_Plan_spread_9 rfl rfl rfl
theorem dq_Plan_spread_10 : decode (km_c mm_Plan_spread) 10 = .ok (.iaload, 1) := by decide +kernel
theorem sq_Plan_spread_10 (ho : sx_o o pl kp) (hk : ak L a = 0) (hu : sx_up pl kp a = true ∨ 1000 ≤ a) (hc : c < ln L a) (hn : ln L a < 2 ^ 31) : rn (lt_G o L) mm_Plan_spread 10 lv (.int (nI c) :: .ref a :: st) (sx pl kp I A) P ↔ rn (lt_G o L) mm_Plan_spread 11 lv (.int (A a c) :: st) (sx pl kp I A) P := rx_ild dq_Plan_spread_10 ho hk hu hc hn
theorem dq_Plan_spread_11 : decode (km_c mm_Plan_spread) 11 = .ok (.ldc 90, 2) := by decide +kernel
theorem sq_Plan_spread_11 : rn G mm_Plan_spread 11 lv st S P ↔ rn G mm_Plan_spread 13 lv (.int (nI 1073741824) :: st) S P := rn_s dq_Plan_spread_11 rfl rfl rfl
theorem dq_Plan_spread_13 : decode (km_c mm_Plan_spread) 13 = .ok (.if_icmp .ge 8, 3) := by decide +kernel
theorem sq_Plan_spread_13 : rn G mm_Plan_spread 13 lv (.int x2 :: .int x :: st) S P ↔ ((x2 ≤ x → rn G mm_Plan_spread 21 lv st S P) ∧ (¬ (x2 ≤ x) → rn G mm_Plan_spread 16 lv st S P)) := rn_b (off := 8) dq_Plan_spread_13 rfl rfl rfl rfl
theorem dq_Plan_spread_16 : decode (km_c mm_Plan_spread) 16 = .ok (.aload_n 0, 1) := by decide +kernel
theorem sq_Plan_spread_16 : rn G mm_Plan_spread 16 [some (.ref z), a1, a2, a3, a4] st S P ↔ rn G mm_Plan_spread 17 [some (.ref z), a1, a2, a3, a4] (.ref z :: st) S P := rn_s dq_Plan_spread_16 rfl rfl rfl
theorem dq_Plan_spread_17 : decode (km_c mm_Plan_spread) 17 = .ok (.iload_n 2, 1) := by decide +kernel
theorem sq_Plan_spread_17 : rn G mm_Plan_spread 17 [a0, a1, some (.int x), a3, a4] st S P ↔ rn G mm_Plan_spread 18 [a0, a1, some (.int x), a3, a4] (.int x :: st) S P := rn_s dq_Plan_spread_17 rfl rfl rfl
theorem dq_Plan_spread_18 : decode (km_c mm_Plan_spread) 18 = .ok (.invokevirtual 91, 3) := by decide +kernel
theorem sq_Plan_spread_18_65 {x1 : Int32} {v : Option Value} {S2 : ks_S} (hc : ev (lt_G o L) mm_Plan_queueUp [.ref 65, .int x1] (sx true kp I A) v S2) (ho : sx_o o true kp) (hst : kx_cat st ≤ 8) : rn (lt_G o L) mm_Plan_spread 18 lv (.int x1 :: .ref 65 :: st) (sx true kp I A) P ↔ rn (lt_G o L) mm_Plan_spread 21 lv (v.toList ++ st) S2 P := rn_cv (k := 0) (host := "") (E' := mm_Plan_queueUp) dq_Plan_spread_18 rfl (ok_v rfl (by decide) (by decide) (Nat.le_add_left _ _) hst (Nat.le_of_ble_eq_true rfl) (Or.inr (rc_v ho (up_p (by decide)) rfl))) rfl rfl hc
theorem dq_Plan_spread_21 : decode (km_c mm_Plan_spread) 21 = .ok (.iinc 2 1, 3) := by decide +kernel
theorem sq_Plan_spread_21n : rn G mm_Plan_spread 21 [a0, none, some (.int x), a3, a4] st S P ↔ rn G mm_Plan_spread 24 [a0, none, some (.int (x + nI 1)), a3, a4] st S P := rn_s dq_Plan_spread_21 rfl rfl rfl
theorem sq_Plan_spread_21i : rn G mm_Plan_spread 21 [a0, some (.int x2), some (.int x), a3, a4] st S P ↔ rn G mm_Plan_spread 24 [a0, some (.int x2), some (.int (x + nI 1)), a3, a4] st S P := rn_s dq_Plan_spread_21 rfl rfl rfl
theorem sq_Plan_spread_21r : rn G mm_Plan_spread 21 [a0, some (.ref z2), some (.int x), a3, a4] st S P ↔ rn G mm_Plan_spread 24 [a0, some (.ref z2), some (.int (x + nI 1)), a3, a4] st S P := rn_s dq_Plan_spread_21 rfl rfl rfl
theorem dq_Plan_spread_24 : decode (km_c mm_Plan_spread) 24 = .ok (.goto (-22), 3) := by decide +kernel
theorem sq_Plan_spread_24 : rn G mm_Plan_spread 24 lv st S P ↔ rn G mm_Plan_spread 2 lv st S P := rn_s dq_Plan_spread_24 rfl rfl rfl
theorem dq_Plan_spread_27 : decode (km_c mm_Plan_spread) 27 = .ok (.iconst 0, 1) := by decide +kernel
theorem sq_Plan_spread_27 : rn G mm_Plan_spread 27 lv st S P ↔ rn G mm_Plan_spread 28 lv (.int (nI 0) :: st) S P := rn_s dq_Plan_spread_27 rfl rfl rfl
theorem dq_Plan_spread_28 : decode (km_c mm_Plan_spread) 28 = .ok (.istore_n 2, 1) := by decide +kernel
theorem sq_Plan_spread_28n : rn G mm_Plan_spread 28 [a0, none, a2, a3, a4] (.int x :: st) S P ↔ rn G mm_Plan_spread 29 [a0, none, some (.int x), a3, a4] st S P := rn_s dq_Plan_spread_28 rfl rfl rfl
theorem sq_Plan_spread_28i : rn G mm_Plan_spread 28 [a0, some (.int x2), a2, a3, a4] (.int x :: st) S P ↔ rn G mm_Plan_spread 29 [a0, some (.int x2), some (.int x), a3, a4] st S P := rn_s dq_Plan_spread_28 rfl rfl rfl
theorem sq_Plan_spread_28r : rn G mm_Plan_spread 28 [a0, some (.ref z2), a2, a3, a4] (.int x :: st) S P ↔ rn G mm_Plan_spread 29 [a0, some (.ref z2), some (.int x), a3, a4] st S P := rn_s dq_Plan_spread_28 rfl rfl rfl
theorem dq_Plan_spread_29 : decode (km_c mm_Plan_spread) 29 = .ok (.iload_n 2, 1) := by decide +kernel
theorem sq_Plan_spread_29 : rn G mm_Plan_spread 29 [a0, a1, some (.int x), a3, a4] st S P ↔ rn G mm_Plan_spread 30 [a0, a1, some (.int x), a3, a4] (.int x :: st) S P := rn_s dq_Plan_spread_29 rfl rfl rfl
theorem dq_Plan_spread_30 : decode (km_c mm_Plan_spread) 30 = .ok (.sipush 2401, 3) := by decide +kernel
theorem sq_Plan_spread_30 : rn G mm_Plan_spread 30 lv st S P ↔ rn G mm_Plan_spread 33 lv (.int (nI 2401) :: st) S P := rn_s dq_Plan_spread_30 rfl rfl rfl
theorem dq_Plan_spread_33 : decode (km_c mm_Plan_spread) 33 = .ok (.if_icmp .ge 97, 3) := by decide +kernel
theorem sq_Plan_spread_33 : rn G mm_Plan_spread 33 lv (.int x2 :: .int x :: st) S P ↔ ((x2 ≤ x → rn G mm_Plan_spread 130 lv st S P) ∧ (¬ (x2 ≤ x) → rn G mm_Plan_spread 36 lv st S P)) := rn_b (off := 97) dq_Plan_spread_33 rfl rfl rfl rfl
theorem dq_Plan_spread_36 : decode (km_c mm_Plan_spread) 36 = .ok (.aload_n 0, 1) := by decide +kernel
theorem sq_Plan_spread_36 : rn G mm_Plan_spread 36 [some (.ref z), a1, a2, a3, a4] st S P ↔ rn G mm_Plan_spread 37 [some (.ref z), a1, a2, a3, a4] (.ref z :: st) S P := rn_s dq_Plan_spread_36 rfl rfl rfl
theorem dq_Plan_spread_37 : decode (km_c mm_Plan_spread) 37 = .ok (.getfield 37, 3) := by decide +kernel
theorem sq_Plan_spread_37_65 (ho : sx_o o true kp) : rn (lt_G o L) mm_Plan_spread 37 lv (.ref 65 :: st) (sx true kp I A) P ↔ rn (lt_G o L) mm_Plan_spread 40 lv (.int (I 65 7) :: st) (sx true kp I A) P := rx_get (h := "") (ci := 2) (k := 7) dq_Plan_spread_37 (by decide +kernel) ho (up_p (by decide)) rfl rfl (fl_i (by decide))
theorem dq_Plan_spread_40 : decode (km_c mm_Plan_spread) 40 = .ok (.ifCond .le 90, 3) := by decide +kernel
theorem sq_Plan_spread_40 : rn G mm_Plan_spread 40 lv (.int x :: st) S P ↔ ((x ≤ 0 → rn G mm_Plan_spread 130 lv st S P) ∧ (¬ (x ≤ 0) → rn G mm_Plan_spread 43 lv st S P)) := rn_b (off := 90) dq_Plan_spread_40 rfl rfl rfl rfl
theorem dq_Plan_spread_43 : decode (km_c mm_Plan_spread) 43 = .ok (.aload_n 0, 1) := by decide +kernel
theorem sq_Plan_spread_43 : rn G mm_Plan_spread 43 [some (.ref z), a1, a2, a3, a4] st S P ↔ rn G mm_Plan_spread 44 [some (.ref z), a1, a2, a3, a4] (.ref z :: st) S P := rn_s dq_Plan_spread_43 rfl rfl rfl
theorem dq_Plan_spread_44 : decode (km_c mm_Plan_spread) 44 = .ok (.getfield 27, 3) := by decide +kernel
theorem sq_Plan_spread_44_65 (ho : sx_o o true kp) : rn (lt_G o L) mm_Plan_spread 44 lv (.ref 65 :: st) (sx true kp I A) P ↔ rn (lt_G o L) mm_Plan_spread 47 lv (.ref 134 :: st) (sx true kp I A) P := rx_get (h := "") (ci := 2) (k := 4) dq_Plan_spread_44 (by decide +kernel) ho (up_p (by decide)) rfl rfl (fl_p (by decide) (by decide) (by decide))
theorem dq_Plan_spread_47 : decode (km_c mm_Plan_spread) 47 = .ok (.aload_n 0, 1) := by decide +kernel
theorem sq_Plan_spread_47 : rn G mm_Plan_spread 47 [some (.ref z), a1, a2, a3, a4] st S P ↔ rn G mm_Plan_spread 48 [some (.ref z), a1, a2, a3, a4] (.ref z :: st) S P := rn_s dq_Plan_spread_47 rfl rfl rfl
theorem dq_Plan_spread_48 : decode (km_c mm_Plan_spread) 48 = .ok (.getfield 33, 3) := by decide +kernel
theorem sq_Plan_spread_48_65 (ho : sx_o o true kp) : rn (lt_G o L) mm_Plan_spread 48 lv (.ref 65 :: st) (sx true kp I A) P ↔ rn (lt_G o L) mm_Plan_spread 51 lv (.int (I 65 6) :: st) (sx true kp I A) P := rx_get (h := "") (ci := 2) (k := 6) dq_Plan_spread_48 (by decide +kernel) ho (up_p (by decide)) rfl rfl (fl_i (by decide))
theorem dq_Plan_spread_51 : decode (km_c mm_Plan_spread) 51 = .ok (.iaload, 1) := by decide +kernel
theorem sq_Plan_spread_51 (ho : sx_o o pl kp) (hk : ak L a = 0) (hu : sx_up pl kp a = true ∨ 1000 ≤ a) (hc : c < ln L a) (hn : ln L a < 2 ^ 31) : rn (lt_G o L) mm_Plan_spread 51 lv (.int (nI c) :: .ref a :: st) (sx pl kp I A) P ↔ rn (lt_G o L) mm_Plan_spread 52 lv (.int (A a c) :: st) (sx pl kp I A) P := rx_ild dq_Plan_spread_51 ho hk hu hc hn
theorem dq_Plan_spread_52 : decode (km_c mm_Plan_spread) 52 = .ok (.istore_n 3, 1) := by decide +kernel
theorem sq_Plan_spread_52n : rn G mm_Plan_spread 52 [a0, a1, none, a3, a4] (.int x :: st) S P ↔ rn G mm_Plan_spread 53 [a0, a1, none, some (.int x), a4] st S P := rn_s dq_Plan_spread_52 rfl rfl rfl
theorem sq_Plan_spread_52i : rn G mm_Plan_spread 52 [a0, a1, some (.int x2), a3, a4] (.int x :: st) S P ↔ rn G mm_Plan_spread 53 [a0, a1, some (.int x2), some (.int x), a4] st S P := rn_s dq_Plan_spread_52 rfl rfl rfl
theorem sq_Plan_spread_52r : rn G mm_Plan_spread 52 [a0, a1, some (.ref z2), a3, a4] (.int x :: st) S P ↔ rn G mm_Plan_spread 53 [a0, a1, some (.ref z2), some (.int x), a4] st S P := rn_s dq_Plan_spread_52 rfl rfl rfl
theorem dq_Plan_spread_53 : decode (km_c mm_Plan_spread) 53 = .ok (.aload_n 0, 1) := by decide +kernel
theorem sq_Plan_spread_53 : rn G mm_Plan_spread 53 [some (.ref z), a1, a2, a3, a4] st S P ↔ rn G mm_Plan_spread 54 [some (.ref z), a1, a2, a3, a4] (.ref z :: st) S P := rn_s dq_Plan_spread_53 rfl rfl rfl
theorem dq_Plan_spread_54 : decode (km_c mm_Plan_spread) 54 = .ok (.aload_n 0, 1) := by decide +kernel
theorem sq_Plan_spread_54 : rn G mm_Plan_spread 54 [some (.ref z), a1, a2, a3, a4] st S P ↔ rn G mm_Plan_spread 55 [some (.ref z), a1, a2, a3, a4] (.ref z :: st) S P := rn_s dq_Plan_spread_54 rfl rfl rfl
theorem dq_Plan_spread_55 : decode (km_c mm_Plan_spread) 55 = .ok (.getfield 33, 3) := by decide +kernel
theorem sq_Plan_spread_55_65 (ho : sx_o o true kp) : rn (lt_G o L) mm_Plan_spread 55 lv (.ref 65 :: st) (sx true kp I A) P ↔ rn (lt_G o L) mm_Plan_spread 58 lv (.int (I 65 6) :: st) (sx true kp I A) P := rx_get (h := "") (ci := 2) (k := 6) dq_Plan_spread_55 (by decide +kernel) ho (up_p (by decide)) rfl rfl (fl_i (by decide))
theorem dq_Plan_spread_58 : decode (km_c mm_Plan_spread) 58 = .ok (.iconst 1, 1) := by decide +kernel
theorem sq_Plan_spread_58 : rn G mm_Plan_spread 58 lv st S P ↔ rn G mm_Plan_spread 59 lv (.int (nI 1) :: st) S P := rn_s dq_Plan_spread_58 rfl rfl rfl
theorem dq_Plan_spread_59 : decode (km_c mm_Plan_spread) 59 = .ok (.iadd, 1) := by decide +kernel
theorem sq_Plan_spread_59 : rn G mm_Plan_spread 59 lv (.int x2 :: .int x :: st) S P ↔ rn G mm_Plan_spread 60 lv (.int (x + x2) :: st) S P := rn_s dq_Plan_spread_59 rfl rfl rfl
theorem dq_Plan_spread_60 : decode (km_c mm_Plan_spread) 60 = .ok (.bipush 49, 2) := by decide +kernel
theorem sq_Plan_spread_60 : rn G mm_Plan_spread 60 lv st S P ↔ rn G mm_Plan_spread 62 lv (.int (nI 49) :: st) S P := rn_s dq_Plan_spread_60 rfl rfl rfl
theorem dq_Plan_spread_62 : decode (km_c mm_Plan_spread) 62 = .ok (.if_icmp .ge 12, 3) := by decide +kernel
theorem sq_Plan_spread_62 : rn G mm_Plan_spread 62 lv (.int x2 :: .int x :: st) S P ↔ ((x2 ≤ x → rn G mm_Plan_spread 74 lv st S P) ∧ (¬ (x2 ≤ x) → rn G mm_Plan_spread 65 lv st S P)) := rn_b (off := 12) dq_Plan_spread_62 rfl rfl rfl rfl
theorem dq_Plan_spread_65 : decode (km_c mm_Plan_spread) 65 = .ok (.aload_n 0, 1) := by decide +kernel
theorem sq_Plan_spread_65 : rn G mm_Plan_spread 65 [some (.ref z), a1, a2, a3, a4] st S P ↔ rn G mm_Plan_spread 66 [some (.ref z), a1, a2, a3, a4] (.ref z :: st) S P := rn_s dq_Plan_spread_65 rfl rfl rfl
theorem dq_Plan_spread_66 : decode (km_c mm_Plan_spread) 66 = .ok (.getfield 33, 3) := by decide +kernel
theorem sq_Plan_spread_66_65 (ho : sx_o o true kp) : rn (lt_G o L) mm_Plan_spread 66 lv (.ref 65 :: st) (sx true kp I A) P ↔ rn (lt_G o L) mm_Plan_spread 69 lv (.int (I 65 6) :: st) (sx true kp I A) P := rx_get (h := "") (ci := 2) (k := 6) dq_Plan_spread_66 (by decide +kernel) ho (up_p (by decide)) rfl rfl (fl_i (by decide))
theorem dq_Plan_spread_69 : decode (km_c mm_Plan_spread) 69 = .ok (.iconst 1, 1) := by decide +kernel
theorem sq_Plan_spread_69 : rn G mm_Plan_spread 69 lv st S P ↔ rn G mm_Plan_spread 70 lv (.int (nI 1) :: st) S P := rn_s dq_Plan_spread_69 rfl rfl rfl
theorem dq_Plan_spread_70 : decode (km_c mm_Plan_spread) 70 = .ok (.iadd, 1) := by decide +kernel
theorem sq_Plan_spread_70 : rn G mm_Plan_spread 70 lv (.int x2 :: .int x :: st) S P ↔ rn G mm_Plan_spread 71 lv (.int (x + x2) :: st) S P := rn_s dq_Plan_spread_70 rfl rfl rfl
theorem dq_Plan_spread_71 : decode (km_c mm_Plan_spread) 71 = .ok (.goto 4, 3) := by decide +kernel
theorem sq_Plan_spread_71 : rn G mm_Plan_spread 71 lv st S P ↔ rn G mm_Plan_spread 75 lv st S P := rn_s dq_Plan_spread_71 rfl rfl rfl
theorem dq_Plan_spread_74 : decode (km_c mm_Plan_spread) 74 = .ok (.iconst 0, 1) := by decide +kernel
theorem sq_Plan_spread_74 : rn G mm_Plan_spread 74 lv st S P ↔ rn G mm_Plan_spread 75 lv (.int (nI 0) :: st) S P := rn_s dq_Plan_spread_74 rfl rfl rfl
theorem dq_Plan_spread_75 : decode (km_c mm_Plan_spread) 75 = .ok (.putfield 33, 3) := by decide +kernel
theorem sq_Plan_spread_75_65 (ho : sx_o o true kp) : rn (lt_G o L) mm_Plan_spread 75 lv (.int x :: .ref 65 :: st) (sx true kp I A) P ↔ rn (lt_G o L) mm_Plan_spread 78 lv st (sx true kp (u2 I 65 6 x) A) P := rx_put (h := "") (ci := 2) (k := 6) dq_Plan_spread_75 (by decide +kernel) ho (up_p (by decide)) rfl rfl (by decide) (by decide)
theorem dq_Plan_spread_78 : decode (km_c mm_Plan_spread) 78 = .ok (.aload_n 0, 1) := by decide +kernel
theorem sq_Plan_spread_78 : rn G mm_Plan_spread 78 [some (.ref z), a1, a2, a3, a4] st S P ↔ rn G mm_Plan_spread 79 [some (.ref z), a1, a2, a3, a4] (.ref z :: st) S P := rn_s dq_Plan_spread_78 rfl rfl rfl
theorem dq_Plan_spread_79 : decode (km_c mm_Plan_spread) 79 = .ok (.dup, 1) := by decide +kernel
theorem sq_Plan_spread_79i : rn G mm_Plan_spread 79 lv (.int x :: st) S P ↔ rn G mm_Plan_spread 80 lv (.int x :: .int x :: st) S P := rn_s dq_Plan_spread_79 rfl rfl rfl
theorem sq_Plan_spread_79r : rn G mm_Plan_spread 79 lv (.ref z :: st) S P ↔ rn G mm_Plan_spread 80 lv (.ref z :: .ref z :: st) S P := rn_s dq_Plan_spread_79 rfl rfl rfl
theorem dq_Plan_spread_80 : decode (km_c mm_Plan_spread) 80 = .ok (.getfield 37, 3) := by decide +kernel
theorem sq_Plan_spread_80_65 (ho : sx_o o true kp) : rn (lt_G o L) mm_Plan_spread 80 lv (.ref 65 :: st) (sx true kp I A) P ↔ rn (lt_G o L) mm_Plan_spread 83 lv (.int (I 65 7) :: st) (sx true kp I A) P := rx_get (h := "") (ci := 2) (k := 7) dq_Plan_spread_80 (by decide +kernel) ho (up_p (by decide)) rfl rfl (fl_i (by decide))
theorem dq_Plan_spread_83 : decode (km_c mm_Plan_spread) 83 = .ok (.iconst 1, 1) := by decide +kernel
theorem sq_Plan_spread_83 : rn G mm_Plan_spread 83 lv st S P ↔ rn G mm_Plan_spread 84 lv (.int (nI 1) :: st) S P := rn_s dq_Plan_spread_83 rfl rfl rfl
theorem dq_Plan_spread_84 : decode (km_c mm_Plan_spread) 84 = .ok (.isub, 1) := by decide +kernel
theorem sq_Plan_spread_84 : rn G mm_Plan_spread 84 lv (.int x2 :: .int x :: st) S P ↔ rn G mm_Plan_spread 85 lv (.int (x - x2) :: st) S P := rn_s dq_Plan_spread_84 rfl rfl rfl
theorem dq_Plan_spread_85 : decode (km_c mm_Plan_spread) 85 = .ok (.putfield 37, 3) := by decide +kernel
theorem sq_Plan_spread_85_65 (ho : sx_o o true kp) : rn (lt_G o L) mm_Plan_spread 85 lv (.int x :: .ref 65 :: st) (sx true kp I A) P ↔ rn (lt_G o L) mm_Plan_spread 88 lv st (sx true kp (u2 I 65 7 x) A) P := rx_put (h := "") (ci := 2) (k := 7) dq_Plan_spread_85 (by decide +kernel) ho (up_p (by decide)) rfl rfl (by decide) (by decide)
theorem dq_Plan_spread_88 : decode (km_c mm_Plan_spread) 88 = .ok (.aload_n 0, 1) := by decide +kernel
theorem sq_Plan_spread_88 : rn G mm_Plan_spread 88 [some (.ref z), a1, a2, a3, a4] st S P ↔ rn G mm_Plan_spread 89 [some (.ref z), a1, a2, a3, a4] (.ref z :: st) S P := rn_s dq_Plan_spread_88 rfl rfl rfl
theorem dq_Plan_spread_89 : decode (km_c mm_Plan_spread) 89 = .ok (.getfield 30, 3) := by decide +kernel
theorem sq_Plan_spread_89_65 (ho : sx_o o true kp) : rn (lt_G o L) mm_Plan_spread 89 lv (.ref 65 :: st) (sx true kp I A) P ↔ rn (lt_G o L) mm_Plan_spread 92 lv (.ref 135 :: st) (sx true kp I A) P := rx_get (h := "") (ci := 2) (k := 5) dq_Plan_spread_89 (by decide +kernel) ho (up_p (by decide)) rfl rfl (fl_p (by decide) (by decide) (by decide))
theorem dq_Plan_spread_92 : decode (km_c mm_Plan_spread) 92 = .ok (.iload_n 3, 1) := by decide +kernel
theorem sq_Plan_spread_92 : rn G mm_Plan_spread 92 [a0, a1, a2, some (.int x), a4] st S P ↔ rn G mm_Plan_spread 93 [a0, a1, a2, some (.int x), a4] (.int x :: st) S P := rn_s dq_Plan_spread_92 rfl rfl rfl
theorem dq_Plan_spread_93 : decode (km_c mm_Plan_spread) 93 = .ok (.iconst 0, 1) := by decide +kernel
theorem sq_Plan_spread_93 : rn G mm_Plan_spread 93 lv st S P ↔ rn G mm_Plan_spread 94 lv (.int (nI 0) :: st) S P := rn_s dq_Plan_spread_93 rfl rfl rfl
theorem dq_Plan_spread_94 : decode (km_c mm_Plan_spread) 94 = .ok (.bastore, 1) := by decide +kernel
theorem sq_Plan_spread_94 (ho : sx_o o pl kp) (hk : ak L a = 1 ∨ ak L a = 2) (hu : sx_up pl kp a = true) (hc : c < ln L a) (hn : ln L a < 2 ^ 31) : rn (lt_G o L) mm_Plan_spread 94 lv (.int x :: .int (nI c) :: .ref a :: st) (sx pl kp I A) P ↔ rn (lt_G o L) mm_Plan_spread 95 lv st (sx pl kp I (u2 A a c (vp_nar (kx_ty (ak L a)) x))) P := rx_bst dq_Plan_spread_94 ho hk hu hc hn
theorem dq_Plan_spread_95 : decode (km_c mm_Plan_spread) 95 = .ok (.iconst 0, 1) := by decide +kernel
theorem sq_Plan_spread_95 : rn G mm_Plan_spread 95 lv st S P ↔ rn G mm_Plan_spread 96 lv (.int (nI 0) :: st) S P := rn_s dq_Plan_spread_95 rfl rfl rfl
theorem dq_Plan_spread_96 : decode (km_c mm_Plan_spread) 96 = .ok (.istore 4, 2) := by decide +kernel
theorem sq_Plan_spread_96n : rn G mm_Plan_spread 96 [a0, a1, a2, none, a4] (.int x :: st) S P ↔ rn G mm_Plan_spread 98 [a0, a1, a2, none, some (.int x)] st S P := rn_s dq_Plan_spread_96 rfl rfl rfl
theorem sq_Plan_spread_96i : rn G mm_Plan_spread 96 [a0, a1, a2, some (.int x2), a4] (.int x :: st) S P ↔ rn G mm_Plan_spread 98 [a0, a1, a2, some (.int x2), some (.int x)] st S P := rn_s dq_Plan_spread_96 rfl rfl rfl
theorem sq_Plan_spread_96r : rn G mm_Plan_spread 96 [a0, a1, a2, some (.ref z2), a4] (.int x :: st) S P ↔ rn G mm_Plan_spread 98 [a0, a1, a2, some (.ref z2), some (.int x)] st S P := rn_s dq_Plan_spread_96 rfl rfl rfl
theorem dq_Plan_spread_98 : decode (km_c mm_Plan_spread) 98 = .ok (.iload 4, 2) := by decide +kernel
theorem sq_Plan_spread_98 : rn G mm_Plan_spread 98 [a0, a1, a2, a3, some (.int x)] st S P ↔ rn G mm_Plan_spread 100 [a0, a1, a2, a3, some (.int x)] (.int x :: st) S P := rn_s dq_Plan_spread_98 rfl rfl rfl
theorem dq_Plan_spread_100 : decode (km_c mm_Plan_spread) 100 = .ok (.iconst 4, 1) := by decide +kernel
theorem sq_Plan_spread_100 : rn G mm_Plan_spread 100 lv st S P ↔ rn G mm_Plan_spread 101 lv (.int (nI 4) :: st) S P := rn_s dq_Plan_spread_100 rfl rfl rfl
theorem dq_Plan_spread_101 : decode (km_c mm_Plan_spread) 101 = .ok (.if_icmp .ge 23, 3) := by decide +kernel
theorem sq_Plan_spread_101 : rn G mm_Plan_spread 101 lv (.int x2 :: .int x :: st) S P ↔ ((x2 ≤ x → rn G mm_Plan_spread 124 lv st S P) ∧ (¬ (x2 ≤ x) → rn G mm_Plan_spread 104 lv st S P)) := rn_b (off := 23) dq_Plan_spread_101 rfl rfl rfl rfl
theorem dq_Plan_spread_104 : decode (km_c mm_Plan_spread) 104 = .ok (.aload_n 0, 1) := by decide +kernel
theorem sq_Plan_spread_104 : rn G mm_Plan_spread 104 [some (.ref z), a1, a2, a3, a4] st S P ↔ rn G mm_Plan_spread 105 [some (.ref z), a1, a2, a3, a4] (.ref z :: st) S P := rn_s dq_Plan_spread_104 rfl rfl rfl
theorem dq_Plan_spread_105 : decode (km_c mm_Plan_spread) 105 = .ok (.aload_n 1, 1) := by decide +kernel
theorem sq_Plan_spread_105 : rn G mm_Plan_spread 105 [a0, some (.ref z), a2, a3, a4] st S P ↔ rn G mm_Plan_spread 106 [a0, some (.ref z), a2, a3, a4] (.ref z :: st) S P := rn_s dq_Plan_spread_105 rfl rfl rfl
theorem dq_Plan_spread_106 : decode (km_c mm_Plan_spread) 106 = .ok (.iload_n 3, 1) := by decide +kernel
theorem sq_Plan_spread_106 : rn G mm_Plan_spread 106 [a0, a1, a2, some (.int x), a4] st S P ↔ rn G mm_Plan_spread 107 [a0, a1, a2, some (.int x), a4] (.int x :: st) S P := rn_s dq_Plan_spread_106 rfl rfl rfl
theorem dq_Plan_spread_107 : decode (km_c mm_Plan_spread) 107 = .ok (.iload 4, 2) := by decide +kernel
theorem sq_Plan_spread_107 : rn G mm_Plan_spread 107 [a0, a1, a2, a3, some (.int x)] st S P ↔ rn G mm_Plan_spread 109 [a0, a1, a2, a3, some (.int x)] (.int x :: st) S P := rn_s dq_Plan_spread_107 rfl rfl rfl
theorem dq_Plan_spread_109 : decode (km_c mm_Plan_spread) 109 = .ok (.invokestatic 74, 3) := by decide +kernel
theorem sq_Plan_spread_109 {x1 : Int32} {x2 : Int32} {v : Option Value} {S2 : ks_S} (hc : ev G mm_Road_cellAt [.int x1, .int x2] S v S2) (hst : kx_cat st ≤ 8) : rn G mm_Plan_spread 109 lv (.int x2 :: .int x1 :: st) S P ↔ rn G mm_Plan_spread 112 lv (v.toList ++ st) S2 P := rn_cs (k := 1) (host := "DeltaRoad") (E' := mm_Road_cellAt) dq_Plan_spread_109 (by decide) (by decide) rfl (ok_v rfl (by decide) (by decide) (Nat.le_add_left _ _) hst (Nat.le_of_ble_eq_true rfl) (Or.inl rfl)) rfl rfl hc
theorem dq_Plan_spread_112 : decode (km_c mm_Plan_spread) 112 = .ok (.aload_n 1, 1) := by decide +kernel
theorem sq_Plan_spread_112 : rn G mm_Plan_spread 112 [a0, some (.ref z), a2, a3, a4] st S P ↔ rn G mm_Plan_spread 113 [a0, some (.ref z), a2, a3, a4] (.ref z :: st) S P := rn_s dq_Plan_spread_112 rfl rfl rfl
theorem dq_Plan_spread_113 : decode (km_c mm_Plan_spread) 113 = .ok (.iload_n 3, 1) := by decide +kernel
theorem sq_Plan_spread_113 : rn G mm_Plan_spread 113 [a0, a1, a2, some (.int x), a4] st S P ↔ rn G mm_Plan_spread 114 [a0, a1, a2, some (.int x), a4] (.int x :: st) S P := rn_s dq_Plan_spread_113 rfl rfl rfl
theorem dq_Plan_spread_114 : decode (km_c mm_Plan_spread) 114 = .ok (.iaload, 1) := by decide +kernel
theorem sq_Plan_spread_114 (ho : sx_o o pl kp) (hk : ak L a = 0) (hu : sx_up pl kp a = true ∨ 1000 ≤ a) (hc : c < ln L a) (hn : ln L a < 2 ^ 31) : rn (lt_G o L) mm_Plan_spread 114 lv (.int (nI c) :: .ref a :: st) (sx pl kp I A) P ↔ rn (lt_G o L) mm_Plan_spread 115 lv (.int (A a c) :: st) (sx pl kp I A) P := rx_ild dq_Plan_spread_114 ho hk hu hc hn
theorem dq_Plan_spread_115 : decode (km_c mm_Plan_spread) 115 = .ok (.invokevirtual 94, 3) := by decide +kernel
theorem sq_Plan_spread_115_65 {z1 : Nat} {x2 : Int32} {x3 : Int32} {v : Option Value} {S2 : ks_S} (hc : ev (lt_G o L) mm_Plan_ease [.ref 65, .ref z1, .int x2, .int x3] (sx true kp I A) v S2) (ho : sx_o o true kp) (hst : kx_cat st ≤ 8) : rn (lt_G o L) mm_Plan_spread 115 lv (.int x3 :: .int x2 :: .ref z1 :: .ref 65 :: st) (sx true kp I A) P ↔ rn (lt_G o L) mm_Plan_spread 118 lv (v.toList ++ st) S2 P := rn_cv (k := 0) (host := "") (E' := mm_Plan_ease) dq_Plan_spread_115 rfl (ok_v rfl (by decide) (by decide) (Nat.le_add_left _ _) hst (Nat.le_of_ble_eq_true rfl) (Or.inr (rc_v ho (up_p (by decide)) rfl))) rfl rfl hc
theorem dq_Plan_spread_118 : decode (km_c mm_Plan_spread) 118 = .ok (.iinc 4 1, 3) := by decide +kernel
theorem sq_Plan_spread_118n : rn G mm_Plan_spread 118 [a0, a1, a2, none, some (.int x)] st S P ↔ rn G mm_Plan_spread 121 [a0, a1, a2, none, some (.int (x + nI 1))] st S P := rn_s dq_Plan_spread_118 rfl rfl rfl
theorem sq_Plan_spread_118i : rn G mm_Plan_spread 118 [a0, a1, a2, some (.int x2), some (.int x)] st S P ↔ rn G mm_Plan_spread 121 [a0, a1, a2, some (.int x2), some (.int (x + nI 1))] st S P := rn_s dq_Plan_spread_118 rfl rfl rfl
theorem sq_Plan_spread_118r : rn G mm_Plan_spread 118 [a0, a1, a2, some (.ref z2), some (.int x)] st S P ↔ rn G mm_Plan_spread 121 [a0, a1, a2, some (.ref z2), some (.int (x + nI 1))] st S P := rn_s dq_Plan_spread_118 rfl rfl rfl
theorem dq_Plan_spread_121 : decode (km_c mm_Plan_spread) 121 = .ok (.goto (-23), 3) := by decide +kernel
theorem sq_Plan_spread_121 : rn G mm_Plan_spread 121 lv st S P ↔ rn G mm_Plan_spread 98 lv st S P := rn_s dq_Plan_spread_121 rfl rfl rfl
theorem dq_Plan_spread_124 : decode (km_c mm_Plan_spread) 124 = .ok (.iinc 2 1, 3) := by decide +kernel
theorem sq_Plan_spread_124n : rn G mm_Plan_spread 124 [a0, none, some (.int x), a3, a4] st S P ↔ rn G mm_Plan_spread 127 [a0, none, some (.int (x + nI 1)), a3, a4] st S P := rn_s dq_Plan_spread_124 rfl rfl rfl
theorem sq_Plan_spread_124i : rn G mm_Plan_spread 124 [a0, some (.int x2), some (.int x), a3, a4] st S P ↔ rn G mm_Plan_spread 127 [a0, some (.int x2), some (.int (x + nI 1)), a3, a4] st S P := rn_s dq_Plan_spread_124 rfl rfl rfl
theorem sq_Plan_spread_124r : rn G mm_Plan_spread 124 [a0, some (.ref z2), some (.int x), a3, a4] st S P ↔ rn G mm_Plan_spread 127 [a0, some (.ref z2), some (.int (x + nI 1)), a3, a4] st S P := rn_s dq_Plan_spread_124 rfl rfl rfl
theorem dq_Plan_spread_127 : decode (km_c mm_Plan_spread) 127 = .ok (.goto (-98), 3) := by decide +kernel
theorem sq_Plan_spread_127 : rn G mm_Plan_spread 127 lv st S P ↔ rn G mm_Plan_spread 29 lv st S P := rn_s dq_Plan_spread_127 rfl rfl rfl
theorem dq_Plan_spread_130 : decode (km_c mm_Plan_spread) 130 = .ok (.return_, 1) := by decide +kernel
theorem sq_Plan_spread_130 : rn G mm_Plan_spread 130 lv [] S P ↔ P none S := rn_vr dq_Plan_spread_130 rfl
theorem dq_Plan_queueUp_0 : decode (km_c mm_Plan_queueUp) 0 = .ok (.aload_n 0, 1) := by decide +kernel
theorem sq_Plan_queueUp_0 : rn G mm_Plan_queueUp 0 [some (.ref z), a1] st S P ↔ rn G mm_Plan_queueUp 1 [some (.ref z), a1] (.ref z :: st) S P := rn_s dq_Plan_queueUp_0 rfl rfl rfl
theorem dq_Plan_queueUp_1 : decode (km_c mm_Plan_queueUp) 1 = .ok (.getfield 30, 3) := by decide +kernel
theorem sq_Plan_queueUp_1_65 (ho : sx_o o true kp) : rn (lt_G o L) mm_Plan_queueUp 1 lv (.ref 65 :: st) (sx true kp I A) P ↔ rn (lt_G o L) mm_Plan_queueUp 4 lv (.ref 135 :: st) (sx true kp I A) P := rx_get (h := "") (ci := 2) (k := 5) dq_Plan_queueUp_1 (by decide +kernel) ho (up_p (by decide)) rfl rfl (fl_p (by decide) (by decide) (by decide))
theorem dq_Plan_queueUp_4 : decode (km_c mm_Plan_queueUp) 4 = .ok (.iload_n 1, 1) := by decide +kernel
theorem sq_Plan_queueUp_4 : rn G mm_Plan_queueUp 4 [a0, some (.int x)] st S P ↔ rn G mm_Plan_queueUp 5 [a0, some (.int x)] (.int x :: st) S P := rn_s dq_Plan_queueUp_4 rfl rfl rfl
theorem dq_Plan_queueUp_5 : decode (km_c mm_Plan_queueUp) 5 = .ok (.baload, 1) := by decide +kernel
theorem sq_Plan_queueUp_5 (ho : sx_o o pl kp) (hk : ak L a = 1 ∨ ak L a = 2) (hu : sx_up pl kp a = true) (hc : c < ln L a) (hn : ln L a < 2 ^ 31) : rn (lt_G o L) mm_Plan_queueUp 5 lv (.int (nI c) :: .ref a :: st) (sx pl kp I A) P ↔ rn (lt_G o L) mm_Plan_queueUp 6 lv (.int (A a c) :: st) (sx pl kp I A) P := rx_bld dq_Plan_queueUp_5 ho hk hu hc hn
theorem dq_Plan_queueUp_6 : decode (km_c mm_Plan_queueUp) 6 = .ok (.ifCond .ne 47, 3) := by decide +kernel
theorem sq_Plan_queueUp_6 : rn G mm_Plan_queueUp 6 lv (.int x :: st) S P ↔ ((¬ x = 0 → rn G mm_Plan_queueUp 53 lv st S P) ∧ (¬ (¬ x = 0) → rn G mm_Plan_queueUp 9 lv st S P)) := rn_b (off := 47) dq_Plan_queueUp_6 rfl rfl rfl rfl
theorem dq_Plan_queueUp_9 : decode (km_c mm_Plan_queueUp) 9 = .ok (.aload_n 0, 1) := by decide +kernel
theorem sq_Plan_queueUp_9 : rn G mm_Plan_queueUp 9 [some (.ref z), a1] st S P ↔ rn G mm_Plan_queueUp 10 [some (.ref z), a1] (.ref z :: st) S P := rn_s dq_Plan_queueUp_9 rfl rfl rfl
theorem dq_Plan_queueUp_10 : decode (km_c mm_Plan_queueUp) 10 = .ok (.getfield 37, 3) := by decide +kernel
theorem sq_Plan_queueUp_10_65 (ho : sx_o o true kp) : rn (lt_G o L) mm_Plan_queueUp 10 lv (.ref 65 :: st) (sx true kp I A) P ↔ rn (lt_G o L) mm_Plan_queueUp 13 lv (.int (I 65 7) :: st) (sx true kp I A) P := rx_get (h := "") (ci := 2) (k := 7) dq_Plan_queueUp_10 (by decide +kernel) ho (up_p (by decide)) rfl rfl (fl_i (by decide))
theorem dq_Plan_queueUp_13 : decode (km_c mm_Plan_queueUp) 13 = .ok (.bipush 49, 2) := by decide +kernel
theorem sq_Plan_queueUp_13 : rn G mm_Plan_queueUp 13 lv st S P ↔ rn G mm_Plan_queueUp 15 lv (.int (nI 49) :: st) S P := rn_s dq_Plan_queueUp_13 rfl rfl rfl
theorem dq_Plan_queueUp_15 : decode (km_c mm_Plan_queueUp) 15 = .ok (.if_icmp .ge 38, 3) := by decide +kernel
theorem sq_Plan_queueUp_15 : rn G mm_Plan_queueUp 15 lv (.int x2 :: .int x :: st) S P ↔ ((x2 ≤ x → rn G mm_Plan_queueUp 53 lv st S P) ∧ (¬ (x2 ≤ x) → rn G mm_Plan_queueUp 18 lv st S P)) := rn_b (off := 38) dq_Plan_queueUp_15 rfl rfl rfl rfl
theorem dq_Plan_queueUp_18 : decode (km_c mm_Plan_queueUp) 18 = .ok (.aload_n 0, 1) := by decide +kernel
theorem sq_Plan_queueUp_18 : rn G mm_Plan_queueUp 18 [some (.ref z), a1] st S P ↔ rn G mm_Plan_queueUp 19 [some (.ref z), a1] (.ref z :: st) S P := rn_s dq_Plan_queueUp_18 rfl rfl rfl
theorem dq_Plan_queueUp_19 : decode (km_c mm_Plan_queueUp) 19 = .ok (.getfield 30, 3) := by decide +kernel
theorem sq_Plan_queueUp_19_65 (ho : sx_o o true kp) : rn (lt_G o L) mm_Plan_queueUp 19 lv (.ref 65 :: st) (sx true kp I A) P ↔ rn (lt_G o L) mm_Plan_queueUp 22 lv (.ref 135 :: st) (sx true kp I A) P := rx_get (h := "") (ci := 2) (k := 5) dq_Plan_queueUp_19 (by decide +kernel) ho (up_p (by decide)) rfl rfl (fl_p (by decide) (by decide) (by decide))
theorem dq_Plan_queueUp_22 : decode (km_c mm_Plan_queueUp) 22 = .ok (.iload_n 1, 1) := by decide +kernel
theorem sq_Plan_queueUp_22 : rn G mm_Plan_queueUp 22 [a0, some (.int x)] st S P ↔ rn G mm_Plan_queueUp 23 [a0, some (.int x)] (.int x :: st) S P := rn_s dq_Plan_queueUp_22 rfl rfl rfl
theorem dq_Plan_queueUp_23 : decode (km_c mm_Plan_queueUp) 23 = .ok (.iconst 1, 1) := by decide +kernel
theorem sq_Plan_queueUp_23 : rn G mm_Plan_queueUp 23 lv st S P ↔ rn G mm_Plan_queueUp 24 lv (.int (nI 1) :: st) S P := rn_s dq_Plan_queueUp_23 rfl rfl rfl
theorem dq_Plan_queueUp_24 : decode (km_c mm_Plan_queueUp) 24 = .ok (.bastore, 1) := by decide +kernel
theorem sq_Plan_queueUp_24 (ho : sx_o o pl kp) (hk : ak L a = 1 ∨ ak L a = 2) (hu : sx_up pl kp a = true) (hc : c < ln L a) (hn : ln L a < 2 ^ 31) : rn (lt_G o L) mm_Plan_queueUp 24 lv (.int x :: .int (nI c) :: .ref a :: st) (sx pl kp I A) P ↔ rn (lt_G o L) mm_Plan_queueUp 25 lv st (sx pl kp I (u2 A a c (vp_nar (kx_ty (ak L a)) x))) P := rx_bst dq_Plan_queueUp_24 ho hk hu hc hn
theorem dq_Plan_queueUp_25 : decode (km_c mm_Plan_queueUp) 25 = .ok (.aload_n 0, 1) := by decide +kernel
theorem sq_Plan_queueUp_25 : rn G mm_Plan_queueUp 25 [some (.ref z), a1] st S P ↔ rn G mm_Plan_queueUp 26 [some (.ref z), a1] (.ref z :: st) S P := rn_s dq_Plan_queueUp_25 rfl rfl rfl
theorem dq_Plan_queueUp_26 : decode (km_c mm_Plan_queueUp) 26 = .ok (.getfield 27, 3) := by decide +kernel
theorem sq_Plan_queueUp_26_65 (ho : sx_o o true kp) : rn (lt_G o L) mm_Plan_queueUp 26 lv (.ref 65 :: st) (sx true kp I A) P ↔ rn (lt_G o L) mm_Plan_queueUp 29 lv (.ref 134 :: st) (sx true kp I A) P := rx_get (h := "") (ci := 2) (k := 4) dq_Plan_queueUp_26 (by decide +kernel) ho (up_p (by decide)) rfl rfl (fl_p (by decide) (by decide) (by decide))
theorem dq_Plan_queueUp_29 : decode (km_c mm_Plan_queueUp) 29 = .ok (.aload_n 0, 1) := by decide +kernel
theorem sq_Plan_queueUp_29 : rn G mm_Plan_queueUp 29 [some (.ref z), a1] st S P ↔ rn G mm_Plan_queueUp 30 [some (.ref z), a1] (.ref z :: st) S P := rn_s dq_Plan_queueUp_29 rfl rfl rfl
theorem dq_Plan_queueUp_30 : decode (km_c mm_Plan_queueUp) 30 = .ok (.getfield 33, 3) := by decide +kernel
theorem sq_Plan_queueUp_30_65 (ho : sx_o o true kp) : rn (lt_G o L) mm_Plan_queueUp 30 lv (.ref 65 :: st) (sx true kp I A) P ↔ rn (lt_G o L) mm_Plan_queueUp 33 lv (.int (I 65 6) :: st) (sx true kp I A) P := rx_get (h := "") (ci := 2) (k := 6) dq_Plan_queueUp_30 (by decide +kernel) ho (up_p (by decide)) rfl rfl (fl_i (by decide))
theorem dq_Plan_queueUp_33 : decode (km_c mm_Plan_queueUp) 33 = .ok (.aload_n 0, 1) := by decide +kernel
theorem sq_Plan_queueUp_33 : rn G mm_Plan_queueUp 33 [some (.ref z), a1] st S P ↔ rn G mm_Plan_queueUp 34 [some (.ref z), a1] (.ref z :: st) S P := rn_s dq_Plan_queueUp_33 rfl rfl rfl
theorem dq_Plan_queueUp_34 : decode (km_c mm_Plan_queueUp) 34 = .ok (.getfield 37, 3) := by decide +kernel
theorem sq_Plan_queueUp_34_65 (ho : sx_o o true kp) : rn (lt_G o L) mm_Plan_queueUp 34 lv (.ref 65 :: st) (sx true kp I A) P ↔ rn (lt_G o L) mm_Plan_queueUp 37 lv (.int (I 65 7) :: st) (sx true kp I A) P := rx_get (h := "") (ci := 2) (k := 7) dq_Plan_queueUp_34 (by decide +kernel) ho (up_p (by decide)) rfl rfl (fl_i (by decide))
theorem dq_Plan_queueUp_37 : decode (km_c mm_Plan_queueUp) 37 = .ok (.iadd, 1) := by decide +kernel
theorem sq_Plan_queueUp_37 : rn G mm_Plan_queueUp 37 lv (.int x2 :: .int x :: st) S P ↔ rn G mm_Plan_queueUp 38 lv (.int (x + x2) :: st) S P := rn_s dq_Plan_queueUp_37 rfl rfl rfl
theorem dq_Plan_queueUp_38 : decode (km_c mm_Plan_queueUp) 38 = .ok (.bipush 49, 2) := by decide +kernel
theorem sq_Plan_queueUp_38 : rn G mm_Plan_queueUp 38 lv st S P ↔ rn G mm_Plan_queueUp 40 lv (.int (nI 49) :: st) S P := rn_s dq_Plan_queueUp_38 rfl rfl rfl
theorem dq_Plan_queueUp_40 : decode (km_c mm_Plan_queueUp) 40 = .ok (.irem, 1) := by decide +kernel
theorem sq_Plan_queueUp_40 (hz : ¬ x2 = 0) : rn G mm_Plan_queueUp 40 lv (.int x2 :: .int x :: st) S P ↔ rn G mm_Plan_queueUp 41 lv (.int (x - x / x2 * x2) :: st) S P := rn_s dq_Plan_queueUp_40 rfl rfl (if_neg hz)
theorem dq_Plan_queueUp_41 : decode (km_c mm_Plan_queueUp) 41 = .ok (.iload_n 1, 1) := by decide +kernel
theorem sq_Plan_queueUp_41 : rn G mm_Plan_queueUp 41 [a0, some (.int x)] st S P ↔ rn G mm_Plan_queueUp 42 [a0, some (.int x)] (.int x :: st) S P := rn_s dq_Plan_queueUp_41 rfl rfl rfl
theorem dq_Plan_queueUp_42 : decode (km_c mm_Plan_queueUp) 42 = .ok (.iastore, 1) := by decide +kernel
theorem sq_Plan_queueUp_42 (ho : sx_o o pl kp) (hk : ak L a = 0) (hu : sx_up pl kp a = true) (hc : c < ln L a) (hn : ln L a < 2 ^ 31) : rn (lt_G o L) mm_Plan_queueUp 42 lv (.int x :: .int (nI c) :: .ref a :: st) (sx pl kp I A) P ↔ rn (lt_G o L) mm_Plan_queueUp 43 lv st (sx pl kp I (u2 A a c x)) P := rx_ist dq_Plan_queueUp_42 ho hk hu hc hn
theorem dq_Plan_queueUp_43 : decode (km_c mm_Plan_queueUp) 43 = .ok (.aload_n 0, 1) := by decide +kernel
theorem sq_Plan_queueUp_43 : rn G mm_Plan_queueUp 43 [some (.ref z), a1] st S P ↔ rn G mm_Plan_queueUp 44 [some (.ref z), a1] (.ref z :: st) S P := rn_s dq_Plan_queueUp_43 rfl rfl rfl
theorem dq_Plan_queueUp_44 : decode (km_c mm_Plan_queueUp) 44 = .ok (.dup, 1) := by decide +kernel
theorem sq_Plan_queueUp_44i : rn G mm_Plan_queueUp 44 lv (.int x :: st) S P ↔ rn G mm_Plan_queueUp 45 lv (.int x :: .int x :: st) S P := rn_s dq_Plan_queueUp_44 rfl rfl rfl
theorem sq_Plan_queueUp_44r : rn G mm_Plan_queueUp 44 lv (.ref z :: st) S P ↔ rn G mm_Plan_queueUp 45 lv (.ref z :: .ref z :: st) S P := rn_s dq_Plan_queueUp_44 rfl rfl rfl
theorem dq_Plan_queueUp_45 : decode (km_c mm_Plan_queueUp) 45 = .ok (.getfield 37, 3) := by decide +kernel
theorem sq_Plan_queueUp_45_65 (ho : sx_o o true kp) : rn (lt_G o L) mm_Plan_queueUp 45 lv (.ref 65 :: st) (sx true kp I A) P ↔ rn (lt_G o L) mm_Plan_queueUp 48 lv (.int (I 65 7) :: st) (sx true kp I A) P := rx_get (h := "") (ci := 2) (k := 7) dq_Plan_queueUp_45 (by decide +kernel) ho (up_p (by decide)) rfl rfl (fl_i (by decide))
theorem dq_Plan_queueUp_48 : decode (km_c mm_Plan_queueUp) 48 = .ok (.iconst 1, 1) := by decide +kernel
theorem sq_Plan_queueUp_48 : rn G mm_Plan_queueUp 48 lv st S P ↔ rn G mm_Plan_queueUp 49 lv (.int (nI 1) :: st) S P := rn_s dq_Plan_queueUp_48 rfl rfl rfl
theorem dq_Plan_queueUp_49 : decode (km_c mm_Plan_queueUp) 49 = .ok (.iadd, 1) := by decide +kernel
theorem sq_Plan_queueUp_49 : rn G mm_Plan_queueUp 49 lv (.int x2 :: .int x :: st) S P ↔ rn G mm_Plan_queueUp 50 lv (.int (x + x2) :: st) S P := rn_s dq_Plan_queueUp_49 rfl rfl rfl
theorem dq_Plan_queueUp_50 : decode (km_c mm_Plan_queueUp) 50 = .ok (.putfield 37, 3) := by decide +kernel
theorem sq_Plan_queueUp_50_65 (ho : sx_o o true kp) : rn (lt_G o L) mm_Plan_queueUp 50 lv (.int x :: .ref 65 :: st) (sx true kp I A) P ↔ rn (lt_G o L) mm_Plan_queueUp 53 lv st (sx true kp (u2 I 65 7 x) A) P := rx_put (h := "") (ci := 2) (k := 7) dq_Plan_queueUp_50 (by decide +kernel) ho (up_p (by decide)) rfl rfl (by decide) (by decide)
theorem dq_Plan_queueUp_53 : decode (km_c mm_Plan_queueUp) 53 = .ok (.return_, 1) := by decide +kernel
theorem sq_Plan_queueUp_53 : rn G mm_Plan_queueUp 53 lv [] S P ↔ P none S := rn_vr dq_Plan_queueUp_53 rfl
theorem dq_Plan_ease_0 : decode (km_c mm_Plan_ease) 0 = .ok (.iload_n 2, 1) := by decide +kernel
theorem sq_Plan_ease_0 : rn G mm_Plan_ease 0 [a0, a1, some (.int x), a3] st S P ↔ rn G mm_Plan_ease 1 [a0, a1, some (.int x), a3] (.int x :: st) S P := rn_s dq_Plan_ease_0 rfl rfl rfl
theorem dq_Plan_ease_1 : decode (km_c mm_Plan_ease) 1 = .ok (.ifCond .lt 33, 3) := by decide +kernel
theorem sq_Plan_ease_1 : rn G mm_Plan_ease 1 lv (.int x :: st) S P ↔ ((x < 0 → rn G mm_Plan_ease 34 lv st S P) ∧ (¬ (x < 0) → rn G mm_Plan_ease 4 lv st S P)) := rn_b (off := 33) dq_Plan_ease_1 rfl rfl rfl rfl
theorem dq_Plan_ease_4 : decode (km_c mm_Plan_ease) 4 = .ok (.iload_n 3, 1) := by decide +kernel
theorem sq_Plan_ease_4 : rn G mm_Plan_ease 4 [a0, a1, a2, some (.int x)] st S P ↔ rn G mm_Plan_ease 5 [a0, a1, a2, some (.int x)] (.int x :: st) S P := rn_s dq_Plan_ease_4 rfl rfl rfl
theorem dq_Plan_ease_5 : decode (km_c mm_Plan_ease) 5 = .ok (.aload_n 0, 1) := by decide +kernel
theorem sq_Plan_ease_5 : rn G mm_Plan_ease 5 [some (.ref z), a1, a2, a3] st S P ↔ rn G mm_Plan_ease 6 [some (.ref z), a1, a2, a3] (.ref z :: st) S P := rn_s dq_Plan_ease_5 rfl rfl rfl
theorem dq_Plan_ease_6 : decode (km_c mm_Plan_ease) 6 = .ok (.getfield 9, 3) := by decide +kernel
theorem sq_Plan_ease_6_65 (ho : sx_o o true kp) : rn (lt_G o L) mm_Plan_ease 6 lv (.ref 65 :: st) (sx true kp I A) P ↔ rn (lt_G o L) mm_Plan_ease 9 lv (.ref 66 :: st) (sx true kp I A) P := rx_get (h := "") (ci := 2) (k := 0) dq_Plan_ease_6 (by decide +kernel) ho (up_p (by decide)) rfl rfl (fl_p (by decide) (by decide) (by decide))
theorem dq_Plan_ease_9 : decode (km_c mm_Plan_ease) 9 = .ok (.iload_n 2, 1) := by decide +kernel
theorem sq_Plan_ease_9 : rn G mm_Plan_ease 9 [a0, a1, some (.int x), a3] st S P ↔ rn G mm_Plan_ease 10 [a0, a1, some (.int x), a3] (.int x :: st) S P := rn_s dq_Plan_ease_9 rfl rfl rfl
theorem dq_Plan_ease_10 : decode (km_c mm_Plan_ease) 10 = .ok (.iaload, 1) := by decide +kernel
theorem sq_Plan_ease_10 (ho : sx_o o pl kp) (hk : ak L a = 0) (hu : sx_up pl kp a = true ∨ 1000 ≤ a) (hc : c < ln L a) (hn : ln L a < 2 ^ 31) : rn (lt_G o L) mm_Plan_ease 10 lv (.int (nI c) :: .ref a :: st) (sx pl kp I A) P ↔ rn (lt_G o L) mm_Plan_ease 11 lv (.int (A a c) :: st) (sx pl kp I A) P := rx_ild dq_Plan_ease_10 ho hk hu hc hn
theorem dq_Plan_ease_11 : decode (km_c mm_Plan_ease) 11 = .ok (.iadd, 1) := by decide +kernel
theorem sq_Plan_ease_11 : rn G mm_Plan_ease 11 lv (.int x2 :: .int x :: st) S P ↔ rn G mm_Plan_ease 12 lv (.int (x + x2) :: st) S P := rn_s dq_Plan_ease_11 rfl rfl rfl
theorem dq_Plan_ease_12 : decode (km_c mm_Plan_ease) 12 = .ok (.aload_n 1, 1) := by decide +kernel
theorem sq_Plan_ease_12 : rn G mm_Plan_ease 12 [a0, some (.ref z), a2, a3] st S P ↔ rn G mm_Plan_ease 13 [a0, some (.ref z), a2, a3] (.ref z :: st) S P := rn_s dq_Plan_ease_12 rfl rfl rfl
theorem dq_Plan_ease_13 : decode (km_c mm_Plan_ease) 13 = .ok (.iload_n 2, 1) := by decide +kernel
theorem sq_Plan_ease_13 : rn G mm_Plan_ease 13 [a0, a1, some (.int x), a3] st S P ↔ rn G mm_Plan_ease 14 [a0, a1, some (.int x), a3] (.int x :: st) S P := rn_s dq_Plan_ease_13 rfl rfl rfl
theorem dq_Plan_ease_14 : decode (km_c mm_Plan_ease) 14 = .ok (.iaload, 1) := by decide +kernel
theorem sq_Plan_ease_14 (ho : sx_o o pl kp) (hk : ak L a = 0) (hu : sx_up pl kp a = true ∨ 1000 ≤ a) (hc : c < ln L a) (hn : ln L a < 2 ^ 31) : rn (lt_G o L) mm_Plan_ease 14 lv (.int (nI c) :: .ref a :: st) (sx pl kp I A) P ↔ rn (lt_G o L) mm_Plan_ease 15 lv (.int (A a c) :: st) (sx pl kp I A) P := rx_ild dq_Plan_ease_14 ho hk hu hc hn
theorem dq_Plan_ease_15 : decode (km_c mm_Plan_ease) 15 = .ok (.if_icmp .ge 19, 3) := by decide +kernel
theorem sq_Plan_ease_15 : rn G mm_Plan_ease 15 lv (.int x2 :: .int x :: st) S P ↔ ((x2 ≤ x → rn G mm_Plan_ease 34 lv st S P) ∧ (¬ (x2 ≤ x) → rn G mm_Plan_ease 18 lv st S P)) := rn_b (off := 19) dq_Plan_ease_15 rfl rfl rfl rfl
theorem dq_Plan_ease_18 : decode (km_c mm_Plan_ease) 18 = .ok (.aload_n 1, 1) := by decide +kernel
theorem sq_Plan_ease_18 : rn G mm_Plan_ease 18 [a0, some (.ref z), a2, a3] st S P ↔ rn G mm_Plan_ease 19 [a0, some (.ref z), a2, a3] (.ref z :: st) S P := rn_s dq_Plan_ease_18 rfl rfl rfl
theorem dq_Plan_ease_19 : decode (km_c mm_Plan_ease) 19 = .ok (.iload_n 2, 1) := by decide +kernel
theorem sq_Plan_ease_19 : rn G mm_Plan_ease 19 [a0, a1, some (.int x), a3] st S P ↔ rn G mm_Plan_ease 20 [a0, a1, some (.int x), a3] (.int x :: st) S P := rn_s dq_Plan_ease_19 rfl rfl rfl
theorem dq_Plan_ease_20 : decode (km_c mm_Plan_ease) 20 = .ok (.iload_n 3, 1) := by decide +kernel
theorem sq_Plan_ease_20 : rn G mm_Plan_ease 20 [a0, a1, a2, some (.int x)] st S P ↔ rn G mm_Plan_ease 21 [a0, a1, a2, some (.int x)] (.int x :: st) S P := rn_s dq_Plan_ease_20 rfl rfl rfl
theorem dq_Plan_ease_21 : decode (km_c mm_Plan_ease) 21 = .ok (.aload_n 0, 1) := by decide +kernel
theorem sq_Plan_ease_21 : rn G mm_Plan_ease 21 [some (.ref z), a1, a2, a3] st S P ↔ rn G mm_Plan_ease 22 [some (.ref z), a1, a2, a3] (.ref z :: st) S P := rn_s dq_Plan_ease_21 rfl rfl rfl
theorem dq_Plan_ease_22 : decode (km_c mm_Plan_ease) 22 = .ok (.getfield 9, 3) := by decide +kernel
theorem sq_Plan_ease_22_65 (ho : sx_o o true kp) : rn (lt_G o L) mm_Plan_ease 22 lv (.ref 65 :: st) (sx true kp I A) P ↔ rn (lt_G o L) mm_Plan_ease 25 lv (.ref 66 :: st) (sx true kp I A) P := rx_get (h := "") (ci := 2) (k := 0) dq_Plan_ease_22 (by decide +kernel) ho (up_p (by decide)) rfl rfl (fl_p (by decide) (by decide) (by decide))
theorem dq_Plan_ease_25 : decode (km_c mm_Plan_ease) 25 = .ok (.iload_n 2, 1) := by decide +kernel
theorem sq_Plan_ease_25 : rn G mm_Plan_ease 25 [a0, a1, some (.int x), a3] st S P ↔ rn G mm_Plan_ease 26 [a0, a1, some (.int x), a3] (.int x :: st) S P := rn_s dq_Plan_ease_25 rfl rfl rfl
theorem dq_Plan_ease_26 : decode (km_c mm_Plan_ease) 26 = .ok (.iaload, 1) := by decide +kernel
theorem sq_Plan_ease_26 (ho : sx_o o pl kp) (hk : ak L a = 0) (hu : sx_up pl kp a = true ∨ 1000 ≤ a) (hc : c < ln L a) (hn : ln L a < 2 ^ 31) : rn (lt_G o L) mm_Plan_ease 26 lv (.int (nI c) :: .ref a :: st) (sx pl kp I A) P ↔ rn (lt_G o L) mm_Plan_ease 27 lv (.int (A a c) :: st) (sx pl kp I A) P := rx_ild dq_Plan_ease_26 ho hk hu hc hn
theorem dq_Plan_ease_27 : decode (km_c mm_Plan_ease) 27 = .ok (.iadd, 1) := by decide +kernel
theorem sq_Plan_ease_27 : rn G mm_Plan_ease 27 lv (.int x2 :: .int x :: st) S P ↔ rn G mm_Plan_ease 28 lv (.int (x + x2) :: st) S P := rn_s dq_Plan_ease_27 rfl rfl rfl
theorem dq_Plan_ease_28 : decode (km_c mm_Plan_ease) 28 = .ok (.iastore, 1) := by decide +kernel
theorem sq_Plan_ease_28 (ho : sx_o o pl kp) (hk : ak L a = 0) (hu : sx_up pl kp a = true) (hc : c < ln L a) (hn : ln L a < 2 ^ 31) : rn (lt_G o L) mm_Plan_ease 28 lv (.int x :: .int (nI c) :: .ref a :: st) (sx pl kp I A) P ↔ rn (lt_G o L) mm_Plan_ease 29 lv st (sx pl kp I (u2 A a c x)) P := rx_ist dq_Plan_ease_28 ho hk hu hc hn
theorem dq_Plan_ease_29 : decode (km_c mm_Plan_ease) 29 = .ok (.aload_n 0, 1) := by decide +kernel
theorem sq_Plan_ease_29 : rn G mm_Plan_ease 29 [some (.ref z), a1, a2, a3] st S P ↔ rn G mm_Plan_ease 30 [some (.ref z), a1, a2, a3] (.ref z :: st) S P := rn_s dq_Plan_ease_29 rfl rfl rfl
theorem dq_Plan_ease_30 : decode (km_c mm_Plan_ease) 30 = .ok (.iload_n 2, 1) := by decide +kernel
theorem sq_Plan_ease_30 : rn G mm_Plan_ease 30 [a0, a1, some (.int x), a3] st S P ↔ rn G mm_Plan_ease 31 [a0, a1, some (.int x), a3] (.int x :: st) S P := rn_s dq_Plan_ease_30 rfl rfl rfl
theorem dq_Plan_ease_31 : decode (km_c mm_Plan_ease) 31 = .ok (.invokevirtual 91, 3) := by decide +kernel
theorem sq_Plan_ease_31_65 {x1 : Int32} {v : Option Value} {S2 : ks_S} (hc : ev (lt_G o L) mm_Plan_queueUp [.ref 65, .int x1] (sx true kp I A) v S2) (ho : sx_o o true kp) (hst : kx_cat st ≤ 8) : rn (lt_G o L) mm_Plan_ease 31 lv (.int x1 :: .ref 65 :: st) (sx true kp I A) P ↔ rn (lt_G o L) mm_Plan_ease 34 lv (v.toList ++ st) S2 P := rn_cv (k := 0) (host := "") (E' := mm_Plan_queueUp) dq_Plan_ease_31 rfl (ok_v rfl (by decide) (by decide) (Nat.le_add_left _ _) hst (Nat.le_of_ble_eq_true rfl) (Or.inr (rc_v ho (up_p (by decide)) rfl))) rfl rfl hc
theorem dq_Plan_ease_34 : decode (km_c mm_Plan_ease) 34 = .ok (.return_, 1) := by decide +kernel
theorem sq_Plan_ease_34 : rn G mm_Plan_ease 34 lv [] S P ↔ P none S := rn_vr dq_Plan_ease_34 rfl
theorem dq_Plan_costInAllOrders_0 : decode (km_c mm_Plan_costInAllOrders) 0 = .ok (.iconst 1, 1) := by decide +kernel
theorem sq_Plan_costInAllOrders_0 : rn G mm_Plan_costInAllOrders 0 lv st S P ↔ rn G mm_Plan_costInAllOrders 1 lv (.int (nI 1) :: st) S P := rn_s dq_Plan_costInAllOrders_0 rfl rfl rfl
theorem dq_Plan_costInAllOrders_1 : decode (km_c mm_Plan_costInAllOrders) 1 = .ok (.iload_n 2, 1) := by decide +kernel
theorem sq_Plan_costInAllOrders_1 : rn G mm_Plan_costInAllOrders 1 [a0, a1, some (.int x), a3, a4, a5, a6, a7, a8, a9, a10, a11, a12] st S P ↔ rn G mm_Plan_costInAllOrders 2 [a0, a1, some (.int x), a3, a4, a5, a6, a7, a8, a9, a10, a11, a12] (.int x :: st) S P := rn_s dq_Plan_costInAllOrders_1 rfl rfl rfl
theorem dq_Plan_costInAllOrders_2 : decode (km_c mm_Plan_costInAllOrders) 2 = .ok (.ishl, 1) := by decide +kernel
theorem sq_Plan_costInAllOrders_2 : rn G mm_Plan_costInAllOrders 2 lv (.int x2 :: .int x :: st) S P ↔ rn G mm_Plan_costInAllOrders 3 lv (.int (x <<< (x2 &&& 31)) :: st) S P := rn_s dq_Plan_costInAllOrders_2 rfl rfl rfl
theorem dq_Plan_costInAllOrders_3 : decode (km_c mm_Plan_costInAllOrders) 3 = .ok (.istore_n 3, 1) := by decide +kernel
theorem sq_Plan_costInAllOrders_3n : rn G mm_Plan_costInAllOrders 3 [a0, a1, none, a3, a4, a5, a6, a7, a8, a9, a10, a11, a12] (.int x :: st) S P ↔ rn G mm_Plan_costInAllOrders 4 [a0, a1, none, some (.int x), a4, a5, a6, a7, a8, a9, a10, a11, a12] st S P := rn_s dq_Plan_costInAllOrders_3 rfl rfl rfl
theorem sq_Plan_costInAllOrders_3i : rn G mm_Plan_costInAllOrders 3 [a0, a1, some (.int x2), a3, a4, a5, a6, a7, a8, a9, a10, a11, a12] (.int x :: st) S P ↔ rn G mm_Plan_costInAllOrders 4 [a0, a1, some (.int x2), some (.int x), a4, a5, a6, a7, a8, a9, a10, a11, a12] st S P := rn_s dq_Plan_costInAllOrders_3 rfl rfl rfl
theorem sq_Plan_costInAllOrders_3r : rn G mm_Plan_costInAllOrders 3 [a0, a1, some (.ref z2), a3, a4, a5, a6, a7, a8, a9, a10, a11, a12] (.int x :: st) S P ↔ rn G mm_Plan_costInAllOrders 4 [a0, a1, some (.ref z2), some (.int x), a4, a5, a6, a7, a8, a9, a10, a11, a12] st S P := rn_s dq_Plan_costInAllOrders_3 rfl rfl rfl
theorem sq_Plan_costInAllOrders_3l : rn G mm_Plan_costInAllOrders 3 [a0, a1, some (.long y2), a3, a4, a5, a6, a7, a8, a9, a10, a11, a12] (.int x :: st) S P ↔ rn G mm_Plan_costInAllOrders 4 [a0, a1, none, some (.int x), a4, a5, a6, a7, a8, a9, a10, a11, a12] st S P := rn_s dq_Plan_costInAllOrders_3 rfl rfl rfl
theorem dq_Plan_costInAllOrders_4 : decode (km_c mm_Plan_costInAllOrders) 4 = .ok (.iload_n 1, 1) := by decide +kernel
theorem sq_Plan_costInAllOrders_4 : rn G mm_Plan_costInAllOrders 4 [a0, some (.int x), a2, a3, a4, a5, a6, a7, a8, a9, a10, a11, a12] st S P ↔ rn G mm_Plan_costInAllOrders 5 [a0, some (.int x), a2, a3, a4, a5, a6, a7, a8, a9, a10, a11, a12] (.int x :: st) S P := rn_s dq_Plan_costInAllOrders_4 rfl rfl rfl
theorem dq_Plan_costInAllOrders_5 : decode (km_c mm_Plan_costInAllOrders) 5 = .ok (.iload_n 3, 1) := by decide +kernel
theorem sq_Plan_costInAllOrders_5 : rn G mm_Plan_costInAllOrders 5 [a0, a1, a2, some (.int x), a4, a5, a6, a7, a8, a9, a10, a11, a12] st S P ↔ rn G mm_Plan_costInAllOrders 6 [a0, a1, a2, some (.int x), a4, a5, a6, a7, a8, a9, a10, a11, a12] (.int x :: st) S P := rn_s dq_Plan_costInAllOrders_5 rfl rfl rfl
theorem dq_Plan_costInAllOrders_6 : decode (km_c mm_Plan_costInAllOrders) 6 = .ok (.iconst (-1), 1) := by decide +kernel
theorem sq_Plan_costInAllOrders_6 : rn G mm_Plan_costInAllOrders 6 lv st S P ↔ rn G mm_Plan_costInAllOrders 7 lv (.int ((-1)) :: st) S P := rn_s dq_Plan_costInAllOrders_6 rfl rfl rfl
theorem dq_Plan_costInAllOrders_7 : decode (km_c mm_Plan_costInAllOrders) 7 = .ok (.ixor, 1) := by decide +kernel
theorem sq_Plan_costInAllOrders_7 : rn G mm_Plan_costInAllOrders 7 lv (.int x2 :: .int x :: st) S P ↔ rn G mm_Plan_costInAllOrders 8 lv (.int (x ^^^ x2) :: st) S P := rn_s dq_Plan_costInAllOrders_7 rfl rfl rfl
theorem dq_Plan_costInAllOrders_8 : decode (km_c mm_Plan_costInAllOrders) 8 = .ok (.iand, 1) := by decide +kernel
theorem sq_Plan_costInAllOrders_8 : rn G mm_Plan_costInAllOrders 8 lv (.int x2 :: .int x :: st) S P ↔ rn G mm_Plan_costInAllOrders 9 lv (.int (x &&& x2) :: st) S P := rn_s dq_Plan_costInAllOrders_8 rfl rfl rfl
theorem dq_Plan_costInAllOrders_9 : decode (km_c mm_Plan_costInAllOrders) 9 = .ok (.istore 4, 2) := by decide +kernel
theorem sq_Plan_costInAllOrders_9n : rn G mm_Plan_costInAllOrders 9 [a0, a1, a2, none, a4, a5, a6, a7, a8, a9, a10, a11, a12] (.int x :: st) S P ↔ rn G mm_Plan_costInAllOrders 11 [a0, a1, a2, none, some (.int x), a5, a6, a7, a8, a9, a10, a11, a12] st S P := rn_s dq_Plan_costInAllOrders_9 rfl rfl rfl
theorem sq_Plan_costInAllOrders_9i : rn G mm_Plan_costInAllOrders 9 [a0, a1, a2, some (.int x2), a4, a5, a6, a7, a8, a9, a10, a11, a12] (.int x :: st) S P ↔ rn G mm_Plan_costInAllOrders 11 [a0, a1, a2, some (.int x2), some (.int x), a5, a6, a7, a8, a9, a10, a11, a12] st S P := rn_s dq_Plan_costInAllOrders_9 rfl rfl rfl
theorem sq_Plan_costInAllOrders_9r : rn G mm_Plan_costInAllOrders 9 [a0, a1, a2, some (.ref z2), a4, a5, a6, a7, a8, a9, a10, a11, a12] (.int x :: st) S P ↔ rn G mm_Plan_costInAllOrders 11 [a0, a1, a2, some (.ref z2), some (.int x), a5, a6, a7, a8, a9, a10, a11, a12] st S P := rn_s dq_Plan_costInAllOrders_9 rfl rfl rfl
theorem sq_Plan_costInAllOrders_9l : rn G mm_Plan_costInAllOrders 9 [a0, a1, a2, some (.long y2), a4, a5, a6, a7, a8, a9, a10, a11, a12] (.int x :: st) S P ↔ rn G mm_Plan_costInAllOrders 11 [a0, a1, a2, none, some (.int x), a5, a6, a7, a8, a9, a10, a11, a12] st S P := rn_s dq_Plan_costInAllOrders_9 rfl rfl rfl
theorem dq_Plan_costInAllOrders_11 : decode (km_c mm_Plan_costInAllOrders) 11 = .ok (.iload 4, 2) := by decide +kernel
theorem sq_Plan_costInAllOrders_11 : rn G mm_Plan_costInAllOrders 11 [a0, a1, a2, a3, some (.int x), a5, a6, a7, a8, a9, a10, a11, a12] st S P ↔ rn G mm_Plan_costInAllOrders 13 [a0, a1, a2, a3, some (.int x), a5, a6, a7, a8, a9, a10, a11, a12] (.int x :: st) S P := rn_s dq_Plan_costInAllOrders_11 rfl rfl rfl
theorem dq_Plan_costInAllOrders_13 : decode (km_c mm_Plan_costInAllOrders) 13 = .ok (.invokestatic 50, 3) := by decide +kernel
theorem sq_Plan_costInAllOrders_13 {x1 : Int32} {v : Option Value} {S2 : ks_S} (hc : ev G mm_Integer_bitCount [.int x1] S v S2) (hst : kx_cat st ≤ 8) : rn G mm_Plan_costInAllOrders 13 lv (.int x1 :: st) S P ↔ rn G mm_Plan_costInAllOrders 16 lv (v.toList ++ st) S2 P := rn_cs (k := 1) (host := "") (E' := mm_Integer_bitCount) dq_Plan_costInAllOrders_13 (by decide) (by decide) rfl (ok_v rfl (by decide) (by decide) (Nat.le_add_left _ _) hst (Nat.le_of_ble_eq_true rfl) (Or.inl rfl)) rfl rfl hc
theorem dq_Plan_costInAllOrders_16 : decode (km_c mm_Plan_costInAllOrders) 16 = .ok (.istore 5, 2) := by decide +kernel
theorem sq_Plan_costInAllOrders_16n : rn G mm_Plan_costInAllOrders 16 [a0, a1, a2, a3, none, a5, a6, a7, a8, a9, a10, a11, a12] (.int x :: st) S P ↔ rn G mm_Plan_costInAllOrders 18 [a0, a1, a2, a3, none, some (.int x), a6, a7, a8, a9, a10, a11, a12] st S P := rn_s dq_Plan_costInAllOrders_16 rfl rfl rfl
theorem sq_Plan_costInAllOrders_16i : rn G mm_Plan_costInAllOrders 16 [a0, a1, a2, a3, some (.int x2), a5, a6, a7, a8, a9, a10, a11, a12] (.int x :: st) S P ↔ rn G mm_Plan_costInAllOrders 18 [a0, a1, a2, a3, some (.int x2), some (.int x), a6, a7, a8, a9, a10, a11, a12] st S P := rn_s dq_Plan_costInAllOrders_16 rfl rfl rfl
theorem sq_Plan_costInAllOrders_16r : rn G mm_Plan_costInAllOrders 16 [a0, a1, a2, a3, some (.ref z2), a5, a6, a7, a8, a9, a10, a11, a12] (.int x :: st) S P ↔ rn G mm_Plan_costInAllOrders 18 [a0, a1, a2, a3, some (.ref z2), some (.int x), a6, a7, a8, a9, a10, a11, a12] st S P := rn_s dq_Plan_costInAllOrders_16 rfl rfl rfl
theorem sq_Plan_costInAllOrders_16l : rn G mm_Plan_costInAllOrders 16 [a0, a1, a2, a3, some (.long y2), a5, a6, a7, a8, a9, a10, a11, a12] (.int x :: st) S P ↔ rn G mm_Plan_costInAllOrders 18 [a0, a1, a2, a3, none, some (.int x), a6, a7, a8, a9, a10, a11, a12] st S P := rn_s dq_Plan_costInAllOrders_16 rfl rfl rfl
theorem dq_Plan_costInAllOrders_18 : decode (km_c mm_Plan_costInAllOrders) 18 = .ok (.lconst 0, 1) := by decide +kernel
theorem sq_Plan_costInAllOrders_18 : rn G mm_Plan_costInAllOrders 18 lv st S P ↔ rn G mm_Plan_costInAllOrders 19 lv (.long (0) :: st) S P := rn_s dq_Plan_costInAllOrders_18 rfl rfl rfl
theorem dq_Plan_costInAllOrders_19 : decode (km_c mm_Plan_costInAllOrders) 19 = .ok (.lstore 6, 2) := by decide +kernel
theorem sq_Plan_costInAllOrders_19n : rn G mm_Plan_costInAllOrders 19 [a0, a1, a2, a3, a4, none, a6, a7, a8, a9, a10, a11, a12] (.long y :: st) S P ↔ rn G mm_Plan_costInAllOrders 21 [a0, a1, a2, a3, a4, none, some (.long y), none, a8, a9, a10, a11, a12] st S P := rn_s dq_Plan_costInAllOrders_19 rfl rfl rfl
theorem sq_Plan_costInAllOrders_19i : rn G mm_Plan_costInAllOrders 19 [a0, a1, a2, a3, a4, some (.int x2), a6, a7, a8, a9, a10, a11, a12] (.long y :: st) S P ↔ rn G mm_Plan_costInAllOrders 21 [a0, a1, a2, a3, a4, some (.int x2), some (.long y), none, a8, a9, a10, a11, a12] st S P := rn_s dq_Plan_costInAllOrders_19 rfl rfl rfl
theorem sq_Plan_costInAllOrders_19r : rn G mm_Plan_costInAllOrders 19 [a0, a1, a2, a3, a4, some (.ref z2), a6, a7, a8, a9, a10, a11, a12] (.long y :: st) S P ↔ rn G mm_Plan_costInAllOrders 21 [a0, a1, a2, a3, a4, some (.ref z2), some (.long y), none, a8, a9, a10, a11, a12] st S P := rn_s dq_Plan_costInAllOrders_19 rfl rfl rfl
theorem sq_Plan_costInAllOrders_19l : rn G mm_Plan_costInAllOrders 19 [a0, a1, a2, a3, a4, some (.long y2), a6, a7, a8, a9, a10, a11, a12] (.long y :: st) S P ↔ rn G mm_Plan_costInAllOrders 21 [a0, a1, a2, a3, a4, none, some (.long y), none, a8, a9, a10, a11, a12] st S P := rn_s dq_Plan_costInAllOrders_19 rfl rfl rfl
theorem dq_Plan_costInAllOrders_21 : decode (km_c mm_Plan_costInAllOrders) 21 = .ok (.iconst 0, 1) := by decide +kernel
theorem sq_Plan_costInAllOrders_21 : rn G mm_Plan_costInAllOrders 21 lv st S P ↔ rn G mm_Plan_costInAllOrders 22 lv (.int (nI 0) :: st) S P := rn_s dq_Plan_costInAllOrders_21 rfl rfl rfl
theorem dq_Plan_costInAllOrders_22 : decode (km_c mm_Plan_costInAllOrders) 22 = .ok (.istore 8, 2) := by decide +kernel
theorem sq_Plan_costInAllOrders_22n : rn G mm_Plan_costInAllOrders 22 [a0, a1, a2, a3, a4, a5, a6, none, a8, a9, a10, a11, a12] (.int x :: st) S P ↔ rn G mm_Plan_costInAllOrders 24 [a0, a1, a2, a3, a4, a5, a6, none, some (.int x), a9, a10, a11, a12] st S P := rn_s dq_Plan_costInAllOrders_22 rfl rfl rfl
theorem sq_Plan_costInAllOrders_22i : rn G mm_Plan_costInAllOrders 22 [a0, a1, a2, a3, a4, a5, a6, some (.int x2), a8, a9, a10, a11, a12] (.int x :: st) S P ↔ rn G mm_Plan_costInAllOrders 24 [a0, a1, a2, a3, a4, a5, a6, some (.int x2), some (.int x), a9, a10, a11, a12] st S P := rn_s dq_Plan_costInAllOrders_22 rfl rfl rfl
theorem sq_Plan_costInAllOrders_22r : rn G mm_Plan_costInAllOrders 22 [a0, a1, a2, a3, a4, a5, a6, some (.ref z2), a8, a9, a10, a11, a12] (.int x :: st) S P ↔ rn G mm_Plan_costInAllOrders 24 [a0, a1, a2, a3, a4, a5, a6, some (.ref z2), some (.int x), a9, a10, a11, a12] st S P := rn_s dq_Plan_costInAllOrders_22 rfl rfl rfl
theorem sq_Plan_costInAllOrders_22l : rn G mm_Plan_costInAllOrders 22 [a0, a1, a2, a3, a4, a5, a6, some (.long y2), a8, a9, a10, a11, a12] (.int x :: st) S P ↔ rn G mm_Plan_costInAllOrders 24 [a0, a1, a2, a3, a4, a5, a6, none, some (.int x), a9, a10, a11, a12] st S P := rn_s dq_Plan_costInAllOrders_22 rfl rfl rfl
theorem dq_Plan_costInAllOrders_24 : decode (km_c mm_Plan_costInAllOrders) 24 = .ok (.iload 8, 2) := by decide +kernel
theorem sq_Plan_costInAllOrders_24 : rn G mm_Plan_costInAllOrders 24 [a0, a1, a2, a3, a4, a5, a6, a7, some (.int x), a9, a10, a11, a12] st S P ↔ rn G mm_Plan_costInAllOrders 26 [a0, a1, a2, a3, a4, a5, a6, a7, some (.int x), a9, a10, a11, a12] (.int x :: st) S P := rn_s dq_Plan_costInAllOrders_24 rfl rfl rfl
theorem dq_Plan_costInAllOrders_26 : decode (km_c mm_Plan_costInAllOrders) 26 = .ok (.iload 4, 2) := by decide +kernel
theorem sq_Plan_costInAllOrders_26 : rn G mm_Plan_costInAllOrders 26 [a0, a1, a2, a3, some (.int x), a5, a6, a7, a8, a9, a10, a11, a12] st S P ↔ rn G mm_Plan_costInAllOrders 28 [a0, a1, a2, a3, some (.int x), a5, a6, a7, a8, a9, a10, a11, a12] (.int x :: st) S P := rn_s dq_Plan_costInAllOrders_26 rfl rfl rfl
theorem dq_Plan_costInAllOrders_28 : decode (km_c mm_Plan_costInAllOrders) 28 = .ok (.if_icmp .gt 82, 3) := by decide +kernel
theorem sq_Plan_costInAllOrders_28 : rn G mm_Plan_costInAllOrders 28 lv (.int x2 :: .int x :: st) S P ↔ ((x2 < x → rn G mm_Plan_costInAllOrders 110 lv st S P) ∧ (¬ (x2 < x) → rn G mm_Plan_costInAllOrders 31 lv st S P)) := rn_b (off := 82) dq_Plan_costInAllOrders_28 rfl rfl rfl rfl
theorem dq_Plan_costInAllOrders_31 : decode (km_c mm_Plan_costInAllOrders) 31 = .ok (.iload 8, 2) := by decide +kernel
theorem sq_Plan_costInAllOrders_31 : rn G mm_Plan_costInAllOrders 31 [a0, a1, a2, a3, a4, a5, a6, a7, some (.int x), a9, a10, a11, a12] st S P ↔ rn G mm_Plan_costInAllOrders 33 [a0, a1, a2, a3, a4, a5, a6, a7, some (.int x), a9, a10, a11, a12] (.int x :: st) S P := rn_s dq_Plan_costInAllOrders_31 rfl rfl rfl
theorem dq_Plan_costInAllOrders_33 : decode (km_c mm_Plan_costInAllOrders) 33 = .ok (.iload 4, 2) := by decide +kernel
theorem sq_Plan_costInAllOrders_33 : rn G mm_Plan_costInAllOrders 33 [a0, a1, a2, a3, some (.int x), a5, a6, a7, a8, a9, a10, a11, a12] st S P ↔ rn G mm_Plan_costInAllOrders 35 [a0, a1, a2, a3, some (.int x), a5, a6, a7, a8, a9, a10, a11, a12] (.int x :: st) S P := rn_s dq_Plan_costInAllOrders_33 rfl rfl rfl
theorem dq_Plan_costInAllOrders_35 : decode (km_c mm_Plan_costInAllOrders) 35 = .ok (.iconst (-1), 1) := by decide +kernel
theorem sq_Plan_costInAllOrders_35 : rn G mm_Plan_costInAllOrders 35 lv st S P ↔ rn G mm_Plan_costInAllOrders 36 lv (.int ((-1)) :: st) S P := rn_s dq_Plan_costInAllOrders_35 rfl rfl rfl
theorem dq_Plan_costInAllOrders_36 : decode (km_c mm_Plan_costInAllOrders) 36 = .ok (.ixor, 1) := by decide +kernel
theorem sq_Plan_costInAllOrders_36 : rn G mm_Plan_costInAllOrders 36 lv (.int x2 :: .int x :: st) S P ↔ rn G mm_Plan_costInAllOrders 37 lv (.int (x ^^^ x2) :: st) S P := rn_s dq_Plan_costInAllOrders_36 rfl rfl rfl
theorem dq_Plan_costInAllOrders_37 : decode (km_c mm_Plan_costInAllOrders) 37 = .ok (.iand, 1) := by decide +kernel
theorem sq_Plan_costInAllOrders_37 : rn G mm_Plan_costInAllOrders 37 lv (.int x2 :: .int x :: st) S P ↔ rn G mm_Plan_costInAllOrders 38 lv (.int (x &&& x2) :: st) S P := rn_s dq_Plan_costInAllOrders_37 rfl rfl rfl
theorem dq_Plan_costInAllOrders_38 : decode (km_c mm_Plan_costInAllOrders) 38 = .ok (.ifCond .ne 66, 3) := by decide +kernel
theorem sq_Plan_costInAllOrders_38 : rn G mm_Plan_costInAllOrders 38 lv (.int x :: st) S P ↔ ((¬ x = 0 → rn G mm_Plan_costInAllOrders 104 lv st S P) ∧ (¬ (¬ x = 0) → rn G mm_Plan_costInAllOrders 41 lv st S P)) := rn_b (off := 66) dq_Plan_costInAllOrders_38 rfl rfl rfl rfl
theorem dq_Plan_costInAllOrders_41 : decode (km_c mm_Plan_costInAllOrders) 41 = .ok (.iload 8, 2) := by decide +kernel
theorem sq_Plan_costInAllOrders_41 : rn G mm_Plan_costInAllOrders 41 [a0, a1, a2, a3, a4, a5, a6, a7, some (.int x), a9, a10, a11, a12] st S P ↔ rn G mm_Plan_costInAllOrders 43 [a0, a1, a2, a3, a4, a5, a6, a7, some (.int x), a9, a10, a11, a12] (.int x :: st) S P := rn_s dq_Plan_costInAllOrders_41 rfl rfl rfl
theorem dq_Plan_costInAllOrders_43 : decode (km_c mm_Plan_costInAllOrders) 43 = .ok (.invokestatic 50, 3) := by decide +kernel
theorem sq_Plan_costInAllOrders_43 {x1 : Int32} {v : Option Value} {S2 : ks_S} (hc : ev G mm_Integer_bitCount [.int x1] S v S2) (hst : kx_cat st ≤ 8) : rn G mm_Plan_costInAllOrders 43 lv (.int x1 :: st) S P ↔ rn G mm_Plan_costInAllOrders 46 lv (v.toList ++ st) S2 P := rn_cs (k := 1) (host := "") (E' := mm_Integer_bitCount) dq_Plan_costInAllOrders_43 (by decide) (by decide) rfl (ok_v rfl (by decide) (by decide) (Nat.le_add_left _ _) hst (Nat.le_of_ble_eq_true rfl) (Or.inl rfl)) rfl rfl hc
theorem dq_Plan_costInAllOrders_46 : decode (km_c mm_Plan_costInAllOrders) 46 = .ok (.istore 9, 2) := by decide +kernel
theorem sq_Plan_costInAllOrders_46n : rn G mm_Plan_costInAllOrders 46 [a0, a1, a2, a3, a4, a5, a6, a7, none, a9, a10, a11, a12] (.int x :: st) S P ↔ rn G mm_Plan_costInAllOrders 48 [a0, a1, a2, a3, a4, a5, a6, a7, none, some (.int x), a10, a11, a12] st S P := rn_s dq_Plan_costInAllOrders_46 rfl rfl rfl
theorem sq_Plan_costInAllOrders_46i : rn G mm_Plan_costInAllOrders 46 [a0, a1, a2, a3, a4, a5, a6, a7, some (.int x2), a9, a10, a11, a12] (.int x :: st) S P ↔ rn G mm_Plan_costInAllOrders 48 [a0, a1, a2, a3, a4, a5, a6, a7, some (.int x2), some (.int x), a10, a11, a12] st S P := rn_s dq_Plan_costInAllOrders_46 rfl rfl rfl
theorem sq_Plan_costInAllOrders_46r : rn G mm_Plan_costInAllOrders 46 [a0, a1, a2, a3, a4, a5, a6, a7, some (.ref z2), a9, a10, a11, a12] (.int x :: st) S P ↔ rn G mm_Plan_costInAllOrders 48 [a0, a1, a2, a3, a4, a5, a6, a7, some (.ref z2), some (.int x), a10, a11, a12] st S P := rn_s dq_Plan_costInAllOrders_46 rfl rfl rfl
theorem sq_Plan_costInAllOrders_46l : rn G mm_Plan_costInAllOrders 46 [a0, a1, a2, a3, a4, a5, a6, a7, some (.long y2), a9, a10, a11, a12] (.int x :: st) S P ↔ rn G mm_Plan_costInAllOrders 48 [a0, a1, a2, a3, a4, a5, a6, a7, none, some (.int x), a10, a11, a12] st S P := rn_s dq_Plan_costInAllOrders_46 rfl rfl rfl
theorem dq_Plan_costInAllOrders_48 : decode (km_c mm_Plan_costInAllOrders) 48 = .ok (.iload 8, 2) := by decide +kernel
theorem sq_Plan_costInAllOrders_48 : rn G mm_Plan_costInAllOrders 48 [a0, a1, a2, a3, a4, a5, a6, a7, some (.int x), a9, a10, a11, a12] st S P ↔ rn G mm_Plan_costInAllOrders 50 [a0, a1, a2, a3, a4, a5, a6, a7, some (.int x), a9, a10, a11, a12] (.int x :: st) S P := rn_s dq_Plan_costInAllOrders_48 rfl rfl rfl
theorem dq_Plan_costInAllOrders_50 : decode (km_c mm_Plan_costInAllOrders) 50 = .ok (.ifCond .ne 7, 3) := by decide +kernel
theorem sq_Plan_costInAllOrders_50 : rn G mm_Plan_costInAllOrders 50 lv (.int x :: st) S P ↔ ((¬ x = 0 → rn G mm_Plan_costInAllOrders 57 lv st S P) ∧ (¬ (¬ x = 0) → rn G mm_Plan_costInAllOrders 53 lv st S P)) := rn_b (off := 7) dq_Plan_costInAllOrders_50 rfl rfl rfl rfl
theorem dq_Plan_costInAllOrders_53 : decode (km_c mm_Plan_costInAllOrders) 53 = .ok (.iconst 0, 1) := by decide +kernel
theorem sq_Plan_costInAllOrders_53 : rn G mm_Plan_costInAllOrders 53 lv st S P ↔ rn G mm_Plan_costInAllOrders 54 lv (.int (nI 0) :: st) S P := rn_s dq_Plan_costInAllOrders_53 rfl rfl rfl
theorem dq_Plan_costInAllOrders_54 : decode (km_c mm_Plan_costInAllOrders) 54 = .ok (.goto 9, 3) := by decide +kernel
theorem sq_Plan_costInAllOrders_54 : rn G mm_Plan_costInAllOrders 54 lv st S P ↔ rn G mm_Plan_costInAllOrders 63 lv st S P := rn_s dq_Plan_costInAllOrders_54 rfl rfl rfl
theorem dq_Plan_costInAllOrders_57 : decode (km_c mm_Plan_costInAllOrders) 57 = .ok (.aload_n 0, 1) := by decide +kernel
theorem sq_Plan_costInAllOrders_57 : rn G mm_Plan_costInAllOrders 57 [some (.ref z), a1, a2, a3, a4, a5, a6, a7, a8, a9, a10, a11, a12] st S P ↔ rn G mm_Plan_costInAllOrders 58 [some (.ref z), a1, a2, a3, a4, a5, a6, a7, a8, a9, a10, a11, a12] (.ref z :: st) S P := rn_s dq_Plan_costInAllOrders_57 rfl rfl rfl
theorem dq_Plan_costInAllOrders_58 : decode (km_c mm_Plan_costInAllOrders) 58 = .ok (.iload 8, 2) := by decide +kernel
theorem sq_Plan_costInAllOrders_58 : rn G mm_Plan_costInAllOrders 58 [a0, a1, a2, a3, a4, a5, a6, a7, some (.int x), a9, a10, a11, a12] st S P ↔ rn G mm_Plan_costInAllOrders 60 [a0, a1, a2, a3, a4, a5, a6, a7, some (.int x), a9, a10, a11, a12] (.int x :: st) S P := rn_s dq_Plan_costInAllOrders_58 rfl rfl rfl
theorem dq_Plan_costInAllOrders_60 : decode (km_c mm_Plan_costInAllOrders) 60 = .ok (.invokevirtual 56, 3) := by decide +kernel
theorem sq_Plan_costInAllOrders_60_65 {x1 : Int32} {v : Option Value} {S2 : ks_S} (hc : ev (lt_G o L) mm_Plan_costFor [.ref 65, .int x1] (sx true kp I A) v S2) (ho : sx_o o true kp) (hst : kx_cat st ≤ 8) : rn (lt_G o L) mm_Plan_costInAllOrders 60 lv (.int x1 :: .ref 65 :: st) (sx true kp I A) P ↔ rn (lt_G o L) mm_Plan_costInAllOrders 63 lv (v.toList ++ st) S2 P := rn_cv (k := 0) (host := "") (E' := mm_Plan_costFor) dq_Plan_costInAllOrders_60 rfl (ok_v rfl (by decide) (by decide) (Nat.le_add_left _ _) hst (Nat.le_of_ble_eq_true rfl) (Or.inr (rc_v ho (up_p (by decide)) rfl))) rfl rfl hc
theorem dq_Plan_costInAllOrders_63 : decode (km_c mm_Plan_costInAllOrders) 63 = .ok (.istore 10, 2) := by decide +kernel
theorem sq_Plan_costInAllOrders_63n : rn G mm_Plan_costInAllOrders 63 [a0, a1, a2, a3, a4, a5, a6, a7, a8, none, a10, a11, a12] (.int x :: st) S P ↔ rn G mm_Plan_costInAllOrders 65 [a0, a1, a2, a3, a4, a5, a6, a7, a8, none, some (.int x), a11, a12] st S P := rn_s dq_Plan_costInAllOrders_63 rfl rfl rfl
theorem sq_Plan_costInAllOrders_63i : rn G mm_Plan_costInAllOrders 63 [a0, a1, a2, a3, a4, a5, a6, a7, a8, some (.int x2), a10, a11, a12] (.int x :: st) S P ↔ rn G mm_Plan_costInAllOrders 65 [a0, a1, a2, a3, a4, a5, a6, a7, a8, some (.int x2), some (.int x), a11, a12] st S P := rn_s dq_Plan_costInAllOrders_63 rfl rfl rfl
theorem sq_Plan_costInAllOrders_63r : rn G mm_Plan_costInAllOrders 63 [a0, a1, a2, a3, a4, a5, a6, a7, a8, some (.ref z2), a10, a11, a12] (.int x :: st) S P ↔ rn G mm_Plan_costInAllOrders 65 [a0, a1, a2, a3, a4, a5, a6, a7, a8, some (.ref z2), some (.int x), a11, a12] st S P := rn_s dq_Plan_costInAllOrders_63 rfl rfl rfl
theorem sq_Plan_costInAllOrders_63l : rn G mm_Plan_costInAllOrders 63 [a0, a1, a2, a3, a4, a5, a6, a7, a8, some (.long y2), a10, a11, a12] (.int x :: st) S P ↔ rn G mm_Plan_costInAllOrders 65 [a0, a1, a2, a3, a4, a5, a6, a7, a8, none, some (.int x), a11, a12] st S P := rn_s dq_Plan_costInAllOrders_63 rfl rfl rfl
theorem dq_Plan_costInAllOrders_65 : decode (km_c mm_Plan_costInAllOrders) 65 = .ok (.getstatic 59, 3) := by decide +kernel
theorem sq_Plan_costInAllOrders_65 : rn (lt_G o L) mm_Plan_costInAllOrders 65 lv st (sx pl kp I A) P ↔ rn (lt_G o L) mm_Plan_costInAllOrders 68 lv (.ref 1003 :: st) (sx pl kp I A) P := rx_st (h := "DeltaRoad") (k := 3) dq_Plan_costInAllOrders_65 (by decide +kernel)
theorem dq_Plan_costInAllOrders_68 : decode (km_c mm_Plan_costInAllOrders) 68 = .ok (.iload 9, 2) := by decide +kernel
theorem sq_Plan_costInAllOrders_68 : rn G mm_Plan_costInAllOrders 68 [a0, a1, a2, a3, a4, a5, a6, a7, a8, some (.int x), a10, a11, a12] st S P ↔ rn G mm_Plan_costInAllOrders 70 [a0, a1, a2, a3, a4, a5, a6, a7, a8, some (.int x), a10, a11, a12] (.int x :: st) S P := rn_s dq_Plan_costInAllOrders_68 rfl rfl rfl
theorem dq_Plan_costInAllOrders_70 : decode (km_c mm_Plan_costInAllOrders) 70 = .ok (.iaload, 1) := by decide +kernel
theorem sq_Plan_costInAllOrders_70 (ho : sx_o o pl kp) (hk : ak L a = 0) (hu : sx_up pl kp a = true ∨ 1000 ≤ a) (hc : c < ln L a) (hn : ln L a < 2 ^ 31) : rn (lt_G o L) mm_Plan_costInAllOrders 70 lv (.int (nI c) :: .ref a :: st) (sx pl kp I A) P ↔ rn (lt_G o L) mm_Plan_costInAllOrders 71 lv (.int (A a c) :: st) (sx pl kp I A) P := rx_ild dq_Plan_costInAllOrders_70 ho hk hu hc hn
theorem dq_Plan_costInAllOrders_71 : decode (km_c mm_Plan_costInAllOrders) 71 = .ok (.getstatic 59, 3) := by decide +kernel
theorem sq_Plan_costInAllOrders_71 : rn (lt_G o L) mm_Plan_costInAllOrders 71 lv st (sx pl kp I A) P ↔ rn (lt_G o L) mm_Plan_costInAllOrders 74 lv (.ref 1003 :: st) (sx pl kp I A) P := rx_st (h := "DeltaRoad") (k := 3) dq_Plan_costInAllOrders_71 (by decide +kernel)
theorem dq_Plan_costInAllOrders_74 : decode (km_c mm_Plan_costInAllOrders) 74 = .ok (.iload 5, 2) := by decide +kernel
theorem sq_Plan_costInAllOrders_74 : rn G mm_Plan_costInAllOrders 74 [a0, a1, a2, a3, a4, some (.int x), a6, a7, a8, a9, a10, a11, a12] st S P ↔ rn G mm_Plan_costInAllOrders 76 [a0, a1, a2, a3, a4, some (.int x), a6, a7, a8, a9, a10, a11, a12] (.int x :: st) S P := rn_s dq_Plan_costInAllOrders_74 rfl rfl rfl
theorem dq_Plan_costInAllOrders_76 : decode (km_c mm_Plan_costInAllOrders) 76 = .ok (.iload 9, 2) := by decide +kernel
theorem sq_Plan_costInAllOrders_76 : rn G mm_Plan_costInAllOrders 76 [a0, a1, a2, a3, a4, a5, a6, a7, a8, some (.int x), a10, a11, a12] st S P ↔ rn G mm_Plan_costInAllOrders 78 [a0, a1, a2, a3, a4, a5, a6, a7, a8, some (.int x), a10, a11, a12] (.int x :: st) S P := rn_s dq_Plan_costInAllOrders_76 rfl rfl rfl
theorem dq_Plan_costInAllOrders_78 : decode (km_c mm_Plan_costInAllOrders) 78 = .ok (.isub, 1) := by decide +kernel
theorem sq_Plan_costInAllOrders_78 : rn G mm_Plan_costInAllOrders 78 lv (.int x2 :: .int x :: st) S P ↔ rn G mm_Plan_costInAllOrders 79 lv (.int (x - x2) :: st) S P := rn_s dq_Plan_costInAllOrders_78 rfl rfl rfl
theorem dq_Plan_costInAllOrders_79 : decode (km_c mm_Plan_costInAllOrders) 79 = .ok (.iaload, 1) := by decide +kernel
theorem sq_Plan_costInAllOrders_79 (ho : sx_o o pl kp) (hk : ak L a = 0) (hu : sx_up pl kp a = true ∨ 1000 ≤ a) (hc : c < ln L a) (hn : ln L a < 2 ^ 31) : rn (lt_G o L) mm_Plan_costInAllOrders 79 lv (.int (nI c) :: .ref a :: st) (sx pl kp I A) P ↔ rn (lt_G o L) mm_Plan_costInAllOrders 80 lv (.int (A a c) :: st) (sx pl kp I A) P := rx_ild dq_Plan_costInAllOrders_79 ho hk hu hc hn
theorem dq_Plan_costInAllOrders_80 : decode (km_c mm_Plan_costInAllOrders) 80 = .ok (.imul, 1) := by decide +kernel
theorem sq_Plan_costInAllOrders_80 : rn G mm_Plan_costInAllOrders 80 lv (.int x2 :: .int x :: st) S P ↔ rn G mm_Plan_costInAllOrders 81 lv (.int (x * x2) :: st) S P := rn_s dq_Plan_costInAllOrders_80 rfl rfl rfl
theorem dq_Plan_costInAllOrders_81 : decode (km_c mm_Plan_costInAllOrders) 81 = .ok (.i2l, 1) := by decide +kernel
theorem sq_Plan_costInAllOrders_81 : rn G mm_Plan_costInAllOrders 81 lv (.int x :: st) S P ↔ rn G mm_Plan_costInAllOrders 82 lv (.long x.toInt64 :: st) S P := rn_s dq_Plan_costInAllOrders_81 rfl rfl rfl
theorem dq_Plan_costInAllOrders_82 : decode (km_c mm_Plan_costInAllOrders) 82 = .ok (.lstore 11, 2) := by decide +kernel
theorem sq_Plan_costInAllOrders_82n : rn G mm_Plan_costInAllOrders 82 [a0, a1, a2, a3, a4, a5, a6, a7, a8, a9, none, a11, a12] (.long y :: st) S P ↔ rn G mm_Plan_costInAllOrders 84 [a0, a1, a2, a3, a4, a5, a6, a7, a8, a9, none, some (.long y), none] st S P := rn_s dq_Plan_costInAllOrders_82 rfl rfl rfl
theorem sq_Plan_costInAllOrders_82i : rn G mm_Plan_costInAllOrders 82 [a0, a1, a2, a3, a4, a5, a6, a7, a8, a9, some (.int x2), a11, a12] (.long y :: st) S P ↔ rn G mm_Plan_costInAllOrders 84 [a0, a1, a2, a3, a4, a5, a6, a7, a8, a9, some (.int x2), some (.long y), none] st S P := rn_s dq_Plan_costInAllOrders_82 rfl rfl rfl
theorem sq_Plan_costInAllOrders_82r : rn G mm_Plan_costInAllOrders 82 [a0, a1, a2, a3, a4, a5, a6, a7, a8, a9, some (.ref z2), a11, a12] (.long y :: st) S P ↔ rn G mm_Plan_costInAllOrders 84 [a0, a1, a2, a3, a4, a5, a6, a7, a8, a9, some (.ref z2), some (.long y), none] st S P := rn_s dq_Plan_costInAllOrders_82 rfl rfl rfl
theorem sq_Plan_costInAllOrders_82l : rn G mm_Plan_costInAllOrders 82 [a0, a1, a2, a3, a4, a5, a6, a7, a8, a9, some (.long y2), a11, a12] (.long y :: st) S P ↔ rn G mm_Plan_costInAllOrders 84 [a0, a1, a2, a3, a4, a5, a6, a7, a8, a9, none, some (.long y), none] st S P := rn_s dq_Plan_costInAllOrders_82 rfl rfl rfl
theorem dq_Plan_costInAllOrders_84 : decode (km_c mm_Plan_costInAllOrders) 84 = .ok (.lload 6, 2) := by decide +kernel
theorem sq_Plan_costInAllOrders_84 : rn G mm_Plan_costInAllOrders 84 [a0, a1, a2, a3, a4, a5, some (.long y), a7, a8, a9, a10, a11, a12] st S P ↔ rn G mm_Plan_costInAllOrders 86 [a0, a1, a2, a3, a4, a5, some (.long y), a7, a8, a9, a10, a11, a12] (.long y :: st) S P := rn_s dq_Plan_costInAllOrders_84 rfl rfl rfl
theorem dq_Plan_costInAllOrders_86 : decode (km_c mm_Plan_costInAllOrders) 86 = .ok (.lload 11, 2) := by decide +kernel
theorem sq_Plan_costInAllOrders_86 : rn G mm_Plan_costInAllOrders 86 [a0, a1, a2, a3, a4, a5, a6, a7, a8, a9, a10, some (.long y), a12] st S P ↔ rn G mm_Plan_costInAllOrders 88 [a0, a1, a2, a3, a4, a5, a6, a7, a8, a9, a10, some (.long y), a12] (.long y :: st) S P := rn_s dq_Plan_costInAllOrders_86 rfl rfl rfl
theorem dq_Plan_costInAllOrders_88 : decode (km_c mm_Plan_costInAllOrders) 88 = .ok (.aload_n 0, 1) := by decide +kernel
theorem sq_Plan_costInAllOrders_88 : rn G mm_Plan_costInAllOrders 88 [some (.ref z), a1, a2, a3, a4, a5, a6, a7, a8, a9, a10, a11, a12] st S P ↔ rn G mm_Plan_costInAllOrders 89 [some (.ref z), a1, a2, a3, a4, a5, a6, a7, a8, a9, a10, a11, a12] (.ref z :: st) S P := rn_s dq_Plan_costInAllOrders_88 rfl rfl rfl
theorem dq_Plan_costInAllOrders_89 : decode (km_c mm_Plan_costInAllOrders) 89 = .ok (.iload 8, 2) := by decide +kernel
theorem sq_Plan_costInAllOrders_89 : rn G mm_Plan_costInAllOrders 89 [a0, a1, a2, a3, a4, a5, a6, a7, some (.int x), a9, a10, a11, a12] st S P ↔ rn G mm_Plan_costInAllOrders 91 [a0, a1, a2, a3, a4, a5, a6, a7, some (.int x), a9, a10, a11, a12] (.int x :: st) S P := rn_s dq_Plan_costInAllOrders_89 rfl rfl rfl
theorem dq_Plan_costInAllOrders_91 : decode (km_c mm_Plan_costInAllOrders) 91 = .ok (.iload_n 3, 1) := by decide +kernel
theorem sq_Plan_costInAllOrders_91 : rn G mm_Plan_costInAllOrders 91 [a0, a1, a2, some (.int x), a4, a5, a6, a7, a8, a9, a10, a11, a12] st S P ↔ rn G mm_Plan_costInAllOrders 92 [a0, a1, a2, some (.int x), a4, a5, a6, a7, a8, a9, a10, a11, a12] (.int x :: st) S P := rn_s dq_Plan_costInAllOrders_91 rfl rfl rfl
theorem dq_Plan_costInAllOrders_92 : decode (km_c mm_Plan_costInAllOrders) 92 = .ok (.ior, 1) := by decide +kernel
theorem sq_Plan_costInAllOrders_92 : rn G mm_Plan_costInAllOrders 92 lv (.int x2 :: .int x :: st) S P ↔ rn G mm_Plan_costInAllOrders 93 lv (.int (x ||| x2) :: st) S P := rn_s dq_Plan_costInAllOrders_92 rfl rfl rfl
theorem dq_Plan_costInAllOrders_93 : decode (km_c mm_Plan_costInAllOrders) 93 = .ok (.invokevirtual 56, 3) := by decide +kernel
theorem sq_Plan_costInAllOrders_93_65 {x1 : Int32} {v : Option Value} {S2 : ks_S} (hc : ev (lt_G o L) mm_Plan_costFor [.ref 65, .int x1] (sx true kp I A) v S2) (ho : sx_o o true kp) (hst : kx_cat st ≤ 8) : rn (lt_G o L) mm_Plan_costInAllOrders 93 lv (.int x1 :: .ref 65 :: st) (sx true kp I A) P ↔ rn (lt_G o L) mm_Plan_costInAllOrders 96 lv (v.toList ++ st) S2 P := rn_cv (k := 0) (host := "") (E' := mm_Plan_costFor) dq_Plan_costInAllOrders_93 rfl (ok_v rfl (by decide) (by decide) (Nat.le_add_left _ _) hst (Nat.le_of_ble_eq_true rfl) (Or.inr (rc_v ho (up_p (by decide)) rfl))) rfl rfl hc
theorem dq_Plan_costInAllOrders_96 : decode (km_c mm_Plan_costInAllOrders) 96 = .ok (.iload 10, 2) := by decide +kernel
theorem sq_Plan_costInAllOrders_96 : rn G mm_Plan_costInAllOrders 96 [a0, a1, a2, a3, a4, a5, a6, a7, a8, a9, some (.int x), a11, a12] st S P ↔ rn G mm_Plan_costInAllOrders 98 [a0, a1, a2, a3, a4, a5, a6, a7, a8, a9, some (.int x), a11, a12] (.int x :: st) S P := rn_s dq_Plan_costInAllOrders_96 rfl rfl rfl
theorem dq_Plan_costInAllOrders_98 : decode (km_c mm_Plan_costInAllOrders) 98 = .ok (.isub, 1) := by decide +kernel
theorem sq_Plan_costInAllOrders_98 : rn G mm_Plan_costInAllOrders 98 lv (.int x2 :: .int x :: st) S P ↔ rn G mm_Plan_costInAllOrders 99 lv (.int (x - x2) :: st) S P := rn_s dq_Plan_costInAllOrders_98 rfl rfl rfl
theorem dq_Plan_costInAllOrders_99 : decode (km_c mm_Plan_costInAllOrders) 99 = .ok (.i2l, 1) := by decide +kernel
theorem sq_Plan_costInAllOrders_99 : rn G mm_Plan_costInAllOrders 99 lv (.int x :: st) S P ↔ rn G mm_Plan_costInAllOrders 100 lv (.long x.toInt64 :: st) S P := rn_s dq_Plan_costInAllOrders_99 rfl rfl rfl
theorem dq_Plan_costInAllOrders_100 : decode (km_c mm_Plan_costInAllOrders) 100 = .ok (.lmul, 1) := by decide +kernel
theorem sq_Plan_costInAllOrders_100 : rn G mm_Plan_costInAllOrders 100 lv (.long y2 :: .long y :: st) S P ↔ rn G mm_Plan_costInAllOrders 101 lv (.long (y * y2) :: st) S P := rn_s dq_Plan_costInAllOrders_100 rfl rfl rfl
theorem dq_Plan_costInAllOrders_101 : decode (km_c mm_Plan_costInAllOrders) 101 = .ok (.ladd, 1) := by decide +kernel
theorem sq_Plan_costInAllOrders_101 : rn G mm_Plan_costInAllOrders 101 lv (.long y2 :: .long y :: st) S P ↔ rn G mm_Plan_costInAllOrders 102 lv (.long (y + y2) :: st) S P := rn_s dq_Plan_costInAllOrders_101 rfl rfl rfl
theorem dq_Plan_costInAllOrders_102 : decode (km_c mm_Plan_costInAllOrders) 102 = .ok (.lstore 6, 2) := by decide +kernel
theorem sq_Plan_costInAllOrders_102n : rn G mm_Plan_costInAllOrders 102 [a0, a1, a2, a3, a4, none, a6, a7, a8, a9, a10, a11, a12] (.long y :: st) S P ↔ rn G mm_Plan_costInAllOrders 104 [a0, a1, a2, a3, a4, none, some (.long y), none, a8, a9, a10, a11, a12] st S P := rn_s dq_Plan_costInAllOrders_102 rfl rfl rfl
theorem sq_Plan_costInAllOrders_102i : rn G mm_Plan_costInAllOrders 102 [a0, a1, a2, a3, a4, some (.int x2), a6, a7, a8, a9, a10, a11, a12] (.long y :: st) S P ↔ rn G mm_Plan_costInAllOrders 104 [a0, a1, a2, a3, a4, some (.int x2), some (.long y), none, a8, a9, a10, a11, a12] st S P := rn_s dq_Plan_costInAllOrders_102 rfl rfl rfl
theorem sq_Plan_costInAllOrders_102r : rn G mm_Plan_costInAllOrders 102 [a0, a1, a2, a3, a4, some (.ref z2), a6, a7, a8, a9, a10, a11, a12] (.long y :: st) S P ↔ rn G mm_Plan_costInAllOrders 104 [a0, a1, a2, a3, a4, some (.ref z2), some (.long y), none, a8, a9, a10, a11, a12] st S P := rn_s dq_Plan_costInAllOrders_102 rfl rfl rfl
theorem sq_Plan_costInAllOrders_102l : rn G mm_Plan_costInAllOrders 102 [a0, a1, a2, a3, a4, some (.long y2), a6, a7, a8, a9, a10, a11, a12] (.long y :: st) S P ↔ rn G mm_Plan_costInAllOrders 104 [a0, a1, a2, a3, a4, none, some (.long y), none, a8, a9, a10, a11, a12] st S P := rn_s dq_Plan_costInAllOrders_102 rfl rfl rfl
theorem dq_Plan_costInAllOrders_104 : decode (km_c mm_Plan_costInAllOrders) 104 = .ok (.iinc 8 1, 3) := by decide +kernel
theorem sq_Plan_costInAllOrders_104n : rn G mm_Plan_costInAllOrders 104 [a0, a1, a2, a3, a4, a5, a6, none, some (.int x), a9, a10, a11, a12] st S P ↔ rn G mm_Plan_costInAllOrders 107 [a0, a1, a2, a3, a4, a5, a6, none, some (.int (x + nI 1)), a9, a10, a11, a12] st S P := rn_s dq_Plan_costInAllOrders_104 rfl rfl rfl
theorem sq_Plan_costInAllOrders_104i : rn G mm_Plan_costInAllOrders 104 [a0, a1, a2, a3, a4, a5, a6, some (.int x2), some (.int x), a9, a10, a11, a12] st S P ↔ rn G mm_Plan_costInAllOrders 107 [a0, a1, a2, a3, a4, a5, a6, some (.int x2), some (.int (x + nI 1)), a9, a10, a11, a12] st S P := rn_s dq_Plan_costInAllOrders_104 rfl rfl rfl
theorem sq_Plan_costInAllOrders_104r : rn G mm_Plan_costInAllOrders 104 [a0, a1, a2, a3, a4, a5, a6, some (.ref z2), some (.int x), a9, a10, a11, a12] st S P ↔ rn G mm_Plan_costInAllOrders 107 [a0, a1, a2, a3, a4, a5, a6, some (.ref z2), some (.int (x + nI 1)), a9, a10, a11, a12] st S P := rn_s dq_Plan_costInAllOrders_104 rfl rfl rfl
theorem sq_Plan_costInAllOrders_104l : rn G mm_Plan_costInAllOrders 104 [a0, a1, a2, a3, a4, a5, a6, some (.long y2), some (.int x), a9, a10, a11, a12] st S P ↔ rn G mm_Plan_costInAllOrders 107 [a0, a1, a2, a3, a4, a5, a6, none, some (.int (x + nI 1)), a9, a10, a11, a12] st S P := rn_s dq_Plan_costInAllOrders_104 rfl rfl rfl
theorem dq_Plan_costInAllOrders_107 : decode (km_c mm_Plan_costInAllOrders) 107 = .ok (.goto (-83), 3) := by decide +kernel
theorem sq_Plan_costInAllOrders_107 : rn G mm_Plan_costInAllOrders 107 lv st S P ↔ rn G mm_Plan_costInAllOrders 24 lv st S P := rn_s dq_Plan_costInAllOrders_107 rfl rfl rfl
theorem dq_Plan_costInAllOrders_110 : decode (km_c mm_Plan_costInAllOrders) 110 = .ok (.lload 6, 2) := by decide +kernel
theorem sq_Plan_costInAllOrders_110 : rn G mm_Plan_costInAllOrders 110 [a0, a1, a2, a3, a4, a5, some (.long y), a7, a8, a9, a10, a11, a12] st S P ↔ rn G mm_Plan_costInAllOrders 112 [a0, a1, a2, a3, a4, a5, some (.long y), a7, a8, a9, a10, a11, a12] (.long y :: st) S P := rn_s dq_Plan_costInAllOrders_110 rfl rfl rfl
theorem dq_Plan_costInAllOrders_112 : decode (km_c mm_Plan_costInAllOrders) 112 = .ok (.lreturn, 1) := by decide +kernel
theorem sq_Plan_costInAllOrders_112 : rn G mm_Plan_costInAllOrders 112 lv [.long y] S P ↔ P (some (.long y)) S := rn_lr dq_Plan_costInAllOrders_112 rfl
theorem dq_Plan_cellsFor_0 : decode (km_c mm_Plan_cellsFor) 0 = .ok (.aload_n 0, 1) := by decide +kernel
theorem sq_Plan_cellsFor_0 : rn G mm_Plan_cellsFor 0 [some (.ref z), a1] st S P ↔ rn G mm_Plan_cellsFor 1 [some (.ref z), a1] (.ref z :: st) S P := rn_s dq_Plan_cellsFor_0 rfl rfl rfl
theorem dq_Plan_cellsFor_1 : decode (km_c mm_Plan_cellsFor) 1 = .ok (.iload_n 1, 1) := by decide +kernel
theorem sq_Plan_cellsFor_1 : rn G mm_Plan_cellsFor 1 [a0, some (.int x)] st S P ↔ rn G mm_Plan_cellsFor 2 [a0, some (.int x)] (.int x :: st) S P := rn_s dq_Plan_cellsFor_1 rfl rfl rfl
theorem dq_Plan_cellsFor_2 : decode (km_c mm_Plan_cellsFor) 2 = .ok (.invokevirtual 46, 3) := by decide +kernel
theorem sq_Plan_cellsFor_2_65 {x1 : Int32} {v : Option Value} {S2 : ks_S} (hc : ev (lt_G o L) mm_Plan_settleParts [.ref 65, .int x1] (sx true kp I A) v S2) (ho : sx_o o true kp) (hst : kx_cat st ≤ 8) : rn (lt_G o L) mm_Plan_cellsFor 2 lv (.int x1 :: .ref 65 :: st) (sx true kp I A) P ↔ rn (lt_G o L) mm_Plan_cellsFor 5 lv (v.toList ++ st) S2 P := rn_cv (k := 0) (host := "") (E' := mm_Plan_settleParts) dq_Plan_cellsFor_2 rfl (ok_v rfl (by decide) (by decide) (Nat.le_add_left _ _) hst (Nat.le_of_ble_eq_true rfl) (Or.inr (rc_v ho (up_p (by decide)) rfl))) rfl rfl hc
theorem dq_Plan_cellsFor_5 : decode (km_c mm_Plan_cellsFor) 5 = .ok (.aload_n 0, 1) := by decide +kernel
theorem sq_Plan_cellsFor_5 : rn G mm_Plan_cellsFor 5 [some (.ref z), a1] st S P ↔ rn G mm_Plan_cellsFor 6 [some (.ref z), a1] (.ref z :: st) S P := rn_s dq_Plan_cellsFor_5 rfl rfl rfl
theorem dq_Plan_cellsFor_6 : decode (km_c mm_Plan_cellsFor) 6 = .ok (.getfield 20, 3) := by decide +kernel
theorem sq_Plan_cellsFor_6_65 (ho : sx_o o true kp) : rn (lt_G o L) mm_Plan_cellsFor 6 lv (.ref 65 :: st) (sx true kp I A) P ↔ rn (lt_G o L) mm_Plan_cellsFor 9 lv (.ref 68 :: st) (sx true kp I A) P := rx_get (h := "") (ci := 2) (k := 2) dq_Plan_cellsFor_6 (by decide +kernel) ho (up_p (by decide)) rfl rfl (fl_p (by decide) (by decide) (by decide))
theorem dq_Plan_cellsFor_9 : decode (km_c mm_Plan_cellsFor) 9 = .ok (.iload_n 1, 1) := by decide +kernel
theorem sq_Plan_cellsFor_9 : rn G mm_Plan_cellsFor 9 [a0, some (.int x)] st S P ↔ rn G mm_Plan_cellsFor 10 [a0, some (.int x)] (.int x :: st) S P := rn_s dq_Plan_cellsFor_9 rfl rfl rfl
theorem dq_Plan_cellsFor_10 : decode (km_c mm_Plan_cellsFor) 10 = .ok (.aaload, 1) := by decide +kernel
theorem sq_Plan_cellsFor_10 (ho : sx_o o pl kp) (hk : ak L a = 3) (hu : sx_up pl kp a = true) (hc : c < ln L a) (hn : ln L a < 2 ^ 31) : rn (lt_G o L) mm_Plan_cellsFor 10 lv (.int (nI c) :: .ref a :: st) (sx pl kp I A) P ↔ rn (lt_G o L) mm_Plan_cellsFor 11 lv (.ref (ab L a + c) :: st) (sx pl kp I A) P := rx_ald dq_Plan_cellsFor_10 ho hk hu hc hn
theorem dq_Plan_cellsFor_11 : decode (km_c mm_Plan_cellsFor) 11 = .ok (.aload_n 0, 1) := by decide +kernel
theorem sq_Plan_cellsFor_11 : rn G mm_Plan_cellsFor 11 [some (.ref z), a1] st S P ↔ rn G mm_Plan_cellsFor 12 [some (.ref z), a1] (.ref z :: st) S P := rn_s dq_Plan_cellsFor_11 rfl rfl rfl
theorem dq_Plan_cellsFor_12 : decode (km_c mm_Plan_cellsFor) 12 = .ok (.getfield 40, 3) := by decide +kernel
theorem sq_Plan_cellsFor_12_65 (ho : sx_o o true kp) : rn (lt_G o L) mm_Plan_cellsFor 12 lv (.ref 65 :: st) (sx true kp I A) P ↔ rn (lt_G o L) mm_Plan_cellsFor 15 lv (.int (I 65 8) :: st) (sx true kp I A) P := rx_get (h := "") (ci := 2) (k := 8) dq_Plan_cellsFor_12 (by decide +kernel) ho (up_p (by decide)) rfl rfl (fl_i (by decide))
theorem dq_Plan_cellsFor_15 : decode (km_c mm_Plan_cellsFor) 15 = .ok (.iaload, 1) := by decide +kernel
theorem sq_Plan_cellsFor_15 (ho : sx_o o pl kp) (hk : ak L a = 0) (hu : sx_up pl kp a = true ∨ 1000 ≤ a) (hc : c < ln L a) (hn : ln L a < 2 ^ 31) : rn (lt_G o L) mm_Plan_cellsFor 15 lv (.int (nI c) :: .ref a :: st) (sx pl kp I A) P ↔ rn (lt_G o L) mm_Plan_cellsFor 16 lv (.int (A a c) :: st) (sx pl kp I A) P := rx_ild dq_Plan_cellsFor_15 ho hk hu hc hn
theorem dq_Plan_cellsFor_16 : decode (km_c mm_Plan_cellsFor) 16 = .ok (.sipush 4096, 3) := by decide +kernel
theorem sq_Plan_cellsFor_16 : rn G mm_Plan_cellsFor 16 lv st S P ↔ rn G mm_Plan_cellsFor 19 lv (.int (nI 4096) :: st) S P := rn_s dq_Plan_cellsFor_16 rfl rfl rfl
theorem dq_Plan_cellsFor_19 : decode (km_c mm_Plan_cellsFor) 19 = .ok (.irem, 1) := by decide +kernel
theorem sq_Plan_cellsFor_19 (hz : ¬ x2 = 0) : rn G mm_Plan_cellsFor 19 lv (.int x2 :: .int x :: st) S P ↔ rn G mm_Plan_cellsFor 20 lv (.int (x - x / x2 * x2) :: st) S P := rn_s dq_Plan_cellsFor_19 rfl rfl (if_neg hz)
theorem dq_Plan_cellsFor_20 : decode (km_c mm_Plan_cellsFor) 20 = .ok (.ireturn, 1) := by decide +kernel
theorem sq_Plan_cellsFor_20 : rn G mm_Plan_cellsFor 20 lv [.int x] S P ↔ P (some (.int x)) S := rn_ir dq_Plan_cellsFor_20 rfl
theorem dq_Plan_walk_0 : decode (km_c mm_Plan_walk) 0 = .ok (.aload_n 0, 1) := by decide +kernel
theorem sq_Plan_walk_0 : rn G mm_Plan_walk 0 [some (.ref z), a1, a2, a3, a4, a5, a6] st S P ↔ rn G mm_Plan_walk 1 [some (.ref z), a1, a2, a3, a4, a5, a6] (.ref z :: st) S P := rn_s dq_Plan_walk_0 rfl rfl rfl
theorem dq_Plan_walk_1 : decode (km_c mm_Plan_walk) 1 = .ok (.iload_n 1, 1) := by decide +kernel
theorem sq_Plan_walk_1 : rn G mm_Plan_walk 1 [a0, some (.int x), a2, a3, a4, a5, a6] st S P ↔ rn G mm_Plan_walk 2 [a0, some (.int x), a2, a3, a4, a5, a6] (.int x :: st) S P := rn_s dq_Plan_walk_1 rfl rfl rfl
theorem dq_Plan_walk_2 : decode (km_c mm_Plan_walk) 2 = .ok (.invokevirtual 46, 3) := by decide +kernel
theorem sq_Plan_walk_2_65 {x1 : Int32} {v : Option Value} {S2 : ks_S} (hc : ev (lt_G o L) mm_Plan_settleParts [.ref 65, .int x1] (sx true kp I A) v S2) (ho : sx_o o true kp) (hst : kx_cat st ≤ 8) : rn (lt_G o L) mm_Plan_walk 2 lv (.int x1 :: .ref 65 :: st) (sx true kp I A) P ↔ rn (lt_G o L) mm_Plan_walk 5 lv (v.toList ++ st) S2 P := rn_cv (k := 0) (host := "") (E' := mm_Plan_settleParts) dq_Plan_walk_2 rfl (ok_v rfl (by decide) (by decide) (Nat.le_add_left _ _) hst (Nat.le_of_ble_eq_true rfl) (Or.inr (rc_v ho (up_p (by decide)) rfl))) rfl rfl hc
theorem dq_Plan_walk_5 : decode (km_c mm_Plan_walk) 5 = .ok (.aload_n 2, 1) := by decide +kernel
theorem sq_Plan_walk_5 : rn G mm_Plan_walk 5 [a0, a1, some (.ref z), a3, a4, a5, a6] st S P ↔ rn G mm_Plan_walk 6 [a0, a1, some (.ref z), a3, a4, a5, a6] (.ref z :: st) S P := rn_s dq_Plan_walk_5 rfl rfl rfl
theorem dq_Plan_walk_6 : decode (km_c mm_Plan_walk) 6 = .ok (.iconst 0, 1) := by decide +kernel
theorem sq_Plan_walk_6 : rn G mm_Plan_walk 6 lv st S P ↔ rn G mm_Plan_walk 7 lv (.int (nI 0) :: st) S P := rn_s dq_Plan_walk_6 rfl rfl rfl
theorem dq_Plan_walk_7 : decode (km_c mm_Plan_walk) 7 = .ok (.putfield 62, 3) := by decide +kernel
theorem sq_Plan_walk_7_12 (ho : sx_o o pl kp) : rn (lt_G o L) mm_Plan_walk 7 lv (.int x :: .ref 12 :: st) (sx pl kp I A) P ↔ rn (lt_G o L) mm_Plan_walk 10 lv st (sx pl kp (u2 I 12 1 x) A) P := rx_put (h := "DeltaRoad") (ci := 1) (k := 1) dq_Plan_walk_7 (by decide +kernel) ho (up_b (by decide)) rfl rfl (by decide) (by decide)
theorem sq_Plan_walk_7_147 (ho : sx_o o pl true) : rn (lt_G o L) mm_Plan_walk 7 lv (.int x :: .ref 147 :: st) (sx pl true I A) P ↔ rn (lt_G o L) mm_Plan_walk 10 lv st (sx pl true (u2 I 147 1 x) A) P := rx_put (h := "DeltaRoad") (ci := 1) (k := 1) dq_Plan_walk_7 (by decide +kernel) ho (up_k (by decide) (by decide)) rfl rfl (by decide) (by decide)
theorem dq_Plan_walk_10 : decode (km_c mm_Plan_walk) 10 = .ok (.aload_n 0, 1) := by decide +kernel
theorem sq_Plan_walk_10 : rn G mm_Plan_walk 10 [some (.ref z), a1, a2, a3, a4, a5, a6] st S P ↔ rn G mm_Plan_walk 11 [some (.ref z), a1, a2, a3, a4, a5, a6] (.ref z :: st) S P := rn_s dq_Plan_walk_10 rfl rfl rfl
theorem dq_Plan_walk_11 : decode (km_c mm_Plan_walk) 11 = .ok (.getfield 40, 3) := by decide +kernel
theorem sq_Plan_walk_11_65 (ho : sx_o o true kp) : rn (lt_G o L) mm_Plan_walk 11 lv (.ref 65 :: st) (sx true kp I A) P ↔ rn (lt_G o L) mm_Plan_walk 14 lv (.int (I 65 8) :: st) (sx true kp I A) P := rx_get (h := "") (ci := 2) (k := 8) dq_Plan_walk_11 (by decide +kernel) ho (up_p (by decide)) rfl rfl (fl_i (by decide))
theorem dq_Plan_walk_14 : decode (km_c mm_Plan_walk) 14 = .ok (.istore_n 3, 1) := by decide +kernel
theorem sq_Plan_walk_14n : rn G mm_Plan_walk 14 [a0, a1, none, a3, a4, a5, a6] (.int x :: st) S P ↔ rn G mm_Plan_walk 15 [a0, a1, none, some (.int x), a4, a5, a6] st S P := rn_s dq_Plan_walk_14 rfl rfl rfl
theorem sq_Plan_walk_14i : rn G mm_Plan_walk 14 [a0, a1, some (.int x2), a3, a4, a5, a6] (.int x :: st) S P ↔ rn G mm_Plan_walk 15 [a0, a1, some (.int x2), some (.int x), a4, a5, a6] st S P := rn_s dq_Plan_walk_14 rfl rfl rfl
theorem sq_Plan_walk_14r : rn G mm_Plan_walk 14 [a0, a1, some (.ref z2), a3, a4, a5, a6] (.int x :: st) S P ↔ rn G mm_Plan_walk 15 [a0, a1, some (.ref z2), some (.int x), a4, a5, a6] st S P := rn_s dq_Plan_walk_14 rfl rfl rfl
theorem dq_Plan_walk_15 : decode (km_c mm_Plan_walk) 15 = .ok (.iload_n 1, 1) := by decide +kernel
theorem sq_Plan_walk_15 : rn G mm_Plan_walk 15 [a0, some (.int x), a2, a3, a4, a5, a6] st S P ↔ rn G mm_Plan_walk 16 [a0, some (.int x), a2, a3, a4, a5, a6] (.int x :: st) S P := rn_s dq_Plan_walk_15 rfl rfl rfl
theorem dq_Plan_walk_16 : decode (km_c mm_Plan_walk) 16 = .ok (.istore 4, 2) := by decide +kernel
theorem sq_Plan_walk_16n : rn G mm_Plan_walk 16 [a0, a1, a2, none, a4, a5, a6] (.int x :: st) S P ↔ rn G mm_Plan_walk 18 [a0, a1, a2, none, some (.int x), a5, a6] st S P := rn_s dq_Plan_walk_16 rfl rfl rfl
theorem sq_Plan_walk_16i : rn G mm_Plan_walk 16 [a0, a1, a2, some (.int x2), a4, a5, a6] (.int x :: st) S P ↔ rn G mm_Plan_walk 18 [a0, a1, a2, some (.int x2), some (.int x), a5, a6] st S P := rn_s dq_Plan_walk_16 rfl rfl rfl
theorem sq_Plan_walk_16r : rn G mm_Plan_walk 16 [a0, a1, a2, some (.ref z2), a4, a5, a6] (.int x :: st) S P ↔ rn G mm_Plan_walk 18 [a0, a1, a2, some (.ref z2), some (.int x), a5, a6] st S P := rn_s dq_Plan_walk_16 rfl rfl rfl
theorem dq_Plan_walk_18 : decode (km_c mm_Plan_walk) 18 = .ok (.iconst 0, 1) := by decide +kernel
theorem sq_Plan_walk_18 : rn G mm_Plan_walk 18 lv st S P ↔ rn G mm_Plan_walk 19 lv (.int (nI 0) :: st) S P := rn_s dq_Plan_walk_18 rfl rfl rfl
theorem dq_Plan_walk_19 : decode (km_c mm_Plan_walk) 19 = .ok (.istore 5, 2) := by decide +kernel
theorem sq_Plan_walk_19n : rn G mm_Plan_walk 19 [a0, a1, a2, a3, none, a5, a6] (.int x :: st) S P ↔ rn G mm_Plan_walk 21 [a0, a1, a2, a3, none, some (.int x), a6] st S P := rn_s dq_Plan_walk_19 rfl rfl rfl
theorem sq_Plan_walk_19i : rn G mm_Plan_walk 19 [a0, a1, a2, a3, some (.int x2), a5, a6] (.int x :: st) S P ↔ rn G mm_Plan_walk 21 [a0, a1, a2, a3, some (.int x2), some (.int x), a6] st S P := rn_s dq_Plan_walk_19 rfl rfl rfl
theorem sq_Plan_walk_19r : rn G mm_Plan_walk 19 [a0, a1, a2, a3, some (.ref z2), a5, a6] (.int x :: st) S P ↔ rn G mm_Plan_walk 21 [a0, a1, a2, a3, some (.ref z2), some (.int x), a6] st S P := rn_s dq_Plan_walk_19 rfl rfl rfl
theorem dq_Plan_walk_21 : decode (km_c mm_Plan_walk) 21 = .ok (.iload 5, 2) := by decide +kernel
theorem sq_Plan_walk_21 : rn G mm_Plan_walk 21 [a0, a1, a2, a3, a4, some (.int x), a6] st S P ↔ rn G mm_Plan_walk 23 [a0, a1, a2, a3, a4, some (.int x), a6] (.int x :: st) S P := rn_s dq_Plan_walk_21 rfl rfl rfl
theorem dq_Plan_walk_23 : decode (km_c mm_Plan_walk) 23 = .ok (.bipush 60, 2) := by decide +kernel
theorem sq_Plan_walk_23 : rn G mm_Plan_walk 23 lv st S P ↔ rn G mm_Plan_walk 25 lv (.int (nI 60) :: st) S P := rn_s dq_Plan_walk_23 rfl rfl rfl
theorem dq_Plan_walk_25 : decode (km_c mm_Plan_walk) 25 = .ok (.if_icmp .ge 72, 3) := by decide +kernel
theorem sq_Plan_walk_25 : rn G mm_Plan_walk 25 lv (.int x2 :: .int x :: st) S P ↔ ((x2 ≤ x → rn G mm_Plan_walk 97 lv st S P) ∧ (¬ (x2 ≤ x) → rn G mm_Plan_walk 28 lv st S P)) := rn_b (off := 72) dq_Plan_walk_25 rfl rfl rfl rfl
theorem dq_Plan_walk_28 : decode (km_c mm_Plan_walk) 28 = .ok (.iload_n 3, 1) := by decide +kernel
theorem sq_Plan_walk_28 : rn G mm_Plan_walk 28 [a0, a1, a2, some (.int x), a4, a5, a6] st S P ↔ rn G mm_Plan_walk 29 [a0, a1, a2, some (.int x), a4, a5, a6] (.int x :: st) S P := rn_s dq_Plan_walk_28 rfl rfl rfl
theorem dq_Plan_walk_29 : decode (km_c mm_Plan_walk) 29 = .ok (.ifCond .lt 68, 3) := by decide +kernel
theorem sq_Plan_walk_29 : rn G mm_Plan_walk 29 lv (.int x :: st) S P ↔ ((x < 0 → rn G mm_Plan_walk 97 lv st S P) ∧ (¬ (x < 0) → rn G mm_Plan_walk 32 lv st S P)) := rn_b (off := 68) dq_Plan_walk_29 rfl rfl rfl rfl
theorem dq_Plan_walk_32 : decode (km_c mm_Plan_walk) 32 = .ok (.aload_n 2, 1) := by decide +kernel
theorem sq_Plan_walk_32 : rn G mm_Plan_walk 32 [a0, a1, some (.ref z), a3, a4, a5, a6] st S P ↔ rn G mm_Plan_walk 33 [a0, a1, some (.ref z), a3, a4, a5, a6] (.ref z :: st) S P := rn_s dq_Plan_walk_32 rfl rfl rfl
theorem dq_Plan_walk_33 : decode (km_c mm_Plan_walk) 33 = .ok (.iload_n 3, 1) := by decide +kernel
theorem sq_Plan_walk_33 : rn G mm_Plan_walk 33 [a0, a1, a2, some (.int x), a4, a5, a6] st S P ↔ rn G mm_Plan_walk 34 [a0, a1, a2, some (.int x), a4, a5, a6] (.int x :: st) S P := rn_s dq_Plan_walk_33 rfl rfl rfl
theorem dq_Plan_walk_34 : decode (km_c mm_Plan_walk) 34 = .ok (.invokevirtual 67, 3) := by decide +kernel
theorem sq_Plan_walk_34_12 {x1 : Int32} {v : Option Value} {S2 : ks_S} (hc : ev (lt_G o L) mm_Laid_add [.ref 12, .int x1] (sx pl kp I A) v S2) (ho : sx_o o pl kp) (hst : kx_cat st ≤ 8) : rn (lt_G o L) mm_Plan_walk 34 lv (.int x1 :: .ref 12 :: st) (sx pl kp I A) P ↔ rn (lt_G o L) mm_Plan_walk 37 lv (v.toList ++ st) S2 P := rn_cv (k := 0) (host := "") (E' := mm_Laid_add) dq_Plan_walk_34 rfl (ok_v rfl (by decide) (by decide) (Nat.le_add_left _ _) hst (Nat.le_of_ble_eq_true rfl) (Or.inr (rc_v ho (up_b (by decide)) rfl))) rfl rfl hc
theorem sq_Plan_walk_34_147 {x1 : Int32} {v : Option Value} {S2 : ks_S} (hc : ev (lt_G o L) mm_Laid_add [.ref 147, .int x1] (sx pl true I A) v S2) (ho : sx_o o pl true) (hst : kx_cat st ≤ 8) : rn (lt_G o L) mm_Plan_walk 34 lv (.int x1 :: .ref 147 :: st) (sx pl true I A) P ↔ rn (lt_G o L) mm_Plan_walk 37 lv (v.toList ++ st) S2 P := rn_cv (k := 0) (host := "") (E' := mm_Laid_add) dq_Plan_walk_34 rfl (ok_v rfl (by decide) (by decide) (Nat.le_add_left _ _) hst (Nat.le_of_ble_eq_true rfl) (Or.inr (rc_v ho (up_k (by decide) (by decide)) rfl))) rfl rfl hc
theorem dq_Plan_walk_37 : decode (km_c mm_Plan_walk) 37 = .ok (.aload_n 0, 1) := by decide +kernel
theorem sq_Plan_walk_37 : rn G mm_Plan_walk 37 [some (.ref z), a1, a2, a3, a4, a5, a6] st S P ↔ rn G mm_Plan_walk 38 [some (.ref z), a1, a2, a3, a4, a5, a6] (.ref z :: st) S P := rn_s dq_Plan_walk_37 rfl rfl rfl
theorem dq_Plan_walk_38 : decode (km_c mm_Plan_walk) 38 = .ok (.getfield 20, 3) := by decide +kernel
theorem sq_Plan_walk_38_65 (ho : sx_o o true kp) : rn (lt_G o L) mm_Plan_walk 38 lv (.ref 65 :: st) (sx true kp I A) P ↔ rn (lt_G o L) mm_Plan_walk 41 lv (.ref 68 :: st) (sx true kp I A) P := rx_get (h := "") (ci := 2) (k := 2) dq_Plan_walk_38 (by decide +kernel) ho (up_p (by decide)) rfl rfl (fl_p (by decide) (by decide) (by decide))
theorem dq_Plan_walk_41 : decode (km_c mm_Plan_walk) 41 = .ok (.iload 4, 2) := by decide +kernel
theorem sq_Plan_walk_41 : rn G mm_Plan_walk 41 [a0, a1, a2, a3, some (.int x), a5, a6] st S P ↔ rn G mm_Plan_walk 43 [a0, a1, a2, a3, some (.int x), a5, a6] (.int x :: st) S P := rn_s dq_Plan_walk_41 rfl rfl rfl
theorem dq_Plan_walk_43 : decode (km_c mm_Plan_walk) 43 = .ok (.aaload, 1) := by decide +kernel
theorem sq_Plan_walk_43 (ho : sx_o o pl kp) (hk : ak L a = 3) (hu : sx_up pl kp a = true) (hc : c < ln L a) (hn : ln L a < 2 ^ 31) : rn (lt_G o L) mm_Plan_walk 43 lv (.int (nI c) :: .ref a :: st) (sx pl kp I A) P ↔ rn (lt_G o L) mm_Plan_walk 44 lv (.ref (ab L a + c) :: st) (sx pl kp I A) P := rx_ald dq_Plan_walk_43 ho hk hu hc hn
theorem dq_Plan_walk_44 : decode (km_c mm_Plan_walk) 44 = .ok (.iload_n 3, 1) := by decide +kernel
theorem sq_Plan_walk_44 : rn G mm_Plan_walk 44 [a0, a1, a2, some (.int x), a4, a5, a6] st S P ↔ rn G mm_Plan_walk 45 [a0, a1, a2, some (.int x), a4, a5, a6] (.int x :: st) S P := rn_s dq_Plan_walk_44 rfl rfl rfl
theorem dq_Plan_walk_45 : decode (km_c mm_Plan_walk) 45 = .ok (.iaload, 1) := by decide +kernel
theorem sq_Plan_walk_45 (ho : sx_o o pl kp) (hk : ak L a = 0) (hu : sx_up pl kp a = true ∨ 1000 ≤ a) (hc : c < ln L a) (hn : ln L a < 2 ^ 31) : rn (lt_G o L) mm_Plan_walk 45 lv (.int (nI c) :: .ref a :: st) (sx pl kp I A) P ↔ rn (lt_G o L) mm_Plan_walk 46 lv (.int (A a c) :: st) (sx pl kp I A) P := rx_ild dq_Plan_walk_45 ho hk hu hc hn
theorem dq_Plan_walk_46 : decode (km_c mm_Plan_walk) 46 = .ok (.aload_n 0, 1) := by decide +kernel
theorem sq_Plan_walk_46 : rn G mm_Plan_walk 46 [some (.ref z), a1, a2, a3, a4, a5, a6] st S P ↔ rn G mm_Plan_walk 47 [some (.ref z), a1, a2, a3, a4, a5, a6] (.ref z :: st) S P := rn_s dq_Plan_walk_46 rfl rfl rfl
theorem dq_Plan_walk_47 : decode (km_c mm_Plan_walk) 47 = .ok (.getfield 9, 3) := by decide +kernel
theorem sq_Plan_walk_47_65 (ho : sx_o o true kp) : rn (lt_G o L) mm_Plan_walk 47 lv (.ref 65 :: st) (sx true kp I A) P ↔ rn (lt_G o L) mm_Plan_walk 50 lv (.ref 66 :: st) (sx true kp I A) P := rx_get (h := "") (ci := 2) (k := 0) dq_Plan_walk_47 (by decide +kernel) ho (up_p (by decide)) rfl rfl (fl_p (by decide) (by decide) (by decide))
theorem dq_Plan_walk_50 : decode (km_c mm_Plan_walk) 50 = .ok (.iload_n 3, 1) := by decide +kernel
theorem sq_Plan_walk_50 : rn G mm_Plan_walk 50 [a0, a1, a2, some (.int x), a4, a5, a6] st S P ↔ rn G mm_Plan_walk 51 [a0, a1, a2, some (.int x), a4, a5, a6] (.int x :: st) S P := rn_s dq_Plan_walk_50 rfl rfl rfl
theorem dq_Plan_walk_51 : decode (km_c mm_Plan_walk) 51 = .ok (.iaload, 1) := by decide +kernel
theorem sq_Plan_walk_51 (ho : sx_o o pl kp) (hk : ak L a = 0) (hu : sx_up pl kp a = true ∨ 1000 ≤ a) (hc : c < ln L a) (hn : ln L a < 2 ^ 31) : rn (lt_G o L) mm_Plan_walk 51 lv (.int (nI c) :: .ref a :: st) (sx pl kp I A) P ↔ rn (lt_G o L) mm_Plan_walk 52 lv (.int (A a c) :: st) (sx pl kp I A) P := rx_ild dq_Plan_walk_51 ho hk hu hc hn
theorem dq_Plan_walk_52 : decode (km_c mm_Plan_walk) 52 = .ok (.isub, 1) := by decide +kernel
theorem sq_Plan_walk_52 : rn G mm_Plan_walk 52 lv (.int x2 :: .int x :: st) S P ↔ rn G mm_Plan_walk 53 lv (.int (x - x2) :: st) S P := rn_s dq_Plan_walk_52 rfl rfl rfl
theorem dq_Plan_walk_53 : decode (km_c mm_Plan_walk) 53 = .ok (.istore 6, 2) := by decide +kernel
theorem sq_Plan_walk_53n : rn G mm_Plan_walk 53 [a0, a1, a2, a3, a4, none, a6] (.int x :: st) S P ↔ rn G mm_Plan_walk 55 [a0, a1, a2, a3, a4, none, some (.int x)] st S P := rn_s dq_Plan_walk_53 rfl rfl rfl
theorem sq_Plan_walk_53i : rn G mm_Plan_walk 53 [a0, a1, a2, a3, a4, some (.int x2), a6] (.int x :: st) S P ↔ rn G mm_Plan_walk 55 [a0, a1, a2, a3, a4, some (.int x2), some (.int x)] st S P := rn_s dq_Plan_walk_53 rfl rfl rfl
theorem sq_Plan_walk_53r : rn G mm_Plan_walk 53 [a0, a1, a2, a3, a4, some (.ref z2), a6] (.int x :: st) S P ↔ rn G mm_Plan_walk 55 [a0, a1, a2, a3, a4, some (.ref z2), some (.int x)] st S P := rn_s dq_Plan_walk_53 rfl rfl rfl
theorem dq_Plan_walk_55 : decode (km_c mm_Plan_walk) 55 = .ok (.iload 4, 2) := by decide +kernel
theorem sq_Plan_walk_55 : rn G mm_Plan_walk 55 [a0, a1, a2, a3, some (.int x), a5, a6] st S P ↔ rn G mm_Plan_walk 57 [a0, a1, a2, a3, some (.int x), a5, a6] (.int x :: st) S P := rn_s dq_Plan_walk_55 rfl rfl rfl
theorem dq_Plan_walk_57 : decode (km_c mm_Plan_walk) 57 = .ok (.aload_n 0, 1) := by decide +kernel
theorem sq_Plan_walk_57 : rn G mm_Plan_walk 57 [some (.ref z), a1, a2, a3, a4, a5, a6] st S P ↔ rn G mm_Plan_walk 58 [some (.ref z), a1, a2, a3, a4, a5, a6] (.ref z :: st) S P := rn_s dq_Plan_walk_57 rfl rfl rfl
theorem dq_Plan_walk_58 : decode (km_c mm_Plan_walk) 58 = .ok (.getfield 15, 3) := by decide +kernel
theorem sq_Plan_walk_58_65 (ho : sx_o o true kp) : rn (lt_G o L) mm_Plan_walk 58 lv (.ref 65 :: st) (sx true kp I A) P ↔ rn (lt_G o L) mm_Plan_walk 61 lv (.ref 67 :: st) (sx true kp I A) P := rx_get (h := "") (ci := 2) (k := 1) dq_Plan_walk_58 (by decide +kernel) ho (up_p (by decide)) rfl rfl (fl_p (by decide) (by decide) (by decide))
theorem dq_Plan_walk_61 : decode (km_c mm_Plan_walk) 61 = .ok (.iload_n 3, 1) := by decide +kernel
theorem sq_Plan_walk_61 : rn G mm_Plan_walk 61 [a0, a1, a2, some (.int x), a4, a5, a6] st S P ↔ rn G mm_Plan_walk 62 [a0, a1, a2, some (.int x), a4, a5, a6] (.int x :: st) S P := rn_s dq_Plan_walk_61 rfl rfl rfl
theorem dq_Plan_walk_62 : decode (km_c mm_Plan_walk) 62 = .ok (.iaload, 1) := by decide +kernel
theorem sq_Plan_walk_62 (ho : sx_o o pl kp) (hk : ak L a = 0) (hu : sx_up pl kp a = true ∨ 1000 ≤ a) (hc : c < ln L a) (hn : ln L a < 2 ^ 31) : rn (lt_G o L) mm_Plan_walk 62 lv (.int (nI c) :: .ref a :: st) (sx pl kp I A) P ↔ rn (lt_G o L) mm_Plan_walk 63 lv (.int (A a c) :: st) (sx pl kp I A) P := rx_ild dq_Plan_walk_62 ho hk hu hc hn
theorem dq_Plan_walk_63 : decode (km_c mm_Plan_walk) 63 = .ok (.iconst (-1), 1) := by decide +kernel
theorem sq_Plan_walk_63 : rn G mm_Plan_walk 63 lv st S P ↔ rn G mm_Plan_walk 64 lv (.int ((-1)) :: st) S P := rn_s dq_Plan_walk_63 rfl rfl rfl
theorem dq_Plan_walk_64 : decode (km_c mm_Plan_walk) 64 = .ok (.ixor, 1) := by decide +kernel
theorem sq_Plan_walk_64 : rn G mm_Plan_walk 64 lv (.int x2 :: .int x :: st) S P ↔ rn G mm_Plan_walk 65 lv (.int (x ^^^ x2) :: st) S P := rn_s dq_Plan_walk_64 rfl rfl rfl
theorem dq_Plan_walk_65 : decode (km_c mm_Plan_walk) 65 = .ok (.iand, 1) := by decide +kernel
theorem sq_Plan_walk_65 : rn G mm_Plan_walk 65 lv (.int x2 :: .int x :: st) S P ↔ rn G mm_Plan_walk 66 lv (.int (x &&& x2) :: st) S P := rn_s dq_Plan_walk_65 rfl rfl rfl
theorem dq_Plan_walk_66 : decode (km_c mm_Plan_walk) 66 = .ok (.istore 4, 2) := by decide +kernel
theorem sq_Plan_walk_66n : rn G mm_Plan_walk 66 [a0, a1, a2, none, a4, a5, a6] (.int x :: st) S P ↔ rn G mm_Plan_walk 68 [a0, a1, a2, none, some (.int x), a5, a6] st S P := rn_s dq_Plan_walk_66 rfl rfl rfl
theorem sq_Plan_walk_66i : rn G mm_Plan_walk 66 [a0, a1, a2, some (.int x2), a4, a5, a6] (.int x :: st) S P ↔ rn G mm_Plan_walk 68 [a0, a1, a2, some (.int x2), some (.int x), a5, a6] st S P := rn_s dq_Plan_walk_66 rfl rfl rfl
theorem sq_Plan_walk_66r : rn G mm_Plan_walk 66 [a0, a1, a2, some (.ref z2), a4, a5, a6] (.int x :: st) S P ↔ rn G mm_Plan_walk 68 [a0, a1, a2, some (.ref z2), some (.int x), a5, a6] st S P := rn_s dq_Plan_walk_66 rfl rfl rfl
theorem dq_Plan_walk_68 : decode (km_c mm_Plan_walk) 68 = .ok (.iload 6, 2) := by decide +kernel
theorem sq_Plan_walk_68 : rn G mm_Plan_walk 68 [a0, a1, a2, a3, a4, a5, some (.int x)] st S P ↔ rn G mm_Plan_walk 70 [a0, a1, a2, a3, a4, a5, some (.int x)] (.int x :: st) S P := rn_s dq_Plan_walk_68 rfl rfl rfl
theorem dq_Plan_walk_70 : decode (km_c mm_Plan_walk) 70 = .ok (.ifCond .ne 7, 3) := by decide +kernel
theorem sq_Plan_walk_70 : rn G mm_Plan_walk 70 lv (.int x :: st) S P ↔ ((¬ x = 0 → rn G mm_Plan_walk 77 lv st S P) ∧ (¬ (¬ x = 0) → rn G mm_Plan_walk 73 lv st S P)) := rn_b (off := 7) dq_Plan_walk_70 rfl rfl rfl rfl
theorem dq_Plan_walk_73 : decode (km_c mm_Plan_walk) 73 = .ok (.iconst (-1), 1) := by decide +kernel
theorem sq_Plan_walk_73 : rn G mm_Plan_walk 73 lv st S P ↔ rn G mm_Plan_walk 74 lv (.int ((-1)) :: st) S P := rn_s dq_Plan_walk_73 rfl rfl rfl
theorem dq_Plan_walk_74 : decode (km_c mm_Plan_walk) 74 = .ok (.goto 16, 3) := by decide +kernel
theorem sq_Plan_walk_74 : rn G mm_Plan_walk 74 lv st S P ↔ rn G mm_Plan_walk 90 lv st S P := rn_s dq_Plan_walk_74 rfl rfl rfl
theorem dq_Plan_walk_77 : decode (km_c mm_Plan_walk) 77 = .ok (.aload_n 0, 1) := by decide +kernel
theorem sq_Plan_walk_77 : rn G mm_Plan_walk 77 [some (.ref z), a1, a2, a3, a4, a5, a6] st S P ↔ rn G mm_Plan_walk 78 [some (.ref z), a1, a2, a3, a4, a5, a6] (.ref z :: st) S P := rn_s dq_Plan_walk_77 rfl rfl rfl
theorem dq_Plan_walk_78 : decode (km_c mm_Plan_walk) 78 = .ok (.getfield 20, 3) := by decide +kernel
theorem sq_Plan_walk_78_65 (ho : sx_o o true kp) : rn (lt_G o L) mm_Plan_walk 78 lv (.ref 65 :: st) (sx true kp I A) P ↔ rn (lt_G o L) mm_Plan_walk 81 lv (.ref 68 :: st) (sx true kp I A) P := rx_get (h := "") (ci := 2) (k := 2) dq_Plan_walk_78 (by decide +kernel) ho (up_p (by decide)) rfl rfl (fl_p (by decide) (by decide) (by decide))
theorem dq_Plan_walk_81 : decode (km_c mm_Plan_walk) 81 = .ok (.iload 4, 2) := by decide +kernel
theorem sq_Plan_walk_81 : rn G mm_Plan_walk 81 [a0, a1, a2, a3, some (.int x), a5, a6] st S P ↔ rn G mm_Plan_walk 83 [a0, a1, a2, a3, some (.int x), a5, a6] (.int x :: st) S P := rn_s dq_Plan_walk_81 rfl rfl rfl
theorem dq_Plan_walk_83 : decode (km_c mm_Plan_walk) 83 = .ok (.aaload, 1) := by decide +kernel
theorem sq_Plan_walk_83 (ho : sx_o o pl kp) (hk : ak L a = 3) (hu : sx_up pl kp a = true) (hc : c < ln L a) (hn : ln L a < 2 ^ 31) : rn (lt_G o L) mm_Plan_walk 83 lv (.int (nI c) :: .ref a :: st) (sx pl kp I A) P ↔ rn (lt_G o L) mm_Plan_walk 84 lv (.ref (ab L a + c) :: st) (sx pl kp I A) P := rx_ald dq_Plan_walk_83 ho hk hu hc hn
theorem dq_Plan_walk_84 : decode (km_c mm_Plan_walk) 84 = .ok (.iload_n 3, 1) := by decide +kernel
theorem sq_Plan_walk_84 : rn G mm_Plan_walk 84 [a0, a1, a2, some (.int x), a4, a5, a6] st S P ↔ rn G mm_Plan_walk 85 [a0, a1, a2, some (.int x), a4, a5, a6] (.int x :: st) S P := rn_s dq_Plan_walk_84 rfl rfl rfl
theorem dq_Plan_walk_85 : decode (km_c mm_Plan_walk) 85 = .ok (.iload 6, 2) := by decide +kernel
theorem sq_Plan_walk_85 : rn G mm_Plan_walk 85 [a0, a1, a2, a3, a4, a5, some (.int x)] st S P ↔ rn G mm_Plan_walk 87 [a0, a1, a2, a3, a4, a5, some (.int x)] (.int x :: st) S P := rn_s dq_Plan_walk_85 rfl rfl rfl
theorem dq_Plan_walk_87 : decode (km_c mm_Plan_walk) 87 = .ok (.invokestatic 70, 3) := by decide +kernel
theorem sq_Plan_walk_87 {z1 : Nat} {x2 : Int32} {x3 : Int32} {v : Option Value} {S2 : ks_S} (hc : ev G mm_Plan_firstWith [.ref z1, .int x2, .int x3] S v S2) (hst : kx_cat st ≤ 8) : rn G mm_Plan_walk 87 lv (.int x3 :: .int x2 :: .ref z1 :: st) S P ↔ rn G mm_Plan_walk 90 lv (v.toList ++ st) S2 P := rn_cs (k := 1) (host := "") (E' := mm_Plan_firstWith) dq_Plan_walk_87 (by decide) (by decide) rfl (ok_v rfl (by decide) (by decide) (Nat.le_add_left _ _) hst (Nat.le_of_ble_eq_true rfl) (Or.inl rfl)) rfl rfl hc
theorem dq_Plan_walk_90 : decode (km_c mm_Plan_walk) 90 = .ok (.istore_n 3, 1) := by decide +kernel
theorem sq_Plan_walk_90n : rn G mm_Plan_walk 90 [a0, a1, none, a3, a4, a5, a6] (.int x :: st) S P ↔ rn G mm_Plan_walk 91 [a0, a1, none, some (.int x), a4, a5, a6] st S P := rn_s dq_Plan_walk_90 rfl rfl rfl
theorem sq_Plan_walk_90i : rn G mm_Plan_walk 90 [a0, a1, some (.int x2), a3, a4, a5, a6] (.int x :: st) S P ↔ rn G mm_Plan_walk 91 [a0, a1, some (.int x2), some (.int x), a4, a5, a6] st S P := rn_s dq_Plan_walk_90 rfl rfl rfl
theorem sq_Plan_walk_90r : rn G mm_Plan_walk 90 [a0, a1, some (.ref z2), a3, a4, a5, a6] (.int x :: st) S P ↔ rn G mm_Plan_walk 91 [a0, a1, some (.ref z2), some (.int x), a4, a5, a6] st S P := rn_s dq_Plan_walk_90 rfl rfl rfl
theorem dq_Plan_walk_91 : decode (km_c mm_Plan_walk) 91 = .ok (.iinc 5 1, 3) := by decide +kernel
theorem sq_Plan_walk_91n : rn G mm_Plan_walk 91 [a0, a1, a2, a3, none, some (.int x), a6] st S P ↔ rn G mm_Plan_walk 94 [a0, a1, a2, a3, none, some (.int (x + nI 1)), a6] st S P := rn_s dq_Plan_walk_91 rfl rfl rfl
theorem sq_Plan_walk_91i : rn G mm_Plan_walk 91 [a0, a1, a2, a3, some (.int x2), some (.int x), a6] st S P ↔ rn G mm_Plan_walk 94 [a0, a1, a2, a3, some (.int x2), some (.int (x + nI 1)), a6] st S P := rn_s dq_Plan_walk_91 rfl rfl rfl
theorem sq_Plan_walk_91r : rn G mm_Plan_walk 91 [a0, a1, a2, a3, some (.ref z2), some (.int x), a6] st S P ↔ rn G mm_Plan_walk 94 [a0, a1, a2, a3, some (.ref z2), some (.int (x + nI 1)), a6] st S P := rn_s dq_Plan_walk_91 rfl rfl rfl
theorem dq_Plan_walk_94 : decode (km_c mm_Plan_walk) 94 = .ok (.goto (-73), 3) := by decide +kernel
theorem sq_Plan_walk_94 : rn G mm_Plan_walk 94 lv st S P ↔ rn G mm_Plan_walk 21 lv st S P := rn_s dq_Plan_walk_94 rfl rfl rfl
theorem dq_Plan_walk_97 : decode (km_c mm_Plan_walk) 97 = .ok (.return_, 1) := by decide +kernel
theorem sq_Plan_walk_97 : rn G mm_Plan_walk 97 lv [] S P ↔ P none S := rn_vr dq_Plan_walk_97 rfl
theorem dq_Plan_firstWith_0 : decode (km_c mm_Plan_firstWith) 0 = .ok (.iconst 0, 1) := by decide +kernel
theorem sq_Plan_firstWith_0 : rn G mm_Plan_firstWith 0 lv st S P ↔ rn G mm_Plan_firstWith 1 lv (.int (nI 0) :: st) S P := rn_s dq_Plan_firstWith_0 rfl rfl rfl
theorem dq_Plan_firstWith_1 : decode (km_c mm_Plan_firstWith) 1 = .ok (.istore_n 3, 1) := by decide +kernel
theorem sq_Plan_firstWith_1n : rn G mm_Plan_firstWith 1 [a0, a1, none, a3, a4] (.int x :: st) S P ↔ rn G mm_Plan_firstWith 2 [a0, a1, none, some (.int x), a4] st S P := rn_s dq_Plan_firstWith_1 rfl rfl rfl
theorem sq_Plan_firstWith_1i : rn G mm_Plan_firstWith 1 [a0, a1, some (.int x2), a3, a4] (.int x :: st) S P ↔ rn G mm_Plan_firstWith 2 [a0, a1, some (.int x2), some (.int x), a4] st S P := rn_s dq_Plan_firstWith_1 rfl rfl rfl
theorem sq_Plan_firstWith_1r : rn G mm_Plan_firstWith 1 [a0, a1, some (.ref z2), a3, a4] (.int x :: st) S P ↔ rn G mm_Plan_firstWith 2 [a0, a1, some (.ref z2), some (.int x), a4] st S P := rn_s dq_Plan_firstWith_1 rfl rfl rfl
theorem dq_Plan_firstWith_2 : decode (km_c mm_Plan_firstWith) 2 = .ok (.iload_n 3, 1) := by decide +kernel
theorem sq_Plan_firstWith_2 : rn G mm_Plan_firstWith 2 [a0, a1, a2, some (.int x), a4] st S P ↔ rn G mm_Plan_firstWith 3 [a0, a1, a2, some (.int x), a4] (.int x :: st) S P := rn_s dq_Plan_firstWith_2 rfl rfl rfl
theorem dq_Plan_firstWith_3 : decode (km_c mm_Plan_firstWith) 3 = .ok (.iconst 4, 1) := by decide +kernel
theorem sq_Plan_firstWith_3 : rn G mm_Plan_firstWith 3 lv st S P ↔ rn G mm_Plan_firstWith 4 lv (.int (nI 4) :: st) S P := rn_s dq_Plan_firstWith_3 rfl rfl rfl
theorem dq_Plan_firstWith_4 : decode (km_c mm_Plan_firstWith) 4 = .ok (.if_icmp .ge 32, 3) := by decide +kernel
theorem sq_Plan_firstWith_4 : rn G mm_Plan_firstWith 4 lv (.int x2 :: .int x :: st) S P ↔ ((x2 ≤ x → rn G mm_Plan_firstWith 36 lv st S P) ∧ (¬ (x2 ≤ x) → rn G mm_Plan_firstWith 7 lv st S P)) := rn_b (off := 32) dq_Plan_firstWith_4 rfl rfl rfl rfl
theorem dq_Plan_firstWith_7 : decode (km_c mm_Plan_firstWith) 7 = .ok (.iload_n 1, 1) := by decide +kernel
theorem sq_Plan_firstWith_7 : rn G mm_Plan_firstWith 7 [a0, some (.int x), a2, a3, a4] st S P ↔ rn G mm_Plan_firstWith 8 [a0, some (.int x), a2, a3, a4] (.int x :: st) S P := rn_s dq_Plan_firstWith_7 rfl rfl rfl
theorem dq_Plan_firstWith_8 : decode (km_c mm_Plan_firstWith) 8 = .ok (.iload_n 3, 1) := by decide +kernel
theorem sq_Plan_firstWith_8 : rn G mm_Plan_firstWith 8 [a0, a1, a2, some (.int x), a4] st S P ↔ rn G mm_Plan_firstWith 9 [a0, a1, a2, some (.int x), a4] (.int x :: st) S P := rn_s dq_Plan_firstWith_8 rfl rfl rfl
theorem dq_Plan_firstWith_9 : decode (km_c mm_Plan_firstWith) 9 = .ok (.invokestatic 74, 3) := by decide +kernel
theorem sq_Plan_firstWith_9 {x1 : Int32} {x2 : Int32} {v : Option Value} {S2 : ks_S} (hc : ev G mm_Road_cellAt [.int x1, .int x2] S v S2) (hst : kx_cat st ≤ 8) : rn G mm_Plan_firstWith 9 lv (.int x2 :: .int x1 :: st) S P ↔ rn G mm_Plan_firstWith 12 lv (v.toList ++ st) S2 P := rn_cs (k := 1) (host := "DeltaRoad") (E' := mm_Road_cellAt) dq_Plan_firstWith_9 (by decide) (by decide) rfl (ok_v rfl (by decide) (by decide) (Nat.le_add_left _ _) hst (Nat.le_of_ble_eq_true rfl) (Or.inl rfl)) rfl rfl hc
theorem dq_Plan_firstWith_12 : decode (km_c mm_Plan_firstWith) 12 = .ok (.istore 4, 2) := by decide +kernel
theorem sq_Plan_firstWith_12n : rn G mm_Plan_firstWith 12 [a0, a1, a2, none, a4] (.int x :: st) S P ↔ rn G mm_Plan_firstWith 14 [a0, a1, a2, none, some (.int x)] st S P := rn_s dq_Plan_firstWith_12 rfl rfl rfl
theorem sq_Plan_firstWith_12i : rn G mm_Plan_firstWith 12 [a0, a1, a2, some (.int x2), a4] (.int x :: st) S P ↔ rn G mm_Plan_firstWith 14 [a0, a1, a2, some (.int x2), some (.int x)] st S P := rn_s dq_Plan_firstWith_12 rfl rfl rfl
theorem sq_Plan_firstWith_12r : rn G mm_Plan_firstWith 12 [a0, a1, a2, some (.ref z2), a4] (.int x :: st) S P ↔ rn G mm_Plan_firstWith 14 [a0, a1, a2, some (.ref z2), some (.int x)] st S P := rn_s dq_Plan_firstWith_12 rfl rfl rfl
theorem dq_Plan_firstWith_14 : decode (km_c mm_Plan_firstWith) 14 = .ok (.iload 4, 2) := by decide +kernel
theorem sq_Plan_firstWith_14 : rn G mm_Plan_firstWith 14 [a0, a1, a2, a3, some (.int x)] st S P ↔ rn G mm_Plan_firstWith 16 [a0, a1, a2, a3, some (.int x)] (.int x :: st) S P := rn_s dq_Plan_firstWith_14 rfl rfl rfl
theorem dq_Plan_firstWith_16 : decode (km_c mm_Plan_firstWith) 16 = .ok (.ifCond .lt 14, 3) := by decide +kernel
theorem sq_Plan_firstWith_16 : rn G mm_Plan_firstWith 16 lv (.int x :: st) S P ↔ ((x < 0 → rn G mm_Plan_firstWith 30 lv st S P) ∧ (¬ (x < 0) → rn G mm_Plan_firstWith 19 lv st S P)) := rn_b (off := 14) dq_Plan_firstWith_16 rfl rfl rfl rfl
theorem dq_Plan_firstWith_19 : decode (km_c mm_Plan_firstWith) 19 = .ok (.aload_n 0, 1) := by decide +kernel
theorem sq_Plan_firstWith_19 : rn G mm_Plan_firstWith 19 [some (.ref z), a1, a2, a3, a4] st S P ↔ rn G mm_Plan_firstWith 20 [some (.ref z), a1, a2, a3, a4] (.ref z :: st) S P := rn_s dq_Plan_firstWith_19 rfl rfl rfl
theorem dq_Plan_firstWith_20 : decode (km_c mm_Plan_firstWith) 20 = .ok (.iload 4, 2) := by decide +kernel
theorem sq_Plan_firstWith_20 : rn G mm_Plan_firstWith 20 [a0, a1, a2, a3, some (.int x)] st S P ↔ rn G mm_Plan_firstWith 22 [a0, a1, a2, a3, some (.int x)] (.int x :: st) S P := rn_s dq_Plan_firstWith_20 rfl rfl rfl
theorem dq_Plan_firstWith_22 : decode (km_c mm_Plan_firstWith) 22 = .ok (.iaload, 1) := by decide +kernel
theorem sq_Plan_firstWith_22 (ho : sx_o o pl kp) (hk : ak L a = 0) (hu : sx_up pl kp a = true ∨ 1000 ≤ a) (hc : c < ln L a) (hn : ln L a < 2 ^ 31) : rn (lt_G o L) mm_Plan_firstWith 22 lv (.int (nI c) :: .ref a :: st) (sx pl kp I A) P ↔ rn (lt_G o L) mm_Plan_firstWith 23 lv (.int (A a c) :: st) (sx pl kp I A) P := rx_ild dq_Plan_firstWith_22 ho hk hu hc hn
theorem dq_Plan_firstWith_23 : decode (km_c mm_Plan_firstWith) 23 = .ok (.iload_n 2, 1) := by decide +kernel
theorem sq_Plan_firstWith_23 : rn G mm_Plan_firstWith 23 [a0, a1, some (.int x), a3, a4] st S P ↔ rn G mm_Plan_firstWith 24 [a0, a1, some (.int x), a3, a4] (.int x :: st) S P := rn_s dq_Plan_firstWith_23 rfl rfl rfl
theorem dq_Plan_firstWith_24 : decode (km_c mm_Plan_firstWith) 24 = .ok (.if_icmp .ne 6, 3) := by decide +kernel
theorem sq_Plan_firstWith_24 : rn G mm_Plan_firstWith 24 lv (.int x2 :: .int x :: st) S P ↔ ((¬ x = x2 → rn G mm_Plan_firstWith 30 lv st S P) ∧ (¬ (¬ x = x2) → rn G mm_Plan_firstWith 27 lv st S P)) := rn_b (off := 6) dq_Plan_firstWith_24 rfl rfl rfl rfl
theorem dq_Plan_firstWith_27 : decode (km_c mm_Plan_firstWith) 27 = .ok (.iload 4, 2) := by decide +kernel
theorem sq_Plan_firstWith_27 : rn G mm_Plan_firstWith 27 [a0, a1, a2, a3, some (.int x)] st S P ↔ rn G mm_Plan_firstWith 29 [a0, a1, a2, a3, some (.int x)] (.int x :: st) S P := rn_s dq_Plan_firstWith_27 rfl rfl rfl
theorem dq_Plan_firstWith_29 : decode (km_c mm_Plan_firstWith) 29 = .ok (.ireturn, 1) := by decide +kernel
theorem sq_Plan_firstWith_29 : rn G mm_Plan_firstWith 29 lv [.int x] S P ↔ P (some (.int x)) S := rn_ir dq_Plan_firstWith_29 rfl
theorem dq_Plan_firstWith_30 : decode (km_c mm_Plan_firstWith) 30 = .ok (.iinc 3 1, 3) := by decide +kernel
theorem sq_Plan_firstWith_30n : rn G mm_Plan_firstWith 30 [a0, a1, none, some (.int x), a4] st S P ↔ rn G mm_Plan_firstWith 33 [a0, a1, none, some (.int (x + nI 1)), a4] st S P := rn_s dq_Plan_firstWith_30 rfl rfl rfl
theorem sq_Plan_firstWith_30i : rn G mm_Plan_firstWith 30 [a0, a1, some (.int x2), some (.int x), a4] st S P ↔ rn G mm_Plan_firstWith 33 [a0, a1, some (.int x2), some (.int (x + nI 1)), a4] st S P := rn_s dq_Plan_firstWith_30 rfl rfl rfl
theorem sq_Plan_firstWith_30r : rn G mm_Plan_firstWith 30 [a0, a1, some (.ref z2), some (.int x), a4] st S P ↔ rn G mm_Plan_firstWith 33 [a0, a1, some (.ref z2), some (.int (x + nI 1)), a4] st S P := rn_s dq_Plan_firstWith_30 rfl rfl rfl
theorem dq_Plan_firstWith_33 : decode (km_c mm_Plan_firstWith) 33 = .ok (.goto (-31), 3) := by decide +kernel
theorem sq_Plan_firstWith_33 : rn G mm_Plan_firstWith 33 lv st S P ↔ rn G mm_Plan_firstWith 2 lv st S P := rn_s dq_Plan_firstWith_33 rfl rfl rfl
theorem dq_Plan_firstWith_36 : decode (km_c mm_Plan_firstWith) 36 = .ok (.iconst (-1), 1) := by decide +kernel
theorem sq_Plan_firstWith_36 : rn G mm_Plan_firstWith 36 lv st S P ↔ rn G mm_Plan_firstWith 37 lv (.int ((-1)) :: st) S P := rn_s dq_Plan_firstWith_36 rfl rfl rfl
theorem dq_Plan_firstWith_37 : decode (km_c mm_Plan_firstWith) 37 = .ok (.ireturn, 1) := by decide +kernel
theorem sq_Plan_firstWith_37 : rn G mm_Plan_firstWith 37 lv [.int x] S P ↔ P (some (.int x)) S := rn_ir dq_Plan_firstWith_37 rfl
theorem dq_Sheets_init_0 : decode (km_c mm_Sheets_init) 0 = .ok (.aload_n 0, 1) := by decide +kernel
theorem sq_Sheets_init_0 : rn G mm_Sheets_init 0 [some (.ref z)] st S P ↔ rn G mm_Sheets_init 1 [some (.ref z)] (.ref z :: st) S P := rn_s dq_Sheets_init_0 rfl rfl rfl
theorem dq_Sheets_init_1 : decode (km_c mm_Sheets_init) 1 = .ok (.invokespecial 3, 3) := by decide +kernel
theorem dq_Sheets_init_4 : decode (km_c mm_Sheets_init) 4 = .ok (.aload_n 0, 1) := by decide +kernel
theorem sq_Sheets_init_4 : rn G mm_Sheets_init 4 [some (.ref z)] st S P ↔ rn G mm_Sheets_init 5 [some (.ref z)] (.ref z :: st) S P := rn_s dq_Sheets_init_4 rfl rfl rfl
theorem dq_Sheets_init_5 : decode (km_c mm_Sheets_init) 5 = .ok (.iconst 4, 1) := by decide +kernel
theorem sq_Sheets_init_5 : rn G mm_Sheets_init 5 lv st S P ↔ rn G mm_Sheets_init 6 lv (.int (nI 4) :: st) S P := rn_s dq_Sheets_init_5 rfl rfl rfl
theorem dq_Sheets_init_6 : decode (km_c mm_Sheets_init) 6 = .ok (.newarray .boolean, 2) := by decide +kernel
theorem dq_Sheets_init_8 : decode (km_c mm_Sheets_init) 8 = .ok (.putfield 9, 3) := by decide +kernel
theorem dq_Sheets_init_11 : decode (km_c mm_Sheets_init) 11 = .ok (.aload_n 0, 1) := by decide +kernel
theorem sq_Sheets_init_11 : rn G mm_Sheets_init 11 [some (.ref z)] st S P ↔ rn G mm_Sheets_init 12 [some (.ref z)] (.ref z :: st) S P := rn_s dq_Sheets_init_11 rfl rfl rfl
theorem dq_Sheets_init_12 : decode (km_c mm_Sheets_init) 12 = .ok (.iconst 4, 1) := by decide +kernel
theorem sq_Sheets_init_12 : rn G mm_Sheets_init 12 lv st S P ↔ rn G mm_Sheets_init 13 lv (.int (nI 4) :: st) S P := rn_s dq_Sheets_init_12 rfl rfl rfl
theorem dq_Sheets_init_13 : decode (km_c mm_Sheets_init) 13 = .ok (.newarray .int, 2) := by decide +kernel
theorem dq_Sheets_init_15 : decode (km_c mm_Sheets_init) 15 = .ok (.putfield 15, 3) := by decide +kernel
theorem dq_Sheets_init_18 : decode (km_c mm_Sheets_init) 18 = .ok (.aload_n 0, 1) := by decide +kernel
theorem sq_Sheets_init_18 : rn G mm_Sheets_init 18 [some (.ref z)] st S P ↔ rn G mm_Sheets_init 19 [some (.ref z)] (.ref z :: st) S P := rn_s dq_Sheets_init_18 rfl rfl rfl
theorem dq_Sheets_init_19 : decode (km_c mm_Sheets_init) 19 = .ok (.iconst 4, 1) := by decide +kernel
theorem sq_Sheets_init_19 : rn G mm_Sheets_init 19 lv st S P ↔ rn G mm_Sheets_init 20 lv (.int (nI 4) :: st) S P := rn_s dq_Sheets_init_19 rfl rfl rfl
theorem dq_Sheets_init_20 : decode (km_c mm_Sheets_init) 20 = .ok (.newarray .int, 2) := by decide +kernel
theorem dq_Sheets_init_22 : decode (km_c mm_Sheets_init) 22 = .ok (.putfield 19, 3) := by decide +kernel
theorem dq_Sheets_init_25 : decode (km_c mm_Sheets_init) 25 = .ok (.aload_n 0, 1) := by decide +kernel
theorem sq_Sheets_init_25 : rn G mm_Sheets_init 25 [some (.ref z)] st S P ↔ rn G mm_Sheets_init 26 [some (.ref z)] (.ref z :: st) S P := rn_s dq_Sheets_init_25 rfl rfl rfl
theorem dq_Sheets_init_26 : decode (km_c mm_Sheets_init) 26 = .ok (.iconst 4, 1) := by decide +kernel
theorem sq_Sheets_init_26 : rn G mm_Sheets_init 26 lv st S P ↔ rn G mm_Sheets_init 27 lv (.int (nI 4) :: st) S P := rn_s dq_Sheets_init_26 rfl rfl rfl
theorem dq_Sheets_init_27 : decode (km_c mm_Sheets_init) 27 = .ok (.bipush 24, 2) := by decide +kernel
theorem sq_Sheets_init_27 : rn G mm_Sheets_init 27 lv st S P ↔ rn G mm_Sheets_init 29 lv (.int (nI 24) :: st) S P := rn_s dq_Sheets_init_27 rfl rfl rfl
theorem dq_Sheets_init_29 : decode (km_c mm_Sheets_init) 29 = .ok (.multianewarray 22 2, 4) := by decide +kernel
theorem dq_Sheets_init_33 : decode (km_c mm_Sheets_init) 33 = .ok (.putfield 24, 3) := by decide +kernel
theorem dq_Sheets_init_36 : decode (km_c mm_Sheets_init) 36 = .ok (.return_, 1) := by decide +kernel
theorem sq_Sheets_init_36 : rn G mm_Sheets_init 36 lv [] S P ↔ P none S := rn_vr dq_Sheets_init_36 rfl
theorem dq_Sheets_refusal_0 : decode (km_c mm_Sheets_refusal) 0 = .ok (.aload_n 0, 1) := by decide +kernel
theorem sq_Sheets_refusal_0 : rn G mm_Sheets_refusal 0 [some (.ref z), a1, a2, a3, a4] st S P ↔ rn G mm_Sheets_refusal 1 [some (.ref z), a1, a2, a3, a4] (.ref z :: st) S P := rn_s dq_Sheets_refusal_0 rfl rfl rfl
theorem dq_Sheets_refusal_1 : decode (km_c mm_Sheets_refusal) 1 = .ok (.getfield 9, 3) := by decide +kernel
theorem sq_Sheets_refusal_1_26 (ho : sx_o o pl kp) : rn (lt_G o L) mm_Sheets_refusal 1 lv (.ref 26 :: st) (sx pl kp I A) P ↔ rn (lt_G o L) mm_Sheets_refusal 4 lv (.ref 27 :: st) (sx pl kp I A) P := rx_get (h := "") (ci := 3) (k := 0) dq_Sheets_refusal_1 (by decide +kernel) ho (up_b (by decide)) rfl rfl (fl_r (by decide) (by decide) (by decide) (by decide))
theorem dq_Sheets_refusal_4 : decode (km_c mm_Sheets_refusal) 4 = .ok (.iload_n 1, 1) := by decide +kernel
theorem sq_Sheets_refusal_4 : rn G mm_Sheets_refusal 4 [a0, some (.int x), a2, a3, a4] st S P ↔ rn G mm_Sheets_refusal 5 [a0, some (.int x), a2, a3, a4] (.int x :: st) S P := rn_s dq_Sheets_refusal_4 rfl rfl rfl
theorem dq_Sheets_refusal_5 : decode (km_c mm_Sheets_refusal) 5 = .ok (.baload, 1) := by decide +kernel
theorem sq_Sheets_refusal_5 (ho : sx_o o pl kp) (hk : ak L a = 1 ∨ ak L a = 2) (hu : sx_up pl kp a = true) (hc : c < ln L a) (hn : ln L a < 2 ^ 31) : rn (lt_G o L) mm_Sheets_refusal 5 lv (.int (nI c) :: .ref a :: st) (sx pl kp I A) P ↔ rn (lt_G o L) mm_Sheets_refusal 6 lv (.int (A a c) :: st) (sx pl kp I A) P := rx_bld dq_Sheets_refusal_5 ho hk hu hc hn
theorem dq_Sheets_refusal_6 : decode (km_c mm_Sheets_refusal) 6 = .ok (.ifCond .ne 6, 3) := by decide +kernel
theorem sq_Sheets_refusal_6 : rn G mm_Sheets_refusal 6 lv (.int x :: st) S P ↔ ((¬ x = 0 → rn G mm_Sheets_refusal 12 lv st S P) ∧ (¬ (¬ x = 0) → rn G mm_Sheets_refusal 9 lv st S P)) := rn_b (off := 6) dq_Sheets_refusal_6 rfl rfl rfl rfl
theorem dq_Sheets_refusal_9 : decode (km_c mm_Sheets_refusal) 9 = .ok (.bipush (-11), 2) := by decide +kernel
theorem sq_Sheets_refusal_9 : rn G mm_Sheets_refusal 9 lv st S P ↔ rn G mm_Sheets_refusal 11 lv (.int ((-11)) :: st) S P := rn_s dq_Sheets_refusal_9 rfl rfl rfl
theorem dq_Sheets_refusal_11 : decode (km_c mm_Sheets_refusal) 11 = .ok (.ireturn, 1) := by decide +kernel
theorem sq_Sheets_refusal_11 : rn G mm_Sheets_refusal 11 lv [.int x] S P ↔ P (some (.int x)) S := rn_ir dq_Sheets_refusal_11 rfl
theorem dq_Sheets_refusal_12 : decode (km_c mm_Sheets_refusal) 12 = .ok (.aload_n 0, 1) := by decide +kernel
theorem sq_Sheets_refusal_12 : rn G mm_Sheets_refusal 12 [some (.ref z), a1, a2, a3, a4] st S P ↔ rn G mm_Sheets_refusal 13 [some (.ref z), a1, a2, a3, a4] (.ref z :: st) S P := rn_s dq_Sheets_refusal_12 rfl rfl rfl
theorem dq_Sheets_refusal_13 : decode (km_c mm_Sheets_refusal) 13 = .ok (.getfield 15, 3) := by decide +kernel
theorem sq_Sheets_refusal_13_26 (ho : sx_o o pl kp) : rn (lt_G o L) mm_Sheets_refusal 13 lv (.ref 26 :: st) (sx pl kp I A) P ↔ rn (lt_G o L) mm_Sheets_refusal 16 lv (.ref 28 :: st) (sx pl kp I A) P := rx_get (h := "") (ci := 3) (k := 1) dq_Sheets_refusal_13 (by decide +kernel) ho (up_b (by decide)) rfl rfl (fl_r (by decide) (by decide) (by decide) (by decide))
theorem dq_Sheets_refusal_16 : decode (km_c mm_Sheets_refusal) 16 = .ok (.iload_n 1, 1) := by decide +kernel
theorem sq_Sheets_refusal_16 : rn G mm_Sheets_refusal 16 [a0, some (.int x), a2, a3, a4] st S P ↔ rn G mm_Sheets_refusal 17 [a0, some (.int x), a2, a3, a4] (.int x :: st) S P := rn_s dq_Sheets_refusal_16 rfl rfl rfl
theorem dq_Sheets_refusal_17 : decode (km_c mm_Sheets_refusal) 17 = .ok (.iaload, 1) := by decide +kernel
theorem sq_Sheets_refusal_17 (ho : sx_o o pl kp) (hk : ak L a = 0) (hu : sx_up pl kp a = true ∨ 1000 ≤ a) (hc : c < ln L a) (hn : ln L a < 2 ^ 31) : rn (lt_G o L) mm_Sheets_refusal 17 lv (.int (nI c) :: .ref a :: st) (sx pl kp I A) P ↔ rn (lt_G o L) mm_Sheets_refusal 18 lv (.int (A a c) :: st) (sx pl kp I A) P := rx_ild dq_Sheets_refusal_17 ho hk hu hc hn
theorem dq_Sheets_refusal_18 : decode (km_c mm_Sheets_refusal) 18 = .ok (.iload_n 2, 1) := by decide +kernel
theorem sq_Sheets_refusal_18 : rn G mm_Sheets_refusal 18 [a0, a1, some (.int x), a3, a4] st S P ↔ rn G mm_Sheets_refusal 19 [a0, a1, some (.int x), a3, a4] (.int x :: st) S P := rn_s dq_Sheets_refusal_18 rfl rfl rfl
theorem dq_Sheets_refusal_19 : decode (km_c mm_Sheets_refusal) 19 = .ok (.if_icmp .eq 6, 3) := by decide +kernel
theorem sq_Sheets_refusal_19 : rn G mm_Sheets_refusal 19 lv (.int x2 :: .int x :: st) S P ↔ ((x = x2 → rn G mm_Sheets_refusal 25 lv st S P) ∧ (¬ (x = x2) → rn G mm_Sheets_refusal 22 lv st S P)) := rn_b (off := 6) dq_Sheets_refusal_19 rfl rfl rfl rfl
theorem dq_Sheets_refusal_22 : decode (km_c mm_Sheets_refusal) 22 = .ok (.bipush (-12), 2) := by decide +kernel
theorem sq_Sheets_refusal_22 : rn G mm_Sheets_refusal 22 lv st S P ↔ rn G mm_Sheets_refusal 24 lv (.int ((-12)) :: st) S P := rn_s dq_Sheets_refusal_22 rfl rfl rfl
theorem dq_Sheets_refusal_24 : decode (km_c mm_Sheets_refusal) 24 = .ok (.ireturn, 1) := by decide +kernel
theorem sq_Sheets_refusal_24 : rn G mm_Sheets_refusal 24 lv [.int x] S P ↔ P (some (.int x)) S := rn_ir dq_Sheets_refusal_24 rfl
theorem dq_Sheets_refusal_25 : decode (km_c mm_Sheets_refusal) 25 = .ok (.iload_n 3, 1) := by decide +kernel
theorem sq_Sheets_refusal_25 : rn G mm_Sheets_refusal 25 [a0, a1, a2, some (.int x), a4] st S P ↔ rn G mm_Sheets_refusal 26 [a0, a1, a2, some (.int x), a4] (.int x :: st) S P := rn_s dq_Sheets_refusal_25 rfl rfl rfl
theorem dq_Sheets_refusal_26 : decode (km_c mm_Sheets_refusal) 26 = .ok (.iconst 0, 1) := by decide +kernel
theorem sq_Sheets_refusal_26 : rn G mm_Sheets_refusal 26 lv st S P ↔ rn G mm_Sheets_refusal 27 lv (.int (nI 0) :: st) S P := rn_s dq_Sheets_refusal_26 rfl rfl rfl
theorem dq_Sheets_refusal_27 : decode (km_c mm_Sheets_refusal) 27 = .ok (.aload_n 0, 1) := by decide +kernel
theorem sq_Sheets_refusal_27 : rn G mm_Sheets_refusal 27 [some (.ref z), a1, a2, a3, a4] st S P ↔ rn G mm_Sheets_refusal 28 [some (.ref z), a1, a2, a3, a4] (.ref z :: st) S P := rn_s dq_Sheets_refusal_27 rfl rfl rfl
theorem dq_Sheets_refusal_28 : decode (km_c mm_Sheets_refusal) 28 = .ok (.getfield 19, 3) := by decide +kernel
theorem sq_Sheets_refusal_28_26 (ho : sx_o o pl kp) : rn (lt_G o L) mm_Sheets_refusal 28 lv (.ref 26 :: st) (sx pl kp I A) P ↔ rn (lt_G o L) mm_Sheets_refusal 31 lv (.ref 29 :: st) (sx pl kp I A) P := rx_get (h := "") (ci := 3) (k := 2) dq_Sheets_refusal_28 (by decide +kernel) ho (up_b (by decide)) rfl rfl (fl_r (by decide) (by decide) (by decide) (by decide))
theorem dq_Sheets_refusal_31 : decode (km_c mm_Sheets_refusal) 31 = .ok (.iload_n 1, 1) := by decide +kernel
theorem sq_Sheets_refusal_31 : rn G mm_Sheets_refusal 31 [a0, some (.int x), a2, a3, a4] st S P ↔ rn G mm_Sheets_refusal 32 [a0, some (.int x), a2, a3, a4] (.int x :: st) S P := rn_s dq_Sheets_refusal_31 rfl rfl rfl
theorem dq_Sheets_refusal_32 : decode (km_c mm_Sheets_refusal) 32 = .ok (.iaload, 1) := by decide +kernel
theorem sq_Sheets_refusal_32 (ho : sx_o o pl kp) (hk : ak L a = 0) (hu : sx_up pl kp a = true ∨ 1000 ≤ a) (hc : c < ln L a) (hn : ln L a < 2 ^ 31) : rn (lt_G o L) mm_Sheets_refusal 32 lv (.int (nI c) :: .ref a :: st) (sx pl kp I A) P ↔ rn (lt_G o L) mm_Sheets_refusal 33 lv (.int (A a c) :: st) (sx pl kp I A) P := rx_ild dq_Sheets_refusal_32 ho hk hu hc hn
theorem dq_Sheets_refusal_33 : decode (km_c mm_Sheets_refusal) 33 = .ok (.iload 4, 2) := by decide +kernel
theorem sq_Sheets_refusal_33 : rn G mm_Sheets_refusal 33 [a0, a1, a2, a3, some (.int x)] st S P ↔ rn G mm_Sheets_refusal 35 [a0, a1, a2, a3, some (.int x)] (.int x :: st) S P := rn_s dq_Sheets_refusal_33 rfl rfl rfl
theorem dq_Sheets_refusal_35 : decode (km_c mm_Sheets_refusal) 35 = .ok (.isub, 1) := by decide +kernel
theorem sq_Sheets_refusal_35 : rn G mm_Sheets_refusal 35 lv (.int x2 :: .int x :: st) S P ↔ rn G mm_Sheets_refusal 36 lv (.int (x - x2) :: st) S P := rn_s dq_Sheets_refusal_35 rfl rfl rfl
theorem dq_Sheets_refusal_36 : decode (km_c mm_Sheets_refusal) 36 = .ok (.invokestatic 33, 3) := by decide +kernel
theorem sq_Sheets_refusal_36 {x1 : Int32} {x2 : Int32} {x3 : Int32} {v : Option Value} {S2 : ks_S} (hc : ev G mm_Road_outside [.int x1, .int x2, .int x3] S v S2) (hst : kx_cat st ≤ 8) : rn G mm_Sheets_refusal 36 lv (.int x3 :: .int x2 :: .int x1 :: st) S P ↔ rn G mm_Sheets_refusal 39 lv (v.toList ++ st) S2 P := rn_cs (k := 1) (host := "DeltaRoad") (E' := mm_Road_outside) dq_Sheets_refusal_36 (by decide) (by decide) rfl (ok_v rfl (by decide) (by decide) (Nat.le_add_left _ _) hst (Nat.le_of_ble_eq_true rfl) (Or.inl rfl)) rfl rfl hc
theorem dq_Sheets_refusal_39 : decode (km_c mm_Sheets_refusal) 39 = .ok (.ifCond .eq 8, 3) := by decide +kernel
theorem sq_Sheets_refusal_39 : rn G mm_Sheets_refusal 39 lv (.int x :: st) S P ↔ ((x = 0 → rn G mm_Sheets_refusal 47 lv st S P) ∧ (¬ (x = 0) → rn G mm_Sheets_refusal 42 lv st S P)) := rn_b (off := 8) dq_Sheets_refusal_39 rfl rfl rfl rfl
theorem dq_Sheets_refusal_42 : decode (km_c mm_Sheets_refusal) 42 = .ok (.bipush (-13), 2) := by decide +kernel
theorem sq_Sheets_refusal_42 : rn G mm_Sheets_refusal 42 lv st S P ↔ rn G mm_Sheets_refusal 44 lv (.int ((-13)) :: st) S P := rn_s dq_Sheets_refusal_42 rfl rfl rfl
theorem dq_Sheets_refusal_44 : decode (km_c mm_Sheets_refusal) 44 = .ok (.goto 4, 3) := by decide +kernel
theorem sq_Sheets_refusal_44 : rn G mm_Sheets_refusal 44 lv st S P ↔ rn G mm_Sheets_refusal 48 lv st S P := rn_s dq_Sheets_refusal_44 rfl rfl rfl
theorem dq_Sheets_refusal_47 : decode (km_c mm_Sheets_refusal) 47 = .ok (.iconst 0, 1) := by decide +kernel
theorem sq_Sheets_refusal_47 : rn G mm_Sheets_refusal 47 lv st S P ↔ rn G mm_Sheets_refusal 48 lv (.int (nI 0) :: st) S P := rn_s dq_Sheets_refusal_47 rfl rfl rfl
theorem dq_Sheets_refusal_48 : decode (km_c mm_Sheets_refusal) 48 = .ok (.ireturn, 1) := by decide +kernel
theorem sq_Sheets_refusal_48 : rn G mm_Sheets_refusal 48 lv [.int x] S P ↔ P (some (.int x)) S := rn_ir dq_Sheets_refusal_48 rfl
theorem dq_Sheets_sum_0 : decode (km_c mm_Sheets_sum) 0 = .ok (.lconst 0, 1) := by decide +kernel
theorem sq_Sheets_sum_0 : rn G mm_Sheets_sum 0 lv st S P ↔ rn G mm_Sheets_sum 1 lv (.long (0) :: st) S P := rn_s dq_Sheets_sum_0 rfl rfl rfl
theorem dq_Sheets_sum_1 : decode (km_c mm_Sheets_sum) 1 = .ok (.lstore 5, 2) := by decide +kernel
theorem sq_Sheets_sum_1n : rn G mm_Sheets_sum 1 [a0, a1, a2, a3, none, a5, a6, a7, a8] (.long y :: st) S P ↔ rn G mm_Sheets_sum 3 [a0, a1, a2, a3, none, some (.long y), none, a7, a8] st S P := rn_s dq_Sheets_sum_1 rfl rfl rfl
theorem sq_Sheets_sum_1i : rn G mm_Sheets_sum 1 [a0, a1, a2, a3, some (.int x2), a5, a6, a7, a8] (.long y :: st) S P ↔ rn G mm_Sheets_sum 3 [a0, a1, a2, a3, some (.int x2), some (.long y), none, a7, a8] st S P := rn_s dq_Sheets_sum_1 rfl rfl rfl
theorem sq_Sheets_sum_1r : rn G mm_Sheets_sum 1 [a0, a1, a2, a3, some (.ref z2), a5, a6, a7, a8] (.long y :: st) S P ↔ rn G mm_Sheets_sum 3 [a0, a1, a2, a3, some (.ref z2), some (.long y), none, a7, a8] st S P := rn_s dq_Sheets_sum_1 rfl rfl rfl
theorem sq_Sheets_sum_1l : rn G mm_Sheets_sum 1 [a0, a1, a2, a3, some (.long y2), a5, a6, a7, a8] (.long y :: st) S P ↔ rn G mm_Sheets_sum 3 [a0, a1, a2, a3, none, some (.long y), none, a7, a8] st S P := rn_s dq_Sheets_sum_1 rfl rfl rfl
theorem dq_Sheets_sum_3 : decode (km_c mm_Sheets_sum) 3 = .ok (.iload_n 2, 1) := by decide +kernel
theorem sq_Sheets_sum_3 : rn G mm_Sheets_sum 3 [a0, a1, some (.int x), a3, a4, a5, a6, a7, a8] st S P ↔ rn G mm_Sheets_sum 4 [a0, a1, some (.int x), a3, a4, a5, a6, a7, a8] (.int x :: st) S P := rn_s dq_Sheets_sum_3 rfl rfl rfl
theorem dq_Sheets_sum_4 : decode (km_c mm_Sheets_sum) 4 = .ok (.istore 7, 2) := by decide +kernel
theorem sq_Sheets_sum_4n : rn G mm_Sheets_sum 4 [a0, a1, a2, a3, a4, a5, none, a7, a8] (.int x :: st) S P ↔ rn G mm_Sheets_sum 6 [a0, a1, a2, a3, a4, a5, none, some (.int x), a8] st S P := rn_s dq_Sheets_sum_4 rfl rfl rfl
theorem sq_Sheets_sum_4i : rn G mm_Sheets_sum 4 [a0, a1, a2, a3, a4, a5, some (.int x2), a7, a8] (.int x :: st) S P ↔ rn G mm_Sheets_sum 6 [a0, a1, a2, a3, a4, a5, some (.int x2), some (.int x), a8] st S P := rn_s dq_Sheets_sum_4 rfl rfl rfl
theorem sq_Sheets_sum_4r : rn G mm_Sheets_sum 4 [a0, a1, a2, a3, a4, a5, some (.ref z2), a7, a8] (.int x :: st) S P ↔ rn G mm_Sheets_sum 6 [a0, a1, a2, a3, a4, a5, some (.ref z2), some (.int x), a8] st S P := rn_s dq_Sheets_sum_4 rfl rfl rfl
theorem sq_Sheets_sum_4l : rn G mm_Sheets_sum 4 [a0, a1, a2, a3, a4, a5, some (.long y2), a7, a8] (.int x :: st) S P ↔ rn G mm_Sheets_sum 6 [a0, a1, a2, a3, a4, a5, none, some (.int x), a8] st S P := rn_s dq_Sheets_sum_4 rfl rfl rfl
theorem dq_Sheets_sum_6 : decode (km_c mm_Sheets_sum) 6 = .ok (.iconst 0, 1) := by decide +kernel
theorem sq_Sheets_sum_6 : rn G mm_Sheets_sum 6 lv st S P ↔ rn G mm_Sheets_sum 7 lv (.int (nI 0) :: st) S P := rn_s dq_Sheets_sum_6 rfl rfl rfl
theorem dq_Sheets_sum_7 : decode (km_c mm_Sheets_sum) 7 = .ok (.istore 8, 2) := by decide +kernel
theorem sq_Sheets_sum_7n : rn G mm_Sheets_sum 7 [a0, a1, a2, a3, a4, a5, a6, none, a8] (.int x :: st) S P ↔ rn G mm_Sheets_sum 9 [a0, a1, a2, a3, a4, a5, a6, none, some (.int x)] st S P := rn_s dq_Sheets_sum_7 rfl rfl rfl
theorem sq_Sheets_sum_7i : rn G mm_Sheets_sum 7 [a0, a1, a2, a3, a4, a5, a6, some (.int x2), a8] (.int x :: st) S P ↔ rn G mm_Sheets_sum 9 [a0, a1, a2, a3, a4, a5, a6, some (.int x2), some (.int x)] st S P := rn_s dq_Sheets_sum_7 rfl rfl rfl
theorem sq_Sheets_sum_7r : rn G mm_Sheets_sum 7 [a0, a1, a2, a3, a4, a5, a6, some (.ref z2), a8] (.int x :: st) S P ↔ rn G mm_Sheets_sum 9 [a0, a1, a2, a3, a4, a5, a6, some (.ref z2), some (.int x)] st S P := rn_s dq_Sheets_sum_7 rfl rfl rfl
theorem sq_Sheets_sum_7l : rn G mm_Sheets_sum 7 [a0, a1, a2, a3, a4, a5, a6, some (.long y2), a8] (.int x :: st) S P ↔ rn G mm_Sheets_sum 9 [a0, a1, a2, a3, a4, a5, a6, none, some (.int x)] st S P := rn_s dq_Sheets_sum_7 rfl rfl rfl
theorem dq_Sheets_sum_9 : decode (km_c mm_Sheets_sum) 9 = .ok (.iload 8, 2) := by decide +kernel
theorem sq_Sheets_sum_9 : rn G mm_Sheets_sum 9 [a0, a1, a2, a3, a4, a5, a6, a7, some (.int x)] st S P ↔ rn G mm_Sheets_sum 11 [a0, a1, a2, a3, a4, a5, a6, a7, some (.int x)] (.int x :: st) S P := rn_s dq_Sheets_sum_9 rfl rfl rfl
theorem dq_Sheets_sum_11 : decode (km_c mm_Sheets_sum) 11 = .ok (.bipush 6, 2) := by decide +kernel
theorem sq_Sheets_sum_11 : rn G mm_Sheets_sum 11 lv st S P ↔ rn G mm_Sheets_sum 13 lv (.int (nI 6) :: st) S P := rn_s dq_Sheets_sum_11 rfl rfl rfl
theorem dq_Sheets_sum_13 : decode (km_c mm_Sheets_sum) 13 = .ok (.if_icmp .ge 46, 3) := by decide +kernel
theorem sq_Sheets_sum_13 : rn G mm_Sheets_sum 13 lv (.int x2 :: .int x :: st) S P ↔ ((x2 ≤ x → rn G mm_Sheets_sum 59 lv st S P) ∧ (¬ (x2 ≤ x) → rn G mm_Sheets_sum 16 lv st S P)) := rn_b (off := 46) dq_Sheets_sum_13 rfl rfl rfl rfl
theorem dq_Sheets_sum_16 : decode (km_c mm_Sheets_sum) 16 = .ok (.iload 4, 2) := by decide +kernel
theorem sq_Sheets_sum_16 : rn G mm_Sheets_sum 16 [a0, a1, a2, a3, some (.int x), a5, a6, a7, a8] st S P ↔ rn G mm_Sheets_sum 18 [a0, a1, a2, a3, some (.int x), a5, a6, a7, a8] (.int x :: st) S P := rn_s dq_Sheets_sum_16 rfl rfl rfl
theorem dq_Sheets_sum_18 : decode (km_c mm_Sheets_sum) 18 = .ok (.iload 8, 2) := by decide +kernel
theorem sq_Sheets_sum_18 : rn G mm_Sheets_sum 18 [a0, a1, a2, a3, a4, a5, a6, a7, some (.int x)] st S P ↔ rn G mm_Sheets_sum 20 [a0, a1, a2, a3, a4, a5, a6, a7, some (.int x)] (.int x :: st) S P := rn_s dq_Sheets_sum_18 rfl rfl rfl
theorem dq_Sheets_sum_20 : decode (km_c mm_Sheets_sum) 20 = .ok (.ishr, 1) := by decide +kernel
theorem sq_Sheets_sum_20 : rn G mm_Sheets_sum 20 lv (.int x2 :: .int x :: st) S P ↔ rn G mm_Sheets_sum 21 lv (.int (x >>> (x2 &&& 31)) :: st) S P := rn_s dq_Sheets_sum_20 rfl rfl rfl
theorem dq_Sheets_sum_21 : decode (km_c mm_Sheets_sum) 21 = .ok (.iconst 1, 1) := by decide +kernel
theorem sq_Sheets_sum_21 : rn G mm_Sheets_sum 21 lv st S P ↔ rn G mm_Sheets_sum 22 lv (.int (nI 1) :: st) S P := rn_s dq_Sheets_sum_21 rfl rfl rfl
theorem dq_Sheets_sum_22 : decode (km_c mm_Sheets_sum) 22 = .ok (.iand, 1) := by decide +kernel
theorem sq_Sheets_sum_22 : rn G mm_Sheets_sum 22 lv (.int x2 :: .int x :: st) S P ↔ rn G mm_Sheets_sum 23 lv (.int (x &&& x2) :: st) S P := rn_s dq_Sheets_sum_22 rfl rfl rfl
theorem dq_Sheets_sum_23 : decode (km_c mm_Sheets_sum) 23 = .ok (.iconst 1, 1) := by decide +kernel
theorem sq_Sheets_sum_23 : rn G mm_Sheets_sum 23 lv st S P ↔ rn G mm_Sheets_sum 24 lv (.int (nI 1) :: st) S P := rn_s dq_Sheets_sum_23 rfl rfl rfl
theorem dq_Sheets_sum_24 : decode (km_c mm_Sheets_sum) 24 = .ok (.if_icmp .ne 18, 3) := by decide +kernel
theorem sq_Sheets_sum_24 : rn G mm_Sheets_sum 24 lv (.int x2 :: .int x :: st) S P ↔ ((¬ x = x2 → rn G mm_Sheets_sum 42 lv st S P) ∧ (¬ (¬ x = x2) → rn G mm_Sheets_sum 27 lv st S P)) := rn_b (off := 18) dq_Sheets_sum_24 rfl rfl rfl rfl
theorem dq_Sheets_sum_27 : decode (km_c mm_Sheets_sum) 27 = .ok (.lload 5, 2) := by decide +kernel
theorem sq_Sheets_sum_27 : rn G mm_Sheets_sum 27 [a0, a1, a2, a3, a4, some (.long y), a6, a7, a8] st S P ↔ rn G mm_Sheets_sum 29 [a0, a1, a2, a3, a4, some (.long y), a6, a7, a8] (.long y :: st) S P := rn_s dq_Sheets_sum_27 rfl rfl rfl
theorem dq_Sheets_sum_29 : decode (km_c mm_Sheets_sum) 29 = .ok (.aload_n 0, 1) := by decide +kernel
theorem sq_Sheets_sum_29 : rn G mm_Sheets_sum 29 [some (.ref z), a1, a2, a3, a4, a5, a6, a7, a8] st S P ↔ rn G mm_Sheets_sum 30 [some (.ref z), a1, a2, a3, a4, a5, a6, a7, a8] (.ref z :: st) S P := rn_s dq_Sheets_sum_29 rfl rfl rfl
theorem dq_Sheets_sum_30 : decode (km_c mm_Sheets_sum) 30 = .ok (.getfield 24, 3) := by decide +kernel
theorem sq_Sheets_sum_30_26 (ho : sx_o o pl kp) : rn (lt_G o L) mm_Sheets_sum 30 lv (.ref 26 :: st) (sx pl kp I A) P ↔ rn (lt_G o L) mm_Sheets_sum 33 lv (.ref 30 :: st) (sx pl kp I A) P := rx_get (h := "") (ci := 3) (k := 3) dq_Sheets_sum_30 (by decide +kernel) ho (up_b (by decide)) rfl rfl (fl_r (by decide) (by decide) (by decide) (by decide))
theorem dq_Sheets_sum_33 : decode (km_c mm_Sheets_sum) 33 = .ok (.iload_n 1, 1) := by decide +kernel
theorem sq_Sheets_sum_33 : rn G mm_Sheets_sum 33 [a0, some (.int x), a2, a3, a4, a5, a6, a7, a8] st S P ↔ rn G mm_Sheets_sum 34 [a0, some (.int x), a2, a3, a4, a5, a6, a7, a8] (.int x :: st) S P := rn_s dq_Sheets_sum_33 rfl rfl rfl
theorem dq_Sheets_sum_34 : decode (km_c mm_Sheets_sum) 34 = .ok (.aaload, 1) := by decide +kernel
theorem sq_Sheets_sum_34 (ho : sx_o o pl kp) (hk : ak L a = 3) (hu : sx_up pl kp a = true) (hc : c < ln L a) (hn : ln L a < 2 ^ 31) : rn (lt_G o L) mm_Sheets_sum 34 lv (.int (nI c) :: .ref a :: st) (sx pl kp I A) P ↔ rn (lt_G o L) mm_Sheets_sum 35 lv (.ref (ab L a + c) :: st) (sx pl kp I A) P := rx_ald dq_Sheets_sum_34 ho hk hu hc hn
theorem dq_Sheets_sum_35 : decode (km_c mm_Sheets_sum) 35 = .ok (.iload 7, 2) := by decide +kernel
theorem sq_Sheets_sum_35 : rn G mm_Sheets_sum 35 [a0, a1, a2, a3, a4, a5, a6, some (.int x), a8] st S P ↔ rn G mm_Sheets_sum 37 [a0, a1, a2, a3, a4, a5, a6, some (.int x), a8] (.int x :: st) S P := rn_s dq_Sheets_sum_35 rfl rfl rfl
theorem dq_Sheets_sum_37 : decode (km_c mm_Sheets_sum) 37 = .ok (.iaload, 1) := by decide +kernel
theorem sq_Sheets_sum_37 (ho : sx_o o pl kp) (hk : ak L a = 0) (hu : sx_up pl kp a = true ∨ 1000 ≤ a) (hc : c < ln L a) (hn : ln L a < 2 ^ 31) : rn (lt_G o L) mm_Sheets_sum 37 lv (.int (nI c) :: .ref a :: st) (sx pl kp I A) P ↔ rn (lt_G o L) mm_Sheets_sum 38 lv (.int (A a c) :: st) (sx pl kp I A) P := rx_ild dq_Sheets_sum_37 ho hk hu hc hn
theorem dq_Sheets_sum_38 : decode (km_c mm_Sheets_sum) 38 = .ok (.i2l, 1) := by decide +kernel
theorem sq_Sheets_sum_38 : rn G mm_Sheets_sum 38 lv (.int x :: st) S P ↔ rn G mm_Sheets_sum 39 lv (.long x.toInt64 :: st) S P := rn_s dq_Sheets_sum_38 rfl rfl rfl
theorem dq_Sheets_sum_39 : decode (km_c mm_Sheets_sum) 39 = .ok (.ladd, 1) := by decide +kernel
theorem sq_Sheets_sum_39 : rn G mm_Sheets_sum 39 lv (.long y2 :: .long y :: st) S P ↔ rn G mm_Sheets_sum 40 lv (.long (y + y2) :: st) S P := rn_s dq_Sheets_sum_39 rfl rfl rfl
theorem dq_Sheets_sum_40 : decode (km_c mm_Sheets_sum) 40 = .ok (.lstore 5, 2) := by decide +kernel
theorem sq_Sheets_sum_40n : rn G mm_Sheets_sum 40 [a0, a1, a2, a3, none, a5, a6, a7, a8] (.long y :: st) S P ↔ rn G mm_Sheets_sum 42 [a0, a1, a2, a3, none, some (.long y), none, a7, a8] st S P := rn_s dq_Sheets_sum_40 rfl rfl rfl
theorem sq_Sheets_sum_40i : rn G mm_Sheets_sum 40 [a0, a1, a2, a3, some (.int x2), a5, a6, a7, a8] (.long y :: st) S P ↔ rn G mm_Sheets_sum 42 [a0, a1, a2, a3, some (.int x2), some (.long y), none, a7, a8] st S P := rn_s dq_Sheets_sum_40 rfl rfl rfl
theorem sq_Sheets_sum_40r : rn G mm_Sheets_sum 40 [a0, a1, a2, a3, some (.ref z2), a5, a6, a7, a8] (.long y :: st) S P ↔ rn G mm_Sheets_sum 42 [a0, a1, a2, a3, some (.ref z2), some (.long y), none, a7, a8] st S P := rn_s dq_Sheets_sum_40 rfl rfl rfl
theorem sq_Sheets_sum_40l : rn G mm_Sheets_sum 40 [a0, a1, a2, a3, some (.long y2), a5, a6, a7, a8] (.long y :: st) S P ↔ rn G mm_Sheets_sum 42 [a0, a1, a2, a3, none, some (.long y), none, a7, a8] st S P := rn_s dq_Sheets_sum_40 rfl rfl rfl
theorem dq_Sheets_sum_42 : decode (km_c mm_Sheets_sum) 42 = .ok (.iload 7, 2) := by decide +kernel
theorem sq_Sheets_sum_42 : rn G mm_Sheets_sum 42 [a0, a1, a2, a3, a4, a5, a6, some (.int x), a8] st S P ↔ rn G mm_Sheets_sum 44 [a0, a1, a2, a3, a4, a5, a6, some (.int x), a8] (.int x :: st) S P := rn_s dq_Sheets_sum_42 rfl rfl rfl
theorem dq_Sheets_sum_44 : decode (km_c mm_Sheets_sum) 44 = .ok (.iload_n 3, 1) := by decide +kernel
theorem sq_Sheets_sum_44 : rn G mm_Sheets_sum 44 [a0, a1, a2, some (.int x), a4, a5, a6, a7, a8] st S P ↔ rn G mm_Sheets_sum 45 [a0, a1, a2, some (.int x), a4, a5, a6, a7, a8] (.int x :: st) S P := rn_s dq_Sheets_sum_44 rfl rfl rfl
theorem dq_Sheets_sum_45 : decode (km_c mm_Sheets_sum) 45 = .ok (.iload 8, 2) := by decide +kernel
theorem sq_Sheets_sum_45 : rn G mm_Sheets_sum 45 [a0, a1, a2, a3, a4, a5, a6, a7, some (.int x)] st S P ↔ rn G mm_Sheets_sum 47 [a0, a1, a2, a3, a4, a5, a6, a7, some (.int x)] (.int x :: st) S P := rn_s dq_Sheets_sum_45 rfl rfl rfl
theorem dq_Sheets_sum_47 : decode (km_c mm_Sheets_sum) 47 = .ok (.ishr, 1) := by decide +kernel
theorem sq_Sheets_sum_47 : rn G mm_Sheets_sum 47 lv (.int x2 :: .int x :: st) S P ↔ rn G mm_Sheets_sum 48 lv (.int (x >>> (x2 &&& 31)) :: st) S P := rn_s dq_Sheets_sum_47 rfl rfl rfl
theorem dq_Sheets_sum_48 : decode (km_c mm_Sheets_sum) 48 = .ok (.iconst 1, 1) := by decide +kernel
theorem sq_Sheets_sum_48 : rn G mm_Sheets_sum 48 lv st S P ↔ rn G mm_Sheets_sum 49 lv (.int (nI 1) :: st) S P := rn_s dq_Sheets_sum_48 rfl rfl rfl
theorem dq_Sheets_sum_49 : decode (km_c mm_Sheets_sum) 49 = .ok (.iand, 1) := by decide +kernel
theorem sq_Sheets_sum_49 : rn G mm_Sheets_sum 49 lv (.int x2 :: .int x :: st) S P ↔ rn G mm_Sheets_sum 50 lv (.int (x &&& x2) :: st) S P := rn_s dq_Sheets_sum_49 rfl rfl rfl
theorem dq_Sheets_sum_50 : decode (km_c mm_Sheets_sum) 50 = .ok (.iadd, 1) := by decide +kernel
theorem sq_Sheets_sum_50 : rn G mm_Sheets_sum 50 lv (.int x2 :: .int x :: st) S P ↔ rn G mm_Sheets_sum 51 lv (.int (x + x2) :: st) S P := rn_s dq_Sheets_sum_50 rfl rfl rfl
theorem dq_Sheets_sum_51 : decode (km_c mm_Sheets_sum) 51 = .ok (.istore 7, 2) := by decide +kernel
theorem sq_Sheets_sum_51n : rn G mm_Sheets_sum 51 [a0, a1, a2, a3, a4, a5, none, a7, a8] (.int x :: st) S P ↔ rn G mm_Sheets_sum 53 [a0, a1, a2, a3, a4, a5, none, some (.int x), a8] st S P := rn_s dq_Sheets_sum_51 rfl rfl rfl
theorem sq_Sheets_sum_51i : rn G mm_Sheets_sum 51 [a0, a1, a2, a3, a4, a5, some (.int x2), a7, a8] (.int x :: st) S P ↔ rn G mm_Sheets_sum 53 [a0, a1, a2, a3, a4, a5, some (.int x2), some (.int x), a8] st S P := rn_s dq_Sheets_sum_51 rfl rfl rfl
theorem sq_Sheets_sum_51r : rn G mm_Sheets_sum 51 [a0, a1, a2, a3, a4, a5, some (.ref z2), a7, a8] (.int x :: st) S P ↔ rn G mm_Sheets_sum 53 [a0, a1, a2, a3, a4, a5, some (.ref z2), some (.int x), a8] st S P := rn_s dq_Sheets_sum_51 rfl rfl rfl
theorem sq_Sheets_sum_51l : rn G mm_Sheets_sum 51 [a0, a1, a2, a3, a4, a5, some (.long y2), a7, a8] (.int x :: st) S P ↔ rn G mm_Sheets_sum 53 [a0, a1, a2, a3, a4, a5, none, some (.int x), a8] st S P := rn_s dq_Sheets_sum_51 rfl rfl rfl
theorem dq_Sheets_sum_53 : decode (km_c mm_Sheets_sum) 53 = .ok (.iinc 8 1, 3) := by decide +kernel
theorem sq_Sheets_sum_53n : rn G mm_Sheets_sum 53 [a0, a1, a2, a3, a4, a5, a6, none, some (.int x)] st S P ↔ rn G mm_Sheets_sum 56 [a0, a1, a2, a3, a4, a5, a6, none, some (.int (x + nI 1))] st S P := rn_s dq_Sheets_sum_53 rfl rfl rfl
theorem sq_Sheets_sum_53i : rn G mm_Sheets_sum 53 [a0, a1, a2, a3, a4, a5, a6, some (.int x2), some (.int x)] st S P ↔ rn G mm_Sheets_sum 56 [a0, a1, a2, a3, a4, a5, a6, some (.int x2), some (.int (x + nI 1))] st S P := rn_s dq_Sheets_sum_53 rfl rfl rfl
theorem sq_Sheets_sum_53r : rn G mm_Sheets_sum 53 [a0, a1, a2, a3, a4, a5, a6, some (.ref z2), some (.int x)] st S P ↔ rn G mm_Sheets_sum 56 [a0, a1, a2, a3, a4, a5, a6, some (.ref z2), some (.int (x + nI 1))] st S P := rn_s dq_Sheets_sum_53 rfl rfl rfl
theorem sq_Sheets_sum_53l : rn G mm_Sheets_sum 53 [a0, a1, a2, a3, a4, a5, a6, some (.long y2), some (.int x)] st S P ↔ rn G mm_Sheets_sum 56 [a0, a1, a2, a3, a4, a5, a6, none, some (.int (x + nI 1))] st S P := rn_s dq_Sheets_sum_53 rfl rfl rfl
theorem dq_Sheets_sum_56 : decode (km_c mm_Sheets_sum) 56 = .ok (.goto (-47), 3) := by decide +kernel
theorem sq_Sheets_sum_56 : rn G mm_Sheets_sum 56 lv st S P ↔ rn G mm_Sheets_sum 9 lv st S P := rn_s dq_Sheets_sum_56 rfl rfl rfl
theorem dq_Sheets_sum_59 : decode (km_c mm_Sheets_sum) 59 = .ok (.lload 5, 2) := by decide +kernel
theorem sq_Sheets_sum_59 : rn G mm_Sheets_sum 59 [a0, a1, a2, a3, a4, some (.long y), a6, a7, a8] st S P ↔ rn G mm_Sheets_sum 61 [a0, a1, a2, a3, a4, some (.long y), a6, a7, a8] (.long y :: st) S P := rn_s dq_Sheets_sum_59 rfl rfl rfl
theorem dq_Sheets_sum_61 : decode (km_c mm_Sheets_sum) 61 = .ok (.lreturn, 1) := by decide +kernel
theorem sq_Sheets_sum_61 : rn G mm_Sheets_sum 61 lv [.long y] S P ↔ P (some (.long y)) S := rn_lr dq_Sheets_sum_61 rfl
theorem dq_Sheets_renew_0 : decode (km_c mm_Sheets_renew) 0 = .ok (.aload_n 0, 1) := by decide +kernel
theorem sq_Sheets_renew_0 : rn G mm_Sheets_renew 0 [some (.ref z), a1, a2, a3] st S P ↔ rn G mm_Sheets_renew 1 [some (.ref z), a1, a2, a3] (.ref z :: st) S P := rn_s dq_Sheets_renew_0 rfl rfl rfl
theorem dq_Sheets_renew_1 : decode (km_c mm_Sheets_renew) 1 = .ok (.getfield 9, 3) := by decide +kernel
theorem sq_Sheets_renew_1_26 (ho : sx_o o pl kp) : rn (lt_G o L) mm_Sheets_renew 1 lv (.ref 26 :: st) (sx pl kp I A) P ↔ rn (lt_G o L) mm_Sheets_renew 4 lv (.ref 27 :: st) (sx pl kp I A) P := rx_get (h := "") (ci := 3) (k := 0) dq_Sheets_renew_1 (by decide +kernel) ho (up_b (by decide)) rfl rfl (fl_r (by decide) (by decide) (by decide) (by decide))
theorem dq_Sheets_renew_4 : decode (km_c mm_Sheets_renew) 4 = .ok (.iload_n 1, 1) := by decide +kernel
theorem sq_Sheets_renew_4 : rn G mm_Sheets_renew 4 [a0, some (.int x), a2, a3] st S P ↔ rn G mm_Sheets_renew 5 [a0, some (.int x), a2, a3] (.int x :: st) S P := rn_s dq_Sheets_renew_4 rfl rfl rfl
theorem dq_Sheets_renew_5 : decode (km_c mm_Sheets_renew) 5 = .ok (.iconst 1, 1) := by decide +kernel
theorem sq_Sheets_renew_5 : rn G mm_Sheets_renew 5 lv st S P ↔ rn G mm_Sheets_renew 6 lv (.int (nI 1) :: st) S P := rn_s dq_Sheets_renew_5 rfl rfl rfl
theorem dq_Sheets_renew_6 : decode (km_c mm_Sheets_renew) 6 = .ok (.bastore, 1) := by decide +kernel
theorem sq_Sheets_renew_6 (ho : sx_o o pl kp) (hk : ak L a = 1 ∨ ak L a = 2) (hu : sx_up pl kp a = true) (hc : c < ln L a) (hn : ln L a < 2 ^ 31) : rn (lt_G o L) mm_Sheets_renew 6 lv (.int x :: .int (nI c) :: .ref a :: st) (sx pl kp I A) P ↔ rn (lt_G o L) mm_Sheets_renew 7 lv st (sx pl kp I (u2 A a c (vp_nar (kx_ty (ak L a)) x))) P := rx_bst dq_Sheets_renew_6 ho hk hu hc hn
theorem dq_Sheets_renew_7 : decode (km_c mm_Sheets_renew) 7 = .ok (.aload_n 0, 1) := by decide +kernel
theorem sq_Sheets_renew_7 : rn G mm_Sheets_renew 7 [some (.ref z), a1, a2, a3] st S P ↔ rn G mm_Sheets_renew 8 [some (.ref z), a1, a2, a3] (.ref z :: st) S P := rn_s dq_Sheets_renew_7 rfl rfl rfl
theorem dq_Sheets_renew_8 : decode (km_c mm_Sheets_renew) 8 = .ok (.getfield 15, 3) := by decide +kernel
theorem sq_Sheets_renew_8_26 (ho : sx_o o pl kp) : rn (lt_G o L) mm_Sheets_renew 8 lv (.ref 26 :: st) (sx pl kp I A) P ↔ rn (lt_G o L) mm_Sheets_renew 11 lv (.ref 28 :: st) (sx pl kp I A) P := rx_get (h := "") (ci := 3) (k := 1) dq_Sheets_renew_8 (by decide +kernel) ho (up_b (by decide)) rfl rfl (fl_r (by decide) (by decide) (by decide) (by decide))
theorem dq_Sheets_renew_11 : decode (km_c mm_Sheets_renew) 11 = .ok (.iload_n 1, 1) := by decide +kernel
theorem sq_Sheets_renew_11 : rn G mm_Sheets_renew 11 [a0, some (.int x), a2, a3] st S P ↔ rn G mm_Sheets_renew 12 [a0, some (.int x), a2, a3] (.int x :: st) S P := rn_s dq_Sheets_renew_11 rfl rfl rfl
theorem dq_Sheets_renew_12 : decode (km_c mm_Sheets_renew) 12 = .ok (.iload_n 2, 1) := by decide +kernel
theorem sq_Sheets_renew_12 : rn G mm_Sheets_renew 12 [a0, a1, some (.int x), a3] st S P ↔ rn G mm_Sheets_renew 13 [a0, a1, some (.int x), a3] (.int x :: st) S P := rn_s dq_Sheets_renew_12 rfl rfl rfl
theorem dq_Sheets_renew_13 : decode (km_c mm_Sheets_renew) 13 = .ok (.iastore, 1) := by decide +kernel
theorem sq_Sheets_renew_13 (ho : sx_o o pl kp) (hk : ak L a = 0) (hu : sx_up pl kp a = true) (hc : c < ln L a) (hn : ln L a < 2 ^ 31) : rn (lt_G o L) mm_Sheets_renew 13 lv (.int x :: .int (nI c) :: .ref a :: st) (sx pl kp I A) P ↔ rn (lt_G o L) mm_Sheets_renew 14 lv st (sx pl kp I (u2 A a c x)) P := rx_ist dq_Sheets_renew_13 ho hk hu hc hn
theorem dq_Sheets_renew_14 : decode (km_c mm_Sheets_renew) 14 = .ok (.aload_n 0, 1) := by decide +kernel
theorem sq_Sheets_renew_14 : rn G mm_Sheets_renew 14 [some (.ref z), a1, a2, a3] st S P ↔ rn G mm_Sheets_renew 15 [some (.ref z), a1, a2, a3] (.ref z :: st) S P := rn_s dq_Sheets_renew_14 rfl rfl rfl
theorem dq_Sheets_renew_15 : decode (km_c mm_Sheets_renew) 15 = .ok (.getfield 19, 3) := by decide +kernel
theorem sq_Sheets_renew_15_26 (ho : sx_o o pl kp) : rn (lt_G o L) mm_Sheets_renew 15 lv (.ref 26 :: st) (sx pl kp I A) P ↔ rn (lt_G o L) mm_Sheets_renew 18 lv (.ref 29 :: st) (sx pl kp I A) P := rx_get (h := "") (ci := 3) (k := 2) dq_Sheets_renew_15 (by decide +kernel) ho (up_b (by decide)) rfl rfl (fl_r (by decide) (by decide) (by decide) (by decide))
theorem dq_Sheets_renew_18 : decode (km_c mm_Sheets_renew) 18 = .ok (.iload_n 1, 1) := by decide +kernel
theorem sq_Sheets_renew_18 : rn G mm_Sheets_renew 18 [a0, some (.int x), a2, a3] st S P ↔ rn G mm_Sheets_renew 19 [a0, some (.int x), a2, a3] (.int x :: st) S P := rn_s dq_Sheets_renew_18 rfl rfl rfl
theorem dq_Sheets_renew_19 : decode (km_c mm_Sheets_renew) 19 = .ok (.iload_n 3, 1) := by decide +kernel
theorem sq_Sheets_renew_19 : rn G mm_Sheets_renew 19 [a0, a1, a2, some (.int x)] st S P ↔ rn G mm_Sheets_renew 20 [a0, a1, a2, some (.int x)] (.int x :: st) S P := rn_s dq_Sheets_renew_19 rfl rfl rfl
theorem dq_Sheets_renew_20 : decode (km_c mm_Sheets_renew) 20 = .ok (.iastore, 1) := by decide +kernel
theorem sq_Sheets_renew_20 (ho : sx_o o pl kp) (hk : ak L a = 0) (hu : sx_up pl kp a = true) (hc : c < ln L a) (hn : ln L a < 2 ^ 31) : rn (lt_G o L) mm_Sheets_renew 20 lv (.int x :: .int (nI c) :: .ref a :: st) (sx pl kp I A) P ↔ rn (lt_G o L) mm_Sheets_renew 21 lv st (sx pl kp I (u2 A a c x)) P := rx_ist dq_Sheets_renew_20 ho hk hu hc hn
theorem dq_Sheets_renew_21 : decode (km_c mm_Sheets_renew) 21 = .ok (.aload_n 0, 1) := by decide +kernel
theorem sq_Sheets_renew_21 : rn G mm_Sheets_renew 21 [some (.ref z), a1, a2, a3] st S P ↔ rn G mm_Sheets_renew 22 [some (.ref z), a1, a2, a3] (.ref z :: st) S P := rn_s dq_Sheets_renew_21 rfl rfl rfl
theorem dq_Sheets_renew_22 : decode (km_c mm_Sheets_renew) 22 = .ok (.getfield 24, 3) := by decide +kernel
theorem sq_Sheets_renew_22_26 (ho : sx_o o pl kp) : rn (lt_G o L) mm_Sheets_renew 22 lv (.ref 26 :: st) (sx pl kp I A) P ↔ rn (lt_G o L) mm_Sheets_renew 25 lv (.ref 30 :: st) (sx pl kp I A) P := rx_get (h := "") (ci := 3) (k := 3) dq_Sheets_renew_22 (by decide +kernel) ho (up_b (by decide)) rfl rfl (fl_r (by decide) (by decide) (by decide) (by decide))
theorem dq_Sheets_renew_25 : decode (km_c mm_Sheets_renew) 25 = .ok (.iload_n 1, 1) := by decide +kernel
theorem sq_Sheets_renew_25 : rn G mm_Sheets_renew 25 [a0, some (.int x), a2, a3] st S P ↔ rn G mm_Sheets_renew 26 [a0, some (.int x), a2, a3] (.int x :: st) S P := rn_s dq_Sheets_renew_25 rfl rfl rfl
theorem dq_Sheets_renew_26 : decode (km_c mm_Sheets_renew) 26 = .ok (.aaload, 1) := by decide +kernel
theorem sq_Sheets_renew_26 (ho : sx_o o pl kp) (hk : ak L a = 3) (hu : sx_up pl kp a = true) (hc : c < ln L a) (hn : ln L a < 2 ^ 31) : rn (lt_G o L) mm_Sheets_renew 26 lv (.int (nI c) :: .ref a :: st) (sx pl kp I A) P ↔ rn (lt_G o L) mm_Sheets_renew 27 lv (.ref (ab L a + c) :: st) (sx pl kp I A) P := rx_ald dq_Sheets_renew_26 ho hk hu hc hn
theorem dq_Sheets_renew_27 : decode (km_c mm_Sheets_renew) 27 = .ok (.iconst 0, 1) := by decide +kernel
theorem sq_Sheets_renew_27 : rn G mm_Sheets_renew 27 lv st S P ↔ rn G mm_Sheets_renew 28 lv (.int (nI 0) :: st) S P := rn_s dq_Sheets_renew_27 rfl rfl rfl
theorem dq_Sheets_renew_28 : decode (km_c mm_Sheets_renew) 28 = .ok (.invokestatic 27, 3) := by decide +kernel
theorem sq_Sheets_renew_28 {z1 : Nat} {x2 : Int32} {v : Option Value} {S2 : ks_S} (hc : ev G mm_Arrays_fill [.ref z1, .int x2] S v S2) (hst : kx_cat st ≤ 8) : rn G mm_Sheets_renew 28 lv (.int x2 :: .ref z1 :: st) S P ↔ rn G mm_Sheets_renew 31 lv (v.toList ++ st) S2 P := rn_cs (k := 1) (host := "") (E' := mm_Arrays_fill) dq_Sheets_renew_28 (by decide) (by decide) rfl (ok_v rfl (by decide) (by decide) (Nat.le_add_left _ _) hst (Nat.le_of_ble_eq_true rfl) (Or.inl rfl)) rfl rfl hc
theorem dq_Sheets_renew_31 : decode (km_c mm_Sheets_renew) 31 = .ok (.return_, 1) := by decide +kernel
theorem sq_Sheets_renew_31 : rn G mm_Sheets_renew 31 lv [] S P ↔ P none S := rn_vr dq_Sheets_renew_31 rfl
theorem dq_Sheets_put_0 : decode (km_c mm_Sheets_put) 0 = .ok (.aload_n 0, 1) := by decide +kernel
theorem sq_Sheets_put_0 : rn G mm_Sheets_put 0 [some (.ref z), a1, a2, a3] st S P ↔ rn G mm_Sheets_put 1 [some (.ref z), a1, a2, a3] (.ref z :: st) S P := rn_s dq_Sheets_put_0 rfl rfl rfl
theorem dq_Sheets_put_1 : decode (km_c mm_Sheets_put) 1 = .ok (.getfield 15, 3) := by decide +kernel
theorem sq_Sheets_put_1_26 (ho : sx_o o pl kp) : rn (lt_G o L) mm_Sheets_put 1 lv (.ref 26 :: st) (sx pl kp I A) P ↔ rn (lt_G o L) mm_Sheets_put 4 lv (.ref 28 :: st) (sx pl kp I A) P := rx_get (h := "") (ci := 3) (k := 1) dq_Sheets_put_1 (by decide +kernel) ho (up_b (by decide)) rfl rfl (fl_r (by decide) (by decide) (by decide) (by decide))
theorem dq_Sheets_put_4 : decode (km_c mm_Sheets_put) 4 = .ok (.iload_n 1, 1) := by decide +kernel
theorem sq_Sheets_put_4 : rn G mm_Sheets_put 4 [a0, some (.int x), a2, a3] st S P ↔ rn G mm_Sheets_put 5 [a0, some (.int x), a2, a3] (.int x :: st) S P := rn_s dq_Sheets_put_4 rfl rfl rfl
theorem dq_Sheets_put_5 : decode (km_c mm_Sheets_put) 5 = .ok (.iaload, 1) := by decide +kernel
theorem sq_Sheets_put_5 (ho : sx_o o pl kp) (hk : ak L a = 0) (hu : sx_up pl kp a = true ∨ 1000 ≤ a) (hc : c < ln L a) (hn : ln L a < 2 ^ 31) : rn (lt_G o L) mm_Sheets_put 5 lv (.int (nI c) :: .ref a :: st) (sx pl kp I A) P ↔ rn (lt_G o L) mm_Sheets_put 6 lv (.int (A a c) :: st) (sx pl kp I A) P := rx_ild dq_Sheets_put_5 ho hk hu hc hn
theorem dq_Sheets_put_6 : decode (km_c mm_Sheets_put) 6 = .ok (.lookupswitch 52 #[(0, 26), (1, 39)], 26) := by decide +kernel
theorem dq_Sheets_put_32 : decode (km_c mm_Sheets_put) 32 = .ok (.aload_n 0, 1) := by decide +kernel
theorem sq_Sheets_put_32 : rn G mm_Sheets_put 32 [some (.ref z), a1, a2, a3] st S P ↔ rn G mm_Sheets_put 33 [some (.ref z), a1, a2, a3] (.ref z :: st) S P := rn_s dq_Sheets_put_32 rfl rfl rfl
theorem dq_Sheets_put_33 : decode (km_c mm_Sheets_put) 33 = .ok (.getfield 24, 3) := by decide +kernel
theorem sq_Sheets_put_33_26 (ho : sx_o o pl kp) : rn (lt_G o L) mm_Sheets_put 33 lv (.ref 26 :: st) (sx pl kp I A) P ↔ rn (lt_G o L) mm_Sheets_put 36 lv (.ref 30 :: st) (sx pl kp I A) P := rx_get (h := "") (ci := 3) (k := 3) dq_Sheets_put_33 (by decide +kernel) ho (up_b (by decide)) rfl rfl (fl_r (by decide) (by decide) (by decide) (by decide))
theorem dq_Sheets_put_36 : decode (km_c mm_Sheets_put) 36 = .ok (.iload_n 1, 1) := by decide +kernel
theorem sq_Sheets_put_36 : rn G mm_Sheets_put 36 [a0, some (.int x), a2, a3] st S P ↔ rn G mm_Sheets_put 37 [a0, some (.int x), a2, a3] (.int x :: st) S P := rn_s dq_Sheets_put_36 rfl rfl rfl
theorem dq_Sheets_put_37 : decode (km_c mm_Sheets_put) 37 = .ok (.aaload, 1) := by decide +kernel
theorem sq_Sheets_put_37 (ho : sx_o o pl kp) (hk : ak L a = 3) (hu : sx_up pl kp a = true) (hc : c < ln L a) (hn : ln L a < 2 ^ 31) : rn (lt_G o L) mm_Sheets_put 37 lv (.int (nI c) :: .ref a :: st) (sx pl kp I A) P ↔ rn (lt_G o L) mm_Sheets_put 38 lv (.ref (ab L a + c) :: st) (sx pl kp I A) P := rx_ald dq_Sheets_put_37 ho hk hu hc hn
theorem dq_Sheets_put_38 : decode (km_c mm_Sheets_put) 38 = .ok (.iload_n 2, 1) := by decide +kernel
theorem sq_Sheets_put_38 : rn G mm_Sheets_put 38 [a0, a1, some (.int x), a3] st S P ↔ rn G mm_Sheets_put 39 [a0, a1, some (.int x), a3] (.int x :: st) S P := rn_s dq_Sheets_put_38 rfl rfl rfl
theorem dq_Sheets_put_39 : decode (km_c mm_Sheets_put) 39 = .ok (.iload_n 3, 1) := by decide +kernel
theorem sq_Sheets_put_39 : rn G mm_Sheets_put 39 [a0, a1, a2, some (.int x)] st S P ↔ rn G mm_Sheets_put 40 [a0, a1, a2, some (.int x)] (.int x :: st) S P := rn_s dq_Sheets_put_39 rfl rfl rfl
theorem dq_Sheets_put_40 : decode (km_c mm_Sheets_put) 40 = .ok (.i2b, 1) := by decide +kernel
theorem sq_Sheets_put_40 : rn G mm_Sheets_put 40 lv (.int x :: st) S P ↔ rn G mm_Sheets_put 41 lv (.int x.toInt8.toInt32 :: st) S P := rn_s dq_Sheets_put_40 rfl rfl rfl
theorem dq_Sheets_put_41 : decode (km_c mm_Sheets_put) 41 = .ok (.iastore, 1) := by decide +kernel
theorem sq_Sheets_put_41 (ho : sx_o o pl kp) (hk : ak L a = 0) (hu : sx_up pl kp a = true) (hc : c < ln L a) (hn : ln L a < 2 ^ 31) : rn (lt_G o L) mm_Sheets_put 41 lv (.int x :: .int (nI c) :: .ref a :: st) (sx pl kp I A) P ↔ rn (lt_G o L) mm_Sheets_put 42 lv st (sx pl kp I (u2 A a c x)) P := rx_ist dq_Sheets_put_41 ho hk hu hc hn
theorem dq_Sheets_put_42 : decode (km_c mm_Sheets_put) 42 = .ok (.goto 25, 3) := by decide +kernel
theorem sq_Sheets_put_42 : rn G mm_Sheets_put 42 lv st S P ↔ rn G mm_Sheets_put 67 lv st S P := rn_s dq_Sheets_put_42 rfl rfl rfl
theorem dq_Sheets_put_45 : decode (km_c mm_Sheets_put) 45 = .ok (.aload_n 0, 1) := by decide +kernel
theorem sq_Sheets_put_45 : rn G mm_Sheets_put 45 [some (.ref z), a1, a2, a3] st S P ↔ rn G mm_Sheets_put 46 [some (.ref z), a1, a2, a3] (.ref z :: st) S P := rn_s dq_Sheets_put_45 rfl rfl rfl
theorem dq_Sheets_put_46 : decode (km_c mm_Sheets_put) 46 = .ok (.getfield 24, 3) := by decide +kernel
theorem sq_Sheets_put_46_26 (ho : sx_o o pl kp) : rn (lt_G o L) mm_Sheets_put 46 lv (.ref 26 :: st) (sx pl kp I A) P ↔ rn (lt_G o L) mm_Sheets_put 49 lv (.ref 30 :: st) (sx pl kp I A) P := rx_get (h := "") (ci := 3) (k := 3) dq_Sheets_put_46 (by decide +kernel) ho (up_b (by decide)) rfl rfl (fl_r (by decide) (by decide) (by decide) (by decide))
theorem dq_Sheets_put_49 : decode (km_c mm_Sheets_put) 49 = .ok (.iload_n 1, 1) := by decide +kernel
theorem sq_Sheets_put_49 : rn G mm_Sheets_put 49 [a0, some (.int x), a2, a3] st S P ↔ rn G mm_Sheets_put 50 [a0, some (.int x), a2, a3] (.int x :: st) S P := rn_s dq_Sheets_put_49 rfl rfl rfl
theorem dq_Sheets_put_50 : decode (km_c mm_Sheets_put) 50 = .ok (.aaload, 1) := by decide +kernel
theorem sq_Sheets_put_50 (ho : sx_o o pl kp) (hk : ak L a = 3) (hu : sx_up pl kp a = true) (hc : c < ln L a) (hn : ln L a < 2 ^ 31) : rn (lt_G o L) mm_Sheets_put 50 lv (.int (nI c) :: .ref a :: st) (sx pl kp I A) P ↔ rn (lt_G o L) mm_Sheets_put 51 lv (.ref (ab L a + c) :: st) (sx pl kp I A) P := rx_ald dq_Sheets_put_50 ho hk hu hc hn
theorem dq_Sheets_put_51 : decode (km_c mm_Sheets_put) 51 = .ok (.iload_n 2, 1) := by decide +kernel
theorem sq_Sheets_put_51 : rn G mm_Sheets_put 51 [a0, a1, some (.int x), a3] st S P ↔ rn G mm_Sheets_put 52 [a0, a1, some (.int x), a3] (.int x :: st) S P := rn_s dq_Sheets_put_51 rfl rfl rfl
theorem dq_Sheets_put_52 : decode (km_c mm_Sheets_put) 52 = .ok (.iload_n 3, 1) := by decide +kernel
theorem sq_Sheets_put_52 : rn G mm_Sheets_put 52 [a0, a1, a2, some (.int x)] st S P ↔ rn G mm_Sheets_put 53 [a0, a1, a2, some (.int x)] (.int x :: st) S P := rn_s dq_Sheets_put_52 rfl rfl rfl
theorem dq_Sheets_put_53 : decode (km_c mm_Sheets_put) 53 = .ok (.i2s, 1) := by decide +kernel
theorem sq_Sheets_put_53 : rn G mm_Sheets_put 53 lv (.int x :: st) S P ↔ rn G mm_Sheets_put 54 lv (.int x.toInt16.toInt32 :: st) S P := rn_s dq_Sheets_put_53 rfl rfl rfl
theorem dq_Sheets_put_54 : decode (km_c mm_Sheets_put) 54 = .ok (.iastore, 1) := by decide +kernel
theorem sq_Sheets_put_54 (ho : sx_o o pl kp) (hk : ak L a = 0) (hu : sx_up pl kp a = true) (hc : c < ln L a) (hn : ln L a < 2 ^ 31) : rn (lt_G o L) mm_Sheets_put 54 lv (.int x :: .int (nI c) :: .ref a :: st) (sx pl kp I A) P ↔ rn (lt_G o L) mm_Sheets_put 55 lv st (sx pl kp I (u2 A a c x)) P := rx_ist dq_Sheets_put_54 ho hk hu hc hn
theorem dq_Sheets_put_55 : decode (km_c mm_Sheets_put) 55 = .ok (.goto 12, 3) := by decide +kernel
theorem sq_Sheets_put_55 : rn G mm_Sheets_put 55 lv st S P ↔ rn G mm_Sheets_put 67 lv st S P := rn_s dq_Sheets_put_55 rfl rfl rfl
theorem dq_Sheets_put_58 : decode (km_c mm_Sheets_put) 58 = .ok (.aload_n 0, 1) := by decide +kernel
theorem sq_Sheets_put_58 : rn G mm_Sheets_put 58 [some (.ref z), a1, a2, a3] st S P ↔ rn G mm_Sheets_put 59 [some (.ref z), a1, a2, a3] (.ref z :: st) S P := rn_s dq_Sheets_put_58 rfl rfl rfl
theorem dq_Sheets_put_59 : decode (km_c mm_Sheets_put) 59 = .ok (.getfield 24, 3) := by decide +kernel
theorem sq_Sheets_put_59_26 (ho : sx_o o pl kp) : rn (lt_G o L) mm_Sheets_put 59 lv (.ref 26 :: st) (sx pl kp I A) P ↔ rn (lt_G o L) mm_Sheets_put 62 lv (.ref 30 :: st) (sx pl kp I A) P := rx_get (h := "") (ci := 3) (k := 3) dq_Sheets_put_59 (by decide +kernel) ho (up_b (by decide)) rfl rfl (fl_r (by decide) (by decide) (by decide) (by decide))
theorem dq_Sheets_put_62 : decode (km_c mm_Sheets_put) 62 = .ok (.iload_n 1, 1) := by decide +kernel
theorem sq_Sheets_put_62 : rn G mm_Sheets_put 62 [a0, some (.int x), a2, a3] st S P ↔ rn G mm_Sheets_put 63 [a0, some (.int x), a2, a3] (.int x :: st) S P := rn_s dq_Sheets_put_62 rfl rfl rfl
theorem dq_Sheets_put_63 : decode (km_c mm_Sheets_put) 63 = .ok (.aaload, 1) := by decide +kernel
theorem sq_Sheets_put_63 (ho : sx_o o pl kp) (hk : ak L a = 3) (hu : sx_up pl kp a = true) (hc : c < ln L a) (hn : ln L a < 2 ^ 31) : rn (lt_G o L) mm_Sheets_put 63 lv (.int (nI c) :: .ref a :: st) (sx pl kp I A) P ↔ rn (lt_G o L) mm_Sheets_put 64 lv (.ref (ab L a + c) :: st) (sx pl kp I A) P := rx_ald dq_Sheets_put_63 ho hk hu hc hn
theorem dq_Sheets_put_64 : decode (km_c mm_Sheets_put) 64 = .ok (.iload_n 2, 1) := by decide +kernel
theorem sq_Sheets_put_64 : rn G mm_Sheets_put 64 [a0, a1, some (.int x), a3] st S P ↔ rn G mm_Sheets_put 65 [a0, a1, some (.int x), a3] (.int x :: st) S P := rn_s dq_Sheets_put_64 rfl rfl rfl
theorem dq_Sheets_put_65 : decode (km_c mm_Sheets_put) 65 = .ok (.iload_n 3, 1) := by decide +kernel
theorem sq_Sheets_put_65 : rn G mm_Sheets_put 65 [a0, a1, a2, some (.int x)] st S P ↔ rn G mm_Sheets_put 66 [a0, a1, a2, some (.int x)] (.int x :: st) S P := rn_s dq_Sheets_put_65 rfl rfl rfl
theorem dq_Sheets_put_66 : decode (km_c mm_Sheets_put) 66 = .ok (.iastore, 1) := by decide +kernel
theorem sq_Sheets_put_66 (ho : sx_o o pl kp) (hk : ak L a = 0) (hu : sx_up pl kp a = true) (hc : c < ln L a) (hn : ln L a < 2 ^ 31) : rn (lt_G o L) mm_Sheets_put 66 lv (.int x :: .int (nI c) :: .ref a :: st) (sx pl kp I A) P ↔ rn (lt_G o L) mm_Sheets_put 67 lv st (sx pl kp I (u2 A a c x)) P := rx_ist dq_Sheets_put_66 ho hk hu hc hn
theorem dq_Sheets_put_67 : decode (km_c mm_Sheets_put) 67 = .ok (.return_, 1) := by decide +kernel
theorem sq_Sheets_put_67 : rn G mm_Sheets_put 67 lv [] S P ↔ P none S := rn_vr dq_Sheets_put_67 rfl
theorem dq_Tape_init_0 : decode (km_c mm_Tape_init) 0 = .ok (.aload_n 0, 1) := by decide +kernel
theorem sq_Tape_init_0 : rn G mm_Tape_init 0 [some (.ref z)] st S P ↔ rn G mm_Tape_init 1 [some (.ref z)] (.ref z :: st) S P := rn_s dq_Tape_init_0 rfl rfl rfl
theorem dq_Tape_init_1 : decode (km_c mm_Tape_init) 1 = .ok (.invokespecial 3, 3) := by decide +kernel
theorem dq_Tape_init_4 : decode (km_c mm_Tape_init) 4 = .ok (.aload_n 0, 1) := by decide +kernel
theorem sq_Tape_init_4 : rn G mm_Tape_init 4 [some (.ref z)] st S P ↔ rn G mm_Tape_init 5 [some (.ref z)] (.ref z :: st) S P := rn_s dq_Tape_init_4 rfl rfl rfl
theorem dq_Tape_init_5 : decode (km_c mm_Tape_init) 5 = .ok (.sipush 140, 3) := by decide +kernel
theorem sq_Tape_init_5 : rn G mm_Tape_init 5 lv st S P ↔ rn G mm_Tape_init 8 lv (.int (nI 140) :: st) S P := rn_s dq_Tape_init_5 rfl rfl rfl
theorem dq_Tape_init_8 : decode (km_c mm_Tape_init) 8 = .ok (.newarray .byte, 2) := by decide +kernel
theorem dq_Tape_init_10 : decode (km_c mm_Tape_init) 10 = .ok (.putfield 9, 3) := by decide +kernel
theorem dq_Tape_init_13 : decode (km_c mm_Tape_init) 13 = .ok (.aload_n 0, 1) := by decide +kernel
theorem sq_Tape_init_13 : rn G mm_Tape_init 13 [some (.ref z)] st S P ↔ rn G mm_Tape_init 14 [some (.ref z)] (.ref z :: st) S P := rn_s dq_Tape_init_13 rfl rfl rfl
theorem dq_Tape_init_14 : decode (km_c mm_Tape_init) 14 = .ok (.iconst 0, 1) := by decide +kernel
theorem sq_Tape_init_14 : rn G mm_Tape_init 14 lv st S P ↔ rn G mm_Tape_init 15 lv (.int (nI 0) :: st) S P := rn_s dq_Tape_init_14 rfl rfl rfl
theorem dq_Tape_init_15 : decode (km_c mm_Tape_init) 15 = .ok (.putfield 15, 3) := by decide +kernel
theorem sq_Tape_init_15_24 (ho : sx_o o pl kp) : rn (lt_G o L) mm_Tape_init 15 lv (.int x :: .ref 24 :: st) (sx pl kp I A) P ↔ rn (lt_G o L) mm_Tape_init 18 lv st (sx pl kp (u2 I 24 1 x) A) P := rx_put (h := "") (ci := 4) (k := 1) dq_Tape_init_15 (by decide +kernel) ho (up_b (by decide)) rfl rfl (by decide) (by decide)
theorem dq_Tape_init_18 : decode (km_c mm_Tape_init) 18 = .ok (.aload_n 0, 1) := by decide +kernel
theorem sq_Tape_init_18 : rn G mm_Tape_init 18 [some (.ref z)] st S P ↔ rn G mm_Tape_init 19 [some (.ref z)] (.ref z :: st) S P := rn_s dq_Tape_init_18 rfl rfl rfl
theorem dq_Tape_init_19 : decode (km_c mm_Tape_init) 19 = .ok (.iconst 0, 1) := by decide +kernel
theorem sq_Tape_init_19 : rn G mm_Tape_init 19 lv st S P ↔ rn G mm_Tape_init 20 lv (.int (nI 0) :: st) S P := rn_s dq_Tape_init_19 rfl rfl rfl
theorem dq_Tape_init_20 : decode (km_c mm_Tape_init) 20 = .ok (.putfield 19, 3) := by decide +kernel
theorem sq_Tape_init_20_24 (ho : sx_o o pl kp) : rn (lt_G o L) mm_Tape_init 20 lv (.int x :: .ref 24 :: st) (sx pl kp I A) P ↔ rn (lt_G o L) mm_Tape_init 23 lv st (sx pl kp (u2 I 24 2 x) A) P := rx_put (h := "") (ci := 4) (k := 2) dq_Tape_init_20 (by decide +kernel) ho (up_b (by decide)) rfl rfl (by decide) (by decide)
theorem dq_Tape_init_23 : decode (km_c mm_Tape_init) 23 = .ok (.return_, 1) := by decide +kernel
theorem sq_Tape_init_23 : rn G mm_Tape_init 23 lv [] S P ↔ P none S := rn_vr dq_Tape_init_23 rfl
end SQ
