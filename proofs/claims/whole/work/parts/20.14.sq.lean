section SQ
variable {o pl kp : Bool} {L : Nat} {I A : Nat → Nat → Int32} {G : kg_G} {S : ks_S} {lv : List (Option Value)} {st : List Value} {P : Option Value → ks_S → Prop} {x x2 : Int32} {y y2 : Int64} {z z2 c a : Nat} {a0 a1 a2 a3 a4 a5 a6 a7 a8 a9 a10 a11 a12 a13 a14 a15 a16 a17 a18 a19 a20 a21 a22 a23 : Option Value}
theorem dq_Model_carried_0 : decode (km_c mm_Model_carried) 0 = .ok (.iload_n 1, 1) := by decide +kernel
theorem sq_Model_carried_0 : rn G mm_Model_carried 0 [a0, some (.int x), a2, a3, a4, a5] st S P ↔ rn G mm_Model_carried 1 [a0, some (.int x), a2, a3, a4, a5] (.int x :: st) S P := rn_s dq_Model_carried_0 rfl rfl rfl
theorem dq_Model_carried_1 : decode (km_c mm_Model_carried) 1 = .ok (.istore 4, 2) := by decide +kernel
theorem sq_Model_carried_1n : rn G mm_Model_carried 1 [a0, a1, a2, none, a4, a5] (.int x :: st) S P ↔ rn G mm_Model_carried 3 [a0, a1, a2, none, some (.int x), a5] st S P := rn_s dq_Model_carried_1 rfl rfl rfl
theorem sq_Model_carried_1i : rn G mm_Model_carried 1 [a0, a1, a2, some (.int x2), a4, a5] (.int x :: st) S P ↔ rn G mm_Model_carried 3 [a0, a1, a2, some (.int x2), some (.int x), a5] st S P := rn_s dq_Model_carried_1 rfl rfl rfl
theorem sq_Model_carried_1r : rn G mm_Model_carried 1 [a0, a1, a2, some (.ref z2), a4, a5] (.int x :: st) S P ↔ rn G mm_Model_carried 3 [a0, a1, a2, some (.ref z2), some (.int x), a5] st S P := rn_s dq_Model_carried_1 rfl rfl rfl
theorem dq_Model_carried_3 : decode (km_c mm_Model_carried) 3 = .ok (.iload 4, 2) := by decide +kernel
theorem sq_Model_carried_3 : rn G mm_Model_carried 3 [a0, a1, a2, a3, some (.int x), a5] st S P ↔ rn G mm_Model_carried 5 [a0, a1, a2, a3, some (.int x), a5] (.int x :: st) S P := rn_s dq_Model_carried_3 rfl rfl rfl
theorem dq_Model_carried_5 : decode (km_c mm_Model_carried) 5 = .ok (.sipush 245, 3) := by decide +kernel
theorem sq_Model_carried_5 : rn G mm_Model_carried 5 lv st S P ↔ rn G mm_Model_carried 8 lv (.int (nI 245) :: st) S P := rn_s dq_Model_carried_5 rfl rfl rfl
theorem dq_Model_carried_8 : decode (km_c mm_Model_carried) 8 = .ok (.if_icmp .ge 33, 3) := by decide +kernel
theorem sq_Model_carried_8 : rn G mm_Model_carried 8 lv (.int x2 :: .int x :: st) S P ↔ ((x2 ≤ x → rn G mm_Model_carried 41 lv st S P) ∧ (¬ (x2 ≤ x) → rn G mm_Model_carried 11 lv st S P)) := rn_b (off := 33) dq_Model_carried_8 rfl rfl rfl rfl
theorem dq_Model_carried_11 : decode (km_c mm_Model_carried) 11 = .ok (.aload_n 0, 1) := by decide +kernel
theorem sq_Model_carried_11 : rn G mm_Model_carried 11 [some (.ref z), a1, a2, a3, a4, a5] st S P ↔ rn G mm_Model_carried 12 [some (.ref z), a1, a2, a3, a4, a5] (.ref z :: st) S P := rn_s dq_Model_carried_11 rfl rfl rfl
theorem dq_Model_carried_12 : decode (km_c mm_Model_carried) 12 = .ok (.getfield 7, 3) := by decide +kernel
theorem sq_Model_carried_12_45 (ho : sx_o o pl kp) : rn (lt_G o L) mm_Model_carried 12 lv (.ref 45 :: st) (sx pl kp I A) P ↔ rn (lt_G o L) mm_Model_carried 15 lv (.ref 46 :: st) (sx pl kp I A) P := rx_get (h := "") (ci := 10) (k := 0) dq_Model_carried_12 (by decide +kernel) ho (up_b (by decide)) rfl rfl (fl_r (by decide) (by decide) (by decide) (by decide))
theorem dq_Model_carried_15 : decode (km_c mm_Model_carried) 15 = .ok (.iload 4, 2) := by decide +kernel
theorem sq_Model_carried_15 : rn G mm_Model_carried 15 [a0, a1, a2, a3, some (.int x), a5] st S P ↔ rn G mm_Model_carried 17 [a0, a1, a2, a3, some (.int x), a5] (.int x :: st) S P := rn_s dq_Model_carried_15 rfl rfl rfl
theorem dq_Model_carried_17 : decode (km_c mm_Model_carried) 17 = .ok (.iload_n 3, 1) := by decide +kernel
theorem sq_Model_carried_17 : rn G mm_Model_carried 17 [a0, a1, a2, some (.int x), a4, a5] st S P ↔ rn G mm_Model_carried 18 [a0, a1, a2, some (.int x), a4, a5] (.int x :: st) S P := rn_s dq_Model_carried_17 rfl rfl rfl
theorem dq_Model_carried_18 : decode (km_c mm_Model_carried) 18 = .ok (.ifCond .eq 7, 3) := by decide +kernel
theorem sq_Model_carried_18 : rn G mm_Model_carried 18 lv (.int x :: st) S P ↔ ((x = 0 → rn G mm_Model_carried 25 lv st S P) ∧ (¬ (x = 0) → rn G mm_Model_carried 21 lv st S P)) := rn_b (off := 7) dq_Model_carried_18 rfl rfl rfl rfl
theorem dq_Model_carried_21 : decode (km_c mm_Model_carried) 21 = .ok (.iload_n 2, 1) := by decide +kernel
theorem sq_Model_carried_21 : rn G mm_Model_carried 21 [a0, a1, some (.int x), a3, a4, a5] st S P ↔ rn G mm_Model_carried 22 [a0, a1, some (.int x), a3, a4, a5] (.int x :: st) S P := rn_s dq_Model_carried_21 rfl rfl rfl
theorem dq_Model_carried_22 : decode (km_c mm_Model_carried) 22 = .ok (.goto 10, 3) := by decide +kernel
theorem sq_Model_carried_22 : rn G mm_Model_carried 22 lv st S P ↔ rn G mm_Model_carried 32 lv st S P := rn_s dq_Model_carried_22 rfl rfl rfl
theorem dq_Model_carried_25 : decode (km_c mm_Model_carried) 25 = .ok (.aload_n 0, 1) := by decide +kernel
theorem sq_Model_carried_25 : rn G mm_Model_carried 25 [some (.ref z), a1, a2, a3, a4, a5] st S P ↔ rn G mm_Model_carried 26 [some (.ref z), a1, a2, a3, a4, a5] (.ref z :: st) S P := rn_s dq_Model_carried_25 rfl rfl rfl
theorem dq_Model_carried_26 : decode (km_c mm_Model_carried) 26 = .ok (.getfield 7, 3) := by decide +kernel
theorem sq_Model_carried_26_45 (ho : sx_o o pl kp) : rn (lt_G o L) mm_Model_carried 26 lv (.ref 45 :: st) (sx pl kp I A) P ↔ rn (lt_G o L) mm_Model_carried 29 lv (.ref 46 :: st) (sx pl kp I A) P := rx_get (h := "") (ci := 10) (k := 0) dq_Model_carried_26 (by decide +kernel) ho (up_b (by decide)) rfl rfl (fl_r (by decide) (by decide) (by decide) (by decide))
theorem dq_Model_carried_29 : decode (km_c mm_Model_carried) 29 = .ok (.iload 4, 2) := by decide +kernel
theorem sq_Model_carried_29 : rn G mm_Model_carried 29 [a0, a1, a2, a3, some (.int x), a5] st S P ↔ rn G mm_Model_carried 31 [a0, a1, a2, a3, some (.int x), a5] (.int x :: st) S P := rn_s dq_Model_carried_29 rfl rfl rfl
theorem dq_Model_carried_31 : decode (km_c mm_Model_carried) 31 = .ok (.iaload, 1) := by decide +kernel
theorem sq_Model_carried_31 (ho : sx_o o pl kp) (hk : ak L a = 0) (hu : sx_up pl kp a = true ∨ 1000 ≤ a) (hc : c < ln L a) (hn : ln L a < 2 ^ 31) : rn (lt_G o L) mm_Model_carried 31 lv (.int (nI c) :: .ref a :: st) (sx pl kp I A) P ↔ rn (lt_G o L) mm_Model_carried 32 lv (.int (A a c) :: st) (sx pl kp I A) P := rx_ild dq_Model_carried_31 ho hk hu hc hn
theorem dq_Model_carried_32 : decode (km_c mm_Model_carried) 32 = .ok (.iastore, 1) := by decide +kernel
theorem sq_Model_carried_32 (ho : sx_o o pl kp) (hk : ak L a = 0) (hu : sx_up pl kp a = true) (hc : c < ln L a) (hn : ln L a < 2 ^ 31) : rn (lt_G o L) mm_Model_carried 32 lv (.int x :: .int (nI c) :: .ref a :: st) (sx pl kp I A) P ↔ rn (lt_G o L) mm_Model_carried 33 lv st (sx pl kp I (u2 A a c x)) P := rx_ist dq_Model_carried_32 ho hk hu hc hn
theorem dq_Model_carried_33 : decode (km_c mm_Model_carried) 33 = .ok (.aload_n 0, 1) := by decide +kernel
theorem sq_Model_carried_33 : rn G mm_Model_carried 33 [some (.ref z), a1, a2, a3, a4, a5] st S P ↔ rn G mm_Model_carried 34 [some (.ref z), a1, a2, a3, a4, a5] (.ref z :: st) S P := rn_s dq_Model_carried_33 rfl rfl rfl
theorem dq_Model_carried_34 : decode (km_c mm_Model_carried) 34 = .ok (.getfield 7, 3) := by decide +kernel
theorem sq_Model_carried_34_45 (ho : sx_o o pl kp) : rn (lt_G o L) mm_Model_carried 34 lv (.ref 45 :: st) (sx pl kp I A) P ↔ rn (lt_G o L) mm_Model_carried 37 lv (.ref 46 :: st) (sx pl kp I A) P := rx_get (h := "") (ci := 10) (k := 0) dq_Model_carried_34 (by decide +kernel) ho (up_b (by decide)) rfl rfl (fl_r (by decide) (by decide) (by decide) (by decide))
theorem dq_Model_carried_37 : decode (km_c mm_Model_carried) 37 = .ok (.iload 4, 2) := by decide +kernel
theorem sq_Model_carried_37 : rn G mm_Model_carried 37 [a0, a1, a2, a3, some (.int x), a5] st S P ↔ rn G mm_Model_carried 39 [a0, a1, a2, a3, some (.int x), a5] (.int x :: st) S P := rn_s dq_Model_carried_37 rfl rfl rfl
theorem dq_Model_carried_39 : decode (km_c mm_Model_carried) 39 = .ok (.iaload, 1) := by decide +kernel
theorem sq_Model_carried_39 (ho : sx_o o pl kp) (hk : ak L a = 0) (hu : sx_up pl kp a = true ∨ 1000 ≤ a) (hc : c < ln L a) (hn : ln L a < 2 ^ 31) : rn (lt_G o L) mm_Model_carried 39 lv (.int (nI c) :: .ref a :: st) (sx pl kp I A) P ↔ rn (lt_G o L) mm_Model_carried 40 lv (.int (A a c) :: st) (sx pl kp I A) P := rx_ild dq_Model_carried_39 ho hk hu hc hn
theorem dq_Model_carried_40 : decode (km_c mm_Model_carried) 40 = .ok (.ireturn, 1) := by decide +kernel
theorem sq_Model_carried_40 : rn G mm_Model_carried 40 lv [.int x] S P ↔ P (some (.int x)) S := rn_ir dq_Model_carried_40 rfl
theorem dq_Model_carried_41 : decode (km_c mm_Model_carried) 41 = .ok (.iinc 4 (-245), 6) := by decide +kernel
theorem sq_Model_carried_41n : rn G mm_Model_carried 41 [a0, a1, a2, none, some (.int x), a5] st S P ↔ rn G mm_Model_carried 47 [a0, a1, a2, none, some (.int (x + (-245))), a5] st S P := rn_s dq_Model_carried_41 rfl rfl rfl
theorem sq_Model_carried_41i : rn G mm_Model_carried 41 [a0, a1, a2, some (.int x2), some (.int x), a5] st S P ↔ rn G mm_Model_carried 47 [a0, a1, a2, some (.int x2), some (.int (x + (-245))), a5] st S P := rn_s dq_Model_carried_41 rfl rfl rfl
theorem sq_Model_carried_41r : rn G mm_Model_carried 41 [a0, a1, a2, some (.ref z2), some (.int x), a5] st S P ↔ rn G mm_Model_carried 47 [a0, a1, a2, some (.ref z2), some (.int (x + (-245))), a5] st S P := rn_s dq_Model_carried_41 rfl rfl rfl
theorem dq_Model_carried_47 : decode (km_c mm_Model_carried) 47 = .ok (.iload 4, 2) := by decide +kernel
theorem sq_Model_carried_47 : rn G mm_Model_carried 47 [a0, a1, a2, a3, some (.int x), a5] st S P ↔ rn G mm_Model_carried 49 [a0, a1, a2, a3, some (.int x), a5] (.int x :: st) S P := rn_s dq_Model_carried_47 rfl rfl rfl
theorem dq_Model_carried_49 : decode (km_c mm_Model_carried) 49 = .ok (.bipush 12, 2) := by decide +kernel
theorem sq_Model_carried_49 : rn G mm_Model_carried 49 lv st S P ↔ rn G mm_Model_carried 51 lv (.int (nI 12) :: st) S P := rn_s dq_Model_carried_49 rfl rfl rfl
theorem dq_Model_carried_51 : decode (km_c mm_Model_carried) 51 = .ok (.if_icmp .ge 93, 3) := by decide +kernel
theorem sq_Model_carried_51 : rn G mm_Model_carried 51 lv (.int x2 :: .int x :: st) S P ↔ ((x2 ≤ x → rn G mm_Model_carried 144 lv st S P) ∧ (¬ (x2 ≤ x) → rn G mm_Model_carried 54 lv st S P)) := rn_b (off := 93) dq_Model_carried_51 rfl rfl rfl rfl
theorem dq_Model_carried_54 : decode (km_c mm_Model_carried) 54 = .ok (.iload 4, 2) := by decide +kernel
theorem sq_Model_carried_54 : rn G mm_Model_carried 54 [a0, a1, a2, a3, some (.int x), a5] st S P ↔ rn G mm_Model_carried 56 [a0, a1, a2, a3, some (.int x), a5] (.int x :: st) S P := rn_s dq_Model_carried_54 rfl rfl rfl
theorem dq_Model_carried_56 : decode (km_c mm_Model_carried) 56 = .ok (.bipush 6, 2) := by decide +kernel
theorem sq_Model_carried_56 : rn G mm_Model_carried 56 lv st S P ↔ rn G mm_Model_carried 58 lv (.int (nI 6) :: st) S P := rn_s dq_Model_carried_56 rfl rfl rfl
theorem dq_Model_carried_58 : decode (km_c mm_Model_carried) 58 = .ok (.irem, 1) := by decide +kernel
theorem sq_Model_carried_58 (hz : ¬ x2 = 0) : rn G mm_Model_carried 58 lv (.int x2 :: .int x :: st) S P ↔ rn G mm_Model_carried 59 lv (.int (x - x / x2 * x2) :: st) S P := rn_s dq_Model_carried_58 rfl rfl (if_neg hz)
theorem dq_Model_carried_59 : decode (km_c mm_Model_carried) 59 = .ok (.istore 5, 2) := by decide +kernel
theorem sq_Model_carried_59n : rn G mm_Model_carried 59 [a0, a1, a2, a3, none, a5] (.int x :: st) S P ↔ rn G mm_Model_carried 61 [a0, a1, a2, a3, none, some (.int x)] st S P := rn_s dq_Model_carried_59 rfl rfl rfl
theorem sq_Model_carried_59i : rn G mm_Model_carried 59 [a0, a1, a2, a3, some (.int x2), a5] (.int x :: st) S P ↔ rn G mm_Model_carried 61 [a0, a1, a2, a3, some (.int x2), some (.int x)] st S P := rn_s dq_Model_carried_59 rfl rfl rfl
theorem sq_Model_carried_59r : rn G mm_Model_carried 59 [a0, a1, a2, a3, some (.ref z2), a5] (.int x :: st) S P ↔ rn G mm_Model_carried 61 [a0, a1, a2, a3, some (.ref z2), some (.int x)] st S P := rn_s dq_Model_carried_59 rfl rfl rfl
theorem dq_Model_carried_61 : decode (km_c mm_Model_carried) 61 = .ok (.aload_n 0, 1) := by decide +kernel
theorem sq_Model_carried_61 : rn G mm_Model_carried 61 [some (.ref z), a1, a2, a3, a4, a5] st S P ↔ rn G mm_Model_carried 62 [some (.ref z), a1, a2, a3, a4, a5] (.ref z :: st) S P := rn_s dq_Model_carried_61 rfl rfl rfl
theorem dq_Model_carried_62 : decode (km_c mm_Model_carried) 62 = .ok (.getfield 13, 3) := by decide +kernel
theorem sq_Model_carried_62_45 (ho : sx_o o pl kp) : rn (lt_G o L) mm_Model_carried 62 lv (.ref 45 :: st) (sx pl kp I A) P ↔ rn (lt_G o L) mm_Model_carried 65 lv (.ref 47 :: st) (sx pl kp I A) P := rx_get (h := "") (ci := 10) (k := 2) dq_Model_carried_62 (by decide +kernel) ho (up_b (by decide)) rfl rfl (fl_r (by decide) (by decide) (by decide) (by decide))
theorem dq_Model_carried_65 : decode (km_c mm_Model_carried) 65 = .ok (.iload 5, 2) := by decide +kernel
theorem sq_Model_carried_65 : rn G mm_Model_carried 65 [a0, a1, a2, a3, a4, some (.int x)] st S P ↔ rn G mm_Model_carried 67 [a0, a1, a2, a3, a4, some (.int x)] (.int x :: st) S P := rn_s dq_Model_carried_65 rfl rfl rfl
theorem dq_Model_carried_67 : decode (km_c mm_Model_carried) 67 = .ok (.iload_n 3, 1) := by decide +kernel
theorem sq_Model_carried_67 : rn G mm_Model_carried 67 [a0, a1, a2, some (.int x), a4, a5] st S P ↔ rn G mm_Model_carried 68 [a0, a1, a2, some (.int x), a4, a5] (.int x :: st) S P := rn_s dq_Model_carried_67 rfl rfl rfl
theorem dq_Model_carried_68 : decode (km_c mm_Model_carried) 68 = .ok (.ifCond .eq 14, 3) := by decide +kernel
theorem sq_Model_carried_68 : rn G mm_Model_carried 68 lv (.int x :: st) S P ↔ ((x = 0 → rn G mm_Model_carried 82 lv st S P) ∧ (¬ (x = 0) → rn G mm_Model_carried 71 lv st S P)) := rn_b (off := 14) dq_Model_carried_68 rfl rfl rfl rfl
theorem dq_Model_carried_71 : decode (km_c mm_Model_carried) 71 = .ok (.iload 4, 2) := by decide +kernel
theorem sq_Model_carried_71 : rn G mm_Model_carried 71 [a0, a1, a2, a3, some (.int x), a5] st S P ↔ rn G mm_Model_carried 73 [a0, a1, a2, a3, some (.int x), a5] (.int x :: st) S P := rn_s dq_Model_carried_71 rfl rfl rfl
theorem dq_Model_carried_73 : decode (km_c mm_Model_carried) 73 = .ok (.bipush 6, 2) := by decide +kernel
theorem sq_Model_carried_73 : rn G mm_Model_carried 73 lv st S P ↔ rn G mm_Model_carried 75 lv (.int (nI 6) :: st) S P := rn_s dq_Model_carried_73 rfl rfl rfl
theorem dq_Model_carried_75 : decode (km_c mm_Model_carried) 75 = .ok (.if_icmp .ge 7, 3) := by decide +kernel
theorem sq_Model_carried_75 : rn G mm_Model_carried 75 lv (.int x2 :: .int x :: st) S P ↔ ((x2 ≤ x → rn G mm_Model_carried 82 lv st S P) ∧ (¬ (x2 ≤ x) → rn G mm_Model_carried 78 lv st S P)) := rn_b (off := 7) dq_Model_carried_75 rfl rfl rfl rfl
theorem dq_Model_carried_78 : decode (km_c mm_Model_carried) 78 = .ok (.iload_n 2, 1) := by decide +kernel
theorem sq_Model_carried_78 : rn G mm_Model_carried 78 [a0, a1, some (.int x), a3, a4, a5] st S P ↔ rn G mm_Model_carried 79 [a0, a1, some (.int x), a3, a4, a5] (.int x :: st) S P := rn_s dq_Model_carried_78 rfl rfl rfl
theorem dq_Model_carried_79 : decode (km_c mm_Model_carried) 79 = .ok (.goto 10, 3) := by decide +kernel
theorem sq_Model_carried_79 : rn G mm_Model_carried 79 lv st S P ↔ rn G mm_Model_carried 89 lv st S P := rn_s dq_Model_carried_79 rfl rfl rfl
theorem dq_Model_carried_82 : decode (km_c mm_Model_carried) 82 = .ok (.aload_n 0, 1) := by decide +kernel
theorem sq_Model_carried_82 : rn G mm_Model_carried 82 [some (.ref z), a1, a2, a3, a4, a5] st S P ↔ rn G mm_Model_carried 83 [some (.ref z), a1, a2, a3, a4, a5] (.ref z :: st) S P := rn_s dq_Model_carried_82 rfl rfl rfl
theorem dq_Model_carried_83 : decode (km_c mm_Model_carried) 83 = .ok (.getfield 13, 3) := by decide +kernel
theorem sq_Model_carried_83_45 (ho : sx_o o pl kp) : rn (lt_G o L) mm_Model_carried 83 lv (.ref 45 :: st) (sx pl kp I A) P ↔ rn (lt_G o L) mm_Model_carried 86 lv (.ref 47 :: st) (sx pl kp I A) P := rx_get (h := "") (ci := 10) (k := 2) dq_Model_carried_83 (by decide +kernel) ho (up_b (by decide)) rfl rfl (fl_r (by decide) (by decide) (by decide) (by decide))
theorem dq_Model_carried_86 : decode (km_c mm_Model_carried) 86 = .ok (.iload 5, 2) := by decide +kernel
theorem sq_Model_carried_86 : rn G mm_Model_carried 86 [a0, a1, a2, a3, a4, some (.int x)] st S P ↔ rn G mm_Model_carried 88 [a0, a1, a2, a3, a4, some (.int x)] (.int x :: st) S P := rn_s dq_Model_carried_86 rfl rfl rfl
theorem dq_Model_carried_88 : decode (km_c mm_Model_carried) 88 = .ok (.iaload, 1) := by decide +kernel
theorem sq_Model_carried_88 (ho : sx_o o pl kp) (hk : ak L a = 0) (hu : sx_up pl kp a = true ∨ 1000 ≤ a) (hc : c < ln L a) (hn : ln L a < 2 ^ 31) : rn (lt_G o L) mm_Model_carried 88 lv (.int (nI c) :: .ref a :: st) (sx pl kp I A) P ↔ rn (lt_G o L) mm_Model_carried 89 lv (.int (A a c) :: st) (sx pl kp I A) P := rx_ild dq_Model_carried_88 ho hk hu hc hn
theorem dq_Model_carried_89 : decode (km_c mm_Model_carried) 89 = .ok (.iastore, 1) := by decide +kernel
theorem sq_Model_carried_89 (ho : sx_o o pl kp) (hk : ak L a = 0) (hu : sx_up pl kp a = true) (hc : c < ln L a) (hn : ln L a < 2 ^ 31) : rn (lt_G o L) mm_Model_carried 89 lv (.int x :: .int (nI c) :: .ref a :: st) (sx pl kp I A) P ↔ rn (lt_G o L) mm_Model_carried 90 lv st (sx pl kp I (u2 A a c x)) P := rx_ist dq_Model_carried_89 ho hk hu hc hn
theorem dq_Model_carried_90 : decode (km_c mm_Model_carried) 90 = .ok (.aload_n 0, 1) := by decide +kernel
theorem sq_Model_carried_90 : rn G mm_Model_carried 90 [some (.ref z), a1, a2, a3, a4, a5] st S P ↔ rn G mm_Model_carried 91 [some (.ref z), a1, a2, a3, a4, a5] (.ref z :: st) S P := rn_s dq_Model_carried_90 rfl rfl rfl
theorem dq_Model_carried_91 : decode (km_c mm_Model_carried) 91 = .ok (.getfield 16, 3) := by decide +kernel
theorem sq_Model_carried_91_45 (ho : sx_o o pl kp) : rn (lt_G o L) mm_Model_carried 91 lv (.ref 45 :: st) (sx pl kp I A) P ↔ rn (lt_G o L) mm_Model_carried 94 lv (.ref 48 :: st) (sx pl kp I A) P := rx_get (h := "") (ci := 10) (k := 3) dq_Model_carried_91 (by decide +kernel) ho (up_b (by decide)) rfl rfl (fl_r (by decide) (by decide) (by decide) (by decide))
theorem dq_Model_carried_94 : decode (km_c mm_Model_carried) 94 = .ok (.iload 5, 2) := by decide +kernel
theorem sq_Model_carried_94 : rn G mm_Model_carried 94 [a0, a1, a2, a3, a4, some (.int x)] st S P ↔ rn G mm_Model_carried 96 [a0, a1, a2, a3, a4, some (.int x)] (.int x :: st) S P := rn_s dq_Model_carried_94 rfl rfl rfl
theorem dq_Model_carried_96 : decode (km_c mm_Model_carried) 96 = .ok (.iload_n 3, 1) := by decide +kernel
theorem sq_Model_carried_96 : rn G mm_Model_carried 96 [a0, a1, a2, some (.int x), a4, a5] st S P ↔ rn G mm_Model_carried 97 [a0, a1, a2, some (.int x), a4, a5] (.int x :: st) S P := rn_s dq_Model_carried_96 rfl rfl rfl
theorem dq_Model_carried_97 : decode (km_c mm_Model_carried) 97 = .ok (.ifCond .eq 14, 3) := by decide +kernel
theorem sq_Model_carried_97 : rn G mm_Model_carried 97 lv (.int x :: st) S P ↔ ((x = 0 → rn G mm_Model_carried 111 lv st S P) ∧ (¬ (x = 0) → rn G mm_Model_carried 100 lv st S P)) := rn_b (off := 14) dq_Model_carried_97 rfl rfl rfl rfl
theorem dq_Model_carried_100 : decode (km_c mm_Model_carried) 100 = .ok (.iload 4, 2) := by decide +kernel
theorem sq_Model_carried_100 : rn G mm_Model_carried 100 [a0, a1, a2, a3, some (.int x), a5] st S P ↔ rn G mm_Model_carried 102 [a0, a1, a2, a3, some (.int x), a5] (.int x :: st) S P := rn_s dq_Model_carried_100 rfl rfl rfl
theorem dq_Model_carried_102 : decode (km_c mm_Model_carried) 102 = .ok (.bipush 6, 2) := by decide +kernel
theorem sq_Model_carried_102 : rn G mm_Model_carried 102 lv st S P ↔ rn G mm_Model_carried 104 lv (.int (nI 6) :: st) S P := rn_s dq_Model_carried_102 rfl rfl rfl
theorem dq_Model_carried_104 : decode (km_c mm_Model_carried) 104 = .ok (.if_icmp .lt 7, 3) := by decide +kernel
theorem sq_Model_carried_104 : rn G mm_Model_carried 104 lv (.int x2 :: .int x :: st) S P ↔ ((x < x2 → rn G mm_Model_carried 111 lv st S P) ∧ (¬ (x < x2) → rn G mm_Model_carried 107 lv st S P)) := rn_b (off := 7) dq_Model_carried_104 rfl rfl rfl rfl
theorem dq_Model_carried_107 : decode (km_c mm_Model_carried) 107 = .ok (.iload_n 2, 1) := by decide +kernel
theorem sq_Model_carried_107 : rn G mm_Model_carried 107 [a0, a1, some (.int x), a3, a4, a5] st S P ↔ rn G mm_Model_carried 108 [a0, a1, some (.int x), a3, a4, a5] (.int x :: st) S P := rn_s dq_Model_carried_107 rfl rfl rfl
theorem dq_Model_carried_108 : decode (km_c mm_Model_carried) 108 = .ok (.goto 10, 3) := by decide +kernel
theorem sq_Model_carried_108 : rn G mm_Model_carried 108 lv st S P ↔ rn G mm_Model_carried 118 lv st S P := rn_s dq_Model_carried_108 rfl rfl rfl
theorem dq_Model_carried_111 : decode (km_c mm_Model_carried) 111 = .ok (.aload_n 0, 1) := by decide +kernel
theorem sq_Model_carried_111 : rn G mm_Model_carried 111 [some (.ref z), a1, a2, a3, a4, a5] st S P ↔ rn G mm_Model_carried 112 [some (.ref z), a1, a2, a3, a4, a5] (.ref z :: st) S P := rn_s dq_Model_carried_111 rfl rfl rfl
theorem dq_Model_carried_112 : decode (km_c mm_Model_carried) 112 = .ok (.getfield 16, 3) := by decide +kernel
theorem sq_Model_carried_112_45 (ho : sx_o o pl kp) : rn (lt_G o L) mm_Model_carried 112 lv (.ref 45 :: st) (sx pl kp I A) P ↔ rn (lt_G o L) mm_Model_carried 115 lv (.ref 48 :: st) (sx pl kp I A) P := rx_get (h := "") (ci := 10) (k := 3) dq_Model_carried_112 (by decide +kernel) ho (up_b (by decide)) rfl rfl (fl_r (by decide) (by decide) (by decide) (by decide))
theorem dq_Model_carried_115 : decode (km_c mm_Model_carried) 115 = .ok (.iload 5, 2) := by decide +kernel
theorem sq_Model_carried_115 : rn G mm_Model_carried 115 [a0, a1, a2, a3, a4, some (.int x)] st S P ↔ rn G mm_Model_carried 117 [a0, a1, a2, a3, a4, some (.int x)] (.int x :: st) S P := rn_s dq_Model_carried_115 rfl rfl rfl
theorem dq_Model_carried_117 : decode (km_c mm_Model_carried) 117 = .ok (.iaload, 1) := by decide +kernel
theorem sq_Model_carried_117 (ho : sx_o o pl kp) (hk : ak L a = 0) (hu : sx_up pl kp a = true ∨ 1000 ≤ a) (hc : c < ln L a) (hn : ln L a < 2 ^ 31) : rn (lt_G o L) mm_Model_carried 117 lv (.int (nI c) :: .ref a :: st) (sx pl kp I A) P ↔ rn (lt_G o L) mm_Model_carried 118 lv (.int (A a c) :: st) (sx pl kp I A) P := rx_ild dq_Model_carried_117 ho hk hu hc hn
theorem dq_Model_carried_118 : decode (km_c mm_Model_carried) 118 = .ok (.iastore, 1) := by decide +kernel
theorem sq_Model_carried_118 (ho : sx_o o pl kp) (hk : ak L a = 0) (hu : sx_up pl kp a = true) (hc : c < ln L a) (hn : ln L a < 2 ^ 31) : rn (lt_G o L) mm_Model_carried 118 lv (.int x :: .int (nI c) :: .ref a :: st) (sx pl kp I A) P ↔ rn (lt_G o L) mm_Model_carried 119 lv st (sx pl kp I (u2 A a c x)) P := rx_ist dq_Model_carried_118 ho hk hu hc hn
theorem dq_Model_carried_119 : decode (km_c mm_Model_carried) 119 = .ok (.iload 4, 2) := by decide +kernel
theorem sq_Model_carried_119 : rn G mm_Model_carried 119 [a0, a1, a2, a3, some (.int x), a5] st S P ↔ rn G mm_Model_carried 121 [a0, a1, a2, a3, some (.int x), a5] (.int x :: st) S P := rn_s dq_Model_carried_119 rfl rfl rfl
theorem dq_Model_carried_121 : decode (km_c mm_Model_carried) 121 = .ok (.bipush 6, 2) := by decide +kernel
theorem sq_Model_carried_121 : rn G mm_Model_carried 121 lv st S P ↔ rn G mm_Model_carried 123 lv (.int (nI 6) :: st) S P := rn_s dq_Model_carried_121 rfl rfl rfl
theorem dq_Model_carried_123 : decode (km_c mm_Model_carried) 123 = .ok (.if_icmp .ge 13, 3) := by decide +kernel
theorem sq_Model_carried_123 : rn G mm_Model_carried 123 lv (.int x2 :: .int x :: st) S P ↔ ((x2 ≤ x → rn G mm_Model_carried 136 lv st S P) ∧ (¬ (x2 ≤ x) → rn G mm_Model_carried 126 lv st S P)) := rn_b (off := 13) dq_Model_carried_123 rfl rfl rfl rfl
theorem dq_Model_carried_126 : decode (km_c mm_Model_carried) 126 = .ok (.aload_n 0, 1) := by decide +kernel
theorem sq_Model_carried_126 : rn G mm_Model_carried 126 [some (.ref z), a1, a2, a3, a4, a5] st S P ↔ rn G mm_Model_carried 127 [some (.ref z), a1, a2, a3, a4, a5] (.ref z :: st) S P := rn_s dq_Model_carried_126 rfl rfl rfl
theorem dq_Model_carried_127 : decode (km_c mm_Model_carried) 127 = .ok (.getfield 13, 3) := by decide +kernel
theorem sq_Model_carried_127_45 (ho : sx_o o pl kp) : rn (lt_G o L) mm_Model_carried 127 lv (.ref 45 :: st) (sx pl kp I A) P ↔ rn (lt_G o L) mm_Model_carried 130 lv (.ref 47 :: st) (sx pl kp I A) P := rx_get (h := "") (ci := 10) (k := 2) dq_Model_carried_127 (by decide +kernel) ho (up_b (by decide)) rfl rfl (fl_r (by decide) (by decide) (by decide) (by decide))
theorem dq_Model_carried_130 : decode (km_c mm_Model_carried) 130 = .ok (.iload 5, 2) := by decide +kernel
theorem sq_Model_carried_130 : rn G mm_Model_carried 130 [a0, a1, a2, a3, a4, some (.int x)] st S P ↔ rn G mm_Model_carried 132 [a0, a1, a2, a3, a4, some (.int x)] (.int x :: st) S P := rn_s dq_Model_carried_130 rfl rfl rfl
theorem dq_Model_carried_132 : decode (km_c mm_Model_carried) 132 = .ok (.iaload, 1) := by decide +kernel
theorem sq_Model_carried_132 (ho : sx_o o pl kp) (hk : ak L a = 0) (hu : sx_up pl kp a = true ∨ 1000 ≤ a) (hc : c < ln L a) (hn : ln L a < 2 ^ 31) : rn (lt_G o L) mm_Model_carried 132 lv (.int (nI c) :: .ref a :: st) (sx pl kp I A) P ↔ rn (lt_G o L) mm_Model_carried 133 lv (.int (A a c) :: st) (sx pl kp I A) P := rx_ild dq_Model_carried_132 ho hk hu hc hn
theorem dq_Model_carried_133 : decode (km_c mm_Model_carried) 133 = .ok (.goto 10, 3) := by decide +kernel
theorem sq_Model_carried_133 : rn G mm_Model_carried 133 lv st S P ↔ rn G mm_Model_carried 143 lv st S P := rn_s dq_Model_carried_133 rfl rfl rfl
theorem dq_Model_carried_136 : decode (km_c mm_Model_carried) 136 = .ok (.aload_n 0, 1) := by decide +kernel
theorem sq_Model_carried_136 : rn G mm_Model_carried 136 [some (.ref z), a1, a2, a3, a4, a5] st S P ↔ rn G mm_Model_carried 137 [some (.ref z), a1, a2, a3, a4, a5] (.ref z :: st) S P := rn_s dq_Model_carried_136 rfl rfl rfl
theorem dq_Model_carried_137 : decode (km_c mm_Model_carried) 137 = .ok (.getfield 16, 3) := by decide +kernel
theorem sq_Model_carried_137_45 (ho : sx_o o pl kp) : rn (lt_G o L) mm_Model_carried 137 lv (.ref 45 :: st) (sx pl kp I A) P ↔ rn (lt_G o L) mm_Model_carried 140 lv (.ref 48 :: st) (sx pl kp I A) P := rx_get (h := "") (ci := 10) (k := 3) dq_Model_carried_137 (by decide +kernel) ho (up_b (by decide)) rfl rfl (fl_r (by decide) (by decide) (by decide) (by decide))
theorem dq_Model_carried_140 : decode (km_c mm_Model_carried) 140 = .ok (.iload 5, 2) := by decide +kernel
theorem sq_Model_carried_140 : rn G mm_Model_carried 140 [a0, a1, a2, a3, a4, some (.int x)] st S P ↔ rn G mm_Model_carried 142 [a0, a1, a2, a3, a4, some (.int x)] (.int x :: st) S P := rn_s dq_Model_carried_140 rfl rfl rfl
theorem dq_Model_carried_142 : decode (km_c mm_Model_carried) 142 = .ok (.iaload, 1) := by decide +kernel
theorem sq_Model_carried_142 (ho : sx_o o pl kp) (hk : ak L a = 0) (hu : sx_up pl kp a = true ∨ 1000 ≤ a) (hc : c < ln L a) (hn : ln L a < 2 ^ 31) : rn (lt_G o L) mm_Model_carried 142 lv (.int (nI c) :: .ref a :: st) (sx pl kp I A) P ↔ rn (lt_G o L) mm_Model_carried 143 lv (.int (A a c) :: st) (sx pl kp I A) P := rx_ild dq_Model_carried_142 ho hk hu hc hn
theorem dq_Model_carried_143 : decode (km_c mm_Model_carried) 143 = .ok (.ireturn, 1) := by decide +kernel
theorem sq_Model_carried_143 : rn G mm_Model_carried 143 lv [.int x] S P ↔ P (some (.int x)) S := rn_ir dq_Model_carried_143 rfl
theorem dq_Model_carried_144 : decode (km_c mm_Model_carried) 144 = .ok (.iinc 4 (-12), 3) := by decide +kernel
theorem sq_Model_carried_144n : rn G mm_Model_carried 144 [a0, a1, a2, none, some (.int x), a5] st S P ↔ rn G mm_Model_carried 147 [a0, a1, a2, none, some (.int (x + (-12))), a5] st S P := rn_s dq_Model_carried_144 rfl rfl rfl
theorem sq_Model_carried_144i : rn G mm_Model_carried 144 [a0, a1, a2, some (.int x2), some (.int x), a5] st S P ↔ rn G mm_Model_carried 147 [a0, a1, a2, some (.int x2), some (.int (x + (-12))), a5] st S P := rn_s dq_Model_carried_144 rfl rfl rfl
theorem sq_Model_carried_144r : rn G mm_Model_carried 144 [a0, a1, a2, some (.ref z2), some (.int x), a5] st S P ↔ rn G mm_Model_carried 147 [a0, a1, a2, some (.ref z2), some (.int (x + (-12))), a5] st S P := rn_s dq_Model_carried_144 rfl rfl rfl
theorem dq_Model_carried_147 : decode (km_c mm_Model_carried) 147 = .ok (.iload 4, 2) := by decide +kernel
theorem sq_Model_carried_147 : rn G mm_Model_carried 147 [a0, a1, a2, a3, some (.int x), a5] st S P ↔ rn G mm_Model_carried 149 [a0, a1, a2, a3, some (.int x), a5] (.int x :: st) S P := rn_s dq_Model_carried_147 rfl rfl rfl
theorem dq_Model_carried_149 : decode (km_c mm_Model_carried) 149 = .ok (.bipush 60, 2) := by decide +kernel
theorem sq_Model_carried_149 : rn G mm_Model_carried 149 lv st S P ↔ rn G mm_Model_carried 151 lv (.int (nI 60) :: st) S P := rn_s dq_Model_carried_149 rfl rfl rfl
theorem dq_Model_carried_151 : decode (km_c mm_Model_carried) 151 = .ok (.if_icmp .ge 33, 3) := by decide +kernel
theorem sq_Model_carried_151 : rn G mm_Model_carried 151 lv (.int x2 :: .int x :: st) S P ↔ ((x2 ≤ x → rn G mm_Model_carried 184 lv st S P) ∧ (¬ (x2 ≤ x) → rn G mm_Model_carried 154 lv st S P)) := rn_b (off := 33) dq_Model_carried_151 rfl rfl rfl rfl
theorem dq_Model_carried_154 : decode (km_c mm_Model_carried) 154 = .ok (.aload_n 0, 1) := by decide +kernel
theorem sq_Model_carried_154 : rn G mm_Model_carried 154 [some (.ref z), a1, a2, a3, a4, a5] st S P ↔ rn G mm_Model_carried 155 [some (.ref z), a1, a2, a3, a4, a5] (.ref z :: st) S P := rn_s dq_Model_carried_154 rfl rfl rfl
theorem dq_Model_carried_155 : decode (km_c mm_Model_carried) 155 = .ok (.getfield 23, 3) := by decide +kernel
theorem sq_Model_carried_155_45 (ho : sx_o o pl kp) : rn (lt_G o L) mm_Model_carried 155 lv (.ref 45 :: st) (sx pl kp I A) P ↔ rn (lt_G o L) mm_Model_carried 158 lv (.ref 49 :: st) (sx pl kp I A) P := rx_get (h := "") (ci := 10) (k := 7) dq_Model_carried_155 (by decide +kernel) ho (up_b (by decide)) rfl rfl (fl_r (by decide) (by decide) (by decide) (by decide))
theorem dq_Model_carried_158 : decode (km_c mm_Model_carried) 158 = .ok (.iload 4, 2) := by decide +kernel
theorem sq_Model_carried_158 : rn G mm_Model_carried 158 [a0, a1, a2, a3, some (.int x), a5] st S P ↔ rn G mm_Model_carried 160 [a0, a1, a2, a3, some (.int x), a5] (.int x :: st) S P := rn_s dq_Model_carried_158 rfl rfl rfl
theorem dq_Model_carried_160 : decode (km_c mm_Model_carried) 160 = .ok (.iload_n 3, 1) := by decide +kernel
theorem sq_Model_carried_160 : rn G mm_Model_carried 160 [a0, a1, a2, some (.int x), a4, a5] st S P ↔ rn G mm_Model_carried 161 [a0, a1, a2, some (.int x), a4, a5] (.int x :: st) S P := rn_s dq_Model_carried_160 rfl rfl rfl
theorem dq_Model_carried_161 : decode (km_c mm_Model_carried) 161 = .ok (.ifCond .eq 7, 3) := by decide +kernel
theorem sq_Model_carried_161 : rn G mm_Model_carried 161 lv (.int x :: st) S P ↔ ((x = 0 → rn G mm_Model_carried 168 lv st S P) ∧ (¬ (x = 0) → rn G mm_Model_carried 164 lv st S P)) := rn_b (off := 7) dq_Model_carried_161 rfl rfl rfl rfl
theorem dq_Model_carried_164 : decode (km_c mm_Model_carried) 164 = .ok (.iload_n 2, 1) := by decide +kernel
theorem sq_Model_carried_164 : rn G mm_Model_carried 164 [a0, a1, some (.int x), a3, a4, a5] st S P ↔ rn G mm_Model_carried 165 [a0, a1, some (.int x), a3, a4, a5] (.int x :: st) S P := rn_s dq_Model_carried_164 rfl rfl rfl
theorem dq_Model_carried_165 : decode (km_c mm_Model_carried) 165 = .ok (.goto 10, 3) := by decide +kernel
theorem sq_Model_carried_165 : rn G mm_Model_carried 165 lv st S P ↔ rn G mm_Model_carried 175 lv st S P := rn_s dq_Model_carried_165 rfl rfl rfl
theorem dq_Model_carried_168 : decode (km_c mm_Model_carried) 168 = .ok (.aload_n 0, 1) := by decide +kernel
theorem sq_Model_carried_168 : rn G mm_Model_carried 168 [some (.ref z), a1, a2, a3, a4, a5] st S P ↔ rn G mm_Model_carried 169 [some (.ref z), a1, a2, a3, a4, a5] (.ref z :: st) S P := rn_s dq_Model_carried_168 rfl rfl rfl
theorem dq_Model_carried_169 : decode (km_c mm_Model_carried) 169 = .ok (.getfield 23, 3) := by decide +kernel
theorem sq_Model_carried_169_45 (ho : sx_o o pl kp) : rn (lt_G o L) mm_Model_carried 169 lv (.ref 45 :: st) (sx pl kp I A) P ↔ rn (lt_G o L) mm_Model_carried 172 lv (.ref 49 :: st) (sx pl kp I A) P := rx_get (h := "") (ci := 10) (k := 7) dq_Model_carried_169 (by decide +kernel) ho (up_b (by decide)) rfl rfl (fl_r (by decide) (by decide) (by decide) (by decide))
theorem dq_Model_carried_172 : decode (km_c mm_Model_carried) 172 = .ok (.iload 4, 2) := by decide +kernel
theorem sq_Model_carried_172 : rn G mm_Model_carried 172 [a0, a1, a2, a3, some (.int x), a5] st S P ↔ rn G mm_Model_carried 174 [a0, a1, a2, a3, some (.int x), a5] (.int x :: st) S P := rn_s dq_Model_carried_172 rfl rfl rfl
theorem dq_Model_carried_174 : decode (km_c mm_Model_carried) 174 = .ok (.iaload, 1) := by decide +kernel
theorem sq_Model_carried_174 (ho : sx_o o pl kp) (hk : ak L a = 0) (hu : sx_up pl kp a = true ∨ 1000 ≤ a) (hc : c < ln L a) (hn : ln L a < 2 ^ 31) : rn (lt_G o L) mm_Model_carried 174 lv (.int (nI c) :: .ref a :: st) (sx pl kp I A) P ↔ rn (lt_G o L) mm_Model_carried 175 lv (.int (A a c) :: st) (sx pl kp I A) P := rx_ild dq_Model_carried_174 ho hk hu hc hn
theorem dq_Model_carried_175 : decode (km_c mm_Model_carried) 175 = .ok (.iastore, 1) := by decide +kernel
theorem sq_Model_carried_175 (ho : sx_o o pl kp) (hk : ak L a = 0) (hu : sx_up pl kp a = true) (hc : c < ln L a) (hn : ln L a < 2 ^ 31) : rn (lt_G o L) mm_Model_carried 175 lv (.int x :: .int (nI c) :: .ref a :: st) (sx pl kp I A) P ↔ rn (lt_G o L) mm_Model_carried 176 lv st (sx pl kp I (u2 A a c x)) P := rx_ist dq_Model_carried_175 ho hk hu hc hn
theorem dq_Model_carried_176 : decode (km_c mm_Model_carried) 176 = .ok (.aload_n 0, 1) := by decide +kernel
theorem sq_Model_carried_176 : rn G mm_Model_carried 176 [some (.ref z), a1, a2, a3, a4, a5] st S P ↔ rn G mm_Model_carried 177 [some (.ref z), a1, a2, a3, a4, a5] (.ref z :: st) S P := rn_s dq_Model_carried_176 rfl rfl rfl
theorem dq_Model_carried_177 : decode (km_c mm_Model_carried) 177 = .ok (.getfield 23, 3) := by decide +kernel
theorem sq_Model_carried_177_45 (ho : sx_o o pl kp) : rn (lt_G o L) mm_Model_carried 177 lv (.ref 45 :: st) (sx pl kp I A) P ↔ rn (lt_G o L) mm_Model_carried 180 lv (.ref 49 :: st) (sx pl kp I A) P := rx_get (h := "") (ci := 10) (k := 7) dq_Model_carried_177 (by decide +kernel) ho (up_b (by decide)) rfl rfl (fl_r (by decide) (by decide) (by decide) (by decide))
theorem dq_Model_carried_180 : decode (km_c mm_Model_carried) 180 = .ok (.iload 4, 2) := by decide +kernel
theorem sq_Model_carried_180 : rn G mm_Model_carried 180 [a0, a1, a2, a3, some (.int x), a5] st S P ↔ rn G mm_Model_carried 182 [a0, a1, a2, a3, some (.int x), a5] (.int x :: st) S P := rn_s dq_Model_carried_180 rfl rfl rfl
theorem dq_Model_carried_182 : decode (km_c mm_Model_carried) 182 = .ok (.iaload, 1) := by decide +kernel
theorem sq_Model_carried_182 (ho : sx_o o pl kp) (hk : ak L a = 0) (hu : sx_up pl kp a = true ∨ 1000 ≤ a) (hc : c < ln L a) (hn : ln L a < 2 ^ 31) : rn (lt_G o L) mm_Model_carried 182 lv (.int (nI c) :: .ref a :: st) (sx pl kp I A) P ↔ rn (lt_G o L) mm_Model_carried 183 lv (.int (A a c) :: st) (sx pl kp I A) P := rx_ild dq_Model_carried_182 ho hk hu hc hn
theorem dq_Model_carried_183 : decode (km_c mm_Model_carried) 183 = .ok (.ireturn, 1) := by decide +kernel
theorem sq_Model_carried_183 : rn G mm_Model_carried 183 lv [.int x] S P ↔ P (some (.int x)) S := rn_ir dq_Model_carried_183 rfl
theorem dq_Model_carried_184 : decode (km_c mm_Model_carried) 184 = .ok (.iinc 4 (-60), 3) := by decide +kernel
theorem sq_Model_carried_184n : rn G mm_Model_carried 184 [a0, a1, a2, none, some (.int x), a5] st S P ↔ rn G mm_Model_carried 187 [a0, a1, a2, none, some (.int (x + (-60))), a5] st S P := rn_s dq_Model_carried_184 rfl rfl rfl
theorem sq_Model_carried_184i : rn G mm_Model_carried 184 [a0, a1, a2, some (.int x2), some (.int x), a5] st S P ↔ rn G mm_Model_carried 187 [a0, a1, a2, some (.int x2), some (.int (x + (-60))), a5] st S P := rn_s dq_Model_carried_184 rfl rfl rfl
theorem sq_Model_carried_184r : rn G mm_Model_carried 184 [a0, a1, a2, some (.ref z2), some (.int x), a5] st S P ↔ rn G mm_Model_carried 187 [a0, a1, a2, some (.ref z2), some (.int (x + (-60))), a5] st S P := rn_s dq_Model_carried_184 rfl rfl rfl
theorem dq_Model_carried_187 : decode (km_c mm_Model_carried) 187 = .ok (.aload_n 0, 1) := by decide +kernel
theorem sq_Model_carried_187 : rn G mm_Model_carried 187 [some (.ref z), a1, a2, a3, a4, a5] st S P ↔ rn G mm_Model_carried 188 [some (.ref z), a1, a2, a3, a4, a5] (.ref z :: st) S P := rn_s dq_Model_carried_187 rfl rfl rfl
theorem dq_Model_carried_188 : decode (km_c mm_Model_carried) 188 = .ok (.getfield 26, 3) := by decide +kernel
theorem sq_Model_carried_188_45 (ho : sx_o o pl kp) : rn (lt_G o L) mm_Model_carried 188 lv (.ref 45 :: st) (sx pl kp I A) P ↔ rn (lt_G o L) mm_Model_carried 191 lv (.ref 50 :: st) (sx pl kp I A) P := rx_get (h := "") (ci := 10) (k := 9) dq_Model_carried_188 (by decide +kernel) ho (up_b (by decide)) rfl rfl (fl_r (by decide) (by decide) (by decide) (by decide))
theorem dq_Model_carried_191 : decode (km_c mm_Model_carried) 191 = .ok (.iload 4, 2) := by decide +kernel
theorem sq_Model_carried_191 : rn G mm_Model_carried 191 [a0, a1, a2, a3, some (.int x), a5] st S P ↔ rn G mm_Model_carried 193 [a0, a1, a2, a3, some (.int x), a5] (.int x :: st) S P := rn_s dq_Model_carried_191 rfl rfl rfl
theorem dq_Model_carried_193 : decode (km_c mm_Model_carried) 193 = .ok (.iload_n 3, 1) := by decide +kernel
theorem sq_Model_carried_193 : rn G mm_Model_carried 193 [a0, a1, a2, some (.int x), a4, a5] st S P ↔ rn G mm_Model_carried 194 [a0, a1, a2, some (.int x), a4, a5] (.int x :: st) S P := rn_s dq_Model_carried_193 rfl rfl rfl
theorem dq_Model_carried_194 : decode (km_c mm_Model_carried) 194 = .ok (.ifCond .eq 7, 3) := by decide +kernel
theorem sq_Model_carried_194 : rn G mm_Model_carried 194 lv (.int x :: st) S P ↔ ((x = 0 → rn G mm_Model_carried 201 lv st S P) ∧ (¬ (x = 0) → rn G mm_Model_carried 197 lv st S P)) := rn_b (off := 7) dq_Model_carried_194 rfl rfl rfl rfl
theorem dq_Model_carried_197 : decode (km_c mm_Model_carried) 197 = .ok (.iload_n 2, 1) := by decide +kernel
theorem sq_Model_carried_197 : rn G mm_Model_carried 197 [a0, a1, some (.int x), a3, a4, a5] st S P ↔ rn G mm_Model_carried 198 [a0, a1, some (.int x), a3, a4, a5] (.int x :: st) S P := rn_s dq_Model_carried_197 rfl rfl rfl
theorem dq_Model_carried_198 : decode (km_c mm_Model_carried) 198 = .ok (.goto 10, 3) := by decide +kernel
theorem sq_Model_carried_198 : rn G mm_Model_carried 198 lv st S P ↔ rn G mm_Model_carried 208 lv st S P := rn_s dq_Model_carried_198 rfl rfl rfl
theorem dq_Model_carried_201 : decode (km_c mm_Model_carried) 201 = .ok (.aload_n 0, 1) := by decide +kernel
theorem sq_Model_carried_201 : rn G mm_Model_carried 201 [some (.ref z), a1, a2, a3, a4, a5] st S P ↔ rn G mm_Model_carried 202 [some (.ref z), a1, a2, a3, a4, a5] (.ref z :: st) S P := rn_s dq_Model_carried_201 rfl rfl rfl
theorem dq_Model_carried_202 : decode (km_c mm_Model_carried) 202 = .ok (.getfield 26, 3) := by decide +kernel
theorem sq_Model_carried_202_45 (ho : sx_o o pl kp) : rn (lt_G o L) mm_Model_carried 202 lv (.ref 45 :: st) (sx pl kp I A) P ↔ rn (lt_G o L) mm_Model_carried 205 lv (.ref 50 :: st) (sx pl kp I A) P := rx_get (h := "") (ci := 10) (k := 9) dq_Model_carried_202 (by decide +kernel) ho (up_b (by decide)) rfl rfl (fl_r (by decide) (by decide) (by decide) (by decide))
theorem dq_Model_carried_205 : decode (km_c mm_Model_carried) 205 = .ok (.iload 4, 2) := by decide +kernel
theorem sq_Model_carried_205 : rn G mm_Model_carried 205 [a0, a1, a2, a3, some (.int x), a5] st S P ↔ rn G mm_Model_carried 207 [a0, a1, a2, a3, some (.int x), a5] (.int x :: st) S P := rn_s dq_Model_carried_205 rfl rfl rfl
theorem dq_Model_carried_207 : decode (km_c mm_Model_carried) 207 = .ok (.iaload, 1) := by decide +kernel
theorem sq_Model_carried_207 (ho : sx_o o pl kp) (hk : ak L a = 0) (hu : sx_up pl kp a = true ∨ 1000 ≤ a) (hc : c < ln L a) (hn : ln L a < 2 ^ 31) : rn (lt_G o L) mm_Model_carried 207 lv (.int (nI c) :: .ref a :: st) (sx pl kp I A) P ↔ rn (lt_G o L) mm_Model_carried 208 lv (.int (A a c) :: st) (sx pl kp I A) P := rx_ild dq_Model_carried_207 ho hk hu hc hn
theorem dq_Model_carried_208 : decode (km_c mm_Model_carried) 208 = .ok (.iastore, 1) := by decide +kernel
theorem sq_Model_carried_208 (ho : sx_o o pl kp) (hk : ak L a = 0) (hu : sx_up pl kp a = true) (hc : c < ln L a) (hn : ln L a < 2 ^ 31) : rn (lt_G o L) mm_Model_carried 208 lv (.int x :: .int (nI c) :: .ref a :: st) (sx pl kp I A) P ↔ rn (lt_G o L) mm_Model_carried 209 lv st (sx pl kp I (u2 A a c x)) P := rx_ist dq_Model_carried_208 ho hk hu hc hn
theorem dq_Model_carried_209 : decode (km_c mm_Model_carried) 209 = .ok (.aload_n 0, 1) := by decide +kernel
theorem sq_Model_carried_209 : rn G mm_Model_carried 209 [some (.ref z), a1, a2, a3, a4, a5] st S P ↔ rn G mm_Model_carried 210 [some (.ref z), a1, a2, a3, a4, a5] (.ref z :: st) S P := rn_s dq_Model_carried_209 rfl rfl rfl
theorem dq_Model_carried_210 : decode (km_c mm_Model_carried) 210 = .ok (.getfield 26, 3) := by decide +kernel
theorem sq_Model_carried_210_45 (ho : sx_o o pl kp) : rn (lt_G o L) mm_Model_carried 210 lv (.ref 45 :: st) (sx pl kp I A) P ↔ rn (lt_G o L) mm_Model_carried 213 lv (.ref 50 :: st) (sx pl kp I A) P := rx_get (h := "") (ci := 10) (k := 9) dq_Model_carried_210 (by decide +kernel) ho (up_b (by decide)) rfl rfl (fl_r (by decide) (by decide) (by decide) (by decide))
theorem dq_Model_carried_213 : decode (km_c mm_Model_carried) 213 = .ok (.iload 4, 2) := by decide +kernel
theorem sq_Model_carried_213 : rn G mm_Model_carried 213 [a0, a1, a2, a3, some (.int x), a5] st S P ↔ rn G mm_Model_carried 215 [a0, a1, a2, a3, some (.int x), a5] (.int x :: st) S P := rn_s dq_Model_carried_213 rfl rfl rfl
theorem dq_Model_carried_215 : decode (km_c mm_Model_carried) 215 = .ok (.iaload, 1) := by decide +kernel
theorem sq_Model_carried_215 (ho : sx_o o pl kp) (hk : ak L a = 0) (hu : sx_up pl kp a = true ∨ 1000 ≤ a) (hc : c < ln L a) (hn : ln L a < 2 ^ 31) : rn (lt_G o L) mm_Model_carried 215 lv (.int (nI c) :: .ref a :: st) (sx pl kp I A) P ↔ rn (lt_G o L) mm_Model_carried 216 lv (.int (A a c) :: st) (sx pl kp I A) P := rx_ild dq_Model_carried_215 ho hk hu hc hn
theorem dq_Model_carried_216 : decode (km_c mm_Model_carried) 216 = .ok (.ireturn, 1) := by decide +kernel
theorem sq_Model_carried_216 : rn G mm_Model_carried 216 lv [.int x] S P ↔ P (some (.int x)) S := rn_ir dq_Model_carried_216 rfl
theorem dq_Model_restore_0 : decode (km_c mm_Model_restore) 0 = .ok (.aload_n 0, 1) := by decide +kernel
theorem sq_Model_restore_0 : rn G mm_Model_restore 0 [some (.ref z), a1] st S P ↔ rn G mm_Model_restore 1 [some (.ref z), a1] (.ref z :: st) S P := rn_s dq_Model_restore_0 rfl rfl rfl
theorem dq_Model_restore_1 : decode (km_c mm_Model_restore) 1 = .ok (.getfield 259, 3) := by decide +kernel
theorem sq_Model_restore_1_45 (ho : sx_o o pl kp) : rn (lt_G o L) mm_Model_restore 1 lv (.ref 45 :: st) (sx pl kp I A) P ↔ rn (lt_G o L) mm_Model_restore 4 lv (.int (I 45 24) :: st) (sx pl kp I A) P := rx_get (h := "") (ci := 10) (k := 24) dq_Model_restore_1 (by decide +kernel) ho (up_b (by decide)) rfl rfl (fl_z (by decide))
theorem dq_Model_restore_4 : decode (km_c mm_Model_restore) 4 = .ok (.ifCond .ne 6, 3) := by decide +kernel
theorem sq_Model_restore_4 : rn G mm_Model_restore 4 lv (.int x :: st) S P ↔ ((¬ x = 0 → rn G mm_Model_restore 10 lv st S P) ∧ (¬ (¬ x = 0) → rn G mm_Model_restore 7 lv st S P)) := rn_b (off := 6) dq_Model_restore_4 rfl rfl rfl rfl
theorem dq_Model_restore_7 : decode (km_c mm_Model_restore) 7 = .ok (.bipush (-4), 2) := by decide +kernel
theorem sq_Model_restore_7 : rn G mm_Model_restore 7 lv st S P ↔ rn G mm_Model_restore 9 lv (.int ((-4)) :: st) S P := rn_s dq_Model_restore_7 rfl rfl rfl
theorem dq_Model_restore_9 : decode (km_c mm_Model_restore) 9 = .ok (.ireturn, 1) := by decide +kernel
theorem sq_Model_restore_9 : rn G mm_Model_restore 9 lv [.int x] S P ↔ P (some (.int x)) S := rn_ir dq_Model_restore_9 rfl
theorem dq_Model_restore_10 : decode (km_c mm_Model_restore) 10 = .ok (.iconst 0, 1) := by decide +kernel
theorem sq_Model_restore_10 : rn G mm_Model_restore 10 lv st S P ↔ rn G mm_Model_restore 11 lv (.int (nI 0) :: st) S P := rn_s dq_Model_restore_10 rfl rfl rfl
theorem dq_Model_restore_11 : decode (km_c mm_Model_restore) 11 = .ok (.istore_n 1, 1) := by decide +kernel
theorem sq_Model_restore_11n : rn G mm_Model_restore 11 [none, a1] (.int x :: st) S P ↔ rn G mm_Model_restore 12 [none, some (.int x)] st S P := rn_s dq_Model_restore_11 rfl rfl rfl
theorem sq_Model_restore_11i : rn G mm_Model_restore 11 [some (.int x2), a1] (.int x :: st) S P ↔ rn G mm_Model_restore 12 [some (.int x2), some (.int x)] st S P := rn_s dq_Model_restore_11 rfl rfl rfl
theorem sq_Model_restore_11r : rn G mm_Model_restore 11 [some (.ref z2), a1] (.int x :: st) S P ↔ rn G mm_Model_restore 12 [some (.ref z2), some (.int x)] st S P := rn_s dq_Model_restore_11 rfl rfl rfl
theorem dq_Model_restore_12 : decode (km_c mm_Model_restore) 12 = .ok (.iload_n 1, 1) := by decide +kernel
theorem sq_Model_restore_12 : rn G mm_Model_restore 12 [a0, some (.int x)] st S P ↔ rn G mm_Model_restore 13 [a0, some (.int x)] (.int x :: st) S P := rn_s dq_Model_restore_12 rfl rfl rfl
theorem dq_Model_restore_13 : decode (km_c mm_Model_restore) 13 = .ok (.sipush 358, 3) := by decide +kernel
theorem sq_Model_restore_13 : rn G mm_Model_restore 13 lv st S P ↔ rn G mm_Model_restore 16 lv (.int (nI 358) :: st) S P := rn_s dq_Model_restore_13 rfl rfl rfl
theorem dq_Model_restore_16 : decode (km_c mm_Model_restore) 16 = .ok (.if_icmp .ge 22, 3) := by decide +kernel
theorem sq_Model_restore_16 : rn G mm_Model_restore 16 lv (.int x2 :: .int x :: st) S P ↔ ((x2 ≤ x → rn G mm_Model_restore 38 lv st S P) ∧ (¬ (x2 ≤ x) → rn G mm_Model_restore 19 lv st S P)) := rn_b (off := 22) dq_Model_restore_16 rfl rfl rfl rfl
theorem dq_Model_restore_19 : decode (km_c mm_Model_restore) 19 = .ok (.aload_n 0, 1) := by decide +kernel
theorem sq_Model_restore_19 : rn G mm_Model_restore 19 [some (.ref z), a1] st S P ↔ rn G mm_Model_restore 20 [some (.ref z), a1] (.ref z :: st) S P := rn_s dq_Model_restore_19 rfl rfl rfl
theorem dq_Model_restore_20 : decode (km_c mm_Model_restore) 20 = .ok (.iload_n 1, 1) := by decide +kernel
theorem sq_Model_restore_20 : rn G mm_Model_restore 20 [a0, some (.int x)] st S P ↔ rn G mm_Model_restore 21 [a0, some (.int x)] (.int x :: st) S P := rn_s dq_Model_restore_20 rfl rfl rfl
theorem dq_Model_restore_21 : decode (km_c mm_Model_restore) 21 = .ok (.aload_n 0, 1) := by decide +kernel
theorem sq_Model_restore_21 : rn G mm_Model_restore 21 [some (.ref z), a1] st S P ↔ rn G mm_Model_restore 22 [some (.ref z), a1] (.ref z :: st) S P := rn_s dq_Model_restore_21 rfl rfl rfl
theorem dq_Model_restore_22 : decode (km_c mm_Model_restore) 22 = .ok (.getfield 59, 3) := by decide +kernel
theorem sq_Model_restore_22_45 (ho : sx_o o pl kp) : rn (lt_G o L) mm_Model_restore 22 lv (.ref 45 :: st) (sx pl kp I A) P ↔ rn (lt_G o L) mm_Model_restore 25 lv (.ref 60 :: st) (sx pl kp I A) P := rx_get (h := "") (ci := 10) (k := 25) dq_Model_restore_22 (by decide +kernel) ho (up_b (by decide)) rfl rfl (fl_r (by decide) (by decide) (by decide) (by decide))
theorem dq_Model_restore_25 : decode (km_c mm_Model_restore) 25 = .ok (.iload_n 1, 1) := by decide +kernel
theorem sq_Model_restore_25 : rn G mm_Model_restore 25 [a0, some (.int x)] st S P ↔ rn G mm_Model_restore 26 [a0, some (.int x)] (.int x :: st) S P := rn_s dq_Model_restore_25 rfl rfl rfl
theorem dq_Model_restore_26 : decode (km_c mm_Model_restore) 26 = .ok (.iaload, 1) := by decide +kernel
theorem sq_Model_restore_26 (ho : sx_o o pl kp) (hk : ak L a = 0) (hu : sx_up pl kp a = true ∨ 1000 ≤ a) (hc : c < ln L a) (hn : ln L a < 2 ^ 31) : rn (lt_G o L) mm_Model_restore 26 lv (.int (nI c) :: .ref a :: st) (sx pl kp I A) P ↔ rn (lt_G o L) mm_Model_restore 27 lv (.int (A a c) :: st) (sx pl kp I A) P := rx_ild dq_Model_restore_26 ho hk hu hc hn
theorem dq_Model_restore_27 : decode (km_c mm_Model_restore) 27 = .ok (.iconst 1, 1) := by decide +kernel
theorem sq_Model_restore_27 : rn G mm_Model_restore 27 lv st S P ↔ rn G mm_Model_restore 28 lv (.int (nI 1) :: st) S P := rn_s dq_Model_restore_27 rfl rfl rfl
theorem dq_Model_restore_28 : decode (km_c mm_Model_restore) 28 = .ok (.invokevirtual 255, 3) := by decide +kernel
theorem sq_Model_restore_28_45 {x1 : Int32} {x2 : Int32} {x3 : Int32} {v : Option Value} {S2 : ks_S} (hc : ev (lt_G o L) mm_Model_carried [.ref 45, .int x1, .int x2, .int x3] (sx pl kp I A) v S2) (ho : sx_o o pl kp) (hst : kx_cat st ≤ 8) : rn (lt_G o L) mm_Model_restore 28 lv (.int x3 :: .int x2 :: .int x1 :: .ref 45 :: st) (sx pl kp I A) P ↔ rn (lt_G o L) mm_Model_restore 31 lv (v.toList ++ st) S2 P := rn_cv (k := 0) (host := "") (E' := mm_Model_carried) dq_Model_restore_28 rfl (ok_v rfl (by decide) (by decide) (Nat.le_add_left _ _) hst (Nat.le_of_ble_eq_true rfl) (Or.inr (rc_v ho (up_b (by decide)) rfl))) rfl rfl hc
theorem dq_Model_restore_31 : decode (km_c mm_Model_restore) 31 = .ok (.pop, 1) := by decide +kernel
theorem sq_Model_restore_31i : rn G mm_Model_restore 31 lv (.int x :: st) S P ↔ rn G mm_Model_restore 32 lv st S P := rn_s dq_Model_restore_31 rfl rfl rfl
theorem dq_Model_restore_32 : decode (km_c mm_Model_restore) 32 = .ok (.iinc 1 1, 3) := by decide +kernel
theorem sq_Model_restore_32n : rn G mm_Model_restore 32 [none, some (.int x)] st S P ↔ rn G mm_Model_restore 35 [none, some (.int (x + nI 1))] st S P := rn_s dq_Model_restore_32 rfl rfl rfl
theorem sq_Model_restore_32i : rn G mm_Model_restore 32 [some (.int x2), some (.int x)] st S P ↔ rn G mm_Model_restore 35 [some (.int x2), some (.int (x + nI 1))] st S P := rn_s dq_Model_restore_32 rfl rfl rfl
theorem sq_Model_restore_32r : rn G mm_Model_restore 32 [some (.ref z2), some (.int x)] st S P ↔ rn G mm_Model_restore 35 [some (.ref z2), some (.int (x + nI 1))] st S P := rn_s dq_Model_restore_32 rfl rfl rfl
theorem dq_Model_restore_35 : decode (km_c mm_Model_restore) 35 = .ok (.goto (-23), 3) := by decide +kernel
theorem sq_Model_restore_35 : rn G mm_Model_restore 35 lv st S P ↔ rn G mm_Model_restore 12 lv st S P := rn_s dq_Model_restore_35 rfl rfl rfl
theorem dq_Model_restore_38 : decode (km_c mm_Model_restore) 38 = .ok (.aload_n 0, 1) := by decide +kernel
theorem sq_Model_restore_38 : rn G mm_Model_restore 38 [some (.ref z), a1] st S P ↔ rn G mm_Model_restore 39 [some (.ref z), a1] (.ref z :: st) S P := rn_s dq_Model_restore_38 rfl rfl rfl
theorem dq_Model_restore_39 : decode (km_c mm_Model_restore) 39 = .ok (.aload_n 0, 1) := by decide +kernel
theorem sq_Model_restore_39 : rn G mm_Model_restore 39 [some (.ref z), a1] st S P ↔ rn G mm_Model_restore 40 [some (.ref z), a1] (.ref z :: st) S P := rn_s dq_Model_restore_39 rfl rfl rfl
theorem dq_Model_restore_40 : decode (km_c mm_Model_restore) 40 = .ok (.getfield 62, 3) := by decide +kernel
theorem sq_Model_restore_40_45 (ho : sx_o o pl kp) : rn (lt_G o L) mm_Model_restore 40 lv (.ref 45 :: st) (sx pl kp I A) P ↔ rn (lt_G o L) mm_Model_restore 43 lv (.ref 61 :: st) (sx pl kp I A) P := rx_get (h := "") (ci := 10) (k := 26) dq_Model_restore_40 (by decide +kernel) ho (up_b (by decide)) rfl rfl (fl_r (by decide) (by decide) (by decide) (by decide))
theorem dq_Model_restore_43 : decode (km_c mm_Model_restore) 43 = .ok (.iconst 0, 1) := by decide +kernel
theorem sq_Model_restore_43 : rn G mm_Model_restore 43 lv st S P ↔ rn G mm_Model_restore 44 lv (.int (nI 0) :: st) S P := rn_s dq_Model_restore_43 rfl rfl rfl
theorem dq_Model_restore_44 : decode (km_c mm_Model_restore) 44 = .ok (.iaload, 1) := by decide +kernel
theorem sq_Model_restore_44 (ho : sx_o o pl kp) (hk : ak L a = 0) (hu : sx_up pl kp a = true ∨ 1000 ≤ a) (hc : c < ln L a) (hn : ln L a < 2 ^ 31) : rn (lt_G o L) mm_Model_restore 44 lv (.int (nI c) :: .ref a :: st) (sx pl kp I A) P ↔ rn (lt_G o L) mm_Model_restore 45 lv (.int (A a c) :: st) (sx pl kp I A) P := rx_ild dq_Model_restore_44 ho hk hu hc hn
theorem dq_Model_restore_45 : decode (km_c mm_Model_restore) 45 = .ok (.putfield 98, 3) := by decide +kernel
theorem sq_Model_restore_45_45 (ho : sx_o o pl kp) : rn (lt_G o L) mm_Model_restore 45 lv (.int x :: .ref 45 :: st) (sx pl kp I A) P ↔ rn (lt_G o L) mm_Model_restore 48 lv st (sx pl kp (u2 I 45 1 x) A) P := rx_put (h := "") (ci := 10) (k := 1) dq_Model_restore_45 (by decide +kernel) ho (up_b (by decide)) rfl rfl (by decide) (by decide)
theorem dq_Model_restore_48 : decode (km_c mm_Model_restore) 48 = .ok (.aload_n 0, 1) := by decide +kernel
theorem sq_Model_restore_48 : rn G mm_Model_restore 48 [some (.ref z), a1] st S P ↔ rn G mm_Model_restore 49 [some (.ref z), a1] (.ref z :: st) S P := rn_s dq_Model_restore_48 rfl rfl rfl
theorem dq_Model_restore_49 : decode (km_c mm_Model_restore) 49 = .ok (.aload_n 0, 1) := by decide +kernel
theorem sq_Model_restore_49 : rn G mm_Model_restore 49 [some (.ref z), a1] st S P ↔ rn G mm_Model_restore 50 [some (.ref z), a1] (.ref z :: st) S P := rn_s dq_Model_restore_49 rfl rfl rfl
theorem dq_Model_restore_50 : decode (km_c mm_Model_restore) 50 = .ok (.getfield 62, 3) := by decide +kernel
theorem sq_Model_restore_50_45 (ho : sx_o o pl kp) : rn (lt_G o L) mm_Model_restore 50 lv (.ref 45 :: st) (sx pl kp I A) P ↔ rn (lt_G o L) mm_Model_restore 53 lv (.ref 61 :: st) (sx pl kp I A) P := rx_get (h := "") (ci := 10) (k := 26) dq_Model_restore_50 (by decide +kernel) ho (up_b (by decide)) rfl rfl (fl_r (by decide) (by decide) (by decide) (by decide))
theorem dq_Model_restore_53 : decode (km_c mm_Model_restore) 53 = .ok (.iconst 1, 1) := by decide +kernel
theorem sq_Model_restore_53 : rn G mm_Model_restore 53 lv st S P ↔ rn G mm_Model_restore 54 lv (.int (nI 1) :: st) S P := rn_s dq_Model_restore_53 rfl rfl rfl
theorem dq_Model_restore_54 : decode (km_c mm_Model_restore) 54 = .ok (.iaload, 1) := by decide +kernel
theorem sq_Model_restore_54 (ho : sx_o o pl kp) (hk : ak L a = 0) (hu : sx_up pl kp a = true ∨ 1000 ≤ a) (hc : c < ln L a) (hn : ln L a < 2 ^ 31) : rn (lt_G o L) mm_Model_restore 54 lv (.int (nI c) :: .ref a :: st) (sx pl kp I A) P ↔ rn (lt_G o L) mm_Model_restore 55 lv (.int (A a c) :: st) (sx pl kp I A) P := rx_ild dq_Model_restore_54 ho hk hu hc hn
theorem dq_Model_restore_55 : decode (km_c mm_Model_restore) 55 = .ok (.putfield 131, 3) := by decide +kernel
theorem sq_Model_restore_55_45 (ho : sx_o o pl kp) : rn (lt_G o L) mm_Model_restore 55 lv (.int x :: .ref 45 :: st) (sx pl kp I A) P ↔ rn (lt_G o L) mm_Model_restore 58 lv st (sx pl kp (u2 I 45 4 x) A) P := rx_put (h := "") (ci := 10) (k := 4) dq_Model_restore_55 (by decide +kernel) ho (up_b (by decide)) rfl rfl (by decide) (by decide)
theorem dq_Model_restore_58 : decode (km_c mm_Model_restore) 58 = .ok (.aload_n 0, 1) := by decide +kernel
theorem sq_Model_restore_58 : rn G mm_Model_restore 58 [some (.ref z), a1] st S P ↔ rn G mm_Model_restore 59 [some (.ref z), a1] (.ref z :: st) S P := rn_s dq_Model_restore_58 rfl rfl rfl
theorem dq_Model_restore_59 : decode (km_c mm_Model_restore) 59 = .ok (.aload_n 0, 1) := by decide +kernel
theorem sq_Model_restore_59 : rn G mm_Model_restore 59 [some (.ref z), a1] st S P ↔ rn G mm_Model_restore 60 [some (.ref z), a1] (.ref z :: st) S P := rn_s dq_Model_restore_59 rfl rfl rfl
theorem dq_Model_restore_60 : decode (km_c mm_Model_restore) 60 = .ok (.getfield 62, 3) := by decide +kernel
theorem sq_Model_restore_60_45 (ho : sx_o o pl kp) : rn (lt_G o L) mm_Model_restore 60 lv (.ref 45 :: st) (sx pl kp I A) P ↔ rn (lt_G o L) mm_Model_restore 63 lv (.ref 61 :: st) (sx pl kp I A) P := rx_get (h := "") (ci := 10) (k := 26) dq_Model_restore_60 (by decide +kernel) ho (up_b (by decide)) rfl rfl (fl_r (by decide) (by decide) (by decide) (by decide))
theorem dq_Model_restore_63 : decode (km_c mm_Model_restore) 63 = .ok (.iconst 2, 1) := by decide +kernel
theorem sq_Model_restore_63 : rn G mm_Model_restore 63 lv st S P ↔ rn G mm_Model_restore 64 lv (.int (nI 2) :: st) S P := rn_s dq_Model_restore_63 rfl rfl rfl
theorem dq_Model_restore_64 : decode (km_c mm_Model_restore) 64 = .ok (.iaload, 1) := by decide +kernel
theorem sq_Model_restore_64 (ho : sx_o o pl kp) (hk : ak L a = 0) (hu : sx_up pl kp a = true ∨ 1000 ≤ a) (hc : c < ln L a) (hn : ln L a < 2 ^ 31) : rn (lt_G o L) mm_Model_restore 64 lv (.int (nI c) :: .ref a :: st) (sx pl kp I A) P ↔ rn (lt_G o L) mm_Model_restore 65 lv (.int (A a c) :: st) (sx pl kp I A) P := rx_ild dq_Model_restore_64 ho hk hu hc hn
theorem dq_Model_restore_65 : decode (km_c mm_Model_restore) 65 = .ok (.putfield 186, 3) := by decide +kernel
theorem sq_Model_restore_65_45 (ho : sx_o o pl kp) : rn (lt_G o L) mm_Model_restore 65 lv (.int x :: .ref 45 :: st) (sx pl kp I A) P ↔ rn (lt_G o L) mm_Model_restore 68 lv st (sx pl kp (u2 I 45 5 x) A) P := rx_put (h := "") (ci := 10) (k := 5) dq_Model_restore_65 (by decide +kernel) ho (up_b (by decide)) rfl rfl (by decide) (by decide)
theorem dq_Model_restore_68 : decode (km_c mm_Model_restore) 68 = .ok (.aload_n 0, 1) := by decide +kernel
theorem sq_Model_restore_68 : rn G mm_Model_restore 68 [some (.ref z), a1] st S P ↔ rn G mm_Model_restore 69 [some (.ref z), a1] (.ref z :: st) S P := rn_s dq_Model_restore_68 rfl rfl rfl
theorem dq_Model_restore_69 : decode (km_c mm_Model_restore) 69 = .ok (.aload_n 0, 1) := by decide +kernel
theorem sq_Model_restore_69 : rn G mm_Model_restore 69 [some (.ref z), a1] st S P ↔ rn G mm_Model_restore 70 [some (.ref z), a1] (.ref z :: st) S P := rn_s dq_Model_restore_69 rfl rfl rfl
theorem dq_Model_restore_70 : decode (km_c mm_Model_restore) 70 = .ok (.getfield 62, 3) := by decide +kernel
theorem sq_Model_restore_70_45 (ho : sx_o o pl kp) : rn (lt_G o L) mm_Model_restore 70 lv (.ref 45 :: st) (sx pl kp I A) P ↔ rn (lt_G o L) mm_Model_restore 73 lv (.ref 61 :: st) (sx pl kp I A) P := rx_get (h := "") (ci := 10) (k := 26) dq_Model_restore_70 (by decide +kernel) ho (up_b (by decide)) rfl rfl (fl_r (by decide) (by decide) (by decide) (by decide))
theorem dq_Model_restore_73 : decode (km_c mm_Model_restore) 73 = .ok (.iconst 3, 1) := by decide +kernel
theorem sq_Model_restore_73 : rn G mm_Model_restore 73 lv st S P ↔ rn G mm_Model_restore 74 lv (.int (nI 3) :: st) S P := rn_s dq_Model_restore_73 rfl rfl rfl
theorem dq_Model_restore_74 : decode (km_c mm_Model_restore) 74 = .ok (.iaload, 1) := by decide +kernel
theorem sq_Model_restore_74 (ho : sx_o o pl kp) (hk : ak L a = 0) (hu : sx_up pl kp a = true ∨ 1000 ≤ a) (hc : c < ln L a) (hn : ln L a < 2 ^ 31) : rn (lt_G o L) mm_Model_restore 74 lv (.int (nI c) :: .ref a :: st) (sx pl kp I A) P ↔ rn (lt_G o L) mm_Model_restore 75 lv (.int (A a c) :: st) (sx pl kp I A) P := rx_ild dq_Model_restore_74 ho hk hu hc hn
theorem dq_Model_restore_75 : decode (km_c mm_Model_restore) 75 = .ok (.putfield 19, 3) := by decide +kernel
theorem sq_Model_restore_75_45 (ho : sx_o o pl kp) : rn (lt_G o L) mm_Model_restore 75 lv (.int x :: .ref 45 :: st) (sx pl kp I A) P ↔ rn (lt_G o L) mm_Model_restore 78 lv st (sx pl kp (u2 I 45 6 x) A) P := rx_put (h := "") (ci := 10) (k := 6) dq_Model_restore_75 (by decide +kernel) ho (up_b (by decide)) rfl rfl (by decide) (by decide)
theorem dq_Model_restore_78 : decode (km_c mm_Model_restore) 78 = .ok (.aload_n 0, 1) := by decide +kernel
theorem sq_Model_restore_78 : rn G mm_Model_restore 78 [some (.ref z), a1] st S P ↔ rn G mm_Model_restore 79 [some (.ref z), a1] (.ref z :: st) S P := rn_s dq_Model_restore_78 rfl rfl rfl
theorem dq_Model_restore_79 : decode (km_c mm_Model_restore) 79 = .ok (.aload_n 0, 1) := by decide +kernel
theorem sq_Model_restore_79 : rn G mm_Model_restore 79 [some (.ref z), a1] st S P ↔ rn G mm_Model_restore 80 [some (.ref z), a1] (.ref z :: st) S P := rn_s dq_Model_restore_79 rfl rfl rfl
theorem dq_Model_restore_80 : decode (km_c mm_Model_restore) 80 = .ok (.getfield 62, 3) := by decide +kernel
theorem sq_Model_restore_80_45 (ho : sx_o o pl kp) : rn (lt_G o L) mm_Model_restore 80 lv (.ref 45 :: st) (sx pl kp I A) P ↔ rn (lt_G o L) mm_Model_restore 83 lv (.ref 61 :: st) (sx pl kp I A) P := rx_get (h := "") (ci := 10) (k := 26) dq_Model_restore_80 (by decide +kernel) ho (up_b (by decide)) rfl rfl (fl_r (by decide) (by decide) (by decide) (by decide))
theorem dq_Model_restore_83 : decode (km_c mm_Model_restore) 83 = .ok (.iconst 4, 1) := by decide +kernel
theorem sq_Model_restore_83 : rn G mm_Model_restore 83 lv st S P ↔ rn G mm_Model_restore 84 lv (.int (nI 4) :: st) S P := rn_s dq_Model_restore_83 rfl rfl rfl
theorem dq_Model_restore_84 : decode (km_c mm_Model_restore) 84 = .ok (.iaload, 1) := by decide +kernel
theorem sq_Model_restore_84 (ho : sx_o o pl kp) (hk : ak L a = 0) (hu : sx_up pl kp a = true ∨ 1000 ≤ a) (hc : c < ln L a) (hn : ln L a < 2 ^ 31) : rn (lt_G o L) mm_Model_restore 84 lv (.int (nI c) :: .ref a :: st) (sx pl kp I A) P ↔ rn (lt_G o L) mm_Model_restore 85 lv (.int (A a c) :: st) (sx pl kp I A) P := rx_ild dq_Model_restore_84 ho hk hu hc hn
theorem dq_Model_restore_85 : decode (km_c mm_Model_restore) 85 = .ok (.putfield 134, 3) := by decide +kernel
theorem sq_Model_restore_85_45 (ho : sx_o o pl kp) : rn (lt_G o L) mm_Model_restore 85 lv (.int x :: .ref 45 :: st) (sx pl kp I A) P ↔ rn (lt_G o L) mm_Model_restore 88 lv st (sx pl kp (u2 I 45 8 x) A) P := rx_put (h := "") (ci := 10) (k := 8) dq_Model_restore_85 (by decide +kernel) ho (up_b (by decide)) rfl rfl (by decide) (by decide)
theorem dq_Model_restore_88 : decode (km_c mm_Model_restore) 88 = .ok (.aload_n 0, 1) := by decide +kernel
theorem sq_Model_restore_88 : rn G mm_Model_restore 88 [some (.ref z), a1] st S P ↔ rn G mm_Model_restore 89 [some (.ref z), a1] (.ref z :: st) S P := rn_s dq_Model_restore_88 rfl rfl rfl
theorem dq_Model_restore_89 : decode (km_c mm_Model_restore) 89 = .ok (.aload_n 0, 1) := by decide +kernel
theorem sq_Model_restore_89 : rn G mm_Model_restore 89 [some (.ref z), a1] st S P ↔ rn G mm_Model_restore 90 [some (.ref z), a1] (.ref z :: st) S P := rn_s dq_Model_restore_89 rfl rfl rfl
theorem dq_Model_restore_90 : decode (km_c mm_Model_restore) 90 = .ok (.getfield 62, 3) := by decide +kernel
theorem sq_Model_restore_90_45 (ho : sx_o o pl kp) : rn (lt_G o L) mm_Model_restore 90 lv (.ref 45 :: st) (sx pl kp I A) P ↔ rn (lt_G o L) mm_Model_restore 93 lv (.ref 61 :: st) (sx pl kp I A) P := rx_get (h := "") (ci := 10) (k := 26) dq_Model_restore_90 (by decide +kernel) ho (up_b (by decide)) rfl rfl (fl_r (by decide) (by decide) (by decide) (by decide))
theorem dq_Model_restore_93 : decode (km_c mm_Model_restore) 93 = .ok (.iconst 5, 1) := by decide +kernel
theorem sq_Model_restore_93 : rn G mm_Model_restore 93 lv st S P ↔ rn G mm_Model_restore 94 lv (.int (nI 5) :: st) S P := rn_s dq_Model_restore_93 rfl rfl rfl
theorem dq_Model_restore_94 : decode (km_c mm_Model_restore) 94 = .ok (.iaload, 1) := by decide +kernel
theorem sq_Model_restore_94 (ho : sx_o o pl kp) (hk : ak L a = 0) (hu : sx_up pl kp a = true ∨ 1000 ≤ a) (hc : c < ln L a) (hn : ln L a < 2 ^ 31) : rn (lt_G o L) mm_Model_restore 94 lv (.int (nI c) :: .ref a :: st) (sx pl kp I A) P ↔ rn (lt_G o L) mm_Model_restore 95 lv (.int (A a c) :: st) (sx pl kp I A) P := rx_ild dq_Model_restore_94 ho hk hu hc hn
theorem dq_Model_restore_95 : decode (km_c mm_Model_restore) 95 = .ok (.putfield 29, 3) := by decide +kernel
theorem sq_Model_restore_95_45 (ho : sx_o o pl kp) : rn (lt_G o L) mm_Model_restore 95 lv (.int x :: .ref 45 :: st) (sx pl kp I A) P ↔ rn (lt_G o L) mm_Model_restore 98 lv st (sx pl kp (u2 I 45 10 x) A) P := rx_put (h := "") (ci := 10) (k := 10) dq_Model_restore_95 (by decide +kernel) ho (up_b (by decide)) rfl rfl (by decide) (by decide)
theorem dq_Model_restore_98 : decode (km_c mm_Model_restore) 98 = .ok (.iconst 1, 1) := by decide +kernel
theorem sq_Model_restore_98 : rn G mm_Model_restore 98 lv st S P ↔ rn G mm_Model_restore 99 lv (.int (nI 1) :: st) S P := rn_s dq_Model_restore_98 rfl rfl rfl
theorem dq_Model_restore_99 : decode (km_c mm_Model_restore) 99 = .ok (.ireturn, 1) := by decide +kernel
theorem sq_Model_restore_99 : rn G mm_Model_restore 99 lv [.int x] S P ↔ P (some (.int x)) S := rn_ir dq_Model_restore_99 rfl
theorem dq_Model_sheet_0 : decode (km_c mm_Model_sheet) 0 = .ok (.iload_n 1, 1) := by decide +kernel
theorem sq_Model_sheet_0 : rn G mm_Model_sheet 0 [a0, some (.int x), a2, a3, a4] st S P ↔ rn G mm_Model_sheet 1 [a0, some (.int x), a2, a3, a4] (.int x :: st) S P := rn_s dq_Model_sheet_0 rfl rfl rfl
theorem dq_Model_sheet_1 : decode (km_c mm_Model_sheet) 1 = .ok (.iload_n 2, 1) := by decide +kernel
theorem sq_Model_sheet_1 : rn G mm_Model_sheet 1 [a0, a1, some (.int x), a3, a4] st S P ↔ rn G mm_Model_sheet 2 [a0, a1, some (.int x), a3, a4] (.int x :: st) S P := rn_s dq_Model_sheet_1 rfl rfl rfl
theorem dq_Model_sheet_2 : decode (km_c mm_Model_sheet) 2 = .ok (.invokestatic 265, 3) := by decide +kernel
theorem sq_Model_sheet_2 {x1 : Int32} {x2 : Int32} {v : Option Value} {S2 : ks_S} (hc : ev G mm_Model_isSheet [.int x1, .int x2] S v S2) (hst : kx_cat st ≤ 8) : rn G mm_Model_sheet 2 lv (.int x2 :: .int x1 :: st) S P ↔ rn G mm_Model_sheet 5 lv (v.toList ++ st) S2 P := rn_cs (k := 1) (host := "") (E' := mm_Model_isSheet) dq_Model_sheet_2 (by decide) (by decide) rfl (ok_v rfl (by decide) (by decide) (Nat.le_add_left _ _) hst (Nat.le_of_ble_eq_true rfl) (Or.inl rfl)) rfl rfl hc
theorem dq_Model_sheet_5 : decode (km_c mm_Model_sheet) 5 = .ok (.ifCond .eq 9, 3) := by decide +kernel
theorem sq_Model_sheet_5 : rn G mm_Model_sheet 5 lv (.int x :: st) S P ↔ ((x = 0 → rn G mm_Model_sheet 14 lv st S P) ∧ (¬ (x = 0) → rn G mm_Model_sheet 8 lv st S P)) := rn_b (off := 9) dq_Model_sheet_5 rfl rfl rfl rfl
theorem dq_Model_sheet_8 : decode (km_c mm_Model_sheet) 8 = .ok (.iload_n 3, 1) := by decide +kernel
theorem sq_Model_sheet_8 : rn G mm_Model_sheet 8 [a0, a1, a2, some (.int x), a4] st S P ↔ rn G mm_Model_sheet 9 [a0, a1, a2, some (.int x), a4] (.int x :: st) S P := rn_s dq_Model_sheet_8 rfl rfl rfl
theorem dq_Model_sheet_9 : decode (km_c mm_Model_sheet) 9 = .ok (.bipush 24, 2) := by decide +kernel
theorem sq_Model_sheet_9 : rn G mm_Model_sheet 9 lv st S P ↔ rn G mm_Model_sheet 11 lv (.int (nI 24) :: st) S P := rn_s dq_Model_sheet_9 rfl rfl rfl
theorem dq_Model_sheet_11 : decode (km_c mm_Model_sheet) 11 = .ok (.if_icmp .le 5, 3) := by decide +kernel
theorem sq_Model_sheet_11 : rn G mm_Model_sheet 11 lv (.int x2 :: .int x :: st) S P ↔ ((x ≤ x2 → rn G mm_Model_sheet 16 lv st S P) ∧ (¬ (x ≤ x2) → rn G mm_Model_sheet 14 lv st S P)) := rn_b (off := 5) dq_Model_sheet_11 rfl rfl rfl rfl
theorem dq_Model_sheet_14 : decode (km_c mm_Model_sheet) 14 = .ok (.iconst (-1), 1) := by decide +kernel
theorem sq_Model_sheet_14 : rn G mm_Model_sheet 14 lv st S P ↔ rn G mm_Model_sheet 15 lv (.int ((-1)) :: st) S P := rn_s dq_Model_sheet_14 rfl rfl rfl
theorem dq_Model_sheet_15 : decode (km_c mm_Model_sheet) 15 = .ok (.ireturn, 1) := by decide +kernel
theorem sq_Model_sheet_15 : rn G mm_Model_sheet 15 lv [.int x] S P ↔ P (some (.int x)) S := rn_ir dq_Model_sheet_15 rfl
theorem dq_Model_sheet_16 : decode (km_c mm_Model_sheet) 16 = .ok (.iload_n 3, 1) := by decide +kernel
theorem sq_Model_sheet_16 : rn G mm_Model_sheet 16 [a0, a1, a2, some (.int x), a4] st S P ↔ rn G mm_Model_sheet 17 [a0, a1, a2, some (.int x), a4] (.int x :: st) S P := rn_s dq_Model_sheet_16 rfl rfl rfl
theorem dq_Model_sheet_17 : decode (km_c mm_Model_sheet) 17 = .ok (.ifCond .ge 6, 3) := by decide +kernel
theorem sq_Model_sheet_17 : rn G mm_Model_sheet 17 lv (.int x :: st) S P ↔ ((0 ≤ x → rn G mm_Model_sheet 23 lv st S P) ∧ (¬ (0 ≤ x) → rn G mm_Model_sheet 20 lv st S P)) := rn_b (off := 6) dq_Model_sheet_17 rfl rfl rfl rfl
theorem dq_Model_sheet_20 : decode (km_c mm_Model_sheet) 20 = .ok (.bipush (-14), 2) := by decide +kernel
theorem sq_Model_sheet_20 : rn G mm_Model_sheet 20 lv st S P ↔ rn G mm_Model_sheet 22 lv (.int ((-14)) :: st) S P := rn_s dq_Model_sheet_20 rfl rfl rfl
theorem dq_Model_sheet_22 : decode (km_c mm_Model_sheet) 22 = .ok (.ireturn, 1) := by decide +kernel
theorem sq_Model_sheet_22 : rn G mm_Model_sheet 22 lv [.int x] S P ↔ P (some (.int x)) S := rn_ir dq_Model_sheet_22 rfl
theorem dq_Model_sheet_23 : decode (km_c mm_Model_sheet) 23 = .ok (.aload_n 0, 1) := by decide +kernel
theorem sq_Model_sheet_23 : rn G mm_Model_sheet 23 [some (.ref z), a1, a2, a3, a4] st S P ↔ rn G mm_Model_sheet 24 [some (.ref z), a1, a2, a3, a4] (.ref z :: st) S P := rn_s dq_Model_sheet_23 rfl rfl rfl
theorem dq_Model_sheet_24 : decode (km_c mm_Model_sheet) 24 = .ok (.getfield 65, 3) := by decide +kernel
theorem sq_Model_sheet_24_45 (ho : sx_o o pl kp) : rn (lt_G o L) mm_Model_sheet 24 lv (.ref 45 :: st) (sx pl kp I A) P ↔ rn (lt_G o L) mm_Model_sheet 27 lv (.ref 62 :: st) (sx pl kp I A) P := rx_get (h := "") (ci := 10) (k := 27) dq_Model_sheet_24 (by decide +kernel) ho (up_b (by decide)) rfl rfl (fl_r (by decide) (by decide) (by decide) (by decide))
theorem dq_Model_sheet_27 : decode (km_c mm_Model_sheet) 27 = .ok (.iload_n 1, 1) := by decide +kernel
theorem sq_Model_sheet_27 : rn G mm_Model_sheet 27 [a0, some (.int x), a2, a3, a4] st S P ↔ rn G mm_Model_sheet 28 [a0, some (.int x), a2, a3, a4] (.int x :: st) S P := rn_s dq_Model_sheet_27 rfl rfl rfl
theorem dq_Model_sheet_28 : decode (km_c mm_Model_sheet) 28 = .ok (.iload_n 2, 1) := by decide +kernel
theorem sq_Model_sheet_28 : rn G mm_Model_sheet 28 [a0, a1, some (.int x), a3, a4] st S P ↔ rn G mm_Model_sheet 29 [a0, a1, some (.int x), a3, a4] (.int x :: st) S P := rn_s dq_Model_sheet_28 rfl rfl rfl
theorem dq_Model_sheet_29 : decode (km_c mm_Model_sheet) 29 = .ok (.iastore, 1) := by decide +kernel
theorem sq_Model_sheet_29 (ho : sx_o o pl kp) (hk : ak L a = 0) (hu : sx_up pl kp a = true) (hc : c < ln L a) (hn : ln L a < 2 ^ 31) : rn (lt_G o L) mm_Model_sheet 29 lv (.int x :: .int (nI c) :: .ref a :: st) (sx pl kp I A) P ↔ rn (lt_G o L) mm_Model_sheet 30 lv st (sx pl kp I (u2 A a c x)) P := rx_ist dq_Model_sheet_29 ho hk hu hc hn
theorem dq_Model_sheet_30 : decode (km_c mm_Model_sheet) 30 = .ok (.aload_n 0, 1) := by decide +kernel
theorem sq_Model_sheet_30 : rn G mm_Model_sheet 30 [some (.ref z), a1, a2, a3, a4] st S P ↔ rn G mm_Model_sheet 31 [some (.ref z), a1, a2, a3, a4] (.ref z :: st) S P := rn_s dq_Model_sheet_30 rfl rfl rfl
theorem dq_Model_sheet_31 : decode (km_c mm_Model_sheet) 31 = .ok (.getfield 68, 3) := by decide +kernel
theorem sq_Model_sheet_31_45 (ho : sx_o o pl kp) : rn (lt_G o L) mm_Model_sheet 31 lv (.ref 45 :: st) (sx pl kp I A) P ↔ rn (lt_G o L) mm_Model_sheet 34 lv (.ref 63 :: st) (sx pl kp I A) P := rx_get (h := "") (ci := 10) (k := 28) dq_Model_sheet_31 (by decide +kernel) ho (up_b (by decide)) rfl rfl (fl_r (by decide) (by decide) (by decide) (by decide))
theorem dq_Model_sheet_34 : decode (km_c mm_Model_sheet) 34 = .ok (.iload_n 1, 1) := by decide +kernel
theorem sq_Model_sheet_34 : rn G mm_Model_sheet 34 [a0, some (.int x), a2, a3, a4] st S P ↔ rn G mm_Model_sheet 35 [a0, some (.int x), a2, a3, a4] (.int x :: st) S P := rn_s dq_Model_sheet_34 rfl rfl rfl
theorem dq_Model_sheet_35 : decode (km_c mm_Model_sheet) 35 = .ok (.iload_n 3, 1) := by decide +kernel
theorem sq_Model_sheet_35 : rn G mm_Model_sheet 35 [a0, a1, a2, some (.int x), a4] st S P ↔ rn G mm_Model_sheet 36 [a0, a1, a2, some (.int x), a4] (.int x :: st) S P := rn_s dq_Model_sheet_35 rfl rfl rfl
theorem dq_Model_sheet_36 : decode (km_c mm_Model_sheet) 36 = .ok (.iastore, 1) := by decide +kernel
theorem sq_Model_sheet_36 (ho : sx_o o pl kp) (hk : ak L a = 0) (hu : sx_up pl kp a = true) (hc : c < ln L a) (hn : ln L a < 2 ^ 31) : rn (lt_G o L) mm_Model_sheet 36 lv (.int x :: .int (nI c) :: .ref a :: st) (sx pl kp I A) P ↔ rn (lt_G o L) mm_Model_sheet 37 lv st (sx pl kp I (u2 A a c x)) P := rx_ist dq_Model_sheet_36 ho hk hu hc hn
theorem dq_Model_sheet_37 : decode (km_c mm_Model_sheet) 37 = .ok (.iconst 0, 1) := by decide +kernel
theorem sq_Model_sheet_37 : rn G mm_Model_sheet 37 lv st S P ↔ rn G mm_Model_sheet 38 lv (.int (nI 0) :: st) S P := rn_s dq_Model_sheet_37 rfl rfl rfl
theorem dq_Model_sheet_38 : decode (km_c mm_Model_sheet) 38 = .ok (.istore 4, 2) := by decide +kernel
theorem sq_Model_sheet_38n : rn G mm_Model_sheet 38 [a0, a1, a2, none, a4] (.int x :: st) S P ↔ rn G mm_Model_sheet 40 [a0, a1, a2, none, some (.int x)] st S P := rn_s dq_Model_sheet_38 rfl rfl rfl
theorem sq_Model_sheet_38i : rn G mm_Model_sheet 38 [a0, a1, a2, some (.int x2), a4] (.int x :: st) S P ↔ rn G mm_Model_sheet 40 [a0, a1, a2, some (.int x2), some (.int x)] st S P := rn_s dq_Model_sheet_38 rfl rfl rfl
theorem sq_Model_sheet_38r : rn G mm_Model_sheet 38 [a0, a1, a2, some (.ref z2), a4] (.int x :: st) S P ↔ rn G mm_Model_sheet 40 [a0, a1, a2, some (.ref z2), some (.int x)] st S P := rn_s dq_Model_sheet_38 rfl rfl rfl
theorem dq_Model_sheet_40 : decode (km_c mm_Model_sheet) 40 = .ok (.iload 4, 2) := by decide +kernel
theorem sq_Model_sheet_40 : rn G mm_Model_sheet 40 [a0, a1, a2, a3, some (.int x)] st S P ↔ rn G mm_Model_sheet 42 [a0, a1, a2, a3, some (.int x)] (.int x :: st) S P := rn_s dq_Model_sheet_40 rfl rfl rfl
theorem dq_Model_sheet_42 : decode (km_c mm_Model_sheet) 42 = .ok (.bipush 24, 2) := by decide +kernel
theorem sq_Model_sheet_42 : rn G mm_Model_sheet 42 lv st S P ↔ rn G mm_Model_sheet 44 lv (.int (nI 24) :: st) S P := rn_s dq_Model_sheet_42 rfl rfl rfl
theorem dq_Model_sheet_44 : decode (km_c mm_Model_sheet) 44 = .ok (.if_icmp .ge 22, 3) := by decide +kernel
theorem sq_Model_sheet_44 : rn G mm_Model_sheet 44 lv (.int x2 :: .int x :: st) S P ↔ ((x2 ≤ x → rn G mm_Model_sheet 66 lv st S P) ∧ (¬ (x2 ≤ x) → rn G mm_Model_sheet 47 lv st S P)) := rn_b (off := 22) dq_Model_sheet_44 rfl rfl rfl rfl
theorem dq_Model_sheet_47 : decode (km_c mm_Model_sheet) 47 = .ok (.aload_n 0, 1) := by decide +kernel
theorem sq_Model_sheet_47 : rn G mm_Model_sheet 47 [some (.ref z), a1, a2, a3, a4] st S P ↔ rn G mm_Model_sheet 48 [some (.ref z), a1, a2, a3, a4] (.ref z :: st) S P := rn_s dq_Model_sheet_47 rfl rfl rfl
theorem dq_Model_sheet_48 : decode (km_c mm_Model_sheet) 48 = .ok (.getfield 71, 3) := by decide +kernel
theorem sq_Model_sheet_48_45 (ho : sx_o o pl kp) : rn (lt_G o L) mm_Model_sheet 48 lv (.ref 45 :: st) (sx pl kp I A) P ↔ rn (lt_G o L) mm_Model_sheet 51 lv (.ref 64 :: st) (sx pl kp I A) P := rx_get (h := "") (ci := 10) (k := 29) dq_Model_sheet_48 (by decide +kernel) ho (up_b (by decide)) rfl rfl (fl_r (by decide) (by decide) (by decide) (by decide))
theorem dq_Model_sheet_51 : decode (km_c mm_Model_sheet) 51 = .ok (.bipush 24, 2) := by decide +kernel
theorem sq_Model_sheet_51 : rn G mm_Model_sheet 51 lv st S P ↔ rn G mm_Model_sheet 53 lv (.int (nI 24) :: st) S P := rn_s dq_Model_sheet_51 rfl rfl rfl
theorem dq_Model_sheet_53 : decode (km_c mm_Model_sheet) 53 = .ok (.iload_n 1, 1) := by decide +kernel
theorem sq_Model_sheet_53 : rn G mm_Model_sheet 53 [a0, some (.int x), a2, a3, a4] st S P ↔ rn G mm_Model_sheet 54 [a0, some (.int x), a2, a3, a4] (.int x :: st) S P := rn_s dq_Model_sheet_53 rfl rfl rfl
theorem dq_Model_sheet_54 : decode (km_c mm_Model_sheet) 54 = .ok (.imul, 1) := by decide +kernel
theorem sq_Model_sheet_54 : rn G mm_Model_sheet 54 lv (.int x2 :: .int x :: st) S P ↔ rn G mm_Model_sheet 55 lv (.int (x * x2) :: st) S P := rn_s dq_Model_sheet_54 rfl rfl rfl
theorem dq_Model_sheet_55 : decode (km_c mm_Model_sheet) 55 = .ok (.iload 4, 2) := by decide +kernel
theorem sq_Model_sheet_55 : rn G mm_Model_sheet 55 [a0, a1, a2, a3, some (.int x)] st S P ↔ rn G mm_Model_sheet 57 [a0, a1, a2, a3, some (.int x)] (.int x :: st) S P := rn_s dq_Model_sheet_55 rfl rfl rfl
theorem dq_Model_sheet_57 : decode (km_c mm_Model_sheet) 57 = .ok (.iadd, 1) := by decide +kernel
theorem sq_Model_sheet_57 : rn G mm_Model_sheet 57 lv (.int x2 :: .int x :: st) S P ↔ rn G mm_Model_sheet 58 lv (.int (x + x2) :: st) S P := rn_s dq_Model_sheet_57 rfl rfl rfl
theorem dq_Model_sheet_58 : decode (km_c mm_Model_sheet) 58 = .ok (.iconst 0, 1) := by decide +kernel
theorem sq_Model_sheet_58 : rn G mm_Model_sheet 58 lv st S P ↔ rn G mm_Model_sheet 59 lv (.int (nI 0) :: st) S P := rn_s dq_Model_sheet_58 rfl rfl rfl
theorem dq_Model_sheet_59 : decode (km_c mm_Model_sheet) 59 = .ok (.iastore, 1) := by decide +kernel
theorem sq_Model_sheet_59 (ho : sx_o o pl kp) (hk : ak L a = 0) (hu : sx_up pl kp a = true) (hc : c < ln L a) (hn : ln L a < 2 ^ 31) : rn (lt_G o L) mm_Model_sheet 59 lv (.int x :: .int (nI c) :: .ref a :: st) (sx pl kp I A) P ↔ rn (lt_G o L) mm_Model_sheet 60 lv st (sx pl kp I (u2 A a c x)) P := rx_ist dq_Model_sheet_59 ho hk hu hc hn
theorem dq_Model_sheet_60 : decode (km_c mm_Model_sheet) 60 = .ok (.iinc 4 1, 3) := by decide +kernel
theorem sq_Model_sheet_60n : rn G mm_Model_sheet 60 [a0, a1, a2, none, some (.int x)] st S P ↔ rn G mm_Model_sheet 63 [a0, a1, a2, none, some (.int (x + nI 1))] st S P := rn_s dq_Model_sheet_60 rfl rfl rfl
theorem sq_Model_sheet_60i : rn G mm_Model_sheet 60 [a0, a1, a2, some (.int x2), some (.int x)] st S P ↔ rn G mm_Model_sheet 63 [a0, a1, a2, some (.int x2), some (.int (x + nI 1))] st S P := rn_s dq_Model_sheet_60 rfl rfl rfl
theorem sq_Model_sheet_60r : rn G mm_Model_sheet 60 [a0, a1, a2, some (.ref z2), some (.int x)] st S P ↔ rn G mm_Model_sheet 63 [a0, a1, a2, some (.ref z2), some (.int (x + nI 1))] st S P := rn_s dq_Model_sheet_60 rfl rfl rfl
theorem dq_Model_sheet_63 : decode (km_c mm_Model_sheet) 63 = .ok (.goto (-23), 3) := by decide +kernel
theorem sq_Model_sheet_63 : rn G mm_Model_sheet 63 lv st S P ↔ rn G mm_Model_sheet 40 lv st S P := rn_s dq_Model_sheet_63 rfl rfl rfl
theorem dq_Model_sheet_66 : decode (km_c mm_Model_sheet) 66 = .ok (.iload_n 3, 1) := by decide +kernel
theorem sq_Model_sheet_66 : rn G mm_Model_sheet 66 [a0, a1, a2, some (.int x), a4] st S P ↔ rn G mm_Model_sheet 67 [a0, a1, a2, some (.int x), a4] (.int x :: st) S P := rn_s dq_Model_sheet_66 rfl rfl rfl
theorem dq_Model_sheet_67 : decode (km_c mm_Model_sheet) 67 = .ok (.ireturn, 1) := by decide +kernel
theorem sq_Model_sheet_67 : rn G mm_Model_sheet 67 lv [.int x] S P ↔ P (some (.int x)) S := rn_ir dq_Model_sheet_67 rfl
theorem dq_Model_isSheet_0 : decode (km_c mm_Model_isSheet) 0 = .ok (.iload_n 0, 1) := by decide +kernel
theorem sq_Model_isSheet_0 : rn G mm_Model_isSheet 0 [some (.int x), a1] st S P ↔ rn G mm_Model_isSheet 1 [some (.int x), a1] (.int x :: st) S P := rn_s dq_Model_isSheet_0 rfl rfl rfl
theorem dq_Model_isSheet_1 : decode (km_c mm_Model_isSheet) 1 = .ok (.i2l, 1) := by decide +kernel
theorem sq_Model_isSheet_1 : rn G mm_Model_isSheet 1 lv (.int x :: st) S P ↔ rn G mm_Model_isSheet 2 lv (.long x.toInt64 :: st) S P := rn_s dq_Model_isSheet_1 rfl rfl rfl
theorem dq_Model_isSheet_2 : decode (km_c mm_Model_isSheet) 2 = .ok (.lconst 0, 1) := by decide +kernel
theorem sq_Model_isSheet_2 : rn G mm_Model_isSheet 2 lv st S P ↔ rn G mm_Model_isSheet 3 lv (.long (0) :: st) S P := rn_s dq_Model_isSheet_2 rfl rfl rfl
theorem dq_Model_isSheet_3 : decode (km_c mm_Model_isSheet) 3 = .ok (.ldc2_w 233, 3) := by decide +kernel
theorem sq_Model_isSheet_3 : rn G mm_Model_isSheet 3 lv st S P ↔ rn G mm_Model_isSheet 6 lv (.long (3) :: st) S P := rn_s dq_Model_isSheet_3 rfl rfl rfl
theorem dq_Model_isSheet_6 : decode (km_c mm_Model_isSheet) 6 = .ok (.invokestatic 76, 3) := by decide +kernel
theorem sq_Model_isSheet_6 {y1 : Int64} {y2 : Int64} {y3 : Int64} {v : Option Value} {S2 : ks_S} (hc : ev G mm_Model_in [.long y1, .long y2, .long y3] S v S2) (hst : kx_cat st ≤ 8) : rn G mm_Model_isSheet 6 lv (.long y3 :: .long y2 :: .long y1 :: st) S P ↔ rn G mm_Model_isSheet 9 lv (v.toList ++ st) S2 P := rn_cs (k := 1) (host := "") (E' := mm_Model_in) dq_Model_isSheet_6 (by decide) (by decide) rfl (ok_v rfl (by decide) (by decide) (Nat.le_add_left _ _) hst (Nat.le_of_ble_eq_true rfl) (Or.inl rfl)) rfl rfl hc
theorem dq_Model_isSheet_9 : decode (km_c mm_Model_isSheet) 9 = .ok (.ifCond .eq 19, 3) := by decide +kernel
theorem sq_Model_isSheet_9 : rn G mm_Model_isSheet 9 lv (.int x :: st) S P ↔ ((x = 0 → rn G mm_Model_isSheet 28 lv st S P) ∧ (¬ (x = 0) → rn G mm_Model_isSheet 12 lv st S P)) := rn_b (off := 19) dq_Model_isSheet_9 rfl rfl rfl rfl
theorem dq_Model_isSheet_12 : decode (km_c mm_Model_isSheet) 12 = .ok (.iload_n 1, 1) := by decide +kernel
theorem sq_Model_isSheet_12 : rn G mm_Model_isSheet 12 [a0, some (.int x)] st S P ↔ rn G mm_Model_isSheet 13 [a0, some (.int x)] (.int x :: st) S P := rn_s dq_Model_isSheet_12 rfl rfl rfl
theorem dq_Model_isSheet_13 : decode (km_c mm_Model_isSheet) 13 = .ok (.i2l, 1) := by decide +kernel
theorem sq_Model_isSheet_13 : rn G mm_Model_isSheet 13 lv (.int x :: st) S P ↔ rn G mm_Model_isSheet 14 lv (.long x.toInt64 :: st) S P := rn_s dq_Model_isSheet_13 rfl rfl rfl
theorem dq_Model_isSheet_14 : decode (km_c mm_Model_isSheet) 14 = .ok (.lconst 0, 1) := by decide +kernel
theorem sq_Model_isSheet_14 : rn G mm_Model_isSheet 14 lv st S P ↔ rn G mm_Model_isSheet 15 lv (.long (0) :: st) S P := rn_s dq_Model_isSheet_14 rfl rfl rfl
theorem dq_Model_isSheet_15 : decode (km_c mm_Model_isSheet) 15 = .ok (.ldc2_w 263, 3) := by decide +kernel
theorem sq_Model_isSheet_15 : rn G mm_Model_isSheet 15 lv st S P ↔ rn G mm_Model_isSheet 18 lv (.long (2) :: st) S P := rn_s dq_Model_isSheet_15 rfl rfl rfl
theorem dq_Model_isSheet_18 : decode (km_c mm_Model_isSheet) 18 = .ok (.invokestatic 76, 3) := by decide +kernel
theorem sq_Model_isSheet_18 {y1 : Int64} {y2 : Int64} {y3 : Int64} {v : Option Value} {S2 : ks_S} (hc : ev G mm_Model_in [.long y1, .long y2, .long y3] S v S2) (hst : kx_cat st ≤ 8) : rn G mm_Model_isSheet 18 lv (.long y3 :: .long y2 :: .long y1 :: st) S P ↔ rn G mm_Model_isSheet 21 lv (v.toList ++ st) S2 P := rn_cs (k := 1) (host := "") (E' := mm_Model_in) dq_Model_isSheet_18 (by decide) (by decide) rfl (ok_v rfl (by decide) (by decide) (Nat.le_add_left _ _) hst (Nat.le_of_ble_eq_true rfl) (Or.inl rfl)) rfl rfl hc
theorem dq_Model_isSheet_21 : decode (km_c mm_Model_isSheet) 21 = .ok (.ifCond .eq 7, 3) := by decide +kernel
theorem sq_Model_isSheet_21 : rn G mm_Model_isSheet 21 lv (.int x :: st) S P ↔ ((x = 0 → rn G mm_Model_isSheet 28 lv st S P) ∧ (¬ (x = 0) → rn G mm_Model_isSheet 24 lv st S P)) := rn_b (off := 7) dq_Model_isSheet_21 rfl rfl rfl rfl
theorem dq_Model_isSheet_24 : decode (km_c mm_Model_isSheet) 24 = .ok (.iconst 1, 1) := by decide +kernel
theorem sq_Model_isSheet_24 : rn G mm_Model_isSheet 24 lv st S P ↔ rn G mm_Model_isSheet 25 lv (.int (nI 1) :: st) S P := rn_s dq_Model_isSheet_24 rfl rfl rfl
theorem dq_Model_isSheet_25 : decode (km_c mm_Model_isSheet) 25 = .ok (.goto 4, 3) := by decide +kernel
theorem sq_Model_isSheet_25 : rn G mm_Model_isSheet 25 lv st S P ↔ rn G mm_Model_isSheet 29 lv st S P := rn_s dq_Model_isSheet_25 rfl rfl rfl
theorem dq_Model_isSheet_28 : decode (km_c mm_Model_isSheet) 28 = .ok (.iconst 0, 1) := by decide +kernel
theorem sq_Model_isSheet_28 : rn G mm_Model_isSheet 28 lv st S P ↔ rn G mm_Model_isSheet 29 lv (.int (nI 0) :: st) S P := rn_s dq_Model_isSheet_28 rfl rfl rfl
theorem dq_Model_isSheet_29 : decode (km_c mm_Model_isSheet) 29 = .ok (.ireturn, 1) := by decide +kernel
theorem sq_Model_isSheet_29_0 : rn G mm_Model_isSheet 29 lv [.int (nI 0)] S P ↔ P (some (.int (nI 0))) S := rn_ir dq_Model_isSheet_29 (by decide)
theorem sq_Model_isSheet_29_1 : rn G mm_Model_isSheet 29 lv [.int (nI 1)] S P ↔ P (some (.int (nI 1))) S := rn_ir dq_Model_isSheet_29 (by decide)
theorem dq_Model_drop_0 : decode (km_c mm_Model_drop) 0 = .ok (.iload_n 1, 1) := by decide +kernel
theorem sq_Model_drop_0 : rn G mm_Model_drop 0 [a0, some (.int x)] st S P ↔ rn G mm_Model_drop 1 [a0, some (.int x)] (.int x :: st) S P := rn_s dq_Model_drop_0 rfl rfl rfl
theorem dq_Model_drop_1 : decode (km_c mm_Model_drop) 1 = .ok (.i2l, 1) := by decide +kernel
theorem sq_Model_drop_1 : rn G mm_Model_drop 1 lv (.int x :: st) S P ↔ rn G mm_Model_drop 2 lv (.long x.toInt64 :: st) S P := rn_s dq_Model_drop_1 rfl rfl rfl
theorem dq_Model_drop_2 : decode (km_c mm_Model_drop) 2 = .ok (.lconst 0, 1) := by decide +kernel
theorem sq_Model_drop_2 : rn G mm_Model_drop 2 lv st S P ↔ rn G mm_Model_drop 3 lv (.long (0) :: st) S P := rn_s dq_Model_drop_2 rfl rfl rfl
theorem dq_Model_drop_3 : decode (km_c mm_Model_drop) 3 = .ok (.ldc2_w 233, 3) := by decide +kernel
theorem sq_Model_drop_3 : rn G mm_Model_drop 3 lv st S P ↔ rn G mm_Model_drop 6 lv (.long (3) :: st) S P := rn_s dq_Model_drop_3 rfl rfl rfl
theorem dq_Model_drop_6 : decode (km_c mm_Model_drop) 6 = .ok (.invokestatic 76, 3) := by decide +kernel
theorem sq_Model_drop_6 {y1 : Int64} {y2 : Int64} {y3 : Int64} {v : Option Value} {S2 : ks_S} (hc : ev G mm_Model_in [.long y1, .long y2, .long y3] S v S2) (hst : kx_cat st ≤ 8) : rn G mm_Model_drop 6 lv (.long y3 :: .long y2 :: .long y1 :: st) S P ↔ rn G mm_Model_drop 9 lv (v.toList ++ st) S2 P := rn_cs (k := 1) (host := "") (E' := mm_Model_in) dq_Model_drop_6 (by decide) (by decide) rfl (ok_v rfl (by decide) (by decide) (Nat.le_add_left _ _) hst (Nat.le_of_ble_eq_true rfl) (Or.inl rfl)) rfl rfl hc
theorem dq_Model_drop_9 : decode (km_c mm_Model_drop) 9 = .ok (.ifCond .ne 5, 3) := by decide +kernel
theorem sq_Model_drop_9 : rn G mm_Model_drop 9 lv (.int x :: st) S P ↔ ((¬ x = 0 → rn G mm_Model_drop 14 lv st S P) ∧ (¬ (¬ x = 0) → rn G mm_Model_drop 12 lv st S P)) := rn_b (off := 5) dq_Model_drop_9 rfl rfl rfl rfl
theorem dq_Model_drop_12 : decode (km_c mm_Model_drop) 12 = .ok (.iconst (-1), 1) := by decide +kernel
theorem sq_Model_drop_12 : rn G mm_Model_drop 12 lv st S P ↔ rn G mm_Model_drop 13 lv (.int ((-1)) :: st) S P := rn_s dq_Model_drop_12 rfl rfl rfl
theorem dq_Model_drop_13 : decode (km_c mm_Model_drop) 13 = .ok (.ireturn, 1) := by decide +kernel
theorem sq_Model_drop_13 : rn G mm_Model_drop 13 lv [.int x] S P ↔ P (some (.int x)) S := rn_ir dq_Model_drop_13 rfl
theorem dq_Model_drop_14 : decode (km_c mm_Model_drop) 14 = .ok (.aload_n 0, 1) := by decide +kernel
theorem sq_Model_drop_14 : rn G mm_Model_drop 14 [some (.ref z), a1] st S P ↔ rn G mm_Model_drop 15 [some (.ref z), a1] (.ref z :: st) S P := rn_s dq_Model_drop_14 rfl rfl rfl
theorem dq_Model_drop_15 : decode (km_c mm_Model_drop) 15 = .ok (.getfield 65, 3) := by decide +kernel
theorem sq_Model_drop_15_45 (ho : sx_o o pl kp) : rn (lt_G o L) mm_Model_drop 15 lv (.ref 45 :: st) (sx pl kp I A) P ↔ rn (lt_G o L) mm_Model_drop 18 lv (.ref 62 :: st) (sx pl kp I A) P := rx_get (h := "") (ci := 10) (k := 27) dq_Model_drop_15 (by decide +kernel) ho (up_b (by decide)) rfl rfl (fl_r (by decide) (by decide) (by decide) (by decide))
theorem dq_Model_drop_18 : decode (km_c mm_Model_drop) 18 = .ok (.iload_n 1, 1) := by decide +kernel
theorem sq_Model_drop_18 : rn G mm_Model_drop 18 [a0, some (.int x)] st S P ↔ rn G mm_Model_drop 19 [a0, some (.int x)] (.int x :: st) S P := rn_s dq_Model_drop_18 rfl rfl rfl
theorem dq_Model_drop_19 : decode (km_c mm_Model_drop) 19 = .ok (.iaload, 1) := by decide +kernel
theorem sq_Model_drop_19 (ho : sx_o o pl kp) (hk : ak L a = 0) (hu : sx_up pl kp a = true ∨ 1000 ≤ a) (hc : c < ln L a) (hn : ln L a < 2 ^ 31) : rn (lt_G o L) mm_Model_drop 19 lv (.int (nI c) :: .ref a :: st) (sx pl kp I A) P ↔ rn (lt_G o L) mm_Model_drop 20 lv (.int (A a c) :: st) (sx pl kp I A) P := rx_ild dq_Model_drop_19 ho hk hu hc hn
theorem dq_Model_drop_20 : decode (km_c mm_Model_drop) 20 = .ok (.ifCond .ge 6, 3) := by decide +kernel
theorem sq_Model_drop_20 : rn G mm_Model_drop 20 lv (.int x :: st) S P ↔ ((0 ≤ x → rn G mm_Model_drop 26 lv st S P) ∧ (¬ (0 ≤ x) → rn G mm_Model_drop 23 lv st S P)) := rn_b (off := 6) dq_Model_drop_20 rfl rfl rfl rfl
theorem dq_Model_drop_23 : decode (km_c mm_Model_drop) 23 = .ok (.bipush (-11), 2) := by decide +kernel
theorem sq_Model_drop_23 : rn G mm_Model_drop 23 lv st S P ↔ rn G mm_Model_drop 25 lv (.int ((-11)) :: st) S P := rn_s dq_Model_drop_23 rfl rfl rfl
theorem dq_Model_drop_25 : decode (km_c mm_Model_drop) 25 = .ok (.ireturn, 1) := by decide +kernel
theorem sq_Model_drop_25 : rn G mm_Model_drop 25 lv [.int x] S P ↔ P (some (.int x)) S := rn_ir dq_Model_drop_25 rfl
theorem dq_Model_drop_26 : decode (km_c mm_Model_drop) 26 = .ok (.aload_n 0, 1) := by decide +kernel
theorem sq_Model_drop_26 : rn G mm_Model_drop 26 [some (.ref z), a1] st S P ↔ rn G mm_Model_drop 27 [some (.ref z), a1] (.ref z :: st) S P := rn_s dq_Model_drop_26 rfl rfl rfl
theorem dq_Model_drop_27 : decode (km_c mm_Model_drop) 27 = .ok (.getfield 65, 3) := by decide +kernel
theorem sq_Model_drop_27_45 (ho : sx_o o pl kp) : rn (lt_G o L) mm_Model_drop 27 lv (.ref 45 :: st) (sx pl kp I A) P ↔ rn (lt_G o L) mm_Model_drop 30 lv (.ref 62 :: st) (sx pl kp I A) P := rx_get (h := "") (ci := 10) (k := 27) dq_Model_drop_27 (by decide +kernel) ho (up_b (by decide)) rfl rfl (fl_r (by decide) (by decide) (by decide) (by decide))
theorem dq_Model_drop_30 : decode (km_c mm_Model_drop) 30 = .ok (.iload_n 1, 1) := by decide +kernel
theorem sq_Model_drop_30 : rn G mm_Model_drop 30 [a0, some (.int x)] st S P ↔ rn G mm_Model_drop 31 [a0, some (.int x)] (.int x :: st) S P := rn_s dq_Model_drop_30 rfl rfl rfl
theorem dq_Model_drop_31 : decode (km_c mm_Model_drop) 31 = .ok (.iconst (-1), 1) := by decide +kernel
theorem sq_Model_drop_31 : rn G mm_Model_drop 31 lv st S P ↔ rn G mm_Model_drop 32 lv (.int ((-1)) :: st) S P := rn_s dq_Model_drop_31 rfl rfl rfl
theorem dq_Model_drop_32 : decode (km_c mm_Model_drop) 32 = .ok (.iastore, 1) := by decide +kernel
theorem sq_Model_drop_32 (ho : sx_o o pl kp) (hk : ak L a = 0) (hu : sx_up pl kp a = true) (hc : c < ln L a) (hn : ln L a < 2 ^ 31) : rn (lt_G o L) mm_Model_drop 32 lv (.int x :: .int (nI c) :: .ref a :: st) (sx pl kp I A) P ↔ rn (lt_G o L) mm_Model_drop 33 lv st (sx pl kp I (u2 A a c x)) P := rx_ist dq_Model_drop_32 ho hk hu hc hn
theorem dq_Model_drop_33 : decode (km_c mm_Model_drop) 33 = .ok (.aload_n 0, 1) := by decide +kernel
theorem sq_Model_drop_33 : rn G mm_Model_drop 33 [some (.ref z), a1] st S P ↔ rn G mm_Model_drop 34 [some (.ref z), a1] (.ref z :: st) S P := rn_s dq_Model_drop_33 rfl rfl rfl
theorem dq_Model_drop_34 : decode (km_c mm_Model_drop) 34 = .ok (.getfield 68, 3) := by decide +kernel
theorem sq_Model_drop_34_45 (ho : sx_o o pl kp) : rn (lt_G o L) mm_Model_drop 34 lv (.ref 45 :: st) (sx pl kp I A) P ↔ rn (lt_G o L) mm_Model_drop 37 lv (.ref 63 :: st) (sx pl kp I A) P := rx_get (h := "") (ci := 10) (k := 28) dq_Model_drop_34 (by decide +kernel) ho (up_b (by decide)) rfl rfl (fl_r (by decide) (by decide) (by decide) (by decide))
theorem dq_Model_drop_37 : decode (km_c mm_Model_drop) 37 = .ok (.iload_n 1, 1) := by decide +kernel
theorem sq_Model_drop_37 : rn G mm_Model_drop 37 [a0, some (.int x)] st S P ↔ rn G mm_Model_drop 38 [a0, some (.int x)] (.int x :: st) S P := rn_s dq_Model_drop_37 rfl rfl rfl
theorem dq_Model_drop_38 : decode (km_c mm_Model_drop) 38 = .ok (.iaload, 1) := by decide +kernel
theorem sq_Model_drop_38 (ho : sx_o o pl kp) (hk : ak L a = 0) (hu : sx_up pl kp a = true ∨ 1000 ≤ a) (hc : c < ln L a) (hn : ln L a < 2 ^ 31) : rn (lt_G o L) mm_Model_drop 38 lv (.int (nI c) :: .ref a :: st) (sx pl kp I A) P ↔ rn (lt_G o L) mm_Model_drop 39 lv (.int (A a c) :: st) (sx pl kp I A) P := rx_ild dq_Model_drop_38 ho hk hu hc hn
theorem dq_Model_drop_39 : decode (km_c mm_Model_drop) 39 = .ok (.ireturn, 1) := by decide +kernel
theorem sq_Model_drop_39 : rn G mm_Model_drop 39 lv [.int x] S P ↔ P (some (.int x)) S := rn_ir dq_Model_drop_39 rfl
theorem dq_Model_item_0 : decode (km_c mm_Model_item) 0 = .ok (.iload_n 1, 1) := by decide +kernel
theorem sq_Model_item_0 : rn G mm_Model_item 0 [a0, some (.int x), a2, a3, a4, a5] st S P ↔ rn G mm_Model_item 1 [a0, some (.int x), a2, a3, a4, a5] (.int x :: st) S P := rn_s dq_Model_item_0 rfl rfl rfl
theorem dq_Model_item_1 : decode (km_c mm_Model_item) 1 = .ok (.iload_n 2, 1) := by decide +kernel
theorem sq_Model_item_1 : rn G mm_Model_item 1 [a0, a1, some (.int x), a3, a4, a5] st S P ↔ rn G mm_Model_item 2 [a0, a1, some (.int x), a3, a4, a5] (.int x :: st) S P := rn_s dq_Model_item_1 rfl rfl rfl
theorem dq_Model_item_2 : decode (km_c mm_Model_item) 2 = .ok (.invokestatic 265, 3) := by decide +kernel
theorem sq_Model_item_2 {x1 : Int32} {x2 : Int32} {v : Option Value} {S2 : ks_S} (hc : ev G mm_Model_isSheet [.int x1, .int x2] S v S2) (hst : kx_cat st ≤ 8) : rn G mm_Model_item 2 lv (.int x2 :: .int x1 :: st) S P ↔ rn G mm_Model_item 5 lv (v.toList ++ st) S2 P := rn_cs (k := 1) (host := "") (E' := mm_Model_isSheet) dq_Model_item_2 (by decide) (by decide) rfl (ok_v rfl (by decide) (by decide) (Nat.le_add_left _ _) hst (Nat.le_of_ble_eq_true rfl) (Or.inl rfl)) rfl rfl hc
theorem dq_Model_item_5 : decode (km_c mm_Model_item) 5 = .ok (.ifCond .ne 5, 3) := by decide +kernel
theorem sq_Model_item_5 : rn G mm_Model_item 5 lv (.int x :: st) S P ↔ ((¬ x = 0 → rn G mm_Model_item 10 lv st S P) ∧ (¬ (¬ x = 0) → rn G mm_Model_item 8 lv st S P)) := rn_b (off := 5) dq_Model_item_5 rfl rfl rfl rfl
theorem dq_Model_item_8 : decode (km_c mm_Model_item) 8 = .ok (.iconst (-1), 1) := by decide +kernel
theorem sq_Model_item_8 : rn G mm_Model_item 8 lv st S P ↔ rn G mm_Model_item 9 lv (.int ((-1)) :: st) S P := rn_s dq_Model_item_8 rfl rfl rfl
theorem dq_Model_item_9 : decode (km_c mm_Model_item) 9 = .ok (.ireturn, 1) := by decide +kernel
theorem sq_Model_item_9 : rn G mm_Model_item 9 lv [.int x] S P ↔ P (some (.int x)) S := rn_ir dq_Model_item_9 rfl
theorem dq_Model_item_10 : decode (km_c mm_Model_item) 10 = .ok (.aload_n 0, 1) := by decide +kernel
theorem sq_Model_item_10 : rn G mm_Model_item 10 [some (.ref z), a1, a2, a3, a4, a5] st S P ↔ rn G mm_Model_item 11 [some (.ref z), a1, a2, a3, a4, a5] (.ref z :: st) S P := rn_s dq_Model_item_10 rfl rfl rfl
theorem dq_Model_item_11 : decode (km_c mm_Model_item) 11 = .ok (.iload_n 1, 1) := by decide +kernel
theorem sq_Model_item_11 : rn G mm_Model_item 11 [a0, some (.int x), a2, a3, a4, a5] st S P ↔ rn G mm_Model_item 12 [a0, some (.int x), a2, a3, a4, a5] (.int x :: st) S P := rn_s dq_Model_item_11 rfl rfl rfl
theorem dq_Model_item_12 : decode (km_c mm_Model_item) 12 = .ok (.iload_n 2, 1) := by decide +kernel
theorem sq_Model_item_12 : rn G mm_Model_item 12 [a0, a1, some (.int x), a3, a4, a5] st S P ↔ rn G mm_Model_item 13 [a0, a1, some (.int x), a3, a4, a5] (.int x :: st) S P := rn_s dq_Model_item_12 rfl rfl rfl
theorem dq_Model_item_13 : decode (km_c mm_Model_item) 13 = .ok (.iload_n 3, 1) := by decide +kernel
theorem sq_Model_item_13 : rn G mm_Model_item 13 [a0, a1, a2, some (.int x), a4, a5] st S P ↔ rn G mm_Model_item 14 [a0, a1, a2, some (.int x), a4, a5] (.int x :: st) S P := rn_s dq_Model_item_13 rfl rfl rfl
theorem dq_Model_item_14 : decode (km_c mm_Model_item) 14 = .ok (.iconst 1, 1) := by decide +kernel
theorem sq_Model_item_14 : rn G mm_Model_item 14 lv st S P ↔ rn G mm_Model_item 15 lv (.int (nI 1) :: st) S P := rn_s dq_Model_item_14 rfl rfl rfl
theorem dq_Model_item_15 : decode (km_c mm_Model_item) 15 = .ok (.invokevirtual 268, 3) := by decide +kernel
theorem sq_Model_item_15_45 {x1 : Int32} {x2 : Int32} {x3 : Int32} {x4 : Int32} {v : Option Value} {S2 : ks_S} (hc : ev (lt_G o L) mm_Model_lacksRow [.ref 45, .int x1, .int x2, .int x3, .int x4] (sx pl kp I A) v S2) (ho : sx_o o pl kp) (hst : kx_cat st ≤ 8) : rn (lt_G o L) mm_Model_item 15 lv (.int x4 :: .int x3 :: .int x2 :: .int x1 :: .ref 45 :: st) (sx pl kp I A) P ↔ rn (lt_G o L) mm_Model_item 18 lv (v.toList ++ st) S2 P := rn_cv (k := 0) (host := "") (E' := mm_Model_lacksRow) dq_Model_item_15 rfl (ok_v rfl (by decide) (by decide) (Nat.le_add_left _ _) hst (Nat.le_of_ble_eq_true rfl) (Or.inr (rc_v ho (up_b (by decide)) rfl))) rfl rfl hc
theorem dq_Model_item_18 : decode (km_c mm_Model_item) 18 = .ok (.istore 5, 2) := by decide +kernel
theorem sq_Model_item_18n : rn G mm_Model_item 18 [a0, a1, a2, a3, none, a5] (.int x :: st) S P ↔ rn G mm_Model_item 20 [a0, a1, a2, a3, none, some (.int x)] st S P := rn_s dq_Model_item_18 rfl rfl rfl
theorem sq_Model_item_18i : rn G mm_Model_item 18 [a0, a1, a2, a3, some (.int x2), a5] (.int x :: st) S P ↔ rn G mm_Model_item 20 [a0, a1, a2, a3, some (.int x2), some (.int x)] st S P := rn_s dq_Model_item_18 rfl rfl rfl
theorem sq_Model_item_18r : rn G mm_Model_item 18 [a0, a1, a2, a3, some (.ref z2), a5] (.int x :: st) S P ↔ rn G mm_Model_item 20 [a0, a1, a2, a3, some (.ref z2), some (.int x)] st S P := rn_s dq_Model_item_18 rfl rfl rfl
theorem dq_Model_item_20 : decode (km_c mm_Model_item) 20 = .ok (.iload 5, 2) := by decide +kernel
theorem sq_Model_item_20 : rn G mm_Model_item 20 [a0, a1, a2, a3, a4, some (.int x)] st S P ↔ rn G mm_Model_item 22 [a0, a1, a2, a3, a4, some (.int x)] (.int x :: st) S P := rn_s dq_Model_item_20 rfl rfl rfl
theorem dq_Model_item_22 : decode (km_c mm_Model_item) 22 = .ok (.ifCond .ge 6, 3) := by decide +kernel
theorem sq_Model_item_22 : rn G mm_Model_item 22 lv (.int x :: st) S P ↔ ((0 ≤ x → rn G mm_Model_item 28 lv st S P) ∧ (¬ (0 ≤ x) → rn G mm_Model_item 25 lv st S P)) := rn_b (off := 6) dq_Model_item_22 rfl rfl rfl rfl
theorem dq_Model_item_25 : decode (km_c mm_Model_item) 25 = .ok (.iload 5, 2) := by decide +kernel
theorem sq_Model_item_25 : rn G mm_Model_item 25 [a0, a1, a2, a3, a4, some (.int x)] st S P ↔ rn G mm_Model_item 27 [a0, a1, a2, a3, a4, some (.int x)] (.int x :: st) S P := rn_s dq_Model_item_25 rfl rfl rfl
theorem dq_Model_item_27 : decode (km_c mm_Model_item) 27 = .ok (.ireturn, 1) := by decide +kernel
theorem sq_Model_item_27 : rn G mm_Model_item 27 lv [.int x] S P ↔ P (some (.int x)) S := rn_ir dq_Model_item_27 rfl
theorem dq_Model_item_28 : decode (km_c mm_Model_item) 28 = .ok (.aload_n 0, 1) := by decide +kernel
theorem sq_Model_item_28 : rn G mm_Model_item 28 [some (.ref z), a1, a2, a3, a4, a5] st S P ↔ rn G mm_Model_item 29 [some (.ref z), a1, a2, a3, a4, a5] (.ref z :: st) S P := rn_s dq_Model_item_28 rfl rfl rfl
theorem dq_Model_item_29 : decode (km_c mm_Model_item) 29 = .ok (.getfield 71, 3) := by decide +kernel
theorem sq_Model_item_29_45 (ho : sx_o o pl kp) : rn (lt_G o L) mm_Model_item 29 lv (.ref 45 :: st) (sx pl kp I A) P ↔ rn (lt_G o L) mm_Model_item 32 lv (.ref 64 :: st) (sx pl kp I A) P := rx_get (h := "") (ci := 10) (k := 29) dq_Model_item_29 (by decide +kernel) ho (up_b (by decide)) rfl rfl (fl_r (by decide) (by decide) (by decide) (by decide))
theorem dq_Model_item_32 : decode (km_c mm_Model_item) 32 = .ok (.bipush 24, 2) := by decide +kernel
theorem sq_Model_item_32 : rn G mm_Model_item 32 lv st S P ↔ rn G mm_Model_item 34 lv (.int (nI 24) :: st) S P := rn_s dq_Model_item_32 rfl rfl rfl
theorem dq_Model_item_34 : decode (km_c mm_Model_item) 34 = .ok (.iload_n 1, 1) := by decide +kernel
theorem sq_Model_item_34 : rn G mm_Model_item 34 [a0, some (.int x), a2, a3, a4, a5] st S P ↔ rn G mm_Model_item 35 [a0, some (.int x), a2, a3, a4, a5] (.int x :: st) S P := rn_s dq_Model_item_34 rfl rfl rfl
theorem dq_Model_item_35 : decode (km_c mm_Model_item) 35 = .ok (.imul, 1) := by decide +kernel
theorem sq_Model_item_35 : rn G mm_Model_item 35 lv (.int x2 :: .int x :: st) S P ↔ rn G mm_Model_item 36 lv (.int (x * x2) :: st) S P := rn_s dq_Model_item_35 rfl rfl rfl
theorem dq_Model_item_36 : decode (km_c mm_Model_item) 36 = .ok (.iload_n 3, 1) := by decide +kernel
theorem sq_Model_item_36 : rn G mm_Model_item 36 [a0, a1, a2, some (.int x), a4, a5] st S P ↔ rn G mm_Model_item 37 [a0, a1, a2, some (.int x), a4, a5] (.int x :: st) S P := rn_s dq_Model_item_36 rfl rfl rfl
theorem dq_Model_item_37 : decode (km_c mm_Model_item) 37 = .ok (.iadd, 1) := by decide +kernel
theorem sq_Model_item_37 : rn G mm_Model_item 37 lv (.int x2 :: .int x :: st) S P ↔ rn G mm_Model_item 38 lv (.int (x + x2) :: st) S P := rn_s dq_Model_item_37 rfl rfl rfl
theorem dq_Model_item_38 : decode (km_c mm_Model_item) 38 = .ok (.iload_n 2, 1) := by decide +kernel
theorem sq_Model_item_38 : rn G mm_Model_item 38 [a0, a1, some (.int x), a3, a4, a5] st S P ↔ rn G mm_Model_item 39 [a0, a1, some (.int x), a3, a4, a5] (.int x :: st) S P := rn_s dq_Model_item_38 rfl rfl rfl
theorem dq_Model_item_39 : decode (km_c mm_Model_item) 39 = .ok (.iload 4, 2) := by decide +kernel
theorem sq_Model_item_39 : rn G mm_Model_item 39 [a0, a1, a2, a3, some (.int x), a5] st S P ↔ rn G mm_Model_item 41 [a0, a1, a2, a3, some (.int x), a5] (.int x :: st) S P := rn_s dq_Model_item_39 rfl rfl rfl
theorem dq_Model_item_41 : decode (km_c mm_Model_item) 41 = .ok (.invokestatic 272, 3) := by decide +kernel
theorem sq_Model_item_41 {x1 : Int32} {x2 : Int32} {v : Option Value} {S2 : ks_S} (hc : ev G mm_Model_asLane [.int x1, .int x2] S v S2) (hst : kx_cat st ≤ 8) : rn G mm_Model_item 41 lv (.int x2 :: .int x1 :: st) S P ↔ rn G mm_Model_item 44 lv (v.toList ++ st) S2 P := rn_cs (k := 1) (host := "") (E' := mm_Model_asLane) dq_Model_item_41 (by decide) (by decide) rfl (ok_v rfl (by decide) (by decide) (Nat.le_add_left _ _) hst (Nat.le_of_ble_eq_true rfl) (Or.inl rfl)) rfl rfl hc
theorem dq_Model_item_44 : decode (km_c mm_Model_item) 44 = .ok (.iastore, 1) := by decide +kernel
theorem sq_Model_item_44 (ho : sx_o o pl kp) (hk : ak L a = 0) (hu : sx_up pl kp a = true) (hc : c < ln L a) (hn : ln L a < 2 ^ 31) : rn (lt_G o L) mm_Model_item 44 lv (.int x :: .int (nI c) :: .ref a :: st) (sx pl kp I A) P ↔ rn (lt_G o L) mm_Model_item 45 lv st (sx pl kp I (u2 A a c x)) P := rx_ist dq_Model_item_44 ho hk hu hc hn
theorem dq_Model_item_45 : decode (km_c mm_Model_item) 45 = .ok (.iconst 1, 1) := by decide +kernel
theorem sq_Model_item_45 : rn G mm_Model_item 45 lv st S P ↔ rn G mm_Model_item 46 lv (.int (nI 1) :: st) S P := rn_s dq_Model_item_45 rfl rfl rfl
theorem dq_Model_item_46 : decode (km_c mm_Model_item) 46 = .ok (.ireturn, 1) := by decide +kernel
theorem sq_Model_item_46 : rn G mm_Model_item 46 lv [.int x] S P ↔ P (some (.int x)) S := rn_ir dq_Model_item_46 rfl
theorem dq_Model_lacksRow_0 : decode (km_c mm_Model_lacksRow) 0 = .ok (.aload_n 0, 1) := by decide +kernel
theorem sq_Model_lacksRow_0 : rn G mm_Model_lacksRow 0 [some (.ref z), a1, a2, a3, a4] st S P ↔ rn G mm_Model_lacksRow 1 [some (.ref z), a1, a2, a3, a4] (.ref z :: st) S P := rn_s dq_Model_lacksRow_0 rfl rfl rfl
theorem dq_Model_lacksRow_1 : decode (km_c mm_Model_lacksRow) 1 = .ok (.getfield 65, 3) := by decide +kernel
theorem sq_Model_lacksRow_1_45 (ho : sx_o o pl kp) : rn (lt_G o L) mm_Model_lacksRow 1 lv (.ref 45 :: st) (sx pl kp I A) P ↔ rn (lt_G o L) mm_Model_lacksRow 4 lv (.ref 62 :: st) (sx pl kp I A) P := rx_get (h := "") (ci := 10) (k := 27) dq_Model_lacksRow_1 (by decide +kernel) ho (up_b (by decide)) rfl rfl (fl_r (by decide) (by decide) (by decide) (by decide))
theorem dq_Model_lacksRow_4 : decode (km_c mm_Model_lacksRow) 4 = .ok (.iload_n 1, 1) := by decide +kernel
theorem sq_Model_lacksRow_4 : rn G mm_Model_lacksRow 4 [a0, some (.int x), a2, a3, a4] st S P ↔ rn G mm_Model_lacksRow 5 [a0, some (.int x), a2, a3, a4] (.int x :: st) S P := rn_s dq_Model_lacksRow_4 rfl rfl rfl
theorem dq_Model_lacksRow_5 : decode (km_c mm_Model_lacksRow) 5 = .ok (.iaload, 1) := by decide +kernel
theorem sq_Model_lacksRow_5 (ho : sx_o o pl kp) (hk : ak L a = 0) (hu : sx_up pl kp a = true ∨ 1000 ≤ a) (hc : c < ln L a) (hn : ln L a < 2 ^ 31) : rn (lt_G o L) mm_Model_lacksRow 5 lv (.int (nI c) :: .ref a :: st) (sx pl kp I A) P ↔ rn (lt_G o L) mm_Model_lacksRow 6 lv (.int (A a c) :: st) (sx pl kp I A) P := rx_ild dq_Model_lacksRow_5 ho hk hu hc hn
theorem dq_Model_lacksRow_6 : decode (km_c mm_Model_lacksRow) 6 = .ok (.iload_n 2, 1) := by decide +kernel
theorem sq_Model_lacksRow_6 : rn G mm_Model_lacksRow 6 [a0, a1, some (.int x), a3, a4] st S P ↔ rn G mm_Model_lacksRow 7 [a0, a1, some (.int x), a3, a4] (.int x :: st) S P := rn_s dq_Model_lacksRow_6 rfl rfl rfl
theorem dq_Model_lacksRow_7 : decode (km_c mm_Model_lacksRow) 7 = .ok (.if_icmp .eq 20, 3) := by decide +kernel
theorem sq_Model_lacksRow_7 : rn G mm_Model_lacksRow 7 lv (.int x2 :: .int x :: st) S P ↔ ((x = x2 → rn G mm_Model_lacksRow 27 lv st S P) ∧ (¬ (x = x2) → rn G mm_Model_lacksRow 10 lv st S P)) := rn_b (off := 20) dq_Model_lacksRow_7 rfl rfl rfl rfl
theorem dq_Model_lacksRow_10 : decode (km_c mm_Model_lacksRow) 10 = .ok (.aload_n 0, 1) := by decide +kernel
theorem sq_Model_lacksRow_10 : rn G mm_Model_lacksRow 10 [some (.ref z), a1, a2, a3, a4] st S P ↔ rn G mm_Model_lacksRow 11 [some (.ref z), a1, a2, a3, a4] (.ref z :: st) S P := rn_s dq_Model_lacksRow_10 rfl rfl rfl
theorem dq_Model_lacksRow_11 : decode (km_c mm_Model_lacksRow) 11 = .ok (.getfield 65, 3) := by decide +kernel
theorem sq_Model_lacksRow_11_45 (ho : sx_o o pl kp) : rn (lt_G o L) mm_Model_lacksRow 11 lv (.ref 45 :: st) (sx pl kp I A) P ↔ rn (lt_G o L) mm_Model_lacksRow 14 lv (.ref 62 :: st) (sx pl kp I A) P := rx_get (h := "") (ci := 10) (k := 27) dq_Model_lacksRow_11 (by decide +kernel) ho (up_b (by decide)) rfl rfl (fl_r (by decide) (by decide) (by decide) (by decide))
theorem dq_Model_lacksRow_14 : decode (km_c mm_Model_lacksRow) 14 = .ok (.iload_n 1, 1) := by decide +kernel
theorem sq_Model_lacksRow_14 : rn G mm_Model_lacksRow 14 [a0, some (.int x), a2, a3, a4] st S P ↔ rn G mm_Model_lacksRow 15 [a0, some (.int x), a2, a3, a4] (.int x :: st) S P := rn_s dq_Model_lacksRow_14 rfl rfl rfl
theorem dq_Model_lacksRow_15 : decode (km_c mm_Model_lacksRow) 15 = .ok (.iaload, 1) := by decide +kernel
theorem sq_Model_lacksRow_15 (ho : sx_o o pl kp) (hk : ak L a = 0) (hu : sx_up pl kp a = true ∨ 1000 ≤ a) (hc : c < ln L a) (hn : ln L a < 2 ^ 31) : rn (lt_G o L) mm_Model_lacksRow 15 lv (.int (nI c) :: .ref a :: st) (sx pl kp I A) P ↔ rn (lt_G o L) mm_Model_lacksRow 16 lv (.int (A a c) :: st) (sx pl kp I A) P := rx_ild dq_Model_lacksRow_15 ho hk hu hc hn
theorem dq_Model_lacksRow_16 : decode (km_c mm_Model_lacksRow) 16 = .ok (.ifCond .ge 8, 3) := by decide +kernel
theorem sq_Model_lacksRow_16 : rn G mm_Model_lacksRow 16 lv (.int x :: st) S P ↔ ((0 ≤ x → rn G mm_Model_lacksRow 24 lv st S P) ∧ (¬ (0 ≤ x) → rn G mm_Model_lacksRow 19 lv st S P)) := rn_b (off := 8) dq_Model_lacksRow_16 rfl rfl rfl rfl
theorem dq_Model_lacksRow_19 : decode (km_c mm_Model_lacksRow) 19 = .ok (.bipush (-11), 2) := by decide +kernel
theorem sq_Model_lacksRow_19 : rn G mm_Model_lacksRow 19 lv st S P ↔ rn G mm_Model_lacksRow 21 lv (.int ((-11)) :: st) S P := rn_s dq_Model_lacksRow_19 rfl rfl rfl
theorem dq_Model_lacksRow_21 : decode (km_c mm_Model_lacksRow) 21 = .ok (.goto 5, 3) := by decide +kernel
theorem sq_Model_lacksRow_21 : rn G mm_Model_lacksRow 21 lv st S P ↔ rn G mm_Model_lacksRow 26 lv st S P := rn_s dq_Model_lacksRow_21 rfl rfl rfl
theorem dq_Model_lacksRow_24 : decode (km_c mm_Model_lacksRow) 24 = .ok (.bipush (-12), 2) := by decide +kernel
theorem sq_Model_lacksRow_24 : rn G mm_Model_lacksRow 24 lv st S P ↔ rn G mm_Model_lacksRow 26 lv (.int ((-12)) :: st) S P := rn_s dq_Model_lacksRow_24 rfl rfl rfl
theorem dq_Model_lacksRow_26 : decode (km_c mm_Model_lacksRow) 26 = .ok (.ireturn, 1) := by decide +kernel
theorem sq_Model_lacksRow_26 : rn G mm_Model_lacksRow 26 lv [.int x] S P ↔ P (some (.int x)) S := rn_ir dq_Model_lacksRow_26 rfl
theorem dq_Model_lacksRow_27 : decode (km_c mm_Model_lacksRow) 27 = .ok (.iload_n 3, 1) := by decide +kernel
theorem sq_Model_lacksRow_27 : rn G mm_Model_lacksRow 27 [a0, a1, a2, some (.int x), a4] st S P ↔ rn G mm_Model_lacksRow 28 [a0, a1, a2, some (.int x), a4] (.int x :: st) S P := rn_s dq_Model_lacksRow_27 rfl rfl rfl
theorem dq_Model_lacksRow_28 : decode (km_c mm_Model_lacksRow) 28 = .ok (.i2l, 1) := by decide +kernel
theorem sq_Model_lacksRow_28 : rn G mm_Model_lacksRow 28 lv (.int x :: st) S P ↔ rn G mm_Model_lacksRow 29 lv (.long x.toInt64 :: st) S P := rn_s dq_Model_lacksRow_28 rfl rfl rfl
theorem dq_Model_lacksRow_29 : decode (km_c mm_Model_lacksRow) 29 = .ok (.lconst 0, 1) := by decide +kernel
theorem sq_Model_lacksRow_29 : rn G mm_Model_lacksRow 29 lv st S P ↔ rn G mm_Model_lacksRow 30 lv (.long (0) :: st) S P := rn_s dq_Model_lacksRow_29 rfl rfl rfl
theorem dq_Model_lacksRow_30 : decode (km_c mm_Model_lacksRow) 30 = .ok (.aload_n 0, 1) := by decide +kernel
theorem sq_Model_lacksRow_30 : rn G mm_Model_lacksRow 30 [some (.ref z), a1, a2, a3, a4] st S P ↔ rn G mm_Model_lacksRow 31 [some (.ref z), a1, a2, a3, a4] (.ref z :: st) S P := rn_s dq_Model_lacksRow_30 rfl rfl rfl
theorem dq_Model_lacksRow_31 : decode (km_c mm_Model_lacksRow) 31 = .ok (.getfield 68, 3) := by decide +kernel
theorem sq_Model_lacksRow_31_45 (ho : sx_o o pl kp) : rn (lt_G o L) mm_Model_lacksRow 31 lv (.ref 45 :: st) (sx pl kp I A) P ↔ rn (lt_G o L) mm_Model_lacksRow 34 lv (.ref 63 :: st) (sx pl kp I A) P := rx_get (h := "") (ci := 10) (k := 28) dq_Model_lacksRow_31 (by decide +kernel) ho (up_b (by decide)) rfl rfl (fl_r (by decide) (by decide) (by decide) (by decide))
theorem dq_Model_lacksRow_34 : decode (km_c mm_Model_lacksRow) 34 = .ok (.iload_n 1, 1) := by decide +kernel
theorem sq_Model_lacksRow_34 : rn G mm_Model_lacksRow 34 [a0, some (.int x), a2, a3, a4] st S P ↔ rn G mm_Model_lacksRow 35 [a0, some (.int x), a2, a3, a4] (.int x :: st) S P := rn_s dq_Model_lacksRow_34 rfl rfl rfl
theorem dq_Model_lacksRow_35 : decode (km_c mm_Model_lacksRow) 35 = .ok (.iaload, 1) := by decide +kernel
theorem sq_Model_lacksRow_35 (ho : sx_o o pl kp) (hk : ak L a = 0) (hu : sx_up pl kp a = true ∨ 1000 ≤ a) (hc : c < ln L a) (hn : ln L a < 2 ^ 31) : rn (lt_G o L) mm_Model_lacksRow 35 lv (.int (nI c) :: .ref a :: st) (sx pl kp I A) P ↔ rn (lt_G o L) mm_Model_lacksRow 36 lv (.int (A a c) :: st) (sx pl kp I A) P := rx_ild dq_Model_lacksRow_35 ho hk hu hc hn
theorem dq_Model_lacksRow_36 : decode (km_c mm_Model_lacksRow) 36 = .ok (.iload 4, 2) := by decide +kernel
theorem sq_Model_lacksRow_36 : rn G mm_Model_lacksRow 36 [a0, a1, a2, a3, some (.int x)] st S P ↔ rn G mm_Model_lacksRow 38 [a0, a1, a2, a3, some (.int x)] (.int x :: st) S P := rn_s dq_Model_lacksRow_36 rfl rfl rfl
theorem dq_Model_lacksRow_38 : decode (km_c mm_Model_lacksRow) 38 = .ok (.isub, 1) := by decide +kernel
theorem sq_Model_lacksRow_38 : rn G mm_Model_lacksRow 38 lv (.int x2 :: .int x :: st) S P ↔ rn G mm_Model_lacksRow 39 lv (.int (x - x2) :: st) S P := rn_s dq_Model_lacksRow_38 rfl rfl rfl
theorem dq_Model_lacksRow_39 : decode (km_c mm_Model_lacksRow) 39 = .ok (.i2l, 1) := by decide +kernel
theorem sq_Model_lacksRow_39 : rn G mm_Model_lacksRow 39 lv (.int x :: st) S P ↔ rn G mm_Model_lacksRow 40 lv (.long x.toInt64 :: st) S P := rn_s dq_Model_lacksRow_39 rfl rfl rfl
theorem dq_Model_lacksRow_40 : decode (km_c mm_Model_lacksRow) 40 = .ok (.invokestatic 76, 3) := by decide +kernel
theorem sq_Model_lacksRow_40 {y1 : Int64} {y2 : Int64} {y3 : Int64} {v : Option Value} {S2 : ks_S} (hc : ev G mm_Model_in [.long y1, .long y2, .long y3] S v S2) (hst : kx_cat st ≤ 8) : rn G mm_Model_lacksRow 40 lv (.long y3 :: .long y2 :: .long y1 :: st) S P ↔ rn G mm_Model_lacksRow 43 lv (v.toList ++ st) S2 P := rn_cs (k := 1) (host := "") (E' := mm_Model_in) dq_Model_lacksRow_40 (by decide) (by decide) rfl (ok_v rfl (by decide) (by decide) (Nat.le_add_left _ _) hst (Nat.le_of_ble_eq_true rfl) (Or.inl rfl)) rfl rfl hc
theorem dq_Model_lacksRow_43 : decode (km_c mm_Model_lacksRow) 43 = .ok (.ifCond .eq 7, 3) := by decide +kernel
theorem sq_Model_lacksRow_43 : rn G mm_Model_lacksRow 43 lv (.int x :: st) S P ↔ ((x = 0 → rn G mm_Model_lacksRow 50 lv st S P) ∧ (¬ (x = 0) → rn G mm_Model_lacksRow 46 lv st S P)) := rn_b (off := 7) dq_Model_lacksRow_43 rfl rfl rfl rfl
theorem dq_Model_lacksRow_46 : decode (km_c mm_Model_lacksRow) 46 = .ok (.iconst 0, 1) := by decide +kernel
theorem sq_Model_lacksRow_46 : rn G mm_Model_lacksRow 46 lv st S P ↔ rn G mm_Model_lacksRow 47 lv (.int (nI 0) :: st) S P := rn_s dq_Model_lacksRow_46 rfl rfl rfl
theorem dq_Model_lacksRow_47 : decode (km_c mm_Model_lacksRow) 47 = .ok (.goto 5, 3) := by decide +kernel
theorem sq_Model_lacksRow_47 : rn G mm_Model_lacksRow 47 lv st S P ↔ rn G mm_Model_lacksRow 52 lv st S P := rn_s dq_Model_lacksRow_47 rfl rfl rfl
theorem dq_Model_lacksRow_50 : decode (km_c mm_Model_lacksRow) 50 = .ok (.bipush (-13), 2) := by decide +kernel
theorem sq_Model_lacksRow_50 : rn G mm_Model_lacksRow 50 lv st S P ↔ rn G mm_Model_lacksRow 52 lv (.int ((-13)) :: st) S P := rn_s dq_Model_lacksRow_50 rfl rfl rfl
theorem dq_Model_lacksRow_52 : decode (km_c mm_Model_lacksRow) 52 = .ok (.ireturn, 1) := by decide +kernel
theorem sq_Model_lacksRow_52 : rn G mm_Model_lacksRow 52 lv [.int x] S P ↔ P (some (.int x)) S := rn_ir dq_Model_lacksRow_52 rfl
theorem dq_Model_asLane_0 : decode (km_c mm_Model_asLane) 0 = .ok (.iload_n 0, 1) := by decide +kernel
theorem sq_Model_asLane_0 : rn G mm_Model_asLane 0 [some (.int x), a1] st S P ↔ rn G mm_Model_asLane 1 [some (.int x), a1] (.int x :: st) S P := rn_s dq_Model_asLane_0 rfl rfl rfl
theorem dq_Model_asLane_1 : decode (km_c mm_Model_asLane) 1 = .ok (.ifCond .ne 13, 3) := by decide +kernel
theorem sq_Model_asLane_1 : rn G mm_Model_asLane 1 lv (.int x :: st) S P ↔ ((¬ x = 0 → rn G mm_Model_asLane 14 lv st S P) ∧ (¬ (¬ x = 0) → rn G mm_Model_asLane 4 lv st S P)) := rn_b (off := 13) dq_Model_asLane_1 rfl rfl rfl rfl
theorem dq_Model_asLane_4 : decode (km_c mm_Model_asLane) 4 = .ok (.iload_n 1, 1) := by decide +kernel
theorem sq_Model_asLane_4 : rn G mm_Model_asLane 4 [a0, some (.int x)] st S P ↔ rn G mm_Model_asLane 5 [a0, some (.int x)] (.int x :: st) S P := rn_s dq_Model_asLane_4 rfl rfl rfl
theorem dq_Model_asLane_5 : decode (km_c mm_Model_asLane) 5 = .ok (.bipush 24, 2) := by decide +kernel
theorem sq_Model_asLane_5 : rn G mm_Model_asLane 5 lv st S P ↔ rn G mm_Model_asLane 7 lv (.int (nI 24) :: st) S P := rn_s dq_Model_asLane_5 rfl rfl rfl
theorem dq_Model_asLane_7 : decode (km_c mm_Model_asLane) 7 = .ok (.ishl, 1) := by decide +kernel
theorem sq_Model_asLane_7 : rn G mm_Model_asLane 7 lv (.int x2 :: .int x :: st) S P ↔ rn G mm_Model_asLane 8 lv (.int (x <<< (x2 &&& 31)) :: st) S P := rn_s dq_Model_asLane_7 rfl rfl rfl
theorem dq_Model_asLane_8 : decode (km_c mm_Model_asLane) 8 = .ok (.bipush 24, 2) := by decide +kernel
theorem sq_Model_asLane_8 : rn G mm_Model_asLane 8 lv st S P ↔ rn G mm_Model_asLane 10 lv (.int (nI 24) :: st) S P := rn_s dq_Model_asLane_8 rfl rfl rfl
theorem dq_Model_asLane_10 : decode (km_c mm_Model_asLane) 10 = .ok (.ishr, 1) := by decide +kernel
theorem sq_Model_asLane_10 : rn G mm_Model_asLane 10 lv (.int x2 :: .int x :: st) S P ↔ rn G mm_Model_asLane 11 lv (.int (x >>> (x2 &&& 31)) :: st) S P := rn_s dq_Model_asLane_10 rfl rfl rfl
theorem dq_Model_asLane_11 : decode (km_c mm_Model_asLane) 11 = .ok (.goto 19, 3) := by decide +kernel
theorem sq_Model_asLane_11 : rn G mm_Model_asLane 11 lv st S P ↔ rn G mm_Model_asLane 30 lv st S P := rn_s dq_Model_asLane_11 rfl rfl rfl
theorem dq_Model_asLane_14 : decode (km_c mm_Model_asLane) 14 = .ok (.iload_n 0, 1) := by decide +kernel
theorem sq_Model_asLane_14 : rn G mm_Model_asLane 14 [some (.int x), a1] st S P ↔ rn G mm_Model_asLane 15 [some (.int x), a1] (.int x :: st) S P := rn_s dq_Model_asLane_14 rfl rfl rfl
theorem dq_Model_asLane_15 : decode (km_c mm_Model_asLane) 15 = .ok (.iconst 1, 1) := by decide +kernel
theorem sq_Model_asLane_15 : rn G mm_Model_asLane 15 lv st S P ↔ rn G mm_Model_asLane 16 lv (.int (nI 1) :: st) S P := rn_s dq_Model_asLane_15 rfl rfl rfl
theorem dq_Model_asLane_16 : decode (km_c mm_Model_asLane) 16 = .ok (.if_icmp .ne 13, 3) := by decide +kernel
theorem sq_Model_asLane_16 : rn G mm_Model_asLane 16 lv (.int x2 :: .int x :: st) S P ↔ ((¬ x = x2 → rn G mm_Model_asLane 29 lv st S P) ∧ (¬ (¬ x = x2) → rn G mm_Model_asLane 19 lv st S P)) := rn_b (off := 13) dq_Model_asLane_16 rfl rfl rfl rfl
theorem dq_Model_asLane_19 : decode (km_c mm_Model_asLane) 19 = .ok (.iload_n 1, 1) := by decide +kernel
theorem sq_Model_asLane_19 : rn G mm_Model_asLane 19 [a0, some (.int x)] st S P ↔ rn G mm_Model_asLane 20 [a0, some (.int x)] (.int x :: st) S P := rn_s dq_Model_asLane_19 rfl rfl rfl
theorem dq_Model_asLane_20 : decode (km_c mm_Model_asLane) 20 = .ok (.bipush 16, 2) := by decide +kernel
theorem sq_Model_asLane_20 : rn G mm_Model_asLane 20 lv st S P ↔ rn G mm_Model_asLane 22 lv (.int (nI 16) :: st) S P := rn_s dq_Model_asLane_20 rfl rfl rfl
theorem dq_Model_asLane_22 : decode (km_c mm_Model_asLane) 22 = .ok (.ishl, 1) := by decide +kernel
theorem sq_Model_asLane_22 : rn G mm_Model_asLane 22 lv (.int x2 :: .int x :: st) S P ↔ rn G mm_Model_asLane 23 lv (.int (x <<< (x2 &&& 31)) :: st) S P := rn_s dq_Model_asLane_22 rfl rfl rfl
theorem dq_Model_asLane_23 : decode (km_c mm_Model_asLane) 23 = .ok (.bipush 16, 2) := by decide +kernel
theorem sq_Model_asLane_23 : rn G mm_Model_asLane 23 lv st S P ↔ rn G mm_Model_asLane 25 lv (.int (nI 16) :: st) S P := rn_s dq_Model_asLane_23 rfl rfl rfl
theorem dq_Model_asLane_25 : decode (km_c mm_Model_asLane) 25 = .ok (.ishr, 1) := by decide +kernel
theorem sq_Model_asLane_25 : rn G mm_Model_asLane 25 lv (.int x2 :: .int x :: st) S P ↔ rn G mm_Model_asLane 26 lv (.int (x >>> (x2 &&& 31)) :: st) S P := rn_s dq_Model_asLane_25 rfl rfl rfl
theorem dq_Model_asLane_26 : decode (km_c mm_Model_asLane) 26 = .ok (.goto 4, 3) := by decide +kernel
theorem sq_Model_asLane_26 : rn G mm_Model_asLane 26 lv st S P ↔ rn G mm_Model_asLane 30 lv st S P := rn_s dq_Model_asLane_26 rfl rfl rfl
theorem dq_Model_asLane_29 : decode (km_c mm_Model_asLane) 29 = .ok (.iload_n 1, 1) := by decide +kernel
theorem sq_Model_asLane_29 : rn G mm_Model_asLane 29 [a0, some (.int x)] st S P ↔ rn G mm_Model_asLane 30 [a0, some (.int x)] (.int x :: st) S P := rn_s dq_Model_asLane_29 rfl rfl rfl
theorem dq_Model_asLane_30 : decode (km_c mm_Model_asLane) 30 = .ok (.ireturn, 1) := by decide +kernel
theorem sq_Model_asLane_30 : rn G mm_Model_asLane 30 lv [.int x] S P ↔ P (some (.int x)) S := rn_ir dq_Model_asLane_30 rfl
theorem dq_Model_leaves_0 : decode (km_c mm_Model_leaves) 0 = .ok (.aload_n 0, 1) := by decide +kernel
theorem sq_Model_leaves_0 : rn G mm_Model_leaves 0 [some (.ref z), a1, a2, a3, a4, a5, a6, a7, a8, a9, a10] st S P ↔ rn G mm_Model_leaves 1 [some (.ref z), a1, a2, a3, a4, a5, a6, a7, a8, a9, a10] (.ref z :: st) S P := rn_s dq_Model_leaves_0 rfl rfl rfl
theorem dq_Model_leaves_1 : decode (km_c mm_Model_leaves) 1 = .ok (.iload_n 1, 1) := by decide +kernel
theorem sq_Model_leaves_1 : rn G mm_Model_leaves 1 [a0, some (.int x), a2, a3, a4, a5, a6, a7, a8, a9, a10] st S P ↔ rn G mm_Model_leaves 2 [a0, some (.int x), a2, a3, a4, a5, a6, a7, a8, a9, a10] (.int x :: st) S P := rn_s dq_Model_leaves_1 rfl rfl rfl
theorem dq_Model_leaves_2 : decode (km_c mm_Model_leaves) 2 = .ok (.invokevirtual 202, 3) := by decide +kernel
theorem sq_Model_leaves_2_45 {x1 : Int32} {v : Option Value} {S2 : ks_S} (hc : ev (lt_G o L) mm_Model_isSet [.ref 45, .int x1] (sx pl kp I A) v S2) (ho : sx_o o pl kp) (hst : kx_cat st ≤ 8) : rn (lt_G o L) mm_Model_leaves 2 lv (.int x1 :: .ref 45 :: st) (sx pl kp I A) P ↔ rn (lt_G o L) mm_Model_leaves 5 lv (v.toList ++ st) S2 P := rn_cv (k := 0) (host := "") (E' := mm_Model_isSet) dq_Model_leaves_2 rfl (ok_v rfl (by decide) (by decide) (Nat.le_add_left _ _) hst (Nat.le_of_ble_eq_true rfl) (Or.inr (rc_v ho (up_b (by decide)) rfl))) rfl rfl hc
theorem dq_Model_leaves_5 : decode (km_c mm_Model_leaves) 5 = .ok (.ifCond .eq 15, 3) := by decide +kernel
theorem sq_Model_leaves_5 : rn G mm_Model_leaves 5 lv (.int x :: st) S P ↔ ((x = 0 → rn G mm_Model_leaves 20 lv st S P) ∧ (¬ (x = 0) → rn G mm_Model_leaves 8 lv st S P)) := rn_b (off := 15) dq_Model_leaves_5 rfl rfl rfl rfl
theorem dq_Model_leaves_8 : decode (km_c mm_Model_leaves) 8 = .ok (.iload_n 1, 1) := by decide +kernel
theorem sq_Model_leaves_8 : rn G mm_Model_leaves 8 [a0, some (.int x), a2, a3, a4, a5, a6, a7, a8, a9, a10] st S P ↔ rn G mm_Model_leaves 9 [a0, some (.int x), a2, a3, a4, a5, a6, a7, a8, a9, a10] (.int x :: st) S P := rn_s dq_Model_leaves_8 rfl rfl rfl
theorem dq_Model_leaves_9 : decode (km_c mm_Model_leaves) 9 = .ok (.ifCond .eq 11, 3) := by decide +kernel
theorem sq_Model_leaves_9 : rn G mm_Model_leaves 9 lv (.int x :: st) S P ↔ ((x = 0 → rn G mm_Model_leaves 20 lv st S P) ∧ (¬ (x = 0) → rn G mm_Model_leaves 12 lv st S P)) := rn_b (off := 11) dq_Model_leaves_9 rfl rfl rfl rfl
theorem dq_Model_leaves_12 : decode (km_c mm_Model_leaves) 12 = .ok (.iload_n 2, 1) := by decide +kernel
theorem sq_Model_leaves_12 : rn G mm_Model_leaves 12 [a0, a1, some (.int x), a3, a4, a5, a6, a7, a8, a9, a10] st S P ↔ rn G mm_Model_leaves 13 [a0, a1, some (.int x), a3, a4, a5, a6, a7, a8, a9, a10] (.int x :: st) S P := rn_s dq_Model_leaves_12 rfl rfl rfl
theorem dq_Model_leaves_13 : decode (km_c mm_Model_leaves) 13 = .ok (.iload_n 3, 1) := by decide +kernel
theorem sq_Model_leaves_13 : rn G mm_Model_leaves 13 [a0, a1, a2, some (.int x), a4, a5, a6, a7, a8, a9, a10] st S P ↔ rn G mm_Model_leaves 14 [a0, a1, a2, some (.int x), a4, a5, a6, a7, a8, a9, a10] (.int x :: st) S P := rn_s dq_Model_leaves_13 rfl rfl rfl
theorem dq_Model_leaves_14 : decode (km_c mm_Model_leaves) 14 = .ok (.invokestatic 265, 3) := by decide +kernel
theorem sq_Model_leaves_14 {x1 : Int32} {x2 : Int32} {v : Option Value} {S2 : ks_S} (hc : ev G mm_Model_isSheet [.int x1, .int x2] S v S2) (hst : kx_cat st ≤ 8) : rn G mm_Model_leaves 14 lv (.int x2 :: .int x1 :: st) S P ↔ rn G mm_Model_leaves 17 lv (v.toList ++ st) S2 P := rn_cs (k := 1) (host := "") (E' := mm_Model_isSheet) dq_Model_leaves_14 (by decide) (by decide) rfl (ok_v rfl (by decide) (by decide) (Nat.le_add_left _ _) hst (Nat.le_of_ble_eq_true rfl) (Or.inl rfl)) rfl rfl hc
theorem dq_Model_leaves_17 : decode (km_c mm_Model_leaves) 17 = .ok (.ifCond .ne 5, 3) := by decide +kernel
theorem sq_Model_leaves_17 : rn G mm_Model_leaves 17 lv (.int x :: st) S P ↔ ((¬ x = 0 → rn G mm_Model_leaves 22 lv st S P) ∧ (¬ (¬ x = 0) → rn G mm_Model_leaves 20 lv st S P)) := rn_b (off := 5) dq_Model_leaves_17 rfl rfl rfl rfl
theorem dq_Model_leaves_20 : decode (km_c mm_Model_leaves) 20 = .ok (.iconst (-1), 1) := by decide +kernel
theorem sq_Model_leaves_20 : rn G mm_Model_leaves 20 lv st S P ↔ rn G mm_Model_leaves 21 lv (.int ((-1)) :: st) S P := rn_s dq_Model_leaves_20 rfl rfl rfl
theorem dq_Model_leaves_21 : decode (km_c mm_Model_leaves) 21 = .ok (.ireturn, 1) := by decide +kernel
theorem sq_Model_leaves_21 : rn G mm_Model_leaves 21 lv [.int x] S P ↔ P (some (.int x)) S := rn_ir dq_Model_leaves_21 rfl
theorem dq_Model_leaves_22 : decode (km_c mm_Model_leaves) 22 = .ok (.aload_n 0, 1) := by decide +kernel
theorem sq_Model_leaves_22 : rn G mm_Model_leaves 22 [some (.ref z), a1, a2, a3, a4, a5, a6, a7, a8, a9, a10] st S P ↔ rn G mm_Model_leaves 23 [some (.ref z), a1, a2, a3, a4, a5, a6, a7, a8, a9, a10] (.ref z :: st) S P := rn_s dq_Model_leaves_22 rfl rfl rfl
theorem dq_Model_leaves_23 : decode (km_c mm_Model_leaves) 23 = .ok (.iload_n 2, 1) := by decide +kernel
theorem sq_Model_leaves_23 : rn G mm_Model_leaves 23 [a0, a1, some (.int x), a3, a4, a5, a6, a7, a8, a9, a10] st S P ↔ rn G mm_Model_leaves 24 [a0, a1, some (.int x), a3, a4, a5, a6, a7, a8, a9, a10] (.int x :: st) S P := rn_s dq_Model_leaves_23 rfl rfl rfl
theorem dq_Model_leaves_24 : decode (km_c mm_Model_leaves) 24 = .ok (.iload_n 3, 1) := by decide +kernel
theorem sq_Model_leaves_24 : rn G mm_Model_leaves 24 [a0, a1, a2, some (.int x), a4, a5, a6, a7, a8, a9, a10] st S P ↔ rn G mm_Model_leaves 25 [a0, a1, a2, some (.int x), a4, a5, a6, a7, a8, a9, a10] (.int x :: st) S P := rn_s dq_Model_leaves_24 rfl rfl rfl
theorem dq_Model_leaves_25 : decode (km_c mm_Model_leaves) 25 = .ok (.iload 4, 2) := by decide +kernel
theorem sq_Model_leaves_25 : rn G mm_Model_leaves 25 [a0, a1, a2, a3, some (.int x), a5, a6, a7, a8, a9, a10] st S P ↔ rn G mm_Model_leaves 27 [a0, a1, a2, a3, some (.int x), a5, a6, a7, a8, a9, a10] (.int x :: st) S P := rn_s dq_Model_leaves_25 rfl rfl rfl
theorem dq_Model_leaves_27 : decode (km_c mm_Model_leaves) 27 = .ok (.iload_n 1, 1) := by decide +kernel
theorem sq_Model_leaves_27 : rn G mm_Model_leaves 27 [a0, some (.int x), a2, a3, a4, a5, a6, a7, a8, a9, a10] st S P ↔ rn G mm_Model_leaves 28 [a0, some (.int x), a2, a3, a4, a5, a6, a7, a8, a9, a10] (.int x :: st) S P := rn_s dq_Model_leaves_27 rfl rfl rfl
theorem dq_Model_leaves_28 : decode (km_c mm_Model_leaves) 28 = .ok (.invokestatic 216, 3) := by decide +kernel
theorem sq_Model_leaves_28 {x1 : Int32} {v : Option Value} {S2 : ks_S} (hc : ev G mm_Model_ones [.int x1] S v S2) (hst : kx_cat st ≤ 8) : rn G mm_Model_leaves 28 lv (.int x1 :: st) S P ↔ rn G mm_Model_leaves 31 lv (v.toList ++ st) S2 P := rn_cs (k := 1) (host := "") (E' := mm_Model_ones) dq_Model_leaves_28 (by decide) (by decide) rfl (ok_v rfl (by decide) (by decide) (Nat.le_add_left _ _) hst (Nat.le_of_ble_eq_true rfl) (Or.inl rfl)) rfl rfl hc
theorem dq_Model_leaves_31 : decode (km_c mm_Model_leaves) 31 = .ok (.invokevirtual 268, 3) := by decide +kernel
theorem sq_Model_leaves_31_45 {x1 : Int32} {x2 : Int32} {x3 : Int32} {x4 : Int32} {v : Option Value} {S2 : ks_S} (hc : ev (lt_G o L) mm_Model_lacksRow [.ref 45, .int x1, .int x2, .int x3, .int x4] (sx pl kp I A) v S2) (ho : sx_o o pl kp) (hst : kx_cat st ≤ 8) : rn (lt_G o L) mm_Model_leaves 31 lv (.int x4 :: .int x3 :: .int x2 :: .int x1 :: .ref 45 :: st) (sx pl kp I A) P ↔ rn (lt_G o L) mm_Model_leaves 34 lv (v.toList ++ st) S2 P := rn_cv (k := 0) (host := "") (E' := mm_Model_lacksRow) dq_Model_leaves_31 rfl (ok_v rfl (by decide) (by decide) (Nat.le_add_left _ _) hst (Nat.le_of_ble_eq_true rfl) (Or.inr (rc_v ho (up_b (by decide)) rfl))) rfl rfl hc
theorem dq_Model_leaves_34 : decode (km_c mm_Model_leaves) 34 = .ok (.istore 5, 2) := by decide +kernel
theorem sq_Model_leaves_34n : rn G mm_Model_leaves 34 [a0, a1, a2, a3, none, a5, a6, a7, a8, a9, a10] (.int x :: st) S P ↔ rn G mm_Model_leaves 36 [a0, a1, a2, a3, none, some (.int x), a6, a7, a8, a9, a10] st S P := rn_s dq_Model_leaves_34 rfl rfl rfl
theorem sq_Model_leaves_34i : rn G mm_Model_leaves 34 [a0, a1, a2, a3, some (.int x2), a5, a6, a7, a8, a9, a10] (.int x :: st) S P ↔ rn G mm_Model_leaves 36 [a0, a1, a2, a3, some (.int x2), some (.int x), a6, a7, a8, a9, a10] st S P := rn_s dq_Model_leaves_34 rfl rfl rfl
theorem sq_Model_leaves_34r : rn G mm_Model_leaves 34 [a0, a1, a2, a3, some (.ref z2), a5, a6, a7, a8, a9, a10] (.int x :: st) S P ↔ rn G mm_Model_leaves 36 [a0, a1, a2, a3, some (.ref z2), some (.int x), a6, a7, a8, a9, a10] st S P := rn_s dq_Model_leaves_34 rfl rfl rfl
theorem sq_Model_leaves_34l : rn G mm_Model_leaves 34 [a0, a1, a2, a3, some (.long y2), a5, a6, a7, a8, a9, a10] (.int x :: st) S P ↔ rn G mm_Model_leaves 36 [a0, a1, a2, a3, none, some (.int x), a6, a7, a8, a9, a10] st S P := rn_s dq_Model_leaves_34 rfl rfl rfl
theorem dq_Model_leaves_36 : decode (km_c mm_Model_leaves) 36 = .ok (.iload 5, 2) := by decide +kernel
theorem sq_Model_leaves_36 : rn G mm_Model_leaves 36 [a0, a1, a2, a3, a4, some (.int x), a6, a7, a8, a9, a10] st S P ↔ rn G mm_Model_leaves 38 [a0, a1, a2, a3, a4, some (.int x), a6, a7, a8, a9, a10] (.int x :: st) S P := rn_s dq_Model_leaves_36 rfl rfl rfl
theorem dq_Model_leaves_38 : decode (km_c mm_Model_leaves) 38 = .ok (.ifCond .ge 6, 3) := by decide +kernel
theorem sq_Model_leaves_38 : rn G mm_Model_leaves 38 lv (.int x :: st) S P ↔ ((0 ≤ x → rn G mm_Model_leaves 44 lv st S P) ∧ (¬ (0 ≤ x) → rn G mm_Model_leaves 41 lv st S P)) := rn_b (off := 6) dq_Model_leaves_38 rfl rfl rfl rfl
theorem dq_Model_leaves_41 : decode (km_c mm_Model_leaves) 41 = .ok (.iload 5, 2) := by decide +kernel
theorem sq_Model_leaves_41 : rn G mm_Model_leaves 41 [a0, a1, a2, a3, a4, some (.int x), a6, a7, a8, a9, a10] st S P ↔ rn G mm_Model_leaves 43 [a0, a1, a2, a3, a4, some (.int x), a6, a7, a8, a9, a10] (.int x :: st) S P := rn_s dq_Model_leaves_41 rfl rfl rfl
theorem dq_Model_leaves_43 : decode (km_c mm_Model_leaves) 43 = .ok (.ireturn, 1) := by decide +kernel
theorem sq_Model_leaves_43 : rn G mm_Model_leaves 43 lv [.int x] S P ↔ P (some (.int x)) S := rn_ir dq_Model_leaves_43 rfl
theorem dq_Model_leaves_44 : decode (km_c mm_Model_leaves) 44 = .ok (.aload_n 0, 1) := by decide +kernel
theorem sq_Model_leaves_44 : rn G mm_Model_leaves 44 [some (.ref z), a1, a2, a3, a4, a5, a6, a7, a8, a9, a10] st S P ↔ rn G mm_Model_leaves 45 [some (.ref z), a1, a2, a3, a4, a5, a6, a7, a8, a9, a10] (.ref z :: st) S P := rn_s dq_Model_leaves_44 rfl rfl rfl
theorem dq_Model_leaves_45 : decode (km_c mm_Model_leaves) 45 = .ok (.invokevirtual 205, 3) := by decide +kernel
theorem sq_Model_leaves_45_45  {v : Option Value} {S2 : ks_S} (hc : ev (lt_G o L) mm_Model_findAll [.ref 45] (sx pl kp I A) v S2) (ho : sx_o o pl kp) (hst : kx_cat st ≤ 8) : rn (lt_G o L) mm_Model_leaves 45 lv (.ref 45 :: st) (sx pl kp I A) P ↔ rn (lt_G o L) mm_Model_leaves 48 lv (v.toList ++ st) S2 P := rn_cv (k := 0) (host := "") (E' := mm_Model_findAll) dq_Model_leaves_45 rfl (ok_v rfl (by decide) (by decide) (Nat.le_add_left _ _) hst (Nat.le_of_ble_eq_true rfl) (Or.inr (rc_v ho (up_b (by decide)) rfl))) rfl rfl hc
theorem dq_Model_leaves_48 : decode (km_c mm_Model_leaves) 48 = .ok (.iconst 1, 1) := by decide +kernel
theorem sq_Model_leaves_48 : rn G mm_Model_leaves 48 lv st S P ↔ rn G mm_Model_leaves 49 lv (.int (nI 1) :: st) S P := rn_s dq_Model_leaves_48 rfl rfl rfl
theorem dq_Model_leaves_49 : decode (km_c mm_Model_leaves) 49 = .ok (.istore 6, 2) := by decide +kernel
theorem sq_Model_leaves_49n : rn G mm_Model_leaves 49 [a0, a1, a2, a3, a4, none, a6, a7, a8, a9, a10] (.int x :: st) S P ↔ rn G mm_Model_leaves 51 [a0, a1, a2, a3, a4, none, some (.int x), a7, a8, a9, a10] st S P := rn_s dq_Model_leaves_49 rfl rfl rfl
theorem sq_Model_leaves_49i : rn G mm_Model_leaves 49 [a0, a1, a2, a3, a4, some (.int x2), a6, a7, a8, a9, a10] (.int x :: st) S P ↔ rn G mm_Model_leaves 51 [a0, a1, a2, a3, a4, some (.int x2), some (.int x), a7, a8, a9, a10] st S P := rn_s dq_Model_leaves_49 rfl rfl rfl
theorem sq_Model_leaves_49r : rn G mm_Model_leaves 49 [a0, a1, a2, a3, a4, some (.ref z2), a6, a7, a8, a9, a10] (.int x :: st) S P ↔ rn G mm_Model_leaves 51 [a0, a1, a2, a3, a4, some (.ref z2), some (.int x), a7, a8, a9, a10] st S P := rn_s dq_Model_leaves_49 rfl rfl rfl
theorem sq_Model_leaves_49l : rn G mm_Model_leaves 49 [a0, a1, a2, a3, a4, some (.long y2), a6, a7, a8, a9, a10] (.int x :: st) S P ↔ rn G mm_Model_leaves 51 [a0, a1, a2, a3, a4, none, some (.int x), a7, a8, a9, a10] st S P := rn_s dq_Model_leaves_49 rfl rfl rfl
theorem dq_Model_leaves_51 : decode (km_c mm_Model_leaves) 51 = .ok (.iload 6, 2) := by decide +kernel
theorem sq_Model_leaves_51 : rn G mm_Model_leaves 51 [a0, a1, a2, a3, a4, a5, some (.int x), a7, a8, a9, a10] st S P ↔ rn G mm_Model_leaves 53 [a0, a1, a2, a3, a4, a5, some (.int x), a7, a8, a9, a10] (.int x :: st) S P := rn_s dq_Model_leaves_51 rfl rfl rfl
theorem dq_Model_leaves_53 : decode (km_c mm_Model_leaves) 53 = .ok (.iload_n 1, 1) := by decide +kernel
theorem sq_Model_leaves_53 : rn G mm_Model_leaves 53 [a0, some (.int x), a2, a3, a4, a5, a6, a7, a8, a9, a10] st S P ↔ rn G mm_Model_leaves 54 [a0, some (.int x), a2, a3, a4, a5, a6, a7, a8, a9, a10] (.int x :: st) S P := rn_s dq_Model_leaves_53 rfl rfl rfl
theorem dq_Model_leaves_54 : decode (km_c mm_Model_leaves) 54 = .ok (.if_icmp .gt 106, 3) := by decide +kernel
theorem sq_Model_leaves_54 : rn G mm_Model_leaves 54 lv (.int x2 :: .int x :: st) S P ↔ ((x2 < x → rn G mm_Model_leaves 160 lv st S P) ∧ (¬ (x2 < x) → rn G mm_Model_leaves 57 lv st S P)) := rn_b (off := 106) dq_Model_leaves_54 rfl rfl rfl rfl
theorem dq_Model_leaves_57 : decode (km_c mm_Model_leaves) 57 = .ok (.lconst 0, 1) := by decide +kernel
theorem sq_Model_leaves_57 : rn G mm_Model_leaves 57 lv st S P ↔ rn G mm_Model_leaves 58 lv (.long (0) :: st) S P := rn_s dq_Model_leaves_57 rfl rfl rfl
theorem dq_Model_leaves_58 : decode (km_c mm_Model_leaves) 58 = .ok (.lstore 7, 2) := by decide +kernel
theorem sq_Model_leaves_58n : rn G mm_Model_leaves 58 [a0, a1, a2, a3, a4, a5, none, a7, a8, a9, a10] (.long y :: st) S P ↔ rn G mm_Model_leaves 60 [a0, a1, a2, a3, a4, a5, none, some (.long y), none, a9, a10] st S P := rn_s dq_Model_leaves_58 rfl rfl rfl
theorem sq_Model_leaves_58i : rn G mm_Model_leaves 58 [a0, a1, a2, a3, a4, a5, some (.int x2), a7, a8, a9, a10] (.long y :: st) S P ↔ rn G mm_Model_leaves 60 [a0, a1, a2, a3, a4, a5, some (.int x2), some (.long y), none, a9, a10] st S P := rn_s dq_Model_leaves_58 rfl rfl rfl
theorem sq_Model_leaves_58r : rn G mm_Model_leaves 58 [a0, a1, a2, a3, a4, a5, some (.ref z2), a7, a8, a9, a10] (.long y :: st) S P ↔ rn G mm_Model_leaves 60 [a0, a1, a2, a3, a4, a5, some (.ref z2), some (.long y), none, a9, a10] st S P := rn_s dq_Model_leaves_58 rfl rfl rfl
theorem sq_Model_leaves_58l : rn G mm_Model_leaves 58 [a0, a1, a2, a3, a4, a5, some (.long y2), a7, a8, a9, a10] (.long y :: st) S P ↔ rn G mm_Model_leaves 60 [a0, a1, a2, a3, a4, a5, none, some (.long y), none, a9, a10] st S P := rn_s dq_Model_leaves_58 rfl rfl rfl
theorem dq_Model_leaves_60 : decode (km_c mm_Model_leaves) 60 = .ok (.iconst 0, 1) := by decide +kernel
theorem sq_Model_leaves_60 : rn G mm_Model_leaves 60 lv st S P ↔ rn G mm_Model_leaves 61 lv (.int (nI 0) :: st) S P := rn_s dq_Model_leaves_60 rfl rfl rfl
theorem dq_Model_leaves_61 : decode (km_c mm_Model_leaves) 61 = .ok (.istore 9, 2) := by decide +kernel
theorem sq_Model_leaves_61n : rn G mm_Model_leaves 61 [a0, a1, a2, a3, a4, a5, a6, a7, none, a9, a10] (.int x :: st) S P ↔ rn G mm_Model_leaves 63 [a0, a1, a2, a3, a4, a5, a6, a7, none, some (.int x), a10] st S P := rn_s dq_Model_leaves_61 rfl rfl rfl
theorem sq_Model_leaves_61i : rn G mm_Model_leaves 61 [a0, a1, a2, a3, a4, a5, a6, a7, some (.int x2), a9, a10] (.int x :: st) S P ↔ rn G mm_Model_leaves 63 [a0, a1, a2, a3, a4, a5, a6, a7, some (.int x2), some (.int x), a10] st S P := rn_s dq_Model_leaves_61 rfl rfl rfl
theorem sq_Model_leaves_61r : rn G mm_Model_leaves 61 [a0, a1, a2, a3, a4, a5, a6, a7, some (.ref z2), a9, a10] (.int x :: st) S P ↔ rn G mm_Model_leaves 63 [a0, a1, a2, a3, a4, a5, a6, a7, some (.ref z2), some (.int x), a10] st S P := rn_s dq_Model_leaves_61 rfl rfl rfl
theorem sq_Model_leaves_61l : rn G mm_Model_leaves 61 [a0, a1, a2, a3, a4, a5, a6, a7, some (.long y2), a9, a10] (.int x :: st) S P ↔ rn G mm_Model_leaves 63 [a0, a1, a2, a3, a4, a5, a6, a7, none, some (.int x), a10] st S P := rn_s dq_Model_leaves_61 rfl rfl rfl
theorem dq_Model_leaves_63 : decode (km_c mm_Model_leaves) 63 = .ok (.iconst 0, 1) := by decide +kernel
theorem sq_Model_leaves_63 : rn G mm_Model_leaves 63 lv st S P ↔ rn G mm_Model_leaves 64 lv (.int (nI 0) :: st) S P := rn_s dq_Model_leaves_63 rfl rfl rfl
theorem dq_Model_leaves_64 : decode (km_c mm_Model_leaves) 64 = .ok (.istore 10, 2) := by decide +kernel
theorem sq_Model_leaves_64n : rn G mm_Model_leaves 64 [a0, a1, a2, a3, a4, a5, a6, a7, a8, none, a10] (.int x :: st) S P ↔ rn G mm_Model_leaves 66 [a0, a1, a2, a3, a4, a5, a6, a7, a8, none, some (.int x)] st S P := rn_s dq_Model_leaves_64 rfl rfl rfl
theorem sq_Model_leaves_64i : rn G mm_Model_leaves 64 [a0, a1, a2, a3, a4, a5, a6, a7, a8, some (.int x2), a10] (.int x :: st) S P ↔ rn G mm_Model_leaves 66 [a0, a1, a2, a3, a4, a5, a6, a7, a8, some (.int x2), some (.int x)] st S P := rn_s dq_Model_leaves_64 rfl rfl rfl
theorem sq_Model_leaves_64r : rn G mm_Model_leaves 64 [a0, a1, a2, a3, a4, a5, a6, a7, a8, some (.ref z2), a10] (.int x :: st) S P ↔ rn G mm_Model_leaves 66 [a0, a1, a2, a3, a4, a5, a6, a7, a8, some (.ref z2), some (.int x)] st S P := rn_s dq_Model_leaves_64 rfl rfl rfl
theorem sq_Model_leaves_64l : rn G mm_Model_leaves 64 [a0, a1, a2, a3, a4, a5, a6, a7, a8, some (.long y2), a10] (.int x :: st) S P ↔ rn G mm_Model_leaves 66 [a0, a1, a2, a3, a4, a5, a6, a7, a8, none, some (.int x)] st S P := rn_s dq_Model_leaves_64 rfl rfl rfl
theorem dq_Model_leaves_66 : decode (km_c mm_Model_leaves) 66 = .ok (.iload 10, 2) := by decide +kernel
theorem sq_Model_leaves_66 : rn G mm_Model_leaves 66 [a0, a1, a2, a3, a4, a5, a6, a7, a8, a9, some (.int x)] st S P ↔ rn G mm_Model_leaves 68 [a0, a1, a2, a3, a4, a5, a6, a7, a8, a9, some (.int x)] (.int x :: st) S P := rn_s dq_Model_leaves_66 rfl rfl rfl
theorem dq_Model_leaves_68 : decode (km_c mm_Model_leaves) 68 = .ok (.aload_n 0, 1) := by decide +kernel
theorem sq_Model_leaves_68 : rn G mm_Model_leaves 68 [some (.ref z), a1, a2, a3, a4, a5, a6, a7, a8, a9, a10] st S P ↔ rn G mm_Model_leaves 69 [some (.ref z), a1, a2, a3, a4, a5, a6, a7, a8, a9, a10] (.ref z :: st) S P := rn_s dq_Model_leaves_68 rfl rfl rfl
theorem dq_Model_leaves_69 : decode (km_c mm_Model_leaves) 69 = .ok (.getfield 131, 3) := by decide +kernel
theorem sq_Model_leaves_69_45 (ho : sx_o o pl kp) : rn (lt_G o L) mm_Model_leaves 69 lv (.ref 45 :: st) (sx pl kp I A) P ↔ rn (lt_G o L) mm_Model_leaves 72 lv (.int (I 45 4) :: st) (sx pl kp I A) P := rx_get (h := "") (ci := 10) (k := 4) dq_Model_leaves_69 (by decide +kernel) ho (up_b (by decide)) rfl rfl (fl_i (by decide))
theorem dq_Model_leaves_72 : decode (km_c mm_Model_leaves) 72 = .ok (.if_icmp .ge 56, 3) := by decide +kernel
theorem sq_Model_leaves_72 : rn G mm_Model_leaves 72 lv (.int x2 :: .int x :: st) S P ↔ ((x2 ≤ x → rn G mm_Model_leaves 128 lv st S P) ∧ (¬ (x2 ≤ x) → rn G mm_Model_leaves 75 lv st S P)) := rn_b (off := 56) dq_Model_leaves_72 rfl rfl rfl rfl
theorem dq_Model_leaves_75 : decode (km_c mm_Model_leaves) 75 = .ok (.iload_n 1, 1) := by decide +kernel
theorem sq_Model_leaves_75 : rn G mm_Model_leaves 75 [a0, some (.int x), a2, a3, a4, a5, a6, a7, a8, a9, a10] st S P ↔ rn G mm_Model_leaves 76 [a0, some (.int x), a2, a3, a4, a5, a6, a7, a8, a9, a10] (.int x :: st) S P := rn_s dq_Model_leaves_75 rfl rfl rfl
theorem dq_Model_leaves_76 : decode (km_c mm_Model_leaves) 76 = .ok (.iload 10, 2) := by decide +kernel
theorem sq_Model_leaves_76 : rn G mm_Model_leaves 76 [a0, a1, a2, a3, a4, a5, a6, a7, a8, a9, some (.int x)] st S P ↔ rn G mm_Model_leaves 78 [a0, a1, a2, a3, a4, a5, a6, a7, a8, a9, some (.int x)] (.int x :: st) S P := rn_s dq_Model_leaves_76 rfl rfl rfl
theorem dq_Model_leaves_78 : decode (km_c mm_Model_leaves) 78 = .ok (.invokestatic 208, 3) := by decide +kernel
theorem sq_Model_leaves_78 {x1 : Int32} {x2 : Int32} {v : Option Value} {S2 : ks_S} (hc : ev G mm_Model_has [.int x1, .int x2] S v S2) (hst : kx_cat st ≤ 8) : rn G mm_Model_leaves 78 lv (.int x2 :: .int x1 :: st) S P ↔ rn G mm_Model_leaves 81 lv (v.toList ++ st) S2 P := rn_cs (k := 1) (host := "") (E' := mm_Model_has) dq_Model_leaves_78 (by decide) (by decide) rfl (ok_v rfl (by decide) (by decide) (Nat.le_add_left _ _) hst (Nat.le_of_ble_eq_true rfl) (Or.inl rfl)) rfl rfl hc
theorem dq_Model_leaves_81 : decode (km_c mm_Model_leaves) 81 = .ok (.ifCond .eq 41, 3) := by decide +kernel
theorem sq_Model_leaves_81 : rn G mm_Model_leaves 81 lv (.int x :: st) S P ↔ ((x = 0 → rn G mm_Model_leaves 122 lv st S P) ∧ (¬ (x = 0) → rn G mm_Model_leaves 84 lv st S P)) := rn_b (off := 41) dq_Model_leaves_81 rfl rfl rfl rfl
theorem dq_Model_leaves_84 : decode (km_c mm_Model_leaves) 84 = .ok (.lload 7, 2) := by decide +kernel
theorem sq_Model_leaves_84 : rn G mm_Model_leaves 84 [a0, a1, a2, a3, a4, a5, a6, some (.long y), a8, a9, a10] st S P ↔ rn G mm_Model_leaves 86 [a0, a1, a2, a3, a4, a5, a6, some (.long y), a8, a9, a10] (.long y :: st) S P := rn_s dq_Model_leaves_84 rfl rfl rfl
theorem dq_Model_leaves_86 : decode (km_c mm_Model_leaves) 86 = .ok (.iload 6, 2) := by decide +kernel
theorem sq_Model_leaves_86 : rn G mm_Model_leaves 86 [a0, a1, a2, a3, a4, a5, some (.int x), a7, a8, a9, a10] st S P ↔ rn G mm_Model_leaves 88 [a0, a1, a2, a3, a4, a5, some (.int x), a7, a8, a9, a10] (.int x :: st) S P := rn_s dq_Model_leaves_86 rfl rfl rfl
theorem dq_Model_leaves_88 : decode (km_c mm_Model_leaves) 88 = .ok (.iload 10, 2) := by decide +kernel
theorem sq_Model_leaves_88 : rn G mm_Model_leaves 88 [a0, a1, a2, a3, a4, a5, a6, a7, a8, a9, some (.int x)] st S P ↔ rn G mm_Model_leaves 90 [a0, a1, a2, a3, a4, a5, a6, a7, a8, a9, some (.int x)] (.int x :: st) S P := rn_s dq_Model_leaves_88 rfl rfl rfl
theorem dq_Model_leaves_90 : decode (km_c mm_Model_leaves) 90 = .ok (.invokestatic 208, 3) := by decide +kernel
theorem sq_Model_leaves_90 {x1 : Int32} {x2 : Int32} {v : Option Value} {S2 : ks_S} (hc : ev G mm_Model_has [.int x1, .int x2] S v S2) (hst : kx_cat st ≤ 8) : rn G mm_Model_leaves 90 lv (.int x2 :: .int x1 :: st) S P ↔ rn G mm_Model_leaves 93 lv (v.toList ++ st) S2 P := rn_cs (k := 1) (host := "") (E' := mm_Model_has) dq_Model_leaves_90 (by decide) (by decide) rfl (ok_v rfl (by decide) (by decide) (Nat.le_add_left _ _) hst (Nat.le_of_ble_eq_true rfl) (Or.inl rfl)) rfl rfl hc
theorem dq_Model_leaves_93 : decode (km_c mm_Model_leaves) 93 = .ok (.ifCond .eq 22, 3) := by decide +kernel
theorem sq_Model_leaves_93 : rn G mm_Model_leaves 93 lv (.int x :: st) S P ↔ ((x = 0 → rn G mm_Model_leaves 115 lv st S P) ∧ (¬ (x = 0) → rn G mm_Model_leaves 96 lv st S P)) := rn_b (off := 22) dq_Model_leaves_93 rfl rfl rfl rfl
theorem dq_Model_leaves_96 : decode (km_c mm_Model_leaves) 96 = .ok (.aload_n 0, 1) := by decide +kernel
theorem sq_Model_leaves_96 : rn G mm_Model_leaves 96 [some (.ref z), a1, a2, a3, a4, a5, a6, a7, a8, a9, a10] st S P ↔ rn G mm_Model_leaves 97 [some (.ref z), a1, a2, a3, a4, a5, a6, a7, a8, a9, a10] (.ref z :: st) S P := rn_s dq_Model_leaves_96 rfl rfl rfl
theorem dq_Model_leaves_97 : decode (km_c mm_Model_leaves) 97 = .ok (.getfield 71, 3) := by decide +kernel
theorem sq_Model_leaves_97_45 (ho : sx_o o pl kp) : rn (lt_G o L) mm_Model_leaves 97 lv (.ref 45 :: st) (sx pl kp I A) P ↔ rn (lt_G o L) mm_Model_leaves 100 lv (.ref 64 :: st) (sx pl kp I A) P := rx_get (h := "") (ci := 10) (k := 29) dq_Model_leaves_97 (by decide +kernel) ho (up_b (by decide)) rfl rfl (fl_r (by decide) (by decide) (by decide) (by decide))
theorem dq_Model_leaves_100 : decode (km_c mm_Model_leaves) 100 = .ok (.bipush 24, 2) := by decide +kernel
theorem sq_Model_leaves_100 : rn G mm_Model_leaves 100 lv st S P ↔ rn G mm_Model_leaves 102 lv (.int (nI 24) :: st) S P := rn_s dq_Model_leaves_100 rfl rfl rfl
theorem dq_Model_leaves_102 : decode (km_c mm_Model_leaves) 102 = .ok (.iload_n 2, 1) := by decide +kernel
theorem sq_Model_leaves_102 : rn G mm_Model_leaves 102 [a0, a1, some (.int x), a3, a4, a5, a6, a7, a8, a9, a10] st S P ↔ rn G mm_Model_leaves 103 [a0, a1, some (.int x), a3, a4, a5, a6, a7, a8, a9, a10] (.int x :: st) S P := rn_s dq_Model_leaves_102 rfl rfl rfl
theorem dq_Model_leaves_103 : decode (km_c mm_Model_leaves) 103 = .ok (.imul, 1) := by decide +kernel
theorem sq_Model_leaves_103 : rn G mm_Model_leaves 103 lv (.int x2 :: .int x :: st) S P ↔ rn G mm_Model_leaves 104 lv (.int (x * x2) :: st) S P := rn_s dq_Model_leaves_103 rfl rfl rfl
theorem dq_Model_leaves_104 : decode (km_c mm_Model_leaves) 104 = .ok (.iload 4, 2) := by decide +kernel
theorem sq_Model_leaves_104 : rn G mm_Model_leaves 104 [a0, a1, a2, a3, some (.int x), a5, a6, a7, a8, a9, a10] st S P ↔ rn G mm_Model_leaves 106 [a0, a1, a2, a3, some (.int x), a5, a6, a7, a8, a9, a10] (.int x :: st) S P := rn_s dq_Model_leaves_104 rfl rfl rfl
theorem dq_Model_leaves_106 : decode (km_c mm_Model_leaves) 106 = .ok (.iadd, 1) := by decide +kernel
theorem sq_Model_leaves_106 : rn G mm_Model_leaves 106 lv (.int x2 :: .int x :: st) S P ↔ rn G mm_Model_leaves 107 lv (.int (x + x2) :: st) S P := rn_s dq_Model_leaves_106 rfl rfl rfl
theorem dq_Model_leaves_107 : decode (km_c mm_Model_leaves) 107 = .ok (.iload 9, 2) := by decide +kernel
theorem sq_Model_leaves_107 : rn G mm_Model_leaves 107 [a0, a1, a2, a3, a4, a5, a6, a7, a8, some (.int x), a10] st S P ↔ rn G mm_Model_leaves 109 [a0, a1, a2, a3, a4, a5, a6, a7, a8, some (.int x), a10] (.int x :: st) S P := rn_s dq_Model_leaves_107 rfl rfl rfl
theorem dq_Model_leaves_109 : decode (km_c mm_Model_leaves) 109 = .ok (.iadd, 1) := by decide +kernel
theorem sq_Model_leaves_109 : rn G mm_Model_leaves 109 lv (.int x2 :: .int x :: st) S P ↔ rn G mm_Model_leaves 110 lv (.int (x + x2) :: st) S P := rn_s dq_Model_leaves_109 rfl rfl rfl
theorem dq_Model_leaves_110 : decode (km_c mm_Model_leaves) 110 = .ok (.iaload, 1) := by decide +kernel
theorem sq_Model_leaves_110 (ho : sx_o o pl kp) (hk : ak L a = 0) (hu : sx_up pl kp a = true ∨ 1000 ≤ a) (hc : c < ln L a) (hn : ln L a < 2 ^ 31) : rn (lt_G o L) mm_Model_leaves 110 lv (.int (nI c) :: .ref a :: st) (sx pl kp I A) P ↔ rn (lt_G o L) mm_Model_leaves 111 lv (.int (A a c) :: st) (sx pl kp I A) P := rx_ild dq_Model_leaves_110 ho hk hu hc hn
theorem dq_Model_leaves_111 : decode (km_c mm_Model_leaves) 111 = .ok (.i2l, 1) := by decide +kernel
theorem sq_Model_leaves_111 : rn G mm_Model_leaves 111 lv (.int x :: st) S P ↔ rn G mm_Model_leaves 112 lv (.long x.toInt64 :: st) S P := rn_s dq_Model_leaves_111 rfl rfl rfl
theorem dq_Model_leaves_112 : decode (km_c mm_Model_leaves) 112 = .ok (.goto 4, 3) := by decide +kernel
theorem sq_Model_leaves_112 : rn G mm_Model_leaves 112 lv st S P ↔ rn G mm_Model_leaves 116 lv st S P := rn_s dq_Model_leaves_112 rfl rfl rfl
theorem dq_Model_leaves_115 : decode (km_c mm_Model_leaves) 115 = .ok (.lconst 0, 1) := by decide +kernel
theorem sq_Model_leaves_115 : rn G mm_Model_leaves 115 lv st S P ↔ rn G mm_Model_leaves 116 lv (.long (0) :: st) S P := rn_s dq_Model_leaves_115 rfl rfl rfl
theorem dq_Model_leaves_116 : decode (km_c mm_Model_leaves) 116 = .ok (.ladd, 1) := by decide +kernel
theorem sq_Model_leaves_116 : rn G mm_Model_leaves 116 lv (.long y2 :: .long y :: st) S P ↔ rn G mm_Model_leaves 117 lv (.long (y + y2) :: st) S P := rn_s dq_Model_leaves_116 rfl rfl rfl
theorem dq_Model_leaves_117 : decode (km_c mm_Model_leaves) 117 = .ok (.lstore 7, 2) := by decide +kernel
theorem sq_Model_leaves_117n : rn G mm_Model_leaves 117 [a0, a1, a2, a3, a4, a5, none, a7, a8, a9, a10] (.long y :: st) S P ↔ rn G mm_Model_leaves 119 [a0, a1, a2, a3, a4, a5, none, some (.long y), none, a9, a10] st S P := rn_s dq_Model_leaves_117 rfl rfl rfl
theorem sq_Model_leaves_117i : rn G mm_Model_leaves 117 [a0, a1, a2, a3, a4, a5, some (.int x2), a7, a8, a9, a10] (.long y :: st) S P ↔ rn G mm_Model_leaves 119 [a0, a1, a2, a3, a4, a5, some (.int x2), some (.long y), none, a9, a10] st S P := rn_s dq_Model_leaves_117 rfl rfl rfl
theorem sq_Model_leaves_117r : rn G mm_Model_leaves 117 [a0, a1, a2, a3, a4, a5, some (.ref z2), a7, a8, a9, a10] (.long y :: st) S P ↔ rn G mm_Model_leaves 119 [a0, a1, a2, a3, a4, a5, some (.ref z2), some (.long y), none, a9, a10] st S P := rn_s dq_Model_leaves_117 rfl rfl rfl
theorem sq_Model_leaves_117l : rn G mm_Model_leaves 117 [a0, a1, a2, a3, a4, a5, some (.long y2), a7, a8, a9, a10] (.long y :: st) S P ↔ rn G mm_Model_leaves 119 [a0, a1, a2, a3, a4, a5, none, some (.long y), none, a9, a10] st S P := rn_s dq_Model_leaves_117 rfl rfl rfl
theorem dq_Model_leaves_119 : decode (km_c mm_Model_leaves) 119 = .ok (.iinc 9 1, 3) := by decide +kernel
theorem sq_Model_leaves_119n : rn G mm_Model_leaves 119 [a0, a1, a2, a3, a4, a5, a6, a7, none, some (.int x), a10] st S P ↔ rn G mm_Model_leaves 122 [a0, a1, a2, a3, a4, a5, a6, a7, none, some (.int (x + nI 1)), a10] st S P := rn_s dq_Model_leaves_119 rfl rfl rfl
theorem sq_Model_leaves_119i : rn G mm_Model_leaves 119 [a0, a1, a2, a3, a4, a5, a6, a7, some (.int x2), some (.int x), a10] st S P ↔ rn G mm_Model_leaves 122 [a0, a1, a2, a3, a4, a5, a6, a7, some (.int x2), some (.int (x + nI 1)), a10] st S P := rn_s dq_Model_leaves_119 rfl rfl rfl
theorem sq_Model_leaves_119r : rn G mm_Model_leaves 119 [a0, a1, a2, a3, a4, a5, a6, a7, some (.ref z2), some (.int x), a10] st S P ↔ rn G mm_Model_leaves 122 [a0, a1, a2, a3, a4, a5, a6, a7, some (.ref z2), some (.int (x + nI 1)), a10] st S P := rn_s dq_Model_leaves_119 rfl rfl rfl
theorem sq_Model_leaves_119l : rn G mm_Model_leaves 119 [a0, a1, a2, a3, a4, a5, a6, a7, some (.long y2), some (.int x), a10] st S P ↔ rn G mm_Model_leaves 122 [a0, a1, a2, a3, a4, a5, a6, a7, none, some (.int (x + nI 1)), a10] st S P := rn_s dq_Model_leaves_119 rfl rfl rfl
theorem dq_Model_leaves_122 : decode (km_c mm_Model_leaves) 122 = .ok (.iinc 10 1, 3) := by decide +kernel
theorem sq_Model_leaves_122n : rn G mm_Model_leaves 122 [a0, a1, a2, a3, a4, a5, a6, a7, a8, none, some (.int x)] st S P ↔ rn G mm_Model_leaves 125 [a0, a1, a2, a3, a4, a5, a6, a7, a8, none, some (.int (x + nI 1))] st S P := rn_s dq_Model_leaves_122 rfl rfl rfl
theorem sq_Model_leaves_122i : rn G mm_Model_leaves 122 [a0, a1, a2, a3, a4, a5, a6, a7, a8, some (.int x2), some (.int x)] st S P ↔ rn G mm_Model_leaves 125 [a0, a1, a2, a3, a4, a5, a6, a7, a8, some (.int x2), some (.int (x + nI 1))] st S P := rn_s dq_Model_leaves_122 rfl rfl rfl
theorem sq_Model_leaves_122r : rn G mm_Model_leaves 122 [a0, a1, a2, a3, a4, a5, a6, a7, a8, some (.ref z2), some (.int x)] st S P ↔ rn G mm_Model_leaves 125 [a0, a1, a2, a3, a4, a5, a6, a7, a8, some (.ref z2), some (.int (x + nI 1))] st S P := rn_s dq_Model_leaves_122 rfl rfl rfl
theorem sq_Model_leaves_122l : rn G mm_Model_leaves 122 [a0, a1, a2, a3, a4, a5, a6, a7, a8, some (.long y2), some (.int x)] st S P ↔ rn G mm_Model_leaves 125 [a0, a1, a2, a3, a4, a5, a6, a7, a8, none, some (.int (x + nI 1))] st S P := rn_s dq_Model_leaves_122 rfl rfl rfl
theorem dq_Model_leaves_125 : decode (km_c mm_Model_leaves) 125 = .ok (.goto (-59), 3) := by decide +kernel
theorem sq_Model_leaves_125 : rn G mm_Model_leaves 125 lv st S P ↔ rn G mm_Model_leaves 66 lv st S P := rn_s dq_Model_leaves_125 rfl rfl rfl
theorem dq_Model_leaves_128 : decode (km_c mm_Model_leaves) 128 = .ok (.iload 6, 2) := by decide +kernel
theorem sq_Model_leaves_128 : rn G mm_Model_leaves 128 [a0, a1, a2, a3, a4, a5, some (.int x), a7, a8, a9, a10] st S P ↔ rn G mm_Model_leaves 130 [a0, a1, a2, a3, a4, a5, some (.int x), a7, a8, a9, a10] (.int x :: st) S P := rn_s dq_Model_leaves_128 rfl rfl rfl
theorem dq_Model_leaves_130 : decode (km_c mm_Model_leaves) 130 = .ok (.iload_n 1, 1) := by decide +kernel
theorem sq_Model_leaves_130 : rn G mm_Model_leaves 130 [a0, some (.int x), a2, a3, a4, a5, a6, a7, a8, a9, a10] st S P ↔ rn G mm_Model_leaves 131 [a0, some (.int x), a2, a3, a4, a5, a6, a7, a8, a9, a10] (.int x :: st) S P := rn_s dq_Model_leaves_130 rfl rfl rfl
theorem dq_Model_leaves_131 : decode (km_c mm_Model_leaves) 131 = .ok (.iconst (-1), 1) := by decide +kernel
theorem sq_Model_leaves_131 : rn G mm_Model_leaves 131 lv st S P ↔ rn G mm_Model_leaves 132 lv (.int ((-1)) :: st) S P := rn_s dq_Model_leaves_131 rfl rfl rfl
theorem dq_Model_leaves_132 : decode (km_c mm_Model_leaves) 132 = .ok (.ixor, 1) := by decide +kernel
theorem sq_Model_leaves_132 : rn G mm_Model_leaves 132 lv (.int x2 :: .int x :: st) S P ↔ rn G mm_Model_leaves 133 lv (.int (x ^^^ x2) :: st) S P := rn_s dq_Model_leaves_132 rfl rfl rfl
theorem dq_Model_leaves_133 : decode (km_c mm_Model_leaves) 133 = .ok (.iand, 1) := by decide +kernel
theorem sq_Model_leaves_133 : rn G mm_Model_leaves 133 lv (.int x2 :: .int x :: st) S P ↔ rn G mm_Model_leaves 134 lv (.int (x &&& x2) :: st) S P := rn_s dq_Model_leaves_133 rfl rfl rfl
theorem dq_Model_leaves_134 : decode (km_c mm_Model_leaves) 134 = .ok (.ifCond .ne 20, 3) := by decide +kernel
theorem sq_Model_leaves_134 : rn G mm_Model_leaves 134 lv (.int x :: st) S P ↔ ((¬ x = 0 → rn G mm_Model_leaves 154 lv st S P) ∧ (¬ (¬ x = 0) → rn G mm_Model_leaves 137 lv st S P)) := rn_b (off := 20) dq_Model_leaves_134 rfl rfl rfl rfl
theorem dq_Model_leaves_137 : decode (km_c mm_Model_leaves) 137 = .ok (.lload 7, 2) := by decide +kernel
theorem sq_Model_leaves_137 : rn G mm_Model_leaves 137 [a0, a1, a2, a3, a4, a5, a6, some (.long y), a8, a9, a10] st S P ↔ rn G mm_Model_leaves 139 [a0, a1, a2, a3, a4, a5, a6, some (.long y), a8, a9, a10] (.long y :: st) S P := rn_s dq_Model_leaves_137 rfl rfl rfl
theorem dq_Model_leaves_139 : decode (km_c mm_Model_leaves) 139 = .ok (.aload_n 0, 1) := by decide +kernel
theorem sq_Model_leaves_139 : rn G mm_Model_leaves 139 [some (.ref z), a1, a2, a3, a4, a5, a6, a7, a8, a9, a10] st S P ↔ rn G mm_Model_leaves 140 [some (.ref z), a1, a2, a3, a4, a5, a6, a7, a8, a9, a10] (.ref z :: st) S P := rn_s dq_Model_leaves_139 rfl rfl rfl
theorem dq_Model_leaves_140 : decode (km_c mm_Model_leaves) 140 = .ok (.getfield 56, 3) := by decide +kernel
theorem sq_Model_leaves_140_45 (ho : sx_o o pl kp) : rn (lt_G o L) mm_Model_leaves 140 lv (.ref 45 :: st) (sx pl kp I A) P ↔ rn (lt_G o L) mm_Model_leaves 143 lv (.ref 59 :: st) (sx pl kp I A) P := rx_get (h := "") (ci := 10) (k := 23) dq_Model_leaves_140 (by decide +kernel) ho (up_b (by decide)) rfl rfl (fl_r (by decide) (by decide) (by decide) (by decide))
theorem dq_Model_leaves_143 : decode (km_c mm_Model_leaves) 143 = .ok (.iload 6, 2) := by decide +kernel
theorem sq_Model_leaves_143 : rn G mm_Model_leaves 143 [a0, a1, a2, a3, a4, a5, some (.int x), a7, a8, a9, a10] st S P ↔ rn G mm_Model_leaves 145 [a0, a1, a2, a3, a4, a5, some (.int x), a7, a8, a9, a10] (.int x :: st) S P := rn_s dq_Model_leaves_143 rfl rfl rfl
theorem dq_Model_leaves_145 : decode (km_c mm_Model_leaves) 145 = .ok (.iaload, 1) := by decide +kernel
theorem sq_Model_leaves_145 (ho : sx_o o pl kp) (hk : ak L a = 0) (hu : sx_up pl kp a = true ∨ 1000 ≤ a) (hc : c < ln L a) (hn : ln L a < 2 ^ 31) : rn (lt_G o L) mm_Model_leaves 145 lv (.int (nI c) :: .ref a :: st) (sx pl kp I A) P ↔ rn (lt_G o L) mm_Model_leaves 146 lv (.int (A a c) :: st) (sx pl kp I A) P := rx_ild dq_Model_leaves_145 ho hk hu hc hn
theorem dq_Model_leaves_146 : decode (km_c mm_Model_leaves) 146 = .ok (.i2l, 1) := by decide +kernel
theorem sq_Model_leaves_146 : rn G mm_Model_leaves 146 lv (.int x :: st) S P ↔ rn G mm_Model_leaves 147 lv (.long x.toInt64 :: st) S P := rn_s dq_Model_leaves_146 rfl rfl rfl
theorem dq_Model_leaves_147 : decode (km_c mm_Model_leaves) 147 = .ok (.lcmp, 1) := by decide +kernel
theorem sq_Model_leaves_147 : rn G mm_Model_leaves 147 lv (.long y2 :: .long y :: st) S P ↔ rn G mm_Model_leaves 148 lv (.int (lg_cmp y y2) :: st) S P := rn_s dq_Model_leaves_147 rfl rfl rfl
theorem dq_Model_leaves_148 : decode (km_c mm_Model_leaves) 148 = .ok (.ifCond .le 6, 3) := by decide +kernel
theorem sq_Model_leaves_148 : rn G mm_Model_leaves 148 lv (.int x :: st) S P ↔ ((x ≤ 0 → rn G mm_Model_leaves 154 lv st S P) ∧ (¬ (x ≤ 0) → rn G mm_Model_leaves 151 lv st S P)) := rn_b (off := 6) dq_Model_leaves_148 rfl rfl rfl rfl
theorem dq_Model_leaves_151 : decode (km_c mm_Model_leaves) 151 = .ok (.iload 6, 2) := by decide +kernel
theorem sq_Model_leaves_151 : rn G mm_Model_leaves 151 [a0, a1, a2, a3, a4, a5, some (.int x), a7, a8, a9, a10] st S P ↔ rn G mm_Model_leaves 153 [a0, a1, a2, a3, a4, a5, some (.int x), a7, a8, a9, a10] (.int x :: st) S P := rn_s dq_Model_leaves_151 rfl rfl rfl
theorem dq_Model_leaves_153 : decode (km_c mm_Model_leaves) 153 = .ok (.ireturn, 1) := by decide +kernel
theorem sq_Model_leaves_153 : rn G mm_Model_leaves 153 lv [.int x] S P ↔ P (some (.int x)) S := rn_ir dq_Model_leaves_153 rfl
theorem dq_Model_leaves_154 : decode (km_c mm_Model_leaves) 154 = .ok (.iinc 6 1, 3) := by decide +kernel
theorem sq_Model_leaves_154n : rn G mm_Model_leaves 154 [a0, a1, a2, a3, a4, none, some (.int x), a7, a8, a9, a10] st S P ↔ rn G mm_Model_leaves 157 [a0, a1, a2, a3, a4, none, some (.int (x + nI 1)), a7, a8, a9, a10] st S P := rn_s dq_Model_leaves_154 rfl rfl rfl
theorem sq_Model_leaves_154i : rn G mm_Model_leaves 154 [a0, a1, a2, a3, a4, some (.int x2), some (.int x), a7, a8, a9, a10] st S P ↔ rn G mm_Model_leaves 157 [a0, a1, a2, a3, a4, some (.int x2), some (.int (x + nI 1)), a7, a8, a9, a10] st S P := rn_s dq_Model_leaves_154 rfl rfl rfl
theorem sq_Model_leaves_154r : rn G mm_Model_leaves 154 [a0, a1, a2, a3, a4, some (.ref z2), some (.int x), a7, a8, a9, a10] st S P ↔ rn G mm_Model_leaves 157 [a0, a1, a2, a3, a4, some (.ref z2), some (.int (x + nI 1)), a7, a8, a9, a10] st S P := rn_s dq_Model_leaves_154 rfl rfl rfl
theorem sq_Model_leaves_154l : rn G mm_Model_leaves 154 [a0, a1, a2, a3, a4, some (.long y2), some (.int x), a7, a8, a9, a10] st S P ↔ rn G mm_Model_leaves 157 [a0, a1, a2, a3, a4, none, some (.int (x + nI 1)), a7, a8, a9, a10] st S P := rn_s dq_Model_leaves_154 rfl rfl rfl
theorem dq_Model_leaves_157 : decode (km_c mm_Model_leaves) 157 = .ok (.goto (-106), 3) := by decide +kernel
theorem sq_Model_leaves_157 : rn G mm_Model_leaves 157 lv st S P ↔ rn G mm_Model_leaves 51 lv st S P := rn_s dq_Model_leaves_157 rfl rfl rfl
theorem dq_Model_leaves_160 : decode (km_c mm_Model_leaves) 160 = .ok (.bipush (-4), 2) := by decide +kernel
theorem sq_Model_leaves_160 : rn G mm_Model_leaves 160 lv st S P ↔ rn G mm_Model_leaves 162 lv (.int ((-4)) :: st) S P := rn_s dq_Model_leaves_160 rfl rfl rfl
theorem dq_Model_leaves_162 : decode (km_c mm_Model_leaves) 162 = .ok (.ireturn, 1) := by decide +kernel
theorem sq_Model_leaves_162 : rn G mm_Model_leaves 162 lv [.int x] S P ↔ P (some (.int x)) S := rn_ir dq_Model_leaves_162 rfl
end SQ
