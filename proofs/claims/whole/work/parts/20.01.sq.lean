section SQ
variable {o pl kp : Bool} {L : Nat} {I A : Nat → Nat → Int32} {G : kg_G} {S : ks_S} {lv : List (Option Value)} {st : List Value} {P : Option Value → ks_S → Prop} {x x2 : Int32} {y y2 : Int64} {z z2 c a : Nat} {a0 a1 a2 a3 a4 a5 a6 a7 a8 a9 a10 a11 a12 a13 a14 a15 a16 a17 a18 a19 a20 a21 a22 a23 : Option Value}
theorem dq_Water_wetCellsOf_0 : decode (km_c mm_Water_wetCellsOf) 0 = .ok (.iconst 0, 1) := by decide +kernel
theorem sq_Water_wetCellsOf_0 : rn G mm_Water_wetCellsOf 0 lv st S P ↔ rn G mm_Water_wetCellsOf 1 lv (.int (nI 0) :: st) S P := rn_s dq_Water_wetCellsOf_0 rfl rfl rfl
theorem dq_Water_wetCellsOf_1 : decode (km_c mm_Water_wetCellsOf) 1 = .ok (.istore_n 2, 1) := by decide +kernel
theorem sq_Water_wetCellsOf_1n : rn G mm_Water_wetCellsOf 1 [a0, none, a2, a3] (.int x :: st) S P ↔ rn G mm_Water_wetCellsOf 2 [a0, none, some (.int x), a3] st S P := rn_s dq_Water_wetCellsOf_1 rfl rfl rfl
theorem sq_Water_wetCellsOf_1i : rn G mm_Water_wetCellsOf 1 [a0, some (.int x2), a2, a3] (.int x :: st) S P ↔ rn G mm_Water_wetCellsOf 2 [a0, some (.int x2), some (.int x), a3] st S P := rn_s dq_Water_wetCellsOf_1 rfl rfl rfl
theorem sq_Water_wetCellsOf_1r : rn G mm_Water_wetCellsOf 1 [a0, some (.ref z2), a2, a3] (.int x :: st) S P ↔ rn G mm_Water_wetCellsOf 2 [a0, some (.ref z2), some (.int x), a3] st S P := rn_s dq_Water_wetCellsOf_1 rfl rfl rfl
theorem sq_Water_wetCellsOf_1l : rn G mm_Water_wetCellsOf 1 [a0, some (.long y2), a2, a3] (.int x :: st) S P ↔ rn G mm_Water_wetCellsOf 2 [a0, none, some (.int x), a3] st S P := rn_s dq_Water_wetCellsOf_1 rfl rfl rfl
theorem dq_Water_wetCellsOf_2 : decode (km_c mm_Water_wetCellsOf) 2 = .ok (.iconst 0, 1) := by decide +kernel
theorem sq_Water_wetCellsOf_2 : rn G mm_Water_wetCellsOf 2 lv st S P ↔ rn G mm_Water_wetCellsOf 3 lv (.int (nI 0) :: st) S P := rn_s dq_Water_wetCellsOf_2 rfl rfl rfl
theorem dq_Water_wetCellsOf_3 : decode (km_c mm_Water_wetCellsOf) 3 = .ok (.istore_n 3, 1) := by decide +kernel
theorem sq_Water_wetCellsOf_3n : rn G mm_Water_wetCellsOf 3 [a0, a1, none, a3] (.int x :: st) S P ↔ rn G mm_Water_wetCellsOf 4 [a0, a1, none, some (.int x)] st S P := rn_s dq_Water_wetCellsOf_3 rfl rfl rfl
theorem sq_Water_wetCellsOf_3i : rn G mm_Water_wetCellsOf 3 [a0, a1, some (.int x2), a3] (.int x :: st) S P ↔ rn G mm_Water_wetCellsOf 4 [a0, a1, some (.int x2), some (.int x)] st S P := rn_s dq_Water_wetCellsOf_3 rfl rfl rfl
theorem sq_Water_wetCellsOf_3r : rn G mm_Water_wetCellsOf 3 [a0, a1, some (.ref z2), a3] (.int x :: st) S P ↔ rn G mm_Water_wetCellsOf 4 [a0, a1, some (.ref z2), some (.int x)] st S P := rn_s dq_Water_wetCellsOf_3 rfl rfl rfl
theorem sq_Water_wetCellsOf_3l : rn G mm_Water_wetCellsOf 3 [a0, a1, some (.long y2), a3] (.int x :: st) S P ↔ rn G mm_Water_wetCellsOf 4 [a0, a1, none, some (.int x)] st S P := rn_s dq_Water_wetCellsOf_3 rfl rfl rfl
theorem dq_Water_wetCellsOf_4 : decode (km_c mm_Water_wetCellsOf) 4 = .ok (.iload_n 3, 1) := by decide +kernel
theorem sq_Water_wetCellsOf_4 : rn G mm_Water_wetCellsOf 4 [a0, a1, a2, some (.int x)] st S P ↔ rn G mm_Water_wetCellsOf 5 [a0, a1, a2, some (.int x)] (.int x :: st) S P := rn_s dq_Water_wetCellsOf_4 rfl rfl rfl
theorem dq_Water_wetCellsOf_5 : decode (km_c mm_Water_wetCellsOf) 5 = .ok (.aload_n 1, 1) := by decide +kernel
theorem sq_Water_wetCellsOf_5 : rn G mm_Water_wetCellsOf 5 [a0, some (.ref z), a2, a3] st S P ↔ rn G mm_Water_wetCellsOf 6 [a0, some (.ref z), a2, a3] (.ref z :: st) S P := rn_s dq_Water_wetCellsOf_5 rfl rfl rfl
theorem dq_Water_wetCellsOf_6 : decode (km_c mm_Water_wetCellsOf) 6 = .ok (.getfield 49, 3) := by decide +kernel
theorem sq_Water_wetCellsOf_6_12 (ho : sx_o o pl kp) : rn (lt_G o L) mm_Water_wetCellsOf 6 lv (.ref 12 :: st) (sx pl kp I A) P ↔ rn (lt_G o L) mm_Water_wetCellsOf 9 lv (.int (I 12 1) :: st) (sx pl kp I A) P := rx_get (h := "DeltaRoad") (ci := 1) (k := 1) dq_Water_wetCellsOf_6 (by decide +kernel) ho (up_b (by decide)) rfl rfl (fl_i (by decide))
theorem sq_Water_wetCellsOf_6_147 (ho : sx_o o pl true) : rn (lt_G o L) mm_Water_wetCellsOf 6 lv (.ref 147 :: st) (sx pl true I A) P ↔ rn (lt_G o L) mm_Water_wetCellsOf 9 lv (.int (I 147 1) :: st) (sx pl true I A) P := rx_get (h := "DeltaRoad") (ci := 1) (k := 1) dq_Water_wetCellsOf_6 (by decide +kernel) ho (up_k (by decide) (by decide)) rfl rfl (fl_i (by decide))
theorem dq_Water_wetCellsOf_9 : decode (km_c mm_Water_wetCellsOf) 9 = .ok (.if_icmp .ge 26, 3) := by decide +kernel
theorem sq_Water_wetCellsOf_9 : rn G mm_Water_wetCellsOf 9 lv (.int x2 :: .int x :: st) S P ↔ ((x2 ≤ x → rn G mm_Water_wetCellsOf 35 lv st S P) ∧ (¬ (x2 ≤ x) → rn G mm_Water_wetCellsOf 12 lv st S P)) := rn_b (off := 26) dq_Water_wetCellsOf_9 rfl rfl rfl rfl
theorem dq_Water_wetCellsOf_12 : decode (km_c mm_Water_wetCellsOf) 12 = .ok (.aload_n 0, 1) := by decide +kernel
theorem sq_Water_wetCellsOf_12 : rn G mm_Water_wetCellsOf 12 [some (.ref z), a1, a2, a3] st S P ↔ rn G mm_Water_wetCellsOf 13 [some (.ref z), a1, a2, a3] (.ref z :: st) S P := rn_s dq_Water_wetCellsOf_12 rfl rfl rfl
theorem dq_Water_wetCellsOf_13 : decode (km_c mm_Water_wetCellsOf) 13 = .ok (.getfield 9, 3) := by decide +kernel
theorem sq_Water_wetCellsOf_13_16 (ho : sx_o o pl kp) : rn (lt_G o L) mm_Water_wetCellsOf 13 lv (.ref 16 :: st) (sx pl kp I A) P ↔ rn (lt_G o L) mm_Water_wetCellsOf 16 lv (.ref 17 :: st) (sx pl kp I A) P := rx_get (h := "") (ci := 6) (k := 0) dq_Water_wetCellsOf_13 (by decide +kernel) ho (up_b (by decide)) rfl rfl (fl_r (by decide) (by decide) (by decide) (by decide))
theorem sq_Water_wetCellsOf_13_20 (ho : sx_o o pl kp) : rn (lt_G o L) mm_Water_wetCellsOf 13 lv (.ref 20 :: st) (sx pl kp I A) P ↔ rn (lt_G o L) mm_Water_wetCellsOf 16 lv (.ref 21 :: st) (sx pl kp I A) P := rx_get (h := "") (ci := 6) (k := 0) dq_Water_wetCellsOf_13 (by decide +kernel) ho (up_b (by decide)) rfl rfl (fl_r (by decide) (by decide) (by decide) (by decide))
theorem dq_Water_wetCellsOf_16 : decode (km_c mm_Water_wetCellsOf) 16 = .ok (.aload_n 1, 1) := by decide +kernel
theorem sq_Water_wetCellsOf_16 : rn G mm_Water_wetCellsOf 16 [a0, some (.ref z), a2, a3] st S P ↔ rn G mm_Water_wetCellsOf 17 [a0, some (.ref z), a2, a3] (.ref z :: st) S P := rn_s dq_Water_wetCellsOf_16 rfl rfl rfl
theorem dq_Water_wetCellsOf_17 : decode (km_c mm_Water_wetCellsOf) 17 = .ok (.getfield 54, 3) := by decide +kernel
theorem sq_Water_wetCellsOf_17_12 (ho : sx_o o pl kp) : rn (lt_G o L) mm_Water_wetCellsOf 17 lv (.ref 12 :: st) (sx pl kp I A) P ↔ rn (lt_G o L) mm_Water_wetCellsOf 20 lv (.ref 13 :: st) (sx pl kp I A) P := rx_get (h := "DeltaRoad") (ci := 1) (k := 0) dq_Water_wetCellsOf_17 (by decide +kernel) ho (up_b (by decide)) rfl rfl (fl_r (by decide) (by decide) (by decide) (by decide))
theorem sq_Water_wetCellsOf_17_147 (ho : sx_o o pl true) : rn (lt_G o L) mm_Water_wetCellsOf 17 lv (.ref 147 :: st) (sx pl true I A) P ↔ rn (lt_G o L) mm_Water_wetCellsOf 20 lv (.ref 148 :: st) (sx pl true I A) P := rx_get (h := "DeltaRoad") (ci := 1) (k := 0) dq_Water_wetCellsOf_17 (by decide +kernel) ho (up_k (by decide) (by decide)) rfl rfl (fl_k (by decide) (by decide))
theorem dq_Water_wetCellsOf_20 : decode (km_c mm_Water_wetCellsOf) 20 = .ok (.iload_n 3, 1) := by decide +kernel
theorem sq_Water_wetCellsOf_20 : rn G mm_Water_wetCellsOf 20 [a0, a1, a2, some (.int x)] st S P ↔ rn G mm_Water_wetCellsOf 21 [a0, a1, a2, some (.int x)] (.int x :: st) S P := rn_s dq_Water_wetCellsOf_20 rfl rfl rfl
theorem dq_Water_wetCellsOf_21 : decode (km_c mm_Water_wetCellsOf) 21 = .ok (.iaload, 1) := by decide +kernel
theorem sq_Water_wetCellsOf_21 (ho : sx_o o pl kp) (hk : ak L a = 0) (hu : sx_up pl kp a = true ∨ 1000 ≤ a) (hc : c < ln L a) (hn : ln L a < 2 ^ 31) : rn (lt_G o L) mm_Water_wetCellsOf 21 lv (.int (nI c) :: .ref a :: st) (sx pl kp I A) P ↔ rn (lt_G o L) mm_Water_wetCellsOf 22 lv (.int (A a c) :: st) (sx pl kp I A) P := rx_ild dq_Water_wetCellsOf_21 ho hk hu hc hn
theorem dq_Water_wetCellsOf_22 : decode (km_c mm_Water_wetCellsOf) 22 = .ok (.iaload, 1) := by decide +kernel
theorem sq_Water_wetCellsOf_22 (ho : sx_o o pl kp) (hk : ak L a = 0) (hu : sx_up pl kp a = true ∨ 1000 ≤ a) (hc : c < ln L a) (hn : ln L a < 2 ^ 31) : rn (lt_G o L) mm_Water_wetCellsOf 22 lv (.int (nI c) :: .ref a :: st) (sx pl kp I A) P ↔ rn (lt_G o L) mm_Water_wetCellsOf 23 lv (.int (A a c) :: st) (sx pl kp I A) P := rx_ild dq_Water_wetCellsOf_22 ho hk hu hc hn
theorem dq_Water_wetCellsOf_23 : decode (km_c mm_Water_wetCellsOf) 23 = .ok (.ifCond .le 6, 3) := by decide +kernel
theorem sq_Water_wetCellsOf_23 : rn G mm_Water_wetCellsOf 23 lv (.int x :: st) S P ↔ ((x ≤ 0 → rn G mm_Water_wetCellsOf 29 lv st S P) ∧ (¬ (x ≤ 0) → rn G mm_Water_wetCellsOf 26 lv st S P)) := rn_b (off := 6) dq_Water_wetCellsOf_23 rfl rfl rfl rfl
theorem dq_Water_wetCellsOf_26 : decode (km_c mm_Water_wetCellsOf) 26 = .ok (.iinc 2 1, 3) := by decide +kernel
theorem sq_Water_wetCellsOf_26n : rn G mm_Water_wetCellsOf 26 [a0, none, some (.int x), a3] st S P ↔ rn G mm_Water_wetCellsOf 29 [a0, none, some (.int (x + nI 1)), a3] st S P := rn_s dq_Water_wetCellsOf_26 rfl rfl rfl
theorem sq_Water_wetCellsOf_26i : rn G mm_Water_wetCellsOf 26 [a0, some (.int x2), some (.int x), a3] st S P ↔ rn G mm_Water_wetCellsOf 29 [a0, some (.int x2), some (.int (x + nI 1)), a3] st S P := rn_s dq_Water_wetCellsOf_26 rfl rfl rfl
theorem sq_Water_wetCellsOf_26r : rn G mm_Water_wetCellsOf 26 [a0, some (.ref z2), some (.int x), a3] st S P ↔ rn G mm_Water_wetCellsOf 29 [a0, some (.ref z2), some (.int (x + nI 1)), a3] st S P := rn_s dq_Water_wetCellsOf_26 rfl rfl rfl
theorem sq_Water_wetCellsOf_26l : rn G mm_Water_wetCellsOf 26 [a0, some (.long y2), some (.int x), a3] st S P ↔ rn G mm_Water_wetCellsOf 29 [a0, none, some (.int (x + nI 1)), a3] st S P := rn_s dq_Water_wetCellsOf_26 rfl rfl rfl
theorem dq_Water_wetCellsOf_29 : decode (km_c mm_Water_wetCellsOf) 29 = .ok (.iinc 3 1, 3) := by decide +kernel
theorem sq_Water_wetCellsOf_29n : rn G mm_Water_wetCellsOf 29 [a0, a1, none, some (.int x)] st S P ↔ rn G mm_Water_wetCellsOf 32 [a0, a1, none, some (.int (x + nI 1))] st S P := rn_s dq_Water_wetCellsOf_29 rfl rfl rfl
theorem sq_Water_wetCellsOf_29i : rn G mm_Water_wetCellsOf 29 [a0, a1, some (.int x2), some (.int x)] st S P ↔ rn G mm_Water_wetCellsOf 32 [a0, a1, some (.int x2), some (.int (x + nI 1))] st S P := rn_s dq_Water_wetCellsOf_29 rfl rfl rfl
theorem sq_Water_wetCellsOf_29r : rn G mm_Water_wetCellsOf 29 [a0, a1, some (.ref z2), some (.int x)] st S P ↔ rn G mm_Water_wetCellsOf 32 [a0, a1, some (.ref z2), some (.int (x + nI 1))] st S P := rn_s dq_Water_wetCellsOf_29 rfl rfl rfl
theorem sq_Water_wetCellsOf_29l : rn G mm_Water_wetCellsOf 29 [a0, a1, some (.long y2), some (.int x)] st S P ↔ rn G mm_Water_wetCellsOf 32 [a0, a1, none, some (.int (x + nI 1))] st S P := rn_s dq_Water_wetCellsOf_29 rfl rfl rfl
theorem dq_Water_wetCellsOf_32 : decode (km_c mm_Water_wetCellsOf) 32 = .ok (.goto (-28), 3) := by decide +kernel
theorem sq_Water_wetCellsOf_32 : rn G mm_Water_wetCellsOf 32 lv st S P ↔ rn G mm_Water_wetCellsOf 4 lv st S P := rn_s dq_Water_wetCellsOf_32 rfl rfl rfl
theorem dq_Water_wetCellsOf_35 : decode (km_c mm_Water_wetCellsOf) 35 = .ok (.iload_n 2, 1) := by decide +kernel
theorem sq_Water_wetCellsOf_35 : rn G mm_Water_wetCellsOf 35 [a0, a1, some (.int x), a3] st S P ↔ rn G mm_Water_wetCellsOf 36 [a0, a1, some (.int x), a3] (.int x :: st) S P := rn_s dq_Water_wetCellsOf_35 rfl rfl rfl
theorem dq_Water_wetCellsOf_36 : decode (km_c mm_Water_wetCellsOf) 36 = .ok (.ireturn, 1) := by decide +kernel
theorem sq_Water_wetCellsOf_36 : rn G mm_Water_wetCellsOf 36 lv [.int x] S P ↔ P (some (.int x)) S := rn_ir dq_Water_wetCellsOf_36 rfl
end SQ
