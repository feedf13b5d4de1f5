section SQ
variable {o pl kp : Bool} {L : Nat} {I A : Nat → Nat → Int32} {G : kg_G} {S : ks_S} {lv : List (Option Value)} {st : List Value} {P : Option Value → ks_S → Prop} {x x2 : Int32} {y y2 : Int64} {z z2 c a : Nat} {a0 a1 a2 a3 a4 a5 a6 a7 a8 a9 a10 a11 a12 a13 a14 a15 a16 a17 a18 a19 a20 a21 a22 a23 : Option Value}
theorem dq_Law_law_0 : decode (km_c mm_Law_law) 0 = .ok (.new 7, 3) := by decide +kernel
theorem dq_Law_law_3 : decode (km_c mm_Law_law) 3 = .ok (.dup, 1) := by decide +kernel
theorem sq_Law_law_3i : rn G mm_Law_law 3 lv (.int x :: st) S P ↔ rn G mm_Law_law 4 lv (.int x :: .int x :: st) S P := rn_s dq_Law_law_3 rfl rfl rfl
theorem sq_Law_law_3r : rn G mm_Law_law 3 lv (.ref z :: st) S P ↔ rn G mm_Law_law 4 lv (.ref z :: .ref z :: st) S P := rn_s dq_Law_law_3 rfl rfl rfl
theorem dq_Law_law_4 : decode (km_c mm_Law_law) 4 = .ok (.invokespecial 9, 3) := by decide +kernel
theorem sq_Law_law_4_0  {v : Option Value} {S2 : ks_S} (hc : ev (lt_G o L) mm_Road_init [.ref 0] (sx pl kp I A) v S2) (ho : sx_o o pl kp) (hst : kx_cat st ≤ 8) : rn (lt_G o L) mm_Law_law 4 lv (.ref 0 :: st) (sx pl kp I A) P ↔ rn (lt_G o L) mm_Law_law 7 lv (v.toList ++ st) S2 P := rn_ci (k := 2) (host := "") (E' := mm_Road_init) dq_Law_law_4 (by decide) rfl (ok_v rfl (by decide) (by decide) (Nat.le_add_left _ _) hst (Nat.le_of_ble_eq_true rfl) (Or.inr (rc_v ho (up_b (by decide)) rfl))) rfl rfl hc
theorem dq_Law_law_7 : decode (km_c mm_Law_law) 7 = .ok (.astore_n 1, 1) := by decide +kernel
theorem sq_Law_law_7n : rn G mm_Law_law 7 [none, a1, a2, a3] (.ref z :: st) S P ↔ rn G mm_Law_law 8 [none, some (.ref z), a2, a3] st S P := rn_s dq_Law_law_7 rfl rfl rfl
theorem sq_Law_law_7i : rn G mm_Law_law 7 [some (.int x2), a1, a2, a3] (.ref z :: st) S P ↔ rn G mm_Law_law 8 [some (.int x2), some (.ref z), a2, a3] st S P := rn_s dq_Law_law_7 rfl rfl rfl
theorem sq_Law_law_7r : rn G mm_Law_law 7 [some (.ref z2), a1, a2, a3] (.ref z :: st) S P ↔ rn G mm_Law_law 8 [some (.ref z2), some (.ref z), a2, a3] st S P := rn_s dq_Law_law_7 rfl rfl rfl
theorem dq_Law_law_8 : decode (km_c mm_Law_law) 8 = .ok (.new 10, 3) := by decide +kernel
theorem dq_Law_law_11 : decode (km_c mm_Law_law) 11 = .ok (.dup, 1) := by decide +kernel
theorem sq_Law_law_11i : rn G mm_Law_law 11 lv (.int x :: st) S P ↔ rn G mm_Law_law 12 lv (.int x :: .int x :: st) S P := rn_s dq_Law_law_11 rfl rfl rfl
theorem sq_Law_law_11r : rn G mm_Law_law 11 lv (.ref z :: st) S P ↔ rn G mm_Law_law 12 lv (.ref z :: .ref z :: st) S P := rn_s dq_Law_law_11 rfl rfl rfl
theorem dq_Law_law_12 : decode (km_c mm_Law_law) 12 = .ok (.invokespecial 12, 3) := by decide +kernel
theorem sq_Law_law_12_45  {v : Option Value} {S2 : ks_S} (hc : ev (lt_G o L) mm_Model_init [.ref 45] (sx pl kp I A) v S2) (ho : sx_o o pl kp) (hst : kx_cat st ≤ 8) : rn (lt_G o L) mm_Law_law 12 lv (.ref 45 :: st) (sx pl kp I A) P ↔ rn (lt_G o L) mm_Law_law 15 lv (v.toList ++ st) S2 P := rn_ci (k := 2) (host := "") (E' := mm_Model_init) dq_Law_law_12 (by decide) rfl (ok_v rfl (by decide) (by decide) (Nat.le_add_left _ _) hst (Nat.le_of_ble_eq_true rfl) (Or.inr (rc_v ho (up_b (by decide)) rfl))) rfl rfl hc
theorem dq_Law_law_15 : decode (km_c mm_Law_law) 15 = .ok (.astore_n 2, 1) := by decide +kernel
theorem sq_Law_law_15n : rn G mm_Law_law 15 [a0, none, a2, a3] (.ref z :: st) S P ↔ rn G mm_Law_law 16 [a0, none, some (.ref z), a3] st S P := rn_s dq_Law_law_15 rfl rfl rfl
theorem sq_Law_law_15i : rn G mm_Law_law 15 [a0, some (.int x2), a2, a3] (.ref z :: st) S P ↔ rn G mm_Law_law 16 [a0, some (.int x2), some (.ref z), a3] st S P := rn_s dq_Law_law_15 rfl rfl rfl
theorem sq_Law_law_15r : rn G mm_Law_law 15 [a0, some (.ref z2), a2, a3] (.ref z :: st) S P ↔ rn G mm_Law_law 16 [a0, some (.ref z2), some (.ref z), a3] st S P := rn_s dq_Law_law_15 rfl rfl rfl
theorem dq_Law_law_16 : decode (km_c mm_Law_law) 16 = .ok (.iconst 0, 1) := by decide +kernel
theorem sq_Law_law_16 : rn G mm_Law_law 16 lv st S P ↔ rn G mm_Law_law 17 lv (.int (nI 0) :: st) S P := rn_s dq_Law_law_16 rfl rfl rfl
theorem dq_Law_law_17 : decode (km_c mm_Law_law) 17 = .ok (.istore_n 3, 1) := by decide +kernel
theorem sq_Law_law_17n : rn G mm_Law_law 17 [a0, a1, none, a3] (.int x :: st) S P ↔ rn G mm_Law_law 18 [a0, a1, none, some (.int x)] st S P := rn_s dq_Law_law_17 rfl rfl rfl
theorem sq_Law_law_17i : rn G mm_Law_law 17 [a0, a1, some (.int x2), a3] (.int x :: st) S P ↔ rn G mm_Law_law 18 [a0, a1, some (.int x2), some (.int x)] st S P := rn_s dq_Law_law_17 rfl rfl rfl
theorem sq_Law_law_17r : rn G mm_Law_law 17 [a0, a1, some (.ref z2), a3] (.int x :: st) S P ↔ rn G mm_Law_law 18 [a0, a1, some (.ref z2), some (.int x)] st S P := rn_s dq_Law_law_17 rfl rfl rfl
theorem dq_Law_law_18 : decode (km_c mm_Law_law) 18 = .ok (.iload_n 3, 1) := by decide +kernel
theorem sq_Law_law_18 : rn G mm_Law_law 18 [a0, a1, a2, some (.int x)] st S P ↔ rn G mm_Law_law 19 [a0, a1, a2, some (.int x)] (.int x :: st) S P := rn_s dq_Law_law_18 rfl rfl rfl
theorem dq_Law_law_19 : decode (km_c mm_Law_law) 19 = .ok (.aload_n 0, 1) := by decide +kernel
theorem sq_Law_law_19 : rn G mm_Law_law 19 [some (.ref z), a1, a2, a3] st S P ↔ rn G mm_Law_law 20 [some (.ref z), a1, a2, a3] (.ref z :: st) S P := rn_s dq_Law_law_19 rfl rfl rfl
theorem dq_Law_law_20 : decode (km_c mm_Law_law) 20 = .ok (.arraylength, 1) := by decide +kernel
theorem sq_Law_law_20 (ho : sx_o o pl kp) (hk : ak L a = 0) (hu : sx_up pl kp a = true ∨ 1000 ≤ a) : rn (lt_G o L) mm_Law_law 20 lv (.ref a :: st) (sx pl kp I A) P ↔ rn (lt_G o L) mm_Law_law 21 lv (.int (nI (ln L a)) :: st) (sx pl kp I A) P := rx_len dq_Law_law_20 ho hk hu
theorem dq_Law_law_21 : decode (km_c mm_Law_law) 21 = .ok (.iconst 5, 1) := by decide +kernel
theorem sq_Law_law_21 : rn G mm_Law_law 21 lv st S P ↔ rn G mm_Law_law 22 lv (.int (nI 5) :: st) S P := rn_s dq_Law_law_21 rfl rfl rfl
theorem dq_Law_law_22 : decode (km_c mm_Law_law) 22 = .ok (.isub, 1) := by decide +kernel
theorem sq_Law_law_22 : rn G mm_Law_law 22 lv (.int x2 :: .int x :: st) S P ↔ rn G mm_Law_law 23 lv (.int (x - x2) :: st) S P := rn_s dq_Law_law_22 rfl rfl rfl
theorem dq_Law_law_23 : decode (km_c mm_Law_law) 23 = .ok (.if_icmp .gt 1157, 3) := by decide +kernel
theorem sq_Law_law_23 : rn G mm_Law_law 23 lv (.int x2 :: .int x :: st) S P ↔ ((x2 < x → rn G mm_Law_law 1180 lv st S P) ∧ (¬ (x2 < x) → rn G mm_Law_law 26 lv st S P)) := rn_b (off := 1157) dq_Law_law_23 rfl rfl rfl rfl
theorem dq_Law_law_26 : decode (km_c mm_Law_law) 26 = .ok (.aload_n 0, 1) := by decide +kernel
theorem sq_Law_law_26 : rn G mm_Law_law 26 [some (.ref z), a1, a2, a3] st S P ↔ rn G mm_Law_law 27 [some (.ref z), a1, a2, a3] (.ref z :: st) S P := rn_s dq_Law_law_26 rfl rfl rfl
theorem dq_Law_law_27 : decode (km_c mm_Law_law) 27 = .ok (.iload_n 3, 1) := by decide +kernel
theorem sq_Law_law_27 : rn G mm_Law_law 27 [a0, a1, a2, some (.int x)] st S P ↔ rn G mm_Law_law 28 [a0, a1, a2, some (.int x)] (.int x :: st) S P := rn_s dq_Law_law_27 rfl rfl rfl
theorem dq_Law_law_28 : decode (km_c mm_Law_law) 28 = .ok (.iaload, 1) := by decide +kernel
theorem sq_Law_law_28 (ho : sx_o o pl kp) (hk : ak L a = 0) (hu : sx_up pl kp a = true ∨ 1000 ≤ a) (hc : c < ln L a) (hn : ln L a < 2 ^ 31) : rn (lt_G o L) mm_Law_law 28 lv (.int (nI c) :: .ref a :: st) (sx pl kp I A) P ↔ rn (lt_G o L) mm_Law_law 29 lv (.int (A a c) :: st) (sx pl kp I A) P := rx_ild dq_Law_law_28 ho hk hu hc hn
theorem dq_Law_law_29 : decode (km_c mm_Law_law) 29 = .ok (.bipush 63, 2) := by decide +kernel
theorem sq_Law_law_29 : rn G mm_Law_law 29 lv st S P ↔ rn G mm_Law_law 31 lv (.int (nI 63) :: st) S P := rn_s dq_Law_law_29 rfl rfl rfl
theorem dq_Law_law_31 : decode (km_c mm_Law_law) 31 = .ok (.iand, 1) := by decide +kernel
theorem sq_Law_law_31 : rn G mm_Law_law 31 lv (.int x2 :: .int x :: st) S P ↔ rn G mm_Law_law 32 lv (.int (x &&& x2) :: st) S P := rn_s dq_Law_law_31 rfl rfl rfl
theorem dq_Law_law_32 : decode (km_c mm_Law_law) 32 = .ok (.tableswitch 1142 0 34 #[156, 199, 232, 255, 268, 331, 344, 357, 380, 413, 446, 479, 502, 525, 538, 581, 604, 627, 650, 673, 696, 729, 752, 765, 798, 832, 855, 878, 891, 904, 917, 970, 1013, 1036, 1089], 156) := by decide +kernel
theorem dq_Law_law_188 : decode (km_c mm_Law_law) 188 = .ok (.aload_n 1, 1) := by decide +kernel
theorem sq_Law_law_188 : rn G mm_Law_law 188 [a0, some (.ref z), a2, a3] st S P ↔ rn G mm_Law_law 189 [a0, some (.ref z), a2, a3] (.ref z :: st) S P := rn_s dq_Law_law_188 rfl rfl rfl
theorem dq_Law_law_189 : decode (km_c mm_Law_law) 189 = .ok (.aload_n 0, 1) := by decide +kernel
theorem sq_Law_law_189 : rn G mm_Law_law 189 [some (.ref z), a1, a2, a3] st S P ↔ rn G mm_Law_law 190 [some (.ref z), a1, a2, a3] (.ref z :: st) S P := rn_s dq_Law_law_189 rfl rfl rfl
theorem dq_Law_law_190 : decode (km_c mm_Law_law) 190 = .ok (.iload_n 3, 1) := by decide +kernel
theorem sq_Law_law_190 : rn G mm_Law_law 190 [a0, a1, a2, some (.int x)] st S P ↔ rn G mm_Law_law 191 [a0, a1, a2, some (.int x)] (.int x :: st) S P := rn_s dq_Law_law_190 rfl rfl rfl
theorem dq_Law_law_191 : decode (km_c mm_Law_law) 191 = .ok (.iconst 1, 1) := by decide +kernel
theorem sq_Law_law_191 : rn G mm_Law_law 191 lv st S P ↔ rn G mm_Law_law 192 lv (.int (nI 1) :: st) S P := rn_s dq_Law_law_191 rfl rfl rfl
theorem dq_Law_law_192 : decode (km_c mm_Law_law) 192 = .ok (.iadd, 1) := by decide +kernel
theorem sq_Law_law_192 : rn G mm_Law_law 192 lv (.int x2 :: .int x :: st) S P ↔ rn G mm_Law_law 193 lv (.int (x + x2) :: st) S P := rn_s dq_Law_law_192 rfl rfl rfl
theorem dq_Law_law_193 : decode (km_c mm_Law_law) 193 = .ok (.iaload, 1) := by decide +kernel
theorem sq_Law_law_193 (ho : sx_o o pl kp) (hk : ak L a = 0) (hu : sx_up pl kp a = true ∨ 1000 ≤ a) (hc : c < ln L a) (hn : ln L a < 2 ^ 31) : rn (lt_G o L) mm_Law_law 193 lv (.int (nI c) :: .ref a :: st) (sx pl kp I A) P ↔ rn (lt_G o L) mm_Law_law 194 lv (.int (A a c) :: st) (sx pl kp I A) P := rx_ild dq_Law_law_193 ho hk hu hc hn
theorem dq_Law_law_194 : decode (km_c mm_Law_law) 194 = .ok (.aload_n 0, 1) := by decide +kernel
theorem sq_Law_law_194 : rn G mm_Law_law 194 [some (.ref z), a1, a2, a3] st S P ↔ rn G mm_Law_law 195 [some (.ref z), a1, a2, a3] (.ref z :: st) S P := rn_s dq_Law_law_194 rfl rfl rfl
theorem dq_Law_law_195 : decode (km_c mm_Law_law) 195 = .ok (.iload_n 3, 1) := by decide +kernel
theorem sq_Law_law_195 : rn G mm_Law_law 195 [a0, a1, a2, some (.int x)] st S P ↔ rn G mm_Law_law 196 [a0, a1, a2, some (.int x)] (.int x :: st) S P := rn_s dq_Law_law_195 rfl rfl rfl
theorem dq_Law_law_196 : decode (km_c mm_Law_law) 196 = .ok (.iconst 2, 1) := by decide +kernel
theorem sq_Law_law_196 : rn G mm_Law_law 196 lv st S P ↔ rn G mm_Law_law 197 lv (.int (nI 2) :: st) S P := rn_s dq_Law_law_196 rfl rfl rfl
theorem dq_Law_law_197 : decode (km_c mm_Law_law) 197 = .ok (.iadd, 1) := by decide +kernel
theorem sq_Law_law_197 : rn G mm_Law_law 197 lv (.int x2 :: .int x :: st) S P ↔ rn G mm_Law_law 198 lv (.int (x + x2) :: st) S P := rn_s dq_Law_law_197 rfl rfl rfl
theorem dq_Law_law_198 : decode (km_c mm_Law_law) 198 = .ok (.iaload, 1) := by decide +kernel
theorem sq_Law_law_198 (ho : sx_o o pl kp) (hk : ak L a = 0) (hu : sx_up pl kp a = true ∨ 1000 ≤ a) (hc : c < ln L a) (hn : ln L a < 2 ^ 31) : rn (lt_G o L) mm_Law_law 198 lv (.int (nI c) :: .ref a :: st) (sx pl kp I A) P ↔ rn (lt_G o L) mm_Law_law 199 lv (.int (A a c) :: st) (sx pl kp I A) P := rx_ild dq_Law_law_198 ho hk hu hc hn
theorem dq_Law_law_199 : decode (km_c mm_Law_law) 199 = .ok (.aload_n 0, 1) := by decide +kernel
theorem sq_Law_law_199 : rn G mm_Law_law 199 [some (.ref z), a1, a2, a3] st S P ↔ rn G mm_Law_law 200 [some (.ref z), a1, a2, a3] (.ref z :: st) S P := rn_s dq_Law_law_199 rfl rfl rfl
theorem dq_Law_law_200 : decode (km_c mm_Law_law) 200 = .ok (.iload_n 3, 1) := by decide +kernel
theorem sq_Law_law_200 : rn G mm_Law_law 200 [a0, a1, a2, some (.int x)] st S P ↔ rn G mm_Law_law 201 [a0, a1, a2, some (.int x)] (.int x :: st) S P := rn_s dq_Law_law_200 rfl rfl rfl
theorem dq_Law_law_201 : decode (km_c mm_Law_law) 201 = .ok (.iconst 3, 1) := by decide +kernel
theorem sq_Law_law_201 : rn G mm_Law_law 201 lv st S P ↔ rn G mm_Law_law 202 lv (.int (nI 3) :: st) S P := rn_s dq_Law_law_201 rfl rfl rfl
theorem dq_Law_law_202 : decode (km_c mm_Law_law) 202 = .ok (.iadd, 1) := by decide +kernel
theorem sq_Law_law_202 : rn G mm_Law_law 202 lv (.int x2 :: .int x :: st) S P ↔ rn G mm_Law_law 203 lv (.int (x + x2) :: st) S P := rn_s dq_Law_law_202 rfl rfl rfl
theorem dq_Law_law_203 : decode (km_c mm_Law_law) 203 = .ok (.iaload, 1) := by decide +kernel
theorem sq_Law_law_203 (ho : sx_o o pl kp) (hk : ak L a = 0) (hu : sx_up pl kp a = true ∨ 1000 ≤ a) (hc : c < ln L a) (hn : ln L a < 2 ^ 31) : rn (lt_G o L) mm_Law_law 203 lv (.int (nI c) :: .ref a :: st) (sx pl kp I A) P ↔ rn (lt_G o L) mm_Law_law 204 lv (.int (A a c) :: st) (sx pl kp I A) P := rx_ild dq_Law_law_203 ho hk hu hc hn
theorem dq_Law_law_204 : decode (km_c mm_Law_law) 204 = .ok (.invokevirtual 13, 3) := by decide +kernel
theorem sq_Law_law_204_0 {x1 : Int32} {x2 : Int32} {x3 : Int32} {v : Option Value} {S2 : ks_S} (hc : ev (lt_G o L) mm_Road_make [.ref 0, .int x1, .int x2, .int x3] (sx pl kp I A) v S2) (ho : sx_o o pl kp) (hst : kx_cat st ≤ 8) : rn (lt_G o L) mm_Law_law 204 lv (.int x3 :: .int x2 :: .int x1 :: .ref 0 :: st) (sx pl kp I A) P ↔ rn (lt_G o L) mm_Law_law 207 lv (v.toList ++ st) S2 P := rn_cv (k := 0) (host := "") (E' := mm_Road_make) dq_Law_law_204 rfl (ok_v rfl (by decide) (by decide) (Nat.le_add_left _ _) hst (Nat.le_of_ble_eq_true rfl) (Or.inr (rc_v ho (up_b (by decide)) rfl))) rfl rfl hc
theorem dq_Law_law_207 : decode (km_c mm_Law_law) 207 = .ok (.aload_n 2, 1) := by decide +kernel
theorem sq_Law_law_207 : rn G mm_Law_law 207 [a0, a1, some (.ref z), a3] st S P ↔ rn G mm_Law_law 208 [a0, a1, some (.ref z), a3] (.ref z :: st) S P := rn_s dq_Law_law_207 rfl rfl rfl
theorem dq_Law_law_208 : decode (km_c mm_Law_law) 208 = .ok (.aload_n 0, 1) := by decide +kernel
theorem sq_Law_law_208 : rn G mm_Law_law 208 [some (.ref z), a1, a2, a3] st S P ↔ rn G mm_Law_law 209 [some (.ref z), a1, a2, a3] (.ref z :: st) S P := rn_s dq_Law_law_208 rfl rfl rfl
theorem dq_Law_law_209 : decode (km_c mm_Law_law) 209 = .ok (.iload_n 3, 1) := by decide +kernel
theorem sq_Law_law_209 : rn G mm_Law_law 209 [a0, a1, a2, some (.int x)] st S P ↔ rn G mm_Law_law 210 [a0, a1, a2, some (.int x)] (.int x :: st) S P := rn_s dq_Law_law_209 rfl rfl rfl
theorem dq_Law_law_210 : decode (km_c mm_Law_law) 210 = .ok (.iconst 1, 1) := by decide +kernel
theorem sq_Law_law_210 : rn G mm_Law_law 210 lv st S P ↔ rn G mm_Law_law 211 lv (.int (nI 1) :: st) S P := rn_s dq_Law_law_210 rfl rfl rfl
theorem dq_Law_law_211 : decode (km_c mm_Law_law) 211 = .ok (.iadd, 1) := by decide +kernel
theorem sq_Law_law_211 : rn G mm_Law_law 211 lv (.int x2 :: .int x :: st) S P ↔ rn G mm_Law_law 212 lv (.int (x + x2) :: st) S P := rn_s dq_Law_law_211 rfl rfl rfl
theorem dq_Law_law_212 : decode (km_c mm_Law_law) 212 = .ok (.iaload, 1) := by decide +kernel
theorem sq_Law_law_212 (ho : sx_o o pl kp) (hk : ak L a = 0) (hu : sx_up pl kp a = true ∨ 1000 ≤ a) (hc : c < ln L a) (hn : ln L a < 2 ^ 31) : rn (lt_G o L) mm_Law_law 212 lv (.int (nI c) :: .ref a :: st) (sx pl kp I A) P ↔ rn (lt_G o L) mm_Law_law 213 lv (.int (A a c) :: st) (sx pl kp I A) P := rx_ild dq_Law_law_212 ho hk hu hc hn
theorem dq_Law_law_213 : decode (km_c mm_Law_law) 213 = .ok (.aload_n 0, 1) := by decide +kernel
theorem sq_Law_law_213 : rn G mm_Law_law 213 [some (.ref z), a1, a2, a3] st S P ↔ rn G mm_Law_law 214 [some (.ref z), a1, a2, a3] (.ref z :: st) S P := rn_s dq_Law_law_213 rfl rfl rfl
theorem dq_Law_law_214 : decode (km_c mm_Law_law) 214 = .ok (.iload_n 3, 1) := by decide +kernel
theorem sq_Law_law_214 : rn G mm_Law_law 214 [a0, a1, a2, some (.int x)] st S P ↔ rn G mm_Law_law 215 [a0, a1, a2, some (.int x)] (.int x :: st) S P := rn_s dq_Law_law_214 rfl rfl rfl
theorem dq_Law_law_215 : decode (km_c mm_Law_law) 215 = .ok (.iconst 2, 1) := by decide +kernel
theorem sq_Law_law_215 : rn G mm_Law_law 215 lv st S P ↔ rn G mm_Law_law 216 lv (.int (nI 2) :: st) S P := rn_s dq_Law_law_215 rfl rfl rfl
theorem dq_Law_law_216 : decode (km_c mm_Law_law) 216 = .ok (.iadd, 1) := by decide +kernel
theorem sq_Law_law_216 : rn G mm_Law_law 216 lv (.int x2 :: .int x :: st) S P ↔ rn G mm_Law_law 217 lv (.int (x + x2) :: st) S P := rn_s dq_Law_law_216 rfl rfl rfl
theorem dq_Law_law_217 : decode (km_c mm_Law_law) 217 = .ok (.iaload, 1) := by decide +kernel
theorem sq_Law_law_217 (ho : sx_o o pl kp) (hk : ak L a = 0) (hu : sx_up pl kp a = true ∨ 1000 ≤ a) (hc : c < ln L a) (hn : ln L a < 2 ^ 31) : rn (lt_G o L) mm_Law_law 217 lv (.int (nI c) :: .ref a :: st) (sx pl kp I A) P ↔ rn (lt_G o L) mm_Law_law 218 lv (.int (A a c) :: st) (sx pl kp I A) P := rx_ild dq_Law_law_217 ho hk hu hc hn
theorem dq_Law_law_218 : decode (km_c mm_Law_law) 218 = .ok (.aload_n 0, 1) := by decide +kernel
theorem sq_Law_law_218 : rn G mm_Law_law 218 [some (.ref z), a1, a2, a3] st S P ↔ rn G mm_Law_law 219 [some (.ref z), a1, a2, a3] (.ref z :: st) S P := rn_s dq_Law_law_218 rfl rfl rfl
theorem dq_Law_law_219 : decode (km_c mm_Law_law) 219 = .ok (.iload_n 3, 1) := by decide +kernel
theorem sq_Law_law_219 : rn G mm_Law_law 219 [a0, a1, a2, some (.int x)] st S P ↔ rn G mm_Law_law 220 [a0, a1, a2, some (.int x)] (.int x :: st) S P := rn_s dq_Law_law_219 rfl rfl rfl
theorem dq_Law_law_220 : decode (km_c mm_Law_law) 220 = .ok (.iconst 3, 1) := by decide +kernel
theorem sq_Law_law_220 : rn G mm_Law_law 220 lv st S P ↔ rn G mm_Law_law 221 lv (.int (nI 3) :: st) S P := rn_s dq_Law_law_220 rfl rfl rfl
theorem dq_Law_law_221 : decode (km_c mm_Law_law) 221 = .ok (.iadd, 1) := by decide +kernel
theorem sq_Law_law_221 : rn G mm_Law_law 221 lv (.int x2 :: .int x :: st) S P ↔ rn G mm_Law_law 222 lv (.int (x + x2) :: st) S P := rn_s dq_Law_law_221 rfl rfl rfl
theorem dq_Law_law_222 : decode (km_c mm_Law_law) 222 = .ok (.iaload, 1) := by decide +kernel
theorem sq_Law_law_222 (ho : sx_o o pl kp) (hk : ak L a = 0) (hu : sx_up pl kp a = true ∨ 1000 ≤ a) (hc : c < ln L a) (hn : ln L a < 2 ^ 31) : rn (lt_G o L) mm_Law_law 222 lv (.int (nI c) :: .ref a :: st) (sx pl kp I A) P ↔ rn (lt_G o L) mm_Law_law 223 lv (.int (A a c) :: st) (sx pl kp I A) P := rx_ild dq_Law_law_222 ho hk hu hc hn
theorem dq_Law_law_223 : decode (km_c mm_Law_law) 223 = .ok (.invokevirtual 17, 3) := by decide +kernel
theorem sq_Law_law_223_45 {x1 : Int32} {x2 : Int32} {x3 : Int32} {v : Option Value} {S2 : ks_S} (hc : ev (lt_G o L) mm_Model_make [.ref 45, .int x1, .int x2, .int x3] (sx pl kp I A) v S2) (ho : sx_o o pl kp) (hst : kx_cat st ≤ 8) : rn (lt_G o L) mm_Law_law 223 lv (.int x3 :: .int x2 :: .int x1 :: .ref 45 :: st) (sx pl kp I A) P ↔ rn (lt_G o L) mm_Law_law 226 lv (v.toList ++ st) S2 P := rn_cv (k := 0) (host := "") (E' := mm_Model_make) dq_Law_law_223 rfl (ok_v rfl (by decide) (by decide) (Nat.le_add_left _ _) hst (Nat.le_of_ble_eq_true rfl) (Or.inr (rc_v ho (up_b (by decide)) rfl))) rfl rfl hc
theorem dq_Law_law_226 : decode (km_c mm_Law_law) 226 = .ok (.if_icmp .eq 948, 3) := by decide +kernel
theorem sq_Law_law_226 : rn G mm_Law_law 226 lv (.int x2 :: .int x :: st) S P ↔ ((x = x2 → rn G mm_Law_law 1174 lv st S P) ∧ (¬ (x = x2) → rn G mm_Law_law 229 lv st S P)) := rn_b (off := 948) dq_Law_law_226 rfl rfl rfl rfl
theorem dq_Law_law_229 : decode (km_c mm_Law_law) 229 = .ok (.iconst 0, 1) := by decide +kernel
theorem sq_Law_law_229 : rn G mm_Law_law 229 lv st S P ↔ rn G mm_Law_law 230 lv (.int (nI 0) :: st) S P := rn_s dq_Law_law_229 rfl rfl rfl
theorem dq_Law_law_230 : decode (km_c mm_Law_law) 230 = .ok (.ireturn, 1) := by decide +kernel
theorem sq_Law_law_230_0 : rn G mm_Law_law 230 lv [.int (nI 0)] S P ↔ P (some (.int (nI 0))) S := rn_ir dq_Law_law_230 (by decide)
theorem sq_Law_law_230_1 : rn G mm_Law_law 230 lv [.int (nI 1)] S P ↔ P (some (.int (nI 1))) S := rn_ir dq_Law_law_230 (by decide)
theorem dq_Law_law_231 : decode (km_c mm_Law_law) 231 = .ok (.aload_n 1, 1) := by decide +kernel
theorem sq_Law_law_231 : rn G mm_Law_law 231 [a0, some (.ref z), a2, a3] st S P ↔ rn G mm_Law_law 232 [a0, some (.ref z), a2, a3] (.ref z :: st) S P := rn_s dq_Law_law_231 rfl rfl rfl
theorem dq_Law_law_232 : decode (km_c mm_Law_law) 232 = .ok (.aload_n 0, 1) := by decide +kernel
theorem sq_Law_law_232 : rn G mm_Law_law 232 [some (.ref z), a1, a2, a3] st S P ↔ rn G mm_Law_law 233 [some (.ref z), a1, a2, a3] (.ref z :: st) S P := rn_s dq_Law_law_232 rfl rfl rfl
theorem dq_Law_law_233 : decode (km_c mm_Law_law) 233 = .ok (.iload_n 3, 1) := by decide +kernel
theorem sq_Law_law_233 : rn G mm_Law_law 233 [a0, a1, a2, some (.int x)] st S P ↔ rn G mm_Law_law 234 [a0, a1, a2, some (.int x)] (.int x :: st) S P := rn_s dq_Law_law_233 rfl rfl rfl
theorem dq_Law_law_234 : decode (km_c mm_Law_law) 234 = .ok (.iconst 1, 1) := by decide +kernel
theorem sq_Law_law_234 : rn G mm_Law_law 234 lv st S P ↔ rn G mm_Law_law 235 lv (.int (nI 1) :: st) S P := rn_s dq_Law_law_234 rfl rfl rfl
theorem dq_Law_law_235 : decode (km_c mm_Law_law) 235 = .ok (.iadd, 1) := by decide +kernel
theorem sq_Law_law_235 : rn G mm_Law_law 235 lv (.int x2 :: .int x :: st) S P ↔ rn G mm_Law_law 236 lv (.int (x + x2) :: st) S P := rn_s dq_Law_law_235 rfl rfl rfl
theorem dq_Law_law_236 : decode (km_c mm_Law_law) 236 = .ok (.iaload, 1) := by decide +kernel
theorem sq_Law_law_236 (ho : sx_o o pl kp) (hk : ak L a = 0) (hu : sx_up pl kp a = true ∨ 1000 ≤ a) (hc : c < ln L a) (hn : ln L a < 2 ^ 31) : rn (lt_G o L) mm_Law_law 236 lv (.int (nI c) :: .ref a :: st) (sx pl kp I A) P ↔ rn (lt_G o L) mm_Law_law 237 lv (.int (A a c) :: st) (sx pl kp I A) P := rx_ild dq_Law_law_236 ho hk hu hc hn
theorem dq_Law_law_237 : decode (km_c mm_Law_law) 237 = .ok (.aload_n 0, 1) := by decide +kernel
theorem sq_Law_law_237 : rn G mm_Law_law 237 [some (.ref z), a1, a2, a3] st S P ↔ rn G mm_Law_law 238 [some (.ref z), a1, a2, a3] (.ref z :: st) S P := rn_s dq_Law_law_237 rfl rfl rfl
theorem dq_Law_law_238 : decode (km_c mm_Law_law) 238 = .ok (.iload_n 3, 1) := by decide +kernel
theorem sq_Law_law_238 : rn G mm_Law_law 238 [a0, a1, a2, some (.int x)] st S P ↔ rn G mm_Law_law 239 [a0, a1, a2, some (.int x)] (.int x :: st) S P := rn_s dq_Law_law_238 rfl rfl rfl
theorem dq_Law_law_239 : decode (km_c mm_Law_law) 239 = .ok (.iconst 2, 1) := by decide +kernel
theorem sq_Law_law_239 : rn G mm_Law_law 239 lv st S P ↔ rn G mm_Law_law 240 lv (.int (nI 2) :: st) S P := rn_s dq_Law_law_239 rfl rfl rfl
theorem dq_Law_law_240 : decode (km_c mm_Law_law) 240 = .ok (.iadd, 1) := by decide +kernel
theorem sq_Law_law_240 : rn G mm_Law_law 240 lv (.int x2 :: .int x :: st) S P ↔ rn G mm_Law_law 241 lv (.int (x + x2) :: st) S P := rn_s dq_Law_law_240 rfl rfl rfl
theorem dq_Law_law_241 : decode (km_c mm_Law_law) 241 = .ok (.iaload, 1) := by decide +kernel
theorem sq_Law_law_241 (ho : sx_o o pl kp) (hk : ak L a = 0) (hu : sx_up pl kp a = true ∨ 1000 ≤ a) (hc : c < ln L a) (hn : ln L a < 2 ^ 31) : rn (lt_G o L) mm_Law_law 241 lv (.int (nI c) :: .ref a :: st) (sx pl kp I A) P ↔ rn (lt_G o L) mm_Law_law 242 lv (.int (A a c) :: st) (sx pl kp I A) P := rx_ild dq_Law_law_241 ho hk hu hc hn
theorem dq_Law_law_242 : decode (km_c mm_Law_law) 242 = .ok (.invokevirtual 18, 3) := by decide +kernel
theorem sq_Law_law_242_0 {x1 : Int32} {x2 : Int32} {v : Option Value} {S2 : ks_S} (hc : ev (lt_G o L) mm_Road_told [.ref 0, .int x1, .int x2] (sx pl kp I A) v S2) (ho : sx_o o pl kp) (hst : kx_cat st ≤ 8) : rn (lt_G o L) mm_Law_law 242 lv (.int x2 :: .int x1 :: .ref 0 :: st) (sx pl kp I A) P ↔ rn (lt_G o L) mm_Law_law 245 lv (v.toList ++ st) S2 P := rn_cv (k := 0) (host := "") (E' := mm_Road_told) dq_Law_law_242 rfl (ok_v rfl (by decide) (by decide) (Nat.le_add_left _ _) hst (Nat.le_of_ble_eq_true rfl) (Or.inr (rc_v ho (up_b (by decide)) rfl))) rfl rfl hc
theorem dq_Law_law_245 : decode (km_c mm_Law_law) 245 = .ok (.aload_n 2, 1) := by decide +kernel
theorem sq_Law_law_245 : rn G mm_Law_law 245 [a0, a1, some (.ref z), a3] st S P ↔ rn G mm_Law_law 246 [a0, a1, some (.ref z), a3] (.ref z :: st) S P := rn_s dq_Law_law_245 rfl rfl rfl
theorem dq_Law_law_246 : decode (km_c mm_Law_law) 246 = .ok (.aload_n 0, 1) := by decide +kernel
theorem sq_Law_law_246 : rn G mm_Law_law 246 [some (.ref z), a1, a2, a3] st S P ↔ rn G mm_Law_law 247 [some (.ref z), a1, a2, a3] (.ref z :: st) S P := rn_s dq_Law_law_246 rfl rfl rfl
theorem dq_Law_law_247 : decode (km_c mm_Law_law) 247 = .ok (.iload_n 3, 1) := by decide +kernel
theorem sq_Law_law_247 : rn G mm_Law_law 247 [a0, a1, a2, some (.int x)] st S P ↔ rn G mm_Law_law 248 [a0, a1, a2, some (.int x)] (.int x :: st) S P := rn_s dq_Law_law_247 rfl rfl rfl
theorem dq_Law_law_248 : decode (km_c mm_Law_law) 248 = .ok (.iconst 1, 1) := by decide +kernel
theorem sq_Law_law_248 : rn G mm_Law_law 248 lv st S P ↔ rn G mm_Law_law 249 lv (.int (nI 1) :: st) S P := rn_s dq_Law_law_248 rfl rfl rfl
theorem dq_Law_law_249 : decode (km_c mm_Law_law) 249 = .ok (.iadd, 1) := by decide +kernel
theorem sq_Law_law_249 : rn G mm_Law_law 249 lv (.int x2 :: .int x :: st) S P ↔ rn G mm_Law_law 250 lv (.int (x + x2) :: st) S P := rn_s dq_Law_law_249 rfl rfl rfl
theorem dq_Law_law_250 : decode (km_c mm_Law_law) 250 = .ok (.iaload, 1) := by decide +kernel
theorem sq_Law_law_250 (ho : sx_o o pl kp) (hk : ak L a = 0) (hu : sx_up pl kp a = true ∨ 1000 ≤ a) (hc : c < ln L a) (hn : ln L a < 2 ^ 31) : rn (lt_G o L) mm_Law_law 250 lv (.int (nI c) :: .ref a :: st) (sx pl kp I A) P ↔ rn (lt_G o L) mm_Law_law 251 lv (.int (A a c) :: st) (sx pl kp I A) P := rx_ild dq_Law_law_250 ho hk hu hc hn
theorem dq_Law_law_251 : decode (km_c mm_Law_law) 251 = .ok (.aload_n 0, 1) := by decide +kernel
theorem sq_Law_law_251 : rn G mm_Law_law 251 [some (.ref z), a1, a2, a3] st S P ↔ rn G mm_Law_law 252 [some (.ref z), a1, a2, a3] (.ref z :: st) S P := rn_s dq_Law_law_251 rfl rfl rfl
theorem dq_Law_law_252 : decode (km_c mm_Law_law) 252 = .ok (.iload_n 3, 1) := by decide +kernel
theorem sq_Law_law_252 : rn G mm_Law_law 252 [a0, a1, a2, some (.int x)] st S P ↔ rn G mm_Law_law 253 [a0, a1, a2, some (.int x)] (.int x :: st) S P := rn_s dq_Law_law_252 rfl rfl rfl
theorem dq_Law_law_253 : decode (km_c mm_Law_law) 253 = .ok (.iconst 2, 1) := by decide +kernel
theorem sq_Law_law_253 : rn G mm_Law_law 253 lv st S P ↔ rn G mm_Law_law 254 lv (.int (nI 2) :: st) S P := rn_s dq_Law_law_253 rfl rfl rfl
theorem dq_Law_law_254 : decode (km_c mm_Law_law) 254 = .ok (.iadd, 1) := by decide +kernel
theorem sq_Law_law_254 : rn G mm_Law_law 254 lv (.int x2 :: .int x :: st) S P ↔ rn G mm_Law_law 255 lv (.int (x + x2) :: st) S P := rn_s dq_Law_law_254 rfl rfl rfl
theorem dq_Law_law_255 : decode (km_c mm_Law_law) 255 = .ok (.iaload, 1) := by decide +kernel
theorem sq_Law_law_255 (ho : sx_o o pl kp) (hk : ak L a = 0) (hu : sx_up pl kp a = true ∨ 1000 ≤ a) (hc : c < ln L a) (hn : ln L a < 2 ^ 31) : rn (lt_G o L) mm_Law_law 255 lv (.int (nI c) :: .ref a :: st) (sx pl kp I A) P ↔ rn (lt_G o L) mm_Law_law 256 lv (.int (A a c) :: st) (sx pl kp I A) P := rx_ild dq_Law_law_255 ho hk hu hc hn
theorem dq_Law_law_256 : decode (km_c mm_Law_law) 256 = .ok (.invokevirtual 22, 3) := by decide +kernel
theorem sq_Law_law_256_45 {x1 : Int32} {x2 : Int32} {v : Option Value} {S2 : ks_S} (hc : ev (lt_G o L) mm_Model_told [.ref 45, .int x1, .int x2] (sx pl kp I A) v S2) (ho : sx_o o pl kp) (hst : kx_cat st ≤ 8) : rn (lt_G o L) mm_Law_law 256 lv (.int x2 :: .int x1 :: .ref 45 :: st) (sx pl kp I A) P ↔ rn (lt_G o L) mm_Law_law 259 lv (v.toList ++ st) S2 P := rn_cv (k := 0) (host := "") (E' := mm_Model_told) dq_Law_law_256 rfl (ok_v rfl (by decide) (by decide) (Nat.le_add_left _ _) hst (Nat.le_of_ble_eq_true rfl) (Or.inr (rc_v ho (up_b (by decide)) rfl))) rfl rfl hc
theorem dq_Law_law_259 : decode (km_c mm_Law_law) 259 = .ok (.if_icmp .eq 915, 3) := by decide +kernel
theorem sq_Law_law_259 : rn G mm_Law_law 259 lv (.int x2 :: .int x :: st) S P ↔ ((x = x2 → rn G mm_Law_law 1174 lv st S P) ∧ (¬ (x = x2) → rn G mm_Law_law 262 lv st S P)) := rn_b (off := 915) dq_Law_law_259 rfl rfl rfl rfl
theorem dq_Law_law_262 : decode (km_c mm_Law_law) 262 = .ok (.iconst 0, 1) := by decide +kernel
theorem sq_Law_law_262 : rn G mm_Law_law 262 lv st S P ↔ rn G mm_Law_law 263 lv (.int (nI 0) :: st) S P := rn_s dq_Law_law_262 rfl rfl rfl
theorem dq_Law_law_263 : decode (km_c mm_Law_law) 263 = .ok (.ireturn, 1) := by decide +kernel
theorem sq_Law_law_263_0 : rn G mm_Law_law 263 lv [.int (nI 0)] S P ↔ P (some (.int (nI 0))) S := rn_ir dq_Law_law_263 (by decide)
theorem sq_Law_law_263_1 : rn G mm_Law_law 263 lv [.int (nI 1)] S P ↔ P (some (.int (nI 1))) S := rn_ir dq_Law_law_263 (by decide)
theorem dq_Law_law_264 : decode (km_c mm_Law_law) 264 = .ok (.aload_n 1, 1) := by decide +kernel
theorem sq_Law_law_264 : rn G mm_Law_law 264 [a0, some (.ref z), a2, a3] st S P ↔ rn G mm_Law_law 265 [a0, some (.ref z), a2, a3] (.ref z :: st) S P := rn_s dq_Law_law_264 rfl rfl rfl
theorem dq_Law_law_265 : decode (km_c mm_Law_law) 265 = .ok (.aload_n 0, 1) := by decide +kernel
theorem sq_Law_law_265 : rn G mm_Law_law 265 [some (.ref z), a1, a2, a3] st S P ↔ rn G mm_Law_law 266 [some (.ref z), a1, a2, a3] (.ref z :: st) S P := rn_s dq_Law_law_265 rfl rfl rfl
theorem dq_Law_law_266 : decode (km_c mm_Law_law) 266 = .ok (.iload_n 3, 1) := by decide +kernel
theorem sq_Law_law_266 : rn G mm_Law_law 266 [a0, a1, a2, some (.int x)] st S P ↔ rn G mm_Law_law 267 [a0, a1, a2, some (.int x)] (.int x :: st) S P := rn_s dq_Law_law_266 rfl rfl rfl
theorem dq_Law_law_267 : decode (km_c mm_Law_law) 267 = .ok (.iconst 1, 1) := by decide +kernel
theorem sq_Law_law_267 : rn G mm_Law_law 267 lv st S P ↔ rn G mm_Law_law 268 lv (.int (nI 1) :: st) S P := rn_s dq_Law_law_267 rfl rfl rfl
theorem dq_Law_law_268 : decode (km_c mm_Law_law) 268 = .ok (.iadd, 1) := by decide +kernel
theorem sq_Law_law_268 : rn G mm_Law_law 268 lv (.int x2 :: .int x :: st) S P ↔ rn G mm_Law_law 269 lv (.int (x + x2) :: st) S P := rn_s dq_Law_law_268 rfl rfl rfl
theorem dq_Law_law_269 : decode (km_c mm_Law_law) 269 = .ok (.iaload, 1) := by decide +kernel
theorem sq_Law_law_269 (ho : sx_o o pl kp) (hk : ak L a = 0) (hu : sx_up pl kp a = true ∨ 1000 ≤ a) (hc : c < ln L a) (hn : ln L a < 2 ^ 31) : rn (lt_G o L) mm_Law_law 269 lv (.int (nI c) :: .ref a :: st) (sx pl kp I A) P ↔ rn (lt_G o L) mm_Law_law 270 lv (.int (A a c) :: st) (sx pl kp I A) P := rx_ild dq_Law_law_269 ho hk hu hc hn
theorem dq_Law_law_270 : decode (km_c mm_Law_law) 270 = .ok (.invokevirtual 23, 3) := by decide +kernel
theorem sq_Law_law_270_0 {x1 : Int32} {v : Option Value} {S2 : ks_S} (hc : ev (lt_G o L) mm_Road_level [.ref 0, .int x1] (sx pl kp I A) v S2) (ho : sx_o o pl kp) (hst : kx_cat st ≤ 8) : rn (lt_G o L) mm_Law_law 270 lv (.int x1 :: .ref 0 :: st) (sx pl kp I A) P ↔ rn (lt_G o L) mm_Law_law 273 lv (v.toList ++ st) S2 P := rn_cv (k := 0) (host := "") (E' := mm_Road_level) dq_Law_law_270 rfl (ok_v rfl (by decide) (by decide) (Nat.le_add_left _ _) hst (Nat.le_of_ble_eq_true rfl) (Or.inr (rc_v ho (up_b (by decide)) rfl))) rfl rfl hc
theorem dq_Law_law_273 : decode (km_c mm_Law_law) 273 = .ok (.aload_n 2, 1) := by decide +kernel
theorem sq_Law_law_273 : rn G mm_Law_law 273 [a0, a1, some (.ref z), a3] st S P ↔ rn G mm_Law_law 274 [a0, a1, some (.ref z), a3] (.ref z :: st) S P := rn_s dq_Law_law_273 rfl rfl rfl
theorem dq_Law_law_274 : decode (km_c mm_Law_law) 274 = .ok (.aload_n 0, 1) := by decide +kernel
theorem sq_Law_law_274 : rn G mm_Law_law 274 [some (.ref z), a1, a2, a3] st S P ↔ rn G mm_Law_law 275 [some (.ref z), a1, a2, a3] (.ref z :: st) S P := rn_s dq_Law_law_274 rfl rfl rfl
theorem dq_Law_law_275 : decode (km_c mm_Law_law) 275 = .ok (.iload_n 3, 1) := by decide +kernel
theorem sq_Law_law_275 : rn G mm_Law_law 275 [a0, a1, a2, some (.int x)] st S P ↔ rn G mm_Law_law 276 [a0, a1, a2, some (.int x)] (.int x :: st) S P := rn_s dq_Law_law_275 rfl rfl rfl
theorem dq_Law_law_276 : decode (km_c mm_Law_law) 276 = .ok (.iconst 1, 1) := by decide +kernel
theorem sq_Law_law_276 : rn G mm_Law_law 276 lv st S P ↔ rn G mm_Law_law 277 lv (.int (nI 1) :: st) S P := rn_s dq_Law_law_276 rfl rfl rfl
theorem dq_Law_law_277 : decode (km_c mm_Law_law) 277 = .ok (.iadd, 1) := by decide +kernel
theorem sq_Law_law_277 : rn G mm_Law_law 277 lv (.int x2 :: .int x :: st) S P ↔ rn G mm_Law_law 278 lv (.int (x + x2) :: st) S P := rn_s dq_Law_law_277 rfl rfl rfl
theorem dq_Law_law_278 : decode (km_c mm_Law_law) 278 = .ok (.iaload, 1) := by decide +kernel
theorem sq_Law_law_278 (ho : sx_o o pl kp) (hk : ak L a = 0) (hu : sx_up pl kp a = true ∨ 1000 ≤ a) (hc : c < ln L a) (hn : ln L a < 2 ^ 31) : rn (lt_G o L) mm_Law_law 278 lv (.int (nI c) :: .ref a :: st) (sx pl kp I A) P ↔ rn (lt_G o L) mm_Law_law 279 lv (.int (A a c) :: st) (sx pl kp I A) P := rx_ild dq_Law_law_278 ho hk hu hc hn
theorem dq_Law_law_279 : decode (km_c mm_Law_law) 279 = .ok (.invokevirtual 27, 3) := by decide +kernel
theorem sq_Law_law_279_45 {x1 : Int32} {v : Option Value} {S2 : ks_S} (hc : ev (lt_G o L) mm_Model_level [.ref 45, .int x1] (sx pl kp I A) v S2) (ho : sx_o o pl kp) (hst : kx_cat st ≤ 8) : rn (lt_G o L) mm_Law_law 279 lv (.int x1 :: .ref 45 :: st) (sx pl kp I A) P ↔ rn (lt_G o L) mm_Law_law 282 lv (v.toList ++ st) S2 P := rn_cv (k := 0) (host := "") (E' := mm_Model_level) dq_Law_law_279 rfl (ok_v rfl (by decide) (by decide) (Nat.le_add_left _ _) hst (Nat.le_of_ble_eq_true rfl) (Or.inr (rc_v ho (up_b (by decide)) rfl))) rfl rfl hc
theorem dq_Law_law_282 : decode (km_c mm_Law_law) 282 = .ok (.if_icmp .eq 892, 3) := by decide +kernel
theorem sq_Law_law_282 : rn G mm_Law_law 282 lv (.int x2 :: .int x :: st) S P ↔ ((x = x2 → rn G mm_Law_law 1174 lv st S P) ∧ (¬ (x = x2) → rn G mm_Law_law 285 lv st S P)) := rn_b (off := 892) dq_Law_law_282 rfl rfl rfl rfl
theorem dq_Law_law_285 : decode (km_c mm_Law_law) 285 = .ok (.iconst 0, 1) := by decide +kernel
theorem sq_Law_law_285 : rn G mm_Law_law 285 lv st S P ↔ rn G mm_Law_law 286 lv (.int (nI 0) :: st) S P := rn_s dq_Law_law_285 rfl rfl rfl
theorem dq_Law_law_286 : decode (km_c mm_Law_law) 286 = .ok (.ireturn, 1) := by decide +kernel
theorem sq_Law_law_286_0 : rn G mm_Law_law 286 lv [.int (nI 0)] S P ↔ P (some (.int (nI 0))) S := rn_ir dq_Law_law_286 (by decide)
theorem sq_Law_law_286_1 : rn G mm_Law_law 286 lv [.int (nI 1)] S P ↔ P (some (.int (nI 1))) S := rn_ir dq_Law_law_286 (by decide)
theorem dq_Law_law_287 : decode (km_c mm_Law_law) 287 = .ok (.aload_n 1, 1) := by decide +kernel
theorem sq_Law_law_287 : rn G mm_Law_law 287 [a0, some (.ref z), a2, a3] st S P ↔ rn G mm_Law_law 288 [a0, some (.ref z), a2, a3] (.ref z :: st) S P := rn_s dq_Law_law_287 rfl rfl rfl
theorem dq_Law_law_288 : decode (km_c mm_Law_law) 288 = .ok (.invokevirtual 28, 3) := by decide +kernel
theorem sq_Law_law_288_0  {v : Option Value} {S2 : ks_S} (hc : ev (lt_G o L) mm_Road_flood [.ref 0] (sx pl kp I A) v S2) (ho : sx_o o pl kp) (hst : kx_cat st ≤ 8) : rn (lt_G o L) mm_Law_law 288 lv (.ref 0 :: st) (sx pl kp I A) P ↔ rn (lt_G o L) mm_Law_law 291 lv (v.toList ++ st) S2 P := rn_cv (k := 0) (host := "") (E' := mm_Road_flood) dq_Law_law_288 rfl (ok_v rfl (by decide) (by decide) (Nat.le_add_left _ _) hst (Nat.le_of_ble_eq_true rfl) (Or.inr (rc_v ho (up_b (by decide)) rfl))) rfl rfl hc
theorem dq_Law_law_291 : decode (km_c mm_Law_law) 291 = .ok (.aload_n 2, 1) := by decide +kernel
theorem sq_Law_law_291 : rn G mm_Law_law 291 [a0, a1, some (.ref z), a3] st S P ↔ rn G mm_Law_law 292 [a0, a1, some (.ref z), a3] (.ref z :: st) S P := rn_s dq_Law_law_291 rfl rfl rfl
theorem dq_Law_law_292 : decode (km_c mm_Law_law) 292 = .ok (.invokevirtual 32, 3) := by decide +kernel
theorem sq_Law_law_292_45  {v : Option Value} {S2 : ks_S} (hc : ev (lt_G o L) mm_Model_flood [.ref 45] (sx pl kp I A) v S2) (ho : sx_o o pl kp) (hst : kx_cat st ≤ 8) : rn (lt_G o L) mm_Law_law 292 lv (.ref 45 :: st) (sx pl kp I A) P ↔ rn (lt_G o L) mm_Law_law 295 lv (v.toList ++ st) S2 P := rn_cv (k := 0) (host := "") (E' := mm_Model_flood) dq_Law_law_292 rfl (ok_v rfl (by decide) (by decide) (Nat.le_add_left _ _) hst (Nat.le_of_ble_eq_true rfl) (Or.inr (rc_v ho (up_b (by decide)) rfl))) rfl rfl hc
theorem dq_Law_law_295 : decode (km_c mm_Law_law) 295 = .ok (.if_icmp .eq 879, 3) := by decide +kernel
theorem sq_Law_law_295 : rn G mm_Law_law 295 lv (.int x2 :: .int x :: st) S P ↔ ((x = x2 → rn G mm_Law_law 1174 lv st S P) ∧ (¬ (x = x2) → rn G mm_Law_law 298 lv st S P)) := rn_b (off := 879) dq_Law_law_295 rfl rfl rfl rfl
theorem dq_Law_law_298 : decode (km_c mm_Law_law) 298 = .ok (.iconst 0, 1) := by decide +kernel
theorem sq_Law_law_298 : rn G mm_Law_law 298 lv st S P ↔ rn G mm_Law_law 299 lv (.int (nI 0) :: st) S P := rn_s dq_Law_law_298 rfl rfl rfl
theorem dq_Law_law_299 : decode (km_c mm_Law_law) 299 = .ok (.ireturn, 1) := by decide +kernel
theorem sq_Law_law_299_0 : rn G mm_Law_law 299 lv [.int (nI 0)] S P ↔ P (some (.int (nI 0))) S := rn_ir dq_Law_law_299 (by decide)
theorem sq_Law_law_299_1 : rn G mm_Law_law 299 lv [.int (nI 1)] S P ↔ P (some (.int (nI 1))) S := rn_ir dq_Law_law_299 (by decide)
theorem dq_Law_law_300 : decode (km_c mm_Law_law) 300 = .ok (.aload_n 1, 1) := by decide +kernel
theorem sq_Law_law_300 : rn G mm_Law_law 300 [a0, some (.ref z), a2, a3] st S P ↔ rn G mm_Law_law 301 [a0, some (.ref z), a2, a3] (.ref z :: st) S P := rn_s dq_Law_law_300 rfl rfl rfl
theorem dq_Law_law_301 : decode (km_c mm_Law_law) 301 = .ok (.aload_n 0, 1) := by decide +kernel
theorem sq_Law_law_301 : rn G mm_Law_law 301 [some (.ref z), a1, a2, a3] st S P ↔ rn G mm_Law_law 302 [some (.ref z), a1, a2, a3] (.ref z :: st) S P := rn_s dq_Law_law_301 rfl rfl rfl
theorem dq_Law_law_302 : decode (km_c mm_Law_law) 302 = .ok (.iload_n 3, 1) := by decide +kernel
theorem sq_Law_law_302 : rn G mm_Law_law 302 [a0, a1, a2, some (.int x)] st S P ↔ rn G mm_Law_law 303 [a0, a1, a2, some (.int x)] (.int x :: st) S P := rn_s dq_Law_law_302 rfl rfl rfl
theorem dq_Law_law_303 : decode (km_c mm_Law_law) 303 = .ok (.iconst 1, 1) := by decide +kernel
theorem sq_Law_law_303 : rn G mm_Law_law 303 lv st S P ↔ rn G mm_Law_law 304 lv (.int (nI 1) :: st) S P := rn_s dq_Law_law_303 rfl rfl rfl
theorem dq_Law_law_304 : decode (km_c mm_Law_law) 304 = .ok (.iadd, 1) := by decide +kernel
theorem sq_Law_law_304 : rn G mm_Law_law 304 lv (.int x2 :: .int x :: st) S P ↔ rn G mm_Law_law 305 lv (.int (x + x2) :: st) S P := rn_s dq_Law_law_304 rfl rfl rfl
theorem dq_Law_law_305 : decode (km_c mm_Law_law) 305 = .ok (.iaload, 1) := by decide +kernel
theorem sq_Law_law_305 (ho : sx_o o pl kp) (hk : ak L a = 0) (hu : sx_up pl kp a = true ∨ 1000 ≤ a) (hc : c < ln L a) (hn : ln L a < 2 ^ 31) : rn (lt_G o L) mm_Law_law 305 lv (.int (nI c) :: .ref a :: st) (sx pl kp I A) P ↔ rn (lt_G o L) mm_Law_law 306 lv (.int (A a c) :: st) (sx pl kp I A) P := rx_ild dq_Law_law_305 ho hk hu hc hn
theorem dq_Law_law_306 : decode (km_c mm_Law_law) 306 = .ok (.i2l, 1) := by decide +kernel
theorem sq_Law_law_306 : rn G mm_Law_law 306 lv (.int x :: st) S P ↔ rn G mm_Law_law 307 lv (.long x.toInt64 :: st) S P := rn_s dq_Law_law_306 rfl rfl rfl
theorem dq_Law_law_307 : decode (km_c mm_Law_law) 307 = .ok (.bipush 32, 2) := by decide +kernel
theorem sq_Law_law_307 : rn G mm_Law_law 307 lv st S P ↔ rn G mm_Law_law 309 lv (.int (nI 32) :: st) S P := rn_s dq_Law_law_307 rfl rfl rfl
theorem dq_Law_law_309 : decode (km_c mm_Law_law) 309 = .ok (.lshl, 1) := by decide +kernel
theorem sq_Law_law_309 : rn G mm_Law_law 309 lv (.int x :: .long y :: st) S P ↔ rn G mm_Law_law 310 lv (.long (y <<< (x.toInt64 &&& 63)) :: st) S P := rn_s dq_Law_law_309 rfl rfl rfl
theorem dq_Law_law_310 : decode (km_c mm_Law_law) 310 = .ok (.aload_n 0, 1) := by decide +kernel
theorem sq_Law_law_310 : rn G mm_Law_law 310 [some (.ref z), a1, a2, a3] st S P ↔ rn G mm_Law_law 311 [some (.ref z), a1, a2, a3] (.ref z :: st) S P := rn_s dq_Law_law_310 rfl rfl rfl
theorem dq_Law_law_311 : decode (km_c mm_Law_law) 311 = .ok (.iload_n 3, 1) := by decide +kernel
theorem sq_Law_law_311 : rn G mm_Law_law 311 [a0, a1, a2, some (.int x)] st S P ↔ rn G mm_Law_law 312 [a0, a1, a2, some (.int x)] (.int x :: st) S P := rn_s dq_Law_law_311 rfl rfl rfl
theorem dq_Law_law_312 : decode (km_c mm_Law_law) 312 = .ok (.iconst 2, 1) := by decide +kernel
theorem sq_Law_law_312 : rn G mm_Law_law 312 lv st S P ↔ rn G mm_Law_law 313 lv (.int (nI 2) :: st) S P := rn_s dq_Law_law_312 rfl rfl rfl
theorem dq_Law_law_313 : decode (km_c mm_Law_law) 313 = .ok (.iadd, 1) := by decide +kernel
theorem sq_Law_law_313 : rn G mm_Law_law 313 lv (.int x2 :: .int x :: st) S P ↔ rn G mm_Law_law 314 lv (.int (x + x2) :: st) S P := rn_s dq_Law_law_313 rfl rfl rfl
theorem dq_Law_law_314 : decode (km_c mm_Law_law) 314 = .ok (.iaload, 1) := by decide +kernel
theorem sq_Law_law_314 (ho : sx_o o pl kp) (hk : ak L a = 0) (hu : sx_up pl kp a = true ∨ 1000 ≤ a) (hc : c < ln L a) (hn : ln L a < 2 ^ 31) : rn (lt_G o L) mm_Law_law 314 lv (.int (nI c) :: .ref a :: st) (sx pl kp I A) P ↔ rn (lt_G o L) mm_Law_law 315 lv (.int (A a c) :: st) (sx pl kp I A) P := rx_ild dq_Law_law_314 ho hk hu hc hn
theorem dq_Law_law_315 : decode (km_c mm_Law_law) 315 = .ok (.i2l, 1) := by decide +kernel
theorem sq_Law_law_315 : rn G mm_Law_law 315 lv (.int x :: st) S P ↔ rn G mm_Law_law 316 lv (.long x.toInt64 :: st) S P := rn_s dq_Law_law_315 rfl rfl rfl
theorem dq_Law_law_316 : decode (km_c mm_Law_law) 316 = .ok (.ldc2_w 33, 3) := by decide +kernel
theorem sq_Law_law_316 : rn G mm_Law_law 316 lv st S P ↔ rn G mm_Law_law 319 lv (.long (4294967295) :: st) S P := rn_s dq_Law_law_316 rfl rfl rfl
theorem dq_Law_law_319 : decode (km_c mm_Law_law) 319 = .ok (.land, 1) := by decide +kernel
theorem sq_Law_law_319 : rn G mm_Law_law 319 lv (.long y2 :: .long y :: st) S P ↔ rn G mm_Law_law 320 lv (.long (y &&& y2) :: st) S P := rn_s dq_Law_law_319 rfl rfl rfl
theorem dq_Law_law_320 : decode (km_c mm_Law_law) 320 = .ok (.lor, 1) := by decide +kernel
theorem sq_Law_law_320 : rn G mm_Law_law 320 lv (.long y2 :: .long y :: st) S P ↔ rn G mm_Law_law 321 lv (.long (y ||| y2) :: st) S P := rn_s dq_Law_law_320 rfl rfl rfl
theorem dq_Law_law_321 : decode (km_c mm_Law_law) 321 = .ok (.aload_n 0, 1) := by decide +kernel
theorem sq_Law_law_321 : rn G mm_Law_law 321 [some (.ref z), a1, a2, a3] st S P ↔ rn G mm_Law_law 322 [some (.ref z), a1, a2, a3] (.ref z :: st) S P := rn_s dq_Law_law_321 rfl rfl rfl
theorem dq_Law_law_322 : decode (km_c mm_Law_law) 322 = .ok (.iload_n 3, 1) := by decide +kernel
theorem sq_Law_law_322 : rn G mm_Law_law 322 [a0, a1, a2, some (.int x)] st S P ↔ rn G mm_Law_law 323 [a0, a1, a2, some (.int x)] (.int x :: st) S P := rn_s dq_Law_law_322 rfl rfl rfl
theorem dq_Law_law_323 : decode (km_c mm_Law_law) 323 = .ok (.iconst 3, 1) := by decide +kernel
theorem sq_Law_law_323 : rn G mm_Law_law 323 lv st S P ↔ rn G mm_Law_law 324 lv (.int (nI 3) :: st) S P := rn_s dq_Law_law_323 rfl rfl rfl
theorem dq_Law_law_324 : decode (km_c mm_Law_law) 324 = .ok (.iadd, 1) := by decide +kernel
theorem sq_Law_law_324 : rn G mm_Law_law 324 lv (.int x2 :: .int x :: st) S P ↔ rn G mm_Law_law 325 lv (.int (x + x2) :: st) S P := rn_s dq_Law_law_324 rfl rfl rfl
theorem dq_Law_law_325 : decode (km_c mm_Law_law) 325 = .ok (.iaload, 1) := by decide +kernel
theorem sq_Law_law_325 (ho : sx_o o pl kp) (hk : ak L a = 0) (hu : sx_up pl kp a = true ∨ 1000 ≤ a) (hc : c < ln L a) (hn : ln L a < 2 ^ 31) : rn (lt_G o L) mm_Law_law 325 lv (.int (nI c) :: .ref a :: st) (sx pl kp I A) P ↔ rn (lt_G o L) mm_Law_law 326 lv (.int (A a c) :: st) (sx pl kp I A) P := rx_ild dq_Law_law_325 ho hk hu hc hn
theorem dq_Law_law_326 : decode (km_c mm_Law_law) 326 = .ok (.invokevirtual 35, 3) := by decide +kernel
theorem sq_Law_law_326_0 {y1 : Int64} {x2 : Int32} {v : Option Value} {S2 : ks_S} (hc : ev (lt_G o L) mm_Road_type [.ref 0, .long y1, .int x2] (sx pl kp I A) v S2) (ho : sx_o o pl kp) (hst : kx_cat st ≤ 8) : rn (lt_G o L) mm_Law_law 326 lv (.int x2 :: .long y1 :: .ref 0 :: st) (sx pl kp I A) P ↔ rn (lt_G o L) mm_Law_law 329 lv (v.toList ++ st) S2 P := rn_cv (k := 0) (host := "") (E' := mm_Road_type) dq_Law_law_326 rfl (ok_v rfl (by decide) (by decide) (Nat.le_add_left _ _) hst (Nat.le_of_ble_eq_true rfl) (Or.inr (rc_v ho (up_b (by decide)) rfl))) rfl rfl hc
theorem dq_Law_law_329 : decode (km_c mm_Law_law) 329 = .ok (.aload_n 2, 1) := by decide +kernel
theorem sq_Law_law_329 : rn G mm_Law_law 329 [a0, a1, some (.ref z), a3] st S P ↔ rn G mm_Law_law 330 [a0, a1, some (.ref z), a3] (.ref z :: st) S P := rn_s dq_Law_law_329 rfl rfl rfl
theorem dq_Law_law_330 : decode (km_c mm_Law_law) 330 = .ok (.aload_n 0, 1) := by decide +kernel
theorem sq_Law_law_330 : rn G mm_Law_law 330 [some (.ref z), a1, a2, a3] st S P ↔ rn G mm_Law_law 331 [some (.ref z), a1, a2, a3] (.ref z :: st) S P := rn_s dq_Law_law_330 rfl rfl rfl
theorem dq_Law_law_331 : decode (km_c mm_Law_law) 331 = .ok (.iload_n 3, 1) := by decide +kernel
theorem sq_Law_law_331 : rn G mm_Law_law 331 [a0, a1, a2, some (.int x)] st S P ↔ rn G mm_Law_law 332 [a0, a1, a2, some (.int x)] (.int x :: st) S P := rn_s dq_Law_law_331 rfl rfl rfl
theorem dq_Law_law_332 : decode (km_c mm_Law_law) 332 = .ok (.iconst 1, 1) := by decide +kernel
theorem sq_Law_law_332 : rn G mm_Law_law 332 lv st S P ↔ rn G mm_Law_law 333 lv (.int (nI 1) :: st) S P := rn_s dq_Law_law_332 rfl rfl rfl
theorem dq_Law_law_333 : decode (km_c mm_Law_law) 333 = .ok (.iadd, 1) := by decide +kernel
theorem sq_Law_law_333 : rn G mm_Law_law 333 lv (.int x2 :: .int x :: st) S P ↔ rn G mm_Law_law 334 lv (.int (x + x2) :: st) S P := rn_s dq_Law_law_333 rfl rfl rfl
theorem dq_Law_law_334 : decode (km_c mm_Law_law) 334 = .ok (.iaload, 1) := by decide +kernel
theorem sq_Law_law_334 (ho : sx_o o pl kp) (hk : ak L a = 0) (hu : sx_up pl kp a = true ∨ 1000 ≤ a) (hc : c < ln L a) (hn : ln L a < 2 ^ 31) : rn (lt_G o L) mm_Law_law 334 lv (.int (nI c) :: .ref a :: st) (sx pl kp I A) P ↔ rn (lt_G o L) mm_Law_law 335 lv (.int (A a c) :: st) (sx pl kp I A) P := rx_ild dq_Law_law_334 ho hk hu hc hn
theorem dq_Law_law_335 : decode (km_c mm_Law_law) 335 = .ok (.i2l, 1) := by decide +kernel
theorem sq_Law_law_335 : rn G mm_Law_law 335 lv (.int x :: st) S P ↔ rn G mm_Law_law 336 lv (.long x.toInt64 :: st) S P := rn_s dq_Law_law_335 rfl rfl rfl
theorem dq_Law_law_336 : decode (km_c mm_Law_law) 336 = .ok (.bipush 32, 2) := by decide +kernel
theorem sq_Law_law_336 : rn G mm_Law_law 336 lv st S P ↔ rn G mm_Law_law 338 lv (.int (nI 32) :: st) S P := rn_s dq_Law_law_336 rfl rfl rfl
theorem dq_Law_law_338 : decode (km_c mm_Law_law) 338 = .ok (.lshl, 1) := by decide +kernel
theorem sq_Law_law_338 : rn G mm_Law_law 338 lv (.int x :: .long y :: st) S P ↔ rn G mm_Law_law 339 lv (.long (y <<< (x.toInt64 &&& 63)) :: st) S P := rn_s dq_Law_law_338 rfl rfl rfl
theorem dq_Law_law_339 : decode (km_c mm_Law_law) 339 = .ok (.aload_n 0, 1) := by decide +kernel
theorem sq_Law_law_339 : rn G mm_Law_law 339 [some (.ref z), a1, a2, a3] st S P ↔ rn G mm_Law_law 340 [some (.ref z), a1, a2, a3] (.ref z :: st) S P := rn_s dq_Law_law_339 rfl rfl rfl
theorem dq_Law_law_340 : decode (km_c mm_Law_law) 340 = .ok (.iload_n 3, 1) := by decide +kernel
theorem sq_Law_law_340 : rn G mm_Law_law 340 [a0, a1, a2, some (.int x)] st S P ↔ rn G mm_Law_law 341 [a0, a1, a2, some (.int x)] (.int x :: st) S P := rn_s dq_Law_law_340 rfl rfl rfl
theorem dq_Law_law_341 : decode (km_c mm_Law_law) 341 = .ok (.iconst 2, 1) := by decide +kernel
theorem sq_Law_law_341 : rn G mm_Law_law 341 lv st S P ↔ rn G mm_Law_law 342 lv (.int (nI 2) :: st) S P := rn_s dq_Law_law_341 rfl rfl rfl
theorem dq_Law_law_342 : decode (km_c mm_Law_law) 342 = .ok (.iadd, 1) := by decide +kernel
theorem sq_Law_law_342 : rn G mm_Law_law 342 lv (.int x2 :: .int x :: st) S P ↔ rn G mm_Law_law 343 lv (.int (x + x2) :: st) S P := rn_s dq_Law_law_342 rfl rfl rfl
theorem dq_Law_law_343 : decode (km_c mm_Law_law) 343 = .ok (.iaload, 1) := by decide +kernel
theorem sq_Law_law_343 (ho : sx_o o pl kp) (hk : ak L a = 0) (hu : sx_up pl kp a = true ∨ 1000 ≤ a) (hc : c < ln L a) (hn : ln L a < 2 ^ 31) : rn (lt_G o L) mm_Law_law 343 lv (.int (nI c) :: .ref a :: st) (sx pl kp I A) P ↔ rn (lt_G o L) mm_Law_law 344 lv (.int (A a c) :: st) (sx pl kp I A) P := rx_ild dq_Law_law_343 ho hk hu hc hn
theorem dq_Law_law_344 : decode (km_c mm_Law_law) 344 = .ok (.i2l, 1) := by decide +kernel
theorem sq_Law_law_344 : rn G mm_Law_law 344 lv (.int x :: st) S P ↔ rn G mm_Law_law 345 lv (.long x.toInt64 :: st) S P := rn_s dq_Law_law_344 rfl rfl rfl
theorem dq_Law_law_345 : decode (km_c mm_Law_law) 345 = .ok (.ldc2_w 33, 3) := by decide +kernel
theorem sq_Law_law_345 : rn G mm_Law_law 345 lv st S P ↔ rn G mm_Law_law 348 lv (.long (4294967295) :: st) S P := rn_s dq_Law_law_345 rfl rfl rfl
theorem dq_Law_law_348 : decode (km_c mm_Law_law) 348 = .ok (.land, 1) := by decide +kernel
theorem sq_Law_law_348 : rn G mm_Law_law 348 lv (.long y2 :: .long y :: st) S P ↔ rn G mm_Law_law 349 lv (.long (y &&& y2) :: st) S P := rn_s dq_Law_law_348 rfl rfl rfl
theorem dq_Law_law_349 : decode (km_c mm_Law_law) 349 = .ok (.lor, 1) := by decide +kernel
theorem sq_Law_law_349 : rn G mm_Law_law 349 lv (.long y2 :: .long y :: st) S P ↔ rn G mm_Law_law 350 lv (.long (y ||| y2) :: st) S P := rn_s dq_Law_law_349 rfl rfl rfl
theorem dq_Law_law_350 : decode (km_c mm_Law_law) 350 = .ok (.aload_n 0, 1) := by decide +kernel
theorem sq_Law_law_350 : rn G mm_Law_law 350 [some (.ref z), a1, a2, a3] st S P ↔ rn G mm_Law_law 351 [some (.ref z), a1, a2, a3] (.ref z :: st) S P := rn_s dq_Law_law_350 rfl rfl rfl
theorem dq_Law_law_351 : decode (km_c mm_Law_law) 351 = .ok (.iload_n 3, 1) := by decide +kernel
theorem sq_Law_law_351 : rn G mm_Law_law 351 [a0, a1, a2, some (.int x)] st S P ↔ rn G mm_Law_law 352 [a0, a1, a2, some (.int x)] (.int x :: st) S P := rn_s dq_Law_law_351 rfl rfl rfl
theorem dq_Law_law_352 : decode (km_c mm_Law_law) 352 = .ok (.iconst 3, 1) := by decide +kernel
theorem sq_Law_law_352 : rn G mm_Law_law 352 lv st S P ↔ rn G mm_Law_law 353 lv (.int (nI 3) :: st) S P := rn_s dq_Law_law_352 rfl rfl rfl
theorem dq_Law_law_353 : decode (km_c mm_Law_law) 353 = .ok (.iadd, 1) := by decide +kernel
theorem sq_Law_law_353 : rn G mm_Law_law 353 lv (.int x2 :: .int x :: st) S P ↔ rn G mm_Law_law 354 lv (.int (x + x2) :: st) S P := rn_s dq_Law_law_353 rfl rfl rfl
theorem dq_Law_law_354 : decode (km_c mm_Law_law) 354 = .ok (.iaload, 1) := by decide +kernel
theorem sq_Law_law_354 (ho : sx_o o pl kp) (hk : ak L a = 0) (hu : sx_up pl kp a = true ∨ 1000 ≤ a) (hc : c < ln L a) (hn : ln L a < 2 ^ 31) : rn (lt_G o L) mm_Law_law 354 lv (.int (nI c) :: .ref a :: st) (sx pl kp I A) P ↔ rn (lt_G o L) mm_Law_law 355 lv (.int (A a c) :: st) (sx pl kp I A) P := rx_ild dq_Law_law_354 ho hk hu hc hn
theorem dq_Law_law_355 : decode (km_c mm_Law_law) 355 = .ok (.invokevirtual 39, 3) := by decide +kernel
theorem sq_Law_law_355_45 {y1 : Int64} {x2 : Int32} {v : Option Value} {S2 : ks_S} (hc : ev (lt_G o L) mm_Model_type [.ref 45, .long y1, .int x2] (sx pl kp I A) v S2) (ho : sx_o o pl kp) (hst : kx_cat st ≤ 8) : rn (lt_G o L) mm_Law_law 355 lv (.int x2 :: .long y1 :: .ref 45 :: st) (sx pl kp I A) P ↔ rn (lt_G o L) mm_Law_law 358 lv (v.toList ++ st) S2 P := rn_cv (k := 0) (host := "") (E' := mm_Model_type) dq_Law_law_355 rfl (ok_v rfl (by decide) (by decide) (Nat.le_add_left _ _) hst (Nat.le_of_ble_eq_true rfl) (Or.inr (rc_v ho (up_b (by decide)) rfl))) rfl rfl hc
theorem dq_Law_law_358 : decode (km_c mm_Law_law) 358 = .ok (.if_icmp .eq 816, 3) := by decide +kernel
theorem sq_Law_law_358 : rn G mm_Law_law 358 lv (.int x2 :: .int x :: st) S P ↔ ((x = x2 → rn G mm_Law_law 1174 lv st S P) ∧ (¬ (x = x2) → rn G mm_Law_law 361 lv st S P)) := rn_b (off := 816) dq_Law_law_358 rfl rfl rfl rfl
theorem dq_Law_law_361 : decode (km_c mm_Law_law) 361 = .ok (.iconst 0, 1) := by decide +kernel
theorem sq_Law_law_361 : rn G mm_Law_law 361 lv st S P ↔ rn G mm_Law_law 362 lv (.int (nI 0) :: st) S P := rn_s dq_Law_law_361 rfl rfl rfl
theorem dq_Law_law_362 : decode (km_c mm_Law_law) 362 = .ok (.ireturn, 1) := by decide +kernel
theorem sq_Law_law_362_0 : rn G mm_Law_law 362 lv [.int (nI 0)] S P ↔ P (some (.int (nI 0))) S := rn_ir dq_Law_law_362 (by decide)
theorem sq_Law_law_362_1 : rn G mm_Law_law 362 lv [.int (nI 1)] S P ↔ P (some (.int (nI 1))) S := rn_ir dq_Law_law_362 (by decide)
theorem dq_Law_law_363 : decode (km_c mm_Law_law) 363 = .ok (.aload_n 1, 1) := by decide +kernel
theorem sq_Law_law_363 : rn G mm_Law_law 363 [a0, some (.ref z), a2, a3] st S P ↔ rn G mm_Law_law 364 [a0, some (.ref z), a2, a3] (.ref z :: st) S P := rn_s dq_Law_law_363 rfl rfl rfl
theorem dq_Law_law_364 : decode (km_c mm_Law_law) 364 = .ok (.invokevirtual 40, 3) := by decide +kernel
theorem sq_Law_law_364_0  {v : Option Value} {S2 : ks_S} (hc : ev (lt_G o L) mm_Road_delta [.ref 0] (sx pl kp I A) v S2) (ho : sx_o o pl kp) (hst : kx_cat st ≤ 8) : rn (lt_G o L) mm_Law_law 364 lv (.ref 0 :: st) (sx pl kp I A) P ↔ rn (lt_G o L) mm_Law_law 367 lv (v.toList ++ st) S2 P := rn_cv (k := 0) (host := "") (E' := mm_Road_delta) dq_Law_law_364 rfl (ok_v rfl (by decide) (by decide) (Nat.le_add_left _ _) hst (Nat.le_of_ble_eq_true rfl) (Or.inr (rc_v ho (up_b (by decide)) rfl))) rfl rfl hc
theorem dq_Law_law_367 : decode (km_c mm_Law_law) 367 = .ok (.aload_n 2, 1) := by decide +kernel
theorem sq_Law_law_367 : rn G mm_Law_law 367 [a0, a1, some (.ref z), a3] st S P ↔ rn G mm_Law_law 368 [a0, a1, some (.ref z), a3] (.ref z :: st) S P := rn_s dq_Law_law_367 rfl rfl rfl
theorem dq_Law_law_368 : decode (km_c mm_Law_law) 368 = .ok (.invokevirtual 43, 3) := by decide +kernel
theorem sq_Law_law_368_45  {v : Option Value} {S2 : ks_S} (hc : ev (lt_G o L) mm_Model_delta [.ref 45] (sx pl kp I A) v S2) (ho : sx_o o pl kp) (hst : kx_cat st ≤ 8) : rn (lt_G o L) mm_Law_law 368 lv (.ref 45 :: st) (sx pl kp I A) P ↔ rn (lt_G o L) mm_Law_law 371 lv (v.toList ++ st) S2 P := rn_cv (k := 0) (host := "") (E' := mm_Model_delta) dq_Law_law_368 rfl (ok_v rfl (by decide) (by decide) (Nat.le_add_left _ _) hst (Nat.le_of_ble_eq_true rfl) (Or.inr (rc_v ho (up_b (by decide)) rfl))) rfl rfl hc
theorem dq_Law_law_371 : decode (km_c mm_Law_law) 371 = .ok (.if_icmp .eq 803, 3) := by decide +kernel
theorem sq_Law_law_371 : rn G mm_Law_law 371 lv (.int x2 :: .int x :: st) S P ↔ ((x = x2 → rn G mm_Law_law 1174 lv st S P) ∧ (¬ (x = x2) → rn G mm_Law_law 374 lv st S P)) := rn_b (off := 803) dq_Law_law_371 rfl rfl rfl rfl
theorem dq_Law_law_374 : decode (km_c mm_Law_law) 374 = .ok (.iconst 0, 1) := by decide +kernel
theorem sq_Law_law_374 : rn G mm_Law_law 374 lv st S P ↔ rn G mm_Law_law 375 lv (.int (nI 0) :: st) S P := rn_s dq_Law_law_374 rfl rfl rfl
theorem dq_Law_law_375 : decode (km_c mm_Law_law) 375 = .ok (.ireturn, 1) := by decide +kernel
theorem sq_Law_law_375_0 : rn G mm_Law_law 375 lv [.int (nI 0)] S P ↔ P (some (.int (nI 0))) S := rn_ir dq_Law_law_375 (by decide)
theorem sq_Law_law_375_1 : rn G mm_Law_law 375 lv [.int (nI 1)] S P ↔ P (some (.int (nI 1))) S := rn_ir dq_Law_law_375 (by decide)
theorem dq_Law_law_376 : decode (km_c mm_Law_law) 376 = .ok (.aload_n 1, 1) := by decide +kernel
theorem sq_Law_law_376 : rn G mm_Law_law 376 [a0, some (.ref z), a2, a3] st S P ↔ rn G mm_Law_law 377 [a0, some (.ref z), a2, a3] (.ref z :: st) S P := rn_s dq_Law_law_376 rfl rfl rfl
theorem dq_Law_law_377 : decode (km_c mm_Law_law) 377 = .ok (.invokevirtual 44, 3) := by decide +kernel
theorem sq_Law_law_377_0  {v : Option Value} {S2 : ks_S} (hc : ev (lt_G o L) mm_Road_villages [.ref 0] (sx pl kp I A) v S2) (ho : sx_o o pl kp) (hst : kx_cat st ≤ 8) : rn (lt_G o L) mm_Law_law 377 lv (.ref 0 :: st) (sx pl kp I A) P ↔ rn (lt_G o L) mm_Law_law 380 lv (v.toList ++ st) S2 P := rn_cv (k := 0) (host := "") (E' := mm_Road_villages) dq_Law_law_377 rfl (ok_v rfl (by decide) (by decide) (Nat.le_add_left _ _) hst (Nat.le_of_ble_eq_true rfl) (Or.inr (rc_v ho (up_b (by decide)) rfl))) rfl rfl hc
theorem dq_Law_law_380 : decode (km_c mm_Law_law) 380 = .ok (.aload_n 2, 1) := by decide +kernel
theorem sq_Law_law_380 : rn G mm_Law_law 380 [a0, a1, some (.ref z), a3] st S P ↔ rn G mm_Law_law 381 [a0, a1, some (.ref z), a3] (.ref z :: st) S P := rn_s dq_Law_law_380 rfl rfl rfl
theorem dq_Law_law_381 : decode (km_c mm_Law_law) 381 = .ok (.invokevirtual 47, 3) := by decide +kernel
theorem sq_Law_law_381_45  {v : Option Value} {S2 : ks_S} (hc : ev (lt_G o L) mm_Model_villages [.ref 45] (sx pl kp I A) v S2) (ho : sx_o o pl kp) (hst : kx_cat st ≤ 8) : rn (lt_G o L) mm_Law_law 381 lv (.ref 45 :: st) (sx pl kp I A) P ↔ rn (lt_G o L) mm_Law_law 384 lv (v.toList ++ st) S2 P := rn_cv (k := 0) (host := "") (E' := mm_Model_villages) dq_Law_law_381 rfl (ok_v rfl (by decide) (by decide) (Nat.le_add_left _ _) hst (Nat.le_of_ble_eq_true rfl) (Or.inr (rc_v ho (up_b (by decide)) rfl))) rfl rfl hc
theorem dq_Law_law_384 : decode (km_c mm_Law_law) 384 = .ok (.if_icmp .eq 790, 3) := by decide +kernel
theorem sq_Law_law_384 : rn G mm_Law_law 384 lv (.int x2 :: .int x :: st) S P ↔ ((x = x2 → rn G mm_Law_law 1174 lv st S P) ∧ (¬ (x = x2) → rn G mm_Law_law 387 lv st S P)) := rn_b (off := 790) dq_Law_law_384 rfl rfl rfl rfl
theorem dq_Law_law_387 : decode (km_c mm_Law_law) 387 = .ok (.iconst 0, 1) := by decide +kernel
theorem sq_Law_law_387 : rn G mm_Law_law 387 lv st S P ↔ rn G mm_Law_law 388 lv (.int (nI 0) :: st) S P := rn_s dq_Law_law_387 rfl rfl rfl
theorem dq_Law_law_388 : decode (km_c mm_Law_law) 388 = .ok (.ireturn, 1) := by decide +kernel
theorem sq_Law_law_388_0 : rn G mm_Law_law 388 lv [.int (nI 0)] S P ↔ P (some (.int (nI 0))) S := rn_ir dq_Law_law_388 (by decide)
theorem sq_Law_law_388_1 : rn G mm_Law_law 388 lv [.int (nI 1)] S P ↔ P (some (.int (nI 1))) S := rn_ir dq_Law_law_388 (by decide)
theorem dq_Law_law_389 : decode (km_c mm_Law_law) 389 = .ok (.aload_n 1, 1) := by decide +kernel
theorem sq_Law_law_389 : rn G mm_Law_law 389 [a0, some (.ref z), a2, a3] st S P ↔ rn G mm_Law_law 390 [a0, some (.ref z), a2, a3] (.ref z :: st) S P := rn_s dq_Law_law_389 rfl rfl rfl
theorem dq_Law_law_390 : decode (km_c mm_Law_law) 390 = .ok (.aload_n 0, 1) := by decide +kernel
theorem sq_Law_law_390 : rn G mm_Law_law 390 [some (.ref z), a1, a2, a3] st S P ↔ rn G mm_Law_law 391 [some (.ref z), a1, a2, a3] (.ref z :: st) S P := rn_s dq_Law_law_390 rfl rfl rfl
theorem dq_Law_law_391 : decode (km_c mm_Law_law) 391 = .ok (.iload_n 3, 1) := by decide +kernel
theorem sq_Law_law_391 : rn G mm_Law_law 391 [a0, a1, a2, some (.int x)] st S P ↔ rn G mm_Law_law 392 [a0, a1, a2, some (.int x)] (.int x :: st) S P := rn_s dq_Law_law_391 rfl rfl rfl
theorem dq_Law_law_392 : decode (km_c mm_Law_law) 392 = .ok (.iconst 1, 1) := by decide +kernel
theorem sq_Law_law_392 : rn G mm_Law_law 392 lv st S P ↔ rn G mm_Law_law 393 lv (.int (nI 1) :: st) S P := rn_s dq_Law_law_392 rfl rfl rfl
theorem dq_Law_law_393 : decode (km_c mm_Law_law) 393 = .ok (.iadd, 1) := by decide +kernel
theorem sq_Law_law_393 : rn G mm_Law_law 393 lv (.int x2 :: .int x :: st) S P ↔ rn G mm_Law_law 394 lv (.int (x + x2) :: st) S P := rn_s dq_Law_law_393 rfl rfl rfl
theorem dq_Law_law_394 : decode (km_c mm_Law_law) 394 = .ok (.iaload, 1) := by decide +kernel
theorem sq_Law_law_394 (ho : sx_o o pl kp) (hk : ak L a = 0) (hu : sx_up pl kp a = true ∨ 1000 ≤ a) (hc : c < ln L a) (hn : ln L a < 2 ^ 31) : rn (lt_G o L) mm_Law_law 394 lv (.int (nI c) :: .ref a :: st) (sx pl kp I A) P ↔ rn (lt_G o L) mm_Law_law 395 lv (.int (A a c) :: st) (sx pl kp I A) P := rx_ild dq_Law_law_394 ho hk hu hc hn
theorem dq_Law_law_395 : decode (km_c mm_Law_law) 395 = .ok (.invokevirtual 48, 3) := by decide +kernel
theorem sq_Law_law_395_0 {x1 : Int32} {v : Option Value} {S2 : ks_S} (hc : ev (lt_G o L) mm_Road_count [.ref 0, .int x1] (sx pl kp I A) v S2) (ho : sx_o o pl kp) (hst : kx_cat st ≤ 8) : rn (lt_G o L) mm_Law_law 395 lv (.int x1 :: .ref 0 :: st) (sx pl kp I A) P ↔ rn (lt_G o L) mm_Law_law 398 lv (v.toList ++ st) S2 P := rn_cv (k := 0) (host := "") (E' := mm_Road_count) dq_Law_law_395 rfl (ok_v rfl (by decide) (by decide) (Nat.le_add_left _ _) hst (Nat.le_of_ble_eq_true rfl) (Or.inr (rc_v ho (up_b (by decide)) rfl))) rfl rfl hc
theorem dq_Law_law_398 : decode (km_c mm_Law_law) 398 = .ok (.aload_n 2, 1) := by decide +kernel
theorem sq_Law_law_398 : rn G mm_Law_law 398 [a0, a1, some (.ref z), a3] st S P ↔ rn G mm_Law_law 399 [a0, a1, some (.ref z), a3] (.ref z :: st) S P := rn_s dq_Law_law_398 rfl rfl rfl
theorem dq_Law_law_399 : decode (km_c mm_Law_law) 399 = .ok (.aload_n 0, 1) := by decide +kernel
theorem sq_Law_law_399 : rn G mm_Law_law 399 [some (.ref z), a1, a2, a3] st S P ↔ rn G mm_Law_law 400 [some (.ref z), a1, a2, a3] (.ref z :: st) S P := rn_s dq_Law_law_399 rfl rfl rfl
theorem dq_Law_law_400 : decode (km_c mm_Law_law) 400 = .ok (.iload_n 3, 1) := by decide +kernel
theorem sq_Law_law_400 : rn G mm_Law_law 400 [a0, a1, a2, some (.int x)] st S P ↔ rn G mm_Law_law 401 [a0, a1, a2, some (.int x)] (.int x :: st) S P := rn_s dq_Law_law_400 rfl rfl rfl
theorem dq_Law_law_401 : decode (km_c mm_Law_law) 401 = .ok (.iconst 1, 1) := by decide +kernel
theorem sq_Law_law_401 : rn G mm_Law_law 401 lv st S P ↔ rn G mm_Law_law 402 lv (.int (nI 1) :: st) S P := rn_s dq_Law_law_401 rfl rfl rfl
theorem dq_Law_law_402 : decode (km_c mm_Law_law) 402 = .ok (.iadd, 1) := by decide +kernel
theorem sq_Law_law_402 : rn G mm_Law_law 402 lv (.int x2 :: .int x :: st) S P ↔ rn G mm_Law_law 403 lv (.int (x + x2) :: st) S P := rn_s dq_Law_law_402 rfl rfl rfl
theorem dq_Law_law_403 : decode (km_c mm_Law_law) 403 = .ok (.iaload, 1) := by decide +kernel
theorem sq_Law_law_403 (ho : sx_o o pl kp) (hk : ak L a = 0) (hu : sx_up pl kp a = true ∨ 1000 ≤ a) (hc : c < ln L a) (hn : ln L a < 2 ^ 31) : rn (lt_G o L) mm_Law_law 403 lv (.int (nI c) :: .ref a :: st) (sx pl kp I A) P ↔ rn (lt_G o L) mm_Law_law 404 lv (.int (A a c) :: st) (sx pl kp I A) P := rx_ild dq_Law_law_403 ho hk hu hc hn
theorem dq_Law_law_404 : decode (km_c mm_Law_law) 404 = .ok (.invokevirtual 51, 3) := by decide +kernel
theorem sq_Law_law_404_45 {x1 : Int32} {v : Option Value} {S2 : ks_S} (hc : ev (lt_G o L) mm_Model_count [.ref 45, .int x1] (sx pl kp I A) v S2) (ho : sx_o o pl kp) (hst : kx_cat st ≤ 8) : rn (lt_G o L) mm_Law_law 404 lv (.int x1 :: .ref 45 :: st) (sx pl kp I A) P ↔ rn (lt_G o L) mm_Law_law 407 lv (v.toList ++ st) S2 P := rn_cv (k := 0) (host := "") (E' := mm_Model_count) dq_Law_law_404 rfl (ok_v rfl (by decide) (by decide) (Nat.le_add_left _ _) hst (Nat.le_of_ble_eq_true rfl) (Or.inr (rc_v ho (up_b (by decide)) rfl))) rfl rfl hc
theorem dq_Law_law_407 : decode (km_c mm_Law_law) 407 = .ok (.if_icmp .eq 767, 3) := by decide +kernel
theorem sq_Law_law_407 : rn G mm_Law_law 407 lv (.int x2 :: .int x :: st) S P ↔ ((x = x2 → rn G mm_Law_law 1174 lv st S P) ∧ (¬ (x = x2) → rn G mm_Law_law 410 lv st S P)) := rn_b (off := 767) dq_Law_law_407 rfl rfl rfl rfl
theorem dq_Law_law_410 : decode (km_c mm_Law_law) 410 = .ok (.iconst 0, 1) := by decide +kernel
theorem sq_Law_law_410 : rn G mm_Law_law 410 lv st S P ↔ rn G mm_Law_law 411 lv (.int (nI 0) :: st) S P := rn_s dq_Law_law_410 rfl rfl rfl
theorem dq_Law_law_411 : decode (km_c mm_Law_law) 411 = .ok (.ireturn, 1) := by decide +kernel
theorem sq_Law_law_411_0 : rn G mm_Law_law 411 lv [.int (nI 0)] S P ↔ P (some (.int (nI 0))) S := rn_ir dq_Law_law_411 (by decide)
theorem sq_Law_law_411_1 : rn G mm_Law_law 411 lv [.int (nI 1)] S P ↔ P (some (.int (nI 1))) S := rn_ir dq_Law_law_411 (by decide)
theorem dq_Law_law_412 : decode (km_c mm_Law_law) 412 = .ok (.aload_n 1, 1) := by decide +kernel
theorem sq_Law_law_412 : rn G mm_Law_law 412 [a0, some (.ref z), a2, a3] st S P ↔ rn G mm_Law_law 413 [a0, some (.ref z), a2, a3] (.ref z :: st) S P := rn_s dq_Law_law_412 rfl rfl rfl
theorem dq_Law_law_413 : decode (km_c mm_Law_law) 413 = .ok (.aload_n 0, 1) := by decide +kernel
theorem sq_Law_law_413 : rn G mm_Law_law 413 [some (.ref z), a1, a2, a3] st S P ↔ rn G mm_Law_law 414 [some (.ref z), a1, a2, a3] (.ref z :: st) S P := rn_s dq_Law_law_413 rfl rfl rfl
theorem dq_Law_law_414 : decode (km_c mm_Law_law) 414 = .ok (.iload_n 3, 1) := by decide +kernel
theorem sq_Law_law_414 : rn G mm_Law_law 414 [a0, a1, a2, some (.int x)] st S P ↔ rn G mm_Law_law 415 [a0, a1, a2, some (.int x)] (.int x :: st) S P := rn_s dq_Law_law_414 rfl rfl rfl
theorem dq_Law_law_415 : decode (km_c mm_Law_law) 415 = .ok (.iconst 1, 1) := by decide +kernel
theorem sq_Law_law_415 : rn G mm_Law_law 415 lv st S P ↔ rn G mm_Law_law 416 lv (.int (nI 1) :: st) S P := rn_s dq_Law_law_415 rfl rfl rfl
theorem dq_Law_law_416 : decode (km_c mm_Law_law) 416 = .ok (.iadd, 1) := by decide +kernel
theorem sq_Law_law_416 : rn G mm_Law_law 416 lv (.int x2 :: .int x :: st) S P ↔ rn G mm_Law_law 417 lv (.int (x + x2) :: st) S P := rn_s dq_Law_law_416 rfl rfl rfl
theorem dq_Law_law_417 : decode (km_c mm_Law_law) 417 = .ok (.iaload, 1) := by decide +kernel
theorem sq_Law_law_417 (ho : sx_o o pl kp) (hk : ak L a = 0) (hu : sx_up pl kp a = true ∨ 1000 ≤ a) (hc : c < ln L a) (hn : ln L a < 2 ^ 31) : rn (lt_G o L) mm_Law_law 417 lv (.int (nI c) :: .ref a :: st) (sx pl kp I A) P ↔ rn (lt_G o L) mm_Law_law 418 lv (.int (A a c) :: st) (sx pl kp I A) P := rx_ild dq_Law_law_417 ho hk hu hc hn
theorem dq_Law_law_418 : decode (km_c mm_Law_law) 418 = .ok (.aload_n 0, 1) := by decide +kernel
theorem sq_Law_law_418 : rn G mm_Law_law 418 [some (.ref z), a1, a2, a3] st S P ↔ rn G mm_Law_law 419 [some (.ref z), a1, a2, a3] (.ref z :: st) S P := rn_s dq_Law_law_418 rfl rfl rfl
theorem dq_Law_law_419 : decode (km_c mm_Law_law) 419 = .ok (.iload_n 3, 1) := by decide +kernel
theorem sq_Law_law_419 : rn G mm_Law_law 419 [a0, a1, a2, some (.int x)] st S P ↔ rn G mm_Law_law 420 [a0, a1, a2, some (.int x)] (.int x :: st) S P := rn_s dq_Law_law_419 rfl rfl rfl
theorem dq_Law_law_420 : decode (km_c mm_Law_law) 420 = .ok (.iconst 2, 1) := by decide +kernel
theorem sq_Law_law_420 : rn G mm_Law_law 420 lv st S P ↔ rn G mm_Law_law 421 lv (.int (nI 2) :: st) S P := rn_s dq_Law_law_420 rfl rfl rfl
theorem dq_Law_law_421 : decode (km_c mm_Law_law) 421 = .ok (.iadd, 1) := by decide +kernel
theorem sq_Law_law_421 : rn G mm_Law_law 421 lv (.int x2 :: .int x :: st) S P ↔ rn G mm_Law_law 422 lv (.int (x + x2) :: st) S P := rn_s dq_Law_law_421 rfl rfl rfl
theorem dq_Law_law_422 : decode (km_c mm_Law_law) 422 = .ok (.iaload, 1) := by decide +kernel
theorem sq_Law_law_422 (ho : sx_o o pl kp) (hk : ak L a = 0) (hu : sx_up pl kp a = true ∨ 1000 ≤ a) (hc : c < ln L a) (hn : ln L a < 2 ^ 31) : rn (lt_G o L) mm_Law_law 422 lv (.int (nI c) :: .ref a :: st) (sx pl kp I A) P ↔ rn (lt_G o L) mm_Law_law 423 lv (.int (A a c) :: st) (sx pl kp I A) P := rx_ild dq_Law_law_422 ho hk hu hc hn
theorem dq_Law_law_423 : decode (km_c mm_Law_law) 423 = .ok (.invokevirtual 52, 3) := by decide +kernel
theorem sq_Law_law_423_0 {x1 : Int32} {x2 : Int32} {v : Option Value} {S2 : ks_S} (hc : ev (lt_G o L) mm_Road_village [.ref 0, .int x1, .int x2] (sx pl kp I A) v S2) (ho : sx_o o pl kp) (hst : kx_cat st ≤ 8) : rn (lt_G o L) mm_Law_law 423 lv (.int x2 :: .int x1 :: .ref 0 :: st) (sx pl kp I A) P ↔ rn (lt_G o L) mm_Law_law 426 lv (v.toList ++ st) S2 P := rn_cv (k := 0) (host := "") (E' := mm_Road_village) dq_Law_law_423 rfl (ok_v rfl (by decide) (by decide) (Nat.le_add_left _ _) hst (Nat.le_of_ble_eq_true rfl) (Or.inr (rc_v ho (up_b (by decide)) rfl))) rfl rfl hc
theorem dq_Law_law_426 : decode (km_c mm_Law_law) 426 = .ok (.aload_n 2, 1) := by decide +kernel
theorem sq_Law_law_426 : rn G mm_Law_law 426 [a0, a1, some (.ref z), a3] st S P ↔ rn G mm_Law_law 427 [a0, a1, some (.ref z), a3] (.ref z :: st) S P := rn_s dq_Law_law_426 rfl rfl rfl
theorem dq_Law_law_427 : decode (km_c mm_Law_law) 427 = .ok (.aload_n 0, 1) := by decide +kernel
theorem sq_Law_law_427 : rn G mm_Law_law 427 [some (.ref z), a1, a2, a3] st S P ↔ rn G mm_Law_law 428 [some (.ref z), a1, a2, a3] (.ref z :: st) S P := rn_s dq_Law_law_427 rfl rfl rfl
theorem dq_Law_law_428 : decode (km_c mm_Law_law) 428 = .ok (.iload_n 3, 1) := by decide +kernel
theorem sq_Law_law_428 : rn G mm_Law_law 428 [a0, a1, a2, some (.int x)] st S P ↔ rn G mm_Law_law 429 [a0, a1, a2, some (.int x)] (.int x :: st) S P := rn_s dq_Law_law_428 rfl rfl rfl
theorem dq_Law_law_429 : decode (km_c mm_Law_law) 429 = .ok (.iconst 1, 1) := by decide +kernel
theorem sq_Law_law_429 : rn G mm_Law_law 429 lv st S P ↔ rn G mm_Law_law 430 lv (.int (nI 1) :: st) S P := rn_s dq_Law_law_429 rfl rfl rfl
theorem dq_Law_law_430 : decode (km_c mm_Law_law) 430 = .ok (.iadd, 1) := by decide +kernel
theorem sq_Law_law_430 : rn G mm_Law_law 430 lv (.int x2 :: .int x :: st) S P ↔ rn G mm_Law_law 431 lv (.int (x + x2) :: st) S P := rn_s dq_Law_law_430 rfl rfl rfl
theorem dq_Law_law_431 : decode (km_c mm_Law_law) 431 = .ok (.iaload, 1) := by decide +kernel
theorem sq_Law_law_431 (ho : sx_o o pl kp) (hk : ak L a = 0) (hu : sx_up pl kp a = true ∨ 1000 ≤ a) (hc : c < ln L a) (hn : ln L a < 2 ^ 31) : rn (lt_G o L) mm_Law_law 431 lv (.int (nI c) :: .ref a :: st) (sx pl kp I A) P ↔ rn (lt_G o L) mm_Law_law 432 lv (.int (A a c) :: st) (sx pl kp I A) P := rx_ild dq_Law_law_431 ho hk hu hc hn
theorem dq_Law_law_432 : decode (km_c mm_Law_law) 432 = .ok (.aload_n 0, 1) := by decide +kernel
theorem sq_Law_law_432 : rn G mm_Law_law 432 [some (.ref z), a1, a2, a3] st S P ↔ rn G mm_Law_law 433 [some (.ref z), a1, a2, a3] (.ref z :: st) S P := rn_s dq_Law_law_432 rfl rfl rfl
theorem dq_Law_law_433 : decode (km_c mm_Law_law) 433 = .ok (.iload_n 3, 1) := by decide +kernel
theorem sq_Law_law_433 : rn G mm_Law_law 433 [a0, a1, a2, some (.int x)] st S P ↔ rn G mm_Law_law 434 [a0, a1, a2, some (.int x)] (.int x :: st) S P := rn_s dq_Law_law_433 rfl rfl rfl
theorem dq_Law_law_434 : decode (km_c mm_Law_law) 434 = .ok (.iconst 2, 1) := by decide +kernel
theorem sq_Law_law_434 : rn G mm_Law_law 434 lv st S P ↔ rn G mm_Law_law 435 lv (.int (nI 2) :: st) S P := rn_s dq_Law_law_434 rfl rfl rfl
theorem dq_Law_law_435 : decode (km_c mm_Law_law) 435 = .ok (.iadd, 1) := by decide +kernel
theorem sq_Law_law_435 : rn G mm_Law_law 435 lv (.int x2 :: .int x :: st) S P ↔ rn G mm_Law_law 436 lv (.int (x + x2) :: st) S P := rn_s dq_Law_law_435 rfl rfl rfl
theorem dq_Law_law_436 : decode (km_c mm_Law_law) 436 = .ok (.iaload, 1) := by decide +kernel
theorem sq_Law_law_436 (ho : sx_o o pl kp) (hk : ak L a = 0) (hu : sx_up pl kp a = true ∨ 1000 ≤ a) (hc : c < ln L a) (hn : ln L a < 2 ^ 31) : rn (lt_G o L) mm_Law_law 436 lv (.int (nI c) :: .ref a :: st) (sx pl kp I A) P ↔ rn (lt_G o L) mm_Law_law 437 lv (.int (A a c) :: st) (sx pl kp I A) P := rx_ild dq_Law_law_436 ho hk hu hc hn
theorem dq_Law_law_437 : decode (km_c mm_Law_law) 437 = .ok (.invokevirtual 55, 3) := by decide +kernel
theorem sq_Law_law_437_45 {x1 : Int32} {x2 : Int32} {v : Option Value} {S2 : ks_S} (hc : ev (lt_G o L) mm_Model_village [.ref 45, .int x1, .int x2] (sx pl kp I A) v S2) (ho : sx_o o pl kp) (hst : kx_cat st ≤ 8) : rn (lt_G o L) mm_Law_law 437 lv (.int x2 :: .int x1 :: .ref 45 :: st) (sx pl kp I A) P ↔ rn (lt_G o L) mm_Law_law 440 lv (v.toList ++ st) S2 P := rn_cv (k := 0) (host := "") (E' := mm_Model_village) dq_Law_law_437 rfl (ok_v rfl (by decide) (by decide) (Nat.le_add_left _ _) hst (Nat.le_of_ble_eq_true rfl) (Or.inr (rc_v ho (up_b (by decide)) rfl))) rfl rfl hc
theorem dq_Law_law_440 : decode (km_c mm_Law_law) 440 = .ok (.if_icmp .eq 734, 3) := by decide +kernel
theorem sq_Law_law_440 : rn G mm_Law_law 440 lv (.int x2 :: .int x :: st) S P ↔ ((x = x2 → rn G mm_Law_law 1174 lv st S P) ∧ (¬ (x = x2) → rn G mm_Law_law 443 lv st S P)) := rn_b (off := 734) dq_Law_law_440 rfl rfl rfl rfl
theorem dq_Law_law_443 : decode (km_c mm_Law_law) 443 = .ok (.iconst 0, 1) := by decide +kernel
theorem sq_Law_law_443 : rn G mm_Law_law 443 lv st S P ↔ rn G mm_Law_law 444 lv (.int (nI 0) :: st) S P := rn_s dq_Law_law_443 rfl rfl rfl
theorem dq_Law_law_444 : decode (km_c mm_Law_law) 444 = .ok (.ireturn, 1) := by decide +kernel
theorem sq_Law_law_444_0 : rn G mm_Law_law 444 lv [.int (nI 0)] S P ↔ P (some (.int (nI 0))) S := rn_ir dq_Law_law_444 (by decide)
theorem sq_Law_law_444_1 : rn G mm_Law_law 444 lv [.int (nI 1)] S P ↔ P (some (.int (nI 1))) S := rn_ir dq_Law_law_444 (by decide)
theorem dq_Law_law_445 : decode (km_c mm_Law_law) 445 = .ok (.aload_n 1, 1) := by decide +kernel
theorem sq_Law_law_445 : rn G mm_Law_law 445 [a0, some (.ref z), a2, a3] st S P ↔ rn G mm_Law_law 446 [a0, some (.ref z), a2, a3] (.ref z :: st) S P := rn_s dq_Law_law_445 rfl rfl rfl
theorem dq_Law_law_446 : decode (km_c mm_Law_law) 446 = .ok (.aload_n 0, 1) := by decide +kernel
theorem sq_Law_law_446 : rn G mm_Law_law 446 [some (.ref z), a1, a2, a3] st S P ↔ rn G mm_Law_law 447 [some (.ref z), a1, a2, a3] (.ref z :: st) S P := rn_s dq_Law_law_446 rfl rfl rfl
theorem dq_Law_law_447 : decode (km_c mm_Law_law) 447 = .ok (.iload_n 3, 1) := by decide +kernel
theorem sq_Law_law_447 : rn G mm_Law_law 447 [a0, a1, a2, some (.int x)] st S P ↔ rn G mm_Law_law 448 [a0, a1, a2, some (.int x)] (.int x :: st) S P := rn_s dq_Law_law_447 rfl rfl rfl
theorem dq_Law_law_448 : decode (km_c mm_Law_law) 448 = .ok (.iconst 1, 1) := by decide +kernel
theorem sq_Law_law_448 : rn G mm_Law_law 448 lv st S P ↔ rn G mm_Law_law 449 lv (.int (nI 1) :: st) S P := rn_s dq_Law_law_448 rfl rfl rfl
theorem dq_Law_law_449 : decode (km_c mm_Law_law) 449 = .ok (.iadd, 1) := by decide +kernel
theorem sq_Law_law_449 : rn G mm_Law_law 449 lv (.int x2 :: .int x :: st) S P ↔ rn G mm_Law_law 450 lv (.int (x + x2) :: st) S P := rn_s dq_Law_law_449 rfl rfl rfl
theorem dq_Law_law_450 : decode (km_c mm_Law_law) 450 = .ok (.iaload, 1) := by decide +kernel
theorem sq_Law_law_450 (ho : sx_o o pl kp) (hk : ak L a = 0) (hu : sx_up pl kp a = true ∨ 1000 ≤ a) (hc : c < ln L a) (hn : ln L a < 2 ^ 31) : rn (lt_G o L) mm_Law_law 450 lv (.int (nI c) :: .ref a :: st) (sx pl kp I A) P ↔ rn (lt_G o L) mm_Law_law 451 lv (.int (A a c) :: st) (sx pl kp I A) P := rx_ild dq_Law_law_450 ho hk hu hc hn
theorem dq_Law_law_451 : decode (km_c mm_Law_law) 451 = .ok (.aload_n 0, 1) := by decide +kernel
theorem sq_Law_law_451 : rn G mm_Law_law 451 [some (.ref z), a1, a2, a3] st S P ↔ rn G mm_Law_law 452 [some (.ref z), a1, a2, a3] (.ref z :: st) S P := rn_s dq_Law_law_451 rfl rfl rfl
theorem dq_Law_law_452 : decode (km_c mm_Law_law) 452 = .ok (.iload_n 3, 1) := by decide +kernel
theorem sq_Law_law_452 : rn G mm_Law_law 452 [a0, a1, a2, some (.int x)] st S P ↔ rn G mm_Law_law 453 [a0, a1, a2, some (.int x)] (.int x :: st) S P := rn_s dq_Law_law_452 rfl rfl rfl
theorem dq_Law_law_453 : decode (km_c mm_Law_law) 453 = .ok (.iconst 2, 1) := by decide +kernel
theorem sq_Law_law_453 : rn G mm_Law_law 453 lv st S P ↔ rn G mm_Law_law 454 lv (.int (nI 2) :: st) S P := rn_s dq_Law_law_453 rfl rfl rfl
theorem dq_Law_law_454 : decode (km_c mm_Law_law) 454 = .ok (.iadd, 1) := by decide +kernel
theorem sq_Law_law_454 : rn G mm_Law_law 454 lv (.int x2 :: .int x :: st) S P ↔ rn G mm_Law_law 455 lv (.int (x + x2) :: st) S P := rn_s dq_Law_law_454 rfl rfl rfl
theorem dq_Law_law_455 : decode (km_c mm_Law_law) 455 = .ok (.iaload, 1) := by decide +kernel
theorem sq_Law_law_455 (ho : sx_o o pl kp) (hk : ak L a = 0) (hu : sx_up pl kp a = true ∨ 1000 ≤ a) (hc : c < ln L a) (hn : ln L a < 2 ^ 31) : rn (lt_G o L) mm_Law_law 455 lv (.int (nI c) :: .ref a :: st) (sx pl kp I A) P ↔ rn (lt_G o L) mm_Law_law 456 lv (.int (A a c) :: st) (sx pl kp I A) P := rx_ild dq_Law_law_455 ho hk hu hc hn
theorem dq_Law_law_456 : decode (km_c mm_Law_law) 456 = .ok (.invokevirtual 56, 3) := by decide +kernel
theorem sq_Law_law_456_0 {x1 : Int32} {x2 : Int32} {v : Option Value} {S2 : ks_S} (hc : ev (lt_G o L) mm_Road_of [.ref 0, .int x1, .int x2] (sx pl kp I A) v S2) (ho : sx_o o pl kp) (hst : kx_cat st ≤ 8) : rn (lt_G o L) mm_Law_law 456 lv (.int x2 :: .int x1 :: .ref 0 :: st) (sx pl kp I A) P ↔ rn (lt_G o L) mm_Law_law 459 lv (v.toList ++ st) S2 P := rn_cv (k := 0) (host := "") (E' := mm_Road_of) dq_Law_law_456 rfl (ok_v rfl (by decide) (by decide) (Nat.le_add_left _ _) hst (Nat.le_of_ble_eq_true rfl) (Or.inr (rc_v ho (up_b (by decide)) rfl))) rfl rfl hc
theorem dq_Law_law_459 : decode (km_c mm_Law_law) 459 = .ok (.aload_n 2, 1) := by decide +kernel
theorem sq_Law_law_459 : rn G mm_Law_law 459 [a0, a1, some (.ref z), a3] st S P ↔ rn G mm_Law_law 460 [a0, a1, some (.ref z), a3] (.ref z :: st) S P := rn_s dq_Law_law_459 rfl rfl rfl
theorem dq_Law_law_460 : decode (km_c mm_Law_law) 460 = .ok (.aload_n 0, 1) := by decide +kernel
theorem sq_Law_law_460 : rn G mm_Law_law 460 [some (.ref z), a1, a2, a3] st S P ↔ rn G mm_Law_law 461 [some (.ref z), a1, a2, a3] (.ref z :: st) S P := rn_s dq_Law_law_460 rfl rfl rfl
theorem dq_Law_law_461 : decode (km_c mm_Law_law) 461 = .ok (.iload_n 3, 1) := by decide +kernel
theorem sq_Law_law_461 : rn G mm_Law_law 461 [a0, a1, a2, some (.int x)] st S P ↔ rn G mm_Law_law 462 [a0, a1, a2, some (.int x)] (.int x :: st) S P := rn_s dq_Law_law_461 rfl rfl rfl
theorem dq_Law_law_462 : decode (km_c mm_Law_law) 462 = .ok (.iconst 1, 1) := by decide +kernel
theorem sq_Law_law_462 : rn G mm_Law_law 462 lv st S P ↔ rn G mm_Law_law 463 lv (.int (nI 1) :: st) S P := rn_s dq_Law_law_462 rfl rfl rfl
theorem dq_Law_law_463 : decode (km_c mm_Law_law) 463 = .ok (.iadd, 1) := by decide +kernel
theorem sq_Law_law_463 : rn G mm_Law_law 463 lv (.int x2 :: .int x :: st) S P ↔ rn G mm_Law_law 464 lv (.int (x + x2) :: st) S P := rn_s dq_Law_law_463 rfl rfl rfl
theorem dq_Law_law_464 : decode (km_c mm_Law_law) 464 = .ok (.iaload, 1) := by decide +kernel
theorem sq_Law_law_464 (ho : sx_o o pl kp) (hk : ak L a = 0) (hu : sx_up pl kp a = true ∨ 1000 ≤ a) (hc : c < ln L a) (hn : ln L a < 2 ^ 31) : rn (lt_G o L) mm_Law_law 464 lv (.int (nI c) :: .ref a :: st) (sx pl kp I A) P ↔ rn (lt_G o L) mm_Law_law 465 lv (.int (A a c) :: st) (sx pl kp I A) P := rx_ild dq_Law_law_464 ho hk hu hc hn
theorem dq_Law_law_465 : decode (km_c mm_Law_law) 465 = .ok (.aload_n 0, 1) := by decide +kernel
theorem sq_Law_law_465 : rn G mm_Law_law 465 [some (.ref z), a1, a2, a3] st S P ↔ rn G mm_Law_law 466 [some (.ref z), a1, a2, a3] (.ref z :: st) S P := rn_s dq_Law_law_465 rfl rfl rfl
theorem dq_Law_law_466 : decode (km_c mm_Law_law) 466 = .ok (.iload_n 3, 1) := by decide +kernel
theorem sq_Law_law_466 : rn G mm_Law_law 466 [a0, a1, a2, some (.int x)] st S P ↔ rn G mm_Law_law 467 [a0, a1, a2, some (.int x)] (.int x :: st) S P := rn_s dq_Law_law_466 rfl rfl rfl
theorem dq_Law_law_467 : decode (km_c mm_Law_law) 467 = .ok (.iconst 2, 1) := by decide +kernel
theorem sq_Law_law_467 : rn G mm_Law_law 467 lv st S P ↔ rn G mm_Law_law 468 lv (.int (nI 2) :: st) S P := rn_s dq_Law_law_467 rfl rfl rfl
theorem dq_Law_law_468 : decode (km_c mm_Law_law) 468 = .ok (.iadd, 1) := by decide +kernel
theorem sq_Law_law_468 : rn G mm_Law_law 468 lv (.int x2 :: .int x :: st) S P ↔ rn G mm_Law_law 469 lv (.int (x + x2) :: st) S P := rn_s dq_Law_law_468 rfl rfl rfl
theorem dq_Law_law_469 : decode (km_c mm_Law_law) 469 = .ok (.iaload, 1) := by decide +kernel
theorem sq_Law_law_469 (ho : sx_o o pl kp) (hk : ak L a = 0) (hu : sx_up pl kp a = true ∨ 1000 ≤ a) (hc : c < ln L a) (hn : ln L a < 2 ^ 31) : rn (lt_G o L) mm_Law_law 469 lv (.int (nI c) :: .ref a :: st) (sx pl kp I A) P ↔ rn (lt_G o L) mm_Law_law 470 lv (.int (A a c) :: st) (sx pl kp I A) P := rx_ild dq_Law_law_469 ho hk hu hc hn
theorem dq_Law_law_470 : decode (km_c mm_Law_law) 470 = .ok (.invokevirtual 59, 3) := by decide +kernel
theorem sq_Law_law_470_45 {x1 : Int32} {x2 : Int32} {v : Option Value} {S2 : ks_S} (hc : ev (lt_G o L) mm_Model_of [.ref 45, .int x1, .int x2] (sx pl kp I A) v S2) (ho : sx_o o pl kp) (hst : kx_cat st ≤ 8) : rn (lt_G o L) mm_Law_law 470 lv (.int x2 :: .int x1 :: .ref 45 :: st) (sx pl kp I A) P ↔ rn (lt_G o L) mm_Law_law 473 lv (v.toList ++ st) S2 P := rn_cv (k := 0) (host := "") (E' := mm_Model_of) dq_Law_law_470 rfl (ok_v rfl (by decide) (by decide) (Nat.le_add_left _ _) hst (Nat.le_of_ble_eq_true rfl) (Or.inr (rc_v ho (up_b (by decide)) rfl))) rfl rfl hc
theorem dq_Law_law_473 : decode (km_c mm_Law_law) 473 = .ok (.if_icmp .eq 701, 3) := by decide +kernel
theorem sq_Law_law_473 : rn G mm_Law_law 473 lv (.int x2 :: .int x :: st) S P ↔ ((x = x2 → rn G mm_Law_law 1174 lv st S P) ∧ (¬ (x = x2) → rn G mm_Law_law 476 lv st S P)) := rn_b (off := 701) dq_Law_law_473 rfl rfl rfl rfl
theorem dq_Law_law_476 : decode (km_c mm_Law_law) 476 = .ok (.iconst 0, 1) := by decide +kernel
theorem sq_Law_law_476 : rn G mm_Law_law 476 lv st S P ↔ rn G mm_Law_law 477 lv (.int (nI 0) :: st) S P := rn_s dq_Law_law_476 rfl rfl rfl
theorem dq_Law_law_477 : decode (km_c mm_Law_law) 477 = .ok (.ireturn, 1) := by decide +kernel
theorem sq_Law_law_477_0 : rn G mm_Law_law 477 lv [.int (nI 0)] S P ↔ P (some (.int (nI 0))) S := rn_ir dq_Law_law_477 (by decide)
theorem sq_Law_law_477_1 : rn G mm_Law_law 477 lv [.int (nI 1)] S P ↔ P (some (.int (nI 1))) S := rn_ir dq_Law_law_477 (by decide)
theorem dq_Law_law_478 : decode (km_c mm_Law_law) 478 = .ok (.aload_n 1, 1) := by decide +kernel
theorem sq_Law_law_478 : rn G mm_Law_law 478 [a0, some (.ref z), a2, a3] st S P ↔ rn G mm_Law_law 479 [a0, some (.ref z), a2, a3] (.ref z :: st) S P := rn_s dq_Law_law_478 rfl rfl rfl
theorem dq_Law_law_479 : decode (km_c mm_Law_law) 479 = .ok (.aload_n 0, 1) := by decide +kernel
theorem sq_Law_law_479 : rn G mm_Law_law 479 [some (.ref z), a1, a2, a3] st S P ↔ rn G mm_Law_law 480 [some (.ref z), a1, a2, a3] (.ref z :: st) S P := rn_s dq_Law_law_479 rfl rfl rfl
theorem dq_Law_law_480 : decode (km_c mm_Law_law) 480 = .ok (.iload_n 3, 1) := by decide +kernel
theorem sq_Law_law_480 : rn G mm_Law_law 480 [a0, a1, a2, some (.int x)] st S P ↔ rn G mm_Law_law 481 [a0, a1, a2, some (.int x)] (.int x :: st) S P := rn_s dq_Law_law_480 rfl rfl rfl
theorem dq_Law_law_481 : decode (km_c mm_Law_law) 481 = .ok (.iconst 1, 1) := by decide +kernel
theorem sq_Law_law_481 : rn G mm_Law_law 481 lv st S P ↔ rn G mm_Law_law 482 lv (.int (nI 1) :: st) S P := rn_s dq_Law_law_481 rfl rfl rfl
theorem dq_Law_law_482 : decode (km_c mm_Law_law) 482 = .ok (.iadd, 1) := by decide +kernel
theorem sq_Law_law_482 : rn G mm_Law_law 482 lv (.int x2 :: .int x :: st) S P ↔ rn G mm_Law_law 483 lv (.int (x + x2) :: st) S P := rn_s dq_Law_law_482 rfl rfl rfl
theorem dq_Law_law_483 : decode (km_c mm_Law_law) 483 = .ok (.iaload, 1) := by decide +kernel
theorem sq_Law_law_483 (ho : sx_o o pl kp) (hk : ak L a = 0) (hu : sx_up pl kp a = true ∨ 1000 ≤ a) (hc : c < ln L a) (hn : ln L a < 2 ^ 31) : rn (lt_G o L) mm_Law_law 483 lv (.int (nI c) :: .ref a :: st) (sx pl kp I A) P ↔ rn (lt_G o L) mm_Law_law 484 lv (.int (A a c) :: st) (sx pl kp I A) P := rx_ild dq_Law_law_483 ho hk hu hc hn
theorem dq_Law_law_484 : decode (km_c mm_Law_law) 484 = .ok (.aload_n 0, 1) := by decide +kernel
theorem sq_Law_law_484 : rn G mm_Law_law 484 [some (.ref z), a1, a2, a3] st S P ↔ rn G mm_Law_law 485 [some (.ref z), a1, a2, a3] (.ref z :: st) S P := rn_s dq_Law_law_484 rfl rfl rfl
theorem dq_Law_law_485 : decode (km_c mm_Law_law) 485 = .ok (.iload_n 3, 1) := by decide +kernel
theorem sq_Law_law_485 : rn G mm_Law_law 485 [a0, a1, a2, some (.int x)] st S P ↔ rn G mm_Law_law 486 [a0, a1, a2, some (.int x)] (.int x :: st) S P := rn_s dq_Law_law_485 rfl rfl rfl
theorem dq_Law_law_486 : decode (km_c mm_Law_law) 486 = .ok (.iconst 2, 1) := by decide +kernel
theorem sq_Law_law_486 : rn G mm_Law_law 486 lv st S P ↔ rn G mm_Law_law 487 lv (.int (nI 2) :: st) S P := rn_s dq_Law_law_486 rfl rfl rfl
theorem dq_Law_law_487 : decode (km_c mm_Law_law) 487 = .ok (.iadd, 1) := by decide +kernel
theorem sq_Law_law_487 : rn G mm_Law_law 487 lv (.int x2 :: .int x :: st) S P ↔ rn G mm_Law_law 488 lv (.int (x + x2) :: st) S P := rn_s dq_Law_law_487 rfl rfl rfl
theorem dq_Law_law_488 : decode (km_c mm_Law_law) 488 = .ok (.iaload, 1) := by decide +kernel
theorem sq_Law_law_488 (ho : sx_o o pl kp) (hk : ak L a = 0) (hu : sx_up pl kp a = true ∨ 1000 ≤ a) (hc : c < ln L a) (hn : ln L a < 2 ^ 31) : rn (lt_G o L) mm_Law_law 488 lv (.int (nI c) :: .ref a :: st) (sx pl kp I A) P ↔ rn (lt_G o L) mm_Law_law 489 lv (.int (A a c) :: st) (sx pl kp I A) P := rx_ild dq_Law_law_488 ho hk hu hc hn
theorem dq_Law_law_489 : decode (km_c mm_Law_law) 489 = .ok (.invokevirtual 60, 3) := by decide +kernel
theorem sq_Law_law_489_0 {x1 : Int32} {x2 : Int32} {v : Option Value} {S2 : ks_S} (hc : ev (lt_G o L) mm_Road_ends [.ref 0, .int x1, .int x2] (sx pl kp I A) v S2) (ho : sx_o o pl kp) (hst : kx_cat st ≤ 8) : rn (lt_G o L) mm_Law_law 489 lv (.int x2 :: .int x1 :: .ref 0 :: st) (sx pl kp I A) P ↔ rn (lt_G o L) mm_Law_law 492 lv (v.toList ++ st) S2 P := rn_cv (k := 0) (host := "") (E' := mm_Road_ends) dq_Law_law_489 rfl (ok_v rfl (by decide) (by decide) (Nat.le_add_left _ _) hst (Nat.le_of_ble_eq_true rfl) (Or.inr (rc_v ho (up_b (by decide)) rfl))) rfl rfl hc
theorem dq_Law_law_492 : decode (km_c mm_Law_law) 492 = .ok (.aload_n 2, 1) := by decide +kernel
theorem sq_Law_law_492 : rn G mm_Law_law 492 [a0, a1, some (.ref z), a3] st S P ↔ rn G mm_Law_law 493 [a0, a1, some (.ref z), a3] (.ref z :: st) S P := rn_s dq_Law_law_492 rfl rfl rfl
theorem dq_Law_law_493 : decode (km_c mm_Law_law) 493 = .ok (.aload_n 0, 1) := by decide +kernel
theorem sq_Law_law_493 : rn G mm_Law_law 493 [some (.ref z), a1, a2, a3] st S P ↔ rn G mm_Law_law 494 [some (.ref z), a1, a2, a3] (.ref z :: st) S P := rn_s dq_Law_law_493 rfl rfl rfl
theorem dq_Law_law_494 : decode (km_c mm_Law_law) 494 = .ok (.iload_n 3, 1) := by decide +kernel
theorem sq_Law_law_494 : rn G mm_Law_law 494 [a0, a1, a2, some (.int x)] st S P ↔ rn G mm_Law_law 495 [a0, a1, a2, some (.int x)] (.int x :: st) S P := rn_s dq_Law_law_494 rfl rfl rfl
theorem dq_Law_law_495 : decode (km_c mm_Law_law) 495 = .ok (.iconst 1, 1) := by decide +kernel
theorem sq_Law_law_495 : rn G mm_Law_law 495 lv st S P ↔ rn G mm_Law_law 496 lv (.int (nI 1) :: st) S P := rn_s dq_Law_law_495 rfl rfl rfl
theorem dq_Law_law_496 : decode (km_c mm_Law_law) 496 = .ok (.iadd, 1) := by decide +kernel
theorem sq_Law_law_496 : rn G mm_Law_law 496 lv (.int x2 :: .int x :: st) S P ↔ rn G mm_Law_law 497 lv (.int (x + x2) :: st) S P := rn_s dq_Law_law_496 rfl rfl rfl
theorem dq_Law_law_497 : decode (km_c mm_Law_law) 497 = .ok (.iaload, 1) := by decide +kernel
theorem sq_Law_law_497 (ho : sx_o o pl kp) (hk : ak L a = 0) (hu : sx_up pl kp a = true ∨ 1000 ≤ a) (hc : c < ln L a) (hn : ln L a < 2 ^ 31) : rn (lt_G o L) mm_Law_law 497 lv (.int (nI c) :: .ref a :: st) (sx pl kp I A) P ↔ rn (lt_G o L) mm_Law_law 498 lv (.int (A a c) :: st) (sx pl kp I A) P := rx_ild dq_Law_law_497 ho hk hu hc hn
theorem dq_Law_law_498 : decode (km_c mm_Law_law) 498 = .ok (.aload_n 0, 1) := by decide +kernel
theorem sq_Law_law_498 : rn G mm_Law_law 498 [some (.ref z), a1, a2, a3] st S P ↔ rn G mm_Law_law 499 [some (.ref z), a1, a2, a3] (.ref z :: st) S P := rn_s dq_Law_law_498 rfl rfl rfl
theorem dq_Law_law_499 : decode (km_c mm_Law_law) 499 = .ok (.iload_n 3, 1) := by decide +kernel
theorem sq_Law_law_499 : rn G mm_Law_law 499 [a0, a1, a2, some (.int x)] st S P ↔ rn G mm_Law_law 500 [a0, a1, a2, some (.int x)] (.int x :: st) S P := rn_s dq_Law_law_499 rfl rfl rfl
theorem dq_Law_law_500 : decode (km_c mm_Law_law) 500 = .ok (.iconst 2, 1) := by decide +kernel
theorem sq_Law_law_500 : rn G mm_Law_law 500 lv st S P ↔ rn G mm_Law_law 501 lv (.int (nI 2) :: st) S P := rn_s dq_Law_law_500 rfl rfl rfl
theorem dq_Law_law_501 : decode (km_c mm_Law_law) 501 = .ok (.iadd, 1) := by decide +kernel
theorem sq_Law_law_501 : rn G mm_Law_law 501 lv (.int x2 :: .int x :: st) S P ↔ rn G mm_Law_law 502 lv (.int (x + x2) :: st) S P := rn_s dq_Law_law_501 rfl rfl rfl
theorem dq_Law_law_502 : decode (km_c mm_Law_law) 502 = .ok (.iaload, 1) := by decide +kernel
theorem sq_Law_law_502 (ho : sx_o o pl kp) (hk : ak L a = 0) (hu : sx_up pl kp a = true ∨ 1000 ≤ a) (hc : c < ln L a) (hn : ln L a < 2 ^ 31) : rn (lt_G o L) mm_Law_law 502 lv (.int (nI c) :: .ref a :: st) (sx pl kp I A) P ↔ rn (lt_G o L) mm_Law_law 503 lv (.int (A a c) :: st) (sx pl kp I A) P := rx_ild dq_Law_law_502 ho hk hu hc hn
theorem dq_Law_law_503 : decode (km_c mm_Law_law) 503 = .ok (.invokevirtual 63, 3) := by decide +kernel
theorem sq_Law_law_503_45 {x1 : Int32} {x2 : Int32} {v : Option Value} {S2 : ks_S} (hc : ev (lt_G o L) mm_Model_ends [.ref 45, .int x1, .int x2] (sx pl kp I A) v S2) (ho : sx_o o pl kp) (hst : kx_cat st ≤ 8) : rn (lt_G o L) mm_Law_law 503 lv (.int x2 :: .int x1 :: .ref 45 :: st) (sx pl kp I A) P ↔ rn (lt_G o L) mm_Law_law 506 lv (v.toList ++ st) S2 P := rn_cv (k := 0) (host := "") (E' := mm_Model_ends) dq_Law_law_503 rfl (ok_v rfl (by decide) (by decide) (Nat.le_add_left _ _) hst (Nat.le_of_ble_eq_true rfl) (Or.inr (rc_v ho (up_b (by decide)) rfl))) rfl rfl hc
theorem dq_Law_law_506 : decode (km_c mm_Law_law) 506 = .ok (.if_icmp .eq 668, 3) := by decide +kernel
theorem sq_Law_law_506 : rn G mm_Law_law 506 lv (.int x2 :: .int x :: st) S P ↔ ((x = x2 → rn G mm_Law_law 1174 lv st S P) ∧ (¬ (x = x2) → rn G mm_Law_law 509 lv st S P)) := rn_b (off := 668) dq_Law_law_506 rfl rfl rfl rfl
theorem dq_Law_law_509 : decode (km_c mm_Law_law) 509 = .ok (.iconst 0, 1) := by decide +kernel
theorem sq_Law_law_509 : rn G mm_Law_law 509 lv st S P ↔ rn G mm_Law_law 510 lv (.int (nI 0) :: st) S P := rn_s dq_Law_law_509 rfl rfl rfl
theorem dq_Law_law_510 : decode (km_c mm_Law_law) 510 = .ok (.ireturn, 1) := by decide +kernel
theorem sq_Law_law_510_0 : rn G mm_Law_law 510 lv [.int (nI 0)] S P ↔ P (some (.int (nI 0))) S := rn_ir dq_Law_law_510 (by decide)
theorem sq_Law_law_510_1 : rn G mm_Law_law 510 lv [.int (nI 1)] S P ↔ P (some (.int (nI 1))) S := rn_ir dq_Law_law_510 (by decide)
theorem dq_Law_law_511 : decode (km_c mm_Law_law) 511 = .ok (.aload_n 1, 1) := by decide +kernel
theorem sq_Law_law_511 : rn G mm_Law_law 511 [a0, some (.ref z), a2, a3] st S P ↔ rn G mm_Law_law 512 [a0, some (.ref z), a2, a3] (.ref z :: st) S P := rn_s dq_Law_law_511 rfl rfl rfl
theorem dq_Law_law_512 : decode (km_c mm_Law_law) 512 = .ok (.aload_n 0, 1) := by decide +kernel
theorem sq_Law_law_512 : rn G mm_Law_law 512 [some (.ref z), a1, a2, a3] st S P ↔ rn G mm_Law_law 513 [some (.ref z), a1, a2, a3] (.ref z :: st) S P := rn_s dq_Law_law_512 rfl rfl rfl
theorem dq_Law_law_513 : decode (km_c mm_Law_law) 513 = .ok (.iload_n 3, 1) := by decide +kernel
theorem sq_Law_law_513 : rn G mm_Law_law 513 [a0, a1, a2, some (.int x)] st S P ↔ rn G mm_Law_law 514 [a0, a1, a2, some (.int x)] (.int x :: st) S P := rn_s dq_Law_law_513 rfl rfl rfl
theorem dq_Law_law_514 : decode (km_c mm_Law_law) 514 = .ok (.iconst 1, 1) := by decide +kernel
theorem sq_Law_law_514 : rn G mm_Law_law 514 lv st S P ↔ rn G mm_Law_law 515 lv (.int (nI 1) :: st) S P := rn_s dq_Law_law_514 rfl rfl rfl
theorem dq_Law_law_515 : decode (km_c mm_Law_law) 515 = .ok (.iadd, 1) := by decide +kernel
theorem sq_Law_law_515 : rn G mm_Law_law 515 lv (.int x2 :: .int x :: st) S P ↔ rn G mm_Law_law 516 lv (.int (x + x2) :: st) S P := rn_s dq_Law_law_515 rfl rfl rfl
theorem dq_Law_law_516 : decode (km_c mm_Law_law) 516 = .ok (.iaload, 1) := by decide +kernel
theorem sq_Law_law_516 (ho : sx_o o pl kp) (hk : ak L a = 0) (hu : sx_up pl kp a = true ∨ 1000 ≤ a) (hc : c < ln L a) (hn : ln L a < 2 ^ 31) : rn (lt_G o L) mm_Law_law 516 lv (.int (nI c) :: .ref a :: st) (sx pl kp I A) P ↔ rn (lt_G o L) mm_Law_law 517 lv (.int (A a c) :: st) (sx pl kp I A) P := rx_ild dq_Law_law_516 ho hk hu hc hn
theorem dq_Law_law_517 : decode (km_c mm_Law_law) 517 = .ok (.invokevirtual 64, 3) := by decide +kernel
theorem sq_Law_law_517_0 {x1 : Int32} {v : Option Value} {S2 : ks_S} (hc : ev (lt_G o L) mm_Road_cheapest [.ref 0, .int x1] (sx pl kp I A) v S2) (ho : sx_o o pl kp) (hst : kx_cat st ≤ 8) : rn (lt_G o L) mm_Law_law 517 lv (.int x1 :: .ref 0 :: st) (sx pl kp I A) P ↔ rn (lt_G o L) mm_Law_law 520 lv (v.toList ++ st) S2 P := rn_cv (k := 0) (host := "") (E' := mm_Road_cheapest) dq_Law_law_517 rfl (ok_v rfl (by decide) (by decide) (Nat.le_add_left _ _) hst (Nat.le_of_ble_eq_true rfl) (Or.inr (rc_v ho (up_b (by decide)) rfl))) rfl rfl hc
theorem dq_Law_law_520 : decode (km_c mm_Law_law) 520 = .ok (.aload_n 2, 1) := by decide +kernel
theorem sq_Law_law_520 : rn G mm_Law_law 520 [a0, a1, some (.ref z), a3] st S P ↔ rn G mm_Law_law 521 [a0, a1, some (.ref z), a3] (.ref z :: st) S P := rn_s dq_Law_law_520 rfl rfl rfl
theorem dq_Law_law_521 : decode (km_c mm_Law_law) 521 = .ok (.aload_n 0, 1) := by decide +kernel
theorem sq_Law_law_521 : rn G mm_Law_law 521 [some (.ref z), a1, a2, a3] st S P ↔ rn G mm_Law_law 522 [some (.ref z), a1, a2, a3] (.ref z :: st) S P := rn_s dq_Law_law_521 rfl rfl rfl
theorem dq_Law_law_522 : decode (km_c mm_Law_law) 522 = .ok (.iload_n 3, 1) := by decide +kernel
theorem sq_Law_law_522 : rn G mm_Law_law 522 [a0, a1, a2, some (.int x)] st S P ↔ rn G mm_Law_law 523 [a0, a1, a2, some (.int x)] (.int x :: st) S P := rn_s dq_Law_law_522 rfl rfl rfl
theorem dq_Law_law_523 : decode (km_c mm_Law_law) 523 = .ok (.iconst 1, 1) := by decide +kernel
theorem sq_Law_law_523 : rn G mm_Law_law 523 lv st S P ↔ rn G mm_Law_law 524 lv (.int (nI 1) :: st) S P := rn_s dq_Law_law_523 rfl rfl rfl
theorem dq_Law_law_524 : decode (km_c mm_Law_law) 524 = .ok (.iadd, 1) := by decide +kernel
theorem sq_Law_law_524 : rn G mm_Law_law 524 lv (.int x2 :: .int x :: st) S P ↔ rn G mm_Law_law 525 lv (.int (x + x2) :: st) S P := rn_s dq_Law_law_524 rfl rfl rfl
theorem dq_Law_law_525 : decode (km_c mm_Law_law) 525 = .ok (.iaload, 1) := by decide +kernel
theorem sq_Law_law_525 (ho : sx_o o pl kp) (hk : ak L a = 0) (hu : sx_up pl kp a = true ∨ 1000 ≤ a) (hc : c < ln L a) (hn : ln L a < 2 ^ 31) : rn (lt_G o L) mm_Law_law 525 lv (.int (nI c) :: .ref a :: st) (sx pl kp I A) P ↔ rn (lt_G o L) mm_Law_law 526 lv (.int (A a c) :: st) (sx pl kp I A) P := rx_ild dq_Law_law_525 ho hk hu hc hn
theorem dq_Law_law_526 : decode (km_c mm_Law_law) 526 = .ok (.invokevirtual 67, 3) := by decide +kernel
theorem sq_Law_law_526_45 {x1 : Int32} {v : Option Value} {S2 : ks_S} (hc : ev (lt_G o L) mm_Model_cheapest [.ref 45, .int x1] (sx pl kp I A) v S2) (ho : sx_o o pl kp) (hst : kx_cat st ≤ 8) : rn (lt_G o L) mm_Law_law 526 lv (.int x1 :: .ref 45 :: st) (sx pl kp I A) P ↔ rn (lt_G o L) mm_Law_law 529 lv (v.toList ++ st) S2 P := rn_cv (k := 0) (host := "") (E' := mm_Model_cheapest) dq_Law_law_526 rfl (ok_v rfl (by decide) (by decide) (Nat.le_add_left _ _) hst (Nat.le_of_ble_eq_true rfl) (Or.inr (rc_v ho (up_b (by decide)) rfl))) rfl rfl hc
theorem dq_Law_law_529 : decode (km_c mm_Law_law) 529 = .ok (.if_icmp .eq 645, 3) := by decide +kernel
theorem sq_Law_law_529 : rn G mm_Law_law 529 lv (.int x2 :: .int x :: st) S P ↔ ((x = x2 → rn G mm_Law_law 1174 lv st S P) ∧ (¬ (x = x2) → rn G mm_Law_law 532 lv st S P)) := rn_b (off := 645) dq_Law_law_529 rfl rfl rfl rfl
theorem dq_Law_law_532 : decode (km_c mm_Law_law) 532 = .ok (.iconst 0, 1) := by decide +kernel
theorem sq_Law_law_532 : rn G mm_Law_law 532 lv st S P ↔ rn G mm_Law_law 533 lv (.int (nI 0) :: st) S P := rn_s dq_Law_law_532 rfl rfl rfl
theorem dq_Law_law_533 : decode (km_c mm_Law_law) 533 = .ok (.ireturn, 1) := by decide +kernel
theorem sq_Law_law_533_0 : rn G mm_Law_law 533 lv [.int (nI 0)] S P ↔ P (some (.int (nI 0))) S := rn_ir dq_Law_law_533 (by decide)
theorem sq_Law_law_533_1 : rn G mm_Law_law 533 lv [.int (nI 1)] S P ↔ P (some (.int (nI 1))) S := rn_ir dq_Law_law_533 (by decide)
theorem dq_Law_law_534 : decode (km_c mm_Law_law) 534 = .ok (.aload_n 1, 1) := by decide +kernel
theorem sq_Law_law_534 : rn G mm_Law_law 534 [a0, some (.ref z), a2, a3] st S P ↔ rn G mm_Law_law 535 [a0, some (.ref z), a2, a3] (.ref z :: st) S P := rn_s dq_Law_law_534 rfl rfl rfl
theorem dq_Law_law_535 : decode (km_c mm_Law_law) 535 = .ok (.aload_n 0, 1) := by decide +kernel
theorem sq_Law_law_535 : rn G mm_Law_law 535 [some (.ref z), a1, a2, a3] st S P ↔ rn G mm_Law_law 536 [some (.ref z), a1, a2, a3] (.ref z :: st) S P := rn_s dq_Law_law_535 rfl rfl rfl
theorem dq_Law_law_536 : decode (km_c mm_Law_law) 536 = .ok (.iload_n 3, 1) := by decide +kernel
theorem sq_Law_law_536 : rn G mm_Law_law 536 [a0, a1, a2, some (.int x)] st S P ↔ rn G mm_Law_law 537 [a0, a1, a2, some (.int x)] (.int x :: st) S P := rn_s dq_Law_law_536 rfl rfl rfl
theorem dq_Law_law_537 : decode (km_c mm_Law_law) 537 = .ok (.iconst 1, 1) := by decide +kernel
theorem sq_Law_law_537 : rn G mm_Law_law 537 lv st S P ↔ rn G mm_Law_law 538 lv (.int (nI 1) :: st) S P := rn_s dq_Law_law_537 rfl rfl rfl
theorem dq_Law_law_538 : decode (km_c mm_Law_law) 538 = .ok (.iadd, 1) := by decide +kernel
theorem sq_Law_law_538 : rn G mm_Law_law 538 lv (.int x2 :: .int x :: st) S P ↔ rn G mm_Law_law 539 lv (.int (x + x2) :: st) S P := rn_s dq_Law_law_538 rfl rfl rfl
theorem dq_Law_law_539 : decode (km_c mm_Law_law) 539 = .ok (.iaload, 1) := by decide +kernel
theorem sq_Law_law_539 (ho : sx_o o pl kp) (hk : ak L a = 0) (hu : sx_up pl kp a = true ∨ 1000 ≤ a) (hc : c < ln L a) (hn : ln L a < 2 ^ 31) : rn (lt_G o L) mm_Law_law 539 lv (.int (nI c) :: .ref a :: st) (sx pl kp I A) P ↔ rn (lt_G o L) mm_Law_law 540 lv (.int (A a c) :: st) (sx pl kp I A) P := rx_ild dq_Law_law_539 ho hk hu hc hn
theorem dq_Law_law_540 : decode (km_c mm_Law_law) 540 = .ok (.invokevirtual 68, 3) := by decide +kernel
theorem sq_Law_law_540_0 {x1 : Int32} {v : Option Value} {S2 : ks_S} (hc : ev (lt_G o L) mm_Road_worth [.ref 0, .int x1] (sx pl kp I A) v S2) (ho : sx_o o pl kp) (hst : kx_cat st ≤ 8) : rn (lt_G o L) mm_Law_law 540 lv (.int x1 :: .ref 0 :: st) (sx pl kp I A) P ↔ rn (lt_G o L) mm_Law_law 543 lv (v.toList ++ st) S2 P := rn_cv (k := 0) (host := "") (E' := mm_Road_worth) dq_Law_law_540 rfl (ok_v rfl (by decide) (by decide) (Nat.le_add_left _ _) hst (Nat.le_of_ble_eq_true rfl) (Or.inr (rc_v ho (up_b (by decide)) rfl))) rfl rfl hc
theorem dq_Law_law_543 : decode (km_c mm_Law_law) 543 = .ok (.aload_n 2, 1) := by decide +kernel
theorem sq_Law_law_543 : rn G mm_Law_law 543 [a0, a1, some (.ref z), a3] st S P ↔ rn G mm_Law_law 544 [a0, a1, some (.ref z), a3] (.ref z :: st) S P := rn_s dq_Law_law_543 rfl rfl rfl
theorem dq_Law_law_544 : decode (km_c mm_Law_law) 544 = .ok (.aload_n 0, 1) := by decide +kernel
theorem sq_Law_law_544 : rn G mm_Law_law 544 [some (.ref z), a1, a2, a3] st S P ↔ rn G mm_Law_law 545 [some (.ref z), a1, a2, a3] (.ref z :: st) S P := rn_s dq_Law_law_544 rfl rfl rfl
theorem dq_Law_law_545 : decode (km_c mm_Law_law) 545 = .ok (.iload_n 3, 1) := by decide +kernel
theorem sq_Law_law_545 : rn G mm_Law_law 545 [a0, a1, a2, some (.int x)] st S P ↔ rn G mm_Law_law 546 [a0, a1, a2, some (.int x)] (.int x :: st) S P := rn_s dq_Law_law_545 rfl rfl rfl
theorem dq_Law_law_546 : decode (km_c mm_Law_law) 546 = .ok (.iconst 1, 1) := by decide +kernel
theorem sq_Law_law_546 : rn G mm_Law_law 546 lv st S P ↔ rn G mm_Law_law 547 lv (.int (nI 1) :: st) S P := rn_s dq_Law_law_546 rfl rfl rfl
theorem dq_Law_law_547 : decode (km_c mm_Law_law) 547 = .ok (.iadd, 1) := by decide +kernel
theorem sq_Law_law_547 : rn G mm_Law_law 547 lv (.int x2 :: .int x :: st) S P ↔ rn G mm_Law_law 548 lv (.int (x + x2) :: st) S P := rn_s dq_Law_law_547 rfl rfl rfl
theorem dq_Law_law_548 : decode (km_c mm_Law_law) 548 = .ok (.iaload, 1) := by decide +kernel
theorem sq_Law_law_548 (ho : sx_o o pl kp) (hk : ak L a = 0) (hu : sx_up pl kp a = true ∨ 1000 ≤ a) (hc : c < ln L a) (hn : ln L a < 2 ^ 31) : rn (lt_G o L) mm_Law_law 548 lv (.int (nI c) :: .ref a :: st) (sx pl kp I A) P ↔ rn (lt_G o L) mm_Law_law 549 lv (.int (A a c) :: st) (sx pl kp I A) P := rx_ild dq_Law_law_548 ho hk hu hc hn
theorem dq_Law_law_549 : decode (km_c mm_Law_law) 549 = .ok (.invokevirtual 71, 3) := by decide +kernel
theorem sq_Law_law_549_45 {x1 : Int32} {v : Option Value} {S2 : ks_S} (hc : ev (lt_G o L) mm_Model_worth [.ref 45, .int x1] (sx pl kp I A) v S2) (ho : sx_o o pl kp) (hst : kx_cat st ≤ 8) : rn (lt_G o L) mm_Law_law 549 lv (.int x1 :: .ref 45 :: st) (sx pl kp I A) P ↔ rn (lt_G o L) mm_Law_law 552 lv (v.toList ++ st) S2 P := rn_cv (k := 0) (host := "") (E' := mm_Model_worth) dq_Law_law_549 rfl (ok_v rfl (by decide) (by decide) (Nat.le_add_left _ _) hst (Nat.le_of_ble_eq_true rfl) (Or.inr (rc_v ho (up_b (by decide)) rfl))) rfl rfl hc
theorem dq_Law_law_552 : decode (km_c mm_Law_law) 552 = .ok (.if_icmp .eq 622, 3) := by decide +kernel
theorem sq_Law_law_552 : rn G mm_Law_law 552 lv (.int x2 :: .int x :: st) S P ↔ ((x = x2 → rn G mm_Law_law 1174 lv st S P) ∧ (¬ (x = x2) → rn G mm_Law_law 555 lv st S P)) := rn_b (off := 622) dq_Law_law_552 rfl rfl rfl rfl
theorem dq_Law_law_555 : decode (km_c mm_Law_law) 555 = .ok (.iconst 0, 1) := by decide +kernel
theorem sq_Law_law_555 : rn G mm_Law_law 555 lv st S P ↔ rn G mm_Law_law 556 lv (.int (nI 0) :: st) S P := rn_s dq_Law_law_555 rfl rfl rfl
theorem dq_Law_law_556 : decode (km_c mm_Law_law) 556 = .ok (.ireturn, 1) := by decide +kernel
theorem sq_Law_law_556_0 : rn G mm_Law_law 556 lv [.int (nI 0)] S P ↔ P (some (.int (nI 0))) S := rn_ir dq_Law_law_556 (by decide)
theorem sq_Law_law_556_1 : rn G mm_Law_law 556 lv [.int (nI 1)] S P ↔ P (some (.int (nI 1))) S := rn_ir dq_Law_law_556 (by decide)
theorem dq_Law_law_557 : decode (km_c mm_Law_law) 557 = .ok (.aload_n 1, 1) := by decide +kernel
theorem sq_Law_law_557 : rn G mm_Law_law 557 [a0, some (.ref z), a2, a3] st S P ↔ rn G mm_Law_law 558 [a0, some (.ref z), a2, a3] (.ref z :: st) S P := rn_s dq_Law_law_557 rfl rfl rfl
theorem dq_Law_law_558 : decode (km_c mm_Law_law) 558 = .ok (.invokevirtual 72, 3) := by decide +kernel
theorem sq_Law_law_558_0  {v : Option Value} {S2 : ks_S} (hc : ev (lt_G o L) mm_Road_vote [.ref 0] (sx pl kp I A) v S2) (ho : sx_o o pl kp) (hst : kx_cat st ≤ 8) : rn (lt_G o L) mm_Law_law 558 lv (.ref 0 :: st) (sx pl kp I A) P ↔ rn (lt_G o L) mm_Law_law 561 lv (v.toList ++ st) S2 P := rn_cv (k := 0) (host := "") (E' := mm_Road_vote) dq_Law_law_558 rfl (ok_v rfl (by decide) (by decide) (Nat.le_add_left _ _) hst (Nat.le_of_ble_eq_true rfl) (Or.inr (rc_v ho (up_b (by decide)) rfl))) rfl rfl hc
theorem dq_Law_law_561 : decode (km_c mm_Law_law) 561 = .ok (.aload_n 2, 1) := by decide +kernel
theorem sq_Law_law_561 : rn G mm_Law_law 561 [a0, a1, some (.ref z), a3] st S P ↔ rn G mm_Law_law 562 [a0, a1, some (.ref z), a3] (.ref z :: st) S P := rn_s dq_Law_law_561 rfl rfl rfl
theorem dq_Law_law_562 : decode (km_c mm_Law_law) 562 = .ok (.invokevirtual 75, 3) := by decide +kernel
theorem sq_Law_law_562_45  {v : Option Value} {S2 : ks_S} (hc : ev (lt_G o L) mm_Model_vote [.ref 45] (sx pl kp I A) v S2) (ho : sx_o o pl kp) (hst : kx_cat st ≤ 8) : rn (lt_G o L) mm_Law_law 562 lv (.ref 45 :: st) (sx pl kp I A) P ↔ rn (lt_G o L) mm_Law_law 565 lv (v.toList ++ st) S2 P := rn_cv (k := 0) (host := "") (E' := mm_Model_vote) dq_Law_law_562 rfl (ok_v rfl (by decide) (by decide) (Nat.le_add_left _ _) hst (Nat.le_of_ble_eq_true rfl) (Or.inr (rc_v ho (up_b (by decide)) rfl))) rfl rfl hc
theorem dq_Law_law_565 : decode (km_c mm_Law_law) 565 = .ok (.if_icmp .eq 609, 3) := by decide +kernel
theorem sq_Law_law_565 : rn G mm_Law_law 565 lv (.int x2 :: .int x :: st) S P ↔ ((x = x2 → rn G mm_Law_law 1174 lv st S P) ∧ (¬ (x = x2) → rn G mm_Law_law 568 lv st S P)) := rn_b (off := 609) dq_Law_law_565 rfl rfl rfl rfl
theorem dq_Law_law_568 : decode (km_c mm_Law_law) 568 = .ok (.iconst 0, 1) := by decide +kernel
theorem sq_Law_law_568 : rn G mm_Law_law 568 lv st S P ↔ rn G mm_Law_law 569 lv (.int (nI 0) :: st) S P := rn_s dq_Law_law_568 rfl rfl rfl
theorem dq_Law_law_569 : decode (km_c mm_Law_law) 569 = .ok (.ireturn, 1) := by decide +kernel
theorem sq_Law_law_569_0 : rn G mm_Law_law 569 lv [.int (nI 0)] S P ↔ P (some (.int (nI 0))) S := rn_ir dq_Law_law_569 (by decide)
theorem sq_Law_law_569_1 : rn G mm_Law_law 569 lv [.int (nI 1)] S P ↔ P (some (.int (nI 1))) S := rn_ir dq_Law_law_569 (by decide)
theorem dq_Law_law_570 : decode (km_c mm_Law_law) 570 = .ok (.aload_n 1, 1) := by decide +kernel
theorem sq_Law_law_570 : rn G mm_Law_law 570 [a0, some (.ref z), a2, a3] st S P ↔ rn G mm_Law_law 571 [a0, some (.ref z), a2, a3] (.ref z :: st) S P := rn_s dq_Law_law_570 rfl rfl rfl
theorem dq_Law_law_571 : decode (km_c mm_Law_law) 571 = .ok (.aload_n 0, 1) := by decide +kernel
theorem sq_Law_law_571 : rn G mm_Law_law 571 [some (.ref z), a1, a2, a3] st S P ↔ rn G mm_Law_law 572 [some (.ref z), a1, a2, a3] (.ref z :: st) S P := rn_s dq_Law_law_571 rfl rfl rfl
theorem dq_Law_law_572 : decode (km_c mm_Law_law) 572 = .ok (.iload_n 3, 1) := by decide +kernel
theorem sq_Law_law_572 : rn G mm_Law_law 572 [a0, a1, a2, some (.int x)] st S P ↔ rn G mm_Law_law 573 [a0, a1, a2, some (.int x)] (.int x :: st) S P := rn_s dq_Law_law_572 rfl rfl rfl
theorem dq_Law_law_573 : decode (km_c mm_Law_law) 573 = .ok (.iconst 1, 1) := by decide +kernel
theorem sq_Law_law_573 : rn G mm_Law_law 573 lv st S P ↔ rn G mm_Law_law 574 lv (.int (nI 1) :: st) S P := rn_s dq_Law_law_573 rfl rfl rfl
theorem dq_Law_law_574 : decode (km_c mm_Law_law) 574 = .ok (.iadd, 1) := by decide +kernel
theorem sq_Law_law_574 : rn G mm_Law_law 574 lv (.int x2 :: .int x :: st) S P ↔ rn G mm_Law_law 575 lv (.int (x + x2) :: st) S P := rn_s dq_Law_law_574 rfl rfl rfl
theorem dq_Law_law_575 : decode (km_c mm_Law_law) 575 = .ok (.iaload, 1) := by decide +kernel
theorem sq_Law_law_575 (ho : sx_o o pl kp) (hk : ak L a = 0) (hu : sx_up pl kp a = true ∨ 1000 ≤ a) (hc : c < ln L a) (hn : ln L a < 2 ^ 31) : rn (lt_G o L) mm_Law_law 575 lv (.int (nI c) :: .ref a :: st) (sx pl kp I A) P ↔ rn (lt_G o L) mm_Law_law 576 lv (.int (A a c) :: st) (sx pl kp I A) P := rx_ild dq_Law_law_575 ho hk hu hc hn
theorem dq_Law_law_576 : decode (km_c mm_Law_law) 576 = .ok (.aload_n 0, 1) := by decide +kernel
theorem sq_Law_law_576 : rn G mm_Law_law 576 [some (.ref z), a1, a2, a3] st S P ↔ rn G mm_Law_law 577 [some (.ref z), a1, a2, a3] (.ref z :: st) S P := rn_s dq_Law_law_576 rfl rfl rfl
theorem dq_Law_law_577 : decode (km_c mm_Law_law) 577 = .ok (.iload_n 3, 1) := by decide +kernel
theorem sq_Law_law_577 : rn G mm_Law_law 577 [a0, a1, a2, some (.int x)] st S P ↔ rn G mm_Law_law 578 [a0, a1, a2, some (.int x)] (.int x :: st) S P := rn_s dq_Law_law_577 rfl rfl rfl
theorem dq_Law_law_578 : decode (km_c mm_Law_law) 578 = .ok (.iconst 2, 1) := by decide +kernel
theorem sq_Law_law_578 : rn G mm_Law_law 578 lv st S P ↔ rn G mm_Law_law 579 lv (.int (nI 2) :: st) S P := rn_s dq_Law_law_578 rfl rfl rfl
theorem dq_Law_law_579 : decode (km_c mm_Law_law) 579 = .ok (.iadd, 1) := by decide +kernel
theorem sq_Law_law_579 : rn G mm_Law_law 579 lv (.int x2 :: .int x :: st) S P ↔ rn G mm_Law_law 580 lv (.int (x + x2) :: st) S P := rn_s dq_Law_law_579 rfl rfl rfl
theorem dq_Law_law_580 : decode (km_c mm_Law_law) 580 = .ok (.iaload, 1) := by decide +kernel
theorem sq_Law_law_580 (ho : sx_o o pl kp) (hk : ak L a = 0) (hu : sx_up pl kp a = true ∨ 1000 ≤ a) (hc : c < ln L a) (hn : ln L a < 2 ^ 31) : rn (lt_G o L) mm_Law_law 580 lv (.int (nI c) :: .ref a :: st) (sx pl kp I A) P ↔ rn (lt_G o L) mm_Law_law 581 lv (.int (A a c) :: st) (sx pl kp I A) P := rx_ild dq_Law_law_580 ho hk hu hc hn
theorem dq_Law_law_581 : decode (km_c mm_Law_law) 581 = .ok (.aload_n 0, 1) := by decide +kernel
theorem sq_Law_law_581 : rn G mm_Law_law 581 [some (.ref z), a1, a2, a3] st S P ↔ rn G mm_Law_law 582 [some (.ref z), a1, a2, a3] (.ref z :: st) S P := rn_s dq_Law_law_581 rfl rfl rfl
theorem dq_Law_law_582 : decode (km_c mm_Law_law) 582 = .ok (.iload_n 3, 1) := by decide +kernel
theorem sq_Law_law_582 : rn G mm_Law_law 582 [a0, a1, a2, some (.int x)] st S P ↔ rn G mm_Law_law 583 [a0, a1, a2, some (.int x)] (.int x :: st) S P := rn_s dq_Law_law_582 rfl rfl rfl
theorem dq_Law_law_583 : decode (km_c mm_Law_law) 583 = .ok (.iconst 3, 1) := by decide +kernel
theorem sq_Law_law_583 : rn G mm_Law_law 583 lv st S P ↔ rn G mm_Law_law 584 lv (.int (nI 3) :: st) S P := rn_s dq_Law_law_583 rfl rfl rfl
theorem dq_Law_law_584 : decode (km_c mm_Law_law) 584 = .ok (.iadd, 1) := by decide +kernel
theorem sq_Law_law_584 : rn G mm_Law_law 584 lv (.int x2 :: .int x :: st) S P ↔ rn G mm_Law_law 585 lv (.int (x + x2) :: st) S P := rn_s dq_Law_law_584 rfl rfl rfl
theorem dq_Law_law_585 : decode (km_c mm_Law_law) 585 = .ok (.iaload, 1) := by decide +kernel
theorem sq_Law_law_585 (ho : sx_o o pl kp) (hk : ak L a = 0) (hu : sx_up pl kp a = true ∨ 1000 ≤ a) (hc : c < ln L a) (hn : ln L a < 2 ^ 31) : rn (lt_G o L) mm_Law_law 585 lv (.int (nI c) :: .ref a :: st) (sx pl kp I A) P ↔ rn (lt_G o L) mm_Law_law 586 lv (.int (A a c) :: st) (sx pl kp I A) P := rx_ild dq_Law_law_585 ho hk hu hc hn
theorem dq_Law_law_586 : decode (km_c mm_Law_law) 586 = .ok (.invokevirtual 76, 3) := by decide +kernel
theorem sq_Law_law_586_0 {x1 : Int32} {x2 : Int32} {x3 : Int32} {v : Option Value} {S2 : ks_S} (hc : ev (lt_G o L) mm_Road_share [.ref 0, .int x1, .int x2, .int x3] (sx pl kp I A) v S2) (ho : sx_o o pl kp) (hst : kx_cat st ≤ 8) : rn (lt_G o L) mm_Law_law 586 lv (.int x3 :: .int x2 :: .int x1 :: .ref 0 :: st) (sx pl kp I A) P ↔ rn (lt_G o L) mm_Law_law 589 lv (v.toList ++ st) S2 P := rn_cv (k := 0) (host := "") (E' := mm_Road_share) dq_Law_law_586 rfl (ok_v rfl (by decide) (by decide) (Nat.le_add_left _ _) hst (Nat.le_of_ble_eq_true rfl) (Or.inr (rc_v ho (up_b (by decide)) rfl))) rfl rfl hc
theorem dq_Law_law_589 : decode (km_c mm_Law_law) 589 = .ok (.aload_n 2, 1) := by decide +kernel
theorem sq_Law_law_589 : rn G mm_Law_law 589 [a0, a1, some (.ref z), a3] st S P ↔ rn G mm_Law_law 590 [a0, a1, some (.ref z), a3] (.ref z :: st) S P := rn_s dq_Law_law_589 rfl rfl rfl
theorem dq_Law_law_590 : decode (km_c mm_Law_law) 590 = .ok (.aload_n 0, 1) := by decide +kernel
theorem sq_Law_law_590 : rn G mm_Law_law 590 [some (.ref z), a1, a2, a3] st S P ↔ rn G mm_Law_law 591 [some (.ref z), a1, a2, a3] (.ref z :: st) S P := rn_s dq_Law_law_590 rfl rfl rfl
theorem dq_Law_law_591 : decode (km_c mm_Law_law) 591 = .ok (.iload_n 3, 1) := by decide +kernel
theorem sq_Law_law_591 : rn G mm_Law_law 591 [a0, a1, a2, some (.int x)] st S P ↔ rn G mm_Law_law 592 [a0, a1, a2, some (.int x)] (.int x :: st) S P := rn_s dq_Law_law_591 rfl rfl rfl
theorem dq_Law_law_592 : decode (km_c mm_Law_law) 592 = .ok (.iconst 1, 1) := by decide +kernel
theorem sq_Law_law_592 : rn G mm_Law_law 592 lv st S P ↔ rn G mm_Law_law 593 lv (.int (nI 1) :: st) S P := rn_s dq_Law_law_592 rfl rfl rfl
theorem dq_Law_law_593 : decode (km_c mm_Law_law) 593 = .ok (.iadd, 1) := by decide +kernel
theorem sq_Law_law_593 : rn G mm_Law_law 593 lv (.int x2 :: .int x :: st) S P ↔ rn G mm_Law_law 594 lv (.int (x + x2) :: st) S P := rn_s dq_Law_law_593 rfl rfl rfl
theorem dq_Law_law_594 : decode (km_c mm_Law_law) 594 = .ok (.iaload, 1) := by decide +kernel
theorem sq_Law_law_594 (ho : sx_o o pl kp) (hk : ak L a = 0) (hu : sx_up pl kp a = true ∨ 1000 ≤ a) (hc : c < ln L a) (hn : ln L a < 2 ^ 31) : rn (lt_G o L) mm_Law_law 594 lv (.int (nI c) :: .ref a :: st) (sx pl kp I A) P ↔ rn (lt_G o L) mm_Law_law 595 lv (.int (A a c) :: st) (sx pl kp I A) P := rx_ild dq_Law_law_594 ho hk hu hc hn
theorem dq_Law_law_595 : decode (km_c mm_Law_law) 595 = .ok (.aload_n 0, 1) := by decide +kernel
theorem sq_Law_law_595 : rn G mm_Law_law 595 [some (.ref z), a1, a2, a3] st S P ↔ rn G mm_Law_law 596 [some (.ref z), a1, a2, a3] (.ref z :: st) S P := rn_s dq_Law_law_595 rfl rfl rfl
theorem dq_Law_law_596 : decode (km_c mm_Law_law) 596 = .ok (.iload_n 3, 1) := by decide +kernel
theorem sq_Law_law_596 : rn G mm_Law_law 596 [a0, a1, a2, some (.int x)] st S P ↔ rn G mm_Law_law 597 [a0, a1, a2, some (.int x)] (.int x :: st) S P := rn_s dq_Law_law_596 rfl rfl rfl
theorem dq_Law_law_597 : decode (km_c mm_Law_law) 597 = .ok (.iconst 2, 1) := by decide +kernel
theorem sq_Law_law_597 : rn G mm_Law_law 597 lv st S P ↔ rn G mm_Law_law 598 lv (.int (nI 2) :: st) S P := rn_s dq_Law_law_597 rfl rfl rfl
theorem dq_Law_law_598 : decode (km_c mm_Law_law) 598 = .ok (.iadd, 1) := by decide +kernel
theorem sq_Law_law_598 : rn G mm_Law_law 598 lv (.int x2 :: .int x :: st) S P ↔ rn G mm_Law_law 599 lv (.int (x + x2) :: st) S P := rn_s dq_Law_law_598 rfl rfl rfl
theorem dq_Law_law_599 : decode (km_c mm_Law_law) 599 = .ok (.iaload, 1) := by decide +kernel
theorem sq_Law_law_599 (ho : sx_o o pl kp) (hk : ak L a = 0) (hu : sx_up pl kp a = true ∨ 1000 ≤ a) (hc : c < ln L a) (hn : ln L a < 2 ^ 31) : rn (lt_G o L) mm_Law_law 599 lv (.int (nI c) :: .ref a :: st) (sx pl kp I A) P ↔ rn (lt_G o L) mm_Law_law 600 lv (.int (A a c) :: st) (sx pl kp I A) P := rx_ild dq_Law_law_599 ho hk hu hc hn
theorem dq_Law_law_600 : decode (km_c mm_Law_law) 600 = .ok (.aload_n 0, 1) := by decide +kernel
theorem sq_Law_law_600 : rn G mm_Law_law 600 [some (.ref z), a1, a2, a3] st S P ↔ rn G mm_Law_law 601 [some (.ref z), a1, a2, a3] (.ref z :: st) S P := rn_s dq_Law_law_600 rfl rfl rfl
theorem dq_Law_law_601 : decode (km_c mm_Law_law) 601 = .ok (.iload_n 3, 1) := by decide +kernel
theorem sq_Law_law_601 : rn G mm_Law_law 601 [a0, a1, a2, some (.int x)] st S P ↔ rn G mm_Law_law 602 [a0, a1, a2, some (.int x)] (.int x :: st) S P := rn_s dq_Law_law_601 rfl rfl rfl
theorem dq_Law_law_602 : decode (km_c mm_Law_law) 602 = .ok (.iconst 3, 1) := by decide +kernel
theorem sq_Law_law_602 : rn G mm_Law_law 602 lv st S P ↔ rn G mm_Law_law 603 lv (.int (nI 3) :: st) S P := rn_s dq_Law_law_602 rfl rfl rfl
theorem dq_Law_law_603 : decode (km_c mm_Law_law) 603 = .ok (.iadd, 1) := by decide +kernel
theorem sq_Law_law_603 : rn G mm_Law_law 603 lv (.int x2 :: .int x :: st) S P ↔ rn G mm_Law_law 604 lv (.int (x + x2) :: st) S P := rn_s dq_Law_law_603 rfl rfl rfl
theorem dq_Law_law_604 : decode (km_c mm_Law_law) 604 = .ok (.iaload, 1) := by decide +kernel
theorem sq_Law_law_604 (ho : sx_o o pl kp) (hk : ak L a = 0) (hu : sx_up pl kp a = true ∨ 1000 ≤ a) (hc : c < ln L a) (hn : ln L a < 2 ^ 31) : rn (lt_G o L) mm_Law_law 604 lv (.int (nI c) :: .ref a :: st) (sx pl kp I A) P ↔ rn (lt_G o L) mm_Law_law 605 lv (.int (A a c) :: st) (sx pl kp I A) P := rx_ild dq_Law_law_604 ho hk hu hc hn
theorem dq_Law_law_605 : decode (km_c mm_Law_law) 605 = .ok (.invokevirtual 79, 3) := by decide +kernel
theorem sq_Law_law_605_45 {x1 : Int32} {x2 : Int32} {x3 : Int32} {v : Option Value} {S2 : ks_S} (hc : ev (lt_G o L) mm_Model_share [.ref 45, .int x1, .int x2, .int x3] (sx pl kp I A) v S2) (ho : sx_o o pl kp) (hst : kx_cat st ≤ 8) : rn (lt_G o L) mm_Law_law 605 lv (.int x3 :: .int x2 :: .int x1 :: .ref 45 :: st) (sx pl kp I A) P ↔ rn (lt_G o L) mm_Law_law 608 lv (v.toList ++ st) S2 P := rn_cv (k := 0) (host := "") (E' := mm_Model_share) dq_Law_law_605 rfl (ok_v rfl (by decide) (by decide) (Nat.le_add_left _ _) hst (Nat.le_of_ble_eq_true rfl) (Or.inr (rc_v ho (up_b (by decide)) rfl))) rfl rfl hc
theorem dq_Law_law_608 : decode (km_c mm_Law_law) 608 = .ok (.if_icmp .eq 566, 3) := by decide +kernel
theorem sq_Law_law_608 : rn G mm_Law_law 608 lv (.int x2 :: .int x :: st) S P ↔ ((x = x2 → rn G mm_Law_law 1174 lv st S P) ∧ (¬ (x = x2) → rn G mm_Law_law 611 lv st S P)) := rn_b (off := 566) dq_Law_law_608 rfl rfl rfl rfl
theorem dq_Law_law_611 : decode (km_c mm_Law_law) 611 = .ok (.iconst 0, 1) := by decide +kernel
theorem sq_Law_law_611 : rn G mm_Law_law 611 lv st S P ↔ rn G mm_Law_law 612 lv (.int (nI 0) :: st) S P := rn_s dq_Law_law_611 rfl rfl rfl
theorem dq_Law_law_612 : decode (km_c mm_Law_law) 612 = .ok (.ireturn, 1) := by decide +kernel
theorem sq_Law_law_612_0 : rn G mm_Law_law 612 lv [.int (nI 0)] S P ↔ P (some (.int (nI 0))) S := rn_ir dq_Law_law_612 (by decide)
theorem sq_Law_law_612_1 : rn G mm_Law_law 612 lv [.int (nI 1)] S P ↔ P (some (.int (nI 1))) S := rn_ir dq_Law_law_612 (by decide)
theorem dq_Law_law_613 : decode (km_c mm_Law_law) 613 = .ok (.aload_n 1, 1) := by decide +kernel
theorem sq_Law_law_613 : rn G mm_Law_law 613 [a0, some (.ref z), a2, a3] st S P ↔ rn G mm_Law_law 614 [a0, some (.ref z), a2, a3] (.ref z :: st) S P := rn_s dq_Law_law_613 rfl rfl rfl
theorem dq_Law_law_614 : decode (km_c mm_Law_law) 614 = .ok (.aload_n 0, 1) := by decide +kernel
theorem sq_Law_law_614 : rn G mm_Law_law 614 [some (.ref z), a1, a2, a3] st S P ↔ rn G mm_Law_law 615 [some (.ref z), a1, a2, a3] (.ref z :: st) S P := rn_s dq_Law_law_614 rfl rfl rfl
theorem dq_Law_law_615 : decode (km_c mm_Law_law) 615 = .ok (.iload_n 3, 1) := by decide +kernel
theorem sq_Law_law_615 : rn G mm_Law_law 615 [a0, a1, a2, some (.int x)] st S P ↔ rn G mm_Law_law 616 [a0, a1, a2, some (.int x)] (.int x :: st) S P := rn_s dq_Law_law_615 rfl rfl rfl
theorem dq_Law_law_616 : decode (km_c mm_Law_law) 616 = .ok (.iconst 1, 1) := by decide +kernel
theorem sq_Law_law_616 : rn G mm_Law_law 616 lv st S P ↔ rn G mm_Law_law 617 lv (.int (nI 1) :: st) S P := rn_s dq_Law_law_616 rfl rfl rfl
theorem dq_Law_law_617 : decode (km_c mm_Law_law) 617 = .ok (.iadd, 1) := by decide +kernel
theorem sq_Law_law_617 : rn G mm_Law_law 617 lv (.int x2 :: .int x :: st) S P ↔ rn G mm_Law_law 618 lv (.int (x + x2) :: st) S P := rn_s dq_Law_law_617 rfl rfl rfl
theorem dq_Law_law_618 : decode (km_c mm_Law_law) 618 = .ok (.iaload, 1) := by decide +kernel
theorem sq_Law_law_618 (ho : sx_o o pl kp) (hk : ak L a = 0) (hu : sx_up pl kp a = true ∨ 1000 ≤ a) (hc : c < ln L a) (hn : ln L a < 2 ^ 31) : rn (lt_G o L) mm_Law_law 618 lv (.int (nI c) :: .ref a :: st) (sx pl kp I A) P ↔ rn (lt_G o L) mm_Law_law 619 lv (.int (A a c) :: st) (sx pl kp I A) P := rx_ild dq_Law_law_618 ho hk hu hc hn
theorem dq_Law_law_619 : decode (km_c mm_Law_law) 619 = .ok (.invokevirtual 80, 3) := by decide +kernel
theorem sq_Law_law_619_0 {x1 : Int32} {v : Option Value} {S2 : ks_S} (hc : ev (lt_G o L) mm_Road_lay [.ref 0, .int x1] (sx pl kp I A) v S2) (ho : sx_o o pl kp) (hst : kx_cat st ≤ 8) : rn (lt_G o L) mm_Law_law 619 lv (.int x1 :: .ref 0 :: st) (sx pl kp I A) P ↔ rn (lt_G o L) mm_Law_law 622 lv (v.toList ++ st) S2 P := rn_cv (k := 0) (host := "") (E' := mm_Road_lay) dq_Law_law_619 rfl (ok_v rfl (by decide) (by decide) (Nat.le_add_left _ _) hst (Nat.le_of_ble_eq_true rfl) (Or.inr (rc_v ho (up_b (by decide)) rfl))) rfl rfl hc
theorem dq_Law_law_622 : decode (km_c mm_Law_law) 622 = .ok (.aload_n 2, 1) := by decide +kernel
theorem sq_Law_law_622 : rn G mm_Law_law 622 [a0, a1, some (.ref z), a3] st S P ↔ rn G mm_Law_law 623 [a0, a1, some (.ref z), a3] (.ref z :: st) S P := rn_s dq_Law_law_622 rfl rfl rfl
theorem dq_Law_law_623 : decode (km_c mm_Law_law) 623 = .ok (.aload_n 0, 1) := by decide +kernel
theorem sq_Law_law_623 : rn G mm_Law_law 623 [some (.ref z), a1, a2, a3] st S P ↔ rn G mm_Law_law 624 [some (.ref z), a1, a2, a3] (.ref z :: st) S P := rn_s dq_Law_law_623 rfl rfl rfl
theorem dq_Law_law_624 : decode (km_c mm_Law_law) 624 = .ok (.iload_n 3, 1) := by decide +kernel
theorem sq_Law_law_624 : rn G mm_Law_law 624 [a0, a1, a2, some (.int x)] st S P ↔ rn G mm_Law_law 625 [a0, a1, a2, some (.int x)] (.int x :: st) S P := rn_s dq_Law_law_624 rfl rfl rfl
theorem dq_Law_law_625 : decode (km_c mm_Law_law) 625 = .ok (.iconst 1, 1) := by decide +kernel
theorem sq_Law_law_625 : rn G mm_Law_law 625 lv st S P ↔ rn G mm_Law_law 626 lv (.int (nI 1) :: st) S P := rn_s dq_Law_law_625 rfl rfl rfl
theorem dq_Law_law_626 : decode (km_c mm_Law_law) 626 = .ok (.iadd, 1) := by decide +kernel
theorem sq_Law_law_626 : rn G mm_Law_law 626 lv (.int x2 :: .int x :: st) S P ↔ rn G mm_Law_law 627 lv (.int (x + x2) :: st) S P := rn_s dq_Law_law_626 rfl rfl rfl
theorem dq_Law_law_627 : decode (km_c mm_Law_law) 627 = .ok (.iaload, 1) := by decide +kernel
theorem sq_Law_law_627 (ho : sx_o o pl kp) (hk : ak L a = 0) (hu : sx_up pl kp a = true ∨ 1000 ≤ a) (hc : c < ln L a) (hn : ln L a < 2 ^ 31) : rn (lt_G o L) mm_Law_law 627 lv (.int (nI c) :: .ref a :: st) (sx pl kp I A) P ↔ rn (lt_G o L) mm_Law_law 628 lv (.int (A a c) :: st) (sx pl kp I A) P := rx_ild dq_Law_law_627 ho hk hu hc hn
theorem dq_Law_law_628 : decode (km_c mm_Law_law) 628 = .ok (.invokevirtual 83, 3) := by decide +kernel
theorem sq_Law_law_628_45 {x1 : Int32} {v : Option Value} {S2 : ks_S} (hc : ev (lt_G o L) mm_Model_lay [.ref 45, .int x1] (sx pl kp I A) v S2) (ho : sx_o o pl kp) (hst : kx_cat st ≤ 8) : rn (lt_G o L) mm_Law_law 628 lv (.int x1 :: .ref 45 :: st) (sx pl kp I A) P ↔ rn (lt_G o L) mm_Law_law 631 lv (v.toList ++ st) S2 P := rn_cv (k := 0) (host := "") (E' := mm_Model_lay) dq_Law_law_628 rfl (ok_v rfl (by decide) (by decide) (Nat.le_add_left _ _) hst (Nat.le_of_ble_eq_true rfl) (Or.inr (rc_v ho (up_b (by decide)) rfl))) rfl rfl hc
theorem dq_Law_law_631 : decode (km_c mm_Law_law) 631 = .ok (.if_icmp .eq 543, 3) := by decide +kernel
theorem sq_Law_law_631 : rn G mm_Law_law 631 lv (.int x2 :: .int x :: st) S P ↔ ((x = x2 → rn G mm_Law_law 1174 lv st S P) ∧ (¬ (x = x2) → rn G mm_Law_law 634 lv st S P)) := rn_b (off := 543) dq_Law_law_631 rfl rfl rfl rfl
theorem dq_Law_law_634 : decode (km_c mm_Law_law) 634 = .ok (.iconst 0, 1) := by decide +kernel
theorem sq_Law_law_634 : rn G mm_Law_law 634 lv st S P ↔ rn G mm_Law_law 635 lv (.int (nI 0) :: st) S P := rn_s dq_Law_law_634 rfl rfl rfl
theorem dq_Law_law_635 : decode (km_c mm_Law_law) 635 = .ok (.ireturn, 1) := by decide +kernel
theorem sq_Law_law_635_0 : rn G mm_Law_law 635 lv [.int (nI 0)] S P ↔ P (some (.int (nI 0))) S := rn_ir dq_Law_law_635 (by decide)
theorem sq_Law_law_635_1 : rn G mm_Law_law 635 lv [.int (nI 1)] S P ↔ P (some (.int (nI 1))) S := rn_ir dq_Law_law_635 (by decide)
theorem dq_Law_law_636 : decode (km_c mm_Law_law) 636 = .ok (.aload_n 1, 1) := by decide +kernel
theorem sq_Law_law_636 : rn G mm_Law_law 636 [a0, some (.ref z), a2, a3] st S P ↔ rn G mm_Law_law 637 [a0, some (.ref z), a2, a3] (.ref z :: st) S P := rn_s dq_Law_law_636 rfl rfl rfl
theorem dq_Law_law_637 : decode (km_c mm_Law_law) 637 = .ok (.aload_n 0, 1) := by decide +kernel
theorem sq_Law_law_637 : rn G mm_Law_law 637 [some (.ref z), a1, a2, a3] st S P ↔ rn G mm_Law_law 638 [some (.ref z), a1, a2, a3] (.ref z :: st) S P := rn_s dq_Law_law_637 rfl rfl rfl
theorem dq_Law_law_638 : decode (km_c mm_Law_law) 638 = .ok (.iload_n 3, 1) := by decide +kernel
theorem sq_Law_law_638 : rn G mm_Law_law 638 [a0, a1, a2, some (.int x)] st S P ↔ rn G mm_Law_law 639 [a0, a1, a2, some (.int x)] (.int x :: st) S P := rn_s dq_Law_law_638 rfl rfl rfl
theorem dq_Law_law_639 : decode (km_c mm_Law_law) 639 = .ok (.iconst 1, 1) := by decide +kernel
theorem sq_Law_law_639 : rn G mm_Law_law 639 lv st S P ↔ rn G mm_Law_law 640 lv (.int (nI 1) :: st) S P := rn_s dq_Law_law_639 rfl rfl rfl
theorem dq_Law_law_640 : decode (km_c mm_Law_law) 640 = .ok (.iadd, 1) := by decide +kernel
theorem sq_Law_law_640 : rn G mm_Law_law 640 lv (.int x2 :: .int x :: st) S P ↔ rn G mm_Law_law 641 lv (.int (x + x2) :: st) S P := rn_s dq_Law_law_640 rfl rfl rfl
theorem dq_Law_law_641 : decode (km_c mm_Law_law) 641 = .ok (.iaload, 1) := by decide +kernel
theorem sq_Law_law_641 (ho : sx_o o pl kp) (hk : ak L a = 0) (hu : sx_up pl kp a = true ∨ 1000 ≤ a) (hc : c < ln L a) (hn : ln L a < 2 ^ 31) : rn (lt_G o L) mm_Law_law 641 lv (.int (nI c) :: .ref a :: st) (sx pl kp I A) P ↔ rn (lt_G o L) mm_Law_law 642 lv (.int (A a c) :: st) (sx pl kp I A) P := rx_ild dq_Law_law_641 ho hk hu hc hn
theorem dq_Law_law_642 : decode (km_c mm_Law_law) 642 = .ok (.invokevirtual 84, 3) := by decide +kernel
theorem sq_Law_law_642_0 {x1 : Int32} {v : Option Value} {S2 : ks_S} (hc : ev (lt_G o L) mm_Road_step [.ref 0, .int x1] (sx pl kp I A) v S2) (ho : sx_o o pl kp) (hst : kx_cat st ≤ 8) : rn (lt_G o L) mm_Law_law 642 lv (.int x1 :: .ref 0 :: st) (sx pl kp I A) P ↔ rn (lt_G o L) mm_Law_law 645 lv (v.toList ++ st) S2 P := rn_cv (k := 0) (host := "") (E' := mm_Road_step) dq_Law_law_642 rfl (ok_v rfl (by decide) (by decide) (Nat.le_add_left _ _) hst (Nat.le_of_ble_eq_true rfl) (Or.inr (rc_v ho (up_b (by decide)) rfl))) rfl rfl hc
theorem dq_Law_law_645 : decode (km_c mm_Law_law) 645 = .ok (.aload_n 2, 1) := by decide +kernel
theorem sq_Law_law_645 : rn G mm_Law_law 645 [a0, a1, some (.ref z), a3] st S P ↔ rn G mm_Law_law 646 [a0, a1, some (.ref z), a3] (.ref z :: st) S P := rn_s dq_Law_law_645 rfl rfl rfl
theorem dq_Law_law_646 : decode (km_c mm_Law_law) 646 = .ok (.aload_n 0, 1) := by decide +kernel
theorem sq_Law_law_646 : rn G mm_Law_law 646 [some (.ref z), a1, a2, a3] st S P ↔ rn G mm_Law_law 647 [some (.ref z), a1, a2, a3] (.ref z :: st) S P := rn_s dq_Law_law_646 rfl rfl rfl
theorem dq_Law_law_647 : decode (km_c mm_Law_law) 647 = .ok (.iload_n 3, 1) := by decide +kernel
theorem sq_Law_law_647 : rn G mm_Law_law 647 [a0, a1, a2, some (.int x)] st S P ↔ rn G mm_Law_law 648 [a0, a1, a2, some (.int x)] (.int x :: st) S P := rn_s dq_Law_law_647 rfl rfl rfl
theorem dq_Law_law_648 : decode (km_c mm_Law_law) 648 = .ok (.iconst 1, 1) := by decide +kernel
theorem sq_Law_law_648 : rn G mm_Law_law 648 lv st S P ↔ rn G mm_Law_law 649 lv (.int (nI 1) :: st) S P := rn_s dq_Law_law_648 rfl rfl rfl
theorem dq_Law_law_649 : decode (km_c mm_Law_law) 649 = .ok (.iadd, 1) := by decide +kernel
theorem sq_Law_law_649 : rn G mm_Law_law 649 lv (.int x2 :: .int x :: st) S P ↔ rn G mm_Law_law 650 lv (.int (x + x2) :: st) S P := rn_s dq_Law_law_649 rfl rfl rfl
theorem dq_Law_law_650 : decode (km_c mm_Law_law) 650 = .ok (.iaload, 1) := by decide +kernel
theorem sq_Law_law_650 (ho : sx_o o pl kp) (hk : ak L a = 0) (hu : sx_up pl kp a = true ∨ 1000 ≤ a) (hc : c < ln L a) (hn : ln L a < 2 ^ 31) : rn (lt_G o L) mm_Law_law 650 lv (.int (nI c) :: .ref a :: st) (sx pl kp I A) P ↔ rn (lt_G o L) mm_Law_law 651 lv (.int (A a c) :: st) (sx pl kp I A) P := rx_ild dq_Law_law_650 ho hk hu hc hn
theorem dq_Law_law_651 : decode (km_c mm_Law_law) 651 = .ok (.invokevirtual 87, 3) := by decide +kernel
theorem sq_Law_law_651_45 {x1 : Int32} {v : Option Value} {S2 : ks_S} (hc : ev (lt_G o L) mm_Model_step [.ref 45, .int x1] (sx pl kp I A) v S2) (ho : sx_o o pl kp) (hst : kx_cat st ≤ 8) : rn (lt_G o L) mm_Law_law 651 lv (.int x1 :: .ref 45 :: st) (sx pl kp I A) P ↔ rn (lt_G o L) mm_Law_law 654 lv (v.toList ++ st) S2 P := rn_cv (k := 0) (host := "") (E' := mm_Model_step) dq_Law_law_651 rfl (ok_v rfl (by decide) (by decide) (Nat.le_add_left _ _) hst (Nat.le_of_ble_eq_true rfl) (Or.inr (rc_v ho (up_b (by decide)) rfl))) rfl rfl hc
theorem dq_Law_law_654 : decode (km_c mm_Law_law) 654 = .ok (.if_icmp .eq 520, 3) := by decide +kernel
theorem sq_Law_law_654 : rn G mm_Law_law 654 lv (.int x2 :: .int x :: st) S P ↔ ((x = x2 → rn G mm_Law_law 1174 lv st S P) ∧ (¬ (x = x2) → rn G mm_Law_law 657 lv st S P)) := rn_b (off := 520) dq_Law_law_654 rfl rfl rfl rfl
theorem dq_Law_law_657 : decode (km_c mm_Law_law) 657 = .ok (.iconst 0, 1) := by decide +kernel
theorem sq_Law_law_657 : rn G mm_Law_law 657 lv st S P ↔ rn G mm_Law_law 658 lv (.int (nI 0) :: st) S P := rn_s dq_Law_law_657 rfl rfl rfl
theorem dq_Law_law_658 : decode (km_c mm_Law_law) 658 = .ok (.ireturn, 1) := by decide +kernel
theorem sq_Law_law_658_0 : rn G mm_Law_law 658 lv [.int (nI 0)] S P ↔ P (some (.int (nI 0))) S := rn_ir dq_Law_law_658 (by decide)
theorem sq_Law_law_658_1 : rn G mm_Law_law 658 lv [.int (nI 1)] S P ↔ P (some (.int (nI 1))) S := rn_ir dq_Law_law_658 (by decide)
theorem dq_Law_law_659 : decode (km_c mm_Law_law) 659 = .ok (.aload_n 1, 1) := by decide +kernel
theorem sq_Law_law_659 : rn G mm_Law_law 659 [a0, some (.ref z), a2, a3] st S P ↔ rn G mm_Law_law 660 [a0, some (.ref z), a2, a3] (.ref z :: st) S P := rn_s dq_Law_law_659 rfl rfl rfl
theorem dq_Law_law_660 : decode (km_c mm_Law_law) 660 = .ok (.aload_n 0, 1) := by decide +kernel
theorem sq_Law_law_660 : rn G mm_Law_law 660 [some (.ref z), a1, a2, a3] st S P ↔ rn G mm_Law_law 661 [some (.ref z), a1, a2, a3] (.ref z :: st) S P := rn_s dq_Law_law_660 rfl rfl rfl
theorem dq_Law_law_661 : decode (km_c mm_Law_law) 661 = .ok (.iload_n 3, 1) := by decide +kernel
theorem sq_Law_law_661 : rn G mm_Law_law 661 [a0, a1, a2, some (.int x)] st S P ↔ rn G mm_Law_law 662 [a0, a1, a2, some (.int x)] (.int x :: st) S P := rn_s dq_Law_law_661 rfl rfl rfl
theorem dq_Law_law_662 : decode (km_c mm_Law_law) 662 = .ok (.iconst 1, 1) := by decide +kernel
theorem sq_Law_law_662 : rn G mm_Law_law 662 lv st S P ↔ rn G mm_Law_law 663 lv (.int (nI 1) :: st) S P := rn_s dq_Law_law_662 rfl rfl rfl
theorem dq_Law_law_663 : decode (km_c mm_Law_law) 663 = .ok (.iadd, 1) := by decide +kernel
theorem sq_Law_law_663 : rn G mm_Law_law 663 lv (.int x2 :: .int x :: st) S P ↔ rn G mm_Law_law 664 lv (.int (x + x2) :: st) S P := rn_s dq_Law_law_663 rfl rfl rfl
theorem dq_Law_law_664 : decode (km_c mm_Law_law) 664 = .ok (.iaload, 1) := by decide +kernel
theorem sq_Law_law_664 (ho : sx_o o pl kp) (hk : ak L a = 0) (hu : sx_up pl kp a = true ∨ 1000 ≤ a) (hc : c < ln L a) (hn : ln L a < 2 ^ 31) : rn (lt_G o L) mm_Law_law 664 lv (.int (nI c) :: .ref a :: st) (sx pl kp I A) P ↔ rn (lt_G o L) mm_Law_law 665 lv (.int (A a c) :: st) (sx pl kp I A) P := rx_ild dq_Law_law_664 ho hk hu hc hn
theorem dq_Law_law_665 : decode (km_c mm_Law_law) 665 = .ok (.invokevirtual 88, 3) := by decide +kernel
theorem sq_Law_law_665_0 {x1 : Int32} {v : Option Value} {S2 : ks_S} (hc : ev (lt_G o L) mm_Road_back [.ref 0, .int x1] (sx pl kp I A) v S2) (ho : sx_o o pl kp) (hst : kx_cat st ≤ 8) : rn (lt_G o L) mm_Law_law 665 lv (.int x1 :: .ref 0 :: st) (sx pl kp I A) P ↔ rn (lt_G o L) mm_Law_law 668 lv (v.toList ++ st) S2 P := rn_cv (k := 0) (host := "") (E' := mm_Road_back) dq_Law_law_665 rfl (ok_v rfl (by decide) (by decide) (Nat.le_add_left _ _) hst (Nat.le_of_ble_eq_true rfl) (Or.inr (rc_v ho (up_b (by decide)) rfl))) rfl rfl hc
theorem dq_Law_law_668 : decode (km_c mm_Law_law) 668 = .ok (.aload_n 2, 1) := by decide +kernel
theorem sq_Law_law_668 : rn G mm_Law_law 668 [a0, a1, some (.ref z), a3] st S P ↔ rn G mm_Law_law 669 [a0, a1, some (.ref z), a3] (.ref z :: st) S P := rn_s dq_Law_law_668 rfl rfl rfl
theorem dq_Law_law_669 : decode (km_c mm_Law_law) 669 = .ok (.aload_n 0, 1) := by decide +kernel
theorem sq_Law_law_669 : rn G mm_Law_law 669 [some (.ref z), a1, a2, a3] st S P ↔ rn G mm_Law_law 670 [some (.ref z), a1, a2, a3] (.ref z :: st) S P := rn_s dq_Law_law_669 rfl rfl rfl
theorem dq_Law_law_670 : decode (km_c mm_Law_law) 670 = .ok (.iload_n 3, 1) := by decide +kernel
theorem sq_Law_law_670 : rn G mm_Law_law 670 [a0, a1, a2, some (.int x)] st S P ↔ rn G mm_Law_law 671 [a0, a1, a2, some (.int x)] (.int x :: st) S P := rn_s dq_Law_law_670 rfl rfl rfl
theorem dq_Law_law_671 : decode (km_c mm_Law_law) 671 = .ok (.iconst 1, 1) := by decide +kernel
theorem sq_Law_law_671 : rn G mm_Law_law 671 lv st S P ↔ rn G mm_Law_law 672 lv (.int (nI 1) :: st) S P := rn_s dq_Law_law_671 rfl rfl rfl
theorem dq_Law_law_672 : decode (km_c mm_Law_law) 672 = .ok (.iadd, 1) := by decide +kernel
theorem sq_Law_law_672 : rn G mm_Law_law 672 lv (.int x2 :: .int x :: st) S P ↔ rn G mm_Law_law 673 lv (.int (x + x2) :: st) S P := rn_s dq_Law_law_672 rfl rfl rfl
theorem dq_Law_law_673 : decode (km_c mm_Law_law) 673 = .ok (.iaload, 1) := by decide +kernel
theorem sq_Law_law_673 (ho : sx_o o pl kp) (hk : ak L a = 0) (hu : sx_up pl kp a = true ∨ 1000 ≤ a) (hc : c < ln L a) (hn : ln L a < 2 ^ 31) : rn (lt_G o L) mm_Law_law 673 lv (.int (nI c) :: .ref a :: st) (sx pl kp I A) P ↔ rn (lt_G o L) mm_Law_law 674 lv (.int (A a c) :: st) (sx pl kp I A) P := rx_ild dq_Law_law_673 ho hk hu hc hn
theorem dq_Law_law_674 : decode (km_c mm_Law_law) 674 = .ok (.invokevirtual 91, 3) := by decide +kernel
theorem sq_Law_law_674_45 {x1 : Int32} {v : Option Value} {S2 : ks_S} (hc : ev (lt_G o L) mm_Model_back [.ref 45, .int x1] (sx pl kp I A) v S2) (ho : sx_o o pl kp) (hst : kx_cat st ≤ 8) : rn (lt_G o L) mm_Law_law 674 lv (.int x1 :: .ref 45 :: st) (sx pl kp I A) P ↔ rn (lt_G o L) mm_Law_law 677 lv (v.toList ++ st) S2 P := rn_cv (k := 0) (host := "") (E' := mm_Model_back) dq_Law_law_674 rfl (ok_v rfl (by decide) (by decide) (Nat.le_add_left _ _) hst (Nat.le_of_ble_eq_true rfl) (Or.inr (rc_v ho (up_b (by decide)) rfl))) rfl rfl hc
theorem dq_Law_law_677 : decode (km_c mm_Law_law) 677 = .ok (.if_icmp .eq 497, 3) := by decide +kernel
theorem sq_Law_law_677 : rn G mm_Law_law 677 lv (.int x2 :: .int x :: st) S P ↔ ((x = x2 → rn G mm_Law_law 1174 lv st S P) ∧ (¬ (x = x2) → rn G mm_Law_law 680 lv st S P)) := rn_b (off := 497) dq_Law_law_677 rfl rfl rfl rfl
theorem dq_Law_law_680 : decode (km_c mm_Law_law) 680 = .ok (.iconst 0, 1) := by decide +kernel
theorem sq_Law_law_680 : rn G mm_Law_law 680 lv st S P ↔ rn G mm_Law_law 681 lv (.int (nI 0) :: st) S P := rn_s dq_Law_law_680 rfl rfl rfl
theorem dq_Law_law_681 : decode (km_c mm_Law_law) 681 = .ok (.ireturn, 1) := by decide +kernel
theorem sq_Law_law_681_0 : rn G mm_Law_law 681 lv [.int (nI 0)] S P ↔ P (some (.int (nI 0))) S := rn_ir dq_Law_law_681 (by decide)
theorem sq_Law_law_681_1 : rn G mm_Law_law 681 lv [.int (nI 1)] S P ↔ P (some (.int (nI 1))) S := rn_ir dq_Law_law_681 (by decide)
theorem dq_Law_law_682 : decode (km_c mm_Law_law) 682 = .ok (.aload_n 1, 1) := by decide +kernel
theorem sq_Law_law_682 : rn G mm_Law_law 682 [a0, some (.ref z), a2, a3] st S P ↔ rn G mm_Law_law 683 [a0, some (.ref z), a2, a3] (.ref z :: st) S P := rn_s dq_Law_law_682 rfl rfl rfl
theorem dq_Law_law_683 : decode (km_c mm_Law_law) 683 = .ok (.aload_n 0, 1) := by decide +kernel
theorem sq_Law_law_683 : rn G mm_Law_law 683 [some (.ref z), a1, a2, a3] st S P ↔ rn G mm_Law_law 684 [some (.ref z), a1, a2, a3] (.ref z :: st) S P := rn_s dq_Law_law_683 rfl rfl rfl
theorem dq_Law_law_684 : decode (km_c mm_Law_law) 684 = .ok (.iload_n 3, 1) := by decide +kernel
theorem sq_Law_law_684 : rn G mm_Law_law 684 [a0, a1, a2, some (.int x)] st S P ↔ rn G mm_Law_law 685 [a0, a1, a2, some (.int x)] (.int x :: st) S P := rn_s dq_Law_law_684 rfl rfl rfl
theorem dq_Law_law_685 : decode (km_c mm_Law_law) 685 = .ok (.iconst 1, 1) := by decide +kernel
theorem sq_Law_law_685 : rn G mm_Law_law 685 lv st S P ↔ rn G mm_Law_law 686 lv (.int (nI 1) :: st) S P := rn_s dq_Law_law_685 rfl rfl rfl
theorem dq_Law_law_686 : decode (km_c mm_Law_law) 686 = .ok (.iadd, 1) := by decide +kernel
theorem sq_Law_law_686 : rn G mm_Law_law 686 lv (.int x2 :: .int x :: st) S P ↔ rn G mm_Law_law 687 lv (.int (x + x2) :: st) S P := rn_s dq_Law_law_686 rfl rfl rfl
theorem dq_Law_law_687 : decode (km_c mm_Law_law) 687 = .ok (.iaload, 1) := by decide +kernel
theorem sq_Law_law_687 (ho : sx_o o pl kp) (hk : ak L a = 0) (hu : sx_up pl kp a = true ∨ 1000 ≤ a) (hc : c < ln L a) (hn : ln L a < 2 ^ 31) : rn (lt_G o L) mm_Law_law 687 lv (.int (nI c) :: .ref a :: st) (sx pl kp I A) P ↔ rn (lt_G o L) mm_Law_law 688 lv (.int (A a c) :: st) (sx pl kp I A) P := rx_ild dq_Law_law_687 ho hk hu hc hn
theorem dq_Law_law_688 : decode (km_c mm_Law_law) 688 = .ok (.invokevirtual 92, 3) := by decide +kernel
theorem sq_Law_law_688_0 {x1 : Int32} {v : Option Value} {S2 : ks_S} (hc : ev (lt_G o L) mm_Road_at [.ref 0, .int x1] (sx pl kp I A) v S2) (ho : sx_o o pl kp) (hst : kx_cat st ≤ 8) : rn (lt_G o L) mm_Law_law 688 lv (.int x1 :: .ref 0 :: st) (sx pl kp I A) P ↔ rn (lt_G o L) mm_Law_law 691 lv (v.toList ++ st) S2 P := rn_cv (k := 0) (host := "") (E' := mm_Road_at) dq_Law_law_688 rfl (ok_v rfl (by decide) (by decide) (Nat.le_add_left _ _) hst (Nat.le_of_ble_eq_true rfl) (Or.inr (rc_v ho (up_b (by decide)) rfl))) rfl rfl hc
theorem dq_Law_law_691 : decode (km_c mm_Law_law) 691 = .ok (.aload_n 2, 1) := by decide +kernel
theorem sq_Law_law_691 : rn G mm_Law_law 691 [a0, a1, some (.ref z), a3] st S P ↔ rn G mm_Law_law 692 [a0, a1, some (.ref z), a3] (.ref z :: st) S P := rn_s dq_Law_law_691 rfl rfl rfl
theorem dq_Law_law_692 : decode (km_c mm_Law_law) 692 = .ok (.aload_n 0, 1) := by decide +kernel
theorem sq_Law_law_692 : rn G mm_Law_law 692 [some (.ref z), a1, a2, a3] st S P ↔ rn G mm_Law_law 693 [some (.ref z), a1, a2, a3] (.ref z :: st) S P := rn_s dq_Law_law_692 rfl rfl rfl
theorem dq_Law_law_693 : decode (km_c mm_Law_law) 693 = .ok (.iload_n 3, 1) := by decide +kernel
theorem sq_Law_law_693 : rn G mm_Law_law 693 [a0, a1, a2, some (.int x)] st S P ↔ rn G mm_Law_law 694 [a0, a1, a2, some (.int x)] (.int x :: st) S P := rn_s dq_Law_law_693 rfl rfl rfl
theorem dq_Law_law_694 : decode (km_c mm_Law_law) 694 = .ok (.iconst 1, 1) := by decide +kernel
theorem sq_Law_law_694 : rn G mm_Law_law 694 lv st S P ↔ rn G mm_Law_law 695 lv (.int (nI 1) :: st) S P := rn_s dq_Law_law_694 rfl rfl rfl
theorem dq_Law_law_695 : decode (km_c mm_Law_law) 695 = .ok (.iadd, 1) := by decide +kernel
theorem sq_Law_law_695 : rn G mm_Law_law 695 lv (.int x2 :: .int x :: st) S P ↔ rn G mm_Law_law 696 lv (.int (x + x2) :: st) S P := rn_s dq_Law_law_695 rfl rfl rfl
theorem dq_Law_law_696 : decode (km_c mm_Law_law) 696 = .ok (.iaload, 1) := by decide +kernel
theorem sq_Law_law_696 (ho : sx_o o pl kp) (hk : ak L a = 0) (hu : sx_up pl kp a = true ∨ 1000 ≤ a) (hc : c < ln L a) (hn : ln L a < 2 ^ 31) : rn (lt_G o L) mm_Law_law 696 lv (.int (nI c) :: .ref a :: st) (sx pl kp I A) P ↔ rn (lt_G o L) mm_Law_law 697 lv (.int (A a c) :: st) (sx pl kp I A) P := rx_ild dq_Law_law_696 ho hk hu hc hn
theorem dq_Law_law_697 : decode (km_c mm_Law_law) 697 = .ok (.invokevirtual 95, 3) := by decide +kernel
theorem sq_Law_law_697_45 {x1 : Int32} {v : Option Value} {S2 : ks_S} (hc : ev (lt_G o L) mm_Model_at [.ref 45, .int x1] (sx pl kp I A) v S2) (ho : sx_o o pl kp) (hst : kx_cat st ≤ 8) : rn (lt_G o L) mm_Law_law 697 lv (.int x1 :: .ref 45 :: st) (sx pl kp I A) P ↔ rn (lt_G o L) mm_Law_law 700 lv (v.toList ++ st) S2 P := rn_cv (k := 0) (host := "") (E' := mm_Model_at) dq_Law_law_697 rfl (ok_v rfl (by decide) (by decide) (Nat.le_add_left _ _) hst (Nat.le_of_ble_eq_true rfl) (Or.inr (rc_v ho (up_b (by decide)) rfl))) rfl rfl hc
theorem dq_Law_law_700 : decode (km_c mm_Law_law) 700 = .ok (.if_icmp .eq 474, 3) := by decide +kernel
theorem sq_Law_law_700 : rn G mm_Law_law 700 lv (.int x2 :: .int x :: st) S P ↔ ((x = x2 → rn G mm_Law_law 1174 lv st S P) ∧ (¬ (x = x2) → rn G mm_Law_law 703 lv st S P)) := rn_b (off := 474) dq_Law_law_700 rfl rfl rfl rfl
theorem dq_Law_law_703 : decode (km_c mm_Law_law) 703 = .ok (.iconst 0, 1) := by decide +kernel
theorem sq_Law_law_703 : rn G mm_Law_law 703 lv st S P ↔ rn G mm_Law_law 704 lv (.int (nI 0) :: st) S P := rn_s dq_Law_law_703 rfl rfl rfl
theorem dq_Law_law_704 : decode (km_c mm_Law_law) 704 = .ok (.ireturn, 1) := by decide +kernel
theorem sq_Law_law_704_0 : rn G mm_Law_law 704 lv [.int (nI 0)] S P ↔ P (some (.int (nI 0))) S := rn_ir dq_Law_law_704 (by decide)
theorem sq_Law_law_704_1 : rn G mm_Law_law 704 lv [.int (nI 1)] S P ↔ P (some (.int (nI 1))) S := rn_ir dq_Law_law_704 (by decide)
theorem dq_Law_law_705 : decode (km_c mm_Law_law) 705 = .ok (.aload_n 1, 1) := by decide +kernel
theorem sq_Law_law_705 : rn G mm_Law_law 705 [a0, some (.ref z), a2, a3] st S P ↔ rn G mm_Law_law 706 [a0, some (.ref z), a2, a3] (.ref z :: st) S P := rn_s dq_Law_law_705 rfl rfl rfl
theorem dq_Law_law_706 : decode (km_c mm_Law_law) 706 = .ok (.aload_n 0, 1) := by decide +kernel
theorem sq_Law_law_706 : rn G mm_Law_law 706 [some (.ref z), a1, a2, a3] st S P ↔ rn G mm_Law_law 707 [some (.ref z), a1, a2, a3] (.ref z :: st) S P := rn_s dq_Law_law_706 rfl rfl rfl
theorem dq_Law_law_707 : decode (km_c mm_Law_law) 707 = .ok (.iload_n 3, 1) := by decide +kernel
theorem sq_Law_law_707 : rn G mm_Law_law 707 [a0, a1, a2, some (.int x)] st S P ↔ rn G mm_Law_law 708 [a0, a1, a2, some (.int x)] (.int x :: st) S P := rn_s dq_Law_law_707 rfl rfl rfl
theorem dq_Law_law_708 : decode (km_c mm_Law_law) 708 = .ok (.iconst 1, 1) := by decide +kernel
theorem sq_Law_law_708 : rn G mm_Law_law 708 lv st S P ↔ rn G mm_Law_law 709 lv (.int (nI 1) :: st) S P := rn_s dq_Law_law_708 rfl rfl rfl
theorem dq_Law_law_709 : decode (km_c mm_Law_law) 709 = .ok (.iadd, 1) := by decide +kernel
theorem sq_Law_law_709 : rn G mm_Law_law 709 lv (.int x2 :: .int x :: st) S P ↔ rn G mm_Law_law 710 lv (.int (x + x2) :: st) S P := rn_s dq_Law_law_709 rfl rfl rfl
theorem dq_Law_law_710 : decode (km_c mm_Law_law) 710 = .ok (.iaload, 1) := by decide +kernel
theorem sq_Law_law_710 (ho : sx_o o pl kp) (hk : ak L a = 0) (hu : sx_up pl kp a = true ∨ 1000 ≤ a) (hc : c < ln L a) (hn : ln L a < 2 ^ 31) : rn (lt_G o L) mm_Law_law 710 lv (.int (nI c) :: .ref a :: st) (sx pl kp I A) P ↔ rn (lt_G o L) mm_Law_law 711 lv (.int (A a c) :: st) (sx pl kp I A) P := rx_ild dq_Law_law_710 ho hk hu hc hn
theorem dq_Law_law_711 : decode (km_c mm_Law_law) 711 = .ok (.invokevirtual 96, 3) := by decide +kernel
theorem sq_Law_law_711_0 {x1 : Int32} {v : Option Value} {S2 : ks_S} (hc : ev (lt_G o L) mm_Road_road [.ref 0, .int x1] (sx pl kp I A) v S2) (ho : sx_o o pl kp) (hst : kx_cat st ≤ 8) : rn (lt_G o L) mm_Law_law 711 lv (.int x1 :: .ref 0 :: st) (sx pl kp I A) P ↔ rn (lt_G o L) mm_Law_law 714 lv (v.toList ++ st) S2 P := rn_cv (k := 0) (host := "") (E' := mm_Road_road) dq_Law_law_711 rfl (ok_v rfl (by decide) (by decide) (Nat.le_add_left _ _) hst (Nat.le_of_ble_eq_true rfl) (Or.inr (rc_v ho (up_b (by decide)) rfl))) rfl rfl hc
theorem dq_Law_law_714 : decode (km_c mm_Law_law) 714 = .ok (.aload_n 2, 1) := by decide +kernel
theorem sq_Law_law_714 : rn G mm_Law_law 714 [a0, a1, some (.ref z), a3] st S P ↔ rn G mm_Law_law 715 [a0, a1, some (.ref z), a3] (.ref z :: st) S P := rn_s dq_Law_law_714 rfl rfl rfl
theorem dq_Law_law_715 : decode (km_c mm_Law_law) 715 = .ok (.aload_n 0, 1) := by decide +kernel
theorem sq_Law_law_715 : rn G mm_Law_law 715 [some (.ref z), a1, a2, a3] st S P ↔ rn G mm_Law_law 716 [some (.ref z), a1, a2, a3] (.ref z :: st) S P := rn_s dq_Law_law_715 rfl rfl rfl
theorem dq_Law_law_716 : decode (km_c mm_Law_law) 716 = .ok (.iload_n 3, 1) := by decide +kernel
theorem sq_Law_law_716 : rn G mm_Law_law 716 [a0, a1, a2, some (.int x)] st S P ↔ rn G mm_Law_law 717 [a0, a1, a2, some (.int x)] (.int x :: st) S P := rn_s dq_Law_law_716 rfl rfl rfl
theorem dq_Law_law_717 : decode (km_c mm_Law_law) 717 = .ok (.iconst 1, 1) := by decide +kernel
theorem sq_Law_law_717 : rn G mm_Law_law 717 lv st S P ↔ rn G mm_Law_law 718 lv (.int (nI 1) :: st) S P := rn_s dq_Law_law_717 rfl rfl rfl
theorem dq_Law_law_718 : decode (km_c mm_Law_law) 718 = .ok (.iadd, 1) := by decide +kernel
theorem sq_Law_law_718 : rn G mm_Law_law 718 lv (.int x2 :: .int x :: st) S P ↔ rn G mm_Law_law 719 lv (.int (x + x2) :: st) S P := rn_s dq_Law_law_718 rfl rfl rfl
theorem dq_Law_law_719 : decode (km_c mm_Law_law) 719 = .ok (.iaload, 1) := by decide +kernel
theorem sq_Law_law_719 (ho : sx_o o pl kp) (hk : ak L a = 0) (hu : sx_up pl kp a = true ∨ 1000 ≤ a) (hc : c < ln L a) (hn : ln L a < 2 ^ 31) : rn (lt_G o L) mm_Law_law 719 lv (.int (nI c) :: .ref a :: st) (sx pl kp I A) P ↔ rn (lt_G o L) mm_Law_law 720 lv (.int (A a c) :: st) (sx pl kp I A) P := rx_ild dq_Law_law_719 ho hk hu hc hn
theorem dq_Law_law_720 : decode (km_c mm_Law_law) 720 = .ok (.invokevirtual 99, 3) := by decide +kernel
theorem sq_Law_law_720_45 {x1 : Int32} {v : Option Value} {S2 : ks_S} (hc : ev (lt_G o L) mm_Model_road [.ref 45, .int x1] (sx pl kp I A) v S2) (ho : sx_o o pl kp) (hst : kx_cat st ≤ 8) : rn (lt_G o L) mm_Law_law 720 lv (.int x1 :: .ref 45 :: st) (sx pl kp I A) P ↔ rn (lt_G o L) mm_Law_law 723 lv (v.toList ++ st) S2 P := rn_cv (k := 0) (host := "") (E' := mm_Model_road) dq_Law_law_720 rfl (ok_v rfl (by decide) (by decide) (Nat.le_add_left _ _) hst (Nat.le_of_ble_eq_true rfl) (Or.inr (rc_v ho (up_b (by decide)) rfl))) rfl rfl hc
theorem dq_Law_law_723 : decode (km_c mm_Law_law) 723 = .ok (.if_icmp .eq 451, 3) := by decide +kernel
theorem sq_Law_law_723 : rn G mm_Law_law 723 lv (.int x2 :: .int x :: st) S P ↔ ((x = x2 → rn G mm_Law_law 1174 lv st S P) ∧ (¬ (x = x2) → rn G mm_Law_law 726 lv st S P)) := rn_b (off := 451) dq_Law_law_723 rfl rfl rfl rfl
theorem dq_Law_law_726 : decode (km_c mm_Law_law) 726 = .ok (.iconst 0, 1) := by decide +kernel
theorem sq_Law_law_726 : rn G mm_Law_law 726 lv st S P ↔ rn G mm_Law_law 727 lv (.int (nI 0) :: st) S P := rn_s dq_Law_law_726 rfl rfl rfl
theorem dq_Law_law_727 : decode (km_c mm_Law_law) 727 = .ok (.ireturn, 1) := by decide +kernel
theorem sq_Law_law_727_0 : rn G mm_Law_law 727 lv [.int (nI 0)] S P ↔ P (some (.int (nI 0))) S := rn_ir dq_Law_law_727 (by decide)
theorem sq_Law_law_727_1 : rn G mm_Law_law 727 lv [.int (nI 1)] S P ↔ P (some (.int (nI 1))) S := rn_ir dq_Law_law_727 (by decide)
theorem dq_Law_law_728 : decode (km_c mm_Law_law) 728 = .ok (.aload_n 1, 1) := by decide +kernel
theorem sq_Law_law_728 : rn G mm_Law_law 728 [a0, some (.ref z), a2, a3] st S P ↔ rn G mm_Law_law 729 [a0, some (.ref z), a2, a3] (.ref z :: st) S P := rn_s dq_Law_law_728 rfl rfl rfl
theorem dq_Law_law_729 : decode (km_c mm_Law_law) 729 = .ok (.aload_n 0, 1) := by decide +kernel
theorem sq_Law_law_729 : rn G mm_Law_law 729 [some (.ref z), a1, a2, a3] st S P ↔ rn G mm_Law_law 730 [some (.ref z), a1, a2, a3] (.ref z :: st) S P := rn_s dq_Law_law_729 rfl rfl rfl
theorem dq_Law_law_730 : decode (km_c mm_Law_law) 730 = .ok (.iload_n 3, 1) := by decide +kernel
theorem sq_Law_law_730 : rn G mm_Law_law 730 [a0, a1, a2, some (.int x)] st S P ↔ rn G mm_Law_law 731 [a0, a1, a2, some (.int x)] (.int x :: st) S P := rn_s dq_Law_law_730 rfl rfl rfl
theorem dq_Law_law_731 : decode (km_c mm_Law_law) 731 = .ok (.iconst 1, 1) := by decide +kernel
theorem sq_Law_law_731 : rn G mm_Law_law 731 lv st S P ↔ rn G mm_Law_law 732 lv (.int (nI 1) :: st) S P := rn_s dq_Law_law_731 rfl rfl rfl
theorem dq_Law_law_732 : decode (km_c mm_Law_law) 732 = .ok (.iadd, 1) := by decide +kernel
theorem sq_Law_law_732 : rn G mm_Law_law 732 lv (.int x2 :: .int x :: st) S P ↔ rn G mm_Law_law 733 lv (.int (x + x2) :: st) S P := rn_s dq_Law_law_732 rfl rfl rfl
theorem dq_Law_law_733 : decode (km_c mm_Law_law) 733 = .ok (.iaload, 1) := by decide +kernel
theorem sq_Law_law_733 (ho : sx_o o pl kp) (hk : ak L a = 0) (hu : sx_up pl kp a = true ∨ 1000 ≤ a) (hc : c < ln L a) (hn : ln L a < 2 ^ 31) : rn (lt_G o L) mm_Law_law 733 lv (.int (nI c) :: .ref a :: st) (sx pl kp I A) P ↔ rn (lt_G o L) mm_Law_law 734 lv (.int (A a c) :: st) (sx pl kp I A) P := rx_ild dq_Law_law_733 ho hk hu hc hn
theorem dq_Law_law_734 : decode (km_c mm_Law_law) 734 = .ok (.aload_n 0, 1) := by decide +kernel
theorem sq_Law_law_734 : rn G mm_Law_law 734 [some (.ref z), a1, a2, a3] st S P ↔ rn G mm_Law_law 735 [some (.ref z), a1, a2, a3] (.ref z :: st) S P := rn_s dq_Law_law_734 rfl rfl rfl
theorem dq_Law_law_735 : decode (km_c mm_Law_law) 735 = .ok (.iload_n 3, 1) := by decide +kernel
theorem sq_Law_law_735 : rn G mm_Law_law 735 [a0, a1, a2, some (.int x)] st S P ↔ rn G mm_Law_law 736 [a0, a1, a2, some (.int x)] (.int x :: st) S P := rn_s dq_Law_law_735 rfl rfl rfl
theorem dq_Law_law_736 : decode (km_c mm_Law_law) 736 = .ok (.iconst 2, 1) := by decide +kernel
theorem sq_Law_law_736 : rn G mm_Law_law 736 lv st S P ↔ rn G mm_Law_law 737 lv (.int (nI 2) :: st) S P := rn_s dq_Law_law_736 rfl rfl rfl
theorem dq_Law_law_737 : decode (km_c mm_Law_law) 737 = .ok (.iadd, 1) := by decide +kernel
theorem sq_Law_law_737 : rn G mm_Law_law 737 lv (.int x2 :: .int x :: st) S P ↔ rn G mm_Law_law 738 lv (.int (x + x2) :: st) S P := rn_s dq_Law_law_737 rfl rfl rfl
theorem dq_Law_law_738 : decode (km_c mm_Law_law) 738 = .ok (.iaload, 1) := by decide +kernel
theorem sq_Law_law_738 (ho : sx_o o pl kp) (hk : ak L a = 0) (hu : sx_up pl kp a = true ∨ 1000 ≤ a) (hc : c < ln L a) (hn : ln L a < 2 ^ 31) : rn (lt_G o L) mm_Law_law 738 lv (.int (nI c) :: .ref a :: st) (sx pl kp I A) P ↔ rn (lt_G o L) mm_Law_law 739 lv (.int (A a c) :: st) (sx pl kp I A) P := rx_ild dq_Law_law_738 ho hk hu hc hn
theorem dq_Law_law_739 : decode (km_c mm_Law_law) 739 = .ok (.invokevirtual 100, 3) := by decide +kernel
theorem sq_Law_law_739_0 {x1 : Int32} {x2 : Int32} {v : Option Value} {S2 : ks_S} (hc : ev (lt_G o L) mm_Road_sinks [.ref 0, .int x1, .int x2] (sx pl kp I A) v S2) (ho : sx_o o pl kp) (hst : kx_cat st ≤ 8) : rn (lt_G o L) mm_Law_law 739 lv (.int x2 :: .int x1 :: .ref 0 :: st) (sx pl kp I A) P ↔ rn (lt_G o L) mm_Law_law 742 lv (v.toList ++ st) S2 P := rn_cv (k := 0) (host := "") (E' := mm_Road_sinks) dq_Law_law_739 rfl (ok_v rfl (by decide) (by decide) (Nat.le_add_left _ _) hst (Nat.le_of_ble_eq_true rfl) (Or.inr (rc_v ho (up_b (by decide)) rfl))) rfl rfl hc
theorem dq_Law_law_742 : decode (km_c mm_Law_law) 742 = .ok (.aload_n 2, 1) := by decide +kernel
theorem sq_Law_law_742 : rn G mm_Law_law 742 [a0, a1, some (.ref z), a3] st S P ↔ rn G mm_Law_law 743 [a0, a1, some (.ref z), a3] (.ref z :: st) S P := rn_s dq_Law_law_742 rfl rfl rfl
theorem dq_Law_law_743 : decode (km_c mm_Law_law) 743 = .ok (.aload_n 0, 1) := by decide +kernel
theorem sq_Law_law_743 : rn G mm_Law_law 743 [some (.ref z), a1, a2, a3] st S P ↔ rn G mm_Law_law 744 [some (.ref z), a1, a2, a3] (.ref z :: st) S P := rn_s dq_Law_law_743 rfl rfl rfl
theorem dq_Law_law_744 : decode (km_c mm_Law_law) 744 = .ok (.iload_n 3, 1) := by decide +kernel
theorem sq_Law_law_744 : rn G mm_Law_law 744 [a0, a1, a2, some (.int x)] st S P ↔ rn G mm_Law_law 745 [a0, a1, a2, some (.int x)] (.int x :: st) S P := rn_s dq_Law_law_744 rfl rfl rfl
theorem dq_Law_law_745 : decode (km_c mm_Law_law) 745 = .ok (.iconst 1, 1) := by decide +kernel
theorem sq_Law_law_745 : rn G mm_Law_law 745 lv st S P ↔ rn G mm_Law_law 746 lv (.int (nI 1) :: st) S P := rn_s dq_Law_law_745 rfl rfl rfl
theorem dq_Law_law_746 : decode (km_c mm_Law_law) 746 = .ok (.iadd, 1) := by decide +kernel
theorem sq_Law_law_746 : rn G mm_Law_law 746 lv (.int x2 :: .int x :: st) S P ↔ rn G mm_Law_law 747 lv (.int (x + x2) :: st) S P := rn_s dq_Law_law_746 rfl rfl rfl
theorem dq_Law_law_747 : decode (km_c mm_Law_law) 747 = .ok (.iaload, 1) := by decide +kernel
theorem sq_Law_law_747 (ho : sx_o o pl kp) (hk : ak L a = 0) (hu : sx_up pl kp a = true ∨ 1000 ≤ a) (hc : c < ln L a) (hn : ln L a < 2 ^ 31) : rn (lt_G o L) mm_Law_law 747 lv (.int (nI c) :: .ref a :: st) (sx pl kp I A) P ↔ rn (lt_G o L) mm_Law_law 748 lv (.int (A a c) :: st) (sx pl kp I A) P := rx_ild dq_Law_law_747 ho hk hu hc hn
theorem dq_Law_law_748 : decode (km_c mm_Law_law) 748 = .ok (.aload_n 0, 1) := by decide +kernel
theorem sq_Law_law_748 : rn G mm_Law_law 748 [some (.ref z), a1, a2, a3] st S P ↔ rn G mm_Law_law 749 [some (.ref z), a1, a2, a3] (.ref z :: st) S P := rn_s dq_Law_law_748 rfl rfl rfl
theorem dq_Law_law_749 : decode (km_c mm_Law_law) 749 = .ok (.iload_n 3, 1) := by decide +kernel
theorem sq_Law_law_749 : rn G mm_Law_law 749 [a0, a1, a2, some (.int x)] st S P ↔ rn G mm_Law_law 750 [a0, a1, a2, some (.int x)] (.int x :: st) S P := rn_s dq_Law_law_749 rfl rfl rfl
theorem dq_Law_law_750 : decode (km_c mm_Law_law) 750 = .ok (.iconst 2, 1) := by decide +kernel
theorem sq_Law_law_750 : rn G mm_Law_law 750 lv st S P ↔ rn G mm_Law_law 751 lv (.int (nI 2) :: st) S P := rn_s dq_Law_law_750 rfl rfl rfl
theorem dq_Law_law_751 : decode (km_c mm_Law_law) 751 = .ok (.iadd, 1) := by decide +kernel
theorem sq_Law_law_751 : rn G mm_Law_law 751 lv (.int x2 :: .int x :: st) S P ↔ rn G mm_Law_law 752 lv (.int (x + x2) :: st) S P := rn_s dq_Law_law_751 rfl rfl rfl
theorem dq_Law_law_752 : decode (km_c mm_Law_law) 752 = .ok (.iaload, 1) := by decide +kernel
theorem sq_Law_law_752 (ho : sx_o o pl kp) (hk : ak L a = 0) (hu : sx_up pl kp a = true ∨ 1000 ≤ a) (hc : c < ln L a) (hn : ln L a < 2 ^ 31) : rn (lt_G o L) mm_Law_law 752 lv (.int (nI c) :: .ref a :: st) (sx pl kp I A) P ↔ rn (lt_G o L) mm_Law_law 753 lv (.int (A a c) :: st) (sx pl kp I A) P := rx_ild dq_Law_law_752 ho hk hu hc hn
theorem dq_Law_law_753 : decode (km_c mm_Law_law) 753 = .ok (.invokevirtual 103, 3) := by decide +kernel
theorem sq_Law_law_753_45 {x1 : Int32} {x2 : Int32} {v : Option Value} {S2 : ks_S} (hc : ev (lt_G o L) mm_Model_sinks [.ref 45, .int x1, .int x2] (sx pl kp I A) v S2) (ho : sx_o o pl kp) (hst : kx_cat st ≤ 8) : rn (lt_G o L) mm_Law_law 753 lv (.int x2 :: .int x1 :: .ref 45 :: st) (sx pl kp I A) P ↔ rn (lt_G o L) mm_Law_law 756 lv (v.toList ++ st) S2 P := rn_cv (k := 0) (host := "") (E' := mm_Model_sinks) dq_Law_law_753 rfl (ok_v rfl (by decide) (by decide) (Nat.le_add_left _ _) hst (Nat.le_of_ble_eq_true rfl) (Or.inr (rc_v ho (up_b (by decide)) rfl))) rfl rfl hc
theorem dq_Law_law_756 : decode (km_c mm_Law_law) 756 = .ok (.if_icmp .eq 418, 3) := by decide +kernel
theorem sq_Law_law_756 : rn G mm_Law_law 756 lv (.int x2 :: .int x :: st) S P ↔ ((x = x2 → rn G mm_Law_law 1174 lv st S P) ∧ (¬ (x = x2) → rn G mm_Law_law 759 lv st S P)) := rn_b (off := 418) dq_Law_law_756 rfl rfl rfl rfl
theorem dq_Law_law_759 : decode (km_c mm_Law_law) 759 = .ok (.iconst 0, 1) := by decide +kernel
theorem sq_Law_law_759 : rn G mm_Law_law 759 lv st S P ↔ rn G mm_Law_law 760 lv (.int (nI 0) :: st) S P := rn_s dq_Law_law_759 rfl rfl rfl
theorem dq_Law_law_760 : decode (km_c mm_Law_law) 760 = .ok (.ireturn, 1) := by decide +kernel
theorem sq_Law_law_760_0 : rn G mm_Law_law 760 lv [.int (nI 0)] S P ↔ P (some (.int (nI 0))) S := rn_ir dq_Law_law_760 (by decide)
theorem sq_Law_law_760_1 : rn G mm_Law_law 760 lv [.int (nI 1)] S P ↔ P (some (.int (nI 1))) S := rn_ir dq_Law_law_760 (by decide)
theorem dq_Law_law_761 : decode (km_c mm_Law_law) 761 = .ok (.aload_n 1, 1) := by decide +kernel
theorem sq_Law_law_761 : rn G mm_Law_law 761 [a0, some (.ref z), a2, a3] st S P ↔ rn G mm_Law_law 762 [a0, some (.ref z), a2, a3] (.ref z :: st) S P := rn_s dq_Law_law_761 rfl rfl rfl
theorem dq_Law_law_762 : decode (km_c mm_Law_law) 762 = .ok (.aload_n 0, 1) := by decide +kernel
theorem sq_Law_law_762 : rn G mm_Law_law 762 [some (.ref z), a1, a2, a3] st S P ↔ rn G mm_Law_law 763 [some (.ref z), a1, a2, a3] (.ref z :: st) S P := rn_s dq_Law_law_762 rfl rfl rfl
theorem dq_Law_law_763 : decode (km_c mm_Law_law) 763 = .ok (.iload_n 3, 1) := by decide +kernel
theorem sq_Law_law_763 : rn G mm_Law_law 763 [a0, a1, a2, some (.int x)] st S P ↔ rn G mm_Law_law 764 [a0, a1, a2, some (.int x)] (.int x :: st) S P := rn_s dq_Law_law_763 rfl rfl rfl
theorem dq_Law_law_764 : decode (km_c mm_Law_law) 764 = .ok (.iconst 1, 1) := by decide +kernel
theorem sq_Law_law_764 : rn G mm_Law_law 764 lv st S P ↔ rn G mm_Law_law 765 lv (.int (nI 1) :: st) S P := rn_s dq_Law_law_764 rfl rfl rfl
theorem dq_Law_law_765 : decode (km_c mm_Law_law) 765 = .ok (.iadd, 1) := by decide +kernel
theorem sq_Law_law_765 : rn G mm_Law_law 765 lv (.int x2 :: .int x :: st) S P ↔ rn G mm_Law_law 766 lv (.int (x + x2) :: st) S P := rn_s dq_Law_law_765 rfl rfl rfl
theorem dq_Law_law_766 : decode (km_c mm_Law_law) 766 = .ok (.iaload, 1) := by decide +kernel
theorem sq_Law_law_766 (ho : sx_o o pl kp) (hk : ak L a = 0) (hu : sx_up pl kp a = true ∨ 1000 ≤ a) (hc : c < ln L a) (hn : ln L a < 2 ^ 31) : rn (lt_G o L) mm_Law_law 766 lv (.int (nI c) :: .ref a :: st) (sx pl kp I A) P ↔ rn (lt_G o L) mm_Law_law 767 lv (.int (A a c) :: st) (sx pl kp I A) P := rx_ild dq_Law_law_766 ho hk hu hc hn
theorem dq_Law_law_767 : decode (km_c mm_Law_law) 767 = .ok (.invokevirtual 104, 3) := by decide +kernel
theorem sq_Law_law_767_0 {x1 : Int32} {v : Option Value} {S2 : ks_S} (hc : ev (lt_G o L) mm_Road_toll [.ref 0, .int x1] (sx pl kp I A) v S2) (ho : sx_o o pl kp) (hst : kx_cat st ≤ 8) : rn (lt_G o L) mm_Law_law 767 lv (.int x1 :: .ref 0 :: st) (sx pl kp I A) P ↔ rn (lt_G o L) mm_Law_law 770 lv (v.toList ++ st) S2 P := rn_cv (k := 0) (host := "") (E' := mm_Road_toll) dq_Law_law_767 rfl (ok_v rfl (by decide) (by decide) (Nat.le_add_left _ _) hst (Nat.le_of_ble_eq_true rfl) (Or.inr (rc_v ho (up_b (by decide)) rfl))) rfl rfl hc
theorem dq_Law_law_770 : decode (km_c mm_Law_law) 770 = .ok (.aload_n 2, 1) := by decide +kernel
theorem sq_Law_law_770 : rn G mm_Law_law 770 [a0, a1, some (.ref z), a3] st S P ↔ rn G mm_Law_law 771 [a0, a1, some (.ref z), a3] (.ref z :: st) S P := rn_s dq_Law_law_770 rfl rfl rfl
theorem dq_Law_law_771 : decode (km_c mm_Law_law) 771 = .ok (.aload_n 0, 1) := by decide +kernel
theorem sq_Law_law_771 : rn G mm_Law_law 771 [some (.ref z), a1, a2, a3] st S P ↔ rn G mm_Law_law 772 [some (.ref z), a1, a2, a3] (.ref z :: st) S P := rn_s dq_Law_law_771 rfl rfl rfl
theorem dq_Law_law_772 : decode (km_c mm_Law_law) 772 = .ok (.iload_n 3, 1) := by decide +kernel
theorem sq_Law_law_772 : rn G mm_Law_law 772 [a0, a1, a2, some (.int x)] st S P ↔ rn G mm_Law_law 773 [a0, a1, a2, some (.int x)] (.int x :: st) S P := rn_s dq_Law_law_772 rfl rfl rfl
theorem dq_Law_law_773 : decode (km_c mm_Law_law) 773 = .ok (.iconst 1, 1) := by decide +kernel
theorem sq_Law_law_773 : rn G mm_Law_law 773 lv st S P ↔ rn G mm_Law_law 774 lv (.int (nI 1) :: st) S P := rn_s dq_Law_law_773 rfl rfl rfl
theorem dq_Law_law_774 : decode (km_c mm_Law_law) 774 = .ok (.iadd, 1) := by decide +kernel
theorem sq_Law_law_774 : rn G mm_Law_law 774 lv (.int x2 :: .int x :: st) S P ↔ rn G mm_Law_law 775 lv (.int (x + x2) :: st) S P := rn_s dq_Law_law_774 rfl rfl rfl
theorem dq_Law_law_775 : decode (km_c mm_Law_law) 775 = .ok (.iaload, 1) := by decide +kernel
theorem sq_Law_law_775 (ho : sx_o o pl kp) (hk : ak L a = 0) (hu : sx_up pl kp a = true ∨ 1000 ≤ a) (hc : c < ln L a) (hn : ln L a < 2 ^ 31) : rn (lt_G o L) mm_Law_law 775 lv (.int (nI c) :: .ref a :: st) (sx pl kp I A) P ↔ rn (lt_G o L) mm_Law_law 776 lv (.int (A a c) :: st) (sx pl kp I A) P := rx_ild dq_Law_law_775 ho hk hu hc hn
theorem dq_Law_law_776 : decode (km_c mm_Law_law) 776 = .ok (.invokevirtual 107, 3) := by decide +kernel
theorem sq_Law_law_776_45 {x1 : Int32} {v : Option Value} {S2 : ks_S} (hc : ev (lt_G o L) mm_Model_toll [.ref 45, .int x1] (sx pl kp I A) v S2) (ho : sx_o o pl kp) (hst : kx_cat st ≤ 8) : rn (lt_G o L) mm_Law_law 776 lv (.int x1 :: .ref 45 :: st) (sx pl kp I A) P ↔ rn (lt_G o L) mm_Law_law 779 lv (v.toList ++ st) S2 P := rn_cv (k := 0) (host := "") (E' := mm_Model_toll) dq_Law_law_776 rfl (ok_v rfl (by decide) (by decide) (Nat.le_add_left _ _) hst (Nat.le_of_ble_eq_true rfl) (Or.inr (rc_v ho (up_b (by decide)) rfl))) rfl rfl hc
theorem dq_Law_law_779 : decode (km_c mm_Law_law) 779 = .ok (.if_icmp .eq 395, 3) := by decide +kernel
theorem sq_Law_law_779 : rn G mm_Law_law 779 lv (.int x2 :: .int x :: st) S P ↔ ((x = x2 → rn G mm_Law_law 1174 lv st S P) ∧ (¬ (x = x2) → rn G mm_Law_law 782 lv st S P)) := rn_b (off := 395) dq_Law_law_779 rfl rfl rfl rfl
theorem dq_Law_law_782 : decode (km_c mm_Law_law) 782 = .ok (.iconst 0, 1) := by decide +kernel
theorem sq_Law_law_782 : rn G mm_Law_law 782 lv st S P ↔ rn G mm_Law_law 783 lv (.int (nI 0) :: st) S P := rn_s dq_Law_law_782 rfl rfl rfl
theorem dq_Law_law_783 : decode (km_c mm_Law_law) 783 = .ok (.ireturn, 1) := by decide +kernel
theorem sq_Law_law_783_0 : rn G mm_Law_law 783 lv [.int (nI 0)] S P ↔ P (some (.int (nI 0))) S := rn_ir dq_Law_law_783 (by decide)
theorem sq_Law_law_783_1 : rn G mm_Law_law 783 lv [.int (nI 1)] S P ↔ P (some (.int (nI 1))) S := rn_ir dq_Law_law_783 (by decide)
theorem dq_Law_law_784 : decode (km_c mm_Law_law) 784 = .ok (.aload_n 1, 1) := by decide +kernel
theorem sq_Law_law_784 : rn G mm_Law_law 784 [a0, some (.ref z), a2, a3] st S P ↔ rn G mm_Law_law 785 [a0, some (.ref z), a2, a3] (.ref z :: st) S P := rn_s dq_Law_law_784 rfl rfl rfl
theorem dq_Law_law_785 : decode (km_c mm_Law_law) 785 = .ok (.invokevirtual 108, 3) := by decide +kernel
theorem sq_Law_law_785_0  {v : Option Value} {S2 : ks_S} (hc : ev (lt_G o L) mm_Road_goes [.ref 0] (sx pl kp I A) v S2) (ho : sx_o o pl kp) (hst : kx_cat st ≤ 8) : rn (lt_G o L) mm_Law_law 785 lv (.ref 0 :: st) (sx pl kp I A) P ↔ rn (lt_G o L) mm_Law_law 788 lv (v.toList ++ st) S2 P := rn_cv (k := 0) (host := "") (E' := mm_Road_goes) dq_Law_law_785 rfl (ok_v rfl (by decide) (by decide) (Nat.le_add_left _ _) hst (Nat.le_of_ble_eq_true rfl) (Or.inr (rc_v ho (up_b (by decide)) rfl))) rfl rfl hc
theorem dq_Law_law_788 : decode (km_c mm_Law_law) 788 = .ok (.aload_n 2, 1) := by decide +kernel
theorem sq_Law_law_788 : rn G mm_Law_law 788 [a0, a1, some (.ref z), a3] st S P ↔ rn G mm_Law_law 789 [a0, a1, some (.ref z), a3] (.ref z :: st) S P := rn_s dq_Law_law_788 rfl rfl rfl
theorem dq_Law_law_789 : decode (km_c mm_Law_law) 789 = .ok (.invokevirtual 111, 3) := by decide +kernel
theorem sq_Law_law_789_45  {v : Option Value} {S2 : ks_S} (hc : ev (lt_G o L) mm_Model_goes [.ref 45] (sx pl kp I A) v S2) (ho : sx_o o pl kp) (hst : kx_cat st ≤ 8) : rn (lt_G o L) mm_Law_law 789 lv (.ref 45 :: st) (sx pl kp I A) P ↔ rn (lt_G o L) mm_Law_law 792 lv (v.toList ++ st) S2 P := rn_cv (k := 0) (host := "") (E' := mm_Model_goes) dq_Law_law_789 rfl (ok_v rfl (by decide) (by decide) (Nat.le_add_left _ _) hst (Nat.le_of_ble_eq_true rfl) (Or.inr (rc_v ho (up_b (by decide)) rfl))) rfl rfl hc
theorem dq_Law_law_792 : decode (km_c mm_Law_law) 792 = .ok (.if_icmp .eq 382, 3) := by decide +kernel
theorem sq_Law_law_792 : rn G mm_Law_law 792 lv (.int x2 :: .int x :: st) S P ↔ ((x = x2 → rn G mm_Law_law 1174 lv st S P) ∧ (¬ (x = x2) → rn G mm_Law_law 795 lv st S P)) := rn_b (off := 382) dq_Law_law_792 rfl rfl rfl rfl
theorem dq_Law_law_795 : decode (km_c mm_Law_law) 795 = .ok (.iconst 0, 1) := by decide +kernel
theorem sq_Law_law_795 : rn G mm_Law_law 795 lv st S P ↔ rn G mm_Law_law 796 lv (.int (nI 0) :: st) S P := rn_s dq_Law_law_795 rfl rfl rfl
theorem dq_Law_law_796 : decode (km_c mm_Law_law) 796 = .ok (.ireturn, 1) := by decide +kernel
theorem sq_Law_law_796_0 : rn G mm_Law_law 796 lv [.int (nI 0)] S P ↔ P (some (.int (nI 0))) S := rn_ir dq_Law_law_796 (by decide)
theorem sq_Law_law_796_1 : rn G mm_Law_law 796 lv [.int (nI 1)] S P ↔ P (some (.int (nI 1))) S := rn_ir dq_Law_law_796 (by decide)
theorem dq_Law_law_797 : decode (km_c mm_Law_law) 797 = .ok (.aload_n 1, 1) := by decide +kernel
theorem sq_Law_law_797 : rn G mm_Law_law 797 [a0, some (.ref z), a2, a3] st S P ↔ rn G mm_Law_law 798 [a0, some (.ref z), a2, a3] (.ref z :: st) S P := rn_s dq_Law_law_797 rfl rfl rfl
theorem dq_Law_law_798 : decode (km_c mm_Law_law) 798 = .ok (.aload_n 0, 1) := by decide +kernel
theorem sq_Law_law_798 : rn G mm_Law_law 798 [some (.ref z), a1, a2, a3] st S P ↔ rn G mm_Law_law 799 [some (.ref z), a1, a2, a3] (.ref z :: st) S P := rn_s dq_Law_law_798 rfl rfl rfl
theorem dq_Law_law_799 : decode (km_c mm_Law_law) 799 = .ok (.iload_n 3, 1) := by decide +kernel
theorem sq_Law_law_799 : rn G mm_Law_law 799 [a0, a1, a2, some (.int x)] st S P ↔ rn G mm_Law_law 800 [a0, a1, a2, some (.int x)] (.int x :: st) S P := rn_s dq_Law_law_799 rfl rfl rfl
theorem dq_Law_law_800 : decode (km_c mm_Law_law) 800 = .ok (.iconst 1, 1) := by decide +kernel
theorem sq_Law_law_800 : rn G mm_Law_law 800 lv st S P ↔ rn G mm_Law_law 801 lv (.int (nI 1) :: st) S P := rn_s dq_Law_law_800 rfl rfl rfl
theorem dq_Law_law_801 : decode (km_c mm_Law_law) 801 = .ok (.iadd, 1) := by decide +kernel
theorem sq_Law_law_801 : rn G mm_Law_law 801 lv (.int x2 :: .int x :: st) S P ↔ rn G mm_Law_law 802 lv (.int (x + x2) :: st) S P := rn_s dq_Law_law_801 rfl rfl rfl
theorem dq_Law_law_802 : decode (km_c mm_Law_law) 802 = .ok (.iaload, 1) := by decide +kernel
theorem sq_Law_law_802 (ho : sx_o o pl kp) (hk : ak L a = 0) (hu : sx_up pl kp a = true ∨ 1000 ≤ a) (hc : c < ln L a) (hn : ln L a < 2 ^ 31) : rn (lt_G o L) mm_Law_law 802 lv (.int (nI c) :: .ref a :: st) (sx pl kp I A) P ↔ rn (lt_G o L) mm_Law_law 803 lv (.int (A a c) :: st) (sx pl kp I A) P := rx_ild dq_Law_law_802 ho hk hu hc hn
theorem dq_Law_law_803 : decode (km_c mm_Law_law) 803 = .ok (.aload_n 0, 1) := by decide +kernel
theorem sq_Law_law_803 : rn G mm_Law_law 803 [some (.ref z), a1, a2, a3] st S P ↔ rn G mm_Law_law 804 [some (.ref z), a1, a2, a3] (.ref z :: st) S P := rn_s dq_Law_law_803 rfl rfl rfl
theorem dq_Law_law_804 : decode (km_c mm_Law_law) 804 = .ok (.iload_n 3, 1) := by decide +kernel
theorem sq_Law_law_804 : rn G mm_Law_law 804 [a0, a1, a2, some (.int x)] st S P ↔ rn G mm_Law_law 805 [a0, a1, a2, some (.int x)] (.int x :: st) S P := rn_s dq_Law_law_804 rfl rfl rfl
theorem dq_Law_law_805 : decode (km_c mm_Law_law) 805 = .ok (.iconst 2, 1) := by decide +kernel
theorem sq_Law_law_805 : rn G mm_Law_law 805 lv st S P ↔ rn G mm_Law_law 806 lv (.int (nI 2) :: st) S P := rn_s dq_Law_law_805 rfl rfl rfl
theorem dq_Law_law_806 : decode (km_c mm_Law_law) 806 = .ok (.iadd, 1) := by decide +kernel
theorem sq_Law_law_806 : rn G mm_Law_law 806 lv (.int x2 :: .int x :: st) S P ↔ rn G mm_Law_law 807 lv (.int (x + x2) :: st) S P := rn_s dq_Law_law_806 rfl rfl rfl
theorem dq_Law_law_807 : decode (km_c mm_Law_law) 807 = .ok (.iaload, 1) := by decide +kernel
theorem sq_Law_law_807 (ho : sx_o o pl kp) (hk : ak L a = 0) (hu : sx_up pl kp a = true ∨ 1000 ≤ a) (hc : c < ln L a) (hn : ln L a < 2 ^ 31) : rn (lt_G o L) mm_Law_law 807 lv (.int (nI c) :: .ref a :: st) (sx pl kp I A) P ↔ rn (lt_G o L) mm_Law_law 808 lv (.int (A a c) :: st) (sx pl kp I A) P := rx_ild dq_Law_law_807 ho hk hu hc hn
theorem dq_Law_law_808 : decode (km_c mm_Law_law) 808 = .ok (.invokevirtual 112, 3) := by decide +kernel
theorem sq_Law_law_808_0 {x1 : Int32} {x2 : Int32} {v : Option Value} {S2 : ks_S} (hc : ev (lt_G o L) mm_Road_weight [.ref 0, .int x1, .int x2] (sx pl kp I A) v S2) (ho : sx_o o pl kp) (hst : kx_cat st ≤ 8) : rn (lt_G o L) mm_Law_law 808 lv (.int x2 :: .int x1 :: .ref 0 :: st) (sx pl kp I A) P ↔ rn (lt_G o L) mm_Law_law 811 lv (v.toList ++ st) S2 P := rn_cv (k := 0) (host := "") (E' := mm_Road_weight) dq_Law_law_808 rfl (ok_v rfl (by decide) (by decide) (Nat.le_add_left _ _) hst (Nat.le_of_ble_eq_true rfl) (Or.inr (rc_v ho (up_b (by decide)) rfl))) rfl rfl hc
theorem dq_Law_law_811 : decode (km_c mm_Law_law) 811 = .ok (.aload_n 2, 1) := by decide +kernel
theorem sq_Law_law_811 : rn G mm_Law_law 811 [a0, a1, some (.ref z), a3] st S P ↔ rn G mm_Law_law 812 [a0, a1, some (.ref z), a3] (.ref z :: st) S P := rn_s dq_Law_law_811 rfl rfl rfl
theorem dq_Law_law_812 : decode (km_c mm_Law_law) 812 = .ok (.aload_n 0, 1) := by decide +kernel
theorem sq_Law_law_812 : rn G mm_Law_law 812 [some (.ref z), a1, a2, a3] st S P ↔ rn G mm_Law_law 813 [some (.ref z), a1, a2, a3] (.ref z :: st) S P := rn_s dq_Law_law_812 rfl rfl rfl
theorem dq_Law_law_813 : decode (km_c mm_Law_law) 813 = .ok (.iload_n 3, 1) := by decide +kernel
theorem sq_Law_law_813 : rn G mm_Law_law 813 [a0, a1, a2, some (.int x)] st S P ↔ rn G mm_Law_law 814 [a0, a1, a2, some (.int x)] (.int x :: st) S P := rn_s dq_Law_law_813 rfl rfl rfl
theorem dq_Law_law_814 : decode (km_c mm_Law_law) 814 = .ok (.iconst 1, 1) := by decide +kernel
theorem sq_Law_law_814 : rn G mm_Law_law 814 lv st S P ↔ rn G mm_Law_law 815 lv (.int (nI 1) :: st) S P := rn_s dq_Law_law_814 rfl rfl rfl
theorem dq_Law_law_815 : decode (km_c mm_Law_law) 815 = .ok (.iadd, 1) := by decide +kernel
theorem sq_Law_law_815 : rn G mm_Law_law 815 lv (.int x2 :: .int x :: st) S P ↔ rn G mm_Law_law 816 lv (.int (x + x2) :: st) S P := rn_s dq_Law_law_815 rfl rfl rfl
theorem dq_Law_law_816 : decode (km_c mm_Law_law) 816 = .ok (.iaload, 1) := by decide +kernel
theorem sq_Law_law_816 (ho : sx_o o pl kp) (hk : ak L a = 0) (hu : sx_up pl kp a = true ∨ 1000 ≤ a) (hc : c < ln L a) (hn : ln L a < 2 ^ 31) : rn (lt_G o L) mm_Law_law 816 lv (.int (nI c) :: .ref a :: st) (sx pl kp I A) P ↔ rn (lt_G o L) mm_Law_law 817 lv (.int (A a c) :: st) (sx pl kp I A) P := rx_ild dq_Law_law_816 ho hk hu hc hn
theorem dq_Law_law_817 : decode (km_c mm_Law_law) 817 = .ok (.aload_n 0, 1) := by decide +kernel
theorem sq_Law_law_817 : rn G mm_Law_law 817 [some (.ref z), a1, a2, a3] st S P ↔ rn G mm_Law_law 818 [some (.ref z), a1, a2, a3] (.ref z :: st) S P := rn_s dq_Law_law_817 rfl rfl rfl
theorem dq_Law_law_818 : decode (km_c mm_Law_law) 818 = .ok (.iload_n 3, 1) := by decide +kernel
theorem sq_Law_law_818 : rn G mm_Law_law 818 [a0, a1, a2, some (.int x)] st S P ↔ rn G mm_Law_law 819 [a0, a1, a2, some (.int x)] (.int x :: st) S P := rn_s dq_Law_law_818 rfl rfl rfl
theorem dq_Law_law_819 : decode (km_c mm_Law_law) 819 = .ok (.iconst 2, 1) := by decide +kernel
theorem sq_Law_law_819 : rn G mm_Law_law 819 lv st S P ↔ rn G mm_Law_law 820 lv (.int (nI 2) :: st) S P := rn_s dq_Law_law_819 rfl rfl rfl
theorem dq_Law_law_820 : decode (km_c mm_Law_law) 820 = .ok (.iadd, 1) := by decide +kernel
theorem sq_Law_law_820 : rn G mm_Law_law 820 lv (.int x2 :: .int x :: st) S P ↔ rn G mm_Law_law 821 lv (.int (x + x2) :: st) S P := rn_s dq_Law_law_820 rfl rfl rfl
theorem dq_Law_law_821 : decode (km_c mm_Law_law) 821 = .ok (.iaload, 1) := by decide +kernel
theorem sq_Law_law_821 (ho : sx_o o pl kp) (hk : ak L a = 0) (hu : sx_up pl kp a = true ∨ 1000 ≤ a) (hc : c < ln L a) (hn : ln L a < 2 ^ 31) : rn (lt_G o L) mm_Law_law 821 lv (.int (nI c) :: .ref a :: st) (sx pl kp I A) P ↔ rn (lt_G o L) mm_Law_law 822 lv (.int (A a c) :: st) (sx pl kp I A) P := rx_ild dq_Law_law_821 ho hk hu hc hn
theorem dq_Law_law_822 : decode (km_c mm_Law_law) 822 = .ok (.invokevirtual 115, 3) := by decide +kernel
theorem sq_Law_law_822_45 {x1 : Int32} {x2 : Int32} {v : Option Value} {S2 : ks_S} (hc : ev (lt_G o L) mm_Model_weight [.ref 45, .int x1, .int x2] (sx pl kp I A) v S2) (ho : sx_o o pl kp) (hst : kx_cat st ≤ 8) : rn (lt_G o L) mm_Law_law 822 lv (.int x2 :: .int x1 :: .ref 45 :: st) (sx pl kp I A) P ↔ rn (lt_G o L) mm_Law_law 825 lv (v.toList ++ st) S2 P := rn_cv (k := 0) (host := "") (E' := mm_Model_weight) dq_Law_law_822 rfl (ok_v rfl (by decide) (by decide) (Nat.le_add_left _ _) hst (Nat.le_of_ble_eq_true rfl) (Or.inr (rc_v ho (up_b (by decide)) rfl))) rfl rfl hc
theorem dq_Law_law_825 : decode (km_c mm_Law_law) 825 = .ok (.if_icmp .eq 349, 3) := by decide +kernel
theorem sq_Law_law_825 : rn G mm_Law_law 825 lv (.int x2 :: .int x :: st) S P ↔ ((x = x2 → rn G mm_Law_law 1174 lv st S P) ∧ (¬ (x = x2) → rn G mm_Law_law 828 lv st S P)) := rn_b (off := 349) dq_Law_law_825 rfl rfl rfl rfl
theorem dq_Law_law_828 : decode (km_c mm_Law_law) 828 = .ok (.iconst 0, 1) := by decide +kernel
theorem sq_Law_law_828 : rn G mm_Law_law 828 lv st S P ↔ rn G mm_Law_law 829 lv (.int (nI 0) :: st) S P := rn_s dq_Law_law_828 rfl rfl rfl
theorem dq_Law_law_829 : decode (km_c mm_Law_law) 829 = .ok (.ireturn, 1) := by decide +kernel
theorem sq_Law_law_829_0 : rn G mm_Law_law 829 lv [.int (nI 0)] S P ↔ P (some (.int (nI 0))) S := rn_ir dq_Law_law_829 (by decide)
theorem sq_Law_law_829_1 : rn G mm_Law_law 829 lv [.int (nI 1)] S P ↔ P (some (.int (nI 1))) S := rn_ir dq_Law_law_829 (by decide)
theorem dq_Law_law_830 : decode (km_c mm_Law_law) 830 = .ok (.aload_n 1, 1) := by decide +kernel
theorem sq_Law_law_830 : rn G mm_Law_law 830 [a0, some (.ref z), a2, a3] st S P ↔ rn G mm_Law_law 831 [a0, some (.ref z), a2, a3] (.ref z :: st) S P := rn_s dq_Law_law_830 rfl rfl rfl
theorem dq_Law_law_831 : decode (km_c mm_Law_law) 831 = .ok (.aload_n 0, 1) := by decide +kernel
theorem sq_Law_law_831 : rn G mm_Law_law 831 [some (.ref z), a1, a2, a3] st S P ↔ rn G mm_Law_law 832 [some (.ref z), a1, a2, a3] (.ref z :: st) S P := rn_s dq_Law_law_831 rfl rfl rfl
theorem dq_Law_law_832 : decode (km_c mm_Law_law) 832 = .ok (.iload_n 3, 1) := by decide +kernel
theorem sq_Law_law_832 : rn G mm_Law_law 832 [a0, a1, a2, some (.int x)] st S P ↔ rn G mm_Law_law 833 [a0, a1, a2, some (.int x)] (.int x :: st) S P := rn_s dq_Law_law_832 rfl rfl rfl
theorem dq_Law_law_833 : decode (km_c mm_Law_law) 833 = .ok (.iconst 1, 1) := by decide +kernel
theorem sq_Law_law_833 : rn G mm_Law_law 833 lv st S P ↔ rn G mm_Law_law 834 lv (.int (nI 1) :: st) S P := rn_s dq_Law_law_833 rfl rfl rfl
theorem dq_Law_law_834 : decode (km_c mm_Law_law) 834 = .ok (.iadd, 1) := by decide +kernel
theorem sq_Law_law_834 : rn G mm_Law_law 834 lv (.int x2 :: .int x :: st) S P ↔ rn G mm_Law_law 835 lv (.int (x + x2) :: st) S P := rn_s dq_Law_law_834 rfl rfl rfl
theorem dq_Law_law_835 : decode (km_c mm_Law_law) 835 = .ok (.iaload, 1) := by decide +kernel
theorem sq_Law_law_835 (ho : sx_o o pl kp) (hk : ak L a = 0) (hu : sx_up pl kp a = true ∨ 1000 ≤ a) (hc : c < ln L a) (hn : ln L a < 2 ^ 31) : rn (lt_G o L) mm_Law_law 835 lv (.int (nI c) :: .ref a :: st) (sx pl kp I A) P ↔ rn (lt_G o L) mm_Law_law 836 lv (.int (A a c) :: st) (sx pl kp I A) P := rx_ild dq_Law_law_835 ho hk hu hc hn
theorem dq_Law_law_836 : decode (km_c mm_Law_law) 836 = .ok (.aload_n 0, 1) := by decide +kernel
theorem sq_Law_law_836 : rn G mm_Law_law 836 [some (.ref z), a1, a2, a3] st S P ↔ rn G mm_Law_law 837 [some (.ref z), a1, a2, a3] (.ref z :: st) S P := rn_s dq_Law_law_836 rfl rfl rfl
theorem dq_Law_law_837 : decode (km_c mm_Law_law) 837 = .ok (.iload_n 3, 1) := by decide +kernel
theorem sq_Law_law_837 : rn G mm_Law_law 837 [a0, a1, a2, some (.int x)] st S P ↔ rn G mm_Law_law 838 [a0, a1, a2, some (.int x)] (.int x :: st) S P := rn_s dq_Law_law_837 rfl rfl rfl
theorem dq_Law_law_838 : decode (km_c mm_Law_law) 838 = .ok (.iconst 2, 1) := by decide +kernel
theorem sq_Law_law_838 : rn G mm_Law_law 838 lv st S P ↔ rn G mm_Law_law 839 lv (.int (nI 2) :: st) S P := rn_s dq_Law_law_838 rfl rfl rfl
theorem dq_Law_law_839 : decode (km_c mm_Law_law) 839 = .ok (.iadd, 1) := by decide +kernel
theorem sq_Law_law_839 : rn G mm_Law_law 839 lv (.int x2 :: .int x :: st) S P ↔ rn G mm_Law_law 840 lv (.int (x + x2) :: st) S P := rn_s dq_Law_law_839 rfl rfl rfl
theorem dq_Law_law_840 : decode (km_c mm_Law_law) 840 = .ok (.iaload, 1) := by decide +kernel
theorem sq_Law_law_840 (ho : sx_o o pl kp) (hk : ak L a = 0) (hu : sx_up pl kp a = true ∨ 1000 ≤ a) (hc : c < ln L a) (hn : ln L a < 2 ^ 31) : rn (lt_G o L) mm_Law_law 840 lv (.int (nI c) :: .ref a :: st) (sx pl kp I A) P ↔ rn (lt_G o L) mm_Law_law 841 lv (.int (A a c) :: st) (sx pl kp I A) P := rx_ild dq_Law_law_840 ho hk hu hc hn
theorem dq_Law_law_841 : decode (km_c mm_Law_law) 841 = .ok (.invokevirtual 116, 3) := by decide +kernel
theorem sq_Law_law_841_0 {x1 : Int32} {x2 : Int32} {v : Option Value} {S2 : ks_S} (hc : ev (lt_G o L) mm_Road_odds [.ref 0, .int x1, .int x2] (sx pl kp I A) v S2) (ho : sx_o o pl kp) (hst : kx_cat st ≤ 8) : rn (lt_G o L) mm_Law_law 841 lv (.int x2 :: .int x1 :: .ref 0 :: st) (sx pl kp I A) P ↔ rn (lt_G o L) mm_Law_law 844 lv (v.toList ++ st) S2 P := rn_cv (k := 0) (host := "") (E' := mm_Road_odds) dq_Law_law_841 rfl (ok_v rfl (by decide) (by decide) (Nat.le_add_left _ _) hst (Nat.le_of_ble_eq_true rfl) (Or.inr (rc_v ho (up_b (by decide)) rfl))) rfl rfl hc
theorem dq_Law_law_844 : decode (km_c mm_Law_law) 844 = .ok (.aload_n 2, 1) := by decide +kernel
theorem sq_Law_law_844 : rn G mm_Law_law 844 [a0, a1, some (.ref z), a3] st S P ↔ rn G mm_Law_law 845 [a0, a1, some (.ref z), a3] (.ref z :: st) S P := rn_s dq_Law_law_844 rfl rfl rfl
theorem dq_Law_law_845 : decode (km_c mm_Law_law) 845 = .ok (.aload_n 0, 1) := by decide +kernel
theorem sq_Law_law_845 : rn G mm_Law_law 845 [some (.ref z), a1, a2, a3] st S P ↔ rn G mm_Law_law 846 [some (.ref z), a1, a2, a3] (.ref z :: st) S P := rn_s dq_Law_law_845 rfl rfl rfl
theorem dq_Law_law_846 : decode (km_c mm_Law_law) 846 = .ok (.iload_n 3, 1) := by decide +kernel
theorem sq_Law_law_846 : rn G mm_Law_law 846 [a0, a1, a2, some (.int x)] st S P ↔ rn G mm_Law_law 847 [a0, a1, a2, some (.int x)] (.int x :: st) S P := rn_s dq_Law_law_846 rfl rfl rfl
theorem dq_Law_law_847 : decode (km_c mm_Law_law) 847 = .ok (.iconst 1, 1) := by decide +kernel
theorem sq_Law_law_847 : rn G mm_Law_law 847 lv st S P ↔ rn G mm_Law_law 848 lv (.int (nI 1) :: st) S P := rn_s dq_Law_law_847 rfl rfl rfl
theorem dq_Law_law_848 : decode (km_c mm_Law_law) 848 = .ok (.iadd, 1) := by decide +kernel
theorem sq_Law_law_848 : rn G mm_Law_law 848 lv (.int x2 :: .int x :: st) S P ↔ rn G mm_Law_law 849 lv (.int (x + x2) :: st) S P := rn_s dq_Law_law_848 rfl rfl rfl
theorem dq_Law_law_849 : decode (km_c mm_Law_law) 849 = .ok (.iaload, 1) := by decide +kernel
theorem sq_Law_law_849 (ho : sx_o o pl kp) (hk : ak L a = 0) (hu : sx_up pl kp a = true ∨ 1000 ≤ a) (hc : c < ln L a) (hn : ln L a < 2 ^ 31) : rn (lt_G o L) mm_Law_law 849 lv (.int (nI c) :: .ref a :: st) (sx pl kp I A) P ↔ rn (lt_G o L) mm_Law_law 850 lv (.int (A a c) :: st) (sx pl kp I A) P := rx_ild dq_Law_law_849 ho hk hu hc hn
theorem dq_Law_law_850 : decode (km_c mm_Law_law) 850 = .ok (.aload_n 0, 1) := by decide +kernel
theorem sq_Law_law_850 : rn G mm_Law_law 850 [some (.ref z), a1, a2, a3] st S P ↔ rn G mm_Law_law 851 [some (.ref z), a1, a2, a3] (.ref z :: st) S P := rn_s dq_Law_law_850 rfl rfl rfl
theorem dq_Law_law_851 : decode (km_c mm_Law_law) 851 = .ok (.iload_n 3, 1) := by decide +kernel
theorem sq_Law_law_851 : rn G mm_Law_law 851 [a0, a1, a2, some (.int x)] st S P ↔ rn G mm_Law_law 852 [a0, a1, a2, some (.int x)] (.int x :: st) S P := rn_s dq_Law_law_851 rfl rfl rfl
theorem dq_Law_law_852 : decode (km_c mm_Law_law) 852 = .ok (.iconst 2, 1) := by decide +kernel
theorem sq_Law_law_852 : rn G mm_Law_law 852 lv st S P ↔ rn G mm_Law_law 853 lv (.int (nI 2) :: st) S P := rn_s dq_Law_law_852 rfl rfl rfl
theorem dq_Law_law_853 : decode (km_c mm_Law_law) 853 = .ok (.iadd, 1) := by decide +kernel
theorem sq_Law_law_853 : rn G mm_Law_law 853 lv (.int x2 :: .int x :: st) S P ↔ rn G mm_Law_law 854 lv (.int (x + x2) :: st) S P := rn_s dq_Law_law_853 rfl rfl rfl
theorem dq_Law_law_854 : decode (km_c mm_Law_law) 854 = .ok (.iaload, 1) := by decide +kernel
theorem sq_Law_law_854 (ho : sx_o o pl kp) (hk : ak L a = 0) (hu : sx_up pl kp a = true ∨ 1000 ≤ a) (hc : c < ln L a) (hn : ln L a < 2 ^ 31) : rn (lt_G o L) mm_Law_law 854 lv (.int (nI c) :: .ref a :: st) (sx pl kp I A) P ↔ rn (lt_G o L) mm_Law_law 855 lv (.int (A a c) :: st) (sx pl kp I A) P := rx_ild dq_Law_law_854 ho hk hu hc hn
theorem dq_Law_law_855 : decode (km_c mm_Law_law) 855 = .ok (.invokevirtual 120, 3) := by decide +kernel
theorem sq_Law_law_855_45 {x1 : Int32} {x2 : Int32} {v : Option Value} {S2 : ks_S} (hc : ev (lt_G o L) mm_Model_odds [.ref 45, .int x1, .int x2] (sx pl kp I A) v S2) (ho : sx_o o pl kp) (hst : kx_cat st ≤ 8) : rn (lt_G o L) mm_Law_law 855 lv (.int x2 :: .int x1 :: .ref 45 :: st) (sx pl kp I A) P ↔ rn (lt_G o L) mm_Law_law 858 lv (v.toList ++ st) S2 P := rn_cv (k := 0) (host := "") (E' := mm_Model_odds) dq_Law_law_855 rfl (ok_v rfl (by decide) (by decide) (Nat.le_add_left _ _) hst (Nat.le_of_ble_eq_true rfl) (Or.inr (rc_v ho (up_b (by decide)) rfl))) rfl rfl hc
theorem dq_Law_law_858 : decode (km_c mm_Law_law) 858 = .ok (.lcmp, 1) := by decide +kernel
theorem sq_Law_law_858 : rn G mm_Law_law 858 lv (.long y2 :: .long y :: st) S P ↔ rn G mm_Law_law 859 lv (.int (lg_cmp y y2) :: st) S P := rn_s dq_Law_law_858 rfl rfl rfl
theorem dq_Law_law_859 : decode (km_c mm_Law_law) 859 = .ok (.ifCond .eq 315, 3) := by decide +kernel
theorem sq_Law_law_859 : rn G mm_Law_law 859 lv (.int x :: st) S P ↔ ((x = 0 → rn G mm_Law_law 1174 lv st S P) ∧ (¬ (x = 0) → rn G mm_Law_law 862 lv st S P)) := rn_b (off := 315) dq_Law_law_859 rfl rfl rfl rfl
theorem dq_Law_law_862 : decode (km_c mm_Law_law) 862 = .ok (.iconst 0, 1) := by decide +kernel
theorem sq_Law_law_862 : rn G mm_Law_law 862 lv st S P ↔ rn G mm_Law_law 863 lv (.int (nI 0) :: st) S P := rn_s dq_Law_law_862 rfl rfl rfl
theorem dq_Law_law_863 : decode (km_c mm_Law_law) 863 = .ok (.ireturn, 1) := by decide +kernel
theorem sq_Law_law_863_0 : rn G mm_Law_law 863 lv [.int (nI 0)] S P ↔ P (some (.int (nI 0))) S := rn_ir dq_Law_law_863 (by decide)
theorem sq_Law_law_863_1 : rn G mm_Law_law 863 lv [.int (nI 1)] S P ↔ P (some (.int (nI 1))) S := rn_ir dq_Law_law_863 (by decide)
theorem dq_Law_law_864 : decode (km_c mm_Law_law) 864 = .ok (.aload_n 1, 1) := by decide +kernel
theorem sq_Law_law_864 : rn G mm_Law_law 864 [a0, some (.ref z), a2, a3] st S P ↔ rn G mm_Law_law 865 [a0, some (.ref z), a2, a3] (.ref z :: st) S P := rn_s dq_Law_law_864 rfl rfl rfl
theorem dq_Law_law_865 : decode (km_c mm_Law_law) 865 = .ok (.aload_n 0, 1) := by decide +kernel
theorem sq_Law_law_865 : rn G mm_Law_law 865 [some (.ref z), a1, a2, a3] st S P ↔ rn G mm_Law_law 866 [some (.ref z), a1, a2, a3] (.ref z :: st) S P := rn_s dq_Law_law_865 rfl rfl rfl
theorem dq_Law_law_866 : decode (km_c mm_Law_law) 866 = .ok (.iload_n 3, 1) := by decide +kernel
theorem sq_Law_law_866 : rn G mm_Law_law 866 [a0, a1, a2, some (.int x)] st S P ↔ rn G mm_Law_law 867 [a0, a1, a2, some (.int x)] (.int x :: st) S P := rn_s dq_Law_law_866 rfl rfl rfl
theorem dq_Law_law_867 : decode (km_c mm_Law_law) 867 = .ok (.iconst 1, 1) := by decide +kernel
theorem sq_Law_law_867 : rn G mm_Law_law 867 lv st S P ↔ rn G mm_Law_law 868 lv (.int (nI 1) :: st) S P := rn_s dq_Law_law_867 rfl rfl rfl
theorem dq_Law_law_868 : decode (km_c mm_Law_law) 868 = .ok (.iadd, 1) := by decide +kernel
theorem sq_Law_law_868 : rn G mm_Law_law 868 lv (.int x2 :: .int x :: st) S P ↔ rn G mm_Law_law 869 lv (.int (x + x2) :: st) S P := rn_s dq_Law_law_868 rfl rfl rfl
theorem dq_Law_law_869 : decode (km_c mm_Law_law) 869 = .ok (.iaload, 1) := by decide +kernel
theorem sq_Law_law_869 (ho : sx_o o pl kp) (hk : ak L a = 0) (hu : sx_up pl kp a = true ∨ 1000 ≤ a) (hc : c < ln L a) (hn : ln L a < 2 ^ 31) : rn (lt_G o L) mm_Law_law 869 lv (.int (nI c) :: .ref a :: st) (sx pl kp I A) P ↔ rn (lt_G o L) mm_Law_law 870 lv (.int (A a c) :: st) (sx pl kp I A) P := rx_ild dq_Law_law_869 ho hk hu hc hn
theorem dq_Law_law_870 : decode (km_c mm_Law_law) 870 = .ok (.invokevirtual 121, 3) := by decide +kernel
theorem sq_Law_law_870_0 {x1 : Int32} {v : Option Value} {S2 : ks_S} (hc : ev (lt_G o L) mm_Road_weeks [.ref 0, .int x1] (sx pl kp I A) v S2) (ho : sx_o o pl kp) (hst : kx_cat st ≤ 8) : rn (lt_G o L) mm_Law_law 870 lv (.int x1 :: .ref 0 :: st) (sx pl kp I A) P ↔ rn (lt_G o L) mm_Law_law 873 lv (v.toList ++ st) S2 P := rn_cv (k := 0) (host := "") (E' := mm_Road_weeks) dq_Law_law_870 rfl (ok_v rfl (by decide) (by decide) (Nat.le_add_left _ _) hst (Nat.le_of_ble_eq_true rfl) (Or.inr (rc_v ho (up_b (by decide)) rfl))) rfl rfl hc
theorem dq_Law_law_873 : decode (km_c mm_Law_law) 873 = .ok (.aload_n 2, 1) := by decide +kernel
theorem sq_Law_law_873 : rn G mm_Law_law 873 [a0, a1, some (.ref z), a3] st S P ↔ rn G mm_Law_law 874 [a0, a1, some (.ref z), a3] (.ref z :: st) S P := rn_s dq_Law_law_873 rfl rfl rfl
theorem dq_Law_law_874 : decode (km_c mm_Law_law) 874 = .ok (.aload_n 0, 1) := by decide +kernel
theorem sq_Law_law_874 : rn G mm_Law_law 874 [some (.ref z), a1, a2, a3] st S P ↔ rn G mm_Law_law 875 [some (.ref z), a1, a2, a3] (.ref z :: st) S P := rn_s dq_Law_law_874 rfl rfl rfl
theorem dq_Law_law_875 : decode (km_c mm_Law_law) 875 = .ok (.iload_n 3, 1) := by decide +kernel
theorem sq_Law_law_875 : rn G mm_Law_law 875 [a0, a1, a2, some (.int x)] st S P ↔ rn G mm_Law_law 876 [a0, a1, a2, some (.int x)] (.int x :: st) S P := rn_s dq_Law_law_875 rfl rfl rfl
theorem dq_Law_law_876 : decode (km_c mm_Law_law) 876 = .ok (.iconst 1, 1) := by decide +kernel
theorem sq_Law_law_876 : rn G mm_Law_law 876 lv st S P ↔ rn G mm_Law_law 877 lv (.int (nI 1) :: st) S P := rn_s dq_Law_law_876 rfl rfl rfl
theorem dq_Law_law_877 : decode (km_c mm_Law_law) 877 = .ok (.iadd, 1) := by decide +kernel
theorem sq_Law_law_877 : rn G mm_Law_law 877 lv (.int x2 :: .int x :: st) S P ↔ rn G mm_Law_law 878 lv (.int (x + x2) :: st) S P := rn_s dq_Law_law_877 rfl rfl rfl
theorem dq_Law_law_878 : decode (km_c mm_Law_law) 878 = .ok (.iaload, 1) := by decide +kernel
theorem sq_Law_law_878 (ho : sx_o o pl kp) (hk : ak L a = 0) (hu : sx_up pl kp a = true ∨ 1000 ≤ a) (hc : c < ln L a) (hn : ln L a < 2 ^ 31) : rn (lt_G o L) mm_Law_law 878 lv (.int (nI c) :: .ref a :: st) (sx pl kp I A) P ↔ rn (lt_G o L) mm_Law_law 879 lv (.int (A a c) :: st) (sx pl kp I A) P := rx_ild dq_Law_law_878 ho hk hu hc hn
theorem dq_Law_law_879 : decode (km_c mm_Law_law) 879 = .ok (.invokevirtual 124, 3) := by decide +kernel
theorem sq_Law_law_879_45 {x1 : Int32} {v : Option Value} {S2 : ks_S} (hc : ev (lt_G o L) mm_Model_weeks [.ref 45, .int x1] (sx pl kp I A) v S2) (ho : sx_o o pl kp) (hst : kx_cat st ≤ 8) : rn (lt_G o L) mm_Law_law 879 lv (.int x1 :: .ref 45 :: st) (sx pl kp I A) P ↔ rn (lt_G o L) mm_Law_law 882 lv (v.toList ++ st) S2 P := rn_cv (k := 0) (host := "") (E' := mm_Model_weeks) dq_Law_law_879 rfl (ok_v rfl (by decide) (by decide) (Nat.le_add_left _ _) hst (Nat.le_of_ble_eq_true rfl) (Or.inr (rc_v ho (up_b (by decide)) rfl))) rfl rfl hc
theorem dq_Law_law_882 : decode (km_c mm_Law_law) 882 = .ok (.if_icmp .eq 292, 3) := by decide +kernel
theorem sq_Law_law_882 : rn G mm_Law_law 882 lv (.int x2 :: .int x :: st) S P ↔ ((x = x2 → rn G mm_Law_law 1174 lv st S P) ∧ (¬ (x = x2) → rn G mm_Law_law 885 lv st S P)) := rn_b (off := 292) dq_Law_law_882 rfl rfl rfl rfl
theorem dq_Law_law_885 : decode (km_c mm_Law_law) 885 = .ok (.iconst 0, 1) := by decide +kernel
theorem sq_Law_law_885 : rn G mm_Law_law 885 lv st S P ↔ rn G mm_Law_law 886 lv (.int (nI 0) :: st) S P := rn_s dq_Law_law_885 rfl rfl rfl
theorem dq_Law_law_886 : decode (km_c mm_Law_law) 886 = .ok (.ireturn, 1) := by decide +kernel
theorem sq_Law_law_886_0 : rn G mm_Law_law 886 lv [.int (nI 0)] S P ↔ P (some (.int (nI 0))) S := rn_ir dq_Law_law_886 (by decide)
theorem sq_Law_law_886_1 : rn G mm_Law_law 886 lv [.int (nI 1)] S P ↔ P (some (.int (nI 1))) S := rn_ir dq_Law_law_886 (by decide)
theorem dq_Law_law_887 : decode (km_c mm_Law_law) 887 = .ok (.aload_n 1, 1) := by decide +kernel
theorem sq_Law_law_887 : rn G mm_Law_law 887 [a0, some (.ref z), a2, a3] st S P ↔ rn G mm_Law_law 888 [a0, some (.ref z), a2, a3] (.ref z :: st) S P := rn_s dq_Law_law_887 rfl rfl rfl
theorem dq_Law_law_888 : decode (km_c mm_Law_law) 888 = .ok (.aload_n 0, 1) := by decide +kernel
theorem sq_Law_law_888 : rn G mm_Law_law 888 [some (.ref z), a1, a2, a3] st S P ↔ rn G mm_Law_law 889 [some (.ref z), a1, a2, a3] (.ref z :: st) S P := rn_s dq_Law_law_888 rfl rfl rfl
theorem dq_Law_law_889 : decode (km_c mm_Law_law) 889 = .ok (.iload_n 3, 1) := by decide +kernel
theorem sq_Law_law_889 : rn G mm_Law_law 889 [a0, a1, a2, some (.int x)] st S P ↔ rn G mm_Law_law 890 [a0, a1, a2, some (.int x)] (.int x :: st) S P := rn_s dq_Law_law_889 rfl rfl rfl
theorem dq_Law_law_890 : decode (km_c mm_Law_law) 890 = .ok (.iconst 1, 1) := by decide +kernel
theorem sq_Law_law_890 : rn G mm_Law_law 890 lv st S P ↔ rn G mm_Law_law 891 lv (.int (nI 1) :: st) S P := rn_s dq_Law_law_890 rfl rfl rfl
theorem dq_Law_law_891 : decode (km_c mm_Law_law) 891 = .ok (.iadd, 1) := by decide +kernel
theorem sq_Law_law_891 : rn G mm_Law_law 891 lv (.int x2 :: .int x :: st) S P ↔ rn G mm_Law_law 892 lv (.int (x + x2) :: st) S P := rn_s dq_Law_law_891 rfl rfl rfl
theorem dq_Law_law_892 : decode (km_c mm_Law_law) 892 = .ok (.iaload, 1) := by decide +kernel
theorem sq_Law_law_892 (ho : sx_o o pl kp) (hk : ak L a = 0) (hu : sx_up pl kp a = true ∨ 1000 ≤ a) (hc : c < ln L a) (hn : ln L a < 2 ^ 31) : rn (lt_G o L) mm_Law_law 892 lv (.int (nI c) :: .ref a :: st) (sx pl kp I A) P ↔ rn (lt_G o L) mm_Law_law 893 lv (.int (A a c) :: st) (sx pl kp I A) P := rx_ild dq_Law_law_892 ho hk hu hc hn
theorem dq_Law_law_893 : decode (km_c mm_Law_law) 893 = .ok (.invokevirtual 125, 3) := by decide +kernel
theorem sq_Law_law_893_0 {x1 : Int32} {v : Option Value} {S2 : ks_S} (hc : ev (lt_G o L) mm_Road_seed [.ref 0, .int x1] (sx pl kp I A) v S2) (ho : sx_o o pl kp) (hst : kx_cat st ≤ 8) : rn (lt_G o L) mm_Law_law 893 lv (.int x1 :: .ref 0 :: st) (sx pl kp I A) P ↔ rn (lt_G o L) mm_Law_law 896 lv (v.toList ++ st) S2 P := rn_cv (k := 0) (host := "") (E' := mm_Road_seed) dq_Law_law_893 rfl (ok_v rfl (by decide) (by decide) (Nat.le_add_left _ _) hst (Nat.le_of_ble_eq_true rfl) (Or.inr (rc_v ho (up_b (by decide)) rfl))) rfl rfl hc
theorem dq_Law_law_896 : decode (km_c mm_Law_law) 896 = .ok (.aload_n 2, 1) := by decide +kernel
theorem sq_Law_law_896 : rn G mm_Law_law 896 [a0, a1, some (.ref z), a3] st S P ↔ rn G mm_Law_law 897 [a0, a1, some (.ref z), a3] (.ref z :: st) S P := rn_s dq_Law_law_896 rfl rfl rfl
theorem dq_Law_law_897 : decode (km_c mm_Law_law) 897 = .ok (.aload_n 0, 1) := by decide +kernel
theorem sq_Law_law_897 : rn G mm_Law_law 897 [some (.ref z), a1, a2, a3] st S P ↔ rn G mm_Law_law 898 [some (.ref z), a1, a2, a3] (.ref z :: st) S P := rn_s dq_Law_law_897 rfl rfl rfl
theorem dq_Law_law_898 : decode (km_c mm_Law_law) 898 = .ok (.iload_n 3, 1) := by decide +kernel
theorem sq_Law_law_898 : rn G mm_Law_law 898 [a0, a1, a2, some (.int x)] st S P ↔ rn G mm_Law_law 899 [a0, a1, a2, some (.int x)] (.int x :: st) S P := rn_s dq_Law_law_898 rfl rfl rfl
theorem dq_Law_law_899 : decode (km_c mm_Law_law) 899 = .ok (.iconst 1, 1) := by decide +kernel
theorem sq_Law_law_899 : rn G mm_Law_law 899 lv st S P ↔ rn G mm_Law_law 900 lv (.int (nI 1) :: st) S P := rn_s dq_Law_law_899 rfl rfl rfl
theorem dq_Law_law_900 : decode (km_c mm_Law_law) 900 = .ok (.iadd, 1) := by decide +kernel
theorem sq_Law_law_900 : rn G mm_Law_law 900 lv (.int x2 :: .int x :: st) S P ↔ rn G mm_Law_law 901 lv (.int (x + x2) :: st) S P := rn_s dq_Law_law_900 rfl rfl rfl
theorem dq_Law_law_901 : decode (km_c mm_Law_law) 901 = .ok (.iaload, 1) := by decide +kernel
theorem sq_Law_law_901 (ho : sx_o o pl kp) (hk : ak L a = 0) (hu : sx_up pl kp a = true ∨ 1000 ≤ a) (hc : c < ln L a) (hn : ln L a < 2 ^ 31) : rn (lt_G o L) mm_Law_law 901 lv (.int (nI c) :: .ref a :: st) (sx pl kp I A) P ↔ rn (lt_G o L) mm_Law_law 902 lv (.int (A a c) :: st) (sx pl kp I A) P := rx_ild dq_Law_law_901 ho hk hu hc hn
theorem dq_Law_law_902 : decode (km_c mm_Law_law) 902 = .ok (.invokevirtual 128, 3) := by decide +kernel
theorem sq_Law_law_902_45 {x1 : Int32} {v : Option Value} {S2 : ks_S} (hc : ev (lt_G o L) mm_Model_seed [.ref 45, .int x1] (sx pl kp I A) v S2) (ho : sx_o o pl kp) (hst : kx_cat st ≤ 8) : rn (lt_G o L) mm_Law_law 902 lv (.int x1 :: .ref 45 :: st) (sx pl kp I A) P ↔ rn (lt_G o L) mm_Law_law 905 lv (v.toList ++ st) S2 P := rn_cv (k := 0) (host := "") (E' := mm_Model_seed) dq_Law_law_902 rfl (ok_v rfl (by decide) (by decide) (Nat.le_add_left _ _) hst (Nat.le_of_ble_eq_true rfl) (Or.inr (rc_v ho (up_b (by decide)) rfl))) rfl rfl hc
theorem dq_Law_law_905 : decode (km_c mm_Law_law) 905 = .ok (.if_icmp .eq 269, 3) := by decide +kernel
theorem sq_Law_law_905 : rn G mm_Law_law 905 lv (.int x2 :: .int x :: st) S P ↔ ((x = x2 → rn G mm_Law_law 1174 lv st S P) ∧ (¬ (x = x2) → rn G mm_Law_law 908 lv st S P)) := rn_b (off := 269) dq_Law_law_905 rfl rfl rfl rfl
theorem dq_Law_law_908 : decode (km_c mm_Law_law) 908 = .ok (.iconst 0, 1) := by decide +kernel
theorem sq_Law_law_908 : rn G mm_Law_law 908 lv st S P ↔ rn G mm_Law_law 909 lv (.int (nI 0) :: st) S P := rn_s dq_Law_law_908 rfl rfl rfl
theorem dq_Law_law_909 : decode (km_c mm_Law_law) 909 = .ok (.ireturn, 1) := by decide +kernel
theorem sq_Law_law_909_0 : rn G mm_Law_law 909 lv [.int (nI 0)] S P ↔ P (some (.int (nI 0))) S := rn_ir dq_Law_law_909 (by decide)
theorem sq_Law_law_909_1 : rn G mm_Law_law 909 lv [.int (nI 1)] S P ↔ P (some (.int (nI 1))) S := rn_ir dq_Law_law_909 (by decide)
theorem dq_Law_law_910 : decode (km_c mm_Law_law) 910 = .ok (.aload_n 1, 1) := by decide +kernel
theorem sq_Law_law_910 : rn G mm_Law_law 910 [a0, some (.ref z), a2, a3] st S P ↔ rn G mm_Law_law 911 [a0, some (.ref z), a2, a3] (.ref z :: st) S P := rn_s dq_Law_law_910 rfl rfl rfl
theorem dq_Law_law_911 : decode (km_c mm_Law_law) 911 = .ok (.invokevirtual 129, 3) := by decide +kernel
theorem sq_Law_law_911_0  {v : Option Value} {S2 : ks_S} (hc : ev (lt_G o L) mm_Road_leave [.ref 0] (sx pl kp I A) v S2) (ho : sx_o o pl kp) (hst : kx_cat st ≤ 8) : rn (lt_G o L) mm_Law_law 911 lv (.ref 0 :: st) (sx pl kp I A) P ↔ rn (lt_G o L) mm_Law_law 914 lv (v.toList ++ st) S2 P := rn_cv (k := 0) (host := "") (E' := mm_Road_leave) dq_Law_law_911 rfl (ok_v rfl (by decide) (by decide) (Nat.le_add_left _ _) hst (Nat.le_of_ble_eq_true rfl) (Or.inr (rc_v ho (up_b (by decide)) rfl))) rfl rfl hc
theorem dq_Law_law_914 : decode (km_c mm_Law_law) 914 = .ok (.aload_n 2, 1) := by decide +kernel
theorem sq_Law_law_914 : rn G mm_Law_law 914 [a0, a1, some (.ref z), a3] st S P ↔ rn G mm_Law_law 915 [a0, a1, some (.ref z), a3] (.ref z :: st) S P := rn_s dq_Law_law_914 rfl rfl rfl
theorem dq_Law_law_915 : decode (km_c mm_Law_law) 915 = .ok (.invokevirtual 132, 3) := by decide +kernel
theorem sq_Law_law_915_45  {v : Option Value} {S2 : ks_S} (hc : ev (lt_G o L) mm_Model_leave [.ref 45] (sx pl kp I A) v S2) (ho : sx_o o pl kp) (hst : kx_cat st ≤ 8) : rn (lt_G o L) mm_Law_law 915 lv (.ref 45 :: st) (sx pl kp I A) P ↔ rn (lt_G o L) mm_Law_law 918 lv (v.toList ++ st) S2 P := rn_cv (k := 0) (host := "") (E' := mm_Model_leave) dq_Law_law_915 rfl (ok_v rfl (by decide) (by decide) (Nat.le_add_left _ _) hst (Nat.le_of_ble_eq_true rfl) (Or.inr (rc_v ho (up_b (by decide)) rfl))) rfl rfl hc
theorem dq_Law_law_918 : decode (km_c mm_Law_law) 918 = .ok (.if_icmp .eq 256, 3) := by decide +kernel
theorem sq_Law_law_918 : rn G mm_Law_law 918 lv (.int x2 :: .int x :: st) S P ↔ ((x = x2 → rn G mm_Law_law 1174 lv st S P) ∧ (¬ (x = x2) → rn G mm_Law_law 921 lv st S P)) := rn_b (off := 256) dq_Law_law_918 rfl rfl rfl rfl
theorem dq_Law_law_921 : decode (km_c mm_Law_law) 921 = .ok (.iconst 0, 1) := by decide +kernel
theorem sq_Law_law_921 : rn G mm_Law_law 921 lv st S P ↔ rn G mm_Law_law 922 lv (.int (nI 0) :: st) S P := rn_s dq_Law_law_921 rfl rfl rfl
theorem dq_Law_law_922 : decode (km_c mm_Law_law) 922 = .ok (.ireturn, 1) := by decide +kernel
theorem sq_Law_law_922_0 : rn G mm_Law_law 922 lv [.int (nI 0)] S P ↔ P (some (.int (nI 0))) S := rn_ir dq_Law_law_922 (by decide)
theorem sq_Law_law_922_1 : rn G mm_Law_law 922 lv [.int (nI 1)] S P ↔ P (some (.int (nI 1))) S := rn_ir dq_Law_law_922 (by decide)
theorem dq_Law_law_923 : decode (km_c mm_Law_law) 923 = .ok (.aload_n 1, 1) := by decide +kernel
theorem sq_Law_law_923 : rn G mm_Law_law 923 [a0, some (.ref z), a2, a3] st S P ↔ rn G mm_Law_law 924 [a0, some (.ref z), a2, a3] (.ref z :: st) S P := rn_s dq_Law_law_923 rfl rfl rfl
theorem dq_Law_law_924 : decode (km_c mm_Law_law) 924 = .ok (.invokevirtual 133, 3) := by decide +kernel
theorem sq_Law_law_924_0  {v : Option Value} {S2 : ks_S} (hc : ev (lt_G o L) mm_Road_image [.ref 0] (sx pl kp I A) v S2) (ho : sx_o o pl kp) (hst : kx_cat st ≤ 8) : rn (lt_G o L) mm_Law_law 924 lv (.ref 0 :: st) (sx pl kp I A) P ↔ rn (lt_G o L) mm_Law_law 927 lv (v.toList ++ st) S2 P := rn_cv (k := 0) (host := "") (E' := mm_Road_image) dq_Law_law_924 rfl (ok_v rfl (by decide) (by decide) (Nat.le_add_left _ _) hst (Nat.le_of_ble_eq_true rfl) (Or.inr (rc_v ho (up_b (by decide)) rfl))) rfl rfl hc
theorem dq_Law_law_927 : decode (km_c mm_Law_law) 927 = .ok (.aload_n 2, 1) := by decide +kernel
theorem sq_Law_law_927 : rn G mm_Law_law 927 [a0, a1, some (.ref z), a3] st S P ↔ rn G mm_Law_law 928 [a0, a1, some (.ref z), a3] (.ref z :: st) S P := rn_s dq_Law_law_927 rfl rfl rfl
theorem dq_Law_law_928 : decode (km_c mm_Law_law) 928 = .ok (.invokevirtual 136, 3) := by decide +kernel
theorem sq_Law_law_928_45  {v : Option Value} {S2 : ks_S} (hc : ev (lt_G o L) mm_Model_image [.ref 45] (sx pl kp I A) v S2) (ho : sx_o o pl kp) (hst : kx_cat st ≤ 8) : rn (lt_G o L) mm_Law_law 928 lv (.ref 45 :: st) (sx pl kp I A) P ↔ rn (lt_G o L) mm_Law_law 931 lv (v.toList ++ st) S2 P := rn_cv (k := 0) (host := "") (E' := mm_Model_image) dq_Law_law_928 rfl (ok_v rfl (by decide) (by decide) (Nat.le_add_left _ _) hst (Nat.le_of_ble_eq_true rfl) (Or.inr (rc_v ho (up_b (by decide)) rfl))) rfl rfl hc
theorem dq_Law_law_931 : decode (km_c mm_Law_law) 931 = .ok (.if_icmp .eq 243, 3) := by decide +kernel
theorem sq_Law_law_931 : rn G mm_Law_law 931 lv (.int x2 :: .int x :: st) S P ↔ ((x = x2 → rn G mm_Law_law 1174 lv st S P) ∧ (¬ (x = x2) → rn G mm_Law_law 934 lv st S P)) := rn_b (off := 243) dq_Law_law_931 rfl rfl rfl rfl
theorem dq_Law_law_934 : decode (km_c mm_Law_law) 934 = .ok (.iconst 0, 1) := by decide +kernel
theorem sq_Law_law_934 : rn G mm_Law_law 934 lv st S P ↔ rn G mm_Law_law 935 lv (.int (nI 0) :: st) S P := rn_s dq_Law_law_934 rfl rfl rfl
theorem dq_Law_law_935 : decode (km_c mm_Law_law) 935 = .ok (.ireturn, 1) := by decide +kernel
theorem sq_Law_law_935_0 : rn G mm_Law_law 935 lv [.int (nI 0)] S P ↔ P (some (.int (nI 0))) S := rn_ir dq_Law_law_935 (by decide)
theorem sq_Law_law_935_1 : rn G mm_Law_law 935 lv [.int (nI 1)] S P ↔ P (some (.int (nI 1))) S := rn_ir dq_Law_law_935 (by decide)
theorem dq_Law_law_936 : decode (km_c mm_Law_law) 936 = .ok (.aload_n 1, 1) := by decide +kernel
theorem sq_Law_law_936 : rn G mm_Law_law 936 [a0, some (.ref z), a2, a3] st S P ↔ rn G mm_Law_law 937 [a0, some (.ref z), a2, a3] (.ref z :: st) S P := rn_s dq_Law_law_936 rfl rfl rfl
theorem dq_Law_law_937 : decode (km_c mm_Law_law) 937 = .ok (.invokevirtual 137, 3) := by decide +kernel
theorem sq_Law_law_937_0  {v : Option Value} {S2 : ks_S} (hc : ev (lt_G o L) mm_Road_restore [.ref 0] (sx pl kp I A) v S2) (ho : sx_o o pl kp) (hst : kx_cat st ≤ 8) : rn (lt_G o L) mm_Law_law 937 lv (.ref 0 :: st) (sx pl kp I A) P ↔ rn (lt_G o L) mm_Law_law 940 lv (v.toList ++ st) S2 P := rn_cv (k := 0) (host := "") (E' := mm_Road_restore) dq_Law_law_937 rfl (ok_v rfl (by decide) (by decide) (Nat.le_add_left _ _) hst (Nat.le_of_ble_eq_true rfl) (Or.inr (rc_v ho (up_b (by decide)) rfl))) rfl rfl hc
theorem dq_Law_law_940 : decode (km_c mm_Law_law) 940 = .ok (.aload_n 2, 1) := by decide +kernel
theorem sq_Law_law_940 : rn G mm_Law_law 940 [a0, a1, some (.ref z), a3] st S P ↔ rn G mm_Law_law 941 [a0, a1, some (.ref z), a3] (.ref z :: st) S P := rn_s dq_Law_law_940 rfl rfl rfl
theorem dq_Law_law_941 : decode (km_c mm_Law_law) 941 = .ok (.invokevirtual 140, 3) := by decide +kernel
theorem sq_Law_law_941_45  {v : Option Value} {S2 : ks_S} (hc : ev (lt_G o L) mm_Model_restore [.ref 45] (sx pl kp I A) v S2) (ho : sx_o o pl kp) (hst : kx_cat st ≤ 8) : rn (lt_G o L) mm_Law_law 941 lv (.ref 45 :: st) (sx pl kp I A) P ↔ rn (lt_G o L) mm_Law_law 944 lv (v.toList ++ st) S2 P := rn_cv (k := 0) (host := "") (E' := mm_Model_restore) dq_Law_law_941 rfl (ok_v rfl (by decide) (by decide) (Nat.le_add_left _ _) hst (Nat.le_of_ble_eq_true rfl) (Or.inr (rc_v ho (up_b (by decide)) rfl))) rfl rfl hc
theorem dq_Law_law_944 : decode (km_c mm_Law_law) 944 = .ok (.if_icmp .eq 230, 3) := by decide +kernel
theorem sq_Law_law_944 : rn G mm_Law_law 944 lv (.int x2 :: .int x :: st) S P ↔ ((x = x2 → rn G mm_Law_law 1174 lv st S P) ∧ (¬ (x = x2) → rn G mm_Law_law 947 lv st S P)) := rn_b (off := 230) dq_Law_law_944 rfl rfl rfl rfl
theorem dq_Law_law_947 : decode (km_c mm_Law_law) 947 = .ok (.iconst 0, 1) := by decide +kernel
theorem sq_Law_law_947 : rn G mm_Law_law 947 lv st S P ↔ rn G mm_Law_law 948 lv (.int (nI 0) :: st) S P := rn_s dq_Law_law_947 rfl rfl rfl
theorem dq_Law_law_948 : decode (km_c mm_Law_law) 948 = .ok (.ireturn, 1) := by decide +kernel
theorem sq_Law_law_948_0 : rn G mm_Law_law 948 lv [.int (nI 0)] S P ↔ P (some (.int (nI 0))) S := rn_ir dq_Law_law_948 (by decide)
theorem sq_Law_law_948_1 : rn G mm_Law_law 948 lv [.int (nI 1)] S P ↔ P (some (.int (nI 1))) S := rn_ir dq_Law_law_948 (by decide)
theorem dq_Law_law_949 : decode (km_c mm_Law_law) 949 = .ok (.aload_n 1, 1) := by decide +kernel
theorem sq_Law_law_949 : rn G mm_Law_law 949 [a0, some (.ref z), a2, a3] st S P ↔ rn G mm_Law_law 950 [a0, some (.ref z), a2, a3] (.ref z :: st) S P := rn_s dq_Law_law_949 rfl rfl rfl
theorem dq_Law_law_950 : decode (km_c mm_Law_law) 950 = .ok (.aload_n 0, 1) := by decide +kernel
theorem sq_Law_law_950 : rn G mm_Law_law 950 [some (.ref z), a1, a2, a3] st S P ↔ rn G mm_Law_law 951 [some (.ref z), a1, a2, a3] (.ref z :: st) S P := rn_s dq_Law_law_950 rfl rfl rfl
theorem dq_Law_law_951 : decode (km_c mm_Law_law) 951 = .ok (.iload_n 3, 1) := by decide +kernel
theorem sq_Law_law_951 : rn G mm_Law_law 951 [a0, a1, a2, some (.int x)] st S P ↔ rn G mm_Law_law 952 [a0, a1, a2, some (.int x)] (.int x :: st) S P := rn_s dq_Law_law_951 rfl rfl rfl
theorem dq_Law_law_952 : decode (km_c mm_Law_law) 952 = .ok (.iconst 1, 1) := by decide +kernel
theorem sq_Law_law_952 : rn G mm_Law_law 952 lv st S P ↔ rn G mm_Law_law 953 lv (.int (nI 1) :: st) S P := rn_s dq_Law_law_952 rfl rfl rfl
theorem dq_Law_law_953 : decode (km_c mm_Law_law) 953 = .ok (.iadd, 1) := by decide +kernel
theorem sq_Law_law_953 : rn G mm_Law_law 953 lv (.int x2 :: .int x :: st) S P ↔ rn G mm_Law_law 954 lv (.int (x + x2) :: st) S P := rn_s dq_Law_law_953 rfl rfl rfl
theorem dq_Law_law_954 : decode (km_c mm_Law_law) 954 = .ok (.iaload, 1) := by decide +kernel
theorem sq_Law_law_954 (ho : sx_o o pl kp) (hk : ak L a = 0) (hu : sx_up pl kp a = true ∨ 1000 ≤ a) (hc : c < ln L a) (hn : ln L a < 2 ^ 31) : rn (lt_G o L) mm_Law_law 954 lv (.int (nI c) :: .ref a :: st) (sx pl kp I A) P ↔ rn (lt_G o L) mm_Law_law 955 lv (.int (A a c) :: st) (sx pl kp I A) P := rx_ild dq_Law_law_954 ho hk hu hc hn
theorem dq_Law_law_955 : decode (km_c mm_Law_law) 955 = .ok (.aload_n 0, 1) := by decide +kernel
theorem sq_Law_law_955 : rn G mm_Law_law 955 [some (.ref z), a1, a2, a3] st S P ↔ rn G mm_Law_law 956 [some (.ref z), a1, a2, a3] (.ref z :: st) S P := rn_s dq_Law_law_955 rfl rfl rfl
theorem dq_Law_law_956 : decode (km_c mm_Law_law) 956 = .ok (.iload_n 3, 1) := by decide +kernel
theorem sq_Law_law_956 : rn G mm_Law_law 956 [a0, a1, a2, some (.int x)] st S P ↔ rn G mm_Law_law 957 [a0, a1, a2, some (.int x)] (.int x :: st) S P := rn_s dq_Law_law_956 rfl rfl rfl
theorem dq_Law_law_957 : decode (km_c mm_Law_law) 957 = .ok (.iconst 2, 1) := by decide +kernel
theorem sq_Law_law_957 : rn G mm_Law_law 957 lv st S P ↔ rn G mm_Law_law 958 lv (.int (nI 2) :: st) S P := rn_s dq_Law_law_957 rfl rfl rfl
theorem dq_Law_law_958 : decode (km_c mm_Law_law) 958 = .ok (.iadd, 1) := by decide +kernel
theorem sq_Law_law_958 : rn G mm_Law_law 958 lv (.int x2 :: .int x :: st) S P ↔ rn G mm_Law_law 959 lv (.int (x + x2) :: st) S P := rn_s dq_Law_law_958 rfl rfl rfl
theorem dq_Law_law_959 : decode (km_c mm_Law_law) 959 = .ok (.iaload, 1) := by decide +kernel
theorem sq_Law_law_959 (ho : sx_o o pl kp) (hk : ak L a = 0) (hu : sx_up pl kp a = true ∨ 1000 ≤ a) (hc : c < ln L a) (hn : ln L a < 2 ^ 31) : rn (lt_G o L) mm_Law_law 959 lv (.int (nI c) :: .ref a :: st) (sx pl kp I A) P ↔ rn (lt_G o L) mm_Law_law 960 lv (.int (A a c) :: st) (sx pl kp I A) P := rx_ild dq_Law_law_959 ho hk hu hc hn
theorem dq_Law_law_960 : decode (km_c mm_Law_law) 960 = .ok (.aload_n 0, 1) := by decide +kernel
theorem sq_Law_law_960 : rn G mm_Law_law 960 [some (.ref z), a1, a2, a3] st S P ↔ rn G mm_Law_law 961 [some (.ref z), a1, a2, a3] (.ref z :: st) S P := rn_s dq_Law_law_960 rfl rfl rfl
theorem dq_Law_law_961 : decode (km_c mm_Law_law) 961 = .ok (.iload_n 3, 1) := by decide +kernel
theorem sq_Law_law_961 : rn G mm_Law_law 961 [a0, a1, a2, some (.int x)] st S P ↔ rn G mm_Law_law 962 [a0, a1, a2, some (.int x)] (.int x :: st) S P := rn_s dq_Law_law_961 rfl rfl rfl
theorem dq_Law_law_962 : decode (km_c mm_Law_law) 962 = .ok (.iconst 3, 1) := by decide +kernel
theorem sq_Law_law_962 : rn G mm_Law_law 962 lv st S P ↔ rn G mm_Law_law 963 lv (.int (nI 3) :: st) S P := rn_s dq_Law_law_962 rfl rfl rfl
theorem dq_Law_law_963 : decode (km_c mm_Law_law) 963 = .ok (.iadd, 1) := by decide +kernel
theorem sq_Law_law_963 : rn G mm_Law_law 963 lv (.int x2 :: .int x :: st) S P ↔ rn G mm_Law_law 964 lv (.int (x + x2) :: st) S P := rn_s dq_Law_law_963 rfl rfl rfl
theorem dq_Law_law_964 : decode (km_c mm_Law_law) 964 = .ok (.iaload, 1) := by decide +kernel
theorem sq_Law_law_964 (ho : sx_o o pl kp) (hk : ak L a = 0) (hu : sx_up pl kp a = true ∨ 1000 ≤ a) (hc : c < ln L a) (hn : ln L a < 2 ^ 31) : rn (lt_G o L) mm_Law_law 964 lv (.int (nI c) :: .ref a :: st) (sx pl kp I A) P ↔ rn (lt_G o L) mm_Law_law 965 lv (.int (A a c) :: st) (sx pl kp I A) P := rx_ild dq_Law_law_964 ho hk hu hc hn
theorem dq_Law_law_965 : decode (km_c mm_Law_law) 965 = .ok (.aload_n 0, 1) := by decide +kernel
theorem sq_Law_law_965 : rn G mm_Law_law 965 [some (.ref z), a1, a2, a3] st S P ↔ rn G mm_Law_law 966 [some (.ref z), a1, a2, a3] (.ref z :: st) S P := rn_s dq_Law_law_965 rfl rfl rfl
theorem dq_Law_law_966 : decode (km_c mm_Law_law) 966 = .ok (.iload_n 3, 1) := by decide +kernel
theorem sq_Law_law_966 : rn G mm_Law_law 966 [a0, a1, a2, some (.int x)] st S P ↔ rn G mm_Law_law 967 [a0, a1, a2, some (.int x)] (.int x :: st) S P := rn_s dq_Law_law_966 rfl rfl rfl
theorem dq_Law_law_967 : decode (km_c mm_Law_law) 967 = .ok (.iconst 4, 1) := by decide +kernel
theorem sq_Law_law_967 : rn G mm_Law_law 967 lv st S P ↔ rn G mm_Law_law 968 lv (.int (nI 4) :: st) S P := rn_s dq_Law_law_967 rfl rfl rfl
theorem dq_Law_law_968 : decode (km_c mm_Law_law) 968 = .ok (.iadd, 1) := by decide +kernel
theorem sq_Law_law_968 : rn G mm_Law_law 968 lv (.int x2 :: .int x :: st) S P ↔ rn G mm_Law_law 969 lv (.int (x + x2) :: st) S P := rn_s dq_Law_law_968 rfl rfl rfl
theorem dq_Law_law_969 : decode (km_c mm_Law_law) 969 = .ok (.iaload, 1) := by decide +kernel
theorem sq_Law_law_969 (ho : sx_o o pl kp) (hk : ak L a = 0) (hu : sx_up pl kp a = true ∨ 1000 ≤ a) (hc : c < ln L a) (hn : ln L a < 2 ^ 31) : rn (lt_G o L) mm_Law_law 969 lv (.int (nI c) :: .ref a :: st) (sx pl kp I A) P ↔ rn (lt_G o L) mm_Law_law 970 lv (.int (A a c) :: st) (sx pl kp I A) P := rx_ild dq_Law_law_969 ho hk hu hc hn
theorem dq_Law_law_970 : decode (km_c mm_Law_law) 970 = .ok (.invokevirtual 141, 3) := by decide +kernel
theorem sq_Law_law_970_0 {x1 : Int32} {x2 : Int32} {x3 : Int32} {x4 : Int32} {v : Option Value} {S2 : ks_S} (hc : ev (lt_G o L) mm_Road_leaves [.ref 0, .int x1, .int x2, .int x3, .int x4] (sx pl kp I A) v S2) (ho : sx_o o pl kp) (hst : kx_cat st ≤ 8) : rn (lt_G o L) mm_Law_law 970 lv (.int x4 :: .int x3 :: .int x2 :: .int x1 :: .ref 0 :: st) (sx pl kp I A) P ↔ rn (lt_G o L) mm_Law_law 973 lv (v.toList ++ st) S2 P := rn_cv (k := 0) (host := "") (E' := mm_Road_leaves) dq_Law_law_970 rfl (ok_v rfl (by decide) (by decide) (Nat.le_add_left _ _) hst (Nat.le_of_ble_eq_true rfl) (Or.inr (rc_v ho (up_b (by decide)) rfl))) rfl rfl hc
theorem dq_Law_law_973 : decode (km_c mm_Law_law) 973 = .ok (.aload_n 2, 1) := by decide +kernel
theorem sq_Law_law_973 : rn G mm_Law_law 973 [a0, a1, some (.ref z), a3] st S P ↔ rn G mm_Law_law 974 [a0, a1, some (.ref z), a3] (.ref z :: st) S P := rn_s dq_Law_law_973 rfl rfl rfl
theorem dq_Law_law_974 : decode (km_c mm_Law_law) 974 = .ok (.aload_n 0, 1) := by decide +kernel
theorem sq_Law_law_974 : rn G mm_Law_law 974 [some (.ref z), a1, a2, a3] st S P ↔ rn G mm_Law_law 975 [some (.ref z), a1, a2, a3] (.ref z :: st) S P := rn_s dq_Law_law_974 rfl rfl rfl
theorem dq_Law_law_975 : decode (km_c mm_Law_law) 975 = .ok (.iload_n 3, 1) := by decide +kernel
theorem sq_Law_law_975 : rn G mm_Law_law 975 [a0, a1, a2, some (.int x)] st S P ↔ rn G mm_Law_law 976 [a0, a1, a2, some (.int x)] (.int x :: st) S P := rn_s dq_Law_law_975 rfl rfl rfl
theorem dq_Law_law_976 : decode (km_c mm_Law_law) 976 = .ok (.iconst 1, 1) := by decide +kernel
theorem sq_Law_law_976 : rn G mm_Law_law 976 lv st S P ↔ rn G mm_Law_law 977 lv (.int (nI 1) :: st) S P := rn_s dq_Law_law_976 rfl rfl rfl
theorem dq_Law_law_977 : decode (km_c mm_Law_law) 977 = .ok (.iadd, 1) := by decide +kernel
theorem sq_Law_law_977 : rn G mm_Law_law 977 lv (.int x2 :: .int x :: st) S P ↔ rn G mm_Law_law 978 lv (.int (x + x2) :: st) S P := rn_s dq_Law_law_977 rfl rfl rfl
theorem dq_Law_law_978 : decode (km_c mm_Law_law) 978 = .ok (.iaload, 1) := by decide +kernel
theorem sq_Law_law_978 (ho : sx_o o pl kp) (hk : ak L a = 0) (hu : sx_up pl kp a = true ∨ 1000 ≤ a) (hc : c < ln L a) (hn : ln L a < 2 ^ 31) : rn (lt_G o L) mm_Law_law 978 lv (.int (nI c) :: .ref a :: st) (sx pl kp I A) P ↔ rn (lt_G o L) mm_Law_law 979 lv (.int (A a c) :: st) (sx pl kp I A) P := rx_ild dq_Law_law_978 ho hk hu hc hn
theorem dq_Law_law_979 : decode (km_c mm_Law_law) 979 = .ok (.aload_n 0, 1) := by decide +kernel
theorem sq_Law_law_979 : rn G mm_Law_law 979 [some (.ref z), a1, a2, a3] st S P ↔ rn G mm_Law_law 980 [some (.ref z), a1, a2, a3] (.ref z :: st) S P := rn_s dq_Law_law_979 rfl rfl rfl
theorem dq_Law_law_980 : decode (km_c mm_Law_law) 980 = .ok (.iload_n 3, 1) := by decide +kernel
theorem sq_Law_law_980 : rn G mm_Law_law 980 [a0, a1, a2, some (.int x)] st S P ↔ rn G mm_Law_law 981 [a0, a1, a2, some (.int x)] (.int x :: st) S P := rn_s dq_Law_law_980 rfl rfl rfl
theorem dq_Law_law_981 : decode (km_c mm_Law_law) 981 = .ok (.iconst 2, 1) := by decide +kernel
theorem sq_Law_law_981 : rn G mm_Law_law 981 lv st S P ↔ rn G mm_Law_law 982 lv (.int (nI 2) :: st) S P := rn_s dq_Law_law_981 rfl rfl rfl
theorem dq_Law_law_982 : decode (km_c mm_Law_law) 982 = .ok (.iadd, 1) := by decide +kernel
theorem sq_Law_law_982 : rn G mm_Law_law 982 lv (.int x2 :: .int x :: st) S P ↔ rn G mm_Law_law 983 lv (.int (x + x2) :: st) S P := rn_s dq_Law_law_982 rfl rfl rfl
theorem dq_Law_law_983 : decode (km_c mm_Law_law) 983 = .ok (.iaload, 1) := by decide +kernel
theorem sq_Law_law_983 (ho : sx_o o pl kp) (hk : ak L a = 0) (hu : sx_up pl kp a = true ∨ 1000 ≤ a) (hc : c < ln L a) (hn : ln L a < 2 ^ 31) : rn (lt_G o L) mm_Law_law 983 lv (.int (nI c) :: .ref a :: st) (sx pl kp I A) P ↔ rn (lt_G o L) mm_Law_law 984 lv (.int (A a c) :: st) (sx pl kp I A) P := rx_ild dq_Law_law_983 ho hk hu hc hn
theorem dq_Law_law_984 : decode (km_c mm_Law_law) 984 = .ok (.aload_n 0, 1) := by decide +kernel
theorem sq_Law_law_984 : rn G mm_Law_law 984 [some (.ref z), a1, a2, a3] st S P ↔ rn G mm_Law_law 985 [some (.ref z), a1, a2, a3] (.ref z :: st) S P := rn_s dq_Law_law_984 rfl rfl rfl
theorem dq_Law_law_985 : decode (km_c mm_Law_law) 985 = .ok (.iload_n 3, 1) := by decide +kernel
theorem sq_Law_law_985 : rn G mm_Law_law 985 [a0, a1, a2, some (.int x)] st S P ↔ rn G mm_Law_law 986 [a0, a1, a2, some (.int x)] (.int x :: st) S P := rn_s dq_Law_law_985 rfl rfl rfl
theorem dq_Law_law_986 : decode (km_c mm_Law_law) 986 = .ok (.iconst 3, 1) := by decide +kernel
theorem sq_Law_law_986 : rn G mm_Law_law 986 lv st S P ↔ rn G mm_Law_law 987 lv (.int (nI 3) :: st) S P := rn_s dq_Law_law_986 rfl rfl rfl
theorem dq_Law_law_987 : decode (km_c mm_Law_law) 987 = .ok (.iadd, 1) := by decide +kernel
theorem sq_Law_law_987 : rn G mm_Law_law 987 lv (.int x2 :: .int x :: st) S P ↔ rn G mm_Law_law 988 lv (.int (x + x2) :: st) S P := rn_s dq_Law_law_987 rfl rfl rfl
theorem dq_Law_law_988 : decode (km_c mm_Law_law) 988 = .ok (.iaload, 1) := by decide +kernel
theorem sq_Law_law_988 (ho : sx_o o pl kp) (hk : ak L a = 0) (hu : sx_up pl kp a = true ∨ 1000 ≤ a) (hc : c < ln L a) (hn : ln L a < 2 ^ 31) : rn (lt_G o L) mm_Law_law 988 lv (.int (nI c) :: .ref a :: st) (sx pl kp I A) P ↔ rn (lt_G o L) mm_Law_law 989 lv (.int (A a c) :: st) (sx pl kp I A) P := rx_ild dq_Law_law_988 ho hk hu hc hn
theorem dq_Law_law_989 : decode (km_c mm_Law_law) 989 = .ok (.aload_n 0, 1) := by decide +kernel
theorem sq_Law_law_989 : rn G mm_Law_law 989 [some (.ref z), a1, a2, a3] st S P ↔ rn G mm_Law_law 990 [some (.ref z), a1, a2, a3] (.ref z :: st) S P := rn_s dq_Law_law_989 rfl rfl rfl
theorem dq_Law_law_990 : decode (km_c mm_Law_law) 990 = .ok (.iload_n 3, 1) := by decide +kernel
theorem sq_Law_law_990 : rn G mm_Law_law 990 [a0, a1, a2, some (.int x)] st S P ↔ rn G mm_Law_law 991 [a0, a1, a2, some (.int x)] (.int x :: st) S P := rn_s dq_Law_law_990 rfl rfl rfl
theorem dq_Law_law_991 : decode (km_c mm_Law_law) 991 = .ok (.iconst 4, 1) := by decide +kernel
theorem sq_Law_law_991 : rn G mm_Law_law 991 lv st S P ↔ rn G mm_Law_law 992 lv (.int (nI 4) :: st) S P := rn_s dq_Law_law_991 rfl rfl rfl
theorem dq_Law_law_992 : decode (km_c mm_Law_law) 992 = .ok (.iadd, 1) := by decide +kernel
theorem sq_Law_law_992 : rn G mm_Law_law 992 lv (.int x2 :: .int x :: st) S P ↔ rn G mm_Law_law 993 lv (.int (x + x2) :: st) S P := rn_s dq_Law_law_992 rfl rfl rfl
theorem dq_Law_law_993 : decode (km_c mm_Law_law) 993 = .ok (.iaload, 1) := by decide +kernel
theorem sq_Law_law_993 (ho : sx_o o pl kp) (hk : ak L a = 0) (hu : sx_up pl kp a = true ∨ 1000 ≤ a) (hc : c < ln L a) (hn : ln L a < 2 ^ 31) : rn (lt_G o L) mm_Law_law 993 lv (.int (nI c) :: .ref a :: st) (sx pl kp I A) P ↔ rn (lt_G o L) mm_Law_law 994 lv (.int (A a c) :: st) (sx pl kp I A) P := rx_ild dq_Law_law_993 ho hk hu hc hn
theorem dq_Law_law_994 : decode (km_c mm_Law_law) 994 = .ok (.invokevirtual 145, 3) := by decide +kernel
theorem sq_Law_law_994_45 {x1 : Int32} {x2 : Int32} {x3 : Int32} {x4 : Int32} {v : Option Value} {S2 : ks_S} (hc : ev (lt_G o L) mm_Model_leaves [.ref 45, .int x1, .int x2, .int x3, .int x4] (sx pl kp I A) v S2) (ho : sx_o o pl kp) (hst : kx_cat st ≤ 8) : rn (lt_G o L) mm_Law_law 994 lv (.int x4 :: .int x3 :: .int x2 :: .int x1 :: .ref 45 :: st) (sx pl kp I A) P ↔ rn (lt_G o L) mm_Law_law 997 lv (v.toList ++ st) S2 P := rn_cv (k := 0) (host := "") (E' := mm_Model_leaves) dq_Law_law_994 rfl (ok_v rfl (by decide) (by decide) (Nat.le_add_left _ _) hst (Nat.le_of_ble_eq_true rfl) (Or.inr (rc_v ho (up_b (by decide)) rfl))) rfl rfl hc
theorem dq_Law_law_997 : decode (km_c mm_Law_law) 997 = .ok (.if_icmp .eq 177, 3) := by decide +kernel
theorem sq_Law_law_997 : rn G mm_Law_law 997 lv (.int x2 :: .int x :: st) S P ↔ ((x = x2 → rn G mm_Law_law 1174 lv st S P) ∧ (¬ (x = x2) → rn G mm_Law_law 1000 lv st S P)) := rn_b (off := 177) dq_Law_law_997 rfl rfl rfl rfl
theorem dq_Law_law_1000 : decode (km_c mm_Law_law) 1000 = .ok (.iconst 0, 1) := by decide +kernel
theorem sq_Law_law_1000 : rn G mm_Law_law 1000 lv st S P ↔ rn G mm_Law_law 1001 lv (.int (nI 0) :: st) S P := rn_s dq_Law_law_1000 rfl rfl rfl
theorem dq_Law_law_1001 : decode (km_c mm_Law_law) 1001 = .ok (.ireturn, 1) := by decide +kernel
theorem sq_Law_law_1001_0 : rn G mm_Law_law 1001 lv [.int (nI 0)] S P ↔ P (some (.int (nI 0))) S := rn_ir dq_Law_law_1001 (by decide)
theorem sq_Law_law_1001_1 : rn G mm_Law_law 1001 lv [.int (nI 1)] S P ↔ P (some (.int (nI 1))) S := rn_ir dq_Law_law_1001 (by decide)
theorem dq_Law_law_1002 : decode (km_c mm_Law_law) 1002 = .ok (.aload_n 1, 1) := by decide +kernel
theorem sq_Law_law_1002 : rn G mm_Law_law 1002 [a0, some (.ref z), a2, a3] st S P ↔ rn G mm_Law_law 1003 [a0, some (.ref z), a2, a3] (.ref z :: st) S P := rn_s dq_Law_law_1002 rfl rfl rfl
theorem dq_Law_law_1003 : decode (km_c mm_Law_law) 1003 = .ok (.aload_n 0, 1) := by decide +kernel
theorem sq_Law_law_1003 : rn G mm_Law_law 1003 [some (.ref z), a1, a2, a3] st S P ↔ rn G mm_Law_law 1004 [some (.ref z), a1, a2, a3] (.ref z :: st) S P := rn_s dq_Law_law_1003 rfl rfl rfl
theorem dq_Law_law_1004 : decode (km_c mm_Law_law) 1004 = .ok (.iload_n 3, 1) := by decide +kernel
theorem sq_Law_law_1004 : rn G mm_Law_law 1004 [a0, a1, a2, some (.int x)] st S P ↔ rn G mm_Law_law 1005 [a0, a1, a2, some (.int x)] (.int x :: st) S P := rn_s dq_Law_law_1004 rfl rfl rfl
theorem dq_Law_law_1005 : decode (km_c mm_Law_law) 1005 = .ok (.iconst 1, 1) := by decide +kernel
theorem sq_Law_law_1005 : rn G mm_Law_law 1005 lv st S P ↔ rn G mm_Law_law 1006 lv (.int (nI 1) :: st) S P := rn_s dq_Law_law_1005 rfl rfl rfl
theorem dq_Law_law_1006 : decode (km_c mm_Law_law) 1006 = .ok (.iadd, 1) := by decide +kernel
theorem sq_Law_law_1006 : rn G mm_Law_law 1006 lv (.int x2 :: .int x :: st) S P ↔ rn G mm_Law_law 1007 lv (.int (x + x2) :: st) S P := rn_s dq_Law_law_1006 rfl rfl rfl
theorem dq_Law_law_1007 : decode (km_c mm_Law_law) 1007 = .ok (.iaload, 1) := by decide +kernel
theorem sq_Law_law_1007 (ho : sx_o o pl kp) (hk : ak L a = 0) (hu : sx_up pl kp a = true ∨ 1000 ≤ a) (hc : c < ln L a) (hn : ln L a < 2 ^ 31) : rn (lt_G o L) mm_Law_law 1007 lv (.int (nI c) :: .ref a :: st) (sx pl kp I A) P ↔ rn (lt_G o L) mm_Law_law 1008 lv (.int (A a c) :: st) (sx pl kp I A) P := rx_ild dq_Law_law_1007 ho hk hu hc hn
theorem dq_Law_law_1008 : decode (km_c mm_Law_law) 1008 = .ok (.aload_n 0, 1) := by decide +kernel
theorem sq_Law_law_1008 : rn G mm_Law_law 1008 [some (.ref z), a1, a2, a3] st S P ↔ rn G mm_Law_law 1009 [some (.ref z), a1, a2, a3] (.ref z :: st) S P := rn_s dq_Law_law_1008 rfl rfl rfl
theorem dq_Law_law_1009 : decode (km_c mm_Law_law) 1009 = .ok (.iload_n 3, 1) := by decide +kernel
theorem sq_Law_law_1009 : rn G mm_Law_law 1009 [a0, a1, a2, some (.int x)] st S P ↔ rn G mm_Law_law 1010 [a0, a1, a2, some (.int x)] (.int x :: st) S P := rn_s dq_Law_law_1009 rfl rfl rfl
theorem dq_Law_law_1010 : decode (km_c mm_Law_law) 1010 = .ok (.iconst 2, 1) := by decide +kernel
theorem sq_Law_law_1010 : rn G mm_Law_law 1010 lv st S P ↔ rn G mm_Law_law 1011 lv (.int (nI 2) :: st) S P := rn_s dq_Law_law_1010 rfl rfl rfl
theorem dq_Law_law_1011 : decode (km_c mm_Law_law) 1011 = .ok (.iadd, 1) := by decide +kernel
theorem sq_Law_law_1011 : rn G mm_Law_law 1011 lv (.int x2 :: .int x :: st) S P ↔ rn G mm_Law_law 1012 lv (.int (x + x2) :: st) S P := rn_s dq_Law_law_1011 rfl rfl rfl
theorem dq_Law_law_1012 : decode (km_c mm_Law_law) 1012 = .ok (.iaload, 1) := by decide +kernel
theorem sq_Law_law_1012 (ho : sx_o o pl kp) (hk : ak L a = 0) (hu : sx_up pl kp a = true ∨ 1000 ≤ a) (hc : c < ln L a) (hn : ln L a < 2 ^ 31) : rn (lt_G o L) mm_Law_law 1012 lv (.int (nI c) :: .ref a :: st) (sx pl kp I A) P ↔ rn (lt_G o L) mm_Law_law 1013 lv (.int (A a c) :: st) (sx pl kp I A) P := rx_ild dq_Law_law_1012 ho hk hu hc hn
theorem dq_Law_law_1013 : decode (km_c mm_Law_law) 1013 = .ok (.aload_n 0, 1) := by decide +kernel
theorem sq_Law_law_1013 : rn G mm_Law_law 1013 [some (.ref z), a1, a2, a3] st S P ↔ rn G mm_Law_law 1014 [some (.ref z), a1, a2, a3] (.ref z :: st) S P := rn_s dq_Law_law_1013 rfl rfl rfl
theorem dq_Law_law_1014 : decode (km_c mm_Law_law) 1014 = .ok (.iload_n 3, 1) := by decide +kernel
theorem sq_Law_law_1014 : rn G mm_Law_law 1014 [a0, a1, a2, some (.int x)] st S P ↔ rn G mm_Law_law 1015 [a0, a1, a2, some (.int x)] (.int x :: st) S P := rn_s dq_Law_law_1014 rfl rfl rfl
theorem dq_Law_law_1015 : decode (km_c mm_Law_law) 1015 = .ok (.iconst 3, 1) := by decide +kernel
theorem sq_Law_law_1015 : rn G mm_Law_law 1015 lv st S P ↔ rn G mm_Law_law 1016 lv (.int (nI 3) :: st) S P := rn_s dq_Law_law_1015 rfl rfl rfl
theorem dq_Law_law_1016 : decode (km_c mm_Law_law) 1016 = .ok (.iadd, 1) := by decide +kernel
theorem sq_Law_law_1016 : rn G mm_Law_law 1016 lv (.int x2 :: .int x :: st) S P ↔ rn G mm_Law_law 1017 lv (.int (x + x2) :: st) S P := rn_s dq_Law_law_1016 rfl rfl rfl
theorem dq_Law_law_1017 : decode (km_c mm_Law_law) 1017 = .ok (.iaload, 1) := by decide +kernel
theorem sq_Law_law_1017 (ho : sx_o o pl kp) (hk : ak L a = 0) (hu : sx_up pl kp a = true ∨ 1000 ≤ a) (hc : c < ln L a) (hn : ln L a < 2 ^ 31) : rn (lt_G o L) mm_Law_law 1017 lv (.int (nI c) :: .ref a :: st) (sx pl kp I A) P ↔ rn (lt_G o L) mm_Law_law 1018 lv (.int (A a c) :: st) (sx pl kp I A) P := rx_ild dq_Law_law_1017 ho hk hu hc hn
theorem dq_Law_law_1018 : decode (km_c mm_Law_law) 1018 = .ok (.invokevirtual 146, 3) := by decide +kernel
theorem sq_Law_law_1018_0 {x1 : Int32} {x2 : Int32} {x3 : Int32} {v : Option Value} {S2 : ks_S} (hc : ev (lt_G o L) mm_Road_sheet [.ref 0, .int x1, .int x2, .int x3] (sx pl kp I A) v S2) (ho : sx_o o pl kp) (hst : kx_cat st ≤ 8) : rn (lt_G o L) mm_Law_law 1018 lv (.int x3 :: .int x2 :: .int x1 :: .ref 0 :: st) (sx pl kp I A) P ↔ rn (lt_G o L) mm_Law_law 1021 lv (v.toList ++ st) S2 P := rn_cv (k := 0) (host := "") (E' := mm_Road_sheet) dq_Law_law_1018 rfl (ok_v rfl (by decide) (by decide) (Nat.le_add_left _ _) hst (Nat.le_of_ble_eq_true rfl) (Or.inr (rc_v ho (up_b (by decide)) rfl))) rfl rfl hc
theorem dq_Law_law_1021 : decode (km_c mm_Law_law) 1021 = .ok (.aload_n 2, 1) := by decide +kernel
theorem sq_Law_law_1021 : rn G mm_Law_law 1021 [a0, a1, some (.ref z), a3] st S P ↔ rn G mm_Law_law 1022 [a0, a1, some (.ref z), a3] (.ref z :: st) S P := rn_s dq_Law_law_1021 rfl rfl rfl
theorem dq_Law_law_1022 : decode (km_c mm_Law_law) 1022 = .ok (.aload_n 0, 1) := by decide +kernel
theorem sq_Law_law_1022 : rn G mm_Law_law 1022 [some (.ref z), a1, a2, a3] st S P ↔ rn G mm_Law_law 1023 [some (.ref z), a1, a2, a3] (.ref z :: st) S P := rn_s dq_Law_law_1022 rfl rfl rfl
theorem dq_Law_law_1023 : decode (km_c mm_Law_law) 1023 = .ok (.iload_n 3, 1) := by decide +kernel
theorem sq_Law_law_1023 : rn G mm_Law_law 1023 [a0, a1, a2, some (.int x)] st S P ↔ rn G mm_Law_law 1024 [a0, a1, a2, some (.int x)] (.int x :: st) S P := rn_s dq_Law_law_1023 rfl rfl rfl
theorem dq_Law_law_1024 : decode (km_c mm_Law_law) 1024 = .ok (.iconst 1, 1) := by decide +kernel
theorem sq_Law_law_1024 : rn G mm_Law_law 1024 lv st S P ↔ rn G mm_Law_law 1025 lv (.int (nI 1) :: st) S P := rn_s dq_Law_law_1024 rfl rfl rfl
theorem dq_Law_law_1025 : decode (km_c mm_Law_law) 1025 = .ok (.iadd, 1) := by decide +kernel
theorem sq_Law_law_1025 : rn G mm_Law_law 1025 lv (.int x2 :: .int x :: st) S P ↔ rn G mm_Law_law 1026 lv (.int (x + x2) :: st) S P := rn_s dq_Law_law_1025 rfl rfl rfl
theorem dq_Law_law_1026 : decode (km_c mm_Law_law) 1026 = .ok (.iaload, 1) := by decide +kernel
theorem sq_Law_law_1026 (ho : sx_o o pl kp) (hk : ak L a = 0) (hu : sx_up pl kp a = true ∨ 1000 ≤ a) (hc : c < ln L a) (hn : ln L a < 2 ^ 31) : rn (lt_G o L) mm_Law_law 1026 lv (.int (nI c) :: .ref a :: st) (sx pl kp I A) P ↔ rn (lt_G o L) mm_Law_law 1027 lv (.int (A a c) :: st) (sx pl kp I A) P := rx_ild dq_Law_law_1026 ho hk hu hc hn
theorem dq_Law_law_1027 : decode (km_c mm_Law_law) 1027 = .ok (.aload_n 0, 1) := by decide +kernel
theorem sq_Law_law_1027 : rn G mm_Law_law 1027 [some (.ref z), a1, a2, a3] st S P ↔ rn G mm_Law_law 1028 [some (.ref z), a1, a2, a3] (.ref z :: st) S P := rn_s dq_Law_law_1027 rfl rfl rfl
theorem dq_Law_law_1028 : decode (km_c mm_Law_law) 1028 = .ok (.iload_n 3, 1) := by decide +kernel
theorem sq_Law_law_1028 : rn G mm_Law_law 1028 [a0, a1, a2, some (.int x)] st S P ↔ rn G mm_Law_law 1029 [a0, a1, a2, some (.int x)] (.int x :: st) S P := rn_s dq_Law_law_1028 rfl rfl rfl
theorem dq_Law_law_1029 : decode (km_c mm_Law_law) 1029 = .ok (.iconst 2, 1) := by decide +kernel
theorem sq_Law_law_1029 : rn G mm_Law_law 1029 lv st S P ↔ rn G mm_Law_law 1030 lv (.int (nI 2) :: st) S P := rn_s dq_Law_law_1029 rfl rfl rfl
theorem dq_Law_law_1030 : decode (km_c mm_Law_law) 1030 = .ok (.iadd, 1) := by decide +kernel
theorem sq_Law_law_1030 : rn G mm_Law_law 1030 lv (.int x2 :: .int x :: st) S P ↔ rn G mm_Law_law 1031 lv (.int (x + x2) :: st) S P := rn_s dq_Law_law_1030 rfl rfl rfl
theorem dq_Law_law_1031 : decode (km_c mm_Law_law) 1031 = .ok (.iaload, 1) := by decide +kernel
theorem sq_Law_law_1031 (ho : sx_o o pl kp) (hk : ak L a = 0) (hu : sx_up pl kp a = true ∨ 1000 ≤ a) (hc : c < ln L a) (hn : ln L a < 2 ^ 31) : rn (lt_G o L) mm_Law_law 1031 lv (.int (nI c) :: .ref a :: st) (sx pl kp I A) P ↔ rn (lt_G o L) mm_Law_law 1032 lv (.int (A a c) :: st) (sx pl kp I A) P := rx_ild dq_Law_law_1031 ho hk hu hc hn
theorem dq_Law_law_1032 : decode (km_c mm_Law_law) 1032 = .ok (.aload_n 0, 1) := by decide +kernel
theorem sq_Law_law_1032 : rn G mm_Law_law 1032 [some (.ref z), a1, a2, a3] st S P ↔ rn G mm_Law_law 1033 [some (.ref z), a1, a2, a3] (.ref z :: st) S P := rn_s dq_Law_law_1032 rfl rfl rfl
theorem dq_Law_law_1033 : decode (km_c mm_Law_law) 1033 = .ok (.iload_n 3, 1) := by decide +kernel
theorem sq_Law_law_1033 : rn G mm_Law_law 1033 [a0, a1, a2, some (.int x)] st S P ↔ rn G mm_Law_law 1034 [a0, a1, a2, some (.int x)] (.int x :: st) S P := rn_s dq_Law_law_1033 rfl rfl rfl
theorem dq_Law_law_1034 : decode (km_c mm_Law_law) 1034 = .ok (.iconst 3, 1) := by decide +kernel
theorem sq_Law_law_1034 : rn G mm_Law_law 1034 lv st S P ↔ rn G mm_Law_law 1035 lv (.int (nI 3) :: st) S P := rn_s dq_Law_law_1034 rfl rfl rfl
theorem dq_Law_law_1035 : decode (km_c mm_Law_law) 1035 = .ok (.iadd, 1) := by decide +kernel
theorem sq_Law_law_1035 : rn G mm_Law_law 1035 lv (.int x2 :: .int x :: st) S P ↔ rn G mm_Law_law 1036 lv (.int (x + x2) :: st) S P := rn_s dq_Law_law_1035 rfl rfl rfl
theorem dq_Law_law_1036 : decode (km_c mm_Law_law) 1036 = .ok (.iaload, 1) := by decide +kernel
theorem sq_Law_law_1036 (ho : sx_o o pl kp) (hk : ak L a = 0) (hu : sx_up pl kp a = true ∨ 1000 ≤ a) (hc : c < ln L a) (hn : ln L a < 2 ^ 31) : rn (lt_G o L) mm_Law_law 1036 lv (.int (nI c) :: .ref a :: st) (sx pl kp I A) P ↔ rn (lt_G o L) mm_Law_law 1037 lv (.int (A a c) :: st) (sx pl kp I A) P := rx_ild dq_Law_law_1036 ho hk hu hc hn
theorem dq_Law_law_1037 : decode (km_c mm_Law_law) 1037 = .ok (.invokevirtual 149, 3) := by decide +kernel
theorem sq_Law_law_1037_45 {x1 : Int32} {x2 : Int32} {x3 : Int32} {v : Option Value} {S2 : ks_S} (hc : ev (lt_G o L) mm_Model_sheet [.ref 45, .int x1, .int x2, .int x3] (sx pl kp I A) v S2) (ho : sx_o o pl kp) (hst : kx_cat st ≤ 8) : rn (lt_G o L) mm_Law_law 1037 lv (.int x3 :: .int x2 :: .int x1 :: .ref 45 :: st) (sx pl kp I A) P ↔ rn (lt_G o L) mm_Law_law 1040 lv (v.toList ++ st) S2 P := rn_cv (k := 0) (host := "") (E' := mm_Model_sheet) dq_Law_law_1037 rfl (ok_v rfl (by decide) (by decide) (Nat.le_add_left _ _) hst (Nat.le_of_ble_eq_true rfl) (Or.inr (rc_v ho (up_b (by decide)) rfl))) rfl rfl hc
theorem dq_Law_law_1040 : decode (km_c mm_Law_law) 1040 = .ok (.if_icmp .eq 134, 3) := by decide +kernel
theorem sq_Law_law_1040 : rn G mm_Law_law 1040 lv (.int x2 :: .int x :: st) S P ↔ ((x = x2 → rn G mm_Law_law 1174 lv st S P) ∧ (¬ (x = x2) → rn G mm_Law_law 1043 lv st S P)) := rn_b (off := 134) dq_Law_law_1040 rfl rfl rfl rfl
theorem dq_Law_law_1043 : decode (km_c mm_Law_law) 1043 = .ok (.iconst 0, 1) := by decide +kernel
theorem sq_Law_law_1043 : rn G mm_Law_law 1043 lv st S P ↔ rn G mm_Law_law 1044 lv (.int (nI 0) :: st) S P := rn_s dq_Law_law_1043 rfl rfl rfl
theorem dq_Law_law_1044 : decode (km_c mm_Law_law) 1044 = .ok (.ireturn, 1) := by decide +kernel
theorem sq_Law_law_1044_0 : rn G mm_Law_law 1044 lv [.int (nI 0)] S P ↔ P (some (.int (nI 0))) S := rn_ir dq_Law_law_1044 (by decide)
theorem sq_Law_law_1044_1 : rn G mm_Law_law 1044 lv [.int (nI 1)] S P ↔ P (some (.int (nI 1))) S := rn_ir dq_Law_law_1044 (by decide)
theorem dq_Law_law_1045 : decode (km_c mm_Law_law) 1045 = .ok (.aload_n 1, 1) := by decide +kernel
theorem sq_Law_law_1045 : rn G mm_Law_law 1045 [a0, some (.ref z), a2, a3] st S P ↔ rn G mm_Law_law 1046 [a0, some (.ref z), a2, a3] (.ref z :: st) S P := rn_s dq_Law_law_1045 rfl rfl rfl
theorem dq_Law_law_1046 : decode (km_c mm_Law_law) 1046 = .ok (.aload_n 0, 1) := by decide +kernel
theorem sq_Law_law_1046 : rn G mm_Law_law 1046 [some (.ref z), a1, a2, a3] st S P ↔ rn G mm_Law_law 1047 [some (.ref z), a1, a2, a3] (.ref z :: st) S P := rn_s dq_Law_law_1046 rfl rfl rfl
theorem dq_Law_law_1047 : decode (km_c mm_Law_law) 1047 = .ok (.iload_n 3, 1) := by decide +kernel
theorem sq_Law_law_1047 : rn G mm_Law_law 1047 [a0, a1, a2, some (.int x)] st S P ↔ rn G mm_Law_law 1048 [a0, a1, a2, some (.int x)] (.int x :: st) S P := rn_s dq_Law_law_1047 rfl rfl rfl
theorem dq_Law_law_1048 : decode (km_c mm_Law_law) 1048 = .ok (.iconst 1, 1) := by decide +kernel
theorem sq_Law_law_1048 : rn G mm_Law_law 1048 lv st S P ↔ rn G mm_Law_law 1049 lv (.int (nI 1) :: st) S P := rn_s dq_Law_law_1048 rfl rfl rfl
theorem dq_Law_law_1049 : decode (km_c mm_Law_law) 1049 = .ok (.iadd, 1) := by decide +kernel
theorem sq_Law_law_1049 : rn G mm_Law_law 1049 lv (.int x2 :: .int x :: st) S P ↔ rn G mm_Law_law 1050 lv (.int (x + x2) :: st) S P := rn_s dq_Law_law_1049 rfl rfl rfl
theorem dq_Law_law_1050 : decode (km_c mm_Law_law) 1050 = .ok (.iaload, 1) := by decide +kernel
theorem sq_Law_law_1050 (ho : sx_o o pl kp) (hk : ak L a = 0) (hu : sx_up pl kp a = true ∨ 1000 ≤ a) (hc : c < ln L a) (hn : ln L a < 2 ^ 31) : rn (lt_G o L) mm_Law_law 1050 lv (.int (nI c) :: .ref a :: st) (sx pl kp I A) P ↔ rn (lt_G o L) mm_Law_law 1051 lv (.int (A a c) :: st) (sx pl kp I A) P := rx_ild dq_Law_law_1050 ho hk hu hc hn
theorem dq_Law_law_1051 : decode (km_c mm_Law_law) 1051 = .ok (.invokevirtual 150, 3) := by decide +kernel
theorem sq_Law_law_1051_0 {x1 : Int32} {v : Option Value} {S2 : ks_S} (hc : ev (lt_G o L) mm_Road_drop [.ref 0, .int x1] (sx pl kp I A) v S2) (ho : sx_o o pl kp) (hst : kx_cat st ≤ 8) : rn (lt_G o L) mm_Law_law 1051 lv (.int x1 :: .ref 0 :: st) (sx pl kp I A) P ↔ rn (lt_G o L) mm_Law_law 1054 lv (v.toList ++ st) S2 P := rn_cv (k := 0) (host := "") (E' := mm_Road_drop) dq_Law_law_1051 rfl (ok_v rfl (by decide) (by decide) (Nat.le_add_left _ _) hst (Nat.le_of_ble_eq_true rfl) (Or.inr (rc_v ho (up_b (by decide)) rfl))) rfl rfl hc
theorem dq_Law_law_1054 : decode (km_c mm_Law_law) 1054 = .ok (.aload_n 2, 1) := by decide +kernel
theorem sq_Law_law_1054 : rn G mm_Law_law 1054 [a0, a1, some (.ref z), a3] st S P ↔ rn G mm_Law_law 1055 [a0, a1, some (.ref z), a3] (.ref z :: st) S P := rn_s dq_Law_law_1054 rfl rfl rfl
theorem dq_Law_law_1055 : decode (km_c mm_Law_law) 1055 = .ok (.aload_n 0, 1) := by decide +kernel
theorem sq_Law_law_1055 : rn G mm_Law_law 1055 [some (.ref z), a1, a2, a3] st S P ↔ rn G mm_Law_law 1056 [some (.ref z), a1, a2, a3] (.ref z :: st) S P := rn_s dq_Law_law_1055 rfl rfl rfl
theorem dq_Law_law_1056 : decode (km_c mm_Law_law) 1056 = .ok (.iload_n 3, 1) := by decide +kernel
theorem sq_Law_law_1056 : rn G mm_Law_law 1056 [a0, a1, a2, some (.int x)] st S P ↔ rn G mm_Law_law 1057 [a0, a1, a2, some (.int x)] (.int x :: st) S P := rn_s dq_Law_law_1056 rfl rfl rfl
theorem dq_Law_law_1057 : decode (km_c mm_Law_law) 1057 = .ok (.iconst 1, 1) := by decide +kernel
theorem sq_Law_law_1057 : rn G mm_Law_law 1057 lv st S P ↔ rn G mm_Law_law 1058 lv (.int (nI 1) :: st) S P := rn_s dq_Law_law_1057 rfl rfl rfl
theorem dq_Law_law_1058 : decode (km_c mm_Law_law) 1058 = .ok (.iadd, 1) := by decide +kernel
theorem sq_Law_law_1058 : rn G mm_Law_law 1058 lv (.int x2 :: .int x :: st) S P ↔ rn G mm_Law_law 1059 lv (.int (x + x2) :: st) S P := rn_s dq_Law_law_1058 rfl rfl rfl
theorem dq_Law_law_1059 : decode (km_c mm_Law_law) 1059 = .ok (.iaload, 1) := by decide +kernel
theorem sq_Law_law_1059 (ho : sx_o o pl kp) (hk : ak L a = 0) (hu : sx_up pl kp a = true ∨ 1000 ≤ a) (hc : c < ln L a) (hn : ln L a < 2 ^ 31) : rn (lt_G o L) mm_Law_law 1059 lv (.int (nI c) :: .ref a :: st) (sx pl kp I A) P ↔ rn (lt_G o L) mm_Law_law 1060 lv (.int (A a c) :: st) (sx pl kp I A) P := rx_ild dq_Law_law_1059 ho hk hu hc hn
theorem dq_Law_law_1060 : decode (km_c mm_Law_law) 1060 = .ok (.invokevirtual 153, 3) := by decide +kernel
theorem sq_Law_law_1060_45 {x1 : Int32} {v : Option Value} {S2 : ks_S} (hc : ev (lt_G o L) mm_Model_drop [.ref 45, .int x1] (sx pl kp I A) v S2) (ho : sx_o o pl kp) (hst : kx_cat st ≤ 8) : rn (lt_G o L) mm_Law_law 1060 lv (.int x1 :: .ref 45 :: st) (sx pl kp I A) P ↔ rn (lt_G o L) mm_Law_law 1063 lv (v.toList ++ st) S2 P := rn_cv (k := 0) (host := "") (E' := mm_Model_drop) dq_Law_law_1060 rfl (ok_v rfl (by decide) (by decide) (Nat.le_add_left _ _) hst (Nat.le_of_ble_eq_true rfl) (Or.inr (rc_v ho (up_b (by decide)) rfl))) rfl rfl hc
theorem dq_Law_law_1063 : decode (km_c mm_Law_law) 1063 = .ok (.if_icmp .eq 111, 3) := by decide +kernel
theorem sq_Law_law_1063 : rn G mm_Law_law 1063 lv (.int x2 :: .int x :: st) S P ↔ ((x = x2 → rn G mm_Law_law 1174 lv st S P) ∧ (¬ (x = x2) → rn G mm_Law_law 1066 lv st S P)) := rn_b (off := 111) dq_Law_law_1063 rfl rfl rfl rfl
theorem dq_Law_law_1066 : decode (km_c mm_Law_law) 1066 = .ok (.iconst 0, 1) := by decide +kernel
theorem sq_Law_law_1066 : rn G mm_Law_law 1066 lv st S P ↔ rn G mm_Law_law 1067 lv (.int (nI 0) :: st) S P := rn_s dq_Law_law_1066 rfl rfl rfl
theorem dq_Law_law_1067 : decode (km_c mm_Law_law) 1067 = .ok (.ireturn, 1) := by decide +kernel
theorem sq_Law_law_1067_0 : rn G mm_Law_law 1067 lv [.int (nI 0)] S P ↔ P (some (.int (nI 0))) S := rn_ir dq_Law_law_1067 (by decide)
theorem sq_Law_law_1067_1 : rn G mm_Law_law 1067 lv [.int (nI 1)] S P ↔ P (some (.int (nI 1))) S := rn_ir dq_Law_law_1067 (by decide)
theorem dq_Law_law_1068 : decode (km_c mm_Law_law) 1068 = .ok (.aload_n 1, 1) := by decide +kernel
theorem sq_Law_law_1068 : rn G mm_Law_law 1068 [a0, some (.ref z), a2, a3] st S P ↔ rn G mm_Law_law 1069 [a0, some (.ref z), a2, a3] (.ref z :: st) S P := rn_s dq_Law_law_1068 rfl rfl rfl
theorem dq_Law_law_1069 : decode (km_c mm_Law_law) 1069 = .ok (.aload_n 0, 1) := by decide +kernel
theorem sq_Law_law_1069 : rn G mm_Law_law 1069 [some (.ref z), a1, a2, a3] st S P ↔ rn G mm_Law_law 1070 [some (.ref z), a1, a2, a3] (.ref z :: st) S P := rn_s dq_Law_law_1069 rfl rfl rfl
theorem dq_Law_law_1070 : decode (km_c mm_Law_law) 1070 = .ok (.iload_n 3, 1) := by decide +kernel
theorem sq_Law_law_1070 : rn G mm_Law_law 1070 [a0, a1, a2, some (.int x)] st S P ↔ rn G mm_Law_law 1071 [a0, a1, a2, some (.int x)] (.int x :: st) S P := rn_s dq_Law_law_1070 rfl rfl rfl
theorem dq_Law_law_1071 : decode (km_c mm_Law_law) 1071 = .ok (.iconst 1, 1) := by decide +kernel
theorem sq_Law_law_1071 : rn G mm_Law_law 1071 lv st S P ↔ rn G mm_Law_law 1072 lv (.int (nI 1) :: st) S P := rn_s dq_Law_law_1071 rfl rfl rfl
theorem dq_Law_law_1072 : decode (km_c mm_Law_law) 1072 = .ok (.iadd, 1) := by decide +kernel
theorem sq_Law_law_1072 : rn G mm_Law_law 1072 lv (.int x2 :: .int x :: st) S P ↔ rn G mm_Law_law 1073 lv (.int (x + x2) :: st) S P := rn_s dq_Law_law_1072 rfl rfl rfl
theorem dq_Law_law_1073 : decode (km_c mm_Law_law) 1073 = .ok (.iaload, 1) := by decide +kernel
theorem sq_Law_law_1073 (ho : sx_o o pl kp) (hk : ak L a = 0) (hu : sx_up pl kp a = true ∨ 1000 ≤ a) (hc : c < ln L a) (hn : ln L a < 2 ^ 31) : rn (lt_G o L) mm_Law_law 1073 lv (.int (nI c) :: .ref a :: st) (sx pl kp I A) P ↔ rn (lt_G o L) mm_Law_law 1074 lv (.int (A a c) :: st) (sx pl kp I A) P := rx_ild dq_Law_law_1073 ho hk hu hc hn
theorem dq_Law_law_1074 : decode (km_c mm_Law_law) 1074 = .ok (.aload_n 0, 1) := by decide +kernel
theorem sq_Law_law_1074 : rn G mm_Law_law 1074 [some (.ref z), a1, a2, a3] st S P ↔ rn G mm_Law_law 1075 [some (.ref z), a1, a2, a3] (.ref z :: st) S P := rn_s dq_Law_law_1074 rfl rfl rfl
theorem dq_Law_law_1075 : decode (km_c mm_Law_law) 1075 = .ok (.iload_n 3, 1) := by decide +kernel
theorem sq_Law_law_1075 : rn G mm_Law_law 1075 [a0, a1, a2, some (.int x)] st S P ↔ rn G mm_Law_law 1076 [a0, a1, a2, some (.int x)] (.int x :: st) S P := rn_s dq_Law_law_1075 rfl rfl rfl
theorem dq_Law_law_1076 : decode (km_c mm_Law_law) 1076 = .ok (.iconst 2, 1) := by decide +kernel
theorem sq_Law_law_1076 : rn G mm_Law_law 1076 lv st S P ↔ rn G mm_Law_law 1077 lv (.int (nI 2) :: st) S P := rn_s dq_Law_law_1076 rfl rfl rfl
theorem dq_Law_law_1077 : decode (km_c mm_Law_law) 1077 = .ok (.iadd, 1) := by decide +kernel
theorem sq_Law_law_1077 : rn G mm_Law_law 1077 lv (.int x2 :: .int x :: st) S P ↔ rn G mm_Law_law 1078 lv (.int (x + x2) :: st) S P := rn_s dq_Law_law_1077 rfl rfl rfl
theorem dq_Law_law_1078 : decode (km_c mm_Law_law) 1078 = .ok (.iaload, 1) := by decide +kernel
theorem sq_Law_law_1078 (ho : sx_o o pl kp) (hk : ak L a = 0) (hu : sx_up pl kp a = true ∨ 1000 ≤ a) (hc : c < ln L a) (hn : ln L a < 2 ^ 31) : rn (lt_G o L) mm_Law_law 1078 lv (.int (nI c) :: .ref a :: st) (sx pl kp I A) P ↔ rn (lt_G o L) mm_Law_law 1079 lv (.int (A a c) :: st) (sx pl kp I A) P := rx_ild dq_Law_law_1078 ho hk hu hc hn
theorem dq_Law_law_1079 : decode (km_c mm_Law_law) 1079 = .ok (.aload_n 0, 1) := by decide +kernel
theorem sq_Law_law_1079 : rn G mm_Law_law 1079 [some (.ref z), a1, a2, a3] st S P ↔ rn G mm_Law_law 1080 [some (.ref z), a1, a2, a3] (.ref z :: st) S P := rn_s dq_Law_law_1079 rfl rfl rfl
theorem dq_Law_law_1080 : decode (km_c mm_Law_law) 1080 = .ok (.iload_n 3, 1) := by decide +kernel
theorem sq_Law_law_1080 : rn G mm_Law_law 1080 [a0, a1, a2, some (.int x)] st S P ↔ rn G mm_Law_law 1081 [a0, a1, a2, some (.int x)] (.int x :: st) S P := rn_s dq_Law_law_1080 rfl rfl rfl
theorem dq_Law_law_1081 : decode (km_c mm_Law_law) 1081 = .ok (.iconst 3, 1) := by decide +kernel
theorem sq_Law_law_1081 : rn G mm_Law_law 1081 lv st S P ↔ rn G mm_Law_law 1082 lv (.int (nI 3) :: st) S P := rn_s dq_Law_law_1081 rfl rfl rfl
theorem dq_Law_law_1082 : decode (km_c mm_Law_law) 1082 = .ok (.iadd, 1) := by decide +kernel
theorem sq_Law_law_1082 : rn G mm_Law_law 1082 lv (.int x2 :: .int x :: st) S P ↔ rn G mm_Law_law 1083 lv (.int (x + x2) :: st) S P := rn_s dq_Law_law_1082 rfl rfl rfl
theorem dq_Law_law_1083 : decode (km_c mm_Law_law) 1083 = .ok (.iaload, 1) := by decide +kernel
theorem sq_Law_law_1083 (ho : sx_o o pl kp) (hk : ak L a = 0) (hu : sx_up pl kp a = true ∨ 1000 ≤ a) (hc : c < ln L a) (hn : ln L a < 2 ^ 31) : rn (lt_G o L) mm_Law_law 1083 lv (.int (nI c) :: .ref a :: st) (sx pl kp I A) P ↔ rn (lt_G o L) mm_Law_law 1084 lv (.int (A a c) :: st) (sx pl kp I A) P := rx_ild dq_Law_law_1083 ho hk hu hc hn
theorem dq_Law_law_1084 : decode (km_c mm_Law_law) 1084 = .ok (.aload_n 0, 1) := by decide +kernel
theorem sq_Law_law_1084 : rn G mm_Law_law 1084 [some (.ref z), a1, a2, a3] st S P ↔ rn G mm_Law_law 1085 [some (.ref z), a1, a2, a3] (.ref z :: st) S P := rn_s dq_Law_law_1084 rfl rfl rfl
theorem dq_Law_law_1085 : decode (km_c mm_Law_law) 1085 = .ok (.iload_n 3, 1) := by decide +kernel
theorem sq_Law_law_1085 : rn G mm_Law_law 1085 [a0, a1, a2, some (.int x)] st S P ↔ rn G mm_Law_law 1086 [a0, a1, a2, some (.int x)] (.int x :: st) S P := rn_s dq_Law_law_1085 rfl rfl rfl
theorem dq_Law_law_1086 : decode (km_c mm_Law_law) 1086 = .ok (.iconst 4, 1) := by decide +kernel
theorem sq_Law_law_1086 : rn G mm_Law_law 1086 lv st S P ↔ rn G mm_Law_law 1087 lv (.int (nI 4) :: st) S P := rn_s dq_Law_law_1086 rfl rfl rfl
theorem dq_Law_law_1087 : decode (km_c mm_Law_law) 1087 = .ok (.iadd, 1) := by decide +kernel
theorem sq_Law_law_1087 : rn G mm_Law_law 1087 lv (.int x2 :: .int x :: st) S P ↔ rn G mm_Law_law 1088 lv (.int (x + x2) :: st) S P := rn_s dq_Law_law_1087 rfl rfl rfl
theorem dq_Law_law_1088 : decode (km_c mm_Law_law) 1088 = .ok (.iaload, 1) := by decide +kernel
theorem sq_Law_law_1088 (ho : sx_o o pl kp) (hk : ak L a = 0) (hu : sx_up pl kp a = true ∨ 1000 ≤ a) (hc : c < ln L a) (hn : ln L a < 2 ^ 31) : rn (lt_G o L) mm_Law_law 1088 lv (.int (nI c) :: .ref a :: st) (sx pl kp I A) P ↔ rn (lt_G o L) mm_Law_law 1089 lv (.int (A a c) :: st) (sx pl kp I A) P := rx_ild dq_Law_law_1088 ho hk hu hc hn
theorem dq_Law_law_1089 : decode (km_c mm_Law_law) 1089 = .ok (.invokevirtual 154, 3) := by decide +kernel
theorem sq_Law_law_1089_0 {x1 : Int32} {x2 : Int32} {x3 : Int32} {x4 : Int32} {v : Option Value} {S2 : ks_S} (hc : ev (lt_G o L) mm_Road_item [.ref 0, .int x1, .int x2, .int x3, .int x4] (sx pl kp I A) v S2) (ho : sx_o o pl kp) (hst : kx_cat st ≤ 8) : rn (lt_G o L) mm_Law_law 1089 lv (.int x4 :: .int x3 :: .int x2 :: .int x1 :: .ref 0 :: st) (sx pl kp I A) P ↔ rn (lt_G o L) mm_Law_law 1092 lv (v.toList ++ st) S2 P := rn_cv (k := 0) (host := "") (E' := mm_Road_item) dq_Law_law_1089 rfl (ok_v rfl (by decide) (by decide) (Nat.le_add_left _ _) hst (Nat.le_of_ble_eq_true rfl) (Or.inr (rc_v ho (up_b (by decide)) rfl))) rfl rfl hc
theorem dq_Law_law_1092 : decode (km_c mm_Law_law) 1092 = .ok (.aload_n 2, 1) := by decide +kernel
theorem sq_Law_law_1092 : rn G mm_Law_law 1092 [a0, a1, some (.ref z), a3] st S P ↔ rn G mm_Law_law 1093 [a0, a1, some (.ref z), a3] (.ref z :: st) S P := rn_s dq_Law_law_1092 rfl rfl rfl
theorem dq_Law_law_1093 : decode (km_c mm_Law_law) 1093 = .ok (.aload_n 0, 1) := by decide +kernel
theorem sq_Law_law_1093 : rn G mm_Law_law 1093 [some (.ref z), a1, a2, a3] st S P ↔ rn G mm_Law_law 1094 [some (.ref z), a1, a2, a3] (.ref z :: st) S P := rn_s dq_Law_law_1093 rfl rfl rfl
theorem dq_Law_law_1094 : decode (km_c mm_Law_law) 1094 = .ok (.iload_n 3, 1) := by decide +kernel
theorem sq_Law_law_1094 : rn G mm_Law_law 1094 [a0, a1, a2, some (.int x)] st S P ↔ rn G mm_Law_law 1095 [a0, a1, a2, some (.int x)] (.int x :: st) S P := rn_s dq_Law_law_1094 rfl rfl rfl
theorem dq_Law_law_1095 : decode (km_c mm_Law_law) 1095 = .ok (.iconst 1, 1) := by decide +kernel
theorem sq_Law_law_1095 : rn G mm_Law_law 1095 lv st S P ↔ rn G mm_Law_law 1096 lv (.int (nI 1) :: st) S P := rn_s dq_Law_law_1095 rfl rfl rfl
theorem dq_Law_law_1096 : decode (km_c mm_Law_law) 1096 = .ok (.iadd, 1) := by decide +kernel
theorem sq_Law_law_1096 : rn G mm_Law_law 1096 lv (.int x2 :: .int x :: st) S P ↔ rn G mm_Law_law 1097 lv (.int (x + x2) :: st) S P := rn_s dq_Law_law_1096 rfl rfl rfl
theorem dq_Law_law_1097 : decode (km_c mm_Law_law) 1097 = .ok (.iaload, 1) := by decide +kernel
theorem sq_Law_law_1097 (ho : sx_o o pl kp) (hk : ak L a = 0) (hu : sx_up pl kp a = true ∨ 1000 ≤ a) (hc : c < ln L a) (hn : ln L a < 2 ^ 31) : rn (lt_G o L) mm_Law_law 1097 lv (.int (nI c) :: .ref a :: st) (sx pl kp I A) P ↔ rn (lt_G o L) mm_Law_law 1098 lv (.int (A a c) :: st) (sx pl kp I A) P := rx_ild dq_Law_law_1097 ho hk hu hc hn
theorem dq_Law_law_1098 : decode (km_c mm_Law_law) 1098 = .ok (.aload_n 0, 1) := by decide +kernel
theorem sq_Law_law_1098 : rn G mm_Law_law 1098 [some (.ref z), a1, a2, a3] st S P ↔ rn G mm_Law_law 1099 [some (.ref z), a1, a2, a3] (.ref z :: st) S P := rn_s dq_Law_law_1098 rfl rfl rfl
theorem dq_Law_law_1099 : decode (km_c mm_Law_law) 1099 = .ok (.iload_n 3, 1) := by decide +kernel
theorem sq_Law_law_1099 : rn G mm_Law_law 1099 [a0, a1, a2, some (.int x)] st S P ↔ rn G mm_Law_law 1100 [a0, a1, a2, some (.int x)] (.int x :: st) S P := rn_s dq_Law_law_1099 rfl rfl rfl
theorem dq_Law_law_1100 : decode (km_c mm_Law_law) 1100 = .ok (.iconst 2, 1) := by decide +kernel
theorem sq_Law_law_1100 : rn G mm_Law_law 1100 lv st S P ↔ rn G mm_Law_law 1101 lv (.int (nI 2) :: st) S P := rn_s dq_Law_law_1100 rfl rfl rfl
theorem dq_Law_law_1101 : decode (km_c mm_Law_law) 1101 = .ok (.iadd, 1) := by decide +kernel
theorem sq_Law_law_1101 : rn G mm_Law_law 1101 lv (.int x2 :: .int x :: st) S P ↔ rn G mm_Law_law 1102 lv (.int (x + x2) :: st) S P := rn_s dq_Law_law_1101 rfl rfl rfl
theorem dq_Law_law_1102 : decode (km_c mm_Law_law) 1102 = .ok (.iaload, 1) := by decide +kernel
theorem sq_Law_law_1102 (ho : sx_o o pl kp) (hk : ak L a = 0) (hu : sx_up pl kp a = true ∨ 1000 ≤ a) (hc : c < ln L a) (hn : ln L a < 2 ^ 31) : rn (lt_G o L) mm_Law_law 1102 lv (.int (nI c) :: .ref a :: st) (sx pl kp I A) P ↔ rn (lt_G o L) mm_Law_law 1103 lv (.int (A a c) :: st) (sx pl kp I A) P := rx_ild dq_Law_law_1102 ho hk hu hc hn
theorem dq_Law_law_1103 : decode (km_c mm_Law_law) 1103 = .ok (.aload_n 0, 1) := by decide +kernel
theorem sq_Law_law_1103 : rn G mm_Law_law 1103 [some (.ref z), a1, a2, a3] st S P ↔ rn G mm_Law_law 1104 [some (.ref z), a1, a2, a3] (.ref z :: st) S P := rn_s dq_Law_law_1103 rfl rfl rfl
theorem dq_Law_law_1104 : decode (km_c mm_Law_law) 1104 = .ok (.iload_n 3, 1) := by decide +kernel
theorem sq_Law_law_1104 : rn G mm_Law_law 1104 [a0, a1, a2, some (.int x)] st S P ↔ rn G mm_Law_law 1105 [a0, a1, a2, some (.int x)] (.int x :: st) S P := rn_s dq_Law_law_1104 rfl rfl rfl
theorem dq_Law_law_1105 : decode (km_c mm_Law_law) 1105 = .ok (.iconst 3, 1) := by decide +kernel
theorem sq_Law_law_1105 : rn G mm_Law_law 1105 lv st S P ↔ rn G mm_Law_law 1106 lv (.int (nI 3) :: st) S P := rn_s dq_Law_law_1105 rfl rfl rfl
theorem dq_Law_law_1106 : decode (km_c mm_Law_law) 1106 = .ok (.iadd, 1) := by decide +kernel
theorem sq_Law_law_1106 : rn G mm_Law_law 1106 lv (.int x2 :: .int x :: st) S P ↔ rn G mm_Law_law 1107 lv (.int (x + x2) :: st) S P := rn_s dq_Law_law_1106 rfl rfl rfl
theorem dq_Law_law_1107 : decode (km_c mm_Law_law) 1107 = .ok (.iaload, 1) := by decide +kernel
theorem sq_Law_law_1107 (ho : sx_o o pl kp) (hk : ak L a = 0) (hu : sx_up pl kp a = true ∨ 1000 ≤ a) (hc : c < ln L a) (hn : ln L a < 2 ^ 31) : rn (lt_G o L) mm_Law_law 1107 lv (.int (nI c) :: .ref a :: st) (sx pl kp I A) P ↔ rn (lt_G o L) mm_Law_law 1108 lv (.int (A a c) :: st) (sx pl kp I A) P := rx_ild dq_Law_law_1107 ho hk hu hc hn
theorem dq_Law_law_1108 : decode (km_c mm_Law_law) 1108 = .ok (.aload_n 0, 1) := by decide +kernel
theorem sq_Law_law_1108 : rn G mm_Law_law 1108 [some (.ref z), a1, a2, a3] st S P ↔ rn G mm_Law_law 1109 [some (.ref z), a1, a2, a3] (.ref z :: st) S P := rn_s dq_Law_law_1108 rfl rfl rfl
theorem dq_Law_law_1109 : decode (km_c mm_Law_law) 1109 = .ok (.iload_n 3, 1) := by decide +kernel
theorem sq_Law_law_1109 : rn G mm_Law_law 1109 [a0, a1, a2, some (.int x)] st S P ↔ rn G mm_Law_law 1110 [a0, a1, a2, some (.int x)] (.int x :: st) S P := rn_s dq_Law_law_1109 rfl rfl rfl
theorem dq_Law_law_1110 : decode (km_c mm_Law_law) 1110 = .ok (.iconst 4, 1) := by decide +kernel
theorem sq_Law_law_1110 : rn G mm_Law_law 1110 lv st S P ↔ rn G mm_Law_law 1111 lv (.int (nI 4) :: st) S P := rn_s dq_Law_law_1110 rfl rfl rfl
theorem dq_Law_law_1111 : decode (km_c mm_Law_law) 1111 = .ok (.iadd, 1) := by decide +kernel
theorem sq_Law_law_1111 : rn G mm_Law_law 1111 lv (.int x2 :: .int x :: st) S P ↔ rn G mm_Law_law 1112 lv (.int (x + x2) :: st) S P := rn_s dq_Law_law_1111 rfl rfl rfl
theorem dq_Law_law_1112 : decode (km_c mm_Law_law) 1112 = .ok (.iaload, 1) := by decide +kernel
theorem sq_Law_law_1112 (ho : sx_o o pl kp) (hk : ak L a = 0) (hu : sx_up pl kp a = true ∨ 1000 ≤ a) (hc : c < ln L a) (hn : ln L a < 2 ^ 31) : rn (lt_G o L) mm_Law_law 1112 lv (.int (nI c) :: .ref a :: st) (sx pl kp I A) P ↔ rn (lt_G o L) mm_Law_law 1113 lv (.int (A a c) :: st) (sx pl kp I A) P := rx_ild dq_Law_law_1112 ho hk hu hc hn
theorem dq_Law_law_1113 : decode (km_c mm_Law_law) 1113 = .ok (.invokevirtual 157, 3) := by decide +kernel
theorem sq_Law_law_1113_45 {x1 : Int32} {x2 : Int32} {x3 : Int32} {x4 : Int32} {v : Option Value} {S2 : ks_S} (hc : ev (lt_G o L) mm_Model_item [.ref 45, .int x1, .int x2, .int x3, .int x4] (sx pl kp I A) v S2) (ho : sx_o o pl kp) (hst : kx_cat st ≤ 8) : rn (lt_G o L) mm_Law_law 1113 lv (.int x4 :: .int x3 :: .int x2 :: .int x1 :: .ref 45 :: st) (sx pl kp I A) P ↔ rn (lt_G o L) mm_Law_law 1116 lv (v.toList ++ st) S2 P := rn_cv (k := 0) (host := "") (E' := mm_Model_item) dq_Law_law_1113 rfl (ok_v rfl (by decide) (by decide) (Nat.le_add_left _ _) hst (Nat.le_of_ble_eq_true rfl) (Or.inr (rc_v ho (up_b (by decide)) rfl))) rfl rfl hc
theorem dq_Law_law_1116 : decode (km_c mm_Law_law) 1116 = .ok (.if_icmp .eq 58, 3) := by decide +kernel
theorem sq_Law_law_1116 : rn G mm_Law_law 1116 lv (.int x2 :: .int x :: st) S P ↔ ((x = x2 → rn G mm_Law_law 1174 lv st S P) ∧ (¬ (x = x2) → rn G mm_Law_law 1119 lv st S P)) := rn_b (off := 58) dq_Law_law_1116 rfl rfl rfl rfl
theorem dq_Law_law_1119 : decode (km_c mm_Law_law) 1119 = .ok (.iconst 0, 1) := by decide +kernel
theorem sq_Law_law_1119 : rn G mm_Law_law 1119 lv st S P ↔ rn G mm_Law_law 1120 lv (.int (nI 0) :: st) S P := rn_s dq_Law_law_1119 rfl rfl rfl
theorem dq_Law_law_1120 : decode (km_c mm_Law_law) 1120 = .ok (.ireturn, 1) := by decide +kernel
theorem sq_Law_law_1120_0 : rn G mm_Law_law 1120 lv [.int (nI 0)] S P ↔ P (some (.int (nI 0))) S := rn_ir dq_Law_law_1120 (by decide)
theorem sq_Law_law_1120_1 : rn G mm_Law_law 1120 lv [.int (nI 1)] S P ↔ P (some (.int (nI 1))) S := rn_ir dq_Law_law_1120 (by decide)
theorem dq_Law_law_1121 : decode (km_c mm_Law_law) 1121 = .ok (.aload_n 1, 1) := by decide +kernel
theorem sq_Law_law_1121 : rn G mm_Law_law 1121 [a0, some (.ref z), a2, a3] st S P ↔ rn G mm_Law_law 1122 [a0, some (.ref z), a2, a3] (.ref z :: st) S P := rn_s dq_Law_law_1121 rfl rfl rfl
theorem dq_Law_law_1122 : decode (km_c mm_Law_law) 1122 = .ok (.aload_n 0, 1) := by decide +kernel
theorem sq_Law_law_1122 : rn G mm_Law_law 1122 [some (.ref z), a1, a2, a3] st S P ↔ rn G mm_Law_law 1123 [some (.ref z), a1, a2, a3] (.ref z :: st) S P := rn_s dq_Law_law_1122 rfl rfl rfl
theorem dq_Law_law_1123 : decode (km_c mm_Law_law) 1123 = .ok (.iload_n 3, 1) := by decide +kernel
theorem sq_Law_law_1123 : rn G mm_Law_law 1123 [a0, a1, a2, some (.int x)] st S P ↔ rn G mm_Law_law 1124 [a0, a1, a2, some (.int x)] (.int x :: st) S P := rn_s dq_Law_law_1123 rfl rfl rfl
theorem dq_Law_law_1124 : decode (km_c mm_Law_law) 1124 = .ok (.iconst 1, 1) := by decide +kernel
theorem sq_Law_law_1124 : rn G mm_Law_law 1124 lv st S P ↔ rn G mm_Law_law 1125 lv (.int (nI 1) :: st) S P := rn_s dq_Law_law_1124 rfl rfl rfl
theorem dq_Law_law_1125 : decode (km_c mm_Law_law) 1125 = .ok (.iadd, 1) := by decide +kernel
theorem sq_Law_law_1125 : rn G mm_Law_law 1125 lv (.int x2 :: .int x :: st) S P ↔ rn G mm_Law_law 1126 lv (.int (x + x2) :: st) S P := rn_s dq_Law_law_1125 rfl rfl rfl
theorem dq_Law_law_1126 : decode (km_c mm_Law_law) 1126 = .ok (.iaload, 1) := by decide +kernel
theorem sq_Law_law_1126 (ho : sx_o o pl kp) (hk : ak L a = 0) (hu : sx_up pl kp a = true ∨ 1000 ≤ a) (hc : c < ln L a) (hn : ln L a < 2 ^ 31) : rn (lt_G o L) mm_Law_law 1126 lv (.int (nI c) :: .ref a :: st) (sx pl kp I A) P ↔ rn (lt_G o L) mm_Law_law 1127 lv (.int (A a c) :: st) (sx pl kp I A) P := rx_ild dq_Law_law_1126 ho hk hu hc hn
theorem dq_Law_law_1127 : decode (km_c mm_Law_law) 1127 = .ok (.aload_n 0, 1) := by decide +kernel
theorem sq_Law_law_1127 : rn G mm_Law_law 1127 [some (.ref z), a1, a2, a3] st S P ↔ rn G mm_Law_law 1128 [some (.ref z), a1, a2, a3] (.ref z :: st) S P := rn_s dq_Law_law_1127 rfl rfl rfl
theorem dq_Law_law_1128 : decode (km_c mm_Law_law) 1128 = .ok (.iload_n 3, 1) := by decide +kernel
theorem sq_Law_law_1128 : rn G mm_Law_law 1128 [a0, a1, a2, some (.int x)] st S P ↔ rn G mm_Law_law 1129 [a0, a1, a2, some (.int x)] (.int x :: st) S P := rn_s dq_Law_law_1128 rfl rfl rfl
theorem dq_Law_law_1129 : decode (km_c mm_Law_law) 1129 = .ok (.iconst 2, 1) := by decide +kernel
theorem sq_Law_law_1129 : rn G mm_Law_law 1129 lv st S P ↔ rn G mm_Law_law 1130 lv (.int (nI 2) :: st) S P := rn_s dq_Law_law_1129 rfl rfl rfl
theorem dq_Law_law_1130 : decode (km_c mm_Law_law) 1130 = .ok (.iadd, 1) := by decide +kernel
theorem sq_Law_law_1130 : rn G mm_Law_law 1130 lv (.int x2 :: .int x :: st) S P ↔ rn G mm_Law_law 1131 lv (.int (x + x2) :: st) S P := rn_s dq_Law_law_1130 rfl rfl rfl
theorem dq_Law_law_1131 : decode (km_c mm_Law_law) 1131 = .ok (.iaload, 1) := by decide +kernel
theorem sq_Law_law_1131 (ho : sx_o o pl kp) (hk : ak L a = 0) (hu : sx_up pl kp a = true ∨ 1000 ≤ a) (hc : c < ln L a) (hn : ln L a < 2 ^ 31) : rn (lt_G o L) mm_Law_law 1131 lv (.int (nI c) :: .ref a :: st) (sx pl kp I A) P ↔ rn (lt_G o L) mm_Law_law 1132 lv (.int (A a c) :: st) (sx pl kp I A) P := rx_ild dq_Law_law_1131 ho hk hu hc hn
theorem dq_Law_law_1132 : decode (km_c mm_Law_law) 1132 = .ok (.aload_n 0, 1) := by decide +kernel
theorem sq_Law_law_1132 : rn G mm_Law_law 1132 [some (.ref z), a1, a2, a3] st S P ↔ rn G mm_Law_law 1133 [some (.ref z), a1, a2, a3] (.ref z :: st) S P := rn_s dq_Law_law_1132 rfl rfl rfl
theorem dq_Law_law_1133 : decode (km_c mm_Law_law) 1133 = .ok (.iload_n 3, 1) := by decide +kernel
theorem sq_Law_law_1133 : rn G mm_Law_law 1133 [a0, a1, a2, some (.int x)] st S P ↔ rn G mm_Law_law 1134 [a0, a1, a2, some (.int x)] (.int x :: st) S P := rn_s dq_Law_law_1133 rfl rfl rfl
theorem dq_Law_law_1134 : decode (km_c mm_Law_law) 1134 = .ok (.iconst 3, 1) := by decide +kernel
theorem sq_Law_law_1134 : rn G mm_Law_law 1134 lv st S P ↔ rn G mm_Law_law 1135 lv (.int (nI 3) :: st) S P := rn_s dq_Law_law_1134 rfl rfl rfl
theorem dq_Law_law_1135 : decode (km_c mm_Law_law) 1135 = .ok (.iadd, 1) := by decide +kernel
theorem sq_Law_law_1135 : rn G mm_Law_law 1135 lv (.int x2 :: .int x :: st) S P ↔ rn G mm_Law_law 1136 lv (.int (x + x2) :: st) S P := rn_s dq_Law_law_1135 rfl rfl rfl
theorem dq_Law_law_1136 : decode (km_c mm_Law_law) 1136 = .ok (.iaload, 1) := by decide +kernel
theorem sq_Law_law_1136 (ho : sx_o o pl kp) (hk : ak L a = 0) (hu : sx_up pl kp a = true ∨ 1000 ≤ a) (hc : c < ln L a) (hn : ln L a < 2 ^ 31) : rn (lt_G o L) mm_Law_law 1136 lv (.int (nI c) :: .ref a :: st) (sx pl kp I A) P ↔ rn (lt_G o L) mm_Law_law 1137 lv (.int (A a c) :: st) (sx pl kp I A) P := rx_ild dq_Law_law_1136 ho hk hu hc hn
theorem dq_Law_law_1137 : decode (km_c mm_Law_law) 1137 = .ok (.aload_n 0, 1) := by decide +kernel
theorem sq_Law_law_1137 : rn G mm_Law_law 1137 [some (.ref z), a1, a2, a3] st S P ↔ rn G mm_Law_law 1138 [some (.ref z), a1, a2, a3] (.ref z :: st) S P := rn_s dq_Law_law_1137 rfl rfl rfl
theorem dq_Law_law_1138 : decode (km_c mm_Law_law) 1138 = .ok (.iload_n 3, 1) := by decide +kernel
theorem sq_Law_law_1138 : rn G mm_Law_law 1138 [a0, a1, a2, some (.int x)] st S P ↔ rn G mm_Law_law 1139 [a0, a1, a2, some (.int x)] (.int x :: st) S P := rn_s dq_Law_law_1138 rfl rfl rfl
theorem dq_Law_law_1139 : decode (km_c mm_Law_law) 1139 = .ok (.iconst 4, 1) := by decide +kernel
theorem sq_Law_law_1139 : rn G mm_Law_law 1139 lv st S P ↔ rn G mm_Law_law 1140 lv (.int (nI 4) :: st) S P := rn_s dq_Law_law_1139 rfl rfl rfl
theorem dq_Law_law_1140 : decode (km_c mm_Law_law) 1140 = .ok (.iadd, 1) := by decide +kernel
theorem sq_Law_law_1140 : rn G mm_Law_law 1140 lv (.int x2 :: .int x :: st) S P ↔ rn G mm_Law_law 1141 lv (.int (x + x2) :: st) S P := rn_s dq_Law_law_1140 rfl rfl rfl
theorem dq_Law_law_1141 : decode (km_c mm_Law_law) 1141 = .ok (.iaload, 1) := by decide +kernel
theorem sq_Law_law_1141 (ho : sx_o o pl kp) (hk : ak L a = 0) (hu : sx_up pl kp a = true ∨ 1000 ≤ a) (hc : c < ln L a) (hn : ln L a < 2 ^ 31) : rn (lt_G o L) mm_Law_law 1141 lv (.int (nI c) :: .ref a :: st) (sx pl kp I A) P ↔ rn (lt_G o L) mm_Law_law 1142 lv (.int (A a c) :: st) (sx pl kp I A) P := rx_ild dq_Law_law_1141 ho hk hu hc hn
theorem dq_Law_law_1142 : decode (km_c mm_Law_law) 1142 = .ok (.invokevirtual 158, 3) := by decide +kernel
theorem sq_Law_law_1142_0 {x1 : Int32} {x2 : Int32} {x3 : Int32} {x4 : Int32} {v : Option Value} {S2 : ks_S} (hc : ev (lt_G o L) mm_Road_film [.ref 0, .int x1, .int x2, .int x3, .int x4] (sx pl kp I A) v S2) (ho : sx_o o pl kp) (hst : kx_cat st ≤ 8) : rn (lt_G o L) mm_Law_law 1142 lv (.int x4 :: .int x3 :: .int x2 :: .int x1 :: .ref 0 :: st) (sx pl kp I A) P ↔ rn (lt_G o L) mm_Law_law 1145 lv (v.toList ++ st) S2 P := rn_cv (k := 0) (host := "") (E' := mm_Road_film) dq_Law_law_1142 rfl (ok_v rfl (by decide) (by decide) (Nat.le_add_left _ _) hst (Nat.le_of_ble_eq_true rfl) (Or.inr (rc_v ho (up_b (by decide)) rfl))) rfl rfl hc
theorem dq_Law_law_1145 : decode (km_c mm_Law_law) 1145 = .ok (.aload_n 2, 1) := by decide +kernel
theorem sq_Law_law_1145 : rn G mm_Law_law 1145 [a0, a1, some (.ref z), a3] st S P ↔ rn G mm_Law_law 1146 [a0, a1, some (.ref z), a3] (.ref z :: st) S P := rn_s dq_Law_law_1145 rfl rfl rfl
theorem dq_Law_law_1146 : decode (km_c mm_Law_law) 1146 = .ok (.aload_n 0, 1) := by decide +kernel
theorem sq_Law_law_1146 : rn G mm_Law_law 1146 [some (.ref z), a1, a2, a3] st S P ↔ rn G mm_Law_law 1147 [some (.ref z), a1, a2, a3] (.ref z :: st) S P := rn_s dq_Law_law_1146 rfl rfl rfl
theorem dq_Law_law_1147 : decode (km_c mm_Law_law) 1147 = .ok (.iload_n 3, 1) := by decide +kernel
theorem sq_Law_law_1147 : rn G mm_Law_law 1147 [a0, a1, a2, some (.int x)] st S P ↔ rn G mm_Law_law 1148 [a0, a1, a2, some (.int x)] (.int x :: st) S P := rn_s dq_Law_law_1147 rfl rfl rfl
theorem dq_Law_law_1148 : decode (km_c mm_Law_law) 1148 = .ok (.iconst 1, 1) := by decide +kernel
theorem sq_Law_law_1148 : rn G mm_Law_law 1148 lv st S P ↔ rn G mm_Law_law 1149 lv (.int (nI 1) :: st) S P := rn_s dq_Law_law_1148 rfl rfl rfl
theorem dq_Law_law_1149 : decode (km_c mm_Law_law) 1149 = .ok (.iadd, 1) := by decide +kernel
theorem sq_Law_law_1149 : rn G mm_Law_law 1149 lv (.int x2 :: .int x :: st) S P ↔ rn G mm_Law_law 1150 lv (.int (x + x2) :: st) S P := rn_s dq_Law_law_1149 rfl rfl rfl
theorem dq_Law_law_1150 : decode (km_c mm_Law_law) 1150 = .ok (.iaload, 1) := by decide +kernel
theorem sq_Law_law_1150 (ho : sx_o o pl kp) (hk : ak L a = 0) (hu : sx_up pl kp a = true ∨ 1000 ≤ a) (hc : c < ln L a) (hn : ln L a < 2 ^ 31) : rn (lt_G o L) mm_Law_law 1150 lv (.int (nI c) :: .ref a :: st) (sx pl kp I A) P ↔ rn (lt_G o L) mm_Law_law 1151 lv (.int (A a c) :: st) (sx pl kp I A) P := rx_ild dq_Law_law_1150 ho hk hu hc hn
theorem dq_Law_law_1151 : decode (km_c mm_Law_law) 1151 = .ok (.aload_n 0, 1) := by decide +kernel
theorem sq_Law_law_1151 : rn G mm_Law_law 1151 [some (.ref z), a1, a2, a3] st S P ↔ rn G mm_Law_law 1152 [some (.ref z), a1, a2, a3] (.ref z :: st) S P := rn_s dq_Law_law_1151 rfl rfl rfl
theorem dq_Law_law_1152 : decode (km_c mm_Law_law) 1152 = .ok (.iload_n 3, 1) := by decide +kernel
theorem sq_Law_law_1152 : rn G mm_Law_law 1152 [a0, a1, a2, some (.int x)] st S P ↔ rn G mm_Law_law 1153 [a0, a1, a2, some (.int x)] (.int x :: st) S P := rn_s dq_Law_law_1152 rfl rfl rfl
theorem dq_Law_law_1153 : decode (km_c mm_Law_law) 1153 = .ok (.iconst 2, 1) := by decide +kernel
theorem sq_Law_law_1153 : rn G mm_Law_law 1153 lv st S P ↔ rn G mm_Law_law 1154 lv (.int (nI 2) :: st) S P := rn_s dq_Law_law_1153 rfl rfl rfl
theorem dq_Law_law_1154 : decode (km_c mm_Law_law) 1154 = .ok (.iadd, 1) := by decide +kernel
theorem sq_Law_law_1154 : rn G mm_Law_law 1154 lv (.int x2 :: .int x :: st) S P ↔ rn G mm_Law_law 1155 lv (.int (x + x2) :: st) S P := rn_s dq_Law_law_1154 rfl rfl rfl
theorem dq_Law_law_1155 : decode (km_c mm_Law_law) 1155 = .ok (.iaload, 1) := by decide +kernel
theorem sq_Law_law_1155 (ho : sx_o o pl kp) (hk : ak L a = 0) (hu : sx_up pl kp a = true ∨ 1000 ≤ a) (hc : c < ln L a) (hn : ln L a < 2 ^ 31) : rn (lt_G o L) mm_Law_law 1155 lv (.int (nI c) :: .ref a :: st) (sx pl kp I A) P ↔ rn (lt_G o L) mm_Law_law 1156 lv (.int (A a c) :: st) (sx pl kp I A) P := rx_ild dq_Law_law_1155 ho hk hu hc hn
theorem dq_Law_law_1156 : decode (km_c mm_Law_law) 1156 = .ok (.aload_n 0, 1) := by decide +kernel
theorem sq_Law_law_1156 : rn G mm_Law_law 1156 [some (.ref z), a1, a2, a3] st S P ↔ rn G mm_Law_law 1157 [some (.ref z), a1, a2, a3] (.ref z :: st) S P := rn_s dq_Law_law_1156 rfl rfl rfl
theorem dq_Law_law_1157 : decode (km_c mm_Law_law) 1157 = .ok (.iload_n 3, 1) := by decide +kernel
theorem sq_Law_law_1157 : rn G mm_Law_law 1157 [a0, a1, a2, some (.int x)] st S P ↔ rn G mm_Law_law 1158 [a0, a1, a2, some (.int x)] (.int x :: st) S P := rn_s dq_Law_law_1157 rfl rfl rfl
theorem dq_Law_law_1158 : decode (km_c mm_Law_law) 1158 = .ok (.iconst 3, 1) := by decide +kernel
theorem sq_Law_law_1158 : rn G mm_Law_law 1158 lv st S P ↔ rn G mm_Law_law 1159 lv (.int (nI 3) :: st) S P := rn_s dq_Law_law_1158 rfl rfl rfl
theorem dq_Law_law_1159 : decode (km_c mm_Law_law) 1159 = .ok (.iadd, 1) := by decide +kernel
theorem sq_Law_law_1159 : rn G mm_Law_law 1159 lv (.int x2 :: .int x :: st) S P ↔ rn G mm_Law_law 1160 lv (.int (x + x2) :: st) S P := rn_s dq_Law_law_1159 rfl rfl rfl
theorem dq_Law_law_1160 : decode (km_c mm_Law_law) 1160 = .ok (.iaload, 1) := by decide +kernel
theorem sq_Law_law_1160 (ho : sx_o o pl kp) (hk : ak L a = 0) (hu : sx_up pl kp a = true ∨ 1000 ≤ a) (hc : c < ln L a) (hn : ln L a < 2 ^ 31) : rn (lt_G o L) mm_Law_law 1160 lv (.int (nI c) :: .ref a :: st) (sx pl kp I A) P ↔ rn (lt_G o L) mm_Law_law 1161 lv (.int (A a c) :: st) (sx pl kp I A) P := rx_ild dq_Law_law_1160 ho hk hu hc hn
theorem dq_Law_law_1161 : decode (km_c mm_Law_law) 1161 = .ok (.aload_n 0, 1) := by decide +kernel
theorem sq_Law_law_1161 : rn G mm_Law_law 1161 [some (.ref z), a1, a2, a3] st S P ↔ rn G mm_Law_law 1162 [some (.ref z), a1, a2, a3] (.ref z :: st) S P := rn_s dq_Law_law_1161 rfl rfl rfl
theorem dq_Law_law_1162 : decode (km_c mm_Law_law) 1162 = .ok (.iload_n 3, 1) := by decide +kernel
theorem sq_Law_law_1162 : rn G mm_Law_law 1162 [a0, a1, a2, some (.int x)] st S P ↔ rn G mm_Law_law 1163 [a0, a1, a2, some (.int x)] (.int x :: st) S P := rn_s dq_Law_law_1162 rfl rfl rfl
theorem dq_Law_law_1163 : decode (km_c mm_Law_law) 1163 = .ok (.iconst 4, 1) := by decide +kernel
theorem sq_Law_law_1163 : rn G mm_Law_law 1163 lv st S P ↔ rn G mm_Law_law 1164 lv (.int (nI 4) :: st) S P := rn_s dq_Law_law_1163 rfl rfl rfl
theorem dq_Law_law_1164 : decode (km_c mm_Law_law) 1164 = .ok (.iadd, 1) := by decide +kernel
theorem sq_Law_law_1164 : rn G mm_Law_law 1164 lv (.int x2 :: .int x :: st) S P ↔ rn G mm_Law_law 1165 lv (.int (x + x2) :: st) S P := rn_s dq_Law_law_1164 rfl rfl rfl
theorem dq_Law_law_1165 : decode (km_c mm_Law_law) 1165 = .ok (.iaload, 1) := by decide +kernel
theorem sq_Law_law_1165 (ho : sx_o o pl kp) (hk : ak L a = 0) (hu : sx_up pl kp a = true ∨ 1000 ≤ a) (hc : c < ln L a) (hn : ln L a < 2 ^ 31) : rn (lt_G o L) mm_Law_law 1165 lv (.int (nI c) :: .ref a :: st) (sx pl kp I A) P ↔ rn (lt_G o L) mm_Law_law 1166 lv (.int (A a c) :: st) (sx pl kp I A) P := rx_ild dq_Law_law_1165 ho hk hu hc hn
theorem dq_Law_law_1166 : decode (km_c mm_Law_law) 1166 = .ok (.invokevirtual 161, 3) := by decide +kernel
theorem sq_Law_law_1166_45 {x1 : Int32} {x2 : Int32} {x3 : Int32} {x4 : Int32} {v : Option Value} {S2 : ks_S} (hc : ev (lt_G o L) mm_Model_film [.ref 45, .int x1, .int x2, .int x3, .int x4] (sx pl kp I A) v S2) (ho : sx_o o pl kp) (hst : kx_cat st ≤ 8) : rn (lt_G o L) mm_Law_law 1166 lv (.int x4 :: .int x3 :: .int x2 :: .int x1 :: .ref 45 :: st) (sx pl kp I A) P ↔ rn (lt_G o L) mm_Law_law 1169 lv (v.toList ++ st) S2 P := rn_cv (k := 0) (host := "") (E' := mm_Model_film) dq_Law_law_1166 rfl (ok_v rfl (by decide) (by decide) (Nat.le_add_left _ _) hst (Nat.le_of_ble_eq_true rfl) (Or.inr (rc_v ho (up_b (by decide)) rfl))) rfl rfl hc
theorem dq_Law_law_1169 : decode (km_c mm_Law_law) 1169 = .ok (.if_icmp .eq 5, 3) := by decide +kernel
theorem sq_Law_law_1169 : rn G mm_Law_law 1169 lv (.int x2 :: .int x :: st) S P ↔ ((x = x2 → rn G mm_Law_law 1174 lv st S P) ∧ (¬ (x = x2) → rn G mm_Law_law 1172 lv st S P)) := rn_b (off := 5) dq_Law_law_1169 rfl rfl rfl rfl
theorem dq_Law_law_1172 : decode (km_c mm_Law_law) 1172 = .ok (.iconst 0, 1) := by decide +kernel
theorem sq_Law_law_1172 : rn G mm_Law_law 1172 lv st S P ↔ rn G mm_Law_law 1173 lv (.int (nI 0) :: st) S P := rn_s dq_Law_law_1172 rfl rfl rfl
theorem dq_Law_law_1173 : decode (km_c mm_Law_law) 1173 = .ok (.ireturn, 1) := by decide +kernel
theorem sq_Law_law_1173_0 : rn G mm_Law_law 1173 lv [.int (nI 0)] S P ↔ P (some (.int (nI 0))) S := rn_ir dq_Law_law_1173 (by decide)
theorem sq_Law_law_1173_1 : rn G mm_Law_law 1173 lv [.int (nI 1)] S P ↔ P (some (.int (nI 1))) S := rn_ir dq_Law_law_1173 (by decide)
theorem dq_Law_law_1174 : decode (km_c mm_Law_law) 1174 = .ok (.iinc 3 5, 3) := by decide +kernel
theorem sq_Law_law_1174n : rn G mm_Law_law 1174 [a0, a1, none, some (.int x)] st S P ↔ rn G mm_Law_law 1177 [a0, a1, none, some (.int (x + nI 5))] st S P := rn_s dq_Law_law_1174 rfl rfl rfl
theorem sq_Law_law_1174i : rn G mm_Law_law 1174 [a0, a1, some (.int x2), some (.int x)] st S P ↔ rn G mm_Law_law 1177 [a0, a1, some (.int x2), some (.int (x + nI 5))] st S P := rn_s dq_Law_law_1174 rfl rfl rfl
theorem sq_Law_law_1174r : rn G mm_Law_law 1174 [a0, a1, some (.ref z2), some (.int x)] st S P ↔ rn G mm_Law_law 1177 [a0, a1, some (.ref z2), some (.int (x + nI 5))] st S P := rn_s dq_Law_law_1174 rfl rfl rfl
theorem dq_Law_law_1177 : decode (km_c mm_Law_law) 1177 = .ok (.goto (-1159), 3) := by decide +kernel
theorem sq_Law_law_1177 : rn G mm_Law_law 1177 lv st S P ↔ rn G mm_Law_law 18 lv st S P := rn_s dq_Law_law_1177 rfl rfl rfl
theorem dq_Law_law_1180 : decode (km_c mm_Law_law) 1180 = .ok (.iconst 1, 1) := by decide +kernel
theorem sq_Law_law_1180 : rn G mm_Law_law 1180 lv st S P ↔ rn G mm_Law_law 1181 lv (.int (nI 1) :: st) S P := rn_s dq_Law_law_1180 rfl rfl rfl
theorem dq_Law_law_1181 : decode (km_c mm_Law_law) 1181 = .ok (.ireturn, 1) := by decide +kernel
theorem sq_Law_law_1181_0 : rn G mm_Law_law 1181 lv [.int (nI 0)] S P ↔ P (some (.int (nI 0))) S := rn_ir dq_Law_law_1181 (by decide)
theorem sq_Law_law_1181_1 : rn G mm_Law_law 1181 lv [.int (nI 1)] S P ↔ P (some (.int (nI 1))) S := rn_ir dq_Law_law_1181 (by decide)
end SQ
