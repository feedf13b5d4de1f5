/-! Switches. -/
section SW
variable {G : kg_G} {S : ks_S} {lv : List (Option Value)} {st : List Value} {P : Option Value → ks_S → Prop} {x : Int32}
theorem sw_i {x : Int32} {lo hi : Nat} (hl : lo < 2 ^ 31) (hh : hi < 2 ^ 31) (h : x < nI lo ∨ nI hi < x) : x.toInt < (lo : Int) ∨ (hi : Int) < x.toInt := by
  rw [Int32.lt_iff_toInt_lt, Int32.lt_iff_toInt_lt, nI_toInt hl, nI_toInt hh] at h
  exact h
theorem sw_Sheets_put_6_0 : rn G mm_Sheets_put 6 lv (.int (nI 0) :: st) S P ↔ rn G mm_Sheets_put 32 lv st S P := rn_s dq_Sheets_put_6 rfl rfl rfl
theorem sw_Sheets_put_6_1 : rn G mm_Sheets_put 6 lv (.int (nI 1) :: st) S P ↔ rn G mm_Sheets_put 45 lv st S P := rn_s dq_Sheets_put_6 rfl rfl rfl
theorem sw_Sheets_put_6_d (h : x < nI 0 ∨ nI 1 < x) : rn G mm_Sheets_put 6 lv (.int x :: st) S P ↔ rn G mm_Sheets_put 58 lv st S P := by
  refine rn_s dq_Sheets_put_6 rfl rfl ?_
  have h2 : x.toInt < 0 ∨ 1 < x.toInt := sw_i (lo := 0) (hi := 1) (by decide) (by decide) h
  have e : Op.lookupswitch.offset [(0, 26), (1, 39)] 52 x.toInt = 52 := by
    have q0 : ¬ x.toInt = 0 := by omega
    have q1 : ¬ x.toInt = 1 := by omega
    simp [Op.lookupswitch.offset, List.find?, q0, q1, Ne.symm q0, Ne.symm q1, eq_comm]
  show (match kx_j 6 (Op.lookupswitch.offset [(0, 26), (1, 39)] 52 x.toInt) with | some t => some (t, lv, st, S) | none => none) = _
  rw [e]
  rfl
theorem sw_Road_told_20_5 : rn G mm_Road_told 20 lv (.int (nI 5) :: st) S P ↔ rn G mm_Road_told 48 lv st S P := rn_s dq_Road_told_20 rfl rfl rfl
theorem sw_Road_told_20_6 : rn G mm_Road_told 20 lv (.int (nI 6) :: st) S P ↔ rn G mm_Road_told 58 lv st S P := rn_s dq_Road_told_20 rfl rfl rfl
theorem sw_Road_told_20_7 : rn G mm_Road_told 20 lv (.int (nI 7) :: st) S P ↔ rn G mm_Road_told 64 lv st S P := rn_s dq_Road_told_20 rfl rfl rfl
theorem sw_Road_told_20_d (h : x < nI 5 ∨ nI 7 < x) : rn G mm_Road_told 20 lv (.int x :: st) S P ↔ rn G mm_Road_told 70 lv st S P := by
  refine rn_s dq_Road_told_20 rfl rfl ?_
  show (if x.toInt < _ ∨ _ < x.toInt then _ else _) = _
  have h2 : x.toInt < 5 ∨ 7 < x.toInt := sw_i (lo := 5) (hi := 7) (by decide) (by decide) h
  exact (if_pos h2).trans rfl
theorem sw_Road_cellAt_6_0 : rn G mm_Road_cellAt 6 lv (.int (nI 0) :: st) S P ↔ rn G mm_Road_cellAt 32 lv st S P := rn_s dq_Road_cellAt_6 rfl rfl rfl
theorem sw_Road_cellAt_6_1 : rn G mm_Road_cellAt 6 lv (.int (nI 1) :: st) S P ↔ rn G mm_Road_cellAt 47 lv st S P := rn_s dq_Road_cellAt_6 rfl rfl rfl
theorem sw_Road_cellAt_6_2 : rn G mm_Road_cellAt 6 lv (.int (nI 2) :: st) S P ↔ rn G mm_Road_cellAt 59 lv st S P := rn_s dq_Road_cellAt_6 rfl rfl rfl
theorem sw_Road_cellAt_6_d (h : x < nI 0 ∨ nI 2 < x) : rn G mm_Road_cellAt 6 lv (.int x :: st) S P ↔ rn G mm_Road_cellAt 73 lv st S P := by
  refine rn_s dq_Road_cellAt_6 rfl rfl ?_
  show (if x.toInt < _ ∨ _ < x.toInt then _ else _) = _
  have h2 : x.toInt < 0 ∨ 2 < x.toInt := sw_i (lo := 0) (hi := 2) (by decide) (by decide) h
  exact (if_pos h2).trans rfl
theorem sw_Road_count_1_0 : rn G mm_Road_count 1 lv (.int (nI 0) :: st) S P ↔ rn G mm_Road_count 44 lv st S P := rn_s dq_Road_count_1 rfl rfl rfl
theorem sw_Road_count_1_1 : rn G mm_Road_count 1 lv (.int (nI 1) :: st) S P ↔ rn G mm_Road_count 55 lv st S P := rn_s dq_Road_count_1 rfl rfl rfl
theorem sw_Road_count_1_2 : rn G mm_Road_count 1 lv (.int (nI 2) :: st) S P ↔ rn G mm_Road_count 66 lv st S P := rn_s dq_Road_count_1 rfl rfl rfl
theorem sw_Road_count_1_3 : rn G mm_Road_count 1 lv (.int (nI 3) :: st) S P ↔ rn G mm_Road_count 74 lv st S P := rn_s dq_Road_count_1 rfl rfl rfl
theorem sw_Road_count_1_4 : rn G mm_Road_count 1 lv (.int (nI 4) :: st) S P ↔ rn G mm_Road_count 86 lv st S P := rn_s dq_Road_count_1 rfl rfl rfl
theorem sw_Road_count_1_5 : rn G mm_Road_count 1 lv (.int (nI 5) :: st) S P ↔ rn G mm_Road_count 98 lv st S P := rn_s dq_Road_count_1 rfl rfl rfl
theorem sw_Road_count_1_6 : rn G mm_Road_count 1 lv (.int (nI 6) :: st) S P ↔ rn G mm_Road_count 109 lv st S P := rn_s dq_Road_count_1 rfl rfl rfl
theorem sw_Road_count_1_d (h : x < nI 0 ∨ nI 6 < x) : rn G mm_Road_count 1 lv (.int x :: st) S P ↔ rn G mm_Road_count 120 lv st S P := by
  refine rn_s dq_Road_count_1 rfl rfl ?_
  show (if x.toInt < _ ∨ _ < x.toInt then _ else _) = _
  have h2 : x.toInt < 0 ∨ 6 < x.toInt := sw_i (lo := 0) (hi := 6) (by decide) (by decide) h
  exact (if_pos h2).trans rfl
theorem sw_Road_of_23_0 : rn G mm_Road_of 23 lv (.int (nI 0) :: st) S P ↔ rn G mm_Road_of 48 lv st S P := rn_s dq_Road_of_23 rfl rfl rfl
theorem sw_Road_of_23_1 : rn G mm_Road_of 23 lv (.int (nI 1) :: st) S P ↔ rn G mm_Road_of 61 lv st S P := rn_s dq_Road_of_23 rfl rfl rfl
theorem sw_Road_of_23_d (h : x < nI 0 ∨ nI 1 < x) : rn G mm_Road_of 23 lv (.int x :: st) S P ↔ rn G mm_Road_of 74 lv st S P := by
  refine rn_s dq_Road_of_23 rfl rfl ?_
  have h2 : x.toInt < 0 ∨ 1 < x.toInt := sw_i (lo := 0) (hi := 1) (by decide) (by decide) h
  have e : Op.lookupswitch.offset [(0, 25), (1, 38)] 51 x.toInt = 51 := by
    have q0 : ¬ x.toInt = 0 := by omega
    have q1 : ¬ x.toInt = 1 := by omega
    simp [Op.lookupswitch.offset, List.find?, q0, q1, Ne.symm q0, Ne.symm q1, eq_comm]
  show (match kx_j 23 (Op.lookupswitch.offset [(0, 25), (1, 38)] 51 x.toInt) with | some t => some (t, lv, st, S) | none => none) = _
  rw [e]
  rfl
theorem sw_Road_road_1_0 : rn G mm_Road_road 1 lv (.int (nI 0) :: st) S P ↔ rn G mm_Road_road 32 lv st S P := rn_s dq_Road_road_1 rfl rfl rfl
theorem sw_Road_road_1_1 : rn G mm_Road_road 1 lv (.int (nI 1) :: st) S P ↔ rn G mm_Road_road 37 lv st S P := rn_s dq_Road_road_1 rfl rfl rfl
theorem sw_Road_road_1_2 : rn G mm_Road_road 1 lv (.int (nI 2) :: st) S P ↔ rn G mm_Road_road 42 lv st S P := rn_s dq_Road_road_1 rfl rfl rfl
theorem sw_Road_road_1_3 : rn G mm_Road_road 1 lv (.int (nI 3) :: st) S P ↔ rn G mm_Road_road 53 lv st S P := rn_s dq_Road_road_1 rfl rfl rfl
theorem sw_Road_road_1_d (h : x < nI 0 ∨ nI 3 < x) : rn G mm_Road_road 1 lv (.int x :: st) S P ↔ rn G mm_Road_road 68 lv st S P := by
  refine rn_s dq_Road_road_1 rfl rfl ?_
  show (if x.toInt < _ ∨ _ < x.toInt then _ else _) = _
  have h2 : x.toInt < 0 ∨ 3 < x.toInt := sw_i (lo := 0) (hi := 3) (by decide) (by decide) h
  exact (if_pos h2).trans rfl
theorem sw_Model_count_56_0 : rn G mm_Model_count 56 lv (.int (nI 0) :: st) S P ↔ rn G mm_Model_count 100 lv st S P := rn_s dq_Model_count_56 rfl rfl rfl
theorem sw_Model_count_56_1 : rn G mm_Model_count 56 lv (.int (nI 1) :: st) S P ↔ rn G mm_Model_count 105 lv st S P := rn_s dq_Model_count_56 rfl rfl rfl
theorem sw_Model_count_56_2 : rn G mm_Model_count 56 lv (.int (nI 2) :: st) S P ↔ rn G mm_Model_count 110 lv st S P := rn_s dq_Model_count_56 rfl rfl rfl
theorem sw_Model_count_56_3 : rn G mm_Model_count 56 lv (.int (nI 3) :: st) S P ↔ rn G mm_Model_count 115 lv st S P := rn_s dq_Model_count_56 rfl rfl rfl
theorem sw_Model_count_56_4 : rn G mm_Model_count 56 lv (.int (nI 4) :: st) S P ↔ rn G mm_Model_count 117 lv st S P := rn_s dq_Model_count_56 rfl rfl rfl
theorem sw_Model_count_56_5 : rn G mm_Model_count 56 lv (.int (nI 5) :: st) S P ↔ rn G mm_Model_count 119 lv st S P := rn_s dq_Model_count_56 rfl rfl rfl
theorem sw_Model_count_56_6 : rn G mm_Model_count 56 lv (.int (nI 6) :: st) S P ↔ rn G mm_Model_count 124 lv st S P := rn_s dq_Model_count_56 rfl rfl rfl
theorem sw_Model_count_56_d (h : x < nI 0 ∨ nI 6 < x) : rn G mm_Model_count 56 lv (.int x :: st) S P ↔ rn G mm_Model_count 129 lv st S P := by
  refine rn_s dq_Model_count_56 rfl rfl ?_
  show (if x.toInt < _ ∨ _ < x.toInt then _ else _) = _
  have h2 : x.toInt < 0 ∨ 6 < x.toInt := sw_i (lo := 0) (hi := 6) (by decide) (by decide) h
  exact (if_pos h2).trans rfl
theorem sw_Law_law_32_0 : rn G mm_Law_law 32 lv (.int (nI 0) :: st) S P ↔ rn G mm_Law_law 188 lv st S P := rn_s dq_Law_law_32 rfl rfl rfl
theorem sw_Law_law_32_1 : rn G mm_Law_law 32 lv (.int (nI 1) :: st) S P ↔ rn G mm_Law_law 231 lv st S P := rn_s dq_Law_law_32 rfl rfl rfl
theorem sw_Law_law_32_2 : rn G mm_Law_law 32 lv (.int (nI 2) :: st) S P ↔ rn G mm_Law_law 264 lv st S P := rn_s dq_Law_law_32 rfl rfl rfl
theorem sw_Law_law_32_3 : rn G mm_Law_law 32 lv (.int (nI 3) :: st) S P ↔ rn G mm_Law_law 287 lv st S P := rn_s dq_Law_law_32 rfl rfl rfl
theorem sw_Law_law_32_4 : rn G mm_Law_law 32 lv (.int (nI 4) :: st) S P ↔ rn G mm_Law_law 300 lv st S P := rn_s dq_Law_law_32 rfl rfl rfl
theorem sw_Law_law_32_5 : rn G mm_Law_law 32 lv (.int (nI 5) :: st) S P ↔ rn G mm_Law_law 363 lv st S P := rn_s dq_Law_law_32 rfl rfl rfl
theorem sw_Law_law_32_6 : rn G mm_Law_law 32 lv (.int (nI 6) :: st) S P ↔ rn G mm_Law_law 376 lv st S P := rn_s dq_Law_law_32 rfl rfl rfl
theorem sw_Law_law_32_7 : rn G mm_Law_law 32 lv (.int (nI 7) :: st) S P ↔ rn G mm_Law_law 389 lv st S P := rn_s dq_Law_law_32 rfl rfl rfl
theorem sw_Law_law_32_8 : rn G mm_Law_law 32 lv (.int (nI 8) :: st) S P ↔ rn G mm_Law_law 412 lv st S P := rn_s dq_Law_law_32 rfl rfl rfl
theorem sw_Law_law_32_9 : rn G mm_Law_law 32 lv (.int (nI 9) :: st) S P ↔ rn G mm_Law_law 445 lv st S P := rn_s dq_Law_law_32 rfl rfl rfl
theorem sw_Law_law_32_10 : rn G mm_Law_law 32 lv (.int (nI 10) :: st) S P ↔ rn G mm_Law_law 478 lv st S P := rn_s dq_Law_law_32 rfl rfl rfl
theorem sw_Law_law_32_11 : rn G mm_Law_law 32 lv (.int (nI 11) :: st) S P ↔ rn G mm_Law_law 511 lv st S P := rn_s dq_Law_law_32 rfl rfl rfl
theorem sw_Law_law_32_12 : rn G mm_Law_law 32 lv (.int (nI 12) :: st) S P ↔ rn G mm_Law_law 534 lv st S P := rn_s dq_Law_law_32 rfl rfl rfl
theorem sw_Law_law_32_13 : rn G mm_Law_law 32 lv (.int (nI 13) :: st) S P ↔ rn G mm_Law_law 557 lv st S P := rn_s dq_Law_law_32 rfl rfl rfl
theorem sw_Law_law_32_14 : rn G mm_Law_law 32 lv (.int (nI 14) :: st) S P ↔ rn G mm_Law_law 570 lv st S P := rn_s dq_Law_law_32 rfl rfl rfl
theorem sw_Law_law_32_15 : rn G mm_Law_law 32 lv (.int (nI 15) :: st) S P ↔ rn G mm_Law_law 613 lv st S P := rn_s dq_Law_law_32 rfl rfl rfl
theorem sw_Law_law_32_16 : rn G mm_Law_law 32 lv (.int (nI 16) :: st) S P ↔ rn G mm_Law_law 636 lv st S P := rn_s dq_Law_law_32 rfl rfl rfl
theorem sw_Law_law_32_17 : rn G mm_Law_law 32 lv (.int (nI 17) :: st) S P ↔ rn G mm_Law_law 659 lv st S P := rn_s dq_Law_law_32 rfl rfl rfl
theorem sw_Law_law_32_18 : rn G mm_Law_law 32 lv (.int (nI 18) :: st) S P ↔ rn G mm_Law_law 682 lv st S P := rn_s dq_Law_law_32 rfl rfl rfl
theorem sw_Law_law_32_19 : rn G mm_Law_law 32 lv (.int (nI 19) :: st) S P ↔ rn G mm_Law_law 705 lv st S P := rn_s dq_Law_law_32 rfl rfl rfl
theorem sw_Law_law_32_20 : rn G mm_Law_law 32 lv (.int (nI 20) :: st) S P ↔ rn G mm_Law_law 728 lv st S P := rn_s dq_Law_law_32 rfl rfl rfl
theorem sw_Law_law_32_21 : rn G mm_Law_law 32 lv (.int (nI 21) :: st) S P ↔ rn G mm_Law_law 761 lv st S P := rn_s dq_Law_law_32 rfl rfl rfl
theorem sw_Law_law_32_22 : rn G mm_Law_law 32 lv (.int (nI 22) :: st) S P ↔ rn G mm_Law_law 784 lv st S P := rn_s dq_Law_law_32 rfl rfl rfl
theorem sw_Law_law_32_23 : rn G mm_Law_law 32 lv (.int (nI 23) :: st) S P ↔ rn G mm_Law_law 797 lv st S P := rn_s dq_Law_law_32 rfl rfl rfl
theorem sw_Law_law_32_24 : rn G mm_Law_law 32 lv (.int (nI 24) :: st) S P ↔ rn G mm_Law_law 830 lv st S P := rn_s dq_Law_law_32 rfl rfl rfl
theorem sw_Law_law_32_25 : rn G mm_Law_law 32 lv (.int (nI 25) :: st) S P ↔ rn G mm_Law_law 864 lv st S P := rn_s dq_Law_law_32 rfl rfl rfl
theorem sw_Law_law_32_26 : rn G mm_Law_law 32 lv (.int (nI 26) :: st) S P ↔ rn G mm_Law_law 887 lv st S P := rn_s dq_Law_law_32 rfl rfl rfl
theorem sw_Law_law_32_27 : rn G mm_Law_law 32 lv (.int (nI 27) :: st) S P ↔ rn G mm_Law_law 910 lv st S P := rn_s dq_Law_law_32 rfl rfl rfl
theorem sw_Law_law_32_28 : rn G mm_Law_law 32 lv (.int (nI 28) :: st) S P ↔ rn G mm_Law_law 923 lv st S P := rn_s dq_Law_law_32 rfl rfl rfl
theorem sw_Law_law_32_29 : rn G mm_Law_law 32 lv (.int (nI 29) :: st) S P ↔ rn G mm_Law_law 936 lv st S P := rn_s dq_Law_law_32 rfl rfl rfl
theorem sw_Law_law_32_30 : rn G mm_Law_law 32 lv (.int (nI 30) :: st) S P ↔ rn G mm_Law_law 949 lv st S P := rn_s dq_Law_law_32 rfl rfl rfl
theorem sw_Law_law_32_31 : rn G mm_Law_law 32 lv (.int (nI 31) :: st) S P ↔ rn G mm_Law_law 1002 lv st S P := rn_s dq_Law_law_32 rfl rfl rfl
theorem sw_Law_law_32_32 : rn G mm_Law_law 32 lv (.int (nI 32) :: st) S P ↔ rn G mm_Law_law 1045 lv st S P := rn_s dq_Law_law_32 rfl rfl rfl
theorem sw_Law_law_32_33 : rn G mm_Law_law 32 lv (.int (nI 33) :: st) S P ↔ rn G mm_Law_law 1068 lv st S P := rn_s dq_Law_law_32 rfl rfl rfl
theorem sw_Law_law_32_34 : rn G mm_Law_law 32 lv (.int (nI 34) :: st) S P ↔ rn G mm_Law_law 1121 lv st S P := rn_s dq_Law_law_32 rfl rfl rfl
theorem sw_Law_law_32_d (h : x < nI 0 ∨ nI 34 < x) : rn G mm_Law_law 32 lv (.int x :: st) S P ↔ rn G mm_Law_law 1174 lv st S P := by
  refine rn_s dq_Law_law_32 rfl rfl ?_
  show (if x.toInt < _ ∨ _ < x.toInt then _ else _) = _
  have h2 : x.toInt < 0 ∨ 34 < x.toInt := sw_i (lo := 0) (hi := 34) (by decide) (by decide) h
  exact (if_pos h2).trans rfl
end SW
