/-! Leaves. -/
section CG
variable {o pl kp : Bool} {L : Nat} {I A : Nat → Nat → Int32} {G : kg_G} {S : ks_S}
theorem t_top {c : Nat} (ho : sx_o o pl kp) (hc : c < 49) : ev (lt_G o L) mm_Ground_top [.ref 2, .int (nI c)] (sx pl kp I A) (some (.int (A 4 c + A 5 c))) (sx pl kp I A) := by
  refine ev_of ?_
  show rn _ _ 0 [some (.ref 2), some (.int (nI c))] [] _ _
  simp (config := { decide := true }) only [sq_Ground_top_0, sq_Ground_top_1_2, sq_Ground_top_1_35, sq_Ground_top_1_137, sq_Ground_top_4, sq_Ground_top_5, sq_Ground_top_6, sq_Ground_top_7, sq_Ground_top_8, sq_Ground_top_9_2, sq_Ground_top_9_35, sq_Ground_top_9_137, sq_Ground_top_12, sq_Ground_top_13, sq_Ground_top_14, sq_Ground_top_15, sq_Ground_top_16, sq_Ground_top_17, hc, ho, up_b, true_or, or_true, and_self, and_true, true_and, false_implies, true_implies, not_true_eq_false, not_false_eq_true, ne_eq, u1_ne, u1_eq, Nat.add_zero, Nat.zero_add, Nat.reduceAdd, Nat.reduceMul, Option.toList, List.cons_append, List.nil_append, kx_cat_0, kx_cat_i, kx_cat_r, ak_3, ln_3, ab_3, ak_4, ln_4, ak_5, ln_5, ak_6, ln_6, ak_7, ln_7, ak_8, ln_8, ak_10, ln_10, ak_11, ln_11, ak_13, ln_13, ak_15, ln_15, ak_17, ln_17, ak_18, ln_18, ak_19, ln_19, ak_21, ln_21, ak_22, ln_22, ak_23, ln_23, ak_25, ln_25, ak_27, ln_27, ak_28, ln_28, ak_29, ln_29, ak_30, ln_30, ab_30, ak_31, ln_31, ak_32, ln_32, ak_33, ln_33, ak_34, ln_34, ak_36, ln_36, ab_36, ak_37, ln_37, ak_38, ln_38, ak_39, ln_39, ak_40, ln_40, ak_41, ln_41, ak_43, ln_43, ak_44, ln_44, ak_46, ln_46, ak_47, ln_47, ak_48, ln_48, ak_49, ln_49, ak_50, ln_50, ak_51, ln_51, ak_52, ln_52, ak_53, ln_53, ak_54, ln_54, ak_55, ln_55, ak_56, ln_56, ak_57, ln_57, ak_58, ln_58, ak_59, ln_59, ak_60, ln_60, ak_61, ln_61, ak_62, ln_62, ak_63, ln_63, ak_64, ln_64, ak_66, ln_66, ak_67, ln_67, ak_68, ln_68, ab_68, ak_69, ln_69, ak_70, ln_70, ak_71, ln_71, ak_72, ln_72, ak_73, ln_73, ak_74, ln_74, ak_75, ln_75, ak_76, ln_76, ak_77, ln_77, ak_78, ln_78, ak_79, ln_79, ak_80, ln_80, ak_81, ln_81, ak_82, ln_82, ak_83, ln_83, ak_84, ln_84, ak_85, ln_85, ak_86, ln_86, ak_87, ln_87, ak_88, ln_88, ak_89, ln_89, ak_90, ln_90, ak_91, ln_91, ak_92, ln_92, ak_93, ln_93, ak_94, ln_94, ak_95, ln_95, ak_96, ln_96, ak_97, ln_97, ak_98, ln_98, ak_99, ln_99, ak_100, ln_100, ak_101, ln_101, ak_102, ln_102, ak_103, ln_103, ak_104, ln_104, ak_105, ln_105, ak_106, ln_106, ak_107, ln_107, ak_108, ln_108, ak_109, ln_109, ak_110, ln_110, ak_111, ln_111, ak_112, ln_112, ak_113, ln_113, ak_114, ln_114, ak_115, ln_115, ak_116, ln_116, ak_117, ln_117, ak_118, ln_118, ak_119, ln_119, ak_120, ln_120, ak_121, ln_121, ak_122, ln_122, ak_123, ln_123, ak_124, ln_124, ak_125, ln_125, ak_126, ln_126, ak_127, ln_127, ak_128, ln_128, ak_129, ln_129, ak_130, ln_130, ak_131, ln_131, ak_132, ln_132, ak_133, ln_133, ak_134, ln_134, ak_135, ln_135, ak_138, ln_138, ab_138, ak_139, ln_139, ak_140, ln_140, ak_141, ln_141, ak_142, ln_142, ak_143, ln_143, ak_145, ln_145, ak_146, ln_146, ak_148, ln_148, ak_150, ln_150, ak_1000, ln_1000, ak_1001, ln_1001, ak_1002, ln_1002, ak_1003, ln_1003, ak_1004, ln_1004]
theorem t_outside {v a b : Int32} : ev G mm_Road_outside [.int v, .int a, .int b] S (some (.int (if v < a ∨ b < v then nI 1 else nI 0))) S := by
  refine ev_of ?_
  show rn _ _ 0 [some (.int v), some (.int a), some (.int b)] [] _ _
  simp (config := { decide := true }) only [sq_Road_outside_0, sq_Road_outside_1, sq_Road_outside_2, sq_Road_outside_5, sq_Road_outside_6, sq_Road_outside_7, sq_Road_outside_10, sq_Road_outside_11, sq_Road_outside_14, sq_Road_outside_15_0, sq_Road_outside_15_1, and_true]
  refine ⟨fun h => ?_, fun h => ⟨fun h2 => ?_, fun h2 => ?_⟩⟩
  · rw [if_pos (Or.inl h)]
  · rw [if_neg]
    rintro (q | q)
    · exact h q
    · exact absurd h2 (Int32.not_le.mpr q)
  · rw [if_pos (Or.inr (Int32.not_le.mp h2))]
theorem t_noCell {v : Int32} : ev G mm_Road_noCell [.int v] S (some (.int (if v < nI 0 ∨ nI 48 < v then nI 1 else nI 0))) S := by
  refine ev_of ?_
  show rn _ _ 0 [some (.int v)] [] _ _
  simp (config := { decide := true }) only [sq_Road_noCell_0, sq_Road_noCell_1, sq_Road_noCell_2, sq_Road_noCell_4 t_outside, Option.toList, List.cons_append, List.nil_append, kx_cat_0]
  by_cases h : v < nI 0 ∨ nI 48 < v
  · simp (config := { decide := true }) only [if_pos h, sq_Road_noCell_7_1]
  · simp (config := { decide := true }) only [if_neg h, sq_Road_noCell_7_0]
theorem t_cellAt {c s : Nat} (hc : c < 49) (hs : s < 4) : ev G mm_Road_cellAt [.int (nI c), .int (nI s)] S (some (.int (oI (nb c s)))) S := by
  have e1 : nI c - nI c / nI 7 * nI 7 = nI (c % 7) := nr (by omega) (by decide) (by decide)
  have b1 : c < 2 ^ 31 := by omega
  have b2 : c % 7 < 2 ^ 31 := by omega
  have z7 : ¬ nI 7 = 0 := by decide
  have e0 : (0 : Int32) = nI 0 := rfl
  have i1 : nI c - nI 7 = oI (nb c 0) ∨ c < 7 := by
    by_cases h : c < 7
    · exact Or.inr h
    · refine Or.inl ?_
      rw [pk_sub (by omega), show nb c 0 = some (c - 7) from if_pos (by omega)]
      rfl
  refine ev_of ?_
  show rn _ _ 0 [some (.int (nI c)), some (.int (nI s)), none] [] _ _
  rcases (show s = 0 ∨ s = 1 ∨ s = 2 ∨ s = 3 by omega) with rfl | rfl | rfl | rfl
  · simp (config := { decide := true }) only [sq_Road_cellAt_0, sq_Road_cellAt_1, sq_Road_cellAt_3, sq_Road_cellAt_4n, sq_Road_cellAt_4i, sq_Road_cellAt_4r, sq_Road_cellAt_5, sq_Road_cellAt_32, sq_Road_cellAt_33, sq_Road_cellAt_35, sq_Road_cellAt_38, sq_Road_cellAt_39, sq_Road_cellAt_41, sq_Road_cellAt_42, sq_Road_cellAt_45, sq_Road_cellAt_46, sq_Road_cellAt_47, sq_Road_cellAt_48, sq_Road_cellAt_51, sq_Road_cellAt_52, sq_Road_cellAt_53, sq_Road_cellAt_54, sq_Road_cellAt_57, sq_Road_cellAt_58, sq_Road_cellAt_59, sq_Road_cellAt_60, sq_Road_cellAt_62, sq_Road_cellAt_65, sq_Road_cellAt_66, sq_Road_cellAt_67, sq_Road_cellAt_68, sq_Road_cellAt_71, sq_Road_cellAt_72, sq_Road_cellAt_73, sq_Road_cellAt_74, sq_Road_cellAt_76, sq_Road_cellAt_79, sq_Road_cellAt_80, sq_Road_cellAt_82, sq_Road_cellAt_83, sq_Road_cellAt_86, sq_Road_cellAt_87, sw_cellAt0, e1, z7, nI_ltI, b1, and_true]
    refine ⟨fun h => ?_, fun h => ?_⟩
    · rw [show nb c 0 = none from if_neg (by omega)]; rfl
    · rw [show nb c 0 = some (c - 7) from if_pos (by omega), pk_sub (by omega)]; rfl
  · simp (config := { decide := true }) only [sq_Road_cellAt_0, sq_Road_cellAt_1, sq_Road_cellAt_3, sq_Road_cellAt_4n, sq_Road_cellAt_4i, sq_Road_cellAt_4r, sq_Road_cellAt_5, sq_Road_cellAt_32, sq_Road_cellAt_33, sq_Road_cellAt_35, sq_Road_cellAt_38, sq_Road_cellAt_39, sq_Road_cellAt_41, sq_Road_cellAt_42, sq_Road_cellAt_45, sq_Road_cellAt_46, sq_Road_cellAt_47, sq_Road_cellAt_48, sq_Road_cellAt_51, sq_Road_cellAt_52, sq_Road_cellAt_53, sq_Road_cellAt_54, sq_Road_cellAt_57, sq_Road_cellAt_58, sq_Road_cellAt_59, sq_Road_cellAt_60, sq_Road_cellAt_62, sq_Road_cellAt_65, sq_Road_cellAt_66, sq_Road_cellAt_67, sq_Road_cellAt_68, sq_Road_cellAt_71, sq_Road_cellAt_72, sq_Road_cellAt_73, sq_Road_cellAt_74, sq_Road_cellAt_76, sq_Road_cellAt_79, sq_Road_cellAt_80, sq_Road_cellAt_82, sq_Road_cellAt_83, sq_Road_cellAt_86, sq_Road_cellAt_87, sw_cellAt1, e1, z7, e0, nI_leI, b2, and_true]
    refine ⟨fun h => ?_, fun h => ?_⟩
    · rw [show nb c 1 = none from if_neg (by omega)]; rfl
    · rw [show nb c 1 = some (c - 1) from if_pos (by omega), pk_sub (by omega)]; rfl
  · simp (config := { decide := true }) only [sq_Road_cellAt_0, sq_Road_cellAt_1, sq_Road_cellAt_3, sq_Road_cellAt_4n, sq_Road_cellAt_4i, sq_Road_cellAt_4r, sq_Road_cellAt_5, sq_Road_cellAt_32, sq_Road_cellAt_33, sq_Road_cellAt_35, sq_Road_cellAt_38, sq_Road_cellAt_39, sq_Road_cellAt_41, sq_Road_cellAt_42, sq_Road_cellAt_45, sq_Road_cellAt_46, sq_Road_cellAt_47, sq_Road_cellAt_48, sq_Road_cellAt_51, sq_Road_cellAt_52, sq_Road_cellAt_53, sq_Road_cellAt_54, sq_Road_cellAt_57, sq_Road_cellAt_58, sq_Road_cellAt_59, sq_Road_cellAt_60, sq_Road_cellAt_62, sq_Road_cellAt_65, sq_Road_cellAt_66, sq_Road_cellAt_67, sq_Road_cellAt_68, sq_Road_cellAt_71, sq_Road_cellAt_72, sq_Road_cellAt_73, sq_Road_cellAt_74, sq_Road_cellAt_76, sq_Road_cellAt_79, sq_Road_cellAt_80, sq_Road_cellAt_82, sq_Road_cellAt_83, sq_Road_cellAt_86, sq_Road_cellAt_87, sw_cellAt2, e1, z7, nI_leI, b2, and_true]
    refine ⟨fun h => ?_, fun h => ?_⟩
    · rw [show nb c 2 = none from if_neg (by omega)]; rfl
    · rw [show nb c 2 = some (c + 1) from if_pos (by omega), nI_add]; rfl
  · simp (config := { decide := true }) only [sq_Road_cellAt_0, sq_Road_cellAt_1, sq_Road_cellAt_3, sq_Road_cellAt_4n, sq_Road_cellAt_4i, sq_Road_cellAt_4r, sq_Road_cellAt_5, sq_Road_cellAt_32, sq_Road_cellAt_33, sq_Road_cellAt_35, sq_Road_cellAt_38, sq_Road_cellAt_39, sq_Road_cellAt_41, sq_Road_cellAt_42, sq_Road_cellAt_45, sq_Road_cellAt_46, sq_Road_cellAt_47, sq_Road_cellAt_48, sq_Road_cellAt_51, sq_Road_cellAt_52, sq_Road_cellAt_53, sq_Road_cellAt_54, sq_Road_cellAt_57, sq_Road_cellAt_58, sq_Road_cellAt_59, sq_Road_cellAt_60, sq_Road_cellAt_62, sq_Road_cellAt_65, sq_Road_cellAt_66, sq_Road_cellAt_67, sq_Road_cellAt_68, sq_Road_cellAt_71, sq_Road_cellAt_72, sq_Road_cellAt_73, sq_Road_cellAt_74, sq_Road_cellAt_76, sq_Road_cellAt_79, sq_Road_cellAt_80, sq_Road_cellAt_82, sq_Road_cellAt_83, sq_Road_cellAt_86, sq_Road_cellAt_87, sw_cellAt3, e1, z7, nI_leI, b1, and_true]
    refine ⟨fun h => ?_, fun h => ?_⟩
    · rw [show nb c 3 = none from if_neg (by omega)]; rfl
    · rw [show nb c 3 = some (c + 7) from if_pos (by omega), nI_add]; rfl
theorem t_nextTo {c s : Nat} (hc : c < 49) (hs : s < 4) : ev G mm_Model_nextTo [.int (nI c), .int (nI s)] S (some (.int (oI (nb c s)))) S := by
  have e1 : nI c - nI c / nI 7 * nI 7 = nI (c % 7) := nr (by omega) (by decide) (by decide)
  have b1 : c < 2 ^ 31 := by omega
  have b2 : c % 7 < 2 ^ 31 := by omega
  have z7 : ¬ nI 7 = 0 := by decide
  have e0 : (0 : Int32) = nI 0 := rfl
  refine ev_of ?_
  show rn _ _ 0 [some (.int (nI c)), some (.int (nI s))] [] _ _
  rcases (show s = 0 ∨ s = 1 ∨ s = 2 ∨ s = 3 by omega) with rfl | rfl | rfl | rfl
  · simp (config := { decide := true }) only [sq_Model_nextTo_0, sq_Model_nextTo_1, sq_Model_nextTo_4, sq_Model_nextTo_5, sq_Model_nextTo_7, sq_Model_nextTo_10, sq_Model_nextTo_11, sq_Model_nextTo_14, sq_Model_nextTo_15, sq_Model_nextTo_17, sq_Model_nextTo_18, sq_Model_nextTo_19, sq_Model_nextTo_20, sq_Model_nextTo_21, sq_Model_nextTo_24, sq_Model_nextTo_25, sq_Model_nextTo_27, sq_Model_nextTo_30, sq_Model_nextTo_31, sq_Model_nextTo_34, sq_Model_nextTo_35, sq_Model_nextTo_37, sq_Model_nextTo_38, sq_Model_nextTo_39, sq_Model_nextTo_40, sq_Model_nextTo_41, sq_Model_nextTo_44, sq_Model_nextTo_45, sq_Model_nextTo_47, sq_Model_nextTo_48, sq_Model_nextTo_51, sq_Model_nextTo_52, sq_Model_nextTo_55, sq_Model_nextTo_56, sq_Model_nextTo_57, sq_Model_nextTo_58, sq_Model_nextTo_61, sq_Model_nextTo_62, sq_Model_nextTo_64, sq_Model_nextTo_65, sq_Model_nextTo_67, sq_Model_nextTo_70, sq_Model_nextTo_71, sq_Model_nextTo_74, sq_Model_nextTo_75, sq_Model_nextTo_76, sq_Model_nextTo_77, e0, nI_leI, nI_ltI, nI_eq, b1, and_true, not_true_eq_false, false_implies, true_and, not_false_eq_true, true_implies, forall_const]
    refine ⟨fun h => ?_, fun h => ?_⟩
    · rw [show nb c 0 = some (c - 7) from if_pos (by omega), pk_sub (by omega)]; rfl
    · rw [show nb c 0 = none from if_neg (by omega)]; rfl
  · simp (config := { decide := true }) only [sq_Model_nextTo_0, sq_Model_nextTo_1, sq_Model_nextTo_4, sq_Model_nextTo_5, sq_Model_nextTo_7, sq_Model_nextTo_10, sq_Model_nextTo_11, sq_Model_nextTo_14, sq_Model_nextTo_15, sq_Model_nextTo_17, sq_Model_nextTo_18, sq_Model_nextTo_19, sq_Model_nextTo_20, sq_Model_nextTo_21, sq_Model_nextTo_24, sq_Model_nextTo_25, sq_Model_nextTo_27, sq_Model_nextTo_30, sq_Model_nextTo_31, sq_Model_nextTo_34, sq_Model_nextTo_35, sq_Model_nextTo_37, sq_Model_nextTo_38, sq_Model_nextTo_39, sq_Model_nextTo_40, sq_Model_nextTo_41, sq_Model_nextTo_44, sq_Model_nextTo_45, sq_Model_nextTo_47, sq_Model_nextTo_48, sq_Model_nextTo_51, sq_Model_nextTo_52, sq_Model_nextTo_55, sq_Model_nextTo_56, sq_Model_nextTo_57, sq_Model_nextTo_58, sq_Model_nextTo_61, sq_Model_nextTo_62, sq_Model_nextTo_64, sq_Model_nextTo_65, sq_Model_nextTo_67, sq_Model_nextTo_70, sq_Model_nextTo_71, sq_Model_nextTo_74, sq_Model_nextTo_75, sq_Model_nextTo_76, sq_Model_nextTo_77, e1, z7, e0, nI_leI, nI_ltI, nI_eq, b2, and_true, not_true_eq_false, false_implies, true_and, not_false_eq_true, true_implies, forall_const]
    refine ⟨fun h => ?_, fun h => ?_⟩
    · rw [show nb c 1 = some (c - 1) from if_pos (by omega), pk_sub (by omega)]; rfl
    · rw [show nb c 1 = none from if_neg (by omega)]; rfl
  · simp (config := { decide := true }) only [sq_Model_nextTo_0, sq_Model_nextTo_1, sq_Model_nextTo_4, sq_Model_nextTo_5, sq_Model_nextTo_7, sq_Model_nextTo_10, sq_Model_nextTo_11, sq_Model_nextTo_14, sq_Model_nextTo_15, sq_Model_nextTo_17, sq_Model_nextTo_18, sq_Model_nextTo_19, sq_Model_nextTo_20, sq_Model_nextTo_21, sq_Model_nextTo_24, sq_Model_nextTo_25, sq_Model_nextTo_27, sq_Model_nextTo_30, sq_Model_nextTo_31, sq_Model_nextTo_34, sq_Model_nextTo_35, sq_Model_nextTo_37, sq_Model_nextTo_38, sq_Model_nextTo_39, sq_Model_nextTo_40, sq_Model_nextTo_41, sq_Model_nextTo_44, sq_Model_nextTo_45, sq_Model_nextTo_47, sq_Model_nextTo_48, sq_Model_nextTo_51, sq_Model_nextTo_52, sq_Model_nextTo_55, sq_Model_nextTo_56, sq_Model_nextTo_57, sq_Model_nextTo_58, sq_Model_nextTo_61, sq_Model_nextTo_62, sq_Model_nextTo_64, sq_Model_nextTo_65, sq_Model_nextTo_67, sq_Model_nextTo_70, sq_Model_nextTo_71, sq_Model_nextTo_74, sq_Model_nextTo_75, sq_Model_nextTo_76, sq_Model_nextTo_77, e1, z7, e0, nI_leI, nI_ltI, nI_eq, b2, and_true, not_true_eq_false, false_implies, true_and, not_false_eq_true, true_implies, forall_const]
    refine ⟨fun h => ?_, fun h => ?_⟩
    · rw [show nb c 2 = some (c + 1) from if_pos (by omega), nI_add]; rfl
    · rw [show nb c 2 = none from if_neg (by omega)]; rfl
  · simp (config := { decide := true }) only [sq_Model_nextTo_0, sq_Model_nextTo_1, sq_Model_nextTo_4, sq_Model_nextTo_5, sq_Model_nextTo_7, sq_Model_nextTo_10, sq_Model_nextTo_11, sq_Model_nextTo_14, sq_Model_nextTo_15, sq_Model_nextTo_17, sq_Model_nextTo_18, sq_Model_nextTo_19, sq_Model_nextTo_20, sq_Model_nextTo_21, sq_Model_nextTo_24, sq_Model_nextTo_25, sq_Model_nextTo_27, sq_Model_nextTo_30, sq_Model_nextTo_31, sq_Model_nextTo_34, sq_Model_nextTo_35, sq_Model_nextTo_37, sq_Model_nextTo_38, sq_Model_nextTo_39, sq_Model_nextTo_40, sq_Model_nextTo_41, sq_Model_nextTo_44, sq_Model_nextTo_45, sq_Model_nextTo_47, sq_Model_nextTo_48, sq_Model_nextTo_51, sq_Model_nextTo_52, sq_Model_nextTo_55, sq_Model_nextTo_56, sq_Model_nextTo_57, sq_Model_nextTo_58, sq_Model_nextTo_61, sq_Model_nextTo_62, sq_Model_nextTo_64, sq_Model_nextTo_65, sq_Model_nextTo_67, sq_Model_nextTo_70, sq_Model_nextTo_71, sq_Model_nextTo_74, sq_Model_nextTo_75, sq_Model_nextTo_76, sq_Model_nextTo_77, e0, nI_leI, nI_ltI, nI_eq, b1, and_true, not_true_eq_false, false_implies, true_and, not_false_eq_true, true_implies, forall_const]
    refine ⟨fun h => ?_, fun h => ?_⟩
    · rw [show nb c 3 = some (c + 7) from if_pos (by omega), nI_add]; rfl
    · rw [show nb c 3 = none from if_neg (by omega)]; rfl
end CG
