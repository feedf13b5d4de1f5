/-! The law's start. -/
theorem ivS_a : (List.range 151).all (fun i => (List.range 30).all (fun k => !sx_rf i k || decide (ivS i k = sx_iv false false (fun _ _ => 0) i k))) = true := by decide +kernel
theorem ivS_w {i k : Nat} (h : sx_rf i k = true) : ivS i k = sx_iv false false (fun _ _ => 0) i k := by
  obtain ⟨h1, h2⟩ := rf_lt h
  have h3 := List.all_eq_true.1 (List.all_eq_true.1 ivS_a i (List.mem_range.2 h1)) k (List.mem_range.2 h2)
  rw [h] at h3
  exact of_decide_eq_true h3
def ini (A : Nat → Nat → Int32) : Nat → Nat → Int32 := u1 (u1 A 62 (fun j => if j < 4 then -1 else A 62 j)) 46 (fun j => if j < 49 then nI 5 else A 46 j)
theorem upd_lt {f : Nat → Int32} {i : Nat} {x : Int32} : upd (fun j => if j < i then x else f j) i x = fun j => if j < i + 1 then x else f j := by
  funext j
  unfold upd
  by_cases e : j = i
  · rw [if_pos e, if_pos (by omega)]
  · rw [if_neg e]
    show (if j < i then x else f j) = if j < i + 1 then x else f j
    by_cases h : j < i
    · rw [if_pos h, if_pos (by omega)]
    · rw [if_neg h, if_neg (by omega)]
theorem u1_same {A : Nat → Nat → Int32} {a : Nat} : u1 A a (A a) = A := by
  funext b
  by_cases e : b = a
  · rw [e, u1_eq]
  · rw [u1_ne e]
section SI
variable {o : Bool} {L : Nat} {I A : Nat → Nat → Int32}
theorem t_init {Q : Option Value → ks_S → Prop} (ho : sx_o o false false) (hQ : Q none (sx false false I (ini A))) : rn (lt_G o L) mm_Model_init 169 [some (.ref 45), none] [] (sx false false I A) Q := by
  have k2 := up_ind (f := fun i => rn (lt_G o L) mm_Model_init 191 [some (.ref 45), some (.int (nI i))] [] (sx false false I (u1 (u1 A 62 (fun j => if j < 4 then -1 else A 62 j)) 46 (fun j => if j < i then nI 5 else A 46 j))) Q) (n := 49) ?_ ?_
  · have k1 := up_ind (f := fun i => rn (lt_G o L) mm_Model_init 171 [some (.ref 45), some (.int (nI i))] [] (sx false false I (u1 A 62 (fun j => if j < i then -1 else A 62 j))) Q) (n := 4) ?_ ?_
    · have e : u1 A 62 (fun j => if j < 0 then -1 else A 62 j) = A := by
        rw [show (fun j => if j < 0 then -1 else A 62 j) = A 62 from funext fun j => if_neg (Nat.not_lt_zero j)]
        exact u1_same
      rw [e] at k1
      simp (config := { decide := true }) only [sq_Model_init_0, sq_Model_init_4, sq_Model_init_5, sq_Model_init_13, sq_Model_init_14, sq_Model_init_21, sq_Model_init_22, sq_Model_init_29, sq_Model_init_30, sq_Model_init_32_45, sq_Model_init_35, sq_Model_init_36, sq_Model_init_43, sq_Model_init_44, sq_Model_init_51, sq_Model_init_52, sq_Model_init_53_45, sq_Model_init_56, sq_Model_init_57, sq_Model_init_64, sq_Model_init_65, sq_Model_init_72, sq_Model_init_73, sq_Model_init_80, sq_Model_init_81, sq_Model_init_89, sq_Model_init_90, sq_Model_init_97, sq_Model_init_98, sq_Model_init_105, sq_Model_init_106, sq_Model_init_113, sq_Model_init_114, sq_Model_init_122, sq_Model_init_123, sq_Model_init_130, sq_Model_init_131, sq_Model_init_139, sq_Model_init_140, sq_Model_init_147, sq_Model_init_148, sq_Model_init_154, sq_Model_init_155, sq_Model_init_161, sq_Model_init_162, sq_Model_init_169, sq_Model_init_170n, sq_Model_init_170i, sq_Model_init_170r, sq_Model_init_172, sq_Model_init_173, sq_Model_init_176, sq_Model_init_177_45, sq_Model_init_180, sq_Model_init_181, sq_Model_init_182, sq_Model_init_183n, sq_Model_init_183i, sq_Model_init_183r, sq_Model_init_186, sq_Model_init_189, sq_Model_init_190n, sq_Model_init_190i, sq_Model_init_190r, sq_Model_init_192, sq_Model_init_194, sq_Model_init_197, sq_Model_init_198_45, sq_Model_init_201, sq_Model_init_202, sq_Model_init_203, sq_Model_init_204n, sq_Model_init_204i, sq_Model_init_204r, sq_Model_init_207, sq_Model_init_210, ho, up_b, true_or, or_true, and_self, and_true, true_and, false_implies, true_implies, not_true_eq_false, not_false_eq_true, ne_eq, u1_ne, u1_eq, Nat.add_zero, Nat.zero_add, Nat.reduceAdd, Nat.reduceMul, Option.toList, List.cons_append, List.nil_append, kx_cat_0, kx_cat_i, kx_cat_r, ak_3, ln_3, ab_3, ak_4, ln_4, ak_5, ln_5, ak_6, ln_6, ak_7, ln_7, ak_8, ln_8, ak_10, ln_10, ak_11, ln_11, ak_13, ln_13, ak_15, ln_15, ak_17, ln_17, ak_18, ln_18, ak_19, ln_19, ak_21, ln_21, ak_22, ln_22, ak_23, ln_23, ak_25, ln_25, ak_27, ln_27, ak_28, ln_28, ak_29, ln_29, ak_30, ln_30, ab_30, ak_31, ln_31, ak_32, ln_32, ak_33, ln_33, ak_34, ln_34, ak_36, ln_36, ab_36, ak_37, ln_37, ak_38, ln_38, ak_39, ln_39, ak_40, ln_40, ak_41, ln_41, ak_43, ln_43, ak_44, ln_44, ak_46, ln_46, ak_47, ln_47, ak_48, ln_48, ak_49, ln_49, ak_50, ln_50, ak_51, ln_51, ak_52, ln_52, ak_53, ln_53, ak_54, ln_54, ak_55, ln_55, ak_56, ln_56, ak_57, ln_57, ak_58, ln_58, ak_59, ln_59, ak_60, ln_60, ak_61, ln_61, ak_62, ln_62, ak_63, ln_63, ak_64, ln_64, ak_66, ln_66, ak_67, ln_67, ak_68, ln_68, ab_68, ak_69, ln_69, ak_70, ln_70, ak_71, ln_71, ak_72, ln_72, ak_73, ln_73, ak_74, ln_74, ak_75, ln_75, ak_76, ln_76, ak_77, ln_77, ak_78, ln_78, ak_79, ln_79, ak_80, ln_80, ak_81, ln_81, ak_82, ln_82, ak_83, ln_83, ak_84, ln_84, ak_85, ln_85, ak_86, ln_86, ak_87, ln_87, ak_88, ln_88, ak_89, ln_89, ak_90, ln_90, ak_91, ln_91, ak_92, ln_92, ak_93, ln_93, ak_94, ln_94, ak_95, ln_95, ak_96, ln_96, ak_97, ln_97, ak_98, ln_98, ak_99, ln_99, ak_100, ln_100, ak_101, ln_101, ak_102, ln_102, ak_103, ln_103, ak_104, ln_104, ak_105, ln_105, ak_106, ln_106, ak_107, ln_107, ak_108, ln_108, ak_109, ln_109, ak_110, ln_110, ak_111, ln_111, ak_112, ln_112, ak_113, ln_113, ak_114, ln_114, ak_115, ln_115, ak_116, ln_116, ak_117, ln_117, ak_118, ln_118, ak_119, ln_119, ak_120, ln_120, ak_121, ln_121, ak_122, ln_122, ak_123, ln_123, ak_124, ln_124, ak_125, ln_125, ak_126, ln_126, ak_127, ln_127, ak_128, ln_128, ak_129, ln_129, ak_130, ln_130, ak_131, ln_131, ak_132, ln_132, ak_133, ln_133, ak_134, ln_134, ak_135, ln_135, ak_138, ln_138, ab_138, ak_139, ln_139, ak_140, ln_140, ak_141, ln_141, ak_142, ln_142, ak_143, ln_143, ak_145, ln_145, ak_146, ln_146, ak_148, ln_148, ak_150, ln_150, ak_1000, ln_1000, ak_1001, ln_1001, ak_1002, ln_1002, ak_1003, ln_1003, ak_1004, ln_1004]
      exact k1
    · have e : u1 (u1 A 62 (fun j => if j < 4 then -1 else A 62 j)) 46 (fun j => if j < 0 then nI 5 else A 46 j) = u1 A 62 (fun j => if j < 4 then -1 else A 62 j) := by
        rw [show (fun j => if j < 0 then nI 5 else A 46 j) = u1 A 62 (fun j => if j < 4 then -1 else A 62 j) 46 from by
          rw [u1_ne (by decide)]
          exact funext fun j => if_neg (Nat.not_lt_zero j)]
        exact u1_same
      rw [e] at k2
      rw [sq_Model_init_171]
      simp (config := { decide := true }) only [sq_Model_init_0, sq_Model_init_4, sq_Model_init_5, sq_Model_init_13, sq_Model_init_14, sq_Model_init_21, sq_Model_init_22, sq_Model_init_29, sq_Model_init_30, sq_Model_init_32_45, sq_Model_init_35, sq_Model_init_36, sq_Model_init_43, sq_Model_init_44, sq_Model_init_51, sq_Model_init_52, sq_Model_init_53_45, sq_Model_init_56, sq_Model_init_57, sq_Model_init_64, sq_Model_init_65, sq_Model_init_72, sq_Model_init_73, sq_Model_init_80, sq_Model_init_81, sq_Model_init_89, sq_Model_init_90, sq_Model_init_97, sq_Model_init_98, sq_Model_init_105, sq_Model_init_106, sq_Model_init_113, sq_Model_init_114, sq_Model_init_122, sq_Model_init_123, sq_Model_init_130, sq_Model_init_131, sq_Model_init_139, sq_Model_init_140, sq_Model_init_147, sq_Model_init_148, sq_Model_init_154, sq_Model_init_155, sq_Model_init_161, sq_Model_init_162, sq_Model_init_169, sq_Model_init_170n, sq_Model_init_170i, sq_Model_init_170r, sq_Model_init_172, sq_Model_init_173, sq_Model_init_176, sq_Model_init_177_45, sq_Model_init_180, sq_Model_init_181, sq_Model_init_182, sq_Model_init_183n, sq_Model_init_183i, sq_Model_init_183r, sq_Model_init_186, sq_Model_init_189, sq_Model_init_190n, sq_Model_init_190i, sq_Model_init_190r, sq_Model_init_192, sq_Model_init_194, sq_Model_init_197, sq_Model_init_198_45, sq_Model_init_201, sq_Model_init_202, sq_Model_init_203, sq_Model_init_204n, sq_Model_init_204i, sq_Model_init_204r, sq_Model_init_207, sq_Model_init_210, ho, up_b, true_or, or_true, and_self, and_true, true_and, false_implies, true_implies, not_true_eq_false, not_false_eq_true, ne_eq, u1_ne, u1_eq, Nat.add_zero, Nat.zero_add, Nat.reduceAdd, Nat.reduceMul, Option.toList, List.cons_append, List.nil_append, kx_cat_0, kx_cat_i, kx_cat_r, ak_3, ln_3, ab_3, ak_4, ln_4, ak_5, ln_5, ak_6, ln_6, ak_7, ln_7, ak_8, ln_8, ak_10, ln_10, ak_11, ln_11, ak_13, ln_13, ak_15, ln_15, ak_17, ln_17, ak_18, ln_18, ak_19, ln_19, ak_21, ln_21, ak_22, ln_22, ak_23, ln_23, ak_25, ln_25, ak_27, ln_27, ak_28, ln_28, ak_29, ln_29, ak_30, ln_30, ab_30, ak_31, ln_31, ak_32, ln_32, ak_33, ln_33, ak_34, ln_34, ak_36, ln_36, ab_36, ak_37, ln_37, ak_38, ln_38, ak_39, ln_39, ak_40, ln_40, ak_41, ln_41, ak_43, ln_43, ak_44, ln_44, ak_46, ln_46, ak_47, ln_47, ak_48, ln_48, ak_49, ln_49, ak_50, ln_50, ak_51, ln_51, ak_52, ln_52, ak_53, ln_53, ak_54, ln_54, ak_55, ln_55, ak_56, ln_56, ak_57, ln_57, ak_58, ln_58, ak_59, ln_59, ak_60, ln_60, ak_61, ln_61, ak_62, ln_62, ak_63, ln_63, ak_64, ln_64, ak_66, ln_66, ak_67, ln_67, ak_68, ln_68, ab_68, ak_69, ln_69, ak_70, ln_70, ak_71, ln_71, ak_72, ln_72, ak_73, ln_73, ak_74, ln_74, ak_75, ln_75, ak_76, ln_76, ak_77, ln_77, ak_78, ln_78, ak_79, ln_79, ak_80, ln_80, ak_81, ln_81, ak_82, ln_82, ak_83, ln_83, ak_84, ln_84, ak_85, ln_85, ak_86, ln_86, ak_87, ln_87, ak_88, ln_88, ak_89, ln_89, ak_90, ln_90, ak_91, ln_91, ak_92, ln_92, ak_93, ln_93, ak_94, ln_94, ak_95, ln_95, ak_96, ln_96, ak_97, ln_97, ak_98, ln_98, ak_99, ln_99, ak_100, ln_100, ak_101, ln_101, ak_102, ln_102, ak_103, ln_103, ak_104, ln_104, ak_105, ln_105, ak_106, ln_106, ak_107, ln_107, ak_108, ln_108, ak_109, ln_109, ak_110, ln_110, ak_111, ln_111, ak_112, ln_112, ak_113, ln_113, ak_114, ln_114, ak_115, ln_115, ak_116, ln_116, ak_117, ln_117, ak_118, ln_118, ak_119, ln_119, ak_120, ln_120, ak_121, ln_121, ak_122, ln_122, ak_123, ln_123, ak_124, ln_124, ak_125, ln_125, ak_126, ln_126, ak_127, ln_127, ak_128, ln_128, ak_129, ln_129, ak_130, ln_130, ak_131, ln_131, ak_132, ln_132, ak_133, ln_133, ak_134, ln_134, ak_135, ln_135, ak_138, ln_138, ab_138, ak_139, ln_139, ak_140, ln_140, ak_141, ln_141, ak_142, ln_142, ak_143, ln_143, ak_145, ln_145, ak_146, ln_146, ak_148, ln_148, ak_150, ln_150, ak_1000, ln_1000, ak_1001, ln_1001, ak_1002, ln_1002, ak_1003, ln_1003, ak_1004, ln_1004]
      exact k2
    · intro i hi ih
      have b1 : i < 2 ^ 31 := by omega
      have b2 : (4 : Nat) < 2 ^ 31 := by decide
      have b3 : ¬ 4 ≤ i := by omega
      rw [sq_Model_init_171]
      simp (config := { decide := true }) only [sq_Model_init_0, sq_Model_init_4, sq_Model_init_5, sq_Model_init_13, sq_Model_init_14, sq_Model_init_21, sq_Model_init_22, sq_Model_init_29, sq_Model_init_30, sq_Model_init_32_45, sq_Model_init_35, sq_Model_init_36, sq_Model_init_43, sq_Model_init_44, sq_Model_init_51, sq_Model_init_52, sq_Model_init_53_45, sq_Model_init_56, sq_Model_init_57, sq_Model_init_64, sq_Model_init_65, sq_Model_init_72, sq_Model_init_73, sq_Model_init_80, sq_Model_init_81, sq_Model_init_89, sq_Model_init_90, sq_Model_init_97, sq_Model_init_98, sq_Model_init_105, sq_Model_init_106, sq_Model_init_113, sq_Model_init_114, sq_Model_init_122, sq_Model_init_123, sq_Model_init_130, sq_Model_init_131, sq_Model_init_139, sq_Model_init_140, sq_Model_init_147, sq_Model_init_148, sq_Model_init_154, sq_Model_init_155, sq_Model_init_161, sq_Model_init_162, sq_Model_init_169, sq_Model_init_170n, sq_Model_init_170i, sq_Model_init_170r, sq_Model_init_172, sq_Model_init_173, sq_Model_init_176, sq_Model_init_177_45, sq_Model_init_180, sq_Model_init_181, sq_Model_init_182, sq_Model_init_183n, sq_Model_init_183i, sq_Model_init_183r, sq_Model_init_186, sq_Model_init_189, sq_Model_init_190n, sq_Model_init_190i, sq_Model_init_190r, sq_Model_init_192, sq_Model_init_194, sq_Model_init_197, sq_Model_init_198_45, sq_Model_init_201, sq_Model_init_202, sq_Model_init_203, sq_Model_init_204n, sq_Model_init_204i, sq_Model_init_204r, sq_Model_init_207, sq_Model_init_210, nI_leI, b1, b2, b3, hi, u2_u1, upd_lt, nI_add, ho, up_b, true_or, or_true, and_self, and_true, true_and, false_implies, true_implies, not_true_eq_false, not_false_eq_true, ne_eq, u1_ne, u1_eq, Nat.add_zero, Nat.zero_add, Nat.reduceAdd, Nat.reduceMul, Option.toList, List.cons_append, List.nil_append, kx_cat_0, kx_cat_i, kx_cat_r, ak_3, ln_3, ab_3, ak_4, ln_4, ak_5, ln_5, ak_6, ln_6, ak_7, ln_7, ak_8, ln_8, ak_10, ln_10, ak_11, ln_11, ak_13, ln_13, ak_15, ln_15, ak_17, ln_17, ak_18, ln_18, ak_19, ln_19, ak_21, ln_21, ak_22, ln_22, ak_23, ln_23, ak_25, ln_25, ak_27, ln_27, ak_28, ln_28, ak_29, ln_29, ak_30, ln_30, ab_30, ak_31, ln_31, ak_32, ln_32, ak_33, ln_33, ak_34, ln_34, ak_36, ln_36, ab_36, ak_37, ln_37, ak_38, ln_38, ak_39, ln_39, ak_40, ln_40, ak_41, ln_41, ak_43, ln_43, ak_44, ln_44, ak_46, ln_46, ak_47, ln_47, ak_48, ln_48, ak_49, ln_49, ak_50, ln_50, ak_51, ln_51, ak_52, ln_52, ak_53, ln_53, ak_54, ln_54, ak_55, ln_55, ak_56, ln_56, ak_57, ln_57, ak_58, ln_58, ak_59, ln_59, ak_60, ln_60, ak_61, ln_61, ak_62, ln_62, ak_63, ln_63, ak_64, ln_64, ak_66, ln_66, ak_67, ln_67, ak_68, ln_68, ab_68, ak_69, ln_69, ak_70, ln_70, ak_71, ln_71, ak_72, ln_72, ak_73, ln_73, ak_74, ln_74, ak_75, ln_75, ak_76, ln_76, ak_77, ln_77, ak_78, ln_78, ak_79, ln_79, ak_80, ln_80, ak_81, ln_81, ak_82, ln_82, ak_83, ln_83, ak_84, ln_84, ak_85, ln_85, ak_86, ln_86, ak_87, ln_87, ak_88, ln_88, ak_89, ln_89, ak_90, ln_90, ak_91, ln_91, ak_92, ln_92, ak_93, ln_93, ak_94, ln_94, ak_95, ln_95, ak_96, ln_96, ak_97, ln_97, ak_98, ln_98, ak_99, ln_99, ak_100, ln_100, ak_101, ln_101, ak_102, ln_102, ak_103, ln_103, ak_104, ln_104, ak_105, ln_105, ak_106, ln_106, ak_107, ln_107, ak_108, ln_108, ak_109, ln_109, ak_110, ln_110, ak_111, ln_111, ak_112, ln_112, ak_113, ln_113, ak_114, ln_114, ak_115, ln_115, ak_116, ln_116, ak_117, ln_117, ak_118, ln_118, ak_119, ln_119, ak_120, ln_120, ak_121, ln_121, ak_122, ln_122, ak_123, ln_123, ak_124, ln_124, ak_125, ln_125, ak_126, ln_126, ak_127, ln_127, ak_128, ln_128, ak_129, ln_129, ak_130, ln_130, ak_131, ln_131, ak_132, ln_132, ak_133, ln_133, ak_134, ln_134, ak_135, ln_135, ak_138, ln_138, ab_138, ak_139, ln_139, ak_140, ln_140, ak_141, ln_141, ak_142, ln_142, ak_143, ln_143, ak_145, ln_145, ak_146, ln_146, ak_148, ln_148, ak_150, ln_150, ak_1000, ln_1000, ak_1001, ln_1001, ak_1002, ln_1002, ak_1003, ln_1003, ak_1004, ln_1004]
      exact ih
  · rw [sq_Model_init_191]
    simp (config := { decide := true }) only [sq_Model_init_0, sq_Model_init_4, sq_Model_init_5, sq_Model_init_13, sq_Model_init_14, sq_Model_init_21, sq_Model_init_22, sq_Model_init_29, sq_Model_init_30, sq_Model_init_32_45, sq_Model_init_35, sq_Model_init_36, sq_Model_init_43, sq_Model_init_44, sq_Model_init_51, sq_Model_init_52, sq_Model_init_53_45, sq_Model_init_56, sq_Model_init_57, sq_Model_init_64, sq_Model_init_65, sq_Model_init_72, sq_Model_init_73, sq_Model_init_80, sq_Model_init_81, sq_Model_init_89, sq_Model_init_90, sq_Model_init_97, sq_Model_init_98, sq_Model_init_105, sq_Model_init_106, sq_Model_init_113, sq_Model_init_114, sq_Model_init_122, sq_Model_init_123, sq_Model_init_130, sq_Model_init_131, sq_Model_init_139, sq_Model_init_140, sq_Model_init_147, sq_Model_init_148, sq_Model_init_154, sq_Model_init_155, sq_Model_init_161, sq_Model_init_162, sq_Model_init_169, sq_Model_init_170n, sq_Model_init_170i, sq_Model_init_170r, sq_Model_init_172, sq_Model_init_173, sq_Model_init_176, sq_Model_init_177_45, sq_Model_init_180, sq_Model_init_181, sq_Model_init_182, sq_Model_init_183n, sq_Model_init_183i, sq_Model_init_183r, sq_Model_init_186, sq_Model_init_189, sq_Model_init_190n, sq_Model_init_190i, sq_Model_init_190r, sq_Model_init_192, sq_Model_init_194, sq_Model_init_197, sq_Model_init_198_45, sq_Model_init_201, sq_Model_init_202, sq_Model_init_203, sq_Model_init_204n, sq_Model_init_204i, sq_Model_init_204r, sq_Model_init_207, sq_Model_init_210, ho, up_b, true_or, or_true, and_self, and_true, true_and, false_implies, true_implies, not_true_eq_false, not_false_eq_true, ne_eq, u1_ne, u1_eq, Nat.add_zero, Nat.zero_add, Nat.reduceAdd, Nat.reduceMul, Option.toList, List.cons_append, List.nil_append, kx_cat_0, kx_cat_i, kx_cat_r, ak_3, ln_3, ab_3, ak_4, ln_4, ak_5, ln_5, ak_6, ln_6, ak_7, ln_7, ak_8, ln_8, ak_10, ln_10, ak_11, ln_11, ak_13, ln_13, ak_15, ln_15, ak_17, ln_17, ak_18, ln_18, ak_19, ln_19, ak_21, ln_21, ak_22, ln_22, ak_23, ln_23, ak_25, ln_25, ak_27, ln_27, ak_28, ln_28, ak_29, ln_29, ak_30, ln_30, ab_30, ak_31, ln_31, ak_32, ln_32, ak_33, ln_33, ak_34, ln_34, ak_36, ln_36, ab_36, ak_37, ln_37, ak_38, ln_38, ak_39, ln_39, ak_40, ln_40, ak_41, ln_41, ak_43, ln_43, ak_44, ln_44, ak_46, ln_46, ak_47, ln_47, ak_48, ln_48, ak_49, ln_49, ak_50, ln_50, ak_51, ln_51, ak_52, ln_52, ak_53, ln_53, ak_54, ln_54, ak_55, ln_55, ak_56, ln_56, ak_57, ln_57, ak_58, ln_58, ak_59, ln_59, ak_60, ln_60, ak_61, ln_61, ak_62, ln_62, ak_63, ln_63, ak_64, ln_64, ak_66, ln_66, ak_67, ln_67, ak_68, ln_68, ab_68, ak_69, ln_69, ak_70, ln_70, ak_71, ln_71, ak_72, ln_72, ak_73, ln_73, ak_74, ln_74, ak_75, ln_75, ak_76, ln_76, ak_77, ln_77, ak_78, ln_78, ak_79, ln_79, ak_80, ln_80, ak_81, ln_81, ak_82, ln_82, ak_83, ln_83, ak_84, ln_84, ak_85, ln_85, ak_86, ln_86, ak_87, ln_87, ak_88, ln_88, ak_89, ln_89, ak_90, ln_90, ak_91, ln_91, ak_92, ln_92, ak_93, ln_93, ak_94, ln_94, ak_95, ln_95, ak_96, ln_96, ak_97, ln_97, ak_98, ln_98, ak_99, ln_99, ak_100, ln_100, ak_101, ln_101, ak_102, ln_102, ak_103, ln_103, ak_104, ln_104, ak_105, ln_105, ak_106, ln_106, ak_107, ln_107, ak_108, ln_108, ak_109, ln_109, ak_110, ln_110, ak_111, ln_111, ak_112, ln_112, ak_113, ln_113, ak_114, ln_114, ak_115, ln_115, ak_116, ln_116, ak_117, ln_117, ak_118, ln_118, ak_119, ln_119, ak_120, ln_120, ak_121, ln_121, ak_122, ln_122, ak_123, ln_123, ak_124, ln_124, ak_125, ln_125, ak_126, ln_126, ak_127, ln_127, ak_128, ln_128, ak_129, ln_129, ak_130, ln_130, ak_131, ln_131, ak_132, ln_132, ak_133, ln_133, ak_134, ln_134, ak_135, ln_135, ak_138, ln_138, ab_138, ak_139, ln_139, ak_140, ln_140, ak_141, ln_141, ak_142, ln_142, ak_143, ln_143, ak_145, ln_145, ak_146, ln_146, ak_148, ln_148, ak_150, ln_150, ak_1000, ln_1000, ak_1001, ln_1001, ak_1002, ln_1002, ak_1003, ln_1003, ak_1004, ln_1004]
    exact hQ
  · intro i hi ih
    have b1 : i < 2 ^ 31 := by omega
    have b2 : (49 : Nat) < 2 ^ 31 := by decide
    have b3 : ¬ 49 ≤ i := by omega
    have b4 : i < 245 := by omega
    rw [sq_Model_init_191]
    simp (config := { decide := true }) only [sq_Model_init_0, sq_Model_init_4, sq_Model_init_5, sq_Model_init_13, sq_Model_init_14, sq_Model_init_21, sq_Model_init_22, sq_Model_init_29, sq_Model_init_30, sq_Model_init_32_45, sq_Model_init_35, sq_Model_init_36, sq_Model_init_43, sq_Model_init_44, sq_Model_init_51, sq_Model_init_52, sq_Model_init_53_45, sq_Model_init_56, sq_Model_init_57, sq_Model_init_64, sq_Model_init_65, sq_Model_init_72, sq_Model_init_73, sq_Model_init_80, sq_Model_init_81, sq_Model_init_89, sq_Model_init_90, sq_Model_init_97, sq_Model_init_98, sq_Model_init_105, sq_Model_init_106, sq_Model_init_113, sq_Model_init_114, sq_Model_init_122, sq_Model_init_123, sq_Model_init_130, sq_Model_init_131, sq_Model_init_139, sq_Model_init_140, sq_Model_init_147, sq_Model_init_148, sq_Model_init_154, sq_Model_init_155, sq_Model_init_161, sq_Model_init_162, sq_Model_init_169, sq_Model_init_170n, sq_Model_init_170i, sq_Model_init_170r, sq_Model_init_172, sq_Model_init_173, sq_Model_init_176, sq_Model_init_177_45, sq_Model_init_180, sq_Model_init_181, sq_Model_init_182, sq_Model_init_183n, sq_Model_init_183i, sq_Model_init_183r, sq_Model_init_186, sq_Model_init_189, sq_Model_init_190n, sq_Model_init_190i, sq_Model_init_190r, sq_Model_init_192, sq_Model_init_194, sq_Model_init_197, sq_Model_init_198_45, sq_Model_init_201, sq_Model_init_202, sq_Model_init_203, sq_Model_init_204n, sq_Model_init_204i, sq_Model_init_204r, sq_Model_init_207, sq_Model_init_210, nI_leI, b1, b2, b3, b4, u2_u1, upd_lt, nI_add, ho, up_b, true_or, or_true, and_self, and_true, true_and, false_implies, true_implies, not_true_eq_false, not_false_eq_true, ne_eq, u1_ne, u1_eq, Nat.add_zero, Nat.zero_add, Nat.reduceAdd, Nat.reduceMul, Option.toList, List.cons_append, List.nil_append, kx_cat_0, kx_cat_i, kx_cat_r, ak_3, ln_3, ab_3, ak_4, ln_4, ak_5, ln_5, ak_6, ln_6, ak_7, ln_7, ak_8, ln_8, ak_10, ln_10, ak_11, ln_11, ak_13, ln_13, ak_15, ln_15, ak_17, ln_17, ak_18, ln_18, ak_19, ln_19, ak_21, ln_21, ak_22, ln_22, ak_23, ln_23, ak_25, ln_25, ak_27, ln_27, ak_28, ln_28, ak_29, ln_29, ak_30, ln_30, ab_30, ak_31, ln_31, ak_32, ln_32, ak_33, ln_33, ak_34, ln_34, ak_36, ln_36, ab_36, ak_37, ln_37, ak_38, ln_38, ak_39, ln_39, ak_40, ln_40, ak_41, ln_41, ak_43, ln_43, ak_44, ln_44, ak_46, ln_46, ak_47, ln_47, ak_48, ln_48, ak_49, ln_49, ak_50, ln_50, ak_51, ln_51, ak_52, ln_52, ak_53, ln_53, ak_54, ln_54, ak_55, ln_55, ak_56, ln_56, ak_57, ln_57, ak_58, ln_58, ak_59, ln_59, ak_60, ln_60, ak_61, ln_61, ak_62, ln_62, ak_63, ln_63, ak_64, ln_64, ak_66, ln_66, ak_67, ln_67, ak_68, ln_68, ab_68, ak_69, ln_69, ak_70, ln_70, ak_71, ln_71, ak_72, ln_72, ak_73, ln_73, ak_74, ln_74, ak_75, ln_75, ak_76, ln_76, ak_77, ln_77, ak_78, ln_78, ak_79, ln_79, ak_80, ln_80, ak_81, ln_81, ak_82, ln_82, ak_83, ln_83, ak_84, ln_84, ak_85, ln_85, ak_86, ln_86, ak_87, ln_87, ak_88, ln_88, ak_89, ln_89, ak_90, ln_90, ak_91, ln_91, ak_92, ln_92, ak_93, ln_93, ak_94, ln_94, ak_95, ln_95, ak_96, ln_96, ak_97, ln_97, ak_98, ln_98, ak_99, ln_99, ak_100, ln_100, ak_101, ln_101, ak_102, ln_102, ak_103, ln_103, ak_104, ln_104, ak_105, ln_105, ak_106, ln_106, ak_107, ln_107, ak_108, ln_108, ak_109, ln_109, ak_110, ln_110, ak_111, ln_111, ak_112, ln_112, ak_113, ln_113, ak_114, ln_114, ak_115, ln_115, ak_116, ln_116, ak_117, ln_117, ak_118, ln_118, ak_119, ln_119, ak_120, ln_120, ak_121, ln_121, ak_122, ln_122, ak_123, ln_123, ak_124, ln_124, ak_125, ln_125, ak_126, ln_126, ak_127, ln_127, ak_128, ln_128, ak_129, ln_129, ak_130, ln_130, ak_131, ln_131, ak_132, ln_132, ak_133, ln_133, ak_134, ln_134, ak_135, ln_135, ak_138, ln_138, ab_138, ak_139, ln_139, ak_140, ln_140, ak_141, ln_141, ak_142, ln_142, ak_143, ln_143, ak_145, ln_145, ak_146, ln_146, ak_148, ln_148, ak_150, ln_150, ak_1000, ln_1000, ak_1001, ln_1001, ak_1002, ln_1002, ak_1003, ln_1003, ak_1004, ln_1004]
    exact ih
end SI
def w0 : Nat → Nat → Nat := fun t c => if t = 0 then (if c < 49 then 5 else 0) else if t = 9 then (if c = 3 then 1 else if c = 5 then 48 else 0) else 0
def z0 : ZS := zmk w0 0 (fun _ => 0) (fun _ => 0, fun _ => 0) (fun _ => false, fun _ => 0, fun _ => 0, fun _ _ => 0) (fun _ _ => 0) false false
theorem w0_ok : wok w0 := by
  intro t c
  unfold w0
  by_cases h0 : t = 0
  · subst h0
    rw [if_pos rfl]
    show _ ≤ 20
    split <;> decide
  · rw [if_neg h0]
    by_cases h9 : t = 9
    · subst h9
      rw [if_pos rfl]
      by_cases h3 : c = 3
      · subst h3
        decide
      · rw [if_neg h3]
        by_cases h5 : c = 5
        · subst h5
          decide
        · rw [if_neg h5]
          exact Nat.zero_le _
    · rw [if_neg h9]
      exact Nat.zero_le _
def av0 (xs : Nat → Int32) : Nat → Nat → Int32 := fun i j => if i = 1004 then xs j else if 1000 ≤ i then lt_st (i - 1000) j else 0
theorem z0_4 (xs : Nat → Int32) : ini (avS (av0 xs)) 4 = nf (w0 0) := by
  funext j
  show (if j < 49 then nI 5 else 0) = nI (if j < 49 then 5 else 0)
  split <;> rfl
theorem z0_ok (xs : Nat → Int32) : cpl xs z0 ivS (ini (avS (av0 xs))) := by
  refine ⟨⟨w0_ok, ⟨Nat.zero_le _, fun _ => Nat.zero_le _⟩, fun _ => ⟨Nat.zero_le _, Nat.zero_le _⟩, (fun h => nomatch h), fun _ => Nat.zero_le _, fun _ => Nat.zero_le _⟩, ⟨⟨⟨rfl, rfl, rfl, rfl⟩, rfl⟩, ⟨⟨z0_4 xs, rfl, rfl, rfl, rfl⟩, ⟨rfl, rfl, rfl, rfl⟩, rfl, rfl, rfl, rfl, rfl, rfl⟩, Or.inl rfl, ⟨Or.inl rfl, (fun h => nomatch h)⟩, ⟨⟨rfl, fun i hi => absurd hi (Nat.not_lt_zero i)⟩, rfl, rfl, rfl, fun _ => Nat.zero_le _, fun _ => Nat.zero_le _⟩, ?_, (fun h => nomatch h)⟩, ⟨?_, ⟨fun i hi => absurd hi (Nat.not_lt_zero i), fun i hi => absurd hi (Nat.not_lt_zero i), rfl, rfl⟩, rfl, rfl, rfl, rfl, rfl, rfl⟩, ⟨rfl, fun i hi => absurd hi (Nat.not_lt_zero i)⟩, ?_, rfl, (fun h => nomatch h)⟩
  · intro s hs
    rcases (show s = 0 ∨ s = 1 ∨ s = 2 ∨ s = 3 by omega) with rfl | rfl | rfl | rfl <;> exact ⟨rfl, rfl, rfl, fun _ _ => rfl⟩
  · intro t c ht hc
    show (if 49 * t + c < 49 then nI 5 else 0) = nI (w0 t c)
    by_cases h0 : t = 0
    · subst h0
      rw [if_pos (by omega)]
      show _ = nI (if c < 49 then 5 else 0)
      rw [if_pos hc]
    · rw [if_neg (by omega)]
      unfold w0
      rw [if_neg h0, if_neg (by omega)]
      rfl
  · intro s hs
    rcases (show s = 0 ∨ s = 1 ∨ s = 2 ∨ s = 3 by omega) with rfl | rfl | rfl | rfl <;> exact ⟨rfl, rfl, fun _ _ => rfl⟩
theorem pu_ok : pu_law := by
  intro L xs hL
  obtain ⟨o, ho⟩ := (lw_loop (xs := xs) hL L 0 z0 (by omega) (by omega)).1 ⟨rfl, rfl⟩
  have ho := ho _ _ (z0_ok xs)
  have hso : sx_o o false false := by
    unfold sx_o
    cases o <;> decide
  have main : rn (lt_G o L) mm_Law_law 0 [some (.ref 1004), none, none, none] [] (fun _ _ => 0, av0 xs, 0, 0) PQz := by
    refine (rk_new (ci := 9) (a := 0) (tg := [3, 18, 22, 26, 28, 37, 44, 138, 67, 1, 1]) dq_Law_law_0 (by decide) (lo_inv (by decide)) rfl (by decide)).2 ?_
    refine sq_Law_law_3r.2 ?_
    refine (rk_ini (host := "") (E' := mm_Road_init) (tg := [3, 18, 22, 26, 28, 37, 44, 138, 67, 1, 1]) dq_Law_law_4 (by decide) rfl (by decide) (by decide) rfl (by decide) (by decide) rfl rfl (lo_pos (by decide) (by decide)) mk_Road_0).2 ?_
    refine sq_Law_law_7r.2 ?_
    refine (rk_new (ci := 10) (a := 45) (tg := [48, 0, 49, 50, 0, 0, 0, 51, 0, 52, 0, 53, 54, 0, 55, 56, 0, 0, 0, 57, 58, 59, 60, 61, 1, 62, 63, 64, 65, 66]) dq_Law_law_8 (by decide) (lo_inv (by decide)) rfl (by decide)).2 ?_
    refine sq_Law_law_11r.2 ?_
    refine (rk_ini (host := "") (E' := mm_Model_init) (S' := sx false false ivS (ini (avS (av0 xs)))) (tg := [48, 0, 49, 50, 0, 0, 0, 51, 0, 52, 0, 53, 54, 0, 55, 56, 0, 0, 0, 57, 58, 59, 60, 61, 1, 62, 63, 64, 65, 66]) dq_Law_law_12 (by decide) rfl (by decide) (by decide) rfl (by decide) (by decide) rfl rfl (lo_pos (by decide) (by decide)) ?_).2 ?_
    · refine ev_of ?_
      show rn _ _ 0 [some (.ref 45), none] [] _ _
      refine mk_Model_45 ?_
      have heq : (ivS, avS (av0 xs), 65, 5707) = sx false false ivS (avS (av0 xs)) := sx_raw (fun i k h => ivS_w h) rfl rfl
      have := t_init (L := L) (I := ivS) (A := avS (av0 xs)) (Q := fun a b => a = none ∧ b = sx false false ivS (ini (avS (av0 xs)))) hso ⟨rfl, rfl⟩
      rw [← heq] at this
      exact this
    · refine sq_Law_law_15r.2 ?_
      refine sq_Law_law_16.2 ?_
      refine sq_Law_law_17r.2 ?_
      exact ho
  obtain ⟨n, v, S', h1, h2, h3, h4⟩ := main
  subst h2
  exact ⟨o, n, S', h1, h3, h4⟩
