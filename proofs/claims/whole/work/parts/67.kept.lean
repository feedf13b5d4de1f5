/-! image and restore of the class, where the kept world stands. -/
section KE
variable {o pl : Bool} {L : Nat} {I A : Nat → Nat → Int32} {w k : Nat → Nat → Nat}
theorem wA_1 : (∀ a, (a < 136 ∨ 150 < a) → wA 139 4 145 10 148 13 150 15 A a = A a) ∧ (∀ t, t < 5 → wA 139 4 145 10 148 13 150 15 A (139 + t) = cpy 49 (A (4 + t)) (A (139 + t))) ∧ wA 139 4 145 10 148 13 150 15 A 145 = cpy 6 (A 10) (A 145) ∧ wA 139 4 145 10 148 13 150 15 A 146 = cpy 6 (A 11) (A 146) ∧ wA 139 4 145 10 148 13 150 15 A 148 = cpy 60 (A 13) (A 148) ∧ wA 139 4 145 10 148 13 150 15 A 150 = cpy 41 (A 15) (A 150) := by
  unfold wA
  refine ⟨fun a ha => ?_, fun t ht => ?_, ?_, ?_, ?_, ?_⟩
  · rw [u1_ne (by omega), u1_ne (by omega), u1_ne (by omega), u1_ne (by omega), gcp_ne (by omega)]
  · rw [u1_ne (by omega), u1_ne (by omega), u1_ne (by omega), u1_ne (by omega), gcp_at ht]
  · rw [u1_ne (by decide), u1_ne (by decide), u1_ne (by decide), u1_eq]
  · rw [u1_ne (by decide), u1_ne (by decide)]
    exact u1_eq
  · rw [u1_ne (by decide), u1_eq]
  · rw [u1_eq]
theorem wA_2 : (∀ a, (a < 4 ∨ 15 < a) → wA 4 139 10 145 13 148 15 150 A a = A a) ∧ (∀ t, t < 5 → wA 4 139 10 145 13 148 15 150 A (4 + t) = cpy 49 (A (139 + t)) (A (4 + t))) ∧ wA 4 139 10 145 13 148 15 150 A 10 = cpy 6 (A 145) (A 10) ∧ wA 4 139 10 145 13 148 15 150 A 11 = cpy 6 (A 146) (A 11) ∧ wA 4 139 10 145 13 148 15 150 A 13 = cpy 60 (A 148) (A 13) ∧ wA 4 139 10 145 13 148 15 150 A 15 = cpy 41 (A 150) (A 15) := by
  unfold wA
  refine ⟨fun a ha => ?_, fun t ht => ?_, ?_, ?_, ?_, ?_⟩
  · rw [u1_ne (by omega), u1_ne (by omega), u1_ne (by omega), u1_ne (by omega), gcp_ne (by omega)]
  · rw [u1_ne (by omega), u1_ne (by omega), u1_ne (by omega), u1_ne (by omega), gcp_at ht]
  · rw [u1_ne (by decide), u1_ne (by decide), u1_ne (by decide), u1_eq]
  · rw [u1_ne (by decide), u1_ne (by decide)]
    exact u1_eq
  · rw [u1_ne (by decide), u1_eq]
  · rw [u1_eq]
theorem cpy_at {n j : Nat} {f g : Nat → Int32} (h : j < n) : cpy n f g j = f j := if_pos h
/-- what image does to the class -/
def imo (w : Nat → Nat → Nat) (I A I' A' : Nat → Nat → Int32) : Prop := cw w I' A' ∧ wk w I' A' ∧ kC w I' A' ∧ (∀ a, a < 136 → A' a = A a ∧ I' a = I a) ∧ ∀ a, 150 < a → A' a = A a
theorem c_image18 (ho : sx_o o pl true) (hc : cw w I A) (hk : wk w I A) : ∃ I' A', imo w I A I' A' ∧ ∀ Q : Option Value → ks_S → Prop, Q (some (.int (nI 1))) (sx pl true I' A') → rn (lt_G o L) mm_Road_image 18 [some (.ref 0)] [] (sx pl true I A) Q := by
  obtain ⟨f1, f2, f3, f4, f5, f6⟩ := wA_1 (A := A)
  obtain ⟨⟨a4, a5, a6, a7, a8⟩, ⟨a10, a11, a13, a15⟩, i0, i1, i2, i3, i4, i5⟩ := id hc
  refine ⟨u2 (u2 (u2 (u2 (u2 (u2 I 137 1 (I 2 1)) 144 2 (I 9 2)) 147 1 (I 12 1)) 149 1 (I 14 1)) 136 4 (I 1 4)) 136 5 (I 1 5), wA 139 4 145 10 148 13 150 15 A, ⟨?_, ?_, ⟨⟨fun t c ht h9 => ?_, fun i hi => ?_, fun i hi => ?_, fun i hi => ?_, fun i hi => ?_⟩, ?_, ?_, ?_, ?_, ?_, ?_⟩, fun a ha => ⟨f1 a (Or.inl ha), ?_⟩, fun a ha => f1 a (Or.inr ha)⟩, fun Q hQ => ?_⟩
  · refine ⟨⟨?_, ?_, ?_, ?_, ?_⟩, ⟨?_, ?_, ?_, ?_⟩, ?_, ?_, ?_, ?_, ?_, ?_⟩
    all_goals first | (rw [f1 _ (by decide)]; assumption) | (simp (config := { decide := true }) only [u2_off]; assumption)
  · exact wsame_wk ⟨rfl, rfl, rfl, rfl⟩ hk (by simp (config := { decide := true }) only [u2_off]) (f1 17 (by decide)) (by simp (config := { decide := true }) only [u2_off])
  · rw [f2 t ht, cpy_at h9]
    rcases (show t = 0 ∨ t = 1 ∨ t = 2 ∨ t = 3 ∨ t = 4 by omega) with rfl | rfl | rfl | rfl | rfl
    · exact congrFun a4 c
    · exact congrFun a5 c
    · exact congrFun a6 c
    · exact congrFun a7 c
    · exact congrFun a8 c
  · rw [f3, cpy_at hi, a10, nf_a]
  · rw [f4, cpy_at hi, a11, nf_a]
  · rw [f5, cpy_at hi, a13, nf_a]
  · rw [f6, cpy_at hi, a15, nf_a]
  · simp (config := { decide := true }) only [u2_off, u2_on]; exact i0
  · simp (config := { decide := true }) only [u2_off, u2_on]; exact i1
  · simp (config := { decide := true }) only [u2_off, u2_on]; exact i2
  · simp (config := { decide := true }) only [u2_off, u2_on]; exact i3
  · simp (config := { decide := true }) only [u2_off, u2_on]; exact i4
  · simp (config := { decide := true }) only [u2_off, u2_on]; exact i5
  · rw [u2_ne (by omega), u2_ne (by omega), u2_ne (by omega), u2_ne (by omega), u2_ne (by omega), u2_ne (by omega)]
  · simp (config := { decide := true }) only [sq_Road_image_0, sq_Road_image_1_0t, sq_Road_image_1_0f, sq_Road_image_4r, sq_Road_image_4n, sq_Road_image_7, sq_Road_image_11i, sq_Road_image_11r, sq_Road_image_12_1, sq_Road_image_12_136, sq_Road_image_18, sq_Road_image_19_0t, sq_Road_image_19_0f, sq_Road_image_22, sq_Road_image_23_0, sq_Road_image_26_1, sq_Road_image_26_136, sq_Road_image_29, sq_Road_image_30, sq_Road_image_26_136 (wcp_136 ho), ho, up_b, true_or, or_true, and_self, and_true, true_and, false_implies, true_implies, not_true_eq_false, not_false_eq_true, ne_eq, u1_ne, u1_eq, Nat.add_zero, Nat.zero_add, Nat.reduceAdd, Nat.reduceMul, Option.toList, List.cons_append, List.nil_append, kx_cat_0, kx_cat_i, kx_cat_r, ak_3, ln_3, ab_3, ak_4, ln_4, ak_5, ln_5, ak_6, ln_6, ak_7, ln_7, ak_8, ln_8, ak_10, ln_10, ak_11, ln_11, ak_13, ln_13, ak_15, ln_15, ak_17, ln_17, ak_18, ln_18, ak_19, ln_19, ak_21, ln_21, ak_22, ln_22, ak_23, ln_23, ak_25, ln_25, ak_27, ln_27, ak_28, ln_28, ak_29, ln_29, ak_30, ln_30, ab_30, ak_31, ln_31, ak_32, ln_32, ak_33, ln_33, ak_34, ln_34, ak_36, ln_36, ab_36, ak_37, ln_37, ak_38, ln_38, ak_39, ln_39, ak_40, ln_40, ak_41, ln_41, ak_43, ln_43, ak_44, ln_44, ak_46, ln_46, ak_47, ln_47, ak_48, ln_48, ak_49, ln_49, ak_50, ln_50, ak_51, ln_51, ak_52, ln_52, ak_53, ln_53, ak_54, ln_54, ak_55, ln_55, ak_56, ln_56, ak_57, ln_57, ak_58, ln_58, ak_59, ln_59, ak_60, ln_60, ak_61, ln_61, ak_62, ln_62, ak_63, ln_63, ak_64, ln_64, ak_66, ln_66, ak_67, ln_67, ak_68, ln_68, ab_68, ak_69, ln_69, ak_70, ln_70, ak_71, ln_71, ak_72, ln_72, ak_73, ln_73, ak_74, ln_74, ak_75, ln_75, ak_76, ln_76, ak_77, ln_77, ak_78, ln_78, ak_79, ln_79, ak_80, ln_80, ak_81, ln_81, ak_82, ln_82, ak_83, ln_83, ak_84, ln_84, ak_85, ln_85, ak_86, ln_86, ak_87, ln_87, ak_88, ln_88, ak_89, ln_89, ak_90, ln_90, ak_91, ln_91, ak_92, ln_92, ak_93, ln_93, ak_94, ln_94, ak_95, ln_95, ak_96, ln_96, ak_97, ln_97, ak_98, ln_98, ak_99, ln_99, ak_100, ln_100, ak_101, ln_101, ak_102, ln_102, ak_103, ln_103, ak_104, ln_104, ak_105, ln_105, ak_106, ln_106, ak_107, ln_107, ak_108, ln_108, ak_109, ln_109, ak_110, ln_110, ak_111, ln_111, ak_112, ln_112, ak_113, ln_113, ak_114, ln_114, ak_115, ln_115, ak_116, ln_116, ak_117, ln_117, ak_118, ln_118, ak_119, ln_119, ak_120, ln_120, ak_121, ln_121, ak_122, ln_122, ak_123, ln_123, ak_124, ln_124, ak_125, ln_125, ak_126, ln_126, ak_127, ln_127, ak_128, ln_128, ak_129, ln_129, ak_130, ln_130, ak_131, ln_131, ak_132, ln_132, ak_133, ln_133, ak_134, ln_134, ak_135, ln_135, ak_138, ln_138, ab_138, ak_139, ln_139, ak_140, ln_140, ak_141, ln_141, ak_142, ln_142, ak_143, ln_143, ak_145, ln_145, ak_146, ln_146, ak_148, ln_148, ak_150, ln_150, ak_1000, ln_1000, ak_1001, ln_1001, ak_1002, ln_1002, ak_1003, ln_1003, ak_1004, ln_1004]
    exact hQ
theorem c_image1 (ho : sx_o o pl true) (hc : cw w I A) (hk : wk w I A) : ∃ I' A', ev (lt_G o L) mm_Road_image [.ref 0] (sx pl true I A) (some (.int (nI 1))) (sx pl true I' A') ∧ imo w I A I' A' := by
  obtain ⟨I', A', h1, h2⟩ := c_image18 (L := L) ho hc hk
  refine ⟨I', A', ev_of ?_, h1⟩
  show rn _ _ 0 [some (.ref 0)] [] _ _
  simp (config := { decide := true }) only [sq_Road_image_0, sq_Road_image_1_0t, sq_Road_image_1_0f, sq_Road_image_4r, sq_Road_image_4n, sq_Road_image_7, sq_Road_image_11i, sq_Road_image_11r, sq_Road_image_12_1, sq_Road_image_12_136, sq_Road_image_19_0t, sq_Road_image_19_0f, sq_Road_image_22, sq_Road_image_23_0, sq_Road_image_26_1, sq_Road_image_26_136, sq_Road_image_29, sq_Road_image_30, ho, up_b, true_or, or_true, and_self, and_true, true_and, false_implies, true_implies, not_true_eq_false, not_false_eq_true, ne_eq, u1_ne, u1_eq, Nat.add_zero, Nat.zero_add, Nat.reduceAdd, Nat.reduceMul, Option.toList, List.cons_append, List.nil_append, kx_cat_0, kx_cat_i, kx_cat_r, ak_3, ln_3, ab_3, ak_4, ln_4, ak_5, ln_5, ak_6, ln_6, ak_7, ln_7, ak_8, ln_8, ak_10, ln_10, ak_11, ln_11, ak_13, ln_13, ak_15, ln_15, ak_17, ln_17, ak_18, ln_18, ak_19, ln_19, ak_21, ln_21, ak_22, ln_22, ak_23, ln_23, ak_25, ln_25, ak_27, ln_27, ak_28, ln_28, ak_29, ln_29, ak_30, ln_30, ab_30, ak_31, ln_31, ak_32, ln_32, ak_33, ln_33, ak_34, ln_34, ak_36, ln_36, ab_36, ak_37, ln_37, ak_38, ln_38, ak_39, ln_39, ak_40, ln_40, ak_41, ln_41, ak_43, ln_43, ak_44, ln_44, ak_46, ln_46, ak_47, ln_47, ak_48, ln_48, ak_49, ln_49, ak_50, ln_50, ak_51, ln_51, ak_52, ln_52, ak_53, ln_53, ak_54, ln_54, ak_55, ln_55, ak_56, ln_56, ak_57, ln_57, ak_58, ln_58, ak_59, ln_59, ak_60, ln_60, ak_61, ln_61, ak_62, ln_62, ak_63, ln_63, ak_64, ln_64, ak_66, ln_66, ak_67, ln_67, ak_68, ln_68, ab_68, ak_69, ln_69, ak_70, ln_70, ak_71, ln_71, ak_72, ln_72, ak_73, ln_73, ak_74, ln_74, ak_75, ln_75, ak_76, ln_76, ak_77, ln_77, ak_78, ln_78, ak_79, ln_79, ak_80, ln_80, ak_81, ln_81, ak_82, ln_82, ak_83, ln_83, ak_84, ln_84, ak_85, ln_85, ak_86, ln_86, ak_87, ln_87, ak_88, ln_88, ak_89, ln_89, ak_90, ln_90, ak_91, ln_91, ak_92, ln_92, ak_93, ln_93, ak_94, ln_94, ak_95, ln_95, ak_96, ln_96, ak_97, ln_97, ak_98, ln_98, ak_99, ln_99, ak_100, ln_100, ak_101, ln_101, ak_102, ln_102, ak_103, ln_103, ak_104, ln_104, ak_105, ln_105, ak_106, ln_106, ak_107, ln_107, ak_108, ln_108, ak_109, ln_109, ak_110, ln_110, ak_111, ln_111, ak_112, ln_112, ak_113, ln_113, ak_114, ln_114, ak_115, ln_115, ak_116, ln_116, ak_117, ln_117, ak_118, ln_118, ak_119, ln_119, ak_120, ln_120, ak_121, ln_121, ak_122, ln_122, ak_123, ln_123, ak_124, ln_124, ak_125, ln_125, ak_126, ln_126, ak_127, ln_127, ak_128, ln_128, ak_129, ln_129, ak_130, ln_130, ak_131, ln_131, ak_132, ln_132, ak_133, ln_133, ak_134, ln_134, ak_135, ln_135, ak_138, ln_138, ab_138, ak_139, ln_139, ak_140, ln_140, ak_141, ln_141, ak_142, ln_142, ak_143, ln_143, ak_145, ln_145, ak_146, ln_146, ak_148, ln_148, ak_150, ln_150, ak_1000, ln_1000, ak_1001, ln_1001, ak_1002, ln_1002, ak_1003, ln_1003, ak_1004, ln_1004]
  exact h2 _ ⟨rfl, rfl⟩
theorem c_restore0 (ho : sx_o o pl false) : ev (lt_G o L) mm_Road_restore [.ref 0] (sx pl false I A) (some (.int (-4))) (sx pl false I A) := by
  refine ev_of ?_
  show rn _ _ 0 [some (.ref 0)] [] _ _
  simp (config := { decide := true }) only [sq_Road_restore_0, sq_Road_restore_1_0t, sq_Road_restore_1_0f, sq_Road_restore_4r, sq_Road_restore_4n, sq_Road_restore_7, sq_Road_restore_9, sq_Road_restore_10, sq_Road_restore_11_0, sq_Road_restore_14, sq_Road_restore_15_0t, sq_Road_restore_15_0f, sq_Road_restore_18_1, sq_Road_restore_18_136, sq_Road_restore_21, sq_Road_restore_22_0, sq_Road_restore_25, sq_Road_restore_26, ho, up_b, true_or, or_true, and_self, and_true, true_and, false_implies, true_implies, not_true_eq_false, not_false_eq_true, ne_eq, u1_ne, u1_eq, Nat.add_zero, Nat.zero_add, Nat.reduceAdd, Nat.reduceMul, Option.toList, List.cons_append, List.nil_append, kx_cat_0, kx_cat_i, kx_cat_r, ak_3, ln_3, ab_3, ak_4, ln_4, ak_5, ln_5, ak_6, ln_6, ak_7, ln_7, ak_8, ln_8, ak_10, ln_10, ak_11, ln_11, ak_13, ln_13, ak_15, ln_15, ak_17, ln_17, ak_18, ln_18, ak_19, ln_19, ak_21, ln_21, ak_22, ln_22, ak_23, ln_23, ak_25, ln_25, ak_27, ln_27, ak_28, ln_28, ak_29, ln_29, ak_30, ln_30, ab_30, ak_31, ln_31, ak_32, ln_32, ak_33, ln_33, ak_34, ln_34, ak_36, ln_36, ab_36, ak_37, ln_37, ak_38, ln_38, ak_39, ln_39, ak_40, ln_40, ak_41, ln_41, ak_43, ln_43, ak_44, ln_44, ak_46, ln_46, ak_47, ln_47, ak_48, ln_48, ak_49, ln_49, ak_50, ln_50, ak_51, ln_51, ak_52, ln_52, ak_53, ln_53, ak_54, ln_54, ak_55, ln_55, ak_56, ln_56, ak_57, ln_57, ak_58, ln_58, ak_59, ln_59, ak_60, ln_60, ak_61, ln_61, ak_62, ln_62, ak_63, ln_63, ak_64, ln_64, ak_66, ln_66, ak_67, ln_67, ak_68, ln_68, ab_68, ak_69, ln_69, ak_70, ln_70, ak_71, ln_71, ak_72, ln_72, ak_73, ln_73, ak_74, ln_74, ak_75, ln_75, ak_76, ln_76, ak_77, ln_77, ak_78, ln_78, ak_79, ln_79, ak_80, ln_80, ak_81, ln_81, ak_82, ln_82, ak_83, ln_83, ak_84, ln_84, ak_85, ln_85, ak_86, ln_86, ak_87, ln_87, ak_88, ln_88, ak_89, ln_89, ak_90, ln_90, ak_91, ln_91, ak_92, ln_92, ak_93, ln_93, ak_94, ln_94, ak_95, ln_95, ak_96, ln_96, ak_97, ln_97, ak_98, ln_98, ak_99, ln_99, ak_100, ln_100, ak_101, ln_101, ak_102, ln_102, ak_103, ln_103, ak_104, ln_104, ak_105, ln_105, ak_106, ln_106, ak_107, ln_107, ak_108, ln_108, ak_109, ln_109, ak_110, ln_110, ak_111, ln_111, ak_112, ln_112, ak_113, ln_113, ak_114, ln_114, ak_115, ln_115, ak_116, ln_116, ak_117, ln_117, ak_118, ln_118, ak_119, ln_119, ak_120, ln_120, ak_121, ln_121, ak_122, ln_122, ak_123, ln_123, ak_124, ln_124, ak_125, ln_125, ak_126, ln_126, ak_127, ln_127, ak_128, ln_128, ak_129, ln_129, ak_130, ln_130, ak_131, ln_131, ak_132, ln_132, ak_133, ln_133, ak_134, ln_134, ak_135, ln_135, ak_138, ln_138, ab_138, ak_139, ln_139, ak_140, ln_140, ak_141, ln_141, ak_142, ln_142, ak_143, ln_143, ak_145, ln_145, ak_146, ln_146, ak_148, ln_148, ak_150, ln_150, ak_1000, ln_1000, ak_1001, ln_1001, ak_1002, ln_1002, ak_1003, ln_1003, ak_1004, ln_1004]
theorem c_restore1 (ho : sx_o o pl true) (hc : cw w I A) (hK : kC k I A) : ∃ I' A', ev (lt_G o L) mm_Road_restore [.ref 0] (sx pl true I A) (some (.int (nI 1))) (sx pl true I' A') ∧ cw (wrs w k) I' A' ∧ I' 0 9 = nI 0 ∧ I' 0 10 = nI 0 ∧ ∀ a, 16 ≤ a → A' a = A a ∧ I' a = I a := by
  obtain ⟨f1, f2, f3, f4, f5, f6⟩ := wA_2 (A := A)
  obtain ⟨⟨a4, a5, a6, a7, a8⟩, ⟨a10, a11, a13, a15⟩, i0, i1, i2, i3, i4, i5⟩ := id hc
  obtain ⟨⟨k1, k2, k3, k4, k5⟩, c0, c1, c2, c3, c4, c5⟩ := hK
  have row : ∀ t, t < 5 → A (4 + t) = nf (w t) → wA 4 139 10 145 13 148 15 150 A (4 + t) = nf (wrs w k t) := by
    intro t ht ha
    rw [f2 t ht]
    refine cpy_nf (fun c h9 => ?_) ha (fun c h9 => ?_)
    · rw [k1 t c ht h9, wrs_t ht, if_pos h9]
    · rw [wrs_t ht, if_neg (by omega)]
  refine ⟨u2 (u2 (u2 (u2 (u2 (u2 (u2 (u2 I 2 1 (I 137 1)) 9 2 (I 144 2)) 12 1 (I 147 1)) 14 1 (I 149 1)) 1 4 (I 136 4)) 1 5 (I 136 5)) 0 9 (nI 0)) 0 10 (nI 0), wA 4 139 10 145 13 148 15 150 A, ev_of ?_, ⟨⟨row 0 (by decide) a4, row 1 (by decide) a5, row 2 (by decide) a6, row 3 (by decide) a7, row 4 (by decide) a8⟩, ⟨?_, ?_, ?_, ?_⟩, ?_, ?_, ?_, ?_, ?_, ?_⟩, ?_, u2_on, fun a ha => ⟨f1 a (by omega), ?_⟩⟩
  · show rn _ _ 0 [some (.ref 0)] [] _ _
    simp (config := { decide := true }) only [sq_Road_restore_0, sq_Road_restore_1_0t, sq_Road_restore_1_0f, sq_Road_restore_4r, sq_Road_restore_4n, sq_Road_restore_7, sq_Road_restore_9, sq_Road_restore_10, sq_Road_restore_11_0, sq_Road_restore_14, sq_Road_restore_15_0t, sq_Road_restore_15_0f, sq_Road_restore_18_1, sq_Road_restore_18_136, sq_Road_restore_21, sq_Road_restore_22_0, sq_Road_restore_25, sq_Road_restore_26, sq_Road_restore_18_1 (wcp_1 ho), sq_Road_restore_22_0 (t_forget ho), ho, up_b, true_or, or_true, and_self, and_true, true_and, false_implies, true_implies, not_true_eq_false, not_false_eq_true, ne_eq, u1_ne, u1_eq, Nat.add_zero, Nat.zero_add, Nat.reduceAdd, Nat.reduceMul, Option.toList, List.cons_append, List.nil_append, kx_cat_0, kx_cat_i, kx_cat_r, ak_3, ln_3, ab_3, ak_4, ln_4, ak_5, ln_5, ak_6, ln_6, ak_7, ln_7, ak_8, ln_8, ak_10, ln_10, ak_11, ln_11, ak_13, ln_13, ak_15, ln_15, ak_17, ln_17, ak_18, ln_18, ak_19, ln_19, ak_21, ln_21, ak_22, ln_22, ak_23, ln_23, ak_25, ln_25, ak_27, ln_27, ak_28, ln_28, ak_29, ln_29, ak_30, ln_30, ab_30, ak_31, ln_31, ak_32, ln_32, ak_33, ln_33, ak_34, ln_34, ak_36, ln_36, ab_36, ak_37, ln_37, ak_38, ln_38, ak_39, ln_39, ak_40, ln_40, ak_41, ln_41, ak_43, ln_43, ak_44, ln_44, ak_46, ln_46, ak_47, ln_47, ak_48, ln_48, ak_49, ln_49, ak_50, ln_50, ak_51, ln_51, ak_52, ln_52, ak_53, ln_53, ak_54, ln_54, ak_55, ln_55, ak_56, ln_56, ak_57, ln_57, ak_58, ln_58, ak_59, ln_59, ak_60, ln_60, ak_61, ln_61, ak_62, ln_62, ak_63, ln_63, ak_64, ln_64, ak_66, ln_66, ak_67, ln_67, ak_68, ln_68, ab_68, ak_69, ln_69, ak_70, ln_70, ak_71, ln_71, ak_72, ln_72, ak_73, ln_73, ak_74, ln_74, ak_75, ln_75, ak_76, ln_76, ak_77, ln_77, ak_78, ln_78, ak_79, ln_79, ak_80, ln_80, ak_81, ln_81, ak_82, ln_82, ak_83, ln_83, ak_84, ln_84, ak_85, ln_85, ak_86, ln_86, ak_87, ln_87, ak_88, ln_88, ak_89, ln_89, ak_90, ln_90, ak_91, ln_91, ak_92, ln_92, ak_93, ln_93, ak_94, ln_94, ak_95, ln_95, ak_96, ln_96, ak_97, ln_97, ak_98, ln_98, ak_99, ln_99, ak_100, ln_100, ak_101, ln_101, ak_102, ln_102, ak_103, ln_103, ak_104, ln_104, ak_105, ln_105, ak_106, ln_106, ak_107, ln_107, ak_108, ln_108, ak_109, ln_109, ak_110, ln_110, ak_111, ln_111, ak_112, ln_112, ak_113, ln_113, ak_114, ln_114, ak_115, ln_115, ak_116, ln_116, ak_117, ln_117, ak_118, ln_118, ak_119, ln_119, ak_120, ln_120, ak_121, ln_121, ak_122, ln_122, ak_123, ln_123, ak_124, ln_124, ak_125, ln_125, ak_126, ln_126, ak_127, ln_127, ak_128, ln_128, ak_129, ln_129, ak_130, ln_130, ak_131, ln_131, ak_132, ln_132, ak_133, ln_133, ak_134, ln_134, ak_135, ln_135, ak_138, ln_138, ab_138, ak_139, ln_139, ak_140, ln_140, ak_141, ln_141, ak_142, ln_142, ak_143, ln_143, ak_145, ln_145, ak_146, ln_146, ak_148, ln_148, ak_150, ln_150, ak_1000, ln_1000, ak_1001, ln_1001, ak_1002, ln_1002, ak_1003, ln_1003, ak_1004, ln_1004]
  · rw [f3]
    exact cpy_nf (fun c h => by rw [k2 c h, wrs_5, if_pos h]) a10 (fun c h => by rw [wrs_5, if_neg (by omega)])
  · rw [f4]
    exact cpy_nf (fun c h => by rw [k3 c h, wrs_6, if_pos h]) a11 (fun c h => by rw [wrs_6, if_neg (by omega)])
  · rw [f5]
    exact cpy_nf (fun c h => by rw [k4 c h, wrs_7, if_pos h]) a13 (fun c h => by rw [wrs_7, if_neg (by omega)])
  · rw [f6]
    exact cpy_nf (fun c h => by rw [k5 c h, wrs_8, if_pos h]) a15 (fun c h => by rw [wrs_8, if_neg (by omega)])
  · simp (config := { decide := true }) only [u2_off, u2_on, wrs_9]; exact c0
  · simp (config := { decide := true }) only [u2_off, u2_on, wrs_9]; exact c1
  · simp (config := { decide := true }) only [u2_off, u2_on, wrs_9]; exact c2
  · simp (config := { decide := true }) only [u2_off, u2_on, wrs_9]; exact c3
  · simp (config := { decide := true }) only [u2_off, u2_on, wrs_9]; exact c4
  · simp (config := { decide := true }) only [u2_off, u2_on, wrs_9]; exact c5
  · rw [u2_off (by decide), u2_on]
  · rw [u2_ne (by omega), u2_ne (by omega), u2_ne (by omega), u2_ne (by omega), u2_ne (by omega), u2_ne (by omega), u2_ne (by omega), u2_ne (by omega)]
end KE
