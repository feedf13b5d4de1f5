/-! The class's plan: the queue, the spreading. -/
theorem row_t : ∀ U, U < 64 → lt_tab[69 + U]? = some (.inr (0, 49, 0)) := by decide
theorem row_ak {L U : Nat} (h : U < 64) : ak L (69 + U) = 0 := by
  unfold ak lt_ly
  rw [if_pos (by omega), row_t U h]
theorem row_ln {L U : Nat} (h : U < 64) : ln L (69 + U) = 49 := by
  unfold ln lt_ly
  rw [if_pos (by omega), row_t U h]
def qh (h : Nat) (Q : List Nat) (I A : Nat → Nat → Int32) : Prop := h < 49 ∧ I 65 6 = nI h ∧ I 65 7 = nI Q.length ∧ (∀ i n, Q[i]? = some n → A 134 ((h + i) % 49) = nI n) ∧ ∀ c, c < 49 → A 135 c = nI (if c ∈ Q then 1 else 0)
def rr (U : Nat) (r : Nat → Nat) (A : Nat → Nat → Int32) : Prop := ∀ c, c < 49 → A (69 + U) c = nI (r c)
def qf (U : Nat) (I A I' A' : Nat → Nat → Int32) : Prop := (∀ a, a ≠ 69 + U → a ≠ 134 → a ≠ 135 → A' a = A a) ∧ ∀ a k, ¬ (a = 65 ∧ (k = 6 ∨ k = 7)) → I' a k = I a k
theorem qf.r {U : Nat} {I A : Nat → Nat → Int32} : qf U I A I A := ⟨fun _ _ _ _ => rfl, fun _ _ _ => rfl⟩
theorem qf.t {U : Nat} {I A I1 A1 I2 A2 : Nat → Nat → Int32} (h : qf U I A I1 A1) (h2 : qf U I1 A1 I2 A2) : qf U I A I2 A2 := ⟨fun a x y z => (h2.1 a x y z).trans (h.1 a x y z), fun a k x => (h2.2 a k x).trans (h.2 a k x)⟩
def qup (Q : List Nat) (c : Nat) : List Nat := if c ∈ Q then Q else Q ++ [c]
theorem qup_ok {Q : List Nat} {c : Nat} (h : qok Q) (hc : c < 49) : qok (qup Q c) := by
  unfold qup
  split
  · exact h
  next q => exact qok_app h hc q
section PL
variable {o kp : Bool} {L : Nat} {I A : Nat → Nat → Int32} {h U : Nat} {Q : List Nat} {c : Nat} {W r : Nat → Nat}
theorem t_queueUp (ho : sx_o o true kp) (hU : U < 64) (hq : qok Q) (hc : c < 49) (hh : qh h Q I A) : ∃ I' A', ev (lt_G o L) mm_Plan_queueUp [.ref 65, .int (nI c)] (sx true kp I A) none (sx true kp I' A') ∧ qh h (qup Q c) I' A' ∧ (∀ a, a ≠ 134 → a ≠ 135 → A' a = A a) ∧ ∀ a k, ¬ (a = 65 ∧ k = 7) → I' a k = I a k := by
  obtain ⟨h9, h6, h7, h134, h135⟩ := id hh
  have e5 := h135 c hc
  by_cases hm : c ∈ Q
  · rw [if_pos hm] at e5
    refine ⟨I, A, ev_of ?_, ?_, fun _ _ _ => rfl, fun _ _ _ => rfl⟩
    · show rn _ _ 0 [some (.ref 65), some (.int (nI c))] [] _ _
      simp (config := { decide := true }) only [sq_Plan_queueUp_0, sq_Plan_queueUp_1_65, sq_Plan_queueUp_4, sq_Plan_queueUp_5, sq_Plan_queueUp_6, sq_Plan_queueUp_9, sq_Plan_queueUp_10_65, sq_Plan_queueUp_13, sq_Plan_queueUp_15, sq_Plan_queueUp_18, sq_Plan_queueUp_19_65, sq_Plan_queueUp_22, sq_Plan_queueUp_23, sq_Plan_queueUp_24, sq_Plan_queueUp_25, sq_Plan_queueUp_26_65, sq_Plan_queueUp_29, sq_Plan_queueUp_30_65, sq_Plan_queueUp_33, sq_Plan_queueUp_34_65, sq_Plan_queueUp_37, sq_Plan_queueUp_38, sq_Plan_queueUp_40, sq_Plan_queueUp_41, sq_Plan_queueUp_42, sq_Plan_queueUp_43, sq_Plan_queueUp_44i, sq_Plan_queueUp_44r, sq_Plan_queueUp_45_65, sq_Plan_queueUp_48, sq_Plan_queueUp_49, sq_Plan_queueUp_50_65, sq_Plan_queueUp_53, up_p, hc, e5, ho, up_b, true_or, or_true, and_self, and_true, true_and, false_implies, true_implies, not_true_eq_false, not_false_eq_true, ne_eq, u1_ne, u1_eq, Nat.add_zero, Nat.zero_add, Nat.reduceAdd, Nat.reduceMul, Option.toList, List.cons_append, List.nil_append, kx_cat_0, kx_cat_i, kx_cat_r, ak_3, ln_3, ab_3, ak_4, ln_4, ak_5, ln_5, ak_6, ln_6, ak_7, ln_7, ak_8, ln_8, ak_10, ln_10, ak_11, ln_11, ak_13, ln_13, ak_15, ln_15, ak_17, ln_17, ak_18, ln_18, ak_19, ln_19, ak_21, ln_21, ak_22, ln_22, ak_23, ln_23, ak_25, ln_25, ak_27, ln_27, ak_28, ln_28, ak_29, ln_29, ak_30, ln_30, ab_30, ak_31, ln_31, ak_32, ln_32, ak_33, ln_33, ak_34, ln_34, ak_36, ln_36, ab_36, ak_37, ln_37, ak_38, ln_38, ak_39, ln_39, ak_40, ln_40, ak_41, ln_41, ak_43, ln_43, ak_44, ln_44, ak_46, ln_46, ak_47, ln_47, ak_48, ln_48, ak_49, ln_49, ak_50, ln_50, ak_51, ln_51, ak_52, ln_52, ak_53, ln_53, ak_54, ln_54, ak_55, ln_55, ak_56, ln_56, ak_57, ln_57, ak_58, ln_58, ak_59, ln_59, ak_60, ln_60, ak_61, ln_61, ak_62, ln_62, ak_63, ln_63, ak_64, ln_64, ak_66, ln_66, ak_67, ln_67, ak_68, ln_68, ab_68, ak_69, ln_69, ak_70, ln_70, ak_71, ln_71, ak_72, ln_72, ak_73, ln_73, ak_74, ln_74, ak_75, ln_75, ak_76, ln_76, ak_77, ln_77, ak_78, ln_78, ak_79, ln_79, ak_80, ln_80, ak_81, ln_81, ak_82, ln_82, ak_83, ln_83, ak_84, ln_84, ak_85, ln_85, ak_86, ln_86, ak_87, ln_87, ak_88, ln_88, ak_89, ln_89, ak_90, ln_90, ak_91, ln_91, ak_92, ln_92, ak_93, ln_93, ak_94, ln_94, ak_95, ln_95, ak_96, ln_96, ak_97, ln_97, ak_98, ln_98, ak_99, ln_99, ak_100, ln_100, ak_101, ln_101, ak_102, ln_102, ak_103, ln_103, ak_104, ln_104, ak_105, ln_105, ak_106, ln_106, ak_107, ln_107, ak_108, ln_108, ak_109, ln_109, ak_110, ln_110, ak_111, ln_111, ak_112, ln_112, ak_113, ln_113, ak_114, ln_114, ak_115, ln_115, ak_116, ln_116, ak_117, ln_117, ak_118, ln_118, ak_119, ln_119, ak_120, ln_120, ak_121, ln_121, ak_122, ln_122, ak_123, ln_123, ak_124, ln_124, ak_125, ln_125, ak_126, ln_126, ak_127, ln_127, ak_128, ln_128, ak_129, ln_129, ak_130, ln_130, ak_131, ln_131, ak_132, ln_132, ak_133, ln_133, ak_134, ln_134, ak_135, ln_135, ak_138, ln_138, ab_138, ak_139, ln_139, ak_140, ln_140, ak_141, ln_141, ak_142, ln_142, ak_143, ln_143, ak_145, ln_145, ak_146, ln_146, ak_148, ln_148, ak_150, ln_150, ak_1000, ln_1000, ak_1001, ln_1001, ak_1002, ln_1002, ak_1003, ln_1003, ak_1004, ln_1004]
    · unfold qup
      rw [if_pos hm]
      exact hh
  · rw [if_neg hm] at e5
    have hl := qok_lt hq hc hm
    have b1 : Q.length < 2 ^ 31 := by omega
    have b2 : ¬ 49 ≤ Q.length := by omega
    have b3 : nI (h + Q.length) - nI (h + Q.length) / nI 49 * nI 49 = nI ((h + Q.length) % 49) := nr (by omega) (by decide) (by decide)
    have b4 : (h + Q.length) % 49 < 49 := Nat.mod_lt _ (by decide)
    have b5 : ¬ nI 49 = 0 := by decide
    refine ⟨u2 I 65 7 (nI (Q.length + 1)), u2 (u2 A 135 c (nI 1)) 134 ((h + Q.length) % 49) (nI c), ev_of ?_, ?_, fun a x y => ?_, fun a k x => u2_off x⟩
    · show rn _ _ 0 [some (.ref 65), some (.int (nI c))] [] _ _
      simp (config := { decide := true }) only [sq_Plan_queueUp_0, sq_Plan_queueUp_1_65, sq_Plan_queueUp_4, sq_Plan_queueUp_5, sq_Plan_queueUp_6, sq_Plan_queueUp_9, sq_Plan_queueUp_10_65, sq_Plan_queueUp_13, sq_Plan_queueUp_15, sq_Plan_queueUp_18, sq_Plan_queueUp_19_65, sq_Plan_queueUp_22, sq_Plan_queueUp_23, sq_Plan_queueUp_24, sq_Plan_queueUp_25, sq_Plan_queueUp_26_65, sq_Plan_queueUp_29, sq_Plan_queueUp_30_65, sq_Plan_queueUp_33, sq_Plan_queueUp_34_65, sq_Plan_queueUp_37, sq_Plan_queueUp_38, sq_Plan_queueUp_40, sq_Plan_queueUp_41, sq_Plan_queueUp_42, sq_Plan_queueUp_43, sq_Plan_queueUp_44i, sq_Plan_queueUp_44r, sq_Plan_queueUp_45_65, sq_Plan_queueUp_48, sq_Plan_queueUp_49, sq_Plan_queueUp_50_65, sq_Plan_queueUp_53, up_p, hc, e5, h6, h7, nI_leI, b1, b2, b3, b4, b5, nI_add, nar_z.1, ho, up_b, true_or, or_true, and_self, and_true, true_and, false_implies, true_implies, not_true_eq_false, not_false_eq_true, ne_eq, u1_ne, u1_eq, Nat.add_zero, Nat.zero_add, Nat.reduceAdd, Nat.reduceMul, Option.toList, List.cons_append, List.nil_append, kx_cat_0, kx_cat_i, kx_cat_r, ak_3, ln_3, ab_3, ak_4, ln_4, ak_5, ln_5, ak_6, ln_6, ak_7, ln_7, ak_8, ln_8, ak_10, ln_10, ak_11, ln_11, ak_13, ln_13, ak_15, ln_15, ak_17, ln_17, ak_18, ln_18, ak_19, ln_19, ak_21, ln_21, ak_22, ln_22, ak_23, ln_23, ak_25, ln_25, ak_27, ln_27, ak_28, ln_28, ak_29, ln_29, ak_30, ln_30, ab_30, ak_31, ln_31, ak_32, ln_32, ak_33, ln_33, ak_34, ln_34, ak_36, ln_36, ab_36, ak_37, ln_37, ak_38, ln_38, ak_39, ln_39, ak_40, ln_40, ak_41, ln_41, ak_43, ln_43, ak_44, ln_44, ak_46, ln_46, ak_47, ln_47, ak_48, ln_48, ak_49, ln_49, ak_50, ln_50, ak_51, ln_51, ak_52, ln_52, ak_53, ln_53, ak_54, ln_54, ak_55, ln_55, ak_56, ln_56, ak_57, ln_57, ak_58, ln_58, ak_59, ln_59, ak_60, ln_60, ak_61, ln_61, ak_62, ln_62, ak_63, ln_63, ak_64, ln_64, ak_66, ln_66, ak_67, ln_67, ak_68, ln_68, ab_68, ak_69, ln_69, ak_70, ln_70, ak_71, ln_71, ak_72, ln_72, ak_73, ln_73, ak_74, ln_74, ak_75, ln_75, ak_76, ln_76, ak_77, ln_77, ak_78, ln_78, ak_79, ln_79, ak_80, ln_80, ak_81, ln_81, ak_82, ln_82, ak_83, ln_83, ak_84, ln_84, ak_85, ln_85, ak_86, ln_86, ak_87, ln_87, ak_88, ln_88, ak_89, ln_89, ak_90, ln_90, ak_91, ln_91, ak_92, ln_92, ak_93, ln_93, ak_94, ln_94, ak_95, ln_95, ak_96, ln_96, ak_97, ln_97, ak_98, ln_98, ak_99, ln_99, ak_100, ln_100, ak_101, ln_101, ak_102, ln_102, ak_103, ln_103, ak_104, ln_104, ak_105, ln_105, ak_106, ln_106, ak_107, ln_107, ak_108, ln_108, ak_109, ln_109, ak_110, ln_110, ak_111, ln_111, ak_112, ln_112, ak_113, ln_113, ak_114, ln_114, ak_115, ln_115, ak_116, ln_116, ak_117, ln_117, ak_118, ln_118, ak_119, ln_119, ak_120, ln_120, ak_121, ln_121, ak_122, ln_122, ak_123, ln_123, ak_124, ln_124, ak_125, ln_125, ak_126, ln_126, ak_127, ln_127, ak_128, ln_128, ak_129, ln_129, ak_130, ln_130, ak_131, ln_131, ak_132, ln_132, ak_133, ln_133, ak_134, ln_134, ak_135, ln_135, ak_138, ln_138, ab_138, ak_139, ln_139, ak_140, ln_140, ak_141, ln_141, ak_142, ln_142, ak_143, ln_143, ak_145, ln_145, ak_146, ln_146, ak_148, ln_148, ak_150, ln_150, ak_1000, ln_1000, ak_1001, ln_1001, ak_1002, ln_1002, ak_1003, ln_1003, ak_1004, ln_1004]
    · unfold qup
      rw [if_neg hm]
      refine ⟨h9, ?_, ?_, fun i n hi => ?_, fun d hd => ?_⟩
      · rw [u2_off (by decide)]
        exact h6
      · rw [u2_on, List.length_append]
        rfl
      · by_cases q : i < Q.length
        · rw [List.getElem?_append_left q] at hi
          rw [u2_off (by omega), u2_ne (by decide)]
          exact h134 i n hi
        · have hi2 := hi
          rw [List.getElem?_append_right (by omega)] at hi
          have e : i = Q.length := by
            have := List.getElem?_eq_some_iff.1 hi2
            obtain ⟨hx, _⟩ := this
            rw [List.length_append] at hx
            simp at hx
            omega
          subst e
          rw [Nat.sub_self] at hi
          have hi : some c = some n := hi
          cases hi
          rw [u2_on]
      · rw [u2_ne (by decide)]
        by_cases q : d = c
        · rw [q, u2_on, if_pos (by simp)]
        · rw [u2_off (fun z => q z.2), h135 d hd]
          congr 1
          by_cases q2 : d ∈ Q
          · rw [if_pos q2, if_pos (by simp [q2])]
          · rw [if_neg q2, if_neg (by simp [q2, q])]
    · rw [u2_ne x, u2_ne y]
theorem t_ease0 {b : Int32} {z : Nat} (ho : sx_o o true kp) : ev (lt_G o L) mm_Plan_ease [.ref 65, .ref z, .int (-1), .int b] (sx true kp I A) none (sx true kp I A) := by
  refine ev_of ?_
  show rn _ _ 0 [some (.ref 65), some (.ref z), some (.int (-1)), some (.int b)] [] _ _
  simp (config := { decide := true }) only [sq_Plan_ease_0, sq_Plan_ease_1, sq_Plan_ease_4, sq_Plan_ease_5, sq_Plan_ease_6_65, sq_Plan_ease_9, sq_Plan_ease_10, sq_Plan_ease_11, sq_Plan_ease_12, sq_Plan_ease_13, sq_Plan_ease_14, sq_Plan_ease_15, sq_Plan_ease_18, sq_Plan_ease_19, sq_Plan_ease_20, sq_Plan_ease_21, sq_Plan_ease_22_65, sq_Plan_ease_25, sq_Plan_ease_26, sq_Plan_ease_27, sq_Plan_ease_28, sq_Plan_ease_29, sq_Plan_ease_30, sq_Plan_ease_31_65, sq_Plan_ease_34, up_p, ho, up_b, true_or, or_true, and_self, and_true, true_and, false_implies, true_implies, not_true_eq_false, not_false_eq_true, ne_eq, u1_ne, u1_eq, Nat.add_zero, Nat.zero_add, Nat.reduceAdd, Nat.reduceMul, Option.toList, List.cons_append, List.nil_append, kx_cat_0, kx_cat_i, kx_cat_r, ak_3, ln_3, ab_3, ak_4, ln_4, ak_5, ln_5, ak_6, ln_6, ak_7, ln_7, ak_8, ln_8, ak_10, ln_10, ak_11, ln_11, ak_13, ln_13, ak_15, ln_15, ak_17, ln_17, ak_18, ln_18, ak_19, ln_19, ak_21, ln_21, ak_22, ln_22, ak_23, ln_23, ak_25, ln_25, ak_27, ln_27, ak_28, ln_28, ak_29, ln_29, ak_30, ln_30, ab_30, ak_31, ln_31, ak_32, ln_32, ak_33, ln_33, ak_34, ln_34, ak_36, ln_36, ab_36, ak_37, ln_37, ak_38, ln_38, ak_39, ln_39, ak_40, ln_40, ak_41, ln_41, ak_43, ln_43, ak_44, ln_44, ak_46, ln_46, ak_47, ln_47, ak_48, ln_48, ak_49, ln_49, ak_50, ln_50, ak_51, ln_51, ak_52, ln_52, ak_53, ln_53, ak_54, ln_54, ak_55, ln_55, ak_56, ln_56, ak_57, ln_57, ak_58, ln_58, ak_59, ln_59, ak_60, ln_60, ak_61, ln_61, ak_62, ln_62, ak_63, ln_63, ak_64, ln_64, ak_66, ln_66, ak_67, ln_67, ak_68, ln_68, ab_68, ak_69, ln_69, ak_70, ln_70, ak_71, ln_71, ak_72, ln_72, ak_73, ln_73, ak_74, ln_74, ak_75, ln_75, ak_76, ln_76, ak_77, ln_77, ak_78, ln_78, ak_79, ln_79, ak_80, ln_80, ak_81, ln_81, ak_82, ln_82, ak_83, ln_83, ak_84, ln_84, ak_85, ln_85, ak_86, ln_86, ak_87, ln_87, ak_88, ln_88, ak_89, ln_89, ak_90, ln_90, ak_91, ln_91, ak_92, ln_92, ak_93, ln_93, ak_94, ln_94, ak_95, ln_95, ak_96, ln_96, ak_97, ln_97, ak_98, ln_98, ak_99, ln_99, ak_100, ln_100, ak_101, ln_101, ak_102, ln_102, ak_103, ln_103, ak_104, ln_104, ak_105, ln_105, ak_106, ln_106, ak_107, ln_107, ak_108, ln_108, ak_109, ln_109, ak_110, ln_110, ak_111, ln_111, ak_112, ln_112, ak_113, ln_113, ak_114, ln_114, ak_115, ln_115, ak_116, ln_116, ak_117, ln_117, ak_118, ln_118, ak_119, ln_119, ak_120, ln_120, ak_121, ln_121, ak_122, ln_122, ak_123, ln_123, ak_124, ln_124, ak_125, ln_125, ak_126, ln_126, ak_127, ln_127, ak_128, ln_128, ak_129, ln_129, ak_130, ln_130, ak_131, ln_131, ak_132, ln_132, ak_133, ln_133, ak_134, ln_134, ak_135, ln_135, ak_138, ln_138, ab_138, ak_139, ln_139, ak_140, ln_140, ak_141, ln_141, ak_142, ln_142, ak_143, ln_143, ak_145, ln_145, ak_146, ln_146, ak_148, ln_148, ak_150, ln_150, ak_1000, ln_1000, ak_1001, ln_1001, ak_1002, ln_1002, ak_1003, ln_1003, ak_1004, ln_1004]
theorem t_ease1 {b : Nat} (ho : sx_o o true kp) (hU : U < 64) (hq : qok Q) (hc : c < 49) (hh : qh h Q I A) (hr : rr U r A) (hW : A 66 c = nI (W c)) (b1 : b + W c < 2 ^ 31) (b2 : r c < 2 ^ 31) : ∃ I' A', ev (lt_G o L) mm_Plan_ease [.ref 65, .ref (69 + U), .int (nI c), .int (nI b)] (sx true kp I A) none (sx true kp I' A') ∧ qh h (ez W (r, Q) c b).2 I' A' ∧ rr U (ez W (r, Q) c b).1 A' ∧ qf U I A I' A' := by
  have k1 := row_ak (L := L) hU
  have k2 := row_ln (L := L) hU
  have k3 : sx_up true kp (69 + U) = true := up_p (by omega)
  have er := hr c hc
  have n1 : ¬ nI c < 0 := nI_pos (by omega)
  by_cases hlt : b + W c < r c
  · have b3 : ¬ r c ≤ b + W c := by omega
    have hh1 : qh h Q I (u2 A (69 + U) c (nI (b + W c))) := by
      obtain ⟨h9, h6, h7, h134, h135⟩ := hh
      refine ⟨h9, h6, h7, fun i n hi => ?_, fun d hd => ?_⟩
      · rw [u2_ne (by omega)]
        exact h134 i n hi
      · rw [u2_ne (by omega)]
        exact h135 d hd
    obtain ⟨I', A', e1, e2, e3, e4⟩ := t_queueUp (L := L) ho hU hq hc hh1
    have ex : ez W (r, Q) c b = (un r c (b + W c), qup Q c) := if_pos hlt
    rw [ex]
    refine ⟨I', A', ev_of ?_, e2, fun d hd => ?_, fun a x y z => ?_, fun a k x => e4 a k (by omega)⟩
    · show rn _ _ 0 [some (.ref 65), some (.ref (69 + U)), some (.int (nI c)), some (.int (nI b))] [] _ _
      simp (config := { decide := true }) only [sq_Plan_ease_0, sq_Plan_ease_1, sq_Plan_ease_4, sq_Plan_ease_5, sq_Plan_ease_6_65, sq_Plan_ease_9, sq_Plan_ease_10, sq_Plan_ease_11, sq_Plan_ease_12, sq_Plan_ease_13, sq_Plan_ease_14, sq_Plan_ease_15, sq_Plan_ease_18, sq_Plan_ease_19, sq_Plan_ease_20, sq_Plan_ease_21, sq_Plan_ease_22_65, sq_Plan_ease_25, sq_Plan_ease_26, sq_Plan_ease_27, sq_Plan_ease_28, sq_Plan_ease_29, sq_Plan_ease_30, sq_Plan_ease_31_65, sq_Plan_ease_34, up_p, n1, hW, er, nI_leI, b1, b2, b3, k1, k2, k3, hc, nI_add, sq_Plan_ease_31_65 e1, ho, up_b, true_or, or_true, and_self, and_true, true_and, false_implies, true_implies, not_true_eq_false, not_false_eq_true, ne_eq, u1_ne, u1_eq, Nat.add_zero, Nat.zero_add, Nat.reduceAdd, Nat.reduceMul, Option.toList, List.cons_append, List.nil_append, kx_cat_0, kx_cat_i, kx_cat_r, ak_3, ln_3, ab_3, ak_4, ln_4, ak_5, ln_5, ak_6, ln_6, ak_7, ln_7, ak_8, ln_8, ak_10, ln_10, ak_11, ln_11, ak_13, ln_13, ak_15, ln_15, ak_17, ln_17, ak_18, ln_18, ak_19, ln_19, ak_21, ln_21, ak_22, ln_22, ak_23, ln_23, ak_25, ln_25, ak_27, ln_27, ak_28, ln_28, ak_29, ln_29, ak_30, ln_30, ab_30, ak_31, ln_31, ak_32, ln_32, ak_33, ln_33, ak_34, ln_34, ak_36, ln_36, ab_36, ak_37, ln_37, ak_38, ln_38, ak_39, ln_39, ak_40, ln_40, ak_41, ln_41, ak_43, ln_43, ak_44, ln_44, ak_46, ln_46, ak_47, ln_47, ak_48, ln_48, ak_49, ln_49, ak_50, ln_50, ak_51, ln_51, ak_52, ln_52, ak_53, ln_53, ak_54, ln_54, ak_55, ln_55, ak_56, ln_56, ak_57, ln_57, ak_58, ln_58, ak_59, ln_59, ak_60, ln_60, ak_61, ln_61, ak_62, ln_62, ak_63, ln_63, ak_64, ln_64, ak_66, ln_66, ak_67, ln_67, ak_68, ln_68, ab_68, ak_69, ln_69, ak_70, ln_70, ak_71, ln_71, ak_72, ln_72, ak_73, ln_73, ak_74, ln_74, ak_75, ln_75, ak_76, ln_76, ak_77, ln_77, ak_78, ln_78, ak_79, ln_79, ak_80, ln_80, ak_81, ln_81, ak_82, ln_82, ak_83, ln_83, ak_84, ln_84, ak_85, ln_85, ak_86, ln_86, ak_87, ln_87, ak_88, ln_88, ak_89, ln_89, ak_90, ln_90, ak_91, ln_91, ak_92, ln_92, ak_93, ln_93, ak_94, ln_94, ak_95, ln_95, ak_96, ln_96, ak_97, ln_97, ak_98, ln_98, ak_99, ln_99, ak_100, ln_100, ak_101, ln_101, ak_102, ln_102, ak_103, ln_103, ak_104, ln_104, ak_105, ln_105, ak_106, ln_106, ak_107, ln_107, ak_108, ln_108, ak_109, ln_109, ak_110, ln_110, ak_111, ln_111, ak_112, ln_112, ak_113, ln_113, ak_114, ln_114, ak_115, ln_115, ak_116, ln_116, ak_117, ln_117, ak_118, ln_118, ak_119, ln_119, ak_120, ln_120, ak_121, ln_121, ak_122, ln_122, ak_123, ln_123, ak_124, ln_124, ak_125, ln_125, ak_126, ln_126, ak_127, ln_127, ak_128, ln_128, ak_129, ln_129, ak_130, ln_130, ak_131, ln_131, ak_132, ln_132, ak_133, ln_133, ak_134, ln_134, ak_135, ln_135, ak_138, ln_138, ab_138, ak_139, ln_139, ak_140, ln_140, ak_141, ln_141, ak_142, ln_142, ak_143, ln_143, ak_145, ln_145, ak_146, ln_146, ak_148, ln_148, ak_150, ln_150, ak_1000, ln_1000, ak_1001, ln_1001, ak_1002, ln_1002, ak_1003, ln_1003, ak_1004, ln_1004]
    · rw [e3 _ (by omega) (by omega)]
      show _ = nI (un r c (b + W c) d)
      unfold un
      by_cases q : d = c
      · rw [q, u2_on, if_pos rfl]
      · rw [u2_off (fun z => q z.2), if_neg q]
        exact hr d hd
    · rw [e3 a y z, u2_ne x]
  · have b3 : r c ≤ b + W c := by omega
    have ex : ez W (r, Q) c b = (r, Q) := if_neg hlt
    rw [ex]
    refine ⟨I, A, ev_of ?_, hh, hr, qf.r⟩
    show rn _ _ 0 [some (.ref 65), some (.ref (69 + U)), some (.int (nI c)), some (.int (nI b))] [] _ _
    simp (config := { decide := true }) only [sq_Plan_ease_0, sq_Plan_ease_1, sq_Plan_ease_4, sq_Plan_ease_5, sq_Plan_ease_6_65, sq_Plan_ease_9, sq_Plan_ease_10, sq_Plan_ease_11, sq_Plan_ease_12, sq_Plan_ease_13, sq_Plan_ease_14, sq_Plan_ease_15, sq_Plan_ease_18, sq_Plan_ease_19, sq_Plan_ease_20, sq_Plan_ease_21, sq_Plan_ease_22_65, sq_Plan_ease_25, sq_Plan_ease_26, sq_Plan_ease_27, sq_Plan_ease_28, sq_Plan_ease_29, sq_Plan_ease_30, sq_Plan_ease_31_65, sq_Plan_ease_34, up_p, n1, hW, er, nI_leI, b1, b2, b3, k1, k2, k3, hc, nI_add, ho, up_b, true_or, or_true, and_self, and_true, true_and, false_implies, true_implies, not_true_eq_false, not_false_eq_true, ne_eq, u1_ne, u1_eq, Nat.add_zero, Nat.zero_add, Nat.reduceAdd, Nat.reduceMul, Option.toList, List.cons_append, List.nil_append, kx_cat_0, kx_cat_i, kx_cat_r, ak_3, ln_3, ab_3, ak_4, ln_4, ak_5, ln_5, ak_6, ln_6, ak_7, ln_7, ak_8, ln_8, ak_10, ln_10, ak_11, ln_11, ak_13, ln_13, ak_15, ln_15, ak_17, ln_17, ak_18, ln_18, ak_19, ln_19, ak_21, ln_21, ak_22, ln_22, ak_23, ln_23, ak_25, ln_25, ak_27, ln_27, ak_28, ln_28, ak_29, ln_29, ak_30, ln_30, ab_30, ak_31, ln_31, ak_32, ln_32, ak_33, ln_33, ak_34, ln_34, ak_36, ln_36, ab_36, ak_37, ln_37, ak_38, ln_38, ak_39, ln_39, ak_40, ln_40, ak_41, ln_41, ak_43, ln_43, ak_44, ln_44, ak_46, ln_46, ak_47, ln_47, ak_48, ln_48, ak_49, ln_49, ak_50, ln_50, ak_51, ln_51, ak_52, ln_52, ak_53, ln_53, ak_54, ln_54, ak_55, ln_55, ak_56, ln_56, ak_57, ln_57, ak_58, ln_58, ak_59, ln_59, ak_60, ln_60, ak_61, ln_61, ak_62, ln_62, ak_63, ln_63, ak_64, ln_64, ak_66, ln_66, ak_67, ln_67, ak_68, ln_68, ab_68, ak_69, ln_69, ak_70, ln_70, ak_71, ln_71, ak_72, ln_72, ak_73, ln_73, ak_74, ln_74, ak_75, ln_75, ak_76, ln_76, ak_77, ln_77, ak_78, ln_78, ak_79, ln_79, ak_80, ln_80, ak_81, ln_81, ak_82, ln_82, ak_83, ln_83, ak_84, ln_84, ak_85, ln_85, ak_86, ln_86, ak_87, ln_87, ak_88, ln_88, ak_89, ln_89, ak_90, ln_90, ak_91, ln_91, ak_92, ln_92, ak_93, ln_93, ak_94, ln_94, ak_95, ln_95, ak_96, ln_96, ak_97, ln_97, ak_98, ln_98, ak_99, ln_99, ak_100, ln_100, ak_101, ln_101, ak_102, ln_102, ak_103, ln_103, ak_104, ln_104, ak_105, ln_105, ak_106, ln_106, ak_107, ln_107, ak_108, ln_108, ak_109, ln_109, ak_110, ln_110, ak_111, ln_111, ak_112, ln_112, ak_113, ln_113, ak_114, ln_114, ak_115, ln_115, ak_116, ln_116, ak_117, ln_117, ak_118, ln_118, ak_119, ln_119, ak_120, ln_120, ak_121, ln_121, ak_122, ln_122, ak_123, ln_123, ak_124, ln_124, ak_125, ln_125, ak_126, ln_126, ak_127, ln_127, ak_128, ln_128, ak_129, ln_129, ak_130, ln_130, ak_131, ln_131, ak_132, ln_132, ak_133, ln_133, ak_134, ln_134, ak_135, ln_135, ak_138, ln_138, ab_138, ak_139, ln_139, ak_140, ln_140, ak_141, ln_141, ak_142, ln_142, ak_143, ln_143, ak_145, ln_145, ak_146, ln_146, ak_148, ln_148, ak_150, ln_150, ak_1000, ln_1000, ak_1001, ln_1001, ak_1002, ln_1002, ak_1003, ln_1003, ak_1004, ln_1004]
end PL
