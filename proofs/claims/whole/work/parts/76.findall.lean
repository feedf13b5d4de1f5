/-! findAll of a world. -/
section FW
variable {o pl kp : Bool} {L : Nat} {I A : Nat → Nat → Int32} {w : Nat → Nat → Nat}
theorem w_cX (hw : wok w) : cX (w_cost w) (w_sv w) (w 9 5) (2 ^ w 9 1) (w 9 4) (vK (wV w)) := by
  obtain ⟨h1, h2, h3, h4, h5, h6⟩ := w_pg hw
  exact ⟨vK_be h1, h3, fun c => (w_sv_lt hw c).2, fun h c hh => Nat.or_lt_two_pow hh (h4 c), h6⟩
theorem w_cost_far (hw : wok w) {set : Nat} (hs : set < 2 ^ w 9 1) : vK (wV w) set (w 9 4) ≤ 3910 := ((w_pg hw).1.b hs (w_pg hw).2.2.2.2.2).2.2.2
/-- what findAll leaves -/
def mfa (w : Nat → Nat → Nat) (A : Nat → Nat → Int32) : Prop := ∀ set, set < 2 ^ w 9 1 → A 59 set = nI (vK (wV w) set (w 9 4))
theorem t_findAll (ho : sx_o o pl kp) (hw : wok w) (hm : mw w I A) : ∃ I' A', ev (lt_G o L) mm_Model_findAll [.ref 45] (sx pl kp I A) none (sx pl kp I' A') ∧ mfa w A' ∧ mg I A I' A' := by
  obtain ⟨I1, A1, e1, e2, _, e3⟩ := t_findCosts (L := L) ho hw hm
  have hm1 := mg_mw e3 hm
  obtain ⟨_, _, i0, i1, i2, i3, i4, i5⟩ := id hm1
  obtain ⟨⟨l, f⟩, e4, e5, e6, e7⟩ := t_findCome (L := L) ho (w_cX hw) (Nat.two_pow_pos _) e2 i4
  have e4 : ev (lt_G o L) mm_Model_findCome [.ref 45] (sx pl kp I1 A1) none (sx pl kp I1 (u1 A1 58 f)) := e4
  have e5 : mL l f := e5
  have hl : mL l (u1 A1 58 f 58) := by
    rw [u1_eq]
    exact e5
  have key := t_cheapAll (L := L) (A := u1 A1 58 f) ho (w_cX hw) (hw 9 1) (Nat.lt_succ_of_le (hw 9 5)) (fun set hs => by have := w_cost_far hw hs; omega) i1 i5 hl e6 e7 (2 ^ w 9 1) 0 (u1 A1 58 f 59) none none (Nat.zero_add _) (fun s hs => by omega)
  rw [u1_id] at key
  have hx : ∃ f2, ev (lt_G o L) mm_Model_findAll [.ref 45] (sx pl kp I A) none (sx pl kp I1 (u1 (u1 A1 58 f) 59 f2)) ∧ ∀ s, s < 2 ^ w 9 1 → f2 s = nI (vK (wV w) s (w 9 4)) := by
    refine ev_e (st := fun f2 => sx pl kp I1 (u1 (u1 A1 58 f) 59 f2)) ?_
    show rn _ _ 0 [some (.ref 45), none, none, none] [] _ _
    simp (config := { decide := true }) only [sq_Model_findAll_0, sq_Model_findAll_1_45, sq_Model_findAll_4, sq_Model_findAll_5_45, sq_Model_findAll_8, sq_Model_findAll_9n, sq_Model_findAll_9i, sq_Model_findAll_9r, sq_Model_findAll_11, sq_Model_findAll_12, sq_Model_findAll_13_45, sq_Model_findAll_16, sq_Model_findAll_17, sq_Model_findAll_20, sq_Model_findAll_21_45, sq_Model_findAll_24, sq_Model_findAll_25, sq_Model_findAll_27, sq_Model_findAll_28, sq_Model_findAll_29n, sq_Model_findAll_29i, sq_Model_findAll_29r, sq_Model_findAll_31, sq_Model_findAll_32, sq_Model_findAll_33_45, sq_Model_findAll_36, sq_Model_findAll_37, sq_Model_findAll_40, sq_Model_findAll_41, sq_Model_findAll_42, sq_Model_findAll_43, sq_Model_findAll_44, sq_Model_findAll_47, sq_Model_findAll_48_45, sq_Model_findAll_51, sq_Model_findAll_53, sq_Model_findAll_54_45, sq_Model_findAll_57, sq_Model_findAll_58, sq_Model_findAll_59, sq_Model_findAll_60, sq_Model_findAll_61, sq_Model_findAll_64, sq_Model_findAll_66n, sq_Model_findAll_66i, sq_Model_findAll_66r, sq_Model_findAll_67, sq_Model_findAll_68_45, sq_Model_findAll_71, sq_Model_findAll_72, sq_Model_findAll_73, sq_Model_findAll_74_45, sq_Model_findAll_77, sq_Model_findAll_78, sq_Model_findAll_79, sq_Model_findAll_82, sq_Model_findAll_83, sq_Model_findAll_86, sq_Model_findAll_87_45, sq_Model_findAll_90, sq_Model_findAll_91, sq_Model_findAll_92, sq_Model_findAll_93n, sq_Model_findAll_93i, sq_Model_findAll_93r, sq_Model_findAll_96, sq_Model_findAll_99n, sq_Model_findAll_99i, sq_Model_findAll_99r, sq_Model_findAll_102, sq_Model_findAll_105, sq_Model_findAll_1_45 e1, sq_Model_findAll_5_45 e4, ho, up_b, true_or, or_true, and_self, and_true, true_and, false_implies, true_implies, not_true_eq_false, not_false_eq_true, ne_eq, u1_ne, u1_eq, Nat.add_zero, Nat.zero_add, Nat.reduceAdd, Nat.reduceMul, Option.toList, List.cons_append, List.nil_append, kx_cat_0, kx_cat_i, kx_cat_r, ak_3, ln_3, ab_3, ak_4, ln_4, ak_5, ln_5, ak_6, ln_6, ak_7, ln_7, ak_8, ln_8, ak_10, ln_10, ak_11, ln_11, ak_13, ln_13, ak_15, ln_15, ak_17, ln_17, ak_18, ln_18, ak_19, ln_19, ak_21, ln_21, ak_22, ln_22, ak_23, ln_23, ak_25, ln_25, ak_27, ln_27, ak_28, ln_28, ak_29, ln_29, ak_30, ln_30, ab_30, ak_31, ln_31, ak_32, ln_32, ak_33, ln_33, ak_34, ln_34, ak_36, ln_36, ab_36, ak_37, ln_37, ak_38, ln_38, ak_39, ln_39, ak_40, ln_40, ak_41, ln_41, ak_43, ln_43, ak_44, ln_44, ak_46, ln_46, ak_47, ln_47, ak_48, ln_48, ak_49, ln_49, ak_50, ln_50, ak_51, ln_51, ak_52, ln_52, ak_53, ln_53, ak_54, ln_54, ak_55, ln_55, ak_56, ln_56, ak_57, ln_57, ak_58, ln_58, ak_59, ln_59, ak_60, ln_60, ak_61, ln_61, ak_62, ln_62, ak_63, ln_63, ak_64, ln_64, ak_66, ln_66, ak_67, ln_67, ak_68, ln_68, ab_68, ak_69, ln_69, ak_70, ln_70, ak_71, ln_71, ak_72, ln_72, ak_73, ln_73, ak_74, ln_74, ak_75, ln_75, ak_76, ln_76, ak_77, ln_77, ak_78, ln_78, ak_79, ln_79, ak_80, ln_80, ak_81, ln_81, ak_82, ln_82, ak_83, ln_83, ak_84, ln_84, ak_85, ln_85, ak_86, ln_86, ak_87, ln_87, ak_88, ln_88, ak_89, ln_89, ak_90, ln_90, ak_91, ln_91, ak_92, ln_92, ak_93, ln_93, ak_94, ln_94, ak_95, ln_95, ak_96, ln_96, ak_97, ln_97, ak_98, ln_98, ak_99, ln_99, ak_100, ln_100, ak_101, ln_101, ak_102, ln_102, ak_103, ln_103, ak_104, ln_104, ak_105, ln_105, ak_106, ln_106, ak_107, ln_107, ak_108, ln_108, ak_109, ln_109, ak_110, ln_110, ak_111, ln_111, ak_112, ln_112, ak_113, ln_113, ak_114, ln_114, ak_115, ln_115, ak_116, ln_116, ak_117, ln_117, ak_118, ln_118, ak_119, ln_119, ak_120, ln_120, ak_121, ln_121, ak_122, ln_122, ak_123, ln_123, ak_124, ln_124, ak_125, ln_125, ak_126, ln_126, ak_127, ln_127, ak_128, ln_128, ak_129, ln_129, ak_130, ln_130, ak_131, ln_131, ak_132, ln_132, ak_133, ln_133, ak_134, ln_134, ak_135, ln_135, ak_138, ln_138, ab_138, ak_139, ln_139, ak_140, ln_140, ak_141, ln_141, ak_142, ln_142, ak_143, ln_143, ak_145, ln_145, ak_146, ln_146, ak_148, ln_148, ak_150, ln_150, ak_1000, ln_1000, ak_1001, ln_1001, ak_1002, ln_1002, ak_1003, ln_1003, ak_1004, ln_1004]
    exact key
  obtain ⟨f2, q1, q2⟩ := hx
  refine ⟨I1, u1 (u1 A1 58 f) 59 f2, q1, fun set hs => ?_, fun a ha => ?_, e3.2⟩
  · rw [u1_eq]
    exact q2 set hs
  · rw [u1_ne (by omega), u1_ne (by omega)]
    exact e3.1 a ha
end FW
