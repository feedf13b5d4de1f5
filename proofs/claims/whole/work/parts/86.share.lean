/-! What each should pay: share agrees. -/
noncomputable def cs (w : Nat → Nat → Nat) (s : Nat) : Nat := vK (wV w) s (w 9 4)
noncomputable def c0 (w : Nat → Nat → Nat) (s : Nat) : Nat := if s = 0 then 0 else cs w s
noncomputable def tr (w : Nat → Nat → Nat) (oth bit a : Nat) : Nat := if ms a oth = 0 then fc (pp a) * fc (pp oth - pp a) * (cs w (a ||| bit) - c0 w a) else 0
theorem sm_z {f : Nat → Nat} {k : Nat} : ∀ n, k ≤ n → (∀ i, k ≤ i → i < n → f i = 0) → sm f n = sm f k
  | 0, h, _ => by
    have e : k = 0 := by omega
    rw [e]
  | n + 1, h, hz => by
    by_cases e : k = n + 1
    · rw [e]
    · show sm f n + f n = sm f k
      rw [sm_z n (by omega) (fun i a b => hz i a (by omega)), hz n (by omega) (by omega)]
      rfl
theorem sm_mo {f : Nat → Nat} : ∀ {n k : Nat}, k ≤ n → sm f k ≤ sm f n
  | 0, k, h => by
    have e : k = 0 := by omega
    rw [e]
    exact Nat.le_refl _
  | n + 1, k, h => by
    by_cases e : k = n + 1
    · rw [e]
      exact Nat.le_refl _
    · exact Nat.le_trans (sm_mo (n := n) (by omega)) (Nat.le_add_right _ _)
theorem pp_o : ∀ s, s < 64 → ∀ v, v < 6 → s.testBit v = true → pp (ms s (2 ^ v)) + 1 = pp s := by decide +kernel
theorem pp_m : ∀ a, a < 64 → ∀ b, b < 64 → ms a b = 0 → pp a ≤ pp b := by decide +kernel
theorem ms_oth {a set v : Nat} : ms a (ms set (2 ^ v)) = 0 ↔ (ms a set = 0 ∧ a.testBit v = false) := by
  rw [ms_0, ms_0]
  constructor
  · intro h
    refine ⟨fun i hi => ?_, ?_⟩
    · have := h i hi
      rw [ms_tb] at this
      cases hs : set.testBit i
      · rw [hs] at this
        cases this
      · rfl
    · cases hv : a.testBit v
      · rfl
      · have := h v hv
        rw [ms_tb, Nat.testBit_two_pow_self] at this
        simp at this
  · intro ⟨h1, h2⟩ i hi
    rw [ms_tb, h1 i hi, Nat.testBit_two_pow]
    by_cases e : v = i
    · subst e
      rw [hi] at h2
      cases h2
    · simp [e]
section SH
variable {o pl kp : Bool} {L : Nat} {I A : Nat → Nat → Int32} {w : Nat → Nat → Nat} {set v : Nat}
theorem cs_le (hw : wok w) {s : Nat} (hs : s < 2 ^ w 9 1) : cs w s ≤ 3910 := w_cost_far hw hs
theorem c0_le (hw : wok w) {a b : Nat} (ha : a ||| b < 2 ^ w 9 1) : c0 w a ≤ cs w (a ||| b) := by
  unfold c0
  split
  · exact Nat.zero_le _
  · have h := (w_pg hw).1.2.2 (a ||| b) a (w 9 4) ha (w_pg hw).2.2.2.2.2 (ms_0.2 (fun i hi => by rw [Nat.testBit_or, hi, Bool.true_or]))
    exact Nat.div_le_div_right h
theorem tr_le (hw : wok w) (hv : v < w 9 1) (hs : set < 2 ^ w 9 1) (hb : set.testBit v = true) {a : Nat} (ha : a < 2 ^ w 9 1) : tr w (ms set (2 ^ v)) (2 ^ v) a ≤ 469200 := by
  have h6 : w 9 1 ≤ 6 := hw 9 1
  have s64 := w_set64 hw hs
  have a64 := w_set64 hw ha
  unfold tr
  split
  next q =>
    have o64 : ms set (2 ^ v) < 64 := ms_lt _ s64
    have h1 := pp_o set s64 v (by omega) hb
    have h2 := pp_6 set s64
    have h3 := pp_m a a64 _ o64 q
    have h4 := fc_5 (pp (ms set (2 ^ v))) (by omega) (pp a) (by omega) h3
    have hor : a ||| 2 ^ v < 2 ^ w 9 1 := Nat.or_lt_two_pow ha (Nat.pow_lt_pow_right (by decide) hv)
    have h5 := cs_le hw hor
    exact Nat.le_trans (Nat.mul_le_mul h4 (show cs w (a ||| 2 ^ v) - c0 w a ≤ 3910 by omega)) (by decide)
  next => exact Nat.zero_le _
theorem sm_bd {f : Nat → Nat} {m : Nat} : ∀ n, (∀ i, i < n → f i ≤ m) → sm f n ≤ n * m
  | 0, _ => Nat.zero_le _
  | n + 1, h => by
    have h1 := sm_bd n (fun i hi => h i (by omega))
    have h2 := h n (by omega)
    rw [Nat.add_mul, Nat.one_mul]
    exact Nat.add_le_add h1 h2
theorem tr_sum (hw : wok w) (hv : v < w 9 1) (hs : set < 2 ^ w 9 1) (hb : set.testBit v = true) : sm (tr w (ms set (2 ^ v)) (2 ^ v)) (2 ^ w 9 1) ≤ 30028800 := by
  have h64 := (w_pg hw).h64
  exact Nat.le_trans (sm_bd _ (fun i hi => tr_le hw hv hs hb hi)) (Nat.le_trans (Nat.mul_le_mul_right _ h64) (by decide))
/-- the class's sum -/
theorem c_orders (ho : sx_o o true kp) (hw : wok w) (hv : v < w 9 1) (hset : set < 2 ^ w 9 1) (hb : set.testBit v = true) : ∀ r a I1 A1 x9 x10 x11 x12, a + r = ms set (2 ^ v) + 1 → pst w I1 A1 → sts A1 → rn (lt_G o L) mm_Plan_costInAllOrders 24 [some (.ref 65), some (.int (nI set)), some (.int (nI v)), some (.int (nI (2 ^ v))), some (.int (nI (ms set (2 ^ v)))), some (.int (nI (pp (ms set (2 ^ v))))), some (.long (lN (sm (tr w (ms set (2 ^ v)) (2 ^ v)) a))), none, some (.int (nI a)), x9, x10, x11, x12] [] (sx true kp I1 A1) (fun p q => ∃ y : (Nat → Nat → Int32) × (Nat → Nat → Int32), p = some (.long (lN (sm (tr w (ms set (2 ^ v)) (2 ^ v)) (ms set (2 ^ v) + 1)))) ∧ q = sx true kp y.1 y.2 ∧ pst w y.1 y.2 ∧ pf I1 A1 y.1 y.2) := by
  have h6 : w 9 1 ≤ 6 := hw 9 1
  have h64 := (w_pg hw).h64
  have s64 := w_set64 hw hset
  have o64 : ms set (2 ^ v) < 64 := ms_lt _ s64
  have oM : ms set (2 ^ v) < 2 ^ w 9 1 := ms_lt _ hset
  have ppo := pp_o set s64 v (by omega) hb
  have pps := pp_6 set s64
  intro r
  induction r with
  | zero =>
    intro a I1 A1 x9 x10 x11 x12 ha hp hst
    have e : a = ms set (2 ^ v) + 1 := by omega
    subst e
    have b1 : ms set (2 ^ v) < 2 ^ 31 := by omega
    have b2 : ms set (2 ^ v) + 1 < 2 ^ 31 := by omega
    have b3 : ms set (2 ^ v) < ms set (2 ^ v) + 1 := by omega
    rw [sq_Plan_costInAllOrders_24]
    simp (config := { decide := true }) only [sq_Plan_costInAllOrders_0, sq_Plan_costInAllOrders_1, sq_Plan_costInAllOrders_2, sq_Plan_costInAllOrders_3n, sq_Plan_costInAllOrders_3i, sq_Plan_costInAllOrders_3r, sq_Plan_costInAllOrders_3l, sq_Plan_costInAllOrders_4, sq_Plan_costInAllOrders_5, sq_Plan_costInAllOrders_6, sq_Plan_costInAllOrders_7, sq_Plan_costInAllOrders_8, sq_Plan_costInAllOrders_9n, sq_Plan_costInAllOrders_9i, sq_Plan_costInAllOrders_9r, sq_Plan_costInAllOrders_9l, sq_Plan_costInAllOrders_11, sq_Plan_costInAllOrders_13, sq_Plan_costInAllOrders_16n, sq_Plan_costInAllOrders_16i, sq_Plan_costInAllOrders_16r, sq_Plan_costInAllOrders_16l, sq_Plan_costInAllOrders_18, sq_Plan_costInAllOrders_19n, sq_Plan_costInAllOrders_19i, sq_Plan_costInAllOrders_19r, sq_Plan_costInAllOrders_19l, sq_Plan_costInAllOrders_21, sq_Plan_costInAllOrders_22n, sq_Plan_costInAllOrders_22i, sq_Plan_costInAllOrders_22r, sq_Plan_costInAllOrders_22l, sq_Plan_costInAllOrders_26, sq_Plan_costInAllOrders_28, sq_Plan_costInAllOrders_31, sq_Plan_costInAllOrders_33, sq_Plan_costInAllOrders_35, sq_Plan_costInAllOrders_36, sq_Plan_costInAllOrders_37, sq_Plan_costInAllOrders_38, sq_Plan_costInAllOrders_41, sq_Plan_costInAllOrders_43, sq_Plan_costInAllOrders_46n, sq_Plan_costInAllOrders_46i, sq_Plan_costInAllOrders_46r, sq_Plan_costInAllOrders_46l, sq_Plan_costInAllOrders_48, sq_Plan_costInAllOrders_50, sq_Plan_costInAllOrders_53, sq_Plan_costInAllOrders_54, sq_Plan_costInAllOrders_57, sq_Plan_costInAllOrders_58, sq_Plan_costInAllOrders_60_65, sq_Plan_costInAllOrders_63n, sq_Plan_costInAllOrders_63i, sq_Plan_costInAllOrders_63r, sq_Plan_costInAllOrders_63l, sq_Plan_costInAllOrders_65, sq_Plan_costInAllOrders_68, sq_Plan_costInAllOrders_70, sq_Plan_costInAllOrders_71, sq_Plan_costInAllOrders_74, sq_Plan_costInAllOrders_76, sq_Plan_costInAllOrders_78, sq_Plan_costInAllOrders_79, sq_Plan_costInAllOrders_80, sq_Plan_costInAllOrders_81, sq_Plan_costInAllOrders_82n, sq_Plan_costInAllOrders_82i, sq_Plan_costInAllOrders_82r, sq_Plan_costInAllOrders_82l, sq_Plan_costInAllOrders_84, sq_Plan_costInAllOrders_86, sq_Plan_costInAllOrders_88, sq_Plan_costInAllOrders_89, sq_Plan_costInAllOrders_91, sq_Plan_costInAllOrders_92, sq_Plan_costInAllOrders_93_65, sq_Plan_costInAllOrders_96, sq_Plan_costInAllOrders_98, sq_Plan_costInAllOrders_99, sq_Plan_costInAllOrders_100, sq_Plan_costInAllOrders_101, sq_Plan_costInAllOrders_102n, sq_Plan_costInAllOrders_102i, sq_Plan_costInAllOrders_102r, sq_Plan_costInAllOrders_102l, sq_Plan_costInAllOrders_104n, sq_Plan_costInAllOrders_104i, sq_Plan_costInAllOrders_104r, sq_Plan_costInAllOrders_104l, sq_Plan_costInAllOrders_107, sq_Plan_costInAllOrders_110, sq_Plan_costInAllOrders_112, nI_ltI, b1, b2, b3, kx_cat_l, ho, up_b, true_or, or_true, and_self, and_true, true_and, false_implies, true_implies, not_true_eq_false, not_false_eq_true, ne_eq, u1_ne, u1_eq, Nat.add_zero, Nat.zero_add, Nat.reduceAdd, Nat.reduceMul, Option.toList, List.cons_append, List.nil_append, kx_cat_0, kx_cat_i, kx_cat_r, ak_3, ln_3, ab_3, ak_4, ln_4, ak_5, ln_5, ak_6, ln_6, ak_7, ln_7, ak_8, ln_8, ak_10, ln_10, ak_11, ln_11, ak_13, ln_13, ak_15, ln_15, ak_17, ln_17, ak_18, ln_18, ak_19, ln_19, ak_21, ln_21, ak_22, ln_22, ak_23, ln_23, ak_25, ln_25, ak_27, ln_27, ak_28, ln_28, ak_29, ln_29, ak_30, ln_30, ab_30, ak_31, ln_31, ak_32, ln_32, ak_33, ln_33, ak_34, ln_34, ak_36, ln_36, ab_36, ak_37, ln_37, ak_38, ln_38, ak_39, ln_39, ak_40, ln_40, ak_41, ln_41, ak_43, ln_43, ak_44, ln_44, ak_46, ln_46, ak_47, ln_47, ak_48, ln_48, ak_49, ln_49, ak_50, ln_50, ak_51, ln_51, ak_52, ln_52, ak_53, ln_53, ak_54, ln_54, ak_55, ln_55, ak_56, ln_56, ak_57, ln_57, ak_58, ln_58, ak_59, ln_59, ak_60, ln_60, ak_61, ln_61, ak_62, ln_62, ak_63, ln_63, ak_64, ln_64, ak_66, ln_66, ak_67, ln_67, ak_68, ln_68, ab_68, ak_69, ln_69, ak_70, ln_70, ak_71, ln_71, ak_72, ln_72, ak_73, ln_73, ak_74, ln_74, ak_75, ln_75, ak_76, ln_76, ak_77, ln_77, ak_78, ln_78, ak_79, ln_79, ak_80, ln_80, ak_81, ln_81, ak_82, ln_82, ak_83, ln_83, ak_84, ln_84, ak_85, ln_85, ak_86, ln_86, ak_87, ln_87, ak_88, ln_88, ak_89, ln_89, ak_90, ln_90, ak_91, ln_91, ak_92, ln_92, ak_93, ln_93, ak_94, ln_94, ak_95, ln_95, ak_96, ln_96, ak_97, ln_97, ak_98, ln_98, ak_99, ln_99, ak_100, ln_100, ak_101, ln_101, ak_102, ln_102, ak_103, ln_103, ak_104, ln_104, ak_105, ln_105, ak_106, ln_106, ak_107, ln_107, ak_108, ln_108, ak_109, ln_109, ak_110, ln_110, ak_111, ln_111, ak_112, ln_112, ak_113, ln_113, ak_114, ln_114, ak_115, ln_115, ak_116, ln_116, ak_117, ln_117, ak_118, ln_118, ak_119, ln_119, ak_120, ln_120, ak_121, ln_121, ak_122, ln_122, ak_123, ln_123, ak_124, ln_124, ak_125, ln_125, ak_126, ln_126, ak_127, ln_127, ak_128, ln_128, ak_129, ln_129, ak_130, ln_130, ak_131, ln_131, ak_132, ln_132, ak_133, ln_133, ak_134, ln_134, ak_135, ln_135, ak_138, ln_138, ab_138, ak_139, ln_139, ak_140, ln_140, ak_141, ln_141, ak_142, ln_142, ak_143, ln_143, ak_145, ln_145, ak_146, ln_146, ak_148, ln_148, ak_150, ln_150, ak_1000, ln_1000, ak_1001, ln_1001, ak_1002, ln_1002, ak_1003, ln_1003, ak_1004, ln_1004]
    exact ⟨(I1, A1), rfl, hp, pf.r⟩
  | succ r ih =>
    intro a I1 A1 x9 x10 x11 x12 ha hp hst
    have b1 : ms set (2 ^ v) < 2 ^ 31 := by omega
    have b2 : a < 2 ^ 31 := by omega
    have b3 : ¬ ms set (2 ^ v) < a := by omega
    have a64 : a < 64 := by omega
    have aM : a < 2 ^ w 9 1 := by omega
    have em : nI a &&& (nI (ms set (2 ^ v)) ^^^ -1) = nI (ms a (ms set (2 ^ v))) := nI_ms b2
    have es : sm (tr w (ms set (2 ^ v)) (2 ^ v)) (a + 1) = sm (tr w (ms set (2 ^ v)) (2 ^ v)) a + tr w (ms set (2 ^ v)) (2 ^ v) a := rfl
    rw [sq_Plan_costInAllOrders_24]
    by_cases q : ms a (ms set (2 ^ v)) = 0
    · have z0 : (nI (ms a (ms set (2 ^ v))) = 0) = True := eq_true (by rw [q]; rfl)
      have et : tr w (ms set (2 ^ v)) (2 ^ v) a = fc (pp a) * fc (pp (ms set (2 ^ v)) - pp a) * (cs w (a ||| 2 ^ v) - c0 w a) := if_pos q
      have p1 := pp_m a a64 _ o64 q
      have c1 : pp a < 7 := by omega
      have c2 : pp (ms set (2 ^ v)) - pp a < 7 := by omega
      have d1 : nI (pp (ms set (2 ^ v))) - nI (pp a) = nI (pp (ms set (2 ^ v)) - pp a) := pk_sub p1
      have f5 := fc_5 (pp (ms set (2 ^ v))) (by omega) (pp a) (by omega) p1
      have l1 : (nI (fc (pp a) * fc (pp (ms set (2 ^ v)) - pp a))).toInt64 = lN (fc (pp a) * fc (pp (ms set (2 ^ v)) - pp a)) := nI_l (by omega)
      have hor : a ||| 2 ^ v < 2 ^ w 9 1 := Nat.or_lt_two_pow aM (Nat.pow_lt_pow_right (by decide) hv)
      have hcs := cs_le hw hor
      have hc0 := c0_le hw hor
      have d2 : nI (cs w (a ||| 2 ^ v)) - nI (c0 w a) = nI (cs w (a ||| 2 ^ v) - c0 w a) := pk_sub hc0
      have l2 : (nI (cs w (a ||| 2 ^ v) - c0 w a)).toInt64 = lN (cs w (a ||| 2 ^ v) - c0 w a) := nI_l (by omega)
      have fin : ∀ I2 A2 I3 A3 x9 x10 x11 x12, pf I1 A1 I2 A2 → pst w I3 A3 → pf I2 A2 I3 A3 → rn (lt_G o L) mm_Plan_costInAllOrders 24 [some (.ref 65), some (.int (nI set)), some (.int (nI v)), some (.int (nI (2 ^ v))), some (.int (nI (ms set (2 ^ v)))), some (.int (nI (pp (ms set (2 ^ v))))), some (.long (lN (sm (tr w (ms set (2 ^ v)) (2 ^ v)) a + fc (pp a) * fc (pp (ms set (2 ^ v)) - pp a) * (cs w (a ||| 2 ^ v) - c0 w a)))), none, some (.int (nI (a + 1))), x9, x10, x11, x12] [] (sx true kp I3 A3) (fun p q => ∃ y : (Nat → Nat → Int32) × (Nat → Nat → Int32), p = some (.long (lN (sm (tr w (ms set (2 ^ v)) (2 ^ v)) (ms set (2 ^ v) + 1)))) ∧ q = sx true kp y.1 y.2 ∧ pst w y.1 y.2 ∧ pf I1 A1 y.1 y.2) := by
        intro I2 A2 I3 A3 x9 x10 x11 x12 g1 g2 g3
        have := ih (a + 1) I3 A3 x9 x10 x11 x12 (by omega) g2 (pf_sts (g1.t g3) hst)
        rw [es, et] at this
        refine rn_up this ?_
        rintro p q ⟨y, z1, z2, z3, z4⟩
        exact ⟨y, z1, z2, z3, (g1.t g3).t z4⟩
      by_cases qa : a = 0
      · have za : (nI a = 0) = True := eq_true (by rw [qa]; rfl)
        have ec : c0 w a = 0 := if_pos qa
        obtain ⟨⟨I3, A3⟩, e1, e2, e3⟩ := t_cost (L := L) ho hw hp hor
        have e1 : ev (lt_G o L) mm_Plan_costFor [.ref 65, .int (nI (a ||| 2 ^ v))] (sx true kp I1 A1) (some (.int (nI (cs w (a ||| 2 ^ v))))) (sx true kp I3 A3) := e1
        have t1 : A1 1003 (pp a) = nI (fc (pp a)) := by rw [hst.2.2.2]; exact fc_st _ c1
        have t2 : A1 1003 (pp (ms set (2 ^ v)) - pp a) = nI (fc (pp (ms set (2 ^ v)) - pp a)) := by rw [hst.2.2.2]; exact fc_st _ c2
        rw [ec] at d2 l2
        have d2 : nI (cs w (a ||| 2 ^ v)) - nI 0 = nI (cs w (a ||| 2 ^ v)) := d2
        have l2 : (nI (cs w (a ||| 2 ^ v))).toInt64 = lN (cs w (a ||| 2 ^ v)) := l2
        simp (config := { decide := true }) only [sq_Plan_costInAllOrders_0, sq_Plan_costInAllOrders_1, sq_Plan_costInAllOrders_2, sq_Plan_costInAllOrders_3n, sq_Plan_costInAllOrders_3i, sq_Plan_costInAllOrders_3r, sq_Plan_costInAllOrders_3l, sq_Plan_costInAllOrders_4, sq_Plan_costInAllOrders_5, sq_Plan_costInAllOrders_6, sq_Plan_costInAllOrders_7, sq_Plan_costInAllOrders_8, sq_Plan_costInAllOrders_9n, sq_Plan_costInAllOrders_9i, sq_Plan_costInAllOrders_9r, sq_Plan_costInAllOrders_9l, sq_Plan_costInAllOrders_11, sq_Plan_costInAllOrders_13, sq_Plan_costInAllOrders_16n, sq_Plan_costInAllOrders_16i, sq_Plan_costInAllOrders_16r, sq_Plan_costInAllOrders_16l, sq_Plan_costInAllOrders_18, sq_Plan_costInAllOrders_19n, sq_Plan_costInAllOrders_19i, sq_Plan_costInAllOrders_19r, sq_Plan_costInAllOrders_19l, sq_Plan_costInAllOrders_21, sq_Plan_costInAllOrders_22n, sq_Plan_costInAllOrders_22i, sq_Plan_costInAllOrders_22r, sq_Plan_costInAllOrders_22l, sq_Plan_costInAllOrders_26, sq_Plan_costInAllOrders_28, sq_Plan_costInAllOrders_31, sq_Plan_costInAllOrders_33, sq_Plan_costInAllOrders_35, sq_Plan_costInAllOrders_36, sq_Plan_costInAllOrders_37, sq_Plan_costInAllOrders_38, sq_Plan_costInAllOrders_41, sq_Plan_costInAllOrders_43, sq_Plan_costInAllOrders_46n, sq_Plan_costInAllOrders_46i, sq_Plan_costInAllOrders_46r, sq_Plan_costInAllOrders_46l, sq_Plan_costInAllOrders_48, sq_Plan_costInAllOrders_50, sq_Plan_costInAllOrders_53, sq_Plan_costInAllOrders_54, sq_Plan_costInAllOrders_57, sq_Plan_costInAllOrders_58, sq_Plan_costInAllOrders_60_65, sq_Plan_costInAllOrders_63n, sq_Plan_costInAllOrders_63i, sq_Plan_costInAllOrders_63r, sq_Plan_costInAllOrders_63l, sq_Plan_costInAllOrders_65, sq_Plan_costInAllOrders_68, sq_Plan_costInAllOrders_70, sq_Plan_costInAllOrders_71, sq_Plan_costInAllOrders_74, sq_Plan_costInAllOrders_76, sq_Plan_costInAllOrders_78, sq_Plan_costInAllOrders_79, sq_Plan_costInAllOrders_80, sq_Plan_costInAllOrders_81, sq_Plan_costInAllOrders_82n, sq_Plan_costInAllOrders_82i, sq_Plan_costInAllOrders_82r, sq_Plan_costInAllOrders_82l, sq_Plan_costInAllOrders_84, sq_Plan_costInAllOrders_86, sq_Plan_costInAllOrders_88, sq_Plan_costInAllOrders_89, sq_Plan_costInAllOrders_91, sq_Plan_costInAllOrders_92, sq_Plan_costInAllOrders_93_65, sq_Plan_costInAllOrders_96, sq_Plan_costInAllOrders_98, sq_Plan_costInAllOrders_99, sq_Plan_costInAllOrders_100, sq_Plan_costInAllOrders_101, sq_Plan_costInAllOrders_102n, sq_Plan_costInAllOrders_102i, sq_Plan_costInAllOrders_102r, sq_Plan_costInAllOrders_102l, sq_Plan_costInAllOrders_104n, sq_Plan_costInAllOrders_104i, sq_Plan_costInAllOrders_104r, sq_Plan_costInAllOrders_104l, sq_Plan_costInAllOrders_107, sq_Plan_costInAllOrders_110, sq_Plan_costInAllOrders_112, up_p, nI_ltI, b1, b2, b3, em, z0, za, sq_Plan_costInAllOrders_43 (t_bitCount a64), c1, c2, d1, t1, t2, pk_mul, l1, nI_or, sq_Plan_costInAllOrders_93_65 e1, d2, l2, lN_mul, lN_add, nI_add, kx_cat_l, ho, up_b, true_or, or_true, and_self, and_true, true_and, false_implies, true_implies, not_true_eq_false, not_false_eq_true, ne_eq, u1_ne, u1_eq, Nat.add_zero, Nat.zero_add, Nat.reduceAdd, Nat.reduceMul, Option.toList, List.cons_append, List.nil_append, kx_cat_0, kx_cat_i, kx_cat_r, ak_3, ln_3, ab_3, ak_4, ln_4, ak_5, ln_5, ak_6, ln_6, ak_7, ln_7, ak_8, ln_8, ak_10, ln_10, ak_11, ln_11, ak_13, ln_13, ak_15, ln_15, ak_17, ln_17, ak_18, ln_18, ak_19, ln_19, ak_21, ln_21, ak_22, ln_22, ak_23, ln_23, ak_25, ln_25, ak_27, ln_27, ak_28, ln_28, ak_29, ln_29, ak_30, ln_30, ab_30, ak_31, ln_31, ak_32, ln_32, ak_33, ln_33, ak_34, ln_34, ak_36, ln_36, ab_36, ak_37, ln_37, ak_38, ln_38, ak_39, ln_39, ak_40, ln_40, ak_41, ln_41, ak_43, ln_43, ak_44, ln_44, ak_46, ln_46, ak_47, ln_47, ak_48, ln_48, ak_49, ln_49, ak_50, ln_50, ak_51, ln_51, ak_52, ln_52, ak_53, ln_53, ak_54, ln_54, ak_55, ln_55, ak_56, ln_56, ak_57, ln_57, ak_58, ln_58, ak_59, ln_59, ak_60, ln_60, ak_61, ln_61, ak_62, ln_62, ak_63, ln_63, ak_64, ln_64, ak_66, ln_66, ak_67, ln_67, ak_68, ln_68, ab_68, ak_69, ln_69, ak_70, ln_70, ak_71, ln_71, ak_72, ln_72, ak_73, ln_73, ak_74, ln_74, ak_75, ln_75, ak_76, ln_76, ak_77, ln_77, ak_78, ln_78, ak_79, ln_79, ak_80, ln_80, ak_81, ln_81, ak_82, ln_82, ak_83, ln_83, ak_84, ln_84, ak_85, ln_85, ak_86, ln_86, ak_87, ln_87, ak_88, ln_88, ak_89, ln_89, ak_90, ln_90, ak_91, ln_91, ak_92, ln_92, ak_93, ln_93, ak_94, ln_94, ak_95, ln_95, ak_96, ln_96, ak_97, ln_97, ak_98, ln_98, ak_99, ln_99, ak_100, ln_100, ak_101, ln_101, ak_102, ln_102, ak_103, ln_103, ak_104, ln_104, ak_105, ln_105, ak_106, ln_106, ak_107, ln_107, ak_108, ln_108, ak_109, ln_109, ak_110, ln_110, ak_111, ln_111, ak_112, ln_112, ak_113, ln_113, ak_114, ln_114, ak_115, ln_115, ak_116, ln_116, ak_117, ln_117, ak_118, ln_118, ak_119, ln_119, ak_120, ln_120, ak_121, ln_121, ak_122, ln_122, ak_123, ln_123, ak_124, ln_124, ak_125, ln_125, ak_126, ln_126, ak_127, ln_127, ak_128, ln_128, ak_129, ln_129, ak_130, ln_130, ak_131, ln_131, ak_132, ln_132, ak_133, ln_133, ak_134, ln_134, ak_135, ln_135, ak_138, ln_138, ab_138, ak_139, ln_139, ak_140, ln_140, ak_141, ln_141, ak_142, ln_142, ak_143, ln_143, ak_145, ln_145, ak_146, ln_146, ak_148, ln_148, ak_150, ln_150, ak_1000, ln_1000, ak_1001, ln_1001, ak_1002, ln_1002, ak_1003, ln_1003, ak_1004, ln_1004]
        have := fin I1 A1 I3 A3 (some (.int (nI (pp a)))) (some (.int (nI 0))) (some (.long (lN (fc (pp a) * fc (pp (ms set (2 ^ v)) - pp a))))) none pf.r e2 e3
        rw [ec] at this
        exact this
      · have za : (nI a = 0) = False := eq_false (nI_ne0 (by omega) b2)
        have ec : c0 w a = cs w a := if_neg qa
        obtain ⟨⟨I2, A2⟩, g1, g2, g3⟩ := t_cost (L := L) ho hw hp aM
        have g1 : ev (lt_G o L) mm_Plan_costFor [.ref 65, .int (nI a)] (sx true kp I1 A1) (some (.int (nI (cs w a)))) (sx true kp I2 A2) := g1
        obtain ⟨⟨I3, A3⟩, e1, e2, e3⟩ := t_cost (L := L) ho hw g2 hor
        have e1 : ev (lt_G o L) mm_Plan_costFor [.ref 65, .int (nI (a ||| 2 ^ v))] (sx true kp I2 A2) (some (.int (nI (cs w (a ||| 2 ^ v))))) (sx true kp I3 A3) := e1
        have hs2 : sts A2 := pf_sts g3 hst
        have t1 : A2 1003 (pp a) = nI (fc (pp a)) := by rw [hs2.2.2.2]; exact fc_st _ c1
        have t2 : A2 1003 (pp (ms set (2 ^ v)) - pp a) = nI (fc (pp (ms set (2 ^ v)) - pp a)) := by rw [hs2.2.2.2]; exact fc_st _ c2
        rw [ec] at d2 l2
        simp (config := { decide := true }) only [sq_Plan_costInAllOrders_0, sq_Plan_costInAllOrders_1, sq_Plan_costInAllOrders_2, sq_Plan_costInAllOrders_3n, sq_Plan_costInAllOrders_3i, sq_Plan_costInAllOrders_3r, sq_Plan_costInAllOrders_3l, sq_Plan_costInAllOrders_4, sq_Plan_costInAllOrders_5, sq_Plan_costInAllOrders_6, sq_Plan_costInAllOrders_7, sq_Plan_costInAllOrders_8, sq_Plan_costInAllOrders_9n, sq_Plan_costInAllOrders_9i, sq_Plan_costInAllOrders_9r, sq_Plan_costInAllOrders_9l, sq_Plan_costInAllOrders_11, sq_Plan_costInAllOrders_13, sq_Plan_costInAllOrders_16n, sq_Plan_costInAllOrders_16i, sq_Plan_costInAllOrders_16r, sq_Plan_costInAllOrders_16l, sq_Plan_costInAllOrders_18, sq_Plan_costInAllOrders_19n, sq_Plan_costInAllOrders_19i, sq_Plan_costInAllOrders_19r, sq_Plan_costInAllOrders_19l, sq_Plan_costInAllOrders_21, sq_Plan_costInAllOrders_22n, sq_Plan_costInAllOrders_22i, sq_Plan_costInAllOrders_22r, sq_Plan_costInAllOrders_22l, sq_Plan_costInAllOrders_26, sq_Plan_costInAllOrders_28, sq_Plan_costInAllOrders_31, sq_Plan_costInAllOrders_33, sq_Plan_costInAllOrders_35, sq_Plan_costInAllOrders_36, sq_Plan_costInAllOrders_37, sq_Plan_costInAllOrders_38, sq_Plan_costInAllOrders_41, sq_Plan_costInAllOrders_43, sq_Plan_costInAllOrders_46n, sq_Plan_costInAllOrders_46i, sq_Plan_costInAllOrders_46r, sq_Plan_costInAllOrders_46l, sq_Plan_costInAllOrders_48, sq_Plan_costInAllOrders_50, sq_Plan_costInAllOrders_53, sq_Plan_costInAllOrders_54, sq_Plan_costInAllOrders_57, sq_Plan_costInAllOrders_58, sq_Plan_costInAllOrders_60_65, sq_Plan_costInAllOrders_63n, sq_Plan_costInAllOrders_63i, sq_Plan_costInAllOrders_63r, sq_Plan_costInAllOrders_63l, sq_Plan_costInAllOrders_65, sq_Plan_costInAllOrders_68, sq_Plan_costInAllOrders_70, sq_Plan_costInAllOrders_71, sq_Plan_costInAllOrders_74, sq_Plan_costInAllOrders_76, sq_Plan_costInAllOrders_78, sq_Plan_costInAllOrders_79, sq_Plan_costInAllOrders_80, sq_Plan_costInAllOrders_81, sq_Plan_costInAllOrders_82n, sq_Plan_costInAllOrders_82i, sq_Plan_costInAllOrders_82r, sq_Plan_costInAllOrders_82l, sq_Plan_costInAllOrders_84, sq_Plan_costInAllOrders_86, sq_Plan_costInAllOrders_88, sq_Plan_costInAllOrders_89, sq_Plan_costInAllOrders_91, sq_Plan_costInAllOrders_92, sq_Plan_costInAllOrders_93_65, sq_Plan_costInAllOrders_96, sq_Plan_costInAllOrders_98, sq_Plan_costInAllOrders_99, sq_Plan_costInAllOrders_100, sq_Plan_costInAllOrders_101, sq_Plan_costInAllOrders_102n, sq_Plan_costInAllOrders_102i, sq_Plan_costInAllOrders_102r, sq_Plan_costInAllOrders_102l, sq_Plan_costInAllOrders_104n, sq_Plan_costInAllOrders_104i, sq_Plan_costInAllOrders_104r, sq_Plan_costInAllOrders_104l, sq_Plan_costInAllOrders_107, sq_Plan_costInAllOrders_110, sq_Plan_costInAllOrders_112, up_p, nI_ltI, b1, b2, b3, em, z0, za, sq_Plan_costInAllOrders_43 (t_bitCount a64), sq_Plan_costInAllOrders_60_65 g1, c1, c2, d1, t1, t2, pk_mul, l1, nI_or, sq_Plan_costInAllOrders_93_65 e1, d2, l2, lN_mul, lN_add, nI_add, kx_cat_l, ho, up_b, true_or, or_true, and_self, and_true, true_and, false_implies, true_implies, not_true_eq_false, not_false_eq_true, ne_eq, u1_ne, u1_eq, Nat.add_zero, Nat.zero_add, Nat.reduceAdd, Nat.reduceMul, Option.toList, List.cons_append, List.nil_append, kx_cat_0, kx_cat_i, kx_cat_r, ak_3, ln_3, ab_3, ak_4, ln_4, ak_5, ln_5, ak_6, ln_6, ak_7, ln_7, ak_8, ln_8, ak_10, ln_10, ak_11, ln_11, ak_13, ln_13, ak_15, ln_15, ak_17, ln_17, ak_18, ln_18, ak_19, ln_19, ak_21, ln_21, ak_22, ln_22, ak_23, ln_23, ak_25, ln_25, ak_27, ln_27, ak_28, ln_28, ak_29, ln_29, ak_30, ln_30, ab_30, ak_31, ln_31, ak_32, ln_32, ak_33, ln_33, ak_34, ln_34, ak_36, ln_36, ab_36, ak_37, ln_37, ak_38, ln_38, ak_39, ln_39, ak_40, ln_40, ak_41, ln_41, ak_43, ln_43, ak_44, ln_44, ak_46, ln_46, ak_47, ln_47, ak_48, ln_48, ak_49, ln_49, ak_50, ln_50, ak_51, ln_51, ak_52, ln_52, ak_53, ln_53, ak_54, ln_54, ak_55, ln_55, ak_56, ln_56, ak_57, ln_57, ak_58, ln_58, ak_59, ln_59, ak_60, ln_60, ak_61, ln_61, ak_62, ln_62, ak_63, ln_63, ak_64, ln_64, ak_66, ln_66, ak_67, ln_67, ak_68, ln_68, ab_68, ak_69, ln_69, ak_70, ln_70, ak_71, ln_71, ak_72, ln_72, ak_73, ln_73, ak_74, ln_74, ak_75, ln_75, ak_76, ln_76, ak_77, ln_77, ak_78, ln_78, ak_79, ln_79, ak_80, ln_80, ak_81, ln_81, ak_82, ln_82, ak_83, ln_83, ak_84, ln_84, ak_85, ln_85, ak_86, ln_86, ak_87, ln_87, ak_88, ln_88, ak_89, ln_89, ak_90, ln_90, ak_91, ln_91, ak_92, ln_92, ak_93, ln_93, ak_94, ln_94, ak_95, ln_95, ak_96, ln_96, ak_97, ln_97, ak_98, ln_98, ak_99, ln_99, ak_100, ln_100, ak_101, ln_101, ak_102, ln_102, ak_103, ln_103, ak_104, ln_104, ak_105, ln_105, ak_106, ln_106, ak_107, ln_107, ak_108, ln_108, ak_109, ln_109, ak_110, ln_110, ak_111, ln_111, ak_112, ln_112, ak_113, ln_113, ak_114, ln_114, ak_115, ln_115, ak_116, ln_116, ak_117, ln_117, ak_118, ln_118, ak_119, ln_119, ak_120, ln_120, ak_121, ln_121, ak_122, ln_122, ak_123, ln_123, ak_124, ln_124, ak_125, ln_125, ak_126, ln_126, ak_127, ln_127, ak_128, ln_128, ak_129, ln_129, ak_130, ln_130, ak_131, ln_131, ak_132, ln_132, ak_133, ln_133, ak_134, ln_134, ak_135, ln_135, ak_138, ln_138, ab_138, ak_139, ln_139, ak_140, ln_140, ak_141, ln_141, ak_142, ln_142, ak_143, ln_143, ak_145, ln_145, ak_146, ln_146, ak_148, ln_148, ak_150, ln_150, ak_1000, ln_1000, ak_1001, ln_1001, ak_1002, ln_1002, ak_1003, ln_1003, ak_1004, ln_1004]
        have := fin I2 A2 I3 A3 (some (.int (nI (pp a)))) (some (.int (nI (cs w a)))) (some (.long (lN (fc (pp a) * fc (pp (ms set (2 ^ v)) - pp a))))) none g3 e2 e3
        rw [ec] at this
        exact this
    · have z0 : (nI (ms a (ms set (2 ^ v))) = 0) = False := eq_false (nI_ne0 (by omega) (by have := ms_le a (ms set (2 ^ v)); omega))
      have et : tr w (ms set (2 ^ v)) (2 ^ v) a = 0 := if_neg q
      simp (config := { decide := true }) only [sq_Plan_costInAllOrders_0, sq_Plan_costInAllOrders_1, sq_Plan_costInAllOrders_2, sq_Plan_costInAllOrders_3n, sq_Plan_costInAllOrders_3i, sq_Plan_costInAllOrders_3r, sq_Plan_costInAllOrders_3l, sq_Plan_costInAllOrders_4, sq_Plan_costInAllOrders_5, sq_Plan_costInAllOrders_6, sq_Plan_costInAllOrders_7, sq_Plan_costInAllOrders_8, sq_Plan_costInAllOrders_9n, sq_Plan_costInAllOrders_9i, sq_Plan_costInAllOrders_9r, sq_Plan_costInAllOrders_9l, sq_Plan_costInAllOrders_11, sq_Plan_costInAllOrders_13, sq_Plan_costInAllOrders_16n, sq_Plan_costInAllOrders_16i, sq_Plan_costInAllOrders_16r, sq_Plan_costInAllOrders_16l, sq_Plan_costInAllOrders_18, sq_Plan_costInAllOrders_19n, sq_Plan_costInAllOrders_19i, sq_Plan_costInAllOrders_19r, sq_Plan_costInAllOrders_19l, sq_Plan_costInAllOrders_21, sq_Plan_costInAllOrders_22n, sq_Plan_costInAllOrders_22i, sq_Plan_costInAllOrders_22r, sq_Plan_costInAllOrders_22l, sq_Plan_costInAllOrders_26, sq_Plan_costInAllOrders_28, sq_Plan_costInAllOrders_31, sq_Plan_costInAllOrders_33, sq_Plan_costInAllOrders_35, sq_Plan_costInAllOrders_36, sq_Plan_costInAllOrders_37, sq_Plan_costInAllOrders_38, sq_Plan_costInAllOrders_41, sq_Plan_costInAllOrders_43, sq_Plan_costInAllOrders_46n, sq_Plan_costInAllOrders_46i, sq_Plan_costInAllOrders_46r, sq_Plan_costInAllOrders_46l, sq_Plan_costInAllOrders_48, sq_Plan_costInAllOrders_50, sq_Plan_costInAllOrders_53, sq_Plan_costInAllOrders_54, sq_Plan_costInAllOrders_57, sq_Plan_costInAllOrders_58, sq_Plan_costInAllOrders_60_65, sq_Plan_costInAllOrders_63n, sq_Plan_costInAllOrders_63i, sq_Plan_costInAllOrders_63r, sq_Plan_costInAllOrders_63l, sq_Plan_costInAllOrders_65, sq_Plan_costInAllOrders_68, sq_Plan_costInAllOrders_70, sq_Plan_costInAllOrders_71, sq_Plan_costInAllOrders_74, sq_Plan_costInAllOrders_76, sq_Plan_costInAllOrders_78, sq_Plan_costInAllOrders_79, sq_Plan_costInAllOrders_80, sq_Plan_costInAllOrders_81, sq_Plan_costInAllOrders_82n, sq_Plan_costInAllOrders_82i, sq_Plan_costInAllOrders_82r, sq_Plan_costInAllOrders_82l, sq_Plan_costInAllOrders_84, sq_Plan_costInAllOrders_86, sq_Plan_costInAllOrders_88, sq_Plan_costInAllOrders_89, sq_Plan_costInAllOrders_91, sq_Plan_costInAllOrders_92, sq_Plan_costInAllOrders_93_65, sq_Plan_costInAllOrders_96, sq_Plan_costInAllOrders_98, sq_Plan_costInAllOrders_99, sq_Plan_costInAllOrders_100, sq_Plan_costInAllOrders_101, sq_Plan_costInAllOrders_102n, sq_Plan_costInAllOrders_102i, sq_Plan_costInAllOrders_102r, sq_Plan_costInAllOrders_102l, sq_Plan_costInAllOrders_104n, sq_Plan_costInAllOrders_104i, sq_Plan_costInAllOrders_104r, sq_Plan_costInAllOrders_104l, sq_Plan_costInAllOrders_107, sq_Plan_costInAllOrders_110, sq_Plan_costInAllOrders_112, nI_ltI, b1, b2, b3, em, z0, nI_add, kx_cat_l, ho, up_b, true_or, or_true, and_self, and_true, true_and, false_implies, true_implies, not_true_eq_false, not_false_eq_true, ne_eq, u1_ne, u1_eq, Nat.add_zero, Nat.zero_add, Nat.reduceAdd, Nat.reduceMul, Option.toList, List.cons_append, List.nil_append, kx_cat_0, kx_cat_i, kx_cat_r, ak_3, ln_3, ab_3, ak_4, ln_4, ak_5, ln_5, ak_6, ln_6, ak_7, ln_7, ak_8, ln_8, ak_10, ln_10, ak_11, ln_11, ak_13, ln_13, ak_15, ln_15, ak_17, ln_17, ak_18, ln_18, ak_19, ln_19, ak_21, ln_21, ak_22, ln_22, ak_23, ln_23, ak_25, ln_25, ak_27, ln_27, ak_28, ln_28, ak_29, ln_29, ak_30, ln_30, ab_30, ak_31, ln_31, ak_32, ln_32, ak_33, ln_33, ak_34, ln_34, ak_36, ln_36, ab_36, ak_37, ln_37, ak_38, ln_38, ak_39, ln_39, ak_40, ln_40, ak_41, ln_41, ak_43, ln_43, ak_44, ln_44, ak_46, ln_46, ak_47, ln_47, ak_48, ln_48, ak_49, ln_49, ak_50, ln_50, ak_51, ln_51, ak_52, ln_52, ak_53, ln_53, ak_54, ln_54, ak_55, ln_55, ak_56, ln_56, ak_57, ln_57, ak_58, ln_58, ak_59, ln_59, ak_60, ln_60, ak_61, ln_61, ak_62, ln_62, ak_63, ln_63, ak_64, ln_64, ak_66, ln_66, ak_67, ln_67, ak_68, ln_68, ab_68, ak_69, ln_69, ak_70, ln_70, ak_71, ln_71, ak_72, ln_72, ak_73, ln_73, ak_74, ln_74, ak_75, ln_75, ak_76, ln_76, ak_77, ln_77, ak_78, ln_78, ak_79, ln_79, ak_80, ln_80, ak_81, ln_81, ak_82, ln_82, ak_83, ln_83, ak_84, ln_84, ak_85, ln_85, ak_86, ln_86, ak_87, ln_87, ak_88, ln_88, ak_89, ln_89, ak_90, ln_90, ak_91, ln_91, ak_92, ln_92, ak_93, ln_93, ak_94, ln_94, ak_95, ln_95, ak_96, ln_96, ak_97, ln_97, ak_98, ln_98, ak_99, ln_99, ak_100, ln_100, ak_101, ln_101, ak_102, ln_102, ak_103, ln_103, ak_104, ln_104, ak_105, ln_105, ak_106, ln_106, ak_107, ln_107, ak_108, ln_108, ak_109, ln_109, ak_110, ln_110, ak_111, ln_111, ak_112, ln_112, ak_113, ln_113, ak_114, ln_114, ak_115, ln_115, ak_116, ln_116, ak_117, ln_117, ak_118, ln_118, ak_119, ln_119, ak_120, ln_120, ak_121, ln_121, ak_122, ln_122, ak_123, ln_123, ak_124, ln_124, ak_125, ln_125, ak_126, ln_126, ak_127, ln_127, ak_128, ln_128, ak_129, ln_129, ak_130, ln_130, ak_131, ln_131, ak_132, ln_132, ak_133, ln_133, ak_134, ln_134, ak_135, ln_135, ak_138, ln_138, ab_138, ak_139, ln_139, ak_140, ln_140, ak_141, ln_141, ak_142, ln_142, ak_143, ln_143, ak_145, ln_145, ak_146, ln_146, ak_148, ln_148, ak_150, ln_150, ak_1000, ln_1000, ak_1001, ln_1001, ak_1002, ln_1002, ak_1003, ln_1003, ak_1004, ln_1004]
      have := ih (a + 1) I1 A1 x9 x10 x11 x12 (by omega) hp hst
      rw [es, et, Nat.add_zero] at this
      exact this
theorem t_allOrders (ho : sx_o o true kp) (hw : wok w) (hv : v < w 9 1) (hset : set < 2 ^ w 9 1) (hb : set.testBit v = true) (hp : pst w I A) (hst : sts A) : ∃ y : (Nat → Nat → Int32) × (Nat → Nat → Int32), ev (lt_G o L) mm_Plan_costInAllOrders [.ref 65, .int (nI set), .int (nI v)] (sx true kp I A) (some (.long (lN (sm (tr w (ms set (2 ^ v)) (2 ^ v)) (2 ^ w 9 1))))) (sx true kp y.1 y.2) ∧ pst w y.1 y.2 ∧ pf I A y.1 y.2 := by
  have h6 : w 9 1 ≤ 6 := hw 9 1
  have s64 := w_set64 hw hset
  have o64 : ms set (2 ^ v) < 64 := ms_lt _ s64
  have oM : ms set (2 ^ v) < 2 ^ w 9 1 := ms_lt _ hset
  have s1 := sh1 v (by omega)
  have em : nI set &&& (nI (2 ^ v) ^^^ -1) = nI (ms set (2 ^ v)) := nI_ms (by omega)
  have key := c_orders (L := L) ho hw hv hset hb (ms set (2 ^ v) + 1) 0 I A none none none none (by omega) hp hst
  rw [sm_z (k := ms set (2 ^ v) + 1) (2 ^ w 9 1) (by omega) (fun i h1 h2 => by
    unfold tr
    rw [if_neg (fun z => ?_)]
    have := ms_sub z
    omega)]
  refine ev_e (st := fun y : (Nat → Nat → Int32) × (Nat → Nat → Int32) => sx true kp y.1 y.2) ?_
  show rn _ _ 0 [some (.ref 65), some (.int (nI set)), some (.int (nI v)), none, none, none, none, none, none, none, none, none, none] [] _ _
  simp (config := { decide := true }) only [sq_Plan_costInAllOrders_0, sq_Plan_costInAllOrders_1, sq_Plan_costInAllOrders_2, sq_Plan_costInAllOrders_3n, sq_Plan_costInAllOrders_3i, sq_Plan_costInAllOrders_3r, sq_Plan_costInAllOrders_3l, sq_Plan_costInAllOrders_4, sq_Plan_costInAllOrders_5, sq_Plan_costInAllOrders_6, sq_Plan_costInAllOrders_7, sq_Plan_costInAllOrders_8, sq_Plan_costInAllOrders_9n, sq_Plan_costInAllOrders_9i, sq_Plan_costInAllOrders_9r, sq_Plan_costInAllOrders_9l, sq_Plan_costInAllOrders_11, sq_Plan_costInAllOrders_13, sq_Plan_costInAllOrders_16n, sq_Plan_costInAllOrders_16i, sq_Plan_costInAllOrders_16r, sq_Plan_costInAllOrders_16l, sq_Plan_costInAllOrders_18, sq_Plan_costInAllOrders_19n, sq_Plan_costInAllOrders_19i, sq_Plan_costInAllOrders_19r, sq_Plan_costInAllOrders_19l, sq_Plan_costInAllOrders_21, sq_Plan_costInAllOrders_22n, sq_Plan_costInAllOrders_22i, sq_Plan_costInAllOrders_22r, sq_Plan_costInAllOrders_22l, sq_Plan_costInAllOrders_26, sq_Plan_costInAllOrders_28, sq_Plan_costInAllOrders_31, sq_Plan_costInAllOrders_33, sq_Plan_costInAllOrders_35, sq_Plan_costInAllOrders_36, sq_Plan_costInAllOrders_37, sq_Plan_costInAllOrders_38, sq_Plan_costInAllOrders_41, sq_Plan_costInAllOrders_43, sq_Plan_costInAllOrders_46n, sq_Plan_costInAllOrders_46i, sq_Plan_costInAllOrders_46r, sq_Plan_costInAllOrders_46l, sq_Plan_costInAllOrders_48, sq_Plan_costInAllOrders_50, sq_Plan_costInAllOrders_53, sq_Plan_costInAllOrders_54, sq_Plan_costInAllOrders_57, sq_Plan_costInAllOrders_58, sq_Plan_costInAllOrders_60_65, sq_Plan_costInAllOrders_63n, sq_Plan_costInAllOrders_63i, sq_Plan_costInAllOrders_63r, sq_Plan_costInAllOrders_63l, sq_Plan_costInAllOrders_65, sq_Plan_costInAllOrders_68, sq_Plan_costInAllOrders_70, sq_Plan_costInAllOrders_71, sq_Plan_costInAllOrders_74, sq_Plan_costInAllOrders_76, sq_Plan_costInAllOrders_78, sq_Plan_costInAllOrders_79, sq_Plan_costInAllOrders_80, sq_Plan_costInAllOrders_81, sq_Plan_costInAllOrders_82n, sq_Plan_costInAllOrders_82i, sq_Plan_costInAllOrders_82r, sq_Plan_costInAllOrders_82l, sq_Plan_costInAllOrders_84, sq_Plan_costInAllOrders_86, sq_Plan_costInAllOrders_88, sq_Plan_costInAllOrders_89, sq_Plan_costInAllOrders_91, sq_Plan_costInAllOrders_92, sq_Plan_costInAllOrders_93_65, sq_Plan_costInAllOrders_96, sq_Plan_costInAllOrders_98, sq_Plan_costInAllOrders_99, sq_Plan_costInAllOrders_100, sq_Plan_costInAllOrders_101, sq_Plan_costInAllOrders_102n, sq_Plan_costInAllOrders_102i, sq_Plan_costInAllOrders_102r, sq_Plan_costInAllOrders_102l, sq_Plan_costInAllOrders_104n, sq_Plan_costInAllOrders_104i, sq_Plan_costInAllOrders_104r, sq_Plan_costInAllOrders_104l, sq_Plan_costInAllOrders_107, sq_Plan_costInAllOrders_110, sq_Plan_costInAllOrders_112, s1, em, sq_Plan_costInAllOrders_13 (t_bitCount o64), l0, kx_cat_l, ho, up_b, true_or, or_true, and_self, and_true, true_and, false_implies, true_implies, not_true_eq_false, not_false_eq_true, ne_eq, u1_ne, u1_eq, Nat.add_zero, Nat.zero_add, Nat.reduceAdd, Nat.reduceMul, Option.toList, List.cons_append, List.nil_append, kx_cat_0, kx_cat_i, kx_cat_r, ak_3, ln_3, ab_3, ak_4, ln_4, ak_5, ln_5, ak_6, ln_6, ak_7, ln_7, ak_8, ln_8, ak_10, ln_10, ak_11, ln_11, ak_13, ln_13, ak_15, ln_15, ak_17, ln_17, ak_18, ln_18, ak_19, ln_19, ak_21, ln_21, ak_22, ln_22, ak_23, ln_23, ak_25, ln_25, ak_27, ln_27, ak_28, ln_28, ak_29, ln_29, ak_30, ln_30, ab_30, ak_31, ln_31, ak_32, ln_32, ak_33, ln_33, ak_34, ln_34, ak_36, ln_36, ab_36, ak_37, ln_37, ak_38, ln_38, ak_39, ln_39, ak_40, ln_40, ak_41, ln_41, ak_43, ln_43, ak_44, ln_44, ak_46, ln_46, ak_47, ln_47, ak_48, ln_48, ak_49, ln_49, ak_50, ln_50, ak_51, ln_51, ak_52, ln_52, ak_53, ln_53, ak_54, ln_54, ak_55, ln_55, ak_56, ln_56, ak_57, ln_57, ak_58, ln_58, ak_59, ln_59, ak_60, ln_60, ak_61, ln_61, ak_62, ln_62, ak_63, ln_63, ak_64, ln_64, ak_66, ln_66, ak_67, ln_67, ak_68, ln_68, ab_68, ak_69, ln_69, ak_70, ln_70, ak_71, ln_71, ak_72, ln_72, ak_73, ln_73, ak_74, ln_74, ak_75, ln_75, ak_76, ln_76, ak_77, ln_77, ak_78, ln_78, ak_79, ln_79, ak_80, ln_80, ak_81, ln_81, ak_82, ln_82, ak_83, ln_83, ak_84, ln_84, ak_85, ln_85, ak_86, ln_86, ak_87, ln_87, ak_88, ln_88, ak_89, ln_89, ak_90, ln_90, ak_91, ln_91, ak_92, ln_92, ak_93, ln_93, ak_94, ln_94, ak_95, ln_95, ak_96, ln_96, ak_97, ln_97, ak_98, ln_98, ak_99, ln_99, ak_100, ln_100, ak_101, ln_101, ak_102, ln_102, ak_103, ln_103, ak_104, ln_104, ak_105, ln_105, ak_106, ln_106, ak_107, ln_107, ak_108, ln_108, ak_109, ln_109, ak_110, ln_110, ak_111, ln_111, ak_112, ln_112, ak_113, ln_113, ak_114, ln_114, ak_115, ln_115, ak_116, ln_116, ak_117, ln_117, ak_118, ln_118, ak_119, ln_119, ak_120, ln_120, ak_121, ln_121, ak_122, ln_122, ak_123, ln_123, ak_124, ln_124, ak_125, ln_125, ak_126, ln_126, ak_127, ln_127, ak_128, ln_128, ak_129, ln_129, ak_130, ln_130, ak_131, ln_131, ak_132, ln_132, ak_133, ln_133, ak_134, ln_134, ak_135, ln_135, ak_138, ln_138, ab_138, ak_139, ln_139, ak_140, ln_140, ak_141, ln_141, ak_142, ln_142, ak_143, ln_143, ak_145, ln_145, ak_146, ln_146, ak_148, ln_148, ak_150, ln_150, ak_1000, ln_1000, ak_1001, ln_1001, ak_1002, ln_1002, ak_1003, ln_1003, ak_1004, ln_1004]
  exact key
end SH
