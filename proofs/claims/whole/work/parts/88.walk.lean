/-! The road that is laid: as a pure thing, and the class's walk. -/
def fo (P : Nat → Bool) (c : Nat) : Nat → Nat → Option Nat
  | 0, _ => none
  | r + 1, s => match nb c s with
    | some n => if P n = true then some n else fo P c r (s + 1)
    | none => fo P c r (s + 1)
theorem fo_s {P : Nat → Bool} {c : Nat} : ∀ r s n, fo P c r s = some n → s + r ≤ 4 → ∃ s', s' < 4 ∧ nb c s' = some n ∧ P n = true
  | 0, _, _, h, _ => by cases h
  | r + 1, s, n, h, h4 => by
    unfold fo at h
    split at h
    next n' hn =>
      split at h
      next hp =>
        cases h
        exact ⟨s, by omega, hn, hp⟩
      next => exact fo_s r (s + 1) n h (by omega)
    next => exact fo_s r (s + 1) n h (by omega)
theorem fo_e {P : Nat → Bool} {c s' n : Nat} (hn : nb c s' = some n) (hp : P n = true) : ∀ r s, s ≤ s' → s' < s + r → ∃ n', fo P c r s = some n'
  | 0, s, h1, h2 => by omega
  | r + 1, s, h1, h2 => by
    unfold fo
    by_cases e : s = s'
    · subst e
      rw [hn]
      show ∃ n', (if P n = true then some n else fo P c r (s + 1)) = some n'
      rw [if_pos hp]
      exact ⟨n, rfl⟩
    · obtain ⟨n', h⟩ := fo_e hn hp r (s + 1) (by omega) (by omega)
      split
      next m hm =>
        split
        · exact ⟨m, rfl⟩
        · exact ⟨n', h⟩
      next => exact ⟨n', h⟩
def rdP (k S : Nat → Nat) (V : Nat → Nat → Nat) (U c n : Nat) : Bool := decide (V (ms U (S c)) n + vW k 4096 c = V U c)
/-- what is still to serve, and the cell -/
def rd (k S : Nat → Nat) (V : Nat → Nat → Nat) (set st : Nat) : Nat → Nat × Nat
  | 0 => (set, st)
  | i + 1 => (ms (rd k S V set st i).1 (S (rd k S V set st i).2), (fo (rdP k S V (rd k S V set st i).1 (rd k S V set st i).2) (rd k S V set st i).2 4 0).getD 0)
section RD
variable {k S : Nat → Nat} {V : Nat → Nat → Nat} {st g m set : Nat}
theorem rd_end (hp : pg k S st g m V) {U c : Nat} (hU : U < 2 ^ m) (hc : c < 49) (h : ms U (S c) = 0 ∧ c = g) : V U c % 4096 = 1 ∧ V U c = vW k 4096 c := by
  have h1 := (hp.1.1 U c hU hc).1 h.1 h.2
  refine ⟨?_, h1⟩
  rw [h1]
  unfold vW
  omega
theorem rd_on (hp : pg k S st g m V) {U c : Nat} (hU : U < 2 ^ m) (hc : c < 49) (h : 1 < V U c % 4096) : ∃ n, fo (rdP k S V U c) c 4 0 = some n ∧ n < 49 ∧ V (ms U (S c)) n + vW k 4096 c = V U c ∧ V U c % 4096 = V (ms U (S c)) n % 4096 + 1 := by
  obtain ⟨s, n, hs, hn, e⟩ := (hp.1.1 U c hU hc).2.2 (fun q => by have := (rd_end hp hU hc q).1; omega)
  obtain ⟨n', hf⟩ := fo_e (P := rdP k S V U c) hn (decide_eq_true e.symm) 4 0 (by omega) (by omega)
  obtain ⟨s', hs', hn', hp'⟩ := fo_s 4 0 n' hf (by omega)
  have e' : V (ms U (S c)) n' + vW k 4096 c = V U c := of_decide_eq_true hp'
  exact ⟨n', hf, nb_lt hc hn', e', (hp.1.s hU hc (ms_lt _ hU) (nb_lt hc hn') e'.symm).2⟩
theorem rd_inv (hp : pg k S st g m V) (hs : set < 2 ^ m) : ∀ i, i < V set st % 4096 → (rd k S V set st i).1 < 2 ^ m ∧ ms (rd k S V set st i).1 set = 0 ∧ (rd k S V set st i).2 < 49 ∧ V (rd k S V set st i).1 (rd k S V set st i).2 % 4096 + i = V set st % 4096
  | 0, h => ⟨hs, ms_rf _, hp.2.2.2.2.2, rfl⟩
  | i + 1, h => by
    obtain ⟨h1, h2, h3, h4⟩ := rd_inv hp hs i (by omega)
    obtain ⟨n, e1, e2, e3, e4⟩ := rd_on hp h1 h3 (by omega)
    show ms _ _ < 2 ^ m ∧ ms (ms _ _) set = 0 ∧ (fo _ _ 4 0).getD 0 < 49 ∧ V (ms _ _) ((fo _ _ 4 0).getD 0) % 4096 + (i + 1) = _
    rw [e1]
    refine ⟨ms_lt _ h1, ms_tr (ms_in _ _) h2, e2, ?_⟩
    show V _ n % 4096 + (i + 1) = _
    omega
theorem rd_next (hp : pg k S st g m V) (hs : set < 2 ^ m) {i : Nat} (h : i + 1 < V set st % 4096) : fo (rdP k S V (rd k S V set st i).1 (rd k S V set st i).2) (rd k S V set st i).2 4 0 = some (rd k S V set st (i + 1)).2 ∧ V (rd k S V set st (i + 1)).1 (rd k S V set st (i + 1)).2 + vW k 4096 (rd k S V set st i).2 = V (rd k S V set st i).1 (rd k S V set st i).2 := by
  obtain ⟨h1, h2, h3, h4⟩ := rd_inv hp hs i (by omega)
  obtain ⟨n, e1, e2, e3, e4⟩ := rd_on hp h1 h3 (by omega)
  have en : (rd k S V set st (i + 1)).2 = n := by
    show (fo _ _ 4 0).getD 0 = n
    rw [e1]
    rfl
  rw [en]
  exact ⟨e1, e3⟩
theorem rd_last (hp : pg k S st g m V) (hs : set < 2 ^ m) {i : Nat} (h : i + 1 = V set st % 4096) : V (rd k S V set st i).1 (rd k S V set st i).2 = vW k 4096 (rd k S V set st i).2 := by
  obtain ⟨h1, h2, h3, h4⟩ := rd_inv hp hs i (by omega)
  by_cases q : ms (rd k S V set st i).1 (S (rd k S V set st i).2) = 0 ∧ (rd k S V set st i).2 = g
  · exact (rd_end hp h1 h3 q).2
  · obtain ⟨s, n, h5, hn, e⟩ := (hp.1.1 _ _ h1 h3).2.2 q
    have := (hp.1.s h1 h3 (ms_lt _ h1) (nb_lt h3 hn) e).2
    have := hp.1.b (ms_lt (S (rd k S V set st i).2) h1) (nb_lt h3 hn)
    omega
end RD
section WK
variable {o kp : Bool} {L : Nat} {I A : Nat → Nat → Int32}
theorem t_firstWith {f : Nat → Nat} {U c x : Nat} (ho : sx_o o true kp) (hU : U < 64) (hc : c < 49) (hr : rr U f A) (hb : ∀ d, d < 49 → f d < 2 ^ 31) (hx : x < 2 ^ 31) {n : Nat} (hn : fo (fun d => decide (f d = x)) c 4 0 = some n) : ev (lt_G o L) mm_Plan_firstWith [.ref (69 + U), .int (nI c), .int (nI x)] (sx true kp I A) (some (.int (nI n))) (sx true kp I A) := by
  have k1 := row_ak (L := L) hU
  have k2 := row_ln (L := L) hU
  have k3 : sx_up true kp (69 + U) = true := up_p (by omega)
  have key : ∀ r s x4, s + r = 4 → fo (fun d => decide (f d = x)) c r s = some n → rn (lt_G o L) mm_Plan_firstWith 2 [some (.ref (69 + U)), some (.int (nI c)), some (.int (nI x)), some (.int (nI s)), x4] [] (sx true kp I A) (fun a b => a = some (.int (nI n)) ∧ b = sx true kp I A) := by
    intro r
    induction r with
    | zero =>
      intro s x4 hs h
      cases h
    | succ r ih =>
      intro s x4 hs h
      have b1 : s < 2 ^ 31 := by omega
      have b2 : ¬ 4 ≤ s := by omega
      have tn := t_cellAt (G := lt_G o L) (S := sx true kp I A) (c := c) (s := s) hc (by omega)
      unfold fo at h
      rw [sq_Plan_firstWith_2]
      cases hq : nb c s with
      | none =>
        rw [hq] at h tn
        have tn : ev (lt_G o L) mm_Road_cellAt [.int (nI c), .int (nI s)] (sx true kp I A) (some (.int (-1))) (sx true kp I A) := tn
        simp (config := { decide := true }) only [sq_Plan_firstWith_0, sq_Plan_firstWith_1n, sq_Plan_firstWith_1i, sq_Plan_firstWith_1r, sq_Plan_firstWith_3, sq_Plan_firstWith_4, sq_Plan_firstWith_7, sq_Plan_firstWith_8, sq_Plan_firstWith_9, sq_Plan_firstWith_12n, sq_Plan_firstWith_12i, sq_Plan_firstWith_12r, sq_Plan_firstWith_14, sq_Plan_firstWith_16, sq_Plan_firstWith_19, sq_Plan_firstWith_20, sq_Plan_firstWith_22, sq_Plan_firstWith_23, sq_Plan_firstWith_24, sq_Plan_firstWith_27, sq_Plan_firstWith_29, sq_Plan_firstWith_30n, sq_Plan_firstWith_30i, sq_Plan_firstWith_30r, sq_Plan_firstWith_33, sq_Plan_firstWith_36, sq_Plan_firstWith_37, nI_leI, b1, b2, sq_Plan_firstWith_9 tn, nI_add, ho, up_b, true_or, or_true, and_self, and_true, true_and, false_implies, true_implies, not_true_eq_false, not_false_eq_true, ne_eq, u1_ne, u1_eq, Nat.add_zero, Nat.zero_add, Nat.reduceAdd, Nat.reduceMul, Option.toList, List.cons_append, List.nil_append, kx_cat_0, kx_cat_i, kx_cat_r, ak_3, ln_3, ab_3, ak_4, ln_4, ak_5, ln_5, ak_6, ln_6, ak_7, ln_7, ak_8, ln_8, ak_10, ln_10, ak_11, ln_11, ak_13, ln_13, ak_15, ln_15, ak_17, ln_17, ak_18, ln_18, ak_19, ln_19, ak_21, ln_21, ak_22, ln_22, ak_23, ln_23, ak_25, ln_25, ak_27, ln_27, ak_28, ln_28, ak_29, ln_29, ak_30, ln_30, ab_30, ak_31, ln_31, ak_32, ln_32, ak_33, ln_33, ak_34, ln_34, ak_36, ln_36, ab_36, ak_37, ln_37, ak_38, ln_38, ak_39, ln_39, ak_40, ln_40, ak_41, ln_41, ak_43, ln_43, ak_44, ln_44, ak_46, ln_46, ak_47, ln_47, ak_48, ln_48, ak_49, ln_49, ak_50, ln_50, ak_51, ln_51, ak_52, ln_52, ak_53, ln_53, ak_54, ln_54, ak_55, ln_55, ak_56, ln_56, ak_57, ln_57, ak_58, ln_58, ak_59, ln_59, ak_60, ln_60, ak_61, ln_61, ak_62, ln_62, ak_63, ln_63, ak_64, ln_64, ak_66, ln_66, ak_67, ln_67, ak_68, ln_68, ab_68, ak_69, ln_69, ak_70, ln_70, ak_71, ln_71, ak_72, ln_72, ak_73, ln_73, ak_74, ln_74, ak_75, ln_75, ak_76, ln_76, ak_77, ln_77, ak_78, ln_78, ak_79, ln_79, ak_80, ln_80, ak_81, ln_81, ak_82, ln_82, ak_83, ln_83, ak_84, ln_84, ak_85, ln_85, ak_86, ln_86, ak_87, ln_87, ak_88, ln_88, ak_89, ln_89, ak_90, ln_90, ak_91, ln_91, ak_92, ln_92, ak_93, ln_93, ak_94, ln_94, ak_95, ln_95, ak_96, ln_96, ak_97, ln_97, ak_98, ln_98, ak_99, ln_99, ak_100, ln_100, ak_101, ln_101, ak_102, ln_102, ak_103, ln_103, ak_104, ln_104, ak_105, ln_105, ak_106, ln_106, ak_107, ln_107, ak_108, ln_108, ak_109, ln_109, ak_110, ln_110, ak_111, ln_111, ak_112, ln_112, ak_113, ln_113, ak_114, ln_114, ak_115, ln_115, ak_116, ln_116, ak_117, ln_117, ak_118, ln_118, ak_119, ln_119, ak_120, ln_120, ak_121, ln_121, ak_122, ln_122, ak_123, ln_123, ak_124, ln_124, ak_125, ln_125, ak_126, ln_126, ak_127, ln_127, ak_128, ln_128, ak_129, ln_129, ak_130, ln_130, ak_131, ln_131, ak_132, ln_132, ak_133, ln_133, ak_134, ln_134, ak_135, ln_135, ak_138, ln_138, ab_138, ak_139, ln_139, ak_140, ln_140, ak_141, ln_141, ak_142, ln_142, ak_143, ln_143, ak_145, ln_145, ak_146, ln_146, ak_148, ln_148, ak_150, ln_150, ak_1000, ln_1000, ak_1001, ln_1001, ak_1002, ln_1002, ak_1003, ln_1003, ak_1004, ln_1004]
        exact ih (s + 1) _ (by omega) h
      | some d =>
        rw [hq] at h tn
        have tn : ev (lt_G o L) mm_Road_cellAt [.int (nI c), .int (nI s)] (sx true kp I A) (some (.int (nI d))) (sx true kp I A) := tn
        have d9 := nb_lt hc hq
        have n0 : ¬ nI d < 0 := nI_pos (by omega)
        have er := hr d d9
        have h : (if decide (f d = x) = true then some d else fo (fun d => decide (f d = x)) c r (s + 1)) = some n := h
        by_cases q : f d = x
        · rw [if_pos (decide_eq_true q)] at h
          have h := Option.some.inj h
          subst h
          have zq : (nI (f d) = nI x) = True := eq_true (by rw [q])
          simp (config := { decide := true }) only [sq_Plan_firstWith_0, sq_Plan_firstWith_1n, sq_Plan_firstWith_1i, sq_Plan_firstWith_1r, sq_Plan_firstWith_3, sq_Plan_firstWith_4, sq_Plan_firstWith_7, sq_Plan_firstWith_8, sq_Plan_firstWith_9, sq_Plan_firstWith_12n, sq_Plan_firstWith_12i, sq_Plan_firstWith_12r, sq_Plan_firstWith_14, sq_Plan_firstWith_16, sq_Plan_firstWith_19, sq_Plan_firstWith_20, sq_Plan_firstWith_22, sq_Plan_firstWith_23, sq_Plan_firstWith_24, sq_Plan_firstWith_27, sq_Plan_firstWith_29, sq_Plan_firstWith_30n, sq_Plan_firstWith_30i, sq_Plan_firstWith_30r, sq_Plan_firstWith_33, sq_Plan_firstWith_36, sq_Plan_firstWith_37, nI_leI, b1, b2, sq_Plan_firstWith_9 tn, n0, k1, k2, k3, d9, er, zq, ho, up_b, true_or, or_true, and_self, and_true, true_and, false_implies, true_implies, not_true_eq_false, not_false_eq_true, ne_eq, u1_ne, u1_eq, Nat.add_zero, Nat.zero_add, Nat.reduceAdd, Nat.reduceMul, Option.toList, List.cons_append, List.nil_append, kx_cat_0, kx_cat_i, kx_cat_r, ak_3, ln_3, ab_3, ak_4, ln_4, ak_5, ln_5, ak_6, ln_6, ak_7, ln_7, ak_8, ln_8, ak_10, ln_10, ak_11, ln_11, ak_13, ln_13, ak_15, ln_15, ak_17, ln_17, ak_18, ln_18, ak_19, ln_19, ak_21, ln_21, ak_22, ln_22, ak_23, ln_23, ak_25, ln_25, ak_27, ln_27, ak_28, ln_28, ak_29, ln_29, ak_30, ln_30, ab_30, ak_31, ln_31, ak_32, ln_32, ak_33, ln_33, ak_34, ln_34, ak_36, ln_36, ab_36, ak_37, ln_37, ak_38, ln_38, ak_39, ln_39, ak_40, ln_40, ak_41, ln_41, ak_43, ln_43, ak_44, ln_44, ak_46, ln_46, ak_47, ln_47, ak_48, ln_48, ak_49, ln_49, ak_50, ln_50, ak_51, ln_51, ak_52, ln_52, ak_53, ln_53, ak_54, ln_54, ak_55, ln_55, ak_56, ln_56, ak_57, ln_57, ak_58, ln_58, ak_59, ln_59, ak_60, ln_60, ak_61, ln_61, ak_62, ln_62, ak_63, ln_63, ak_64, ln_64, ak_66, ln_66, ak_67, ln_67, ak_68, ln_68, ab_68, ak_69, ln_69, ak_70, ln_70, ak_71, ln_71, ak_72, ln_72, ak_73, ln_73, ak_74, ln_74, ak_75, ln_75, ak_76, ln_76, ak_77, ln_77, ak_78, ln_78, ak_79, ln_79, ak_80, ln_80, ak_81, ln_81, ak_82, ln_82, ak_83, ln_83, ak_84, ln_84, ak_85, ln_85, ak_86, ln_86, ak_87, ln_87, ak_88, ln_88, ak_89, ln_89, ak_90, ln_90, ak_91, ln_91, ak_92, ln_92, ak_93, ln_93, ak_94, ln_94, ak_95, ln_95, ak_96, ln_96, ak_97, ln_97, ak_98, ln_98, ak_99, ln_99, ak_100, ln_100, ak_101, ln_101, ak_102, ln_102, ak_103, ln_103, ak_104, ln_104, ak_105, ln_105, ak_106, ln_106, ak_107, ln_107, ak_108, ln_108, ak_109, ln_109, ak_110, ln_110, ak_111, ln_111, ak_112, ln_112, ak_113, ln_113, ak_114, ln_114, ak_115, ln_115, ak_116, ln_116, ak_117, ln_117, ak_118, ln_118, ak_119, ln_119, ak_120, ln_120, ak_121, ln_121, ak_122, ln_122, ak_123, ln_123, ak_124, ln_124, ak_125, ln_125, ak_126, ln_126, ak_127, ln_127, ak_128, ln_128, ak_129, ln_129, ak_130, ln_130, ak_131, ln_131, ak_132, ln_132, ak_133, ln_133, ak_134, ln_134, ak_135, ln_135, ak_138, ln_138, ab_138, ak_139, ln_139, ak_140, ln_140, ak_141, ln_141, ak_142, ln_142, ak_143, ln_143, ak_145, ln_145, ak_146, ln_146, ak_148, ln_148, ak_150, ln_150, ak_1000, ln_1000, ak_1001, ln_1001, ak_1002, ln_1002, ak_1003, ln_1003, ak_1004, ln_1004]
        · rw [if_neg (by rw [decide_eq_true_eq]; exact q)] at h
          have zq : (nI (f d) = nI x) = False := eq_false (by rw [nI_eq (hb d d9) hx]; exact q)
          simp (config := { decide := true }) only [sq_Plan_firstWith_0, sq_Plan_firstWith_1n, sq_Plan_firstWith_1i, sq_Plan_firstWith_1r, sq_Plan_firstWith_3, sq_Plan_firstWith_4, sq_Plan_firstWith_7, sq_Plan_firstWith_8, sq_Plan_firstWith_9, sq_Plan_firstWith_12n, sq_Plan_firstWith_12i, sq_Plan_firstWith_12r, sq_Plan_firstWith_14, sq_Plan_firstWith_16, sq_Plan_firstWith_19, sq_Plan_firstWith_20, sq_Plan_firstWith_22, sq_Plan_firstWith_23, sq_Plan_firstWith_24, sq_Plan_firstWith_27, sq_Plan_firstWith_29, sq_Plan_firstWith_30n, sq_Plan_firstWith_30i, sq_Plan_firstWith_30r, sq_Plan_firstWith_33, sq_Plan_firstWith_36, sq_Plan_firstWith_37, nI_leI, b1, b2, sq_Plan_firstWith_9 tn, n0, k1, k2, k3, d9, er, zq, nI_add, ho, up_b, true_or, or_true, and_self, and_true, true_and, false_implies, true_implies, not_true_eq_false, not_false_eq_true, ne_eq, u1_ne, u1_eq, Nat.add_zero, Nat.zero_add, Nat.reduceAdd, Nat.reduceMul, Option.toList, List.cons_append, List.nil_append, kx_cat_0, kx_cat_i, kx_cat_r, ak_3, ln_3, ab_3, ak_4, ln_4, ak_5, ln_5, ak_6, ln_6, ak_7, ln_7, ak_8, ln_8, ak_10, ln_10, ak_11, ln_11, ak_13, ln_13, ak_15, ln_15, ak_17, ln_17, ak_18, ln_18, ak_19, ln_19, ak_21, ln_21, ak_22, ln_22, ak_23, ln_23, ak_25, ln_25, ak_27, ln_27, ak_28, ln_28, ak_29, ln_29, ak_30, ln_30, ab_30, ak_31, ln_31, ak_32, ln_32, ak_33, ln_33, ak_34, ln_34, ak_36, ln_36, ab_36, ak_37, ln_37, ak_38, ln_38, ak_39, ln_39, ak_40, ln_40, ak_41, ln_41, ak_43, ln_43, ak_44, ln_44, ak_46, ln_46, ak_47, ln_47, ak_48, ln_48, ak_49, ln_49, ak_50, ln_50, ak_51, ln_51, ak_52, ln_52, ak_53, ln_53, ak_54, ln_54, ak_55, ln_55, ak_56, ln_56, ak_57, ln_57, ak_58, ln_58, ak_59, ln_59, ak_60, ln_60, ak_61, ln_61, ak_62, ln_62, ak_63, ln_63, ak_64, ln_64, ak_66, ln_66, ak_67, ln_67, ak_68, ln_68, ab_68, ak_69, ln_69, ak_70, ln_70, ak_71, ln_71, ak_72, ln_72, ak_73, ln_73, ak_74, ln_74, ak_75, ln_75, ak_76, ln_76, ak_77, ln_77, ak_78, ln_78, ak_79, ln_79, ak_80, ln_80, ak_81, ln_81, ak_82, ln_82, ak_83, ln_83, ak_84, ln_84, ak_85, ln_85, ak_86, ln_86, ak_87, ln_87, ak_88, ln_88, ak_89, ln_89, ak_90, ln_90, ak_91, ln_91, ak_92, ln_92, ak_93, ln_93, ak_94, ln_94, ak_95, ln_95, ak_96, ln_96, ak_97, ln_97, ak_98, ln_98, ak_99, ln_99, ak_100, ln_100, ak_101, ln_101, ak_102, ln_102, ak_103, ln_103, ak_104, ln_104, ak_105, ln_105, ak_106, ln_106, ak_107, ln_107, ak_108, ln_108, ak_109, ln_109, ak_110, ln_110, ak_111, ln_111, ak_112, ln_112, ak_113, ln_113, ak_114, ln_114, ak_115, ln_115, ak_116, ln_116, ak_117, ln_117, ak_118, ln_118, ak_119, ln_119, ak_120, ln_120, ak_121, ln_121, ak_122, ln_122, ak_123, ln_123, ak_124, ln_124, ak_125, ln_125, ak_126, ln_126, ak_127, ln_127, ak_128, ln_128, ak_129, ln_129, ak_130, ln_130, ak_131, ln_131, ak_132, ln_132, ak_133, ln_133, ak_134, ln_134, ak_135, ln_135, ak_138, ln_138, ab_138, ak_139, ln_139, ak_140, ln_140, ak_141, ln_141, ak_142, ln_142, ak_143, ln_143, ak_145, ln_145, ak_146, ln_146, ak_148, ln_148, ak_150, ln_150, ak_1000, ln_1000, ak_1001, ln_1001, ak_1002, ln_1002, ak_1003, ln_1003, ak_1004, ln_1004]
          exact ih (s + 1) _ (by omega) h
  refine ev_of ?_
  show rn _ _ 0 [some (.ref (69 + U)), some (.int (nI c)), some (.int (nI x)), none, none] [] _ _
  simp (config := { decide := true }) only [sq_Plan_firstWith_0, sq_Plan_firstWith_1n, sq_Plan_firstWith_1i, sq_Plan_firstWith_1r, sq_Plan_firstWith_3, sq_Plan_firstWith_4, sq_Plan_firstWith_7, sq_Plan_firstWith_8, sq_Plan_firstWith_9, sq_Plan_firstWith_12n, sq_Plan_firstWith_12i, sq_Plan_firstWith_12r, sq_Plan_firstWith_14, sq_Plan_firstWith_16, sq_Plan_firstWith_19, sq_Plan_firstWith_20, sq_Plan_firstWith_22, sq_Plan_firstWith_23, sq_Plan_firstWith_24, sq_Plan_firstWith_27, sq_Plan_firstWith_29, sq_Plan_firstWith_30n, sq_Plan_firstWith_30i, sq_Plan_firstWith_30r, sq_Plan_firstWith_33, sq_Plan_firstWith_36, sq_Plan_firstWith_37, ho, up_b, true_or, or_true, and_self, and_true, true_and, false_implies, true_implies, not_true_eq_false, not_false_eq_true, ne_eq, u1_ne, u1_eq, Nat.add_zero, Nat.zero_add, Nat.reduceAdd, Nat.reduceMul, Option.toList, List.cons_append, List.nil_append, kx_cat_0, kx_cat_i, kx_cat_r, ak_3, ln_3, ab_3, ak_4, ln_4, ak_5, ln_5, ak_6, ln_6, ak_7, ln_7, ak_8, ln_8, ak_10, ln_10, ak_11, ln_11, ak_13, ln_13, ak_15, ln_15, ak_17, ln_17, ak_18, ln_18, ak_19, ln_19, ak_21, ln_21, ak_22, ln_22, ak_23, ln_23, ak_25, ln_25, ak_27, ln_27, ak_28, ln_28, ak_29, ln_29, ak_30, ln_30, ab_30, ak_31, ln_31, ak_32, ln_32, ak_33, ln_33, ak_34, ln_34, ak_36, ln_36, ab_36, ak_37, ln_37, ak_38, ln_38, ak_39, ln_39, ak_40, ln_40, ak_41, ln_41, ak_43, ln_43, ak_44, ln_44, ak_46, ln_46, ak_47, ln_47, ak_48, ln_48, ak_49, ln_49, ak_50, ln_50, ak_51, ln_51, ak_52, ln_52, ak_53, ln_53, ak_54, ln_54, ak_55, ln_55, ak_56, ln_56, ak_57, ln_57, ak_58, ln_58, ak_59, ln_59, ak_60, ln_60, ak_61, ln_61, ak_62, ln_62, ak_63, ln_63, ak_64, ln_64, ak_66, ln_66, ak_67, ln_67, ak_68, ln_68, ab_68, ak_69, ln_69, ak_70, ln_70, ak_71, ln_71, ak_72, ln_72, ak_73, ln_73, ak_74, ln_74, ak_75, ln_75, ak_76, ln_76, ak_77, ln_77, ak_78, ln_78, ak_79, ln_79, ak_80, ln_80, ak_81, ln_81, ak_82, ln_82, ak_83, ln_83, ak_84, ln_84, ak_85, ln_85, ak_86, ln_86, ak_87, ln_87, ak_88, ln_88, ak_89, ln_89, ak_90, ln_90, ak_91, ln_91, ak_92, ln_92, ak_93, ln_93, ak_94, ln_94, ak_95, ln_95, ak_96, ln_96, ak_97, ln_97, ak_98, ln_98, ak_99, ln_99, ak_100, ln_100, ak_101, ln_101, ak_102, ln_102, ak_103, ln_103, ak_104, ln_104, ak_105, ln_105, ak_106, ln_106, ak_107, ln_107, ak_108, ln_108, ak_109, ln_109, ak_110, ln_110, ak_111, ln_111, ak_112, ln_112, ak_113, ln_113, ak_114, ln_114, ak_115, ln_115, ak_116, ln_116, ak_117, ln_117, ak_118, ln_118, ak_119, ln_119, ak_120, ln_120, ak_121, ln_121, ak_122, ln_122, ak_123, ln_123, ak_124, ln_124, ak_125, ln_125, ak_126, ln_126, ak_127, ln_127, ak_128, ln_128, ak_129, ln_129, ak_130, ln_130, ak_131, ln_131, ak_132, ln_132, ak_133, ln_133, ak_134, ln_134, ak_135, ln_135, ak_138, ln_138, ab_138, ak_139, ln_139, ak_140, ln_140, ak_141, ln_141, ak_142, ln_142, ak_143, ln_143, ak_145, ln_145, ak_146, ln_146, ak_148, ln_148, ak_150, ln_150, ak_1000, ln_1000, ak_1001, ln_1001, ak_1002, ln_1002, ak_1003, ln_1003, ak_1004, ln_1004]
  exact key 4 0 none rfl hn
theorem t_laddc {pl : Bool} {i : Nat} {x : Int32} (ho : sx_o o pl kp) (hi : I 12 1 = nI i) (h : i < 60) : ev (lt_G o L) mm_Laid_add [.ref 12, .int x] (sx pl kp I A) none (sx pl kp (u2 I 12 1 (nI (i + 1))) (u2 A 13 i x)) := by
  have b1 : i < 2 ^ 31 := by omega
  have b2 : ¬ 60 ≤ i := by omega
  refine ev_of ?_
  show rn _ _ 0 [some (.ref 12), some (.int x)] [] _ _
  simp (config := { decide := true }) only [sq_Laid_add_0, sq_Laid_add_1_12, sq_Laid_add_1_147, sq_Laid_add_4, sq_Laid_add_6, sq_Laid_add_9, sq_Laid_add_10_12, sq_Laid_add_10_147, sq_Laid_add_13, sq_Laid_add_14_12, sq_Laid_add_14_147, sq_Laid_add_17, sq_Laid_add_18, sq_Laid_add_19, sq_Laid_add_20i, sq_Laid_add_20r, sq_Laid_add_21_12, sq_Laid_add_21_147, sq_Laid_add_24, sq_Laid_add_25, sq_Laid_add_26_12, sq_Laid_add_26_147, sq_Laid_add_29, hi, nI_leI, b1, b2, h, nI_add, ho, up_b, true_or, or_true, and_self, and_true, true_and, false_implies, true_implies, not_true_eq_false, not_false_eq_true, ne_eq, u1_ne, u1_eq, Nat.add_zero, Nat.zero_add, Nat.reduceAdd, Nat.reduceMul, Option.toList, List.cons_append, List.nil_append, kx_cat_0, kx_cat_i, kx_cat_r, ak_3, ln_3, ab_3, ak_4, ln_4, ak_5, ln_5, ak_6, ln_6, ak_7, ln_7, ak_8, ln_8, ak_10, ln_10, ak_11, ln_11, ak_13, ln_13, ak_15, ln_15, ak_17, ln_17, ak_18, ln_18, ak_19, ln_19, ak_21, ln_21, ak_22, ln_22, ak_23, ln_23, ak_25, ln_25, ak_27, ln_27, ak_28, ln_28, ak_29, ln_29, ak_30, ln_30, ab_30, ak_31, ln_31, ak_32, ln_32, ak_33, ln_33, ak_34, ln_34, ak_36, ln_36, ab_36, ak_37, ln_37, ak_38, ln_38, ak_39, ln_39, ak_40, ln_40, ak_41, ln_41, ak_43, ln_43, ak_44, ln_44, ak_46, ln_46, ak_47, ln_47, ak_48, ln_48, ak_49, ln_49, ak_50, ln_50, ak_51, ln_51, ak_52, ln_52, ak_53, ln_53, ak_54, ln_54, ak_55, ln_55, ak_56, ln_56, ak_57, ln_57, ak_58, ln_58, ak_59, ln_59, ak_60, ln_60, ak_61, ln_61, ak_62, ln_62, ak_63, ln_63, ak_64, ln_64, ak_66, ln_66, ak_67, ln_67, ak_68, ln_68, ab_68, ak_69, ln_69, ak_70, ln_70, ak_71, ln_71, ak_72, ln_72, ak_73, ln_73, ak_74, ln_74, ak_75, ln_75, ak_76, ln_76, ak_77, ln_77, ak_78, ln_78, ak_79, ln_79, ak_80, ln_80, ak_81, ln_81, ak_82, ln_82, ak_83, ln_83, ak_84, ln_84, ak_85, ln_85, ak_86, ln_86, ak_87, ln_87, ak_88, ln_88, ak_89, ln_89, ak_90, ln_90, ak_91, ln_91, ak_92, ln_92, ak_93, ln_93, ak_94, ln_94, ak_95, ln_95, ak_96, ln_96, ak_97, ln_97, ak_98, ln_98, ak_99, ln_99, ak_100, ln_100, ak_101, ln_101, ak_102, ln_102, ak_103, ln_103, ak_104, ln_104, ak_105, ln_105, ak_106, ln_106, ak_107, ln_107, ak_108, ln_108, ak_109, ln_109, ak_110, ln_110, ak_111, ln_111, ak_112, ln_112, ak_113, ln_113, ak_114, ln_114, ak_115, ln_115, ak_116, ln_116, ak_117, ln_117, ak_118, ln_118, ak_119, ln_119, ak_120, ln_120, ak_121, ln_121, ak_122, ln_122, ak_123, ln_123, ak_124, ln_124, ak_125, ln_125, ak_126, ln_126, ak_127, ln_127, ak_128, ln_128, ak_129, ln_129, ak_130, ln_130, ak_131, ln_131, ak_132, ln_132, ak_133, ln_133, ak_134, ln_134, ak_135, ln_135, ak_138, ln_138, ab_138, ak_139, ln_139, ak_140, ln_140, ak_141, ln_141, ak_142, ln_142, ak_143, ln_143, ak_145, ln_145, ak_146, ln_146, ak_148, ln_148, ak_150, ln_150, ak_1000, ln_1000, ak_1001, ln_1001, ak_1002, ln_1002, ak_1003, ln_1003, ak_1004, ln_1004]
/-- only the laid road has changed -/
def lf (I A I' A' : Nat → Nat → Int32) : Prop := (∀ a, a ≠ 13 → A' a = A a) ∧ ∀ a j, ¬ (a = 12 ∧ j = 1) → I' a j = I a j
def rw7 (w7 : Nat → Nat) (f : Nat → Nat) (n : Nat) : Nat → Nat := fun j => if j < n then f j else w7 j
theorem rw7_up {w7 f : Nat → Nat} {n : Nat} {A : Nat → Nat → Int32} (h : A 13 = nf (rw7 w7 f n)) : u2 A 13 n (nI (f n)) 13 = nf (rw7 w7 f (n + 1)) := by
  rw [u2_eq, h, nf_u]
  congr 1
  funext j
  unfold un rw7
  by_cases e : j = n
  · rw [if_pos e, if_pos (by omega), e]
  · rw [if_neg e]
    by_cases q : j < n
    · rw [if_pos q, if_pos (by omega)]
    · rw [if_neg q, if_neg (by omega)]
variable {k S : Nat → Nat} {V : Nat → Nat → Nat} {st g m set : Nat} {sd : Nat → Bool}
theorem c_walk {w7 : Nat → Nat} (ho : sx_o o true kp) (hp : pg k S st g m V) (hs : set < 2 ^ m) (hn : pn k S st g m V sd I A) (hsd : ∀ P, ms P set = 0 → sd P = true) (hN : V set st % 4096 ≤ 60) : ∀ r i I1 A1 x6, i + r = V set st % 4096 → lf I A I1 A1 → I1 12 1 = nI i → A1 13 = nf (rw7 w7 (fun j => (rd k S V set st j).2) i) → rn (lt_G o L) mm_Plan_walk 21 [some (.ref 65), some (.int (nI set)), some (.ref 12), some (.int (if r = 0 then (-1) else nI (rd k S V set st i).2)), some (.int (nI (rd k S V set st i).1)), some (.int (nI i)), x6] [] (sx true kp I1 A1) (fun a b => ∃ y : (Nat → Nat → Int32) × (Nat → Nat → Int32), a = none ∧ b = sx true kp y.1 y.2 ∧ lf I A y.1 y.2 ∧ y.1 12 1 = nI (V set st % 4096) ∧ y.2 13 = nf (rw7 w7 (fun j => (rd k S V set st j).2) (V set st % 4096))) := by
  have h64 := hp.h64
  obtain ⟨n1, n2, n3, n4, n5, _⟩ := hn
  intro r
  induction r with
  | zero =>
    intro i I1 A1 x6 hi hf h12 h13
    have e : i = V set st % 4096 := by omega
    have b1 : i < 2 ^ 31 := by omega
    rw [if_pos rfl, sq_Plan_walk_21]
    by_cases q : 60 ≤ i
    · simp (config := { decide := true }) only [sq_Plan_walk_0, sq_Plan_walk_1, sq_Plan_walk_2_65, sq_Plan_walk_5, sq_Plan_walk_6, sq_Plan_walk_7_12, sq_Plan_walk_7_147, sq_Plan_walk_10, sq_Plan_walk_11_65, sq_Plan_walk_14n, sq_Plan_walk_14i, sq_Plan_walk_14r, sq_Plan_walk_15, sq_Plan_walk_16n, sq_Plan_walk_16i, sq_Plan_walk_16r, sq_Plan_walk_18, sq_Plan_walk_19n, sq_Plan_walk_19i, sq_Plan_walk_19r, sq_Plan_walk_23, sq_Plan_walk_25, sq_Plan_walk_28, sq_Plan_walk_29, sq_Plan_walk_32, sq_Plan_walk_33, sq_Plan_walk_34_12, sq_Plan_walk_34_147, sq_Plan_walk_37, sq_Plan_walk_38_65, sq_Plan_walk_41, sq_Plan_walk_43, sq_Plan_walk_44, sq_Plan_walk_45, sq_Plan_walk_46, sq_Plan_walk_47_65, sq_Plan_walk_50, sq_Plan_walk_51, sq_Plan_walk_52, sq_Plan_walk_53n, sq_Plan_walk_53i, sq_Plan_walk_53r, sq_Plan_walk_55, sq_Plan_walk_57, sq_Plan_walk_58_65, sq_Plan_walk_61, sq_Plan_walk_62, sq_Plan_walk_63, sq_Plan_walk_64, sq_Plan_walk_65, sq_Plan_walk_66n, sq_Plan_walk_66i, sq_Plan_walk_66r, sq_Plan_walk_68, sq_Plan_walk_70, sq_Plan_walk_73, sq_Plan_walk_74, sq_Plan_walk_77, sq_Plan_walk_78_65, sq_Plan_walk_81, sq_Plan_walk_83, sq_Plan_walk_84, sq_Plan_walk_85, sq_Plan_walk_87, sq_Plan_walk_90n, sq_Plan_walk_90i, sq_Plan_walk_90r, sq_Plan_walk_91n, sq_Plan_walk_91i, sq_Plan_walk_91r, sq_Plan_walk_94, sq_Plan_walk_97, nI_leI, b1, q, ho, up_b, true_or, or_true, and_self, and_true, true_and, false_implies, true_implies, not_true_eq_false, not_false_eq_true, ne_eq, u1_ne, u1_eq, Nat.add_zero, Nat.zero_add, Nat.reduceAdd, Nat.reduceMul, Option.toList, List.cons_append, List.nil_append, kx_cat_0, kx_cat_i, kx_cat_r, ak_3, ln_3, ab_3, ak_4, ln_4, ak_5, ln_5, ak_6, ln_6, ak_7, ln_7, ak_8, ln_8, ak_10, ln_10, ak_11, ln_11, ak_13, ln_13, ak_15, ln_15, ak_17, ln_17, ak_18, ln_18, ak_19, ln_19, ak_21, ln_21, ak_22, ln_22, ak_23, ln_23, ak_25, ln_25, ak_27, ln_27, ak_28, ln_28, ak_29, ln_29, ak_30, ln_30, ab_30, ak_31, ln_31, ak_32, ln_32, ak_33, ln_33, ak_34, ln_34, ak_36, ln_36, ab_36, ak_37, ln_37, ak_38, ln_38, ak_39, ln_39, ak_40, ln_40, ak_41, ln_41, ak_43, ln_43, ak_44, ln_44, ak_46, ln_46, ak_47, ln_47, ak_48, ln_48, ak_49, ln_49, ak_50, ln_50, ak_51, ln_51, ak_52, ln_52, ak_53, ln_53, ak_54, ln_54, ak_55, ln_55, ak_56, ln_56, ak_57, ln_57, ak_58, ln_58, ak_59, ln_59, ak_60, ln_60, ak_61, ln_61, ak_62, ln_62, ak_63, ln_63, ak_64, ln_64, ak_66, ln_66, ak_67, ln_67, ak_68, ln_68, ab_68, ak_69, ln_69, ak_70, ln_70, ak_71, ln_71, ak_72, ln_72, ak_73, ln_73, ak_74, ln_74, ak_75, ln_75, ak_76, ln_76, ak_77, ln_77, ak_78, ln_78, ak_79, ln_79, ak_80, ln_80, ak_81, ln_81, ak_82, ln_82, ak_83, ln_83, ak_84, ln_84, ak_85, ln_85, ak_86, ln_86, ak_87, ln_87, ak_88, ln_88, ak_89, ln_89, ak_90, ln_90, ak_91, ln_91, ak_92, ln_92, ak_93, ln_93, ak_94, ln_94, ak_95, ln_95, ak_96, ln_96, ak_97, ln_97, ak_98, ln_98, ak_99, ln_99, ak_100, ln_100, ak_101, ln_101, ak_102, ln_102, ak_103, ln_103, ak_104, ln_104, ak_105, ln_105, ak_106, ln_106, ak_107, ln_107, ak_108, ln_108, ak_109, ln_109, ak_110, ln_110, ak_111, ln_111, ak_112, ln_112, ak_113, ln_113, ak_114, ln_114, ak_115, ln_115, ak_116, ln_116, ak_117, ln_117, ak_118, ln_118, ak_119, ln_119, ak_120, ln_120, ak_121, ln_121, ak_122, ln_122, ak_123, ln_123, ak_124, ln_124, ak_125, ln_125, ak_126, ln_126, ak_127, ln_127, ak_128, ln_128, ak_129, ln_129, ak_130, ln_130, ak_131, ln_131, ak_132, ln_132, ak_133, ln_133, ak_134, ln_134, ak_135, ln_135, ak_138, ln_138, ab_138, ak_139, ln_139, ak_140, ln_140, ak_141, ln_141, ak_142, ln_142, ak_143, ln_143, ak_145, ln_145, ak_146, ln_146, ak_148, ln_148, ak_150, ln_150, ak_1000, ln_1000, ak_1001, ln_1001, ak_1002, ln_1002, ak_1003, ln_1003, ak_1004, ln_1004]
      exact ⟨(I1, A1), rfl, hf, by rw [← e]; exact h12, by rw [← e]; exact h13⟩
    · have z : (-1 : Int32) < 0 := by decide
      simp (config := { decide := true }) only [sq_Plan_walk_0, sq_Plan_walk_1, sq_Plan_walk_2_65, sq_Plan_walk_5, sq_Plan_walk_6, sq_Plan_walk_7_12, sq_Plan_walk_7_147, sq_Plan_walk_10, sq_Plan_walk_11_65, sq_Plan_walk_14n, sq_Plan_walk_14i, sq_Plan_walk_14r, sq_Plan_walk_15, sq_Plan_walk_16n, sq_Plan_walk_16i, sq_Plan_walk_16r, sq_Plan_walk_18, sq_Plan_walk_19n, sq_Plan_walk_19i, sq_Plan_walk_19r, sq_Plan_walk_23, sq_Plan_walk_25, sq_Plan_walk_28, sq_Plan_walk_29, sq_Plan_walk_32, sq_Plan_walk_33, sq_Plan_walk_34_12, sq_Plan_walk_34_147, sq_Plan_walk_37, sq_Plan_walk_38_65, sq_Plan_walk_41, sq_Plan_walk_43, sq_Plan_walk_44, sq_Plan_walk_45, sq_Plan_walk_46, sq_Plan_walk_47_65, sq_Plan_walk_50, sq_Plan_walk_51, sq_Plan_walk_52, sq_Plan_walk_53n, sq_Plan_walk_53i, sq_Plan_walk_53r, sq_Plan_walk_55, sq_Plan_walk_57, sq_Plan_walk_58_65, sq_Plan_walk_61, sq_Plan_walk_62, sq_Plan_walk_63, sq_Plan_walk_64, sq_Plan_walk_65, sq_Plan_walk_66n, sq_Plan_walk_66i, sq_Plan_walk_66r, sq_Plan_walk_68, sq_Plan_walk_70, sq_Plan_walk_73, sq_Plan_walk_74, sq_Plan_walk_77, sq_Plan_walk_78_65, sq_Plan_walk_81, sq_Plan_walk_83, sq_Plan_walk_84, sq_Plan_walk_85, sq_Plan_walk_87, sq_Plan_walk_90n, sq_Plan_walk_90i, sq_Plan_walk_90r, sq_Plan_walk_91n, sq_Plan_walk_91i, sq_Plan_walk_91r, sq_Plan_walk_94, sq_Plan_walk_97, nI_leI, b1, q, z, ho, up_b, true_or, or_true, and_self, and_true, true_and, false_implies, true_implies, not_true_eq_false, not_false_eq_true, ne_eq, u1_ne, u1_eq, Nat.add_zero, Nat.zero_add, Nat.reduceAdd, Nat.reduceMul, Option.toList, List.cons_append, List.nil_append, kx_cat_0, kx_cat_i, kx_cat_r, ak_3, ln_3, ab_3, ak_4, ln_4, ak_5, ln_5, ak_6, ln_6, ak_7, ln_7, ak_8, ln_8, ak_10, ln_10, ak_11, ln_11, ak_13, ln_13, ak_15, ln_15, ak_17, ln_17, ak_18, ln_18, ak_19, ln_19, ak_21, ln_21, ak_22, ln_22, ak_23, ln_23, ak_25, ln_25, ak_27, ln_27, ak_28, ln_28, ak_29, ln_29, ak_30, ln_30, ab_30, ak_31, ln_31, ak_32, ln_32, ak_33, ln_33, ak_34, ln_34, ak_36, ln_36, ab_36, ak_37, ln_37, ak_38, ln_38, ak_39, ln_39, ak_40, ln_40, ak_41, ln_41, ak_43, ln_43, ak_44, ln_44, ak_46, ln_46, ak_47, ln_47, ak_48, ln_48, ak_49, ln_49, ak_50, ln_50, ak_51, ln_51, ak_52, ln_52, ak_53, ln_53, ak_54, ln_54, ak_55, ln_55, ak_56, ln_56, ak_57, ln_57, ak_58, ln_58, ak_59, ln_59, ak_60, ln_60, ak_61, ln_61, ak_62, ln_62, ak_63, ln_63, ak_64, ln_64, ak_66, ln_66, ak_67, ln_67, ak_68, ln_68, ab_68, ak_69, ln_69, ak_70, ln_70, ak_71, ln_71, ak_72, ln_72, ak_73, ln_73, ak_74, ln_74, ak_75, ln_75, ak_76, ln_76, ak_77, ln_77, ak_78, ln_78, ak_79, ln_79, ak_80, ln_80, ak_81, ln_81, ak_82, ln_82, ak_83, ln_83, ak_84, ln_84, ak_85, ln_85, ak_86, ln_86, ak_87, ln_87, ak_88, ln_88, ak_89, ln_89, ak_90, ln_90, ak_91, ln_91, ak_92, ln_92, ak_93, ln_93, ak_94, ln_94, ak_95, ln_95, ak_96, ln_96, ak_97, ln_97, ak_98, ln_98, ak_99, ln_99, ak_100, ln_100, ak_101, ln_101, ak_102, ln_102, ak_103, ln_103, ak_104, ln_104, ak_105, ln_105, ak_106, ln_106, ak_107, ln_107, ak_108, ln_108, ak_109, ln_109, ak_110, ln_110, ak_111, ln_111, ak_112, ln_112, ak_113, ln_113, ak_114, ln_114, ak_115, ln_115, ak_116, ln_116, ak_117, ln_117, ak_118, ln_118, ak_119, ln_119, ak_120, ln_120, ak_121, ln_121, ak_122, ln_122, ak_123, ln_123, ak_124, ln_124, ak_125, ln_125, ak_126, ln_126, ak_127, ln_127, ak_128, ln_128, ak_129, ln_129, ak_130, ln_130, ak_131, ln_131, ak_132, ln_132, ak_133, ln_133, ak_134, ln_134, ak_135, ln_135, ak_138, ln_138, ab_138, ak_139, ln_139, ak_140, ln_140, ak_141, ln_141, ak_142, ln_142, ak_143, ln_143, ak_145, ln_145, ak_146, ln_146, ak_148, ln_148, ak_150, ln_150, ak_1000, ln_1000, ak_1001, ln_1001, ak_1002, ln_1002, ak_1003, ln_1003, ak_1004, ln_1004]
      exact ⟨(I1, A1), rfl, hf, by rw [← e]; exact h12, by rw [← e]; exact h13⟩
  | succ r ih =>
    intro i I1 A1 x6 hi hf h12 h13
    have b1 : i < 2 ^ 31 := by omega
    have b2 : ¬ 60 ≤ i := by omega
    obtain ⟨h1, h2, h3, h4⟩ := rd_inv hp hs i (by omega)
    have n0 : ¬ nI (rd k S V set st i).2 < 0 := nI_pos (by omega)
    have e1 := t_laddc (L := L) (A := A1) (x := nI (rd k S V set st i).2) ho h12 (by omega)
    have U64 : (rd k S V set st i).1 < 64 := by omega
    have k1 := row_ak (L := L) U64
    have k2 := row_ln (L := L) U64
    have k3 : sx_up true kp (69 + (rd k S V set st i).1) = true := up_p (by omega)
    have t66 := (n1 (rd k S V set st i).2 h3).1
    have t67 := (n1 (rd k S V set st i).2 h3).2
    have tb := n5 (rd k S V set st i).1 h1 (hsd _ h2) (rd k S V set st i).2 h3
    have f66 : A1 66 = A 66 := hf.1 66 (by decide)
    have f67 : A1 67 = A 67 := hf.1 67 (by decide)
    have fb : A1 (69 + (rd k S V set st i).1) = A (69 + (rd k S V set st i).1) := hf.1 _ (by omega)
    have g66 : u2 A1 13 i (nI (rd k S V set st i).2) 66 = A 66 := by rw [u2_ne (by decide)]; exact f66
    have g67 : u2 A1 13 i (nI (rd k S V set st i).2) 67 = A 67 := by rw [u2_ne (by decide)]; exact f67
    have gb : u2 A1 13 i (nI (rd k S V set st i).2) (69 + (rd k S V set st i).1) = A (69 + (rd k S V set st i).1) := by rw [u2_ne (by omega)]; exact fb
    have em : nI (rd k S V set st i).1 &&& (nI (S (rd k S V set st i).2) ^^^ -1) = nI (ms (rd k S V set st i).1 (S (rd k S V set st i).2)) := nI_ms (by omega)
    have hlf : lf I A (u2 I1 12 1 (nI (i + 1))) (u2 A1 13 i (nI (rd k S V set st i).2)) := ⟨fun a ha => by rw [u2_ne ha]; exact hf.1 a ha, fun a j ha => by rw [u2_off ha]; exact hf.2 a j ha⟩
    have g13 : u2 A1 13 i (nI (rd k S V set st i).2) 13 = nf (rw7 w7 (fun j => (rd k S V set st j).2) (i + 1)) := rw7_up (f := fun j => (rd k S V set st j).2) h13
    have eU : (rd k S V set st (i + 1)).1 = ms (rd k S V set st i).1 (S (rd k S V set st i).2) := rfl
    have U1 : ms (rd k S V set st i).1 (S (rd k S V set st i).2) < 64 := ms_lt _ U64
    have ih := fun x6 => ih (i + 1) _ _ x6 (by omega) hlf u2_on g13
    rw [eU] at ih
    rw [if_neg (by omega), sq_Plan_walk_21]
    by_cases q : r = 0
    · have el := rd_last hp hs (i := i) (by omega)
      have z : (nI (V (rd k S V set st i).1 (rd k S V set st i).2) - nI (vW k 4096 (rd k S V set st i).2) = 0) = True := eq_true (by rw [el, pk_sub (Nat.le_refl _), Nat.sub_self]; rfl)
      rw [if_pos q] at ih
      simp (config := { decide := true }) only [sq_Plan_walk_0, sq_Plan_walk_1, sq_Plan_walk_2_65, sq_Plan_walk_5, sq_Plan_walk_6, sq_Plan_walk_7_12, sq_Plan_walk_7_147, sq_Plan_walk_10, sq_Plan_walk_11_65, sq_Plan_walk_14n, sq_Plan_walk_14i, sq_Plan_walk_14r, sq_Plan_walk_15, sq_Plan_walk_16n, sq_Plan_walk_16i, sq_Plan_walk_16r, sq_Plan_walk_18, sq_Plan_walk_19n, sq_Plan_walk_19i, sq_Plan_walk_19r, sq_Plan_walk_23, sq_Plan_walk_25, sq_Plan_walk_28, sq_Plan_walk_29, sq_Plan_walk_32, sq_Plan_walk_33, sq_Plan_walk_34_12, sq_Plan_walk_34_147, sq_Plan_walk_37, sq_Plan_walk_38_65, sq_Plan_walk_41, sq_Plan_walk_43, sq_Plan_walk_44, sq_Plan_walk_45, sq_Plan_walk_46, sq_Plan_walk_47_65, sq_Plan_walk_50, sq_Plan_walk_51, sq_Plan_walk_52, sq_Plan_walk_53n, sq_Plan_walk_53i, sq_Plan_walk_53r, sq_Plan_walk_55, sq_Plan_walk_57, sq_Plan_walk_58_65, sq_Plan_walk_61, sq_Plan_walk_62, sq_Plan_walk_63, sq_Plan_walk_64, sq_Plan_walk_65, sq_Plan_walk_66n, sq_Plan_walk_66i, sq_Plan_walk_66r, sq_Plan_walk_68, sq_Plan_walk_70, sq_Plan_walk_73, sq_Plan_walk_74, sq_Plan_walk_77, sq_Plan_walk_78_65, sq_Plan_walk_81, sq_Plan_walk_83, sq_Plan_walk_84, sq_Plan_walk_85, sq_Plan_walk_87, sq_Plan_walk_90n, sq_Plan_walk_90i, sq_Plan_walk_90r, sq_Plan_walk_91n, sq_Plan_walk_91i, sq_Plan_walk_91r, sq_Plan_walk_94, sq_Plan_walk_97, up_p, nI_leI, b1, b2, n0, sq_Plan_walk_34_12 e1, U64, k1, k2, k3, h3, gb, g66, g67, tb, t66, t67, em, z, nI_add, ho, up_b, true_or, or_true, and_self, and_true, true_and, false_implies, true_implies, not_true_eq_false, not_false_eq_true, ne_eq, u1_ne, u1_eq, Nat.add_zero, Nat.zero_add, Nat.reduceAdd, Nat.reduceMul, Option.toList, List.cons_append, List.nil_append, kx_cat_0, kx_cat_i, kx_cat_r, ak_3, ln_3, ab_3, ak_4, ln_4, ak_5, ln_5, ak_6, ln_6, ak_7, ln_7, ak_8, ln_8, ak_10, ln_10, ak_11, ln_11, ak_13, ln_13, ak_15, ln_15, ak_17, ln_17, ak_18, ln_18, ak_19, ln_19, ak_21, ln_21, ak_22, ln_22, ak_23, ln_23, ak_25, ln_25, ak_27, ln_27, ak_28, ln_28, ak_29, ln_29, ak_30, ln_30, ab_30, ak_31, ln_31, ak_32, ln_32, ak_33, ln_33, ak_34, ln_34, ak_36, ln_36, ab_36, ak_37, ln_37, ak_38, ln_38, ak_39, ln_39, ak_40, ln_40, ak_41, ln_41, ak_43, ln_43, ak_44, ln_44, ak_46, ln_46, ak_47, ln_47, ak_48, ln_48, ak_49, ln_49, ak_50, ln_50, ak_51, ln_51, ak_52, ln_52, ak_53, ln_53, ak_54, ln_54, ak_55, ln_55, ak_56, ln_56, ak_57, ln_57, ak_58, ln_58, ak_59, ln_59, ak_60, ln_60, ak_61, ln_61, ak_62, ln_62, ak_63, ln_63, ak_64, ln_64, ak_66, ln_66, ak_67, ln_67, ak_68, ln_68, ab_68, ak_69, ln_69, ak_70, ln_70, ak_71, ln_71, ak_72, ln_72, ak_73, ln_73, ak_74, ln_74, ak_75, ln_75, ak_76, ln_76, ak_77, ln_77, ak_78, ln_78, ak_79, ln_79, ak_80, ln_80, ak_81, ln_81, ak_82, ln_82, ak_83, ln_83, ak_84, ln_84, ak_85, ln_85, ak_86, ln_86, ak_87, ln_87, ak_88, ln_88, ak_89, ln_89, ak_90, ln_90, ak_91, ln_91, ak_92, ln_92, ak_93, ln_93, ak_94, ln_94, ak_95, ln_95, ak_96, ln_96, ak_97, ln_97, ak_98, ln_98, ak_99, ln_99, ak_100, ln_100, ak_101, ln_101, ak_102, ln_102, ak_103, ln_103, ak_104, ln_104, ak_105, ln_105, ak_106, ln_106, ak_107, ln_107, ak_108, ln_108, ak_109, ln_109, ak_110, ln_110, ak_111, ln_111, ak_112, ln_112, ak_113, ln_113, ak_114, ln_114, ak_115, ln_115, ak_116, ln_116, ak_117, ln_117, ak_118, ln_118, ak_119, ln_119, ak_120, ln_120, ak_121, ln_121, ak_122, ln_122, ak_123, ln_123, ak_124, ln_124, ak_125, ln_125, ak_126, ln_126, ak_127, ln_127, ak_128, ln_128, ak_129, ln_129, ak_130, ln_130, ak_131, ln_131, ak_132, ln_132, ak_133, ln_133, ak_134, ln_134, ak_135, ln_135, ak_138, ln_138, ab_138, ak_139, ln_139, ak_140, ln_140, ak_141, ln_141, ak_142, ln_142, ak_143, ln_143, ak_145, ln_145, ak_146, ln_146, ak_148, ln_148, ak_150, ln_150, ak_1000, ln_1000, ak_1001, ln_1001, ak_1002, ln_1002, ak_1003, ln_1003, ak_1004, ln_1004]
      exact ih _
    · obtain ⟨q1, q2⟩ := rd_next hp hs (i := i) (by omega)
      rw [eU] at q2
      have hV := hp.1.F h1 h3
      obtain ⟨y1, y2, y3, y4⟩ := rd_inv hp hs (i + 1) (by omega)
      rw [eU] at y1 y2 y4
      have d1 : nI (V (rd k S V set st i).1 (rd k S V set st i).2) - nI (vW k 4096 (rd k S V set st i).2) = nI (V (rd k S V set st i).1 (rd k S V set st i).2 - vW k 4096 (rd k S V set st i).2) := pk_sub (by omega)
      have ypos := (hp.1.b y1 y3).2.1
      have z : (nI (V (rd k S V set st i).1 (rd k S V set st i).2 - vW k 4096 (rd k S V set st i).2) = 0) = False := eq_false (nI_ne0 (by omega) (by omega))
      have hfo : fo (fun d => decide (V (ms (rd k S V set st i).1 (S (rd k S V set st i).2)) d = V (rd k S V set st i).1 (rd k S V set st i).2 - vW k 4096 (rd k S V set st i).2)) (rd k S V set st i).2 4 0 = some (rd k S V set st (i + 1)).2 := by
        rw [← q1]
        congr 1
        funext d
        unfold rdP
        rw [decide_eq_decide]
        omega
      have e2 := t_firstWith (L := L) (I := u2 I1 12 1 (nI (i + 1))) (A := u2 A1 13 i (nI (rd k S V set st i).2)) (f := V (ms (rd k S V set st i).1 (S (rd k S V set st i).2))) ho U1 h3 (fun d hd => by rw [u2_ne (by omega), hf.1 _ (by omega)]; exact n5 _ y1 (hsd _ y2) d hd) (fun d hd => by have := hp.1.F y1 hd; omega) (show V (rd k S V set st i).1 (rd k S V set st i).2 - vW k 4096 (rd k S V set st i).2 < 2 ^ 31 by omega) hfo
      rw [if_neg q] at ih
      simp (config := { decide := true }) only [sq_Plan_walk_0, sq_Plan_walk_1, sq_Plan_walk_2_65, sq_Plan_walk_5, sq_Plan_walk_6, sq_Plan_walk_7_12, sq_Plan_walk_7_147, sq_Plan_walk_10, sq_Plan_walk_11_65, sq_Plan_walk_14n, sq_Plan_walk_14i, sq_Plan_walk_14r, sq_Plan_walk_15, sq_Plan_walk_16n, sq_Plan_walk_16i, sq_Plan_walk_16r, sq_Plan_walk_18, sq_Plan_walk_19n, sq_Plan_walk_19i, sq_Plan_walk_19r, sq_Plan_walk_23, sq_Plan_walk_25, sq_Plan_walk_28, sq_Plan_walk_29, sq_Plan_walk_32, sq_Plan_walk_33, sq_Plan_walk_34_12, sq_Plan_walk_34_147, sq_Plan_walk_37, sq_Plan_walk_38_65, sq_Plan_walk_41, sq_Plan_walk_43, sq_Plan_walk_44, sq_Plan_walk_45, sq_Plan_walk_46, sq_Plan_walk_47_65, sq_Plan_walk_50, sq_Plan_walk_51, sq_Plan_walk_52, sq_Plan_walk_53n, sq_Plan_walk_53i, sq_Plan_walk_53r, sq_Plan_walk_55, sq_Plan_walk_57, sq_Plan_walk_58_65, sq_Plan_walk_61, sq_Plan_walk_62, sq_Plan_walk_63, sq_Plan_walk_64, sq_Plan_walk_65, sq_Plan_walk_66n, sq_Plan_walk_66i, sq_Plan_walk_66r, sq_Plan_walk_68, sq_Plan_walk_70, sq_Plan_walk_73, sq_Plan_walk_74, sq_Plan_walk_77, sq_Plan_walk_78_65, sq_Plan_walk_81, sq_Plan_walk_83, sq_Plan_walk_84, sq_Plan_walk_85, sq_Plan_walk_87, sq_Plan_walk_90n, sq_Plan_walk_90i, sq_Plan_walk_90r, sq_Plan_walk_91n, sq_Plan_walk_91i, sq_Plan_walk_91r, sq_Plan_walk_94, sq_Plan_walk_97, up_p, nI_leI, b1, b2, n0, sq_Plan_walk_34_12 e1, U64, U1, k1, k2, k3, h3, gb, g66, g67, tb, t66, t67, em, d1, z, sq_Plan_walk_87 e2, nI_add, ho, up_b, true_or, or_true, and_self, and_true, true_and, false_implies, true_implies, not_true_eq_false, not_false_eq_true, ne_eq, u1_ne, u1_eq, Nat.add_zero, Nat.zero_add, Nat.reduceAdd, Nat.reduceMul, Option.toList, List.cons_append, List.nil_append, kx_cat_0, kx_cat_i, kx_cat_r, ak_3, ln_3, ab_3, ak_4, ln_4, ak_5, ln_5, ak_6, ln_6, ak_7, ln_7, ak_8, ln_8, ak_10, ln_10, ak_11, ln_11, ak_13, ln_13, ak_15, ln_15, ak_17, ln_17, ak_18, ln_18, ak_19, ln_19, ak_21, ln_21, ak_22, ln_22, ak_23, ln_23, ak_25, ln_25, ak_27, ln_27, ak_28, ln_28, ak_29, ln_29, ak_30, ln_30, ab_30, ak_31, ln_31, ak_32, ln_32, ak_33, ln_33, ak_34, ln_34, ak_36, ln_36, ab_36, ak_37, ln_37, ak_38, ln_38, ak_39, ln_39, ak_40, ln_40, ak_41, ln_41, ak_43, ln_43, ak_44, ln_44, ak_46, ln_46, ak_47, ln_47, ak_48, ln_48, ak_49, ln_49, ak_50, ln_50, ak_51, ln_51, ak_52, ln_52, ak_53, ln_53, ak_54, ln_54, ak_55, ln_55, ak_56, ln_56, ak_57, ln_57, ak_58, ln_58, ak_59, ln_59, ak_60, ln_60, ak_61, ln_61, ak_62, ln_62, ak_63, ln_63, ak_64, ln_64, ak_66, ln_66, ak_67, ln_67, ak_68, ln_68, ab_68, ak_69, ln_69, ak_70, ln_70, ak_71, ln_71, ak_72, ln_72, ak_73, ln_73, ak_74, ln_74, ak_75, ln_75, ak_76, ln_76, ak_77, ln_77, ak_78, ln_78, ak_79, ln_79, ak_80, ln_80, ak_81, ln_81, ak_82, ln_82, ak_83, ln_83, ak_84, ln_84, ak_85, ln_85, ak_86, ln_86, ak_87, ln_87, ak_88, ln_88, ak_89, ln_89, ak_90, ln_90, ak_91, ln_91, ak_92, ln_92, ak_93, ln_93, ak_94, ln_94, ak_95, ln_95, ak_96, ln_96, ak_97, ln_97, ak_98, ln_98, ak_99, ln_99, ak_100, ln_100, ak_101, ln_101, ak_102, ln_102, ak_103, ln_103, ak_104, ln_104, ak_105, ln_105, ak_106, ln_106, ak_107, ln_107, ak_108, ln_108, ak_109, ln_109, ak_110, ln_110, ak_111, ln_111, ak_112, ln_112, ak_113, ln_113, ak_114, ln_114, ak_115, ln_115, ak_116, ln_116, ak_117, ln_117, ak_118, ln_118, ak_119, ln_119, ak_120, ln_120, ak_121, ln_121, ak_122, ln_122, ak_123, ln_123, ak_124, ln_124, ak_125, ln_125, ak_126, ln_126, ak_127, ln_127, ak_128, ln_128, ak_129, ln_129, ak_130, ln_130, ak_131, ln_131, ak_132, ln_132, ak_133, ln_133, ak_134, ln_134, ak_135, ln_135, ak_138, ln_138, ab_138, ak_139, ln_139, ak_140, ln_140, ak_141, ln_141, ak_142, ln_142, ak_143, ln_143, ak_145, ln_145, ak_146, ln_146, ak_148, ln_148, ak_150, ln_150, ak_1000, ln_1000, ak_1001, ln_1001, ak_1002, ln_1002, ak_1003, ln_1003, ak_1004, ln_1004]
      exact ih _
theorem t_walk {w7 : Nat → Nat} (ho : sx_o o true kp) (hp : pg k S st g m V) (hs : set < 2 ^ m) (hn : pn k S st g m V sd I A) (h13 : A 13 = nf w7) (hN : V set st % 4096 ≤ 60) : ∃ y : (Nat → Nat → Int32) × (Nat → Nat → Int32), ev (lt_G o L) mm_Plan_walk [.ref 65, .int (nI set), .ref 12] (sx true kp I A) none (sx true kp y.1 y.2) ∧ (∃ sd', pn k S st g m V sd' y.1 y.2) ∧ (∀ a, (a < 65 ∨ 135 < a) → a ≠ 13 → y.2 a = A a) ∧ (∀ a, a ≠ 65 → a ≠ 12 → y.1 a = I a) ∧ y.1 12 1 = nI (V set st % 4096) ∧ y.2 13 = nf (rw7 w7 (fun j => (rd k S V set st j).2) (V set st % 4096)) := by
  obtain ⟨⟨sd', I1, A1⟩, e1, e2, e3, e4⟩ := t_settleParts (L := L) ho hp hs hn
  have e1 : ev (lt_G o L) mm_Plan_settleParts [.ref 65, .int (nI set)] (sx true kp I A) none (sx true kp I1 A1) := e1
  have e2 : pn k S st g m V sd' I1 A1 := e2
  have e3 : ∀ P, ms P set = 0 → sd' P = true := e3
  have e4 : pf I A I1 A1 := e4
  have hb := hp.1.b hs hp.2.2.2.2.2
  have key := c_walk (L := L) (w7 := w7) ho hp hs e2 e3 hN (V set st % 4096) 0 (u2 I1 12 1 (nI 0)) A1 none (Nat.zero_add _) ⟨fun _ _ => rfl, fun a j h => u2_off h⟩ u2_on (by rw [e4.1 13 (by decide), h13]; rfl)
  rw [if_neg (by omega)] at key
  have i8 : I1 65 8 = nI st := e2.2.1
  have main : ∃ y : (Nat → Nat → Int32) × (Nat → Nat → Int32), ev (lt_G o L) mm_Plan_walk [.ref 65, .int (nI set), .ref 12] (sx true kp I A) none (sx true kp y.1 y.2) ∧ (lf I1 A1 y.1 y.2 ∧ y.1 12 1 = nI (V set st % 4096) ∧ y.2 13 = nf (rw7 w7 (fun j => (rd k S V set st j).2) (V set st % 4096))) := by
    refine ev_e (st := fun y : (Nat → Nat → Int32) × (Nat → Nat → Int32) => sx true kp y.1 y.2) ?_
    show rn _ _ 0 [some (.ref 65), some (.int (nI set)), some (.ref 12), none, none, none, none] [] _ _
    simp (config := { decide := true }) only [sq_Plan_walk_0, sq_Plan_walk_1, sq_Plan_walk_2_65, sq_Plan_walk_5, sq_Plan_walk_6, sq_Plan_walk_7_12, sq_Plan_walk_7_147, sq_Plan_walk_10, sq_Plan_walk_11_65, sq_Plan_walk_14n, sq_Plan_walk_14i, sq_Plan_walk_14r, sq_Plan_walk_15, sq_Plan_walk_16n, sq_Plan_walk_16i, sq_Plan_walk_16r, sq_Plan_walk_18, sq_Plan_walk_19n, sq_Plan_walk_19i, sq_Plan_walk_19r, sq_Plan_walk_23, sq_Plan_walk_25, sq_Plan_walk_28, sq_Plan_walk_29, sq_Plan_walk_32, sq_Plan_walk_33, sq_Plan_walk_34_12, sq_Plan_walk_34_147, sq_Plan_walk_37, sq_Plan_walk_38_65, sq_Plan_walk_41, sq_Plan_walk_43, sq_Plan_walk_44, sq_Plan_walk_45, sq_Plan_walk_46, sq_Plan_walk_47_65, sq_Plan_walk_50, sq_Plan_walk_51, sq_Plan_walk_52, sq_Plan_walk_53n, sq_Plan_walk_53i, sq_Plan_walk_53r, sq_Plan_walk_55, sq_Plan_walk_57, sq_Plan_walk_58_65, sq_Plan_walk_61, sq_Plan_walk_62, sq_Plan_walk_63, sq_Plan_walk_64, sq_Plan_walk_65, sq_Plan_walk_66n, sq_Plan_walk_66i, sq_Plan_walk_66r, sq_Plan_walk_68, sq_Plan_walk_70, sq_Plan_walk_73, sq_Plan_walk_74, sq_Plan_walk_77, sq_Plan_walk_78_65, sq_Plan_walk_81, sq_Plan_walk_83, sq_Plan_walk_84, sq_Plan_walk_85, sq_Plan_walk_87, sq_Plan_walk_90n, sq_Plan_walk_90i, sq_Plan_walk_90r, sq_Plan_walk_91n, sq_Plan_walk_91i, sq_Plan_walk_91r, sq_Plan_walk_94, sq_Plan_walk_97, up_p, sq_Plan_walk_2_65 e1, u2_off, i8, ho, up_b, true_or, or_true, and_self, and_true, true_and, false_implies, true_implies, not_true_eq_false, not_false_eq_true, ne_eq, u1_ne, u1_eq, Nat.add_zero, Nat.zero_add, Nat.reduceAdd, Nat.reduceMul, Option.toList, List.cons_append, List.nil_append, kx_cat_0, kx_cat_i, kx_cat_r, ak_3, ln_3, ab_3, ak_4, ln_4, ak_5, ln_5, ak_6, ln_6, ak_7, ln_7, ak_8, ln_8, ak_10, ln_10, ak_11, ln_11, ak_13, ln_13, ak_15, ln_15, ak_17, ln_17, ak_18, ln_18, ak_19, ln_19, ak_21, ln_21, ak_22, ln_22, ak_23, ln_23, ak_25, ln_25, ak_27, ln_27, ak_28, ln_28, ak_29, ln_29, ak_30, ln_30, ab_30, ak_31, ln_31, ak_32, ln_32, ak_33, ln_33, ak_34, ln_34, ak_36, ln_36, ab_36, ak_37, ln_37, ak_38, ln_38, ak_39, ln_39, ak_40, ln_40, ak_41, ln_41, ak_43, ln_43, ak_44, ln_44, ak_46, ln_46, ak_47, ln_47, ak_48, ln_48, ak_49, ln_49, ak_50, ln_50, ak_51, ln_51, ak_52, ln_52, ak_53, ln_53, ak_54, ln_54, ak_55, ln_55, ak_56, ln_56, ak_57, ln_57, ak_58, ln_58, ak_59, ln_59, ak_60, ln_60, ak_61, ln_61, ak_62, ln_62, ak_63, ln_63, ak_64, ln_64, ak_66, ln_66, ak_67, ln_67, ak_68, ln_68, ab_68, ak_69, ln_69, ak_70, ln_70, ak_71, ln_71, ak_72, ln_72, ak_73, ln_73, ak_74, ln_74, ak_75, ln_75, ak_76, ln_76, ak_77, ln_77, ak_78, ln_78, ak_79, ln_79, ak_80, ln_80, ak_81, ln_81, ak_82, ln_82, ak_83, ln_83, ak_84, ln_84, ak_85, ln_85, ak_86, ln_86, ak_87, ln_87, ak_88, ln_88, ak_89, ln_89, ak_90, ln_90, ak_91, ln_91, ak_92, ln_92, ak_93, ln_93, ak_94, ln_94, ak_95, ln_95, ak_96, ln_96, ak_97, ln_97, ak_98, ln_98, ak_99, ln_99, ak_100, ln_100, ak_101, ln_101, ak_102, ln_102, ak_103, ln_103, ak_104, ln_104, ak_105, ln_105, ak_106, ln_106, ak_107, ln_107, ak_108, ln_108, ak_109, ln_109, ak_110, ln_110, ak_111, ln_111, ak_112, ln_112, ak_113, ln_113, ak_114, ln_114, ak_115, ln_115, ak_116, ln_116, ak_117, ln_117, ak_118, ln_118, ak_119, ln_119, ak_120, ln_120, ak_121, ln_121, ak_122, ln_122, ak_123, ln_123, ak_124, ln_124, ak_125, ln_125, ak_126, ln_126, ak_127, ln_127, ak_128, ln_128, ak_129, ln_129, ak_130, ln_130, ak_131, ln_131, ak_132, ln_132, ak_133, ln_133, ak_134, ln_134, ak_135, ln_135, ak_138, ln_138, ab_138, ak_139, ln_139, ak_140, ln_140, ak_141, ln_141, ak_142, ln_142, ak_143, ln_143, ak_145, ln_145, ak_146, ln_146, ak_148, ln_148, ak_150, ln_150, ak_1000, ln_1000, ak_1001, ln_1001, ak_1002, ln_1002, ak_1003, ln_1003, ak_1004, ln_1004]
    exact key
  obtain ⟨⟨I2, A2⟩, q1, ⟨q2, q3⟩, q4, q5⟩ := main
  have q2 : ∀ a, a ≠ 13 → A2 a = A1 a := q2
  have q3 : ∀ a j, ¬ (a = 12 ∧ j = 1) → I2 a j = I1 a j := q3
  have q65 : I2 65 = I1 65 := funext (fun j => q3 65 j (by omega))
  refine ⟨(I2, A2), q1, ⟨sd', ?_⟩, fun a h1 h2 => (q2 a h2).trans (e4.1 a h1), fun a h1 h2 => ?_, q4, q5⟩
  · obtain ⟨p1, p2, p3, p4, p5, hh, p6⟩ := e2
    refine ⟨fun c hc => ?_, ?_, ?_, fun U hU => ?_, fun U hU hsd c hc => ?_, hh, ?_⟩
    · show A2 66 c = _ ∧ A2 67 c = _
      rw [q2 66 (by decide), q2 67 (by decide)]
      exact p1 c hc
    · show I2 65 8 = _
      rw [q65]
      exact p2
    · show I2 65 9 = _
      rw [q65]
      exact p3
    · show A2 133 U = _
      rw [q2 133 (by decide)]
      exact p4 U hU
    · show A2 (69 + U) c = _
      rw [q2 _ (by omega)]
      exact p5 U hU hsd c hc
    · obtain ⟨a1, a2, a3, a4, a5⟩ := p6
      refine ⟨a1, ?_, ?_, fun i n hi => by simp at hi, fun c hc => ?_⟩
      · show I2 65 6 = _
        rw [q65]
        exact a2
      · show I2 65 7 = _
        rw [q65]
        exact a3
      · show A2 135 c = _
        rw [q2 135 (by decide)]
        exact a5 c hc
  · show I2 a = I a
    rw [← e4.2 a h1]
    funext j
    exact q3 a j (fun z => h2 z.1)
end WK
