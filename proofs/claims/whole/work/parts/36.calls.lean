/-! What a call of each side is to do. -/
def sts (A : Nat → Nat → Int32) : Prop := A 1000 = lt_st 0 ∧ A 1001 = lt_st 1 ∧ A 1002 = lt_st 2 ∧ A 1003 = lt_st 3
def fr24 (I A I' A' : Nat → Nat → Int32) : Prop := ∀ a, 24 ≤ a → A' a = A a ∧ I' a = I a
def psame (w w' : Nat → Nat → Nat) : Prop := (∀ t, t < 7 → w' t = w t) ∧ ∀ j, j ≠ 2 → j ≠ 3 → w' 9 j = w 9 j
def co (w w' : Nat → Nat → Nat) (I A I' A' : Nat → Nat → Int32) : Prop := cw w' I' A' ∧ wk w' I' A' ∧ fr24 I A I' A' ∧ (I' 0 10 = nI 0 ∨ (I' 0 10 = I 0 10 ∧ psame w w'))
def CS (m : km_E) (vs : List Value) (r : Value) (w w' : Nat → Nat → Nat) : Prop := ∀ (o pl kp : Bool) (L : Nat) (I A : Nat → Nat → Int32), sx_o o pl kp → cw w I A → wk w I A → sts A → ∃ I' A', ev (lt_G o L) m (.ref 0 :: vs) (sx pl kp I A) (some r) (sx pl kp I' A') ∧ co w w' I A I' A'
def frR (I A I' A' : Nat → Nat → Int32) : Prop := (∀ a, (a < 45 ∨ a = 54 ∨ 60 ≤ a) → A' a = A a) ∧ (∀ a, a ≠ 45 → I' a = I a) ∧ I' 45 16 = I 45 16 ∧ I' 45 24 = I 45 24
def mo (w' : Nat → Nat → Nat) (I A I' A' : Nat → Nat → Int32) : Prop := mw w' I' A' ∧ frR I A I' A'
def MS (m : km_E) (vs : List Value) (r : Value) (w w' : Nat → Nat → Nat) : Prop := ∀ (o pl kp : Bool) (L : Nat) (I A : Nat → Nat → Int32), sx_o o pl kp → mw w I A → ∃ I' A', ev (lt_G o L) m (.ref 45 :: vs) (sx pl kp I A) (some r) (sx pl kp I' A') ∧ mo w' I A I' A'
def AG (c m : km_E) (vs : List Value) (w : Nat → Nat → Nat) : Prop := ∃ r w', wok w' ∧ CS c vs r w w' ∧ MS m vs r w w'
theorem psame.r {w : Nat → Nat → Nat} : psame w w := ⟨fun _ _ => rfl, fun _ _ _ => rfl⟩
theorem co.r {w : Nat → Nat → Nat} {I A : Nat → Nat → Int32} (h : cw w I A) (h2 : wk w I A) : co w w I A I A := ⟨h, h2, fun _ _ => ⟨rfl, rfl⟩, Or.inr ⟨rfl, psame.r⟩⟩
theorem mo.r {w : Nat → Nat → Nat} {I A : Nat → Nat → Int32} (h : mw w I A) : mo w I A I A := ⟨h, fun _ _ => rfl, fun _ _ => rfl, rfl, rfl⟩
theorem wf_co {w : Nat → Nat → Nat} {I A I' A' : Nat → Nat → Int32} (h : wf I A I' A') (hc : cw w I A) (hn : wk w I' A') : co w w I A I' A' := by
  refine ⟨wf_cw h hc, hn, fun a ha => ⟨h.1 a (by omega) (by omega), ?_⟩, Or.inr ⟨h.2 0 10 (by decide) (by decide), psame.r⟩⟩
  funext k
  exact h.2 a k (by omega) (by omega)
theorem wf_sts {I A I' A' : Nat → Nat → Int32} (h : wf I A I' A') (hc : sts A) : sts A' := by
  obtain ⟨a, b, c, d⟩ := hc
  refine ⟨?_, ?_, ?_, ?_⟩ <;> (rw [h.1 _ (by decide) (by decide)]; assumption)
/-- the water doesn't look at road, weights, drawn -/
def wsame (w w' : Nat → Nat → Nat) : Prop := w' 0 = w 0 ∧ w' 1 = w 1 ∧ w' 4 = w 4 ∧ w' 9 0 = w 9 0
theorem wsame.b {w w' : Nat → Nat → Nat} (h : wsame w w') (l : Nat) : w_b w' l = w_b w l := by
  unfold w_b w_sp w_low
  rw [h.1, h.2.1, h.2.2.1]
theorem wsame.d {w w' : Nat → Nat → Nat} (h : wsame w w') (l c : Nat) : w_d w' l c = w_d w l c := by
  unfold w_d
  rw [h.b, h.1, h.2.1]
theorem wsame_wk {w w' : Nat → Nat → Nat} (h : wsame w w') {I A I' A' : Nat → Nat → Int32} (hk : wk w I A) (h9 : I' 0 9 = I 0 9) (h17 : A' 17 = A 17) (h3 : I' 16 3 = I 16 3) : wk w' I' A' := by
  rcases hk with hk | ⟨a, b, c⟩
  · exact Or.inl (h9.trans hk)
  · refine Or.inr ⟨h9.trans a, fun k hk => ?_, ?_⟩
    · rw [h17, b k hk, h.2.2.2, h.d]
    · rw [h3, c, h.2.2.2]
      unfold w_n
      rw [h.b]
theorem wsame_7 {w : Nat → Nat → Nat} {k v : Nat} : wsame w (wu w 7 k v) := ⟨wu_ne (by decide), wu_ne (by decide), wu_ne (by decide), by rw [wu_ne (by decide)]⟩
theorem wsame_8 {w : Nat → Nat → Nat} {k v : Nat} : wsame w (wu w 8 k v) := ⟨wu_ne (by decide), wu_ne (by decide), wu_ne (by decide), by rw [wu_ne (by decide)]⟩
theorem wsame_9 {w : Nat → Nat → Nat} {k v : Nat} (h : k ≠ 0) : wsame w (wu w 9 k v) := ⟨wu_ne (by decide), wu_ne (by decide), wu_ne (by decide), by rw [wu_eq, un_ne (Ne.symm h)]⟩
theorem wsame.t {w w' w2 : Nat → Nat → Nat} (h : wsame w w') (h2 : wsame w' w2) : wsame w w2 := ⟨h2.1.trans h.1, h2.2.1.trans h.2.1, h2.2.2.1.trans h.2.2.1, h2.2.2.2.trans h.2.2.2⟩
theorem psame.t {w w' w2 : Nat → Nat → Nat} (h : psame w w') (h2 : psame w' w2) : psame w w2 := ⟨fun t ht => (h2.1 t ht).trans (h.1 t ht), fun j a b => (h2.2 j a b).trans (h.2 j a b)⟩
theorem psame_u {w : Nat → Nat → Nat} {t k v : Nat} (h : t = 7 ∨ t = 8 ∨ (t = 9 ∧ (k = 2 ∨ k = 3))) : psame w (wu w t k v) := by
  refine ⟨fun a ha => wu_ne (by omega), fun j h2 h3 => ?_⟩
  unfold wu
  split
  next e => subst e; exact un_ne (by omega)
  next => rfl
/-! Ranges. -/
theorem rg_of {a : Int32} {lo hi : Nat} (hh : hi < 2 ^ 31) (hl : lo < 2 ^ 31) (h : ¬ (a < nI lo ∨ nI hi < a)) : ∃ c, lo ≤ c ∧ c ≤ hi ∧ a = nI c := by
  have h1 : ¬ a < nI lo := fun q => h (Or.inl q)
  have h2 : ¬ nI hi < a := fun q => h (Or.inr q)
  have h0 : ¬ a < 0 := by
    rw [Int32.lt_iff_toInt_lt] at h1 ⊢
    rw [nI_toInt hl] at h1
    have : (0 : Int32).toInt = 0 := rfl
    omega
  obtain ⟨j, hj, rfl⟩ := nI_of h0
  rw [nI_ltI hj hl] at h1
  rw [nI_ltI hh hj] at h2
  exact ⟨j, by omega, by omega, rfl⟩
theorem rg_to {c lo hi : Nat} (hh : hi < 2 ^ 31) (h1 : lo ≤ c) (h2 : c ≤ hi) : ¬ (nI c < nI lo ∨ nI hi < nI c) := by
  rw [nI_ltI (by omega) (by omega), nI_ltI hh (by omega)]
  omega
theorem rg_n {a : Int32} {n : Nat} (hn : n < 2 ^ 31) (h : ¬ (a < nI 0 ∨ nI n - nI 1 < a)) : ∃ c, c < n ∧ a = nI c := by
  cases n with
  | zero =>
    exfalso
    apply h
    by_cases q : a < nI 0
    · exact Or.inl q
    · refine Or.inr ?_
      obtain ⟨j, hj, rfl⟩ := nI_of (x := a) q
      exact Int32.lt_of_lt_of_le (show nI 0 - nI 1 < nI 0 by decide) (Int32.not_lt.mp q)
  | succ n =>
    rw [pk_sub (by omega)] at h
    obtain ⟨c, _, h2, h3⟩ := rg_of (by omega) (by decide) h
    exact ⟨c, by omega, h3⟩
theorem rg_nt {c n : Nat} (hn : n < 2 ^ 31) (h : c < n) : ¬ (nI c < nI 0 ∨ nI n - nI 1 < nI c) := by
  rw [pk_sub (by omega)]
  exact rg_to (by omega) (by omega) (by omega)
section CB
variable {o pl kp : Bool} {L : Nat} {I A : Nat → Nat → Int32} {G : kg_G} {S : ks_S} {w : Nat → Nat → Nat}
theorem t_out1 {v a b : Int32} (h : v < a ∨ b < v) : ev G mm_Road_outside [.int v, .int a, .int b] S (some (.int (nI 1))) S := by
  have := t_outside (G := G) (S := S) (v := v) (a := a) (b := b)
  rw [if_pos h] at this
  exact this
theorem t_out0 {v a b : Int32} (h : ¬ (v < a ∨ b < v)) : ev G mm_Road_outside [.int v, .int a, .int b] S (some (.int (nI 0))) S := by
  have := t_outside (G := G) (S := S) (v := v) (a := a) (b := b)
  rw [if_neg h] at this
  exact this
theorem t_noCell1 {v : Int32} (h : v < nI 0 ∨ nI 48 < v) : ev G mm_Road_noCell [.int v] S (some (.int (nI 1))) S := by
  have := t_noCell (G := G) (S := S) (v := v)
  rw [if_pos h] at this
  exact this
theorem t_noCell0 {v : Int32} (h : ¬ (v < nI 0 ∨ nI 48 < v)) : ev G mm_Road_noCell [.int v] S (some (.int (nI 0))) S := by
  have := t_noCell (G := G) (S := S) (v := v)
  rw [if_neg h] at this
  exact this
theorem t_noSheet1 {v : Int32} (h : v < nI 0 ∨ nI 3 < v) : ev G mm_Road_noSheet [.int v] S (some (.int (nI 1))) S := by
  refine ev_of ?_
  show rn _ _ 0 [some (.int v)] [] _ _
  simp (config := { decide := true }) only [sq_Road_noSheet_0, sq_Road_noSheet_1, sq_Road_noSheet_2, sq_Road_noSheet_3, sq_Road_noSheet_6_0, sq_Road_noSheet_6_1, sq_Road_noSheet_3 (t_out1 h), Option.toList, List.cons_append, List.nil_append, kx_cat_0]
theorem t_noSheet0 {v : Int32} (h : ¬ (v < nI 0 ∨ nI 3 < v)) : ev G mm_Road_noSheet [.int v] S (some (.int (nI 0))) S := by
  refine ev_of ?_
  show rn _ _ 0 [some (.int v)] [] _ _
  simp (config := { decide := true }) only [sq_Road_noSheet_0, sq_Road_noSheet_1, sq_Road_noSheet_2, sq_Road_noSheet_3, sq_Road_noSheet_6_0, sq_Road_noSheet_6_1, sq_Road_noSheet_3 (t_out0 h), Option.toList, List.cons_append, List.nil_append, kx_cat_0]
theorem t_noLane1 {v : Int32} (h : v < nI 0 ∨ nI 2 < v) : ev G mm_Road_noLane [.int v] S (some (.int (nI 1))) S := by
  refine ev_of ?_
  show rn _ _ 0 [some (.int v)] [] _ _
  simp (config := { decide := true }) only [sq_Road_noLane_0, sq_Road_noLane_1, sq_Road_noLane_2, sq_Road_noLane_3, sq_Road_noLane_6_0, sq_Road_noLane_6_1, sq_Road_noLane_3 (t_out1 h), Option.toList, List.cons_append, List.nil_append, kx_cat_0]
theorem t_noLane0 {v : Int32} (h : ¬ (v < nI 0 ∨ nI 2 < v)) : ev G mm_Road_noLane [.int v] S (some (.int (nI 0))) S := by
  refine ev_of ?_
  show rn _ _ 0 [some (.int v)] [] _ _
  simp (config := { decide := true }) only [sq_Road_noLane_0, sq_Road_noLane_1, sq_Road_noLane_2, sq_Road_noLane_3, sq_Road_noLane_6_0, sq_Road_noLane_6_1, sq_Road_noLane_3 (t_out0 h), Option.toList, List.cons_append, List.nil_append, kx_cat_0]
theorem i2l_lt {a b : Int32} : a.toInt64 < b.toInt64 ↔ a < b := by
  rw [Int64.lt_iff_toInt_lt, Int32.lt_iff_toInt_lt, Int32.toInt_toInt64, Int32.toInt_toInt64]
theorem t_inL {a b c : Int64} : ev G mm_Model_in [.long a, .long b, .long c] S (some (.int (if a < b ∨ c < a then nI 0 else nI 1))) S := by
  refine ev_of ?_
  show rn _ _ 0 [some (.long a), none, some (.long b), none, some (.long c), none] [] _ _
  simp (config := { decide := true }) only [sq_Model_in_0, sq_Model_in_1, sq_Model_in_2, sq_Model_in_3, sq_Model_in_6, sq_Model_in_7, sq_Model_in_9, sq_Model_in_10, sq_Model_in_13, sq_Model_in_14, sq_Model_in_17, sq_Model_in_18_0, sq_Model_in_18_1, lg_cmp_lt, lg_cmp_gt, and_true]
  refine ⟨fun h => ?_, fun h => ⟨fun h2 => ?_, fun h2 => ?_⟩⟩
  · rw [if_pos (Or.inl h)]
  · rw [if_pos (Or.inr h2)]
  · rw [if_neg (fun q => q.elim h h2)]
theorem t_in1 {v lo hi : Int32} {y2 y3 : Int64} (e2 : y2 = lo.toInt64) (e3 : y3 = hi.toInt64) (h : ¬ (v < lo ∨ hi < v)) : ev G mm_Model_in [.long v.toInt64, .long y2, .long y3] S (some (.int (nI 1))) S := by
  have := t_inL (G := G) (S := S) (a := v.toInt64) (b := y2) (c := y3)
  rw [if_neg (by rw [e2, e3, i2l_lt, i2l_lt]; exact h)] at this
  exact this
theorem t_in0 {v lo hi : Int32} {y2 y3 : Int64} (e2 : y2 = lo.toInt64) (e3 : y3 = hi.toInt64) (h : v < lo ∨ hi < v) : ev G mm_Model_in [.long v.toInt64, .long y2, .long y3] S (some (.int (nI 0))) S := by
  have := t_inL (G := G) (S := S) (a := v.toInt64) (b := y2) (c := y3)
  rw [if_pos (by rw [e2, e3, i2l_lt, i2l_lt]; exact h)] at this
  exact this
theorem t_isCell1 {v : Int32} (h : ¬ (v < nI 0 ∨ nI 48 < v)) : ev G mm_Model_isCell [.int v] S (some (.int (nI 1))) S := by
  refine ev_of ?_
  show rn _ _ 0 [some (.int v)] [] _ _
  simp (config := { decide := true }) only [sq_Model_isCell_0, sq_Model_isCell_1, sq_Model_isCell_2, sq_Model_isCell_3, sq_Model_isCell_6, sq_Model_isCell_9_0, sq_Model_isCell_9_1, sq_Model_isCell_6 (t_in1 (y2 := 0) (y3 := 48) (by decide) (by decide) h), Option.toList, List.cons_append, List.nil_append, kx_cat_0]
theorem t_isCell0 {v : Int32} (h : v < nI 0 ∨ nI 48 < v) : ev G mm_Model_isCell [.int v] S (some (.int (nI 0))) S := by
  refine ev_of ?_
  show rn _ _ 0 [some (.int v)] [] _ _
  simp (config := { decide := true }) only [sq_Model_isCell_0, sq_Model_isCell_1, sq_Model_isCell_2, sq_Model_isCell_3, sq_Model_isCell_6, sq_Model_isCell_9_0, sq_Model_isCell_9_1, sq_Model_isCell_6 (t_in0 (y2 := 0) (y3 := 48) (by decide) (by decide) h), Option.toList, List.cons_append, List.nil_append, kx_cat_0]
theorem t_mostOf {t : Nat} (h : t < 5) : ev G mm_Model_mostOf [.int (nI t)] S (some (.int (nI (wl t 0)))) S := by
  refine ev_of ?_
  show rn _ _ 0 [some (.int (nI t))] [] _ _
  rcases (show t = 0 ∨ t = 1 ∨ t = 2 ∨ t = 3 ∨ t = 4 by omega) with rfl | rfl | rfl | rfl | rfl <;> simp (config := { decide := true }) only [sq_Model_mostOf_0, sq_Model_mostOf_1, sq_Model_mostOf_4, sq_Model_mostOf_6, sq_Model_mostOf_9, sq_Model_mostOf_10, sq_Model_mostOf_11, sq_Model_mostOf_14, sq_Model_mostOf_16, sq_Model_mostOf_19, sq_Model_mostOf_20, sq_Model_mostOf_21, sq_Model_mostOf_24, sq_Model_mostOf_25, sq_Model_mostOf_28, sq_Model_mostOf_29, up_b, true_or, or_true, and_self, and_true, true_and, false_implies, true_implies, not_true_eq_false, not_false_eq_true, ne_eq, u1_ne, u1_eq, Nat.add_zero, Nat.zero_add, Nat.reduceAdd, Nat.reduceMul, Option.toList, List.cons_append, List.nil_append, kx_cat_0, kx_cat_i, kx_cat_r, ak_3, ln_3, ab_3, ak_4, ln_4, ak_5, ln_5, ak_6, ln_6, ak_7, ln_7, ak_8, ln_8, ak_10, ln_10, ak_11, ln_11, ak_13, ln_13, ak_15, ln_15, ak_17, ln_17, ak_18, ln_18, ak_19, ln_19, ak_21, ln_21, ak_22, ln_22, ak_23, ln_23, ak_25, ln_25, ak_27, ln_27, ak_28, ln_28, ak_29, ln_29, ak_30, ln_30, ab_30, ak_31, ln_31, ak_32, ln_32, ak_33, ln_33, ak_34, ln_34, ak_36, ln_36, ab_36, ak_37, ln_37, ak_38, ln_38, ak_39, ln_39, ak_40, ln_40, ak_41, ln_41, ak_43, ln_43, ak_44, ln_44, ak_46, ln_46, ak_47, ln_47, ak_48, ln_48, ak_49, ln_49, ak_50, ln_50, ak_51, ln_51, ak_52, ln_52, ak_53, ln_53, ak_54, ln_54, ak_55, ln_55, ak_56, ln_56, ak_57, ln_57, ak_58, ln_58, ak_59, ln_59, ak_60, ln_60, ak_61, ln_61, ak_62, ln_62, ak_63, ln_63, ak_64, ln_64, ak_66, ln_66, ak_67, ln_67, ak_68, ln_68, ab_68, ak_69, ln_69, ak_70, ln_70, ak_71, ln_71, ak_72, ln_72, ak_73, ln_73, ak_74, ln_74, ak_75, ln_75, ak_76, ln_76, ak_77, ln_77, ak_78, ln_78, ak_79, ln_79, ak_80, ln_80, ak_81, ln_81, ak_82, ln_82, ak_83, ln_83, ak_84, ln_84, ak_85, ln_85, ak_86, ln_86, ak_87, ln_87, ak_88, ln_88, ak_89, ln_89, ak_90, ln_90, ak_91, ln_91, ak_92, ln_92, ak_93, ln_93, ak_94, ln_94, ak_95, ln_95, ak_96, ln_96, ak_97, ln_97, ak_98, ln_98, ak_99, ln_99, ak_100, ln_100, ak_101, ln_101, ak_102, ln_102, ak_103, ln_103, ak_104, ln_104, ak_105, ln_105, ak_106, ln_106, ak_107, ln_107, ak_108, ln_108, ak_109, ln_109, ak_110, ln_110, ak_111, ln_111, ak_112, ln_112, ak_113, ln_113, ak_114, ln_114, ak_115, ln_115, ak_116, ln_116, ak_117, ln_117, ak_118, ln_118, ak_119, ln_119, ak_120, ln_120, ak_121, ln_121, ak_122, ln_122, ak_123, ln_123, ak_124, ln_124, ak_125, ln_125, ak_126, ln_126, ak_127, ln_127, ak_128, ln_128, ak_129, ln_129, ak_130, ln_130, ak_131, ln_131, ak_132, ln_132, ak_133, ln_133, ak_134, ln_134, ak_135, ln_135, ak_138, ln_138, ab_138, ak_139, ln_139, ak_140, ln_140, ak_141, ln_141, ak_142, ln_142, ak_143, ln_143, ak_145, ln_145, ak_146, ln_146, ak_148, ln_148, ak_150, ln_150, ak_1000, ln_1000, ak_1001, ln_1001, ak_1002, ln_1002, ak_1003, ln_1003, ak_1004, ln_1004] <;> simp (config := { decide := true }) [wl]
end CB
