/-! The world as a pure thing: w t c; rows 0 .. 4 the traits, 5, 6 the villages' cells and loads, 7 the road, 8 the weights, 9: level, number of villages, length of the road, drawn, first end, second end. -/
def nf (f : Nat → Nat) : Nat → Int32 := fun j => nI (f j)
theorem nf_a {f : Nat → Nat} {j : Nat} : nf f j = nI (f j) := rfl
def un (f : Nat → Nat) (k v : Nat) : Nat → Nat := fun j => if j = k then v else f j
theorem nf_u {f : Nat → Nat} {k v : Nat} : upd (nf f) k (nI v) = nf (un f k v) := by
  funext j
  unfold upd nf un
  split <;> rfl
def wu (w : Nat → Nat → Nat) (t k v : Nat) : Nat → Nat → Nat := fun a => if a = t then un (w t) k v else w a
theorem wu_eq {w : Nat → Nat → Nat} {t k v : Nat} : wu w t k v t = un (w t) k v := if_pos rfl
theorem wu_ne {w : Nat → Nat → Nat} {t k v a : Nat} (h : a ≠ t) : wu w t k v a = w a := if_neg h
theorem un_eq {f : Nat → Nat} {k v : Nat} : un f k v k = v := if_pos rfl
theorem un_ne {f : Nat → Nat} {k v j : Nat} (h : j ≠ k) : un f k v j = f j := if_neg h
def wr (w : Nat → Nat → Nat) (t : Nat) (f : Nat → Nat) : Nat → Nat → Nat := fun a => if a = t then f else w a
theorem wr_eq {w : Nat → Nat → Nat} {t : Nat} {f : Nat → Nat} : wr w t f t = f := if_pos rfl
theorem wr_ne {w : Nat → Nat → Nat} {t a : Nat} {f : Nat → Nat} (h : a ≠ t) : wr w t f a = w a := if_neg h
def wl (t c : Nat) : Nat := match t with
  | 0 => 20
  | 1 => 9
  | 2 => 3
  | 3 => 1
  | 4 => 1
  | 5 => 48
  | 6 => 99
  | 7 => 48
  | 8 => 9
  | 9 => match c with
    | 0 => 40
    | 1 => 6
    | 2 => 60
    | 3 => 2147483647
    | 4 => 48
    | 5 => 48
    | _ => 0
  | _ => 0
theorem wl_lt (t c : Nat) : wl t c < 2 ^ 31 := by
  unfold wl
  split <;> first | decide | (split <;> decide)
def wok (w : Nat → Nat → Nat) : Prop := ∀ t c, w t c ≤ wl t c
theorem wok.lt {w : Nat → Nat → Nat} (h : wok w) (t c : Nat) : w t c < 2 ^ 31 := Nat.lt_of_le_of_lt (h t c) (wl_lt t c)
theorem wok.up {w : Nat → Nat → Nat} (h : wok w) {t k v : Nat} (hv : v ≤ wl t k) : wok (wu w t k v) := by
  intro a b
  unfold wu
  split
  next e =>
    subst e
    unfold un
    split
    next e => subst e; exact hv
    next => exact h a b
  next => exact h a b
theorem wok_wr {w : Nat → Nat → Nat} (h : wok w) {t : Nat} {f : Nat → Nat} (hf : ∀ k, f k ≤ wl t k) : wok (wr w t f) := by
  intro a b
  unfold wr
  split
  next e => subst e; exact hf b
  next => exact h a b
/-- the class holds the world -/
def cw (w : Nat → Nat → Nat) (I A : Nat → Nat → Int32) : Prop := (A 4 = nf (w 0) ∧ A 5 = nf (w 1) ∧ A 6 = nf (w 2) ∧ A 7 = nf (w 3) ∧ A 8 = nf (w 4)) ∧ (A 10 = nf (w 5) ∧ A 11 = nf (w 6) ∧ A 13 = nf (w 7) ∧ A 15 = nf (w 8)) ∧ I 2 1 = nI (w 9 0) ∧ I 9 2 = nI (w 9 1) ∧ I 12 1 = nI (w 9 2) ∧ I 14 1 = nI (w 9 3) ∧ I 1 4 = nI (w 9 4) ∧ I 1 5 = nI (w 9 5)
/-- villages are compared below their number alone -/
def ve (n : Nat) (f : Nat → Int32) (g : Nat → Nat) : Prop := ∀ i, i < n → f i = nI (g i)
theorem ve_up {n v : Nat} {f : Nat → Int32} {g : Nat → Nat} (h : ve n f g) : ve (n + 1) (upd f n (nI v)) (un g n v) := by
  intro i hi
  unfold upd un
  split
  · rfl
  · exact h i (by omega)
/-- the reference holds the world -/
def mw (w : Nat → Nat → Nat) (I A : Nat → Nat → Int32) : Prop := (∀ t c, t < 5 → c < 49 → A 46 (49 * t + c) = nI (w t c)) ∧ (ve (w 9 1) (A 47) (w 5) ∧ ve (w 9 1) (A 48) (w 6) ∧ A 49 = nf (w 7) ∧ A 50 = nf (w 8)) ∧ I 45 1 = nI (w 9 0) ∧ I 45 4 = nI (w 9 1) ∧ I 45 8 = nI (w 9 2) ∧ I 45 10 = nI (w 9 3) ∧ I 45 5 = nI (w 9 4) ∧ I 45 6 = nI (w 9 5)
theorem mw_z {w : Nat → Nat → Nat} {I A : Nat → Nat → Int32} (h : mw w I A) : (∀ c, c < 49 → A 46 c = nI (w 0 c)) ∧ (∀ c, c < 49 → A 46 (49 + c) = nI (w 1 c)) ∧ (∀ c, c < 49 → A 46 (98 + c) = nI (w 2 c)) ∧ (∀ c, c < 49 → A 46 (147 + c) = nI (w 3 c)) ∧ (∀ c, c < 49 → A 46 (196 + c) = nI (w 4 c)) := by
  have h := h.1
  refine ⟨fun c hc => ?_, fun c hc => ?_, fun c hc => ?_, fun c hc => ?_, fun c hc => ?_⟩
  · have := h 0 c (by decide) hc
    simpa using this
  · exact h 1 c (by decide) hc
  · exact h 2 c (by decide) hc
  · exact h 3 c (by decide) hc
  · exact h 4 c (by decide) hc
theorem nI_gt {n : Nat} (h0 : 0 < n) (h : n < 2 ^ 31) : 0 < nI n := nI_lt (a := 0) h0 h
theorem u2_off {A : Nat → Nat → Int32} {a k b j : Nat} {x : Int32} (h : ¬ (b = a ∧ j = k)) : u2 A a k x b j = A b j := by
  rw [u2_e]
  split
  next h1 => exact if_neg (fun h2 => h ⟨h1, h2⟩)
  next => rfl
theorem u2_on {A : Nat → Nat → Int32} {a k : Nat} {x : Int32} : u2 A a k x a k = x := by
  rw [u2_e, if_pos rfl, if_pos rfl]
/-! Water. -/
def w_sp (w : Nat → Nat → Nat) : Nat → Bool := fun c => decide (w 4 c = 1)
def w_low (w : Nat → Nat → Nat) (l : Nat) : Nat → Bool := fun c => decide (w 0 c + w 1 c < l)
def w_b (w : Nat → Nat → Nat) (l : Nat) : bs_T := bs_all (w_sp w) (w_low w l)
def w_n (w : Nat → Nat → Nat) (l : Nat) : Nat := (w_b w l).2.2
def w_d (w : Nat → Nat → Nat) (l c : Nat) : Nat := if (w_b w l).1 c = true then l - (w 0 c + w 1 c) else 0
theorem bs_I_all (sp low : Nat → Bool) : bs_I low (bs_all sp low) := by
  have h1 : ∀ m k b, k + m = 49 → bs_I low b → bs_I low (bs_fo (bs_p1 sp low) k m b) := by
    intro m
    induction m with
    | zero => intro k b _ hb; exact hb
    | succ m ih =>
      intro k b hk hb
      unfold bs_fo
      refine ih _ _ (by omega) ?_
      unfold bs_p1
      split
      · exact hb.soak (by omega)
      · exact hb
  have h2 : ∀ m i b, bs_I low b → bs_I low (bs_p2 low m i b) := by
    intro m
    induction m with
    | zero => intro i b hb; exact hb
    | succ m ih =>
      intro i b hb
      unfold bs_p2
      split
      next hi => exact ih _ _ (bs_fo_ge16 4 0 b hb hi).1
      next => exact hb
  exact h2 49 0 _ (h1 49 0 _ rfl (bs_I0 low))
theorem w_I (w : Nat → Nat → Nat) (l : Nat) : bs_I (w_low w l) (w_b w l) := bs_I_all _ _
theorem w_wet_lt {w : Nat → Nat → Nat} {l c : Nat} (h : (w_b w l).1 c = true) : w 0 c + w 1 c < l := by
  have := ((w_I w l).2.2 c h).1
  unfold w_low at this
  exact of_decide_eq_true this
theorem w_d_le (w : Nat → Nat → Nat) (l c : Nat) : w_d w l c ≤ l := by
  unfold w_d
  split
  · exact Nat.sub_le _ _
  · exact Nat.zero_le _
theorem w_d_pos {w : Nat → Nat → Nat} {l c : Nat} : 0 < w_d w l c ↔ (w_b w l).1 c = true := by
  unfold w_d
  constructor
  · intro h
    split at h
    next e => exact e
    next => exact absurd h (Nat.lt_irrefl 0)
  · intro h
    rw [if_pos h]
    have := w_wet_lt h
    omega
theorem w_n_le (w : Nat → Nat → Nat) (l : Nat) : w_n w l ≤ 49 := (w_I w l).le
/-- the water of the class is the world's -/
def wn (w : Nat → Nat → Nat) (I A : Nat → Nat → Int32) : Prop := I 0 9 = nI 1 ∧ (∀ c, c < 49 → A 17 c = nI (w_d w (w 9 0) c)) ∧ I 16 3 = nI (w_n w (w 9 0))
def wk (w : Nat → Nat → Nat) (I A : Nat → Nat → Int32) : Prop := I 0 9 = nI 0 ∨ wn w I A
/-- nothing but the water has changed -/
def wf (I A I' A' : Nat → Nat → Int32) : Prop := (∀ a, a ≠ 17 → a ≠ 18 → A' a = A a) ∧ ∀ a k, ¬ (a = 0 ∧ k = 9) → ¬ (a = 16 ∧ k = 3) → I' a k = I a k
theorem wf.r {I A : Nat → Nat → Int32} : wf I A I A := ⟨fun _ _ _ => rfl, fun _ _ _ _ => rfl⟩
theorem wf.t {I A I' A' I2 A2 : Nat → Nat → Int32} (h : wf I A I' A') (h2 : wf I' A' I2 A2) : wf I A I2 A2 := ⟨fun a x y => (h2.1 a x y).trans (h.1 a x y), fun a k x y => (h2.2 a k x y).trans (h.2 a k x y)⟩
theorem wf_cw {w : Nat → Nat → Nat} {I A I' A' : Nat → Nat → Int32} (h : wf I A I' A') (hc : cw w I A) : cw w I' A' := by
  obtain ⟨h1, h2⟩ := h
  obtain ⟨⟨a1, a2, a3, a4, a5⟩, ⟨a6, a7, a8, a9⟩, b1, b2, b3, b4, b5, b6⟩ := hc
  refine ⟨⟨?_, ?_, ?_, ?_, ?_⟩, ⟨?_, ?_, ?_, ?_⟩, ?_, ?_, ?_, ?_, ?_, ?_⟩ <;> first | (rw [h1 _ (by decide) (by decide)]; assumption) | (rw [h2 _ _ (by decide) (by decide)]; assumption)
/-- statics and script -/
def stt (xs : Nat → Int32) (A : Nat → Nat → Int32) : Prop := A 1000 = lt_st 0 ∧ A 1001 = lt_st 1 ∧ A 1002 = lt_st 2 ∧ A 1003 = lt_st 3 ∧ A 1004 = xs
theorem wf_stt {xs : Nat → Int32} {I A I' A' : Nat → Nat → Int32} (h : wf I A I' A') (hc : stt xs A) : stt xs A' := by
  obtain ⟨a, b, c, d, e⟩ := hc
  refine ⟨?_, ?_, ?_, ?_, ?_⟩ <;> (rw [h.1 _ (by decide) (by decide)]; assumption)
section CA
variable {o pl kp : Bool} {L : Nat} {I A : Nat → Nat → Int32} {G : kg_G} {S : ks_S} {w : Nat → Nat → Nat}
theorem n1_ne : ¬ nI 1 = 0 := by decide
theorem n0_eq : nI 0 = 0 := Eq.trans (Eq.refl _) (by decide)
theorem t_forget (ho : sx_o o pl kp) : ev (lt_G o L) mm_Road_forget [.ref 0] (sx pl kp I A) none (sx pl kp (u2 (u2 I 0 9 (nI 0)) 0 10 (nI 0)) A) := by
  refine ev_of ?_
  show rn _ _ 0 [some (.ref 0)] [] _ _
  have e : nI 0 = 0 ∨ nI 0 = 1 := Or.inl rfl
  simp (config := { decide := true }) only [sq_Road_forget_0, sq_Road_forget_1, sq_Road_forget_2_0, sq_Road_forget_5, sq_Road_forget_6, sq_Road_forget_7_0, sq_Road_forget_10, e, ho, up_b, true_or, or_true, and_self, and_true, true_and, false_implies, true_implies, not_true_eq_false, not_false_eq_true, ne_eq, u1_ne, u1_eq, Nat.add_zero, Nat.zero_add, Nat.reduceAdd, Nat.reduceMul, Option.toList, List.cons_append, List.nil_append, kx_cat_0, kx_cat_i, kx_cat_r, ak_3, ln_3, ab_3, ak_4, ln_4, ak_5, ln_5, ak_6, ln_6, ak_7, ln_7, ak_8, ln_8, ak_10, ln_10, ak_11, ln_11, ak_13, ln_13, ak_15, ln_15, ak_17, ln_17, ak_18, ln_18, ak_19, ln_19, ak_21, ln_21, ak_22, ln_22, ak_23, ln_23, ak_25, ln_25, ak_27, ln_27, ak_28, ln_28, ak_29, ln_29, ak_30, ln_30, ab_30, ak_31, ln_31, ak_32, ln_32, ak_33, ln_33, ak_34, ln_34, ak_36, ln_36, ab_36, ak_37, ln_37, ak_38, ln_38, ak_39, ln_39, ak_40, ln_40, ak_41, ln_41, ak_43, ln_43, ak_44, ln_44, ak_46, ln_46, ak_47, ln_47, ak_48, ln_48, ak_49, ln_49, ak_50, ln_50, ak_51, ln_51, ak_52, ln_52, ak_53, ln_53, ak_54, ln_54, ak_55, ln_55, ak_56, ln_56, ak_57, ln_57, ak_58, ln_58, ak_59, ln_59, ak_60, ln_60, ak_61, ln_61, ak_62, ln_62, ak_63, ln_63, ak_64, ln_64, ak_66, ln_66, ak_67, ln_67, ak_68, ln_68, ab_68, ak_69, ln_69, ak_70, ln_70, ak_71, ln_71, ak_72, ln_72, ak_73, ln_73, ak_74, ln_74, ak_75, ln_75, ak_76, ln_76, ak_77, ln_77, ak_78, ln_78, ak_79, ln_79, ak_80, ln_80, ak_81, ln_81, ak_82, ln_82, ak_83, ln_83, ak_84, ln_84, ak_85, ln_85, ak_86, ln_86, ak_87, ln_87, ak_88, ln_88, ak_89, ln_89, ak_90, ln_90, ak_91, ln_91, ak_92, ln_92, ak_93, ln_93, ak_94, ln_94, ak_95, ln_95, ak_96, ln_96, ak_97, ln_97, ak_98, ln_98, ak_99, ln_99, ak_100, ln_100, ak_101, ln_101, ak_102, ln_102, ak_103, ln_103, ak_104, ln_104, ak_105, ln_105, ak_106, ln_106, ak_107, ln_107, ak_108, ln_108, ak_109, ln_109, ak_110, ln_110, ak_111, ln_111, ak_112, ln_112, ak_113, ln_113, ak_114, ln_114, ak_115, ln_115, ak_116, ln_116, ak_117, ln_117, ak_118, ln_118, ak_119, ln_119, ak_120, ln_120, ak_121, ln_121, ak_122, ln_122, ak_123, ln_123, ak_124, ln_124, ak_125, ln_125, ak_126, ln_126, ak_127, ln_127, ak_128, ln_128, ak_129, ln_129, ak_130, ln_130, ak_131, ln_131, ak_132, ln_132, ak_133, ln_133, ak_134, ln_134, ak_135, ln_135, ak_138, ln_138, ab_138, ak_139, ln_139, ak_140, ln_140, ak_141, ln_141, ak_142, ln_142, ak_143, ln_143, ak_145, ln_145, ak_146, ln_146, ak_148, ln_148, ak_150, ln_150, ak_1000, ln_1000, ak_1001, ln_1001, ak_1002, ln_1002, ak_1003, ln_1003, ak_1004, ln_1004]
theorem t_waterNow1 (ho : sx_o o pl kp) (hw : wn w I A) : ev (lt_G o L) mm_Road_waterNow [.ref 0] (sx pl kp I A) (some (.ref 16)) (sx pl kp I A) := by
  refine ev_of ?_
  show rn _ _ 0 [some (.ref 0)] [] _ _
  have e := hw.1
  simp (config := { decide := true }) only [sq_Road_waterNow_0, sq_Road_waterNow_1_0, sq_Road_waterNow_4, sq_Road_waterNow_7, sq_Road_waterNow_8_0, sq_Road_waterNow_11, sq_Road_waterNow_12_0, sq_Road_waterNow_15_1, sq_Road_waterNow_15_136, sq_Road_waterNow_18, sq_Road_waterNow_19_0, sq_Road_waterNow_22_1, sq_Road_waterNow_22_136, sq_Road_waterNow_25_2, sq_Road_waterNow_25_35, sq_Road_waterNow_25_137, sq_Road_waterNow_28_16, sq_Road_waterNow_28_20, sq_Road_waterNow_31, sq_Road_waterNow_32, sq_Road_waterNow_33_0, sq_Road_waterNow_36, sq_Road_waterNow_37_0, sq_Road_waterNow_40, e, n1_ne, ho, up_b, true_or, or_true, and_self, and_true, true_and, false_implies, true_implies, not_true_eq_false, not_false_eq_true, ne_eq, u1_ne, u1_eq, Nat.add_zero, Nat.zero_add, Nat.reduceAdd, Nat.reduceMul, Option.toList, List.cons_append, List.nil_append, kx_cat_0, kx_cat_i, kx_cat_r, ak_3, ln_3, ab_3, ak_4, ln_4, ak_5, ln_5, ak_6, ln_6, ak_7, ln_7, ak_8, ln_8, ak_10, ln_10, ak_11, ln_11, ak_13, ln_13, ak_15, ln_15, ak_17, ln_17, ak_18, ln_18, ak_19, ln_19, ak_21, ln_21, ak_22, ln_22, ak_23, ln_23, ak_25, ln_25, ak_27, ln_27, ak_28, ln_28, ak_29, ln_29, ak_30, ln_30, ab_30, ak_31, ln_31, ak_32, ln_32, ak_33, ln_33, ak_34, ln_34, ak_36, ln_36, ab_36, ak_37, ln_37, ak_38, ln_38, ak_39, ln_39, ak_40, ln_40, ak_41, ln_41, ak_43, ln_43, ak_44, ln_44, ak_46, ln_46, ak_47, ln_47, ak_48, ln_48, ak_49, ln_49, ak_50, ln_50, ak_51, ln_51, ak_52, ln_52, ak_53, ln_53, ak_54, ln_54, ak_55, ln_55, ak_56, ln_56, ak_57, ln_57, ak_58, ln_58, ak_59, ln_59, ak_60, ln_60, ak_61, ln_61, ak_62, ln_62, ak_63, ln_63, ak_64, ln_64, ak_66, ln_66, ak_67, ln_67, ak_68, ln_68, ab_68, ak_69, ln_69, ak_70, ln_70, ak_71, ln_71, ak_72, ln_72, ak_73, ln_73, ak_74, ln_74, ak_75, ln_75, ak_76, ln_76, ak_77, ln_77, ak_78, ln_78, ak_79, ln_79, ak_80, ln_80, ak_81, ln_81, ak_82, ln_82, ak_83, ln_83, ak_84, ln_84, ak_85, ln_85, ak_86, ln_86, ak_87, ln_87, ak_88, ln_88, ak_89, ln_89, ak_90, ln_90, ak_91, ln_91, ak_92, ln_92, ak_93, ln_93, ak_94, ln_94, ak_95, ln_95, ak_96, ln_96, ak_97, ln_97, ak_98, ln_98, ak_99, ln_99, ak_100, ln_100, ak_101, ln_101, ak_102, ln_102, ak_103, ln_103, ak_104, ln_104, ak_105, ln_105, ak_106, ln_106, ak_107, ln_107, ak_108, ln_108, ak_109, ln_109, ak_110, ln_110, ak_111, ln_111, ak_112, ln_112, ak_113, ln_113, ak_114, ln_114, ak_115, ln_115, ak_116, ln_116, ak_117, ln_117, ak_118, ln_118, ak_119, ln_119, ak_120, ln_120, ak_121, ln_121, ak_122, ln_122, ak_123, ln_123, ak_124, ln_124, ak_125, ln_125, ak_126, ln_126, ak_127, ln_127, ak_128, ln_128, ak_129, ln_129, ak_130, ln_130, ak_131, ln_131, ak_132, ln_132, ak_133, ln_133, ak_134, ln_134, ak_135, ln_135, ak_138, ln_138, ab_138, ak_139, ln_139, ak_140, ln_140, ak_141, ln_141, ak_142, ln_142, ak_143, ln_143, ak_145, ln_145, ak_146, ln_146, ak_148, ln_148, ak_150, ln_150, ak_1000, ln_1000, ak_1001, ln_1001, ak_1002, ln_1002, ak_1003, ln_1003, ak_1004, ln_1004]
theorem cw_low (hw : wok w) (hc : cw w I A) {l : Nat} (hl : l ≤ 40) : ∀ c, c < 49 → (0 < nI l - (A 4 c + A 5 c) ↔ w_low w l c = true) := by
  intro c _
  obtain ⟨⟨a1, a2, a3, a4, a5⟩, _⟩ := hc
  rw [a1, a2, nf_a, nf_a, nI_add]
  have h0 : w 0 c ≤ 20 := hw 0 c
  have h1 : w 1 c ≤ 9 := hw 1 c
  have e : w_low w l c = true ↔ w 0 c + w 1 c < l := decide_eq_true_iff
  rw [e]
  by_cases h : w 0 c + w 1 c < l
  · rw [pk_sub (by omega)]
    exact ⟨fun _ => h, fun _ => nI_gt (by omega) (by omega)⟩
  · refine ⟨fun q => ?_, fun q => absurd q h⟩
    exfalso
    by_cases e2 : w 0 c + w 1 c = l
    · rw [e2, pk_sub (Nat.le_refl _), Nat.sub_self] at q
      exact absurd q (by decide)
    · have := pk_sneg (a := l) (b := w 0 c + w 1 c) (by omega) (by omega)
      exact absurd (Int32.lt_trans q this) (by decide)
theorem cw_sp (hw : wok w) (hc : cw w I A) : ∀ c, c < 49 → (A 8 c = nI 1 ↔ w_sp w c = true) := by
  intro c _
  obtain ⟨⟨a1, a2, a3, a4, a5⟩, _⟩ := hc
  rw [a5, nf_a, nI_eq (hw.lt 4 c) (by decide)]
  exact decide_eq_true_iff.symm
theorem cw_wd (hw : wok w) (hc : cw w I A) {l : Nat} (f0 : Nat → Int32) {c : Nat} (h9 : c < 49) : wd (nI l) (fun c => A 4 c + A 5 c) f0 (w_b w l).1 c = nI (w_d w l c) := by
  obtain ⟨⟨a1, a2, a3, a4, a5⟩, _⟩ := hc
  unfold wd w_d
  rw [if_pos h9]
  split
  next h =>
    have := w_wet_lt h
    show nI l - (A 4 c + A 5 c) = _
    rw [a1, a2, nf_a, nf_a, nI_add, pk_sub (by omega)]
  next => rfl
theorem t_waterNow (ho : sx_o o pl kp) (hw : wok w) (hc : cw w I A) (hk : wk w I A) : ∃ I' A', ev (lt_G o L) mm_Road_waterNow [.ref 0] (sx pl kp I A) (some (.ref 16)) (sx pl kp I' A') ∧ wn w I' A' ∧ wf I A I' A' := by
  rcases hk with hk | hk
  · have hl : w 9 0 ≤ 40 := hw 9 0
    have e1 : nI 1 = 0 ∨ nI 1 = 1 := Or.inr rfl
    have ei : I 2 1 = nI (w 9 0) := hc.2.2.1
    have key := t_rise16 (L := L) (I := I) (A := A) ho (cw_low hw hc hl) (cw_sp hw hc)
    refine ⟨u2 (u2 I 16 3 (nI (w_b w (w 9 0)).2.2)) 0 9 (nI 1), u1 (u1 A 17 (wd (nI (w 9 0)) (fun c => A 4 c + A 5 c) (A 17) (w_b w (w 9 0)).1)) 18 (wq (A 18) (w_b w (w 9 0)).2.1 (w_b w (w 9 0)).2.2), ?_, ⟨rfl, fun c h9 => ?_, rfl⟩, fun a h1 h2 => ?_, fun a k h1 h2 => ?_⟩
    · refine ev_of ?_
      show rn _ _ 0 [some (.ref 0)] [] _ _
      simp (config := { decide := true }) only [sq_Road_waterNow_0, sq_Road_waterNow_1_0, sq_Road_waterNow_4, sq_Road_waterNow_7, sq_Road_waterNow_8_0, sq_Road_waterNow_11, sq_Road_waterNow_12_0, sq_Road_waterNow_15_1, sq_Road_waterNow_15_136, sq_Road_waterNow_18, sq_Road_waterNow_19_0, sq_Road_waterNow_22_1, sq_Road_waterNow_22_136, sq_Road_waterNow_25_2, sq_Road_waterNow_25_35, sq_Road_waterNow_25_137, sq_Road_waterNow_28_16, sq_Road_waterNow_28_20, sq_Road_waterNow_31, sq_Road_waterNow_32, sq_Road_waterNow_33_0, sq_Road_waterNow_36, sq_Road_waterNow_37_0, sq_Road_waterNow_40, hk, ei, sq_Road_waterNow_28_16 key, e1, n0_eq, ho, up_b, true_or, or_true, and_self, and_true, true_and, false_implies, true_implies, not_true_eq_false, not_false_eq_true, ne_eq, u1_ne, u1_eq, Nat.add_zero, Nat.zero_add, Nat.reduceAdd, Nat.reduceMul, Option.toList, List.cons_append, List.nil_append, kx_cat_0, kx_cat_i, kx_cat_r, ak_3, ln_3, ab_3, ak_4, ln_4, ak_5, ln_5, ak_6, ln_6, ak_7, ln_7, ak_8, ln_8, ak_10, ln_10, ak_11, ln_11, ak_13, ln_13, ak_15, ln_15, ak_17, ln_17, ak_18, ln_18, ak_19, ln_19, ak_21, ln_21, ak_22, ln_22, ak_23, ln_23, ak_25, ln_25, ak_27, ln_27, ak_28, ln_28, ak_29, ln_29, ak_30, ln_30, ab_30, ak_31, ln_31, ak_32, ln_32, ak_33, ln_33, ak_34, ln_34, ak_36, ln_36, ab_36, ak_37, ln_37, ak_38, ln_38, ak_39, ln_39, ak_40, ln_40, ak_41, ln_41, ak_43, ln_43, ak_44, ln_44, ak_46, ln_46, ak_47, ln_47, ak_48, ln_48, ak_49, ln_49, ak_50, ln_50, ak_51, ln_51, ak_52, ln_52, ak_53, ln_53, ak_54, ln_54, ak_55, ln_55, ak_56, ln_56, ak_57, ln_57, ak_58, ln_58, ak_59, ln_59, ak_60, ln_60, ak_61, ln_61, ak_62, ln_62, ak_63, ln_63, ak_64, ln_64, ak_66, ln_66, ak_67, ln_67, ak_68, ln_68, ab_68, ak_69, ln_69, ak_70, ln_70, ak_71, ln_71, ak_72, ln_72, ak_73, ln_73, ak_74, ln_74, ak_75, ln_75, ak_76, ln_76, ak_77, ln_77, ak_78, ln_78, ak_79, ln_79, ak_80, ln_80, ak_81, ln_81, ak_82, ln_82, ak_83, ln_83, ak_84, ln_84, ak_85, ln_85, ak_86, ln_86, ak_87, ln_87, ak_88, ln_88, ak_89, ln_89, ak_90, ln_90, ak_91, ln_91, ak_92, ln_92, ak_93, ln_93, ak_94, ln_94, ak_95, ln_95, ak_96, ln_96, ak_97, ln_97, ak_98, ln_98, ak_99, ln_99, ak_100, ln_100, ak_101, ln_101, ak_102, ln_102, ak_103, ln_103, ak_104, ln_104, ak_105, ln_105, ak_106, ln_106, ak_107, ln_107, ak_108, ln_108, ak_109, ln_109, ak_110, ln_110, ak_111, ln_111, ak_112, ln_112, ak_113, ln_113, ak_114, ln_114, ak_115, ln_115, ak_116, ln_116, ak_117, ln_117, ak_118, ln_118, ak_119, ln_119, ak_120, ln_120, ak_121, ln_121, ak_122, ln_122, ak_123, ln_123, ak_124, ln_124, ak_125, ln_125, ak_126, ln_126, ak_127, ln_127, ak_128, ln_128, ak_129, ln_129, ak_130, ln_130, ak_131, ln_131, ak_132, ln_132, ak_133, ln_133, ak_134, ln_134, ak_135, ln_135, ak_138, ln_138, ab_138, ak_139, ln_139, ak_140, ln_140, ak_141, ln_141, ak_142, ln_142, ak_143, ln_143, ak_145, ln_145, ak_146, ln_146, ak_148, ln_148, ak_150, ln_150, ak_1000, ln_1000, ak_1001, ln_1001, ak_1002, ln_1002, ak_1003, ln_1003, ak_1004, ln_1004]
      rfl
    · rw [u1_ne (by decide), u1_eq]
      exact cw_wd hw hc _ h9
    · rw [u1_ne h2, u1_ne h1]
    · rw [u2_off h1, u2_off h2]
  · exact ⟨I, A, t_waterNow1 ho hk, hk, wf.r⟩
end CA
