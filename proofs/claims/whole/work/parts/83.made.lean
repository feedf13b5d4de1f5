/-! What is made late: the plan, the kept world. -/
def mix (I iv : Nat → Nat → Int32) : Nat → Nat → Int32 := fun i k => if sx_rf i k = true then I i k else iv i k
theorem mix_ne {I iv : Nat → Nat → Int32} {a : Nat} (h : ∀ k, sx_rf a k = false → iv a k = I a k) : mix I iv a = I a := by
  funext k
  unfold mix
  cases hr : sx_rf a k with
  | true => rw [if_pos rfl]
  | false =>
    rw [if_neg (by decide)]
    exact h k hr
theorem mix_at {I iv : Nat → Nat → Int32} {i k : Nat} (h : sx_rf i k = false) : mix I iv i k = iv i k := by
  unfold mix
  rw [h]
  rfl
theorem sx_mk {pl kp : Bool} {iv av : Nat → Nat → Int32} {n s : Nat} (I : Nat → Nat → Int32) (h : ∀ i k, sx_rf i k = true → iv i k = sx_iv pl kp (fun _ _ => 0) i k) (hn : n = sx_n pl kp) (hs : s = sx_s pl kp) : (iv, av, n, s) = sx pl kp (mix I iv) av := by
  rw [sx_raw h hn hs]
  unfold sx
  refine Prod.ext ?_ rfl
  funext i k
  show sx_iv pl kp iv i k = sx_iv pl kp (mix I iv) i k
  unfold sx_iv mix
  cases hr : sx_rf i k with
  | true => rfl
  | false => rfl
def rf_k (i k : Nat) : Bool := (decide (i ≤ 65) || decide (136 ≤ i)) && (decide (i ≠ 65) || decide (k < 6)) && (decide (i < 136) || (decide (i = 136) && decide (k < 4)) || (decide (i = 137) && decide (k < 1)) || (decide (i = 144) && decide (k < 2)) || (decide (i = 147) && decide (k < 1)) || (decide (i = 149) && decide (k < 1)))
theorem rf_a : (List.range 151).all (fun i => (List.range 30).all (fun k => !sx_rf i k || rf_k i k)) = true := by decide +kernel
theorem rf_no {i k : Nat} (h : sx_rf i k = true) : ¬ (65 < i ∧ i < 136) ∧ (i = 65 → k < 6) ∧ (136 ≤ i → (i = 136 ∧ k < 4) ∨ (i = 137 ∧ k < 1) ∨ (i = 144 ∧ k < 2) ∨ (i = 147 ∧ k < 1) ∨ (i = 149 ∧ k < 1)) := by
  obtain ⟨h1, h2⟩ := rf_lt h
  have h3 := List.all_eq_true.1 (List.all_eq_true.1 rf_a i (List.mem_range.2 h1)) k (List.mem_range.2 h2)
  rw [h] at h3
  have h4 : rf_k i k = true := h3
  unfold rf_k at h4
  simp only [Bool.and_eq_true, Bool.or_eq_true, decide_eq_true_eq] at h4
  omega
theorem sx_iv_r {pl kp : Bool} {I : Nat → Nat → Int32} {i k : Nat} (h : sx_rf i k = true) : sx_iv pl kp I i k = if i = 0 ∧ k = 7 then sx_b kp else if i = 0 ∧ k = 8 then sx_b pl else if i < 65 then 1 else if i < 136 then sx_b pl else sx_b kp := by
  unfold sx_iv
  rw [if_pos h]
theorem sx_iv_n {pl kp : Bool} {I : Nat → Nat → Int32} {i k : Nat} (h : sx_rf i k = false) : sx_iv pl kp I i k = I i k := by
  unfold sx_iv
  rw [h]
  rfl
theorem ivPt_off {X : Nat → Nat → Int32} {i k : Nat} (h : i ≠ 65) (h2 : ¬ (i = 0 ∧ k = 8)) : ivPt X i k = X i k := by
  unfold ivPt
  rw [u2_off h2]
  simp only [u2_ne h, u1_ne h]
theorem ivPt_w {I : Nat → Nat → Int32} {i k : Nat} (h : sx_rf i k = true) : ivPt (sx_iv false false I) i k = sx_iv true false (fun _ _ => 0) i k := by
  obtain ⟨h3, h4, _⟩ := rf_no h
  by_cases e : i = 65
  · subst e
    have h4 := h4 rfl
    rcases (show k = 0 ∨ k = 1 ∨ k = 2 ∨ k = 3 ∨ k = 4 ∨ k = 5 by omega) with rfl | rfl | rfl | rfl | rfl | rfl <;> rfl
  · by_cases e2 : i = 0 ∧ k = 8
    · obtain ⟨rfl, rfl⟩ := e2
      rfl
    · rw [ivPt_off e e2, sx_iv_r h, sx_iv_r h, if_neg e2, if_neg e2]
      split
      · rfl
      · split
        · rfl
        · rw [if_neg (by omega), if_neg (by omega)]
theorem avPt_off {X : Nat → Nat → Int32} {a : Nat} (h : a < 65 ∨ 135 < a) : avPt X a = X a := by
  unfold avPt mrow
  rw [u1_ne (by omega), u1_ne (by omega), u1_ne (by omega), if_neg (by omega), u1_ne (by omega), u1_ne (by omega)]
theorem ivPf_off {X : Nat → Nat → Int32} {i k : Nat} (h : i ≠ 65) (h2 : ¬ (i = 0 ∧ k = 8)) : ivPf X i k = X i k := by
  unfold ivPf
  rw [u2_off h2]
  simp only [u2_ne h, u1_ne h]
theorem ivPf_w {I : Nat → Nat → Int32} {i k : Nat} (h : sx_rf i k = true) : ivPf (sx_iv false true I) i k = sx_iv true true (fun _ _ => 0) i k := by
  obtain ⟨h3, h4, _⟩ := rf_no h
  by_cases e : i = 65
  · subst e
    have h4 := h4 rfl
    rcases (show k = 0 ∨ k = 1 ∨ k = 2 ∨ k = 3 ∨ k = 4 ∨ k = 5 by omega) with rfl | rfl | rfl | rfl | rfl | rfl <;> rfl
  · by_cases e2 : i = 0 ∧ k = 8
    · obtain ⟨rfl, rfl⟩ := e2
      rfl
    · rw [ivPf_off e e2, sx_iv_r h, sx_iv_r h, if_neg e2, if_neg e2]
      split
      · rfl
      · split
        · rfl
        · rw [if_neg (by omega), if_neg (by omega)]
theorem avPf_off {X : Nat → Nat → Int32} {a : Nat} (h : a < 65 ∨ 135 < a) : avPf X a = X a := by
  unfold avPf mrow
  rw [u1_ne (by omega), u1_ne (by omega), u1_ne (by omega), if_neg (by omega), u1_ne (by omega), u1_ne (by omega)]
theorem cw_of {w : Nat → Nat → Nat} {I A I' A' : Nat → Nat → Int32} (h1 : ∀ a, a < 24 → A' a = A a) (h2 : ∀ a, a < 24 → I' a = I a) (hc : cw w I A) : cw w I' A' := by
  obtain ⟨⟨a1, a2, a3, a4, a5⟩, ⟨a6, a7, a8, a9⟩, b1, b2, b3, b4, b5, b6⟩ := hc
  refine ⟨⟨?_, ?_, ?_, ?_, ?_⟩, ⟨?_, ?_, ?_, ?_⟩, ?_, ?_, ?_, ?_, ?_, ?_⟩ <;> first | (rw [h1 _ (by decide)]; assumption) | (rw [h2 _ (by decide)]; assumption)
theorem wk_of {w : Nat → Nat → Nat} {I A I' A' : Nat → Nat → Int32} (h1 : ∀ a, a < 24 → A' a = A a) (h2 : ∀ a, a < 24 → I' a = I a) (hk : wk w I A) : wk w I' A' :=
  wsame_wk ⟨rfl, rfl, rfl, rfl⟩ hk (by rw [h2 0 (by decide)]) (h1 17 (by decide)) (by rw [h2 16 (by decide)])
section MA
variable {o pl kp : Bool} {L : Nat} {I A : Nat → Nat → Int32} {w : Nat → Nat → Nat}
theorem t_plant (hw : wok w) (hc : cw w I A) (hk : wk w I A) (hs : sts A) (hp : pkc w false I A) : ∃ I' A', ev (lt_G true L) mm_Road_planNow [.ref 0] (sx false false I A) (some (.ref 65)) (sx true false I' A') ∧ pno w I A I' A' := by
  have ho : sx_o true false false := by
    unfold sx_o
    decide
  have ho2 : sx_o true true false := by
    unfold sx_o
    decide
  have heq : (ivPt (sx_iv false false I), avPt A, sx_n true false, sx_s true false) = sx true false (mix I (ivPt (sx_iv false false I))) (avPt A) := sx_mk I (fun i k h => ivPt_w h) rfl rfl
  have fI : ∀ a, a ≠ 65 → mix I (ivPt (sx_iv false false I)) a = I a := by
    intro a ha
    refine mix_ne (fun k hr => ?_)
    have h8 : ¬ (a = 0 ∧ k = 8) := by
      rintro ⟨rfl, rfl⟩
      cases hr
    rw [ivPt_off ha h8, sx_iv_n hr]
  have h6 : mix I (ivPt (sx_iv false false I)) 65 6 = nI 0 := mix_at (by decide +kernel)
  have h7 : mix I (ivPt (sx_iv false false I)) 65 7 = nI 0 := mix_at (by decide +kernel)
  have h135 : ∀ c, avPt A 135 c = nI 0 := fun c => by
    unfold avPt
    rw [u1_eq]
    decide
  have hc2 : cw w (mix I (ivPt (sx_iv false false I))) (avPt A) := cw_of (fun a h => avPt_off (by omega)) (fun a h => fI a (by omega)) hc
  have hk2 : wk w (mix I (ivPt (sx_iv false false I))) (avPt A) := wk_of (fun a h => avPt_off (by omega)) (fun a h => fI a (by omega)) hk
  have hs2 : sts (avPt A) := by
    obtain ⟨a, b, c, d⟩ := hs
    exact ⟨(avPt_off (by decide)).trans a, (avPt_off (by decide)).trans b, (avPt_off (by decide)).trans c, (avPt_off (by decide)).trans d⟩
  have hp2 : pkc w true (mix I (ivPt (sx_iv false false I))) (avPt A) := by
    refine ⟨Or.inl ?_, fun _ => ⟨0, by decide, h6, h7, fun i n hi => by simp at hi, fun c _ => by rw [h135 c]; rfl⟩⟩
    rw [fI 0 (by decide)]
    rcases hp.1 with h | ⟨_, h, _⟩
    · exact h
    · cases h
  obtain ⟨I', A', q1, q2⟩ := c_plan18 (L := L) ho2 hw hc2 hk2 hs2 hp2
  obtain ⟨g1, g2, g3, g4, g5, g6⟩ := q1
  refine ⟨I', A', ev_of ?_, g1, g2, g3, g4, fun a x y => (g5 a x y).trans (avPt_off y), fun a x y => (g6 a x y).trans (fI a y)⟩
  show rn _ _ 0 [some (.ref 0), none] [] _ _
  refine mk_plan_t ho ?_
  have := q2 (fun a b => a = some (.ref 65) ∧ b = sx true false I' A') ⟨rfl, rfl⟩
  rw [← heq] at this
  exact this
theorem t_planf (hw : wok w) (hc : cw w I A) (hk : wk w I A) (hs : sts A) (hp : pkc w false I A) : ∃ I' A', ev (lt_G false L) mm_Road_planNow [.ref 0] (sx false true I A) (some (.ref 65)) (sx true true I' A') ∧ pno w I A I' A' := by
  have ho : sx_o false false true := by
    unfold sx_o
    decide
  have ho2 : sx_o false true true := by
    unfold sx_o
    decide
  have heq : (ivPf (sx_iv false true I), avPf A, sx_n true true, sx_s true true) = sx true true (mix I (ivPf (sx_iv false true I))) (avPf A) := sx_mk I (fun i k h => ivPf_w h) rfl rfl
  have fI : ∀ a, a ≠ 65 → mix I (ivPf (sx_iv false true I)) a = I a := by
    intro a ha
    refine mix_ne (fun k hr => ?_)
    have h8 : ¬ (a = 0 ∧ k = 8) := by
      rintro ⟨rfl, rfl⟩
      cases hr
    rw [ivPf_off ha h8, sx_iv_n hr]
  have h6 : mix I (ivPf (sx_iv false true I)) 65 6 = nI 0 := mix_at (by decide +kernel)
  have h7 : mix I (ivPf (sx_iv false true I)) 65 7 = nI 0 := mix_at (by decide +kernel)
  have h135 : ∀ c, avPf A 135 c = nI 0 := fun c => by
    unfold avPf
    rw [u1_eq]
    decide
  have hc2 : cw w (mix I (ivPf (sx_iv false true I))) (avPf A) := cw_of (fun a h => avPf_off (by omega)) (fun a h => fI a (by omega)) hc
  have hk2 : wk w (mix I (ivPf (sx_iv false true I))) (avPf A) := wk_of (fun a h => avPf_off (by omega)) (fun a h => fI a (by omega)) hk
  have hs2 : sts (avPf A) := by
    obtain ⟨a, b, c, d⟩ := hs
    exact ⟨(avPf_off (by decide)).trans a, (avPf_off (by decide)).trans b, (avPf_off (by decide)).trans c, (avPf_off (by decide)).trans d⟩
  have hp2 : pkc w true (mix I (ivPf (sx_iv false true I))) (avPf A) := by
    refine ⟨Or.inl ?_, fun _ => ⟨0, by decide, h6, h7, fun i n hi => by simp at hi, fun c _ => by rw [h135 c]; rfl⟩⟩
    rw [fI 0 (by decide)]
    rcases hp.1 with h | ⟨_, h, _⟩
    · exact h
    · cases h
  obtain ⟨I', A', q1, q2⟩ := c_plan18 (L := L) ho2 hw hc2 hk2 hs2 hp2
  obtain ⟨g1, g2, g3, g4, g5, g6⟩ := q1
  refine ⟨I', A', ev_of ?_, g1, g2, g3, g4, fun a x y => (g5 a x y).trans (avPf_off y), fun a x y => (g6 a x y).trans (fI a y)⟩
  show rn _ _ 0 [some (.ref 0), none] [] _ _
  refine mk_plan_f ho ?_
  have := q2 (fun a b => a = some (.ref 65) ∧ b = sx true true I' A') ⟨rfl, rfl⟩
  rw [← heq] at this
  exact this
theorem t_planA (ho : sx_o o pl kp) (ho2 : sx_o o true kp) (hw : wok w) (hc : cw w I A) (hk : wk w I A) (hs : sts A) (hp : pkc w pl I A) : ∃ I' A', ev (lt_G o L) mm_Road_planNow [.ref 0] (sx pl kp I A) (some (.ref 65)) (sx true kp I' A') ∧ pno w I A I' A' := by
  cases pl with
  | true => exact t_planNow ho hw hc hk hs hp
  | false =>
    cases kp with
    | false =>
      have e : o = true := ho2.1 rfl rfl
      subst e
      exact t_plant hw hc hk hs hp
    | true =>
      have e : o = false := ho.2 rfl rfl
      subst e
      exact t_planf hw hc hk hs hp
end MA
