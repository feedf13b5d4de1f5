/-! image where no world was kept before. -/
theorem ivKf_off {X : Nat → Nat → Int32} {i k : Nat} (h : i < 136) (h2 : ¬ (i = 0 ∧ k = 7)) : ivKf X i k = X i k := by
  have h1 : i ≠ 136 := by omega
  have h3 : i ≠ 137 := by omega
  have h4 : i ≠ 144 := by omega
  have h5 : i ≠ 147 := by omega
  have h6 : i ≠ 149 := by omega
  unfold ivKf
  rw [u2_off h2]
  simp only [u2_ne h1, u1_ne h1, u2_ne h3, u1_ne h3, u2_ne h4, u1_ne h4, u2_ne h5, u1_ne h5, u2_ne h6, u1_ne h6]
theorem ivKf_w {pl : Bool} {I : Nat → Nat → Int32} {i k : Nat} (h : sx_rf i k = true) : ivKf (sx_iv pl false I) i k = sx_iv pl true (fun _ _ => 0) i k := by
  obtain ⟨h3, h4, h5⟩ := rf_no h
  by_cases e : 136 ≤ i
  · rcases h5 e with ⟨rfl, hk⟩ | ⟨rfl, hk⟩ | ⟨rfl, hk⟩ | ⟨rfl, hk⟩ | ⟨rfl, hk⟩
    · rcases (show k = 0 ∨ k = 1 ∨ k = 2 ∨ k = 3 by omega) with rfl | rfl | rfl | rfl <;> rfl
    · rcases (show k = 0 by omega) with rfl
      rfl
    · rcases (show k = 0 ∨ k = 1 by omega) with rfl | rfl <;> rfl
    · rcases (show k = 0 by omega) with rfl
      rfl
    · rcases (show k = 0 by omega) with rfl
      rfl
  · by_cases e2 : i = 0 ∧ k = 7
    · obtain ⟨rfl, rfl⟩ := e2
      rfl
    · rw [ivKf_off (by omega) e2, sx_iv_r h, sx_iv_r h, if_neg e2, if_neg e2]
      split
      · rfl
      · split
        · rfl
        · rw [if_pos (by omega), if_pos (by omega)]
theorem avKf_off {X : Nat → Nat → Int32} {a : Nat} (h : a < 136 ∨ 150 < a) : avKf X a = X a := by
  unfold avKf mrow
  rw [u1_ne (by omega), u1_ne (by omega), u1_ne (by omega), u1_ne (by omega)]
  unfold fil5
  rw [u1_ne (by omega), if_neg (by omega)]
theorem ivKt_off {X : Nat → Nat → Int32} {i k : Nat} (h : i < 136) (h2 : ¬ (i = 0 ∧ k = 7)) : ivKt X i k = X i k := by
  have h1 : i ≠ 136 := by omega
  have h3 : i ≠ 137 := by omega
  have h4 : i ≠ 144 := by omega
  have h5 : i ≠ 147 := by omega
  have h6 : i ≠ 149 := by omega
  unfold ivKt
  rw [u2_off h2]
  simp only [u2_ne h1, u1_ne h1, u2_ne h3, u1_ne h3, u2_ne h4, u1_ne h4, u2_ne h5, u1_ne h5, u2_ne h6, u1_ne h6]
theorem ivKt_w {pl : Bool} {I : Nat → Nat → Int32} {i k : Nat} (h : sx_rf i k = true) : ivKt (sx_iv pl false I) i k = sx_iv pl true (fun _ _ => 0) i k := by
  obtain ⟨h3, h4, h5⟩ := rf_no h
  by_cases e : 136 ≤ i
  · rcases h5 e with ⟨rfl, hk⟩ | ⟨rfl, hk⟩ | ⟨rfl, hk⟩ | ⟨rfl, hk⟩ | ⟨rfl, hk⟩
    · rcases (show k = 0 ∨ k = 1 ∨ k = 2 ∨ k = 3 by omega) with rfl | rfl | rfl | rfl <;> rfl
    · rcases (show k = 0 by omega) with rfl
      rfl
    · rcases (show k = 0 ∨ k = 1 by omega) with rfl | rfl <;> rfl
    · rcases (show k = 0 by omega) with rfl
      rfl
    · rcases (show k = 0 by omega) with rfl
      rfl
  · by_cases e2 : i = 0 ∧ k = 7
    · obtain ⟨rfl, rfl⟩ := e2
      rfl
    · rw [ivKt_off (by omega) e2, sx_iv_r h, sx_iv_r h, if_neg e2, if_neg e2]
      split
      · rfl
      · split
        · rfl
        · rw [if_pos (by omega), if_pos (by omega)]
theorem avKt_off {X : Nat → Nat → Int32} {a : Nat} (h : a < 136 ∨ 150 < a) : avKt X a = X a := by
  unfold avKt mrow
  rw [u1_ne (by omega), u1_ne (by omega), u1_ne (by omega), u1_ne (by omega)]
  unfold fil5
  rw [u1_ne (by omega), if_neg (by omega)]
section IK
variable {o pl kp : Bool} {L : Nat} {I A : Nat → Nat → Int32} {w : Nat → Nat → Nat}
theorem t_imagef (hc : cw w I A) (hk : wk w I A) : ∃ I' A', ev (lt_G false L) mm_Road_image [.ref 0] (sx false false I A) (some (.int (nI 1))) (sx false true I' A') ∧ imo w I A I' A' := by
  have ho : sx_o false false false := by
    unfold sx_o
    decide
  have ho2 : sx_o false false true := by
    unfold sx_o
    decide
  have heq : (ivKf (sx_iv false false I), avKf A, sx_n false true, sx_s false true) = sx false true (mix I (ivKf (sx_iv false false I))) (avKf A) := sx_mk I (fun i k h => ivKf_w h) rfl rfl
  have fI : ∀ a, a < 136 → mix I (ivKf (sx_iv false false I)) a = I a := by
    intro a ha
    refine mix_ne (fun k hr => ?_)
    have h8 : ¬ (a = 0 ∧ k = 7) := by
      rintro ⟨rfl, rfl⟩
      cases hr
    rw [ivKf_off ha h8, sx_iv_n hr]
  have hc2 : cw w (mix I (ivKf (sx_iv false false I))) (avKf A) := cw_of (fun a h => avKf_off (by omega)) (fun a h => fI a (by omega)) hc
  have hk2 : wk w (mix I (ivKf (sx_iv false false I))) (avKf A) := wk_of (fun a h => avKf_off (by omega)) (fun a h => fI a (by omega)) hk
  obtain ⟨I', A', ⟨g1, g2, g3, g4, g5⟩, q2⟩ := c_image18 (L := L) ho2 hc2 hk2
  refine ⟨I', A', ev_of ?_, g1, g2, g3, fun a x => ⟨(g4 a x).1.trans (avKf_off (by omega)), (g4 a x).2.trans (fI a x)⟩, fun a x => (g5 a x).trans (avKf_off (by omega))⟩
  show rn _ _ 0 [some (.ref 0)] [] _ _
  refine mk_kept_f ho ?_
  have := q2 (fun a b => a = some (.int (nI 1)) ∧ b = sx false true I' A') ⟨rfl, rfl⟩
  rw [← heq] at this
  exact this
theorem t_imaget (hc : cw w I A) (hk : wk w I A) : ∃ I' A', ev (lt_G true L) mm_Road_image [.ref 0] (sx true false I A) (some (.int (nI 1))) (sx true true I' A') ∧ imo w I A I' A' := by
  have ho : sx_o true true false := by
    unfold sx_o
    decide
  have ho2 : sx_o true true true := by
    unfold sx_o
    decide
  have heq : (ivKt (sx_iv true false I), avKt A, sx_n true true, sx_s true true) = sx true true (mix I (ivKt (sx_iv true false I))) (avKt A) := sx_mk I (fun i k h => ivKt_w h) rfl rfl
  have fI : ∀ a, a < 136 → mix I (ivKt (sx_iv true false I)) a = I a := by
    intro a ha
    refine mix_ne (fun k hr => ?_)
    have h8 : ¬ (a = 0 ∧ k = 7) := by
      rintro ⟨rfl, rfl⟩
      cases hr
    rw [ivKt_off ha h8, sx_iv_n hr]
  have hc2 : cw w (mix I (ivKt (sx_iv true false I))) (avKt A) := cw_of (fun a h => avKt_off (by omega)) (fun a h => fI a (by omega)) hc
  have hk2 : wk w (mix I (ivKt (sx_iv true false I))) (avKt A) := wk_of (fun a h => avKt_off (by omega)) (fun a h => fI a (by omega)) hk
  obtain ⟨I', A', ⟨g1, g2, g3, g4, g5⟩, q2⟩ := c_image18 (L := L) ho2 hc2 hk2
  refine ⟨I', A', ev_of ?_, g1, g2, g3, fun a x => ⟨(g4 a x).1.trans (avKt_off (by omega)), (g4 a x).2.trans (fI a x)⟩, fun a x => (g5 a x).trans (avKt_off (by omega))⟩
  show rn _ _ 0 [some (.ref 0)] [] _ _
  refine mk_kept_t ho ?_
  have := q2 (fun a b => a = some (.int (nI 1)) ∧ b = sx true true I' A') ⟨rfl, rfl⟩
  rw [← heq] at this
  exact this
theorem t_imageA (ho : sx_o o pl kp) (ho2 : sx_o o pl true) (hc : cw w I A) (hk : wk w I A) : ∃ I' A', ev (lt_G o L) mm_Road_image [.ref 0] (sx pl kp I A) (some (.int (nI 1))) (sx pl true I' A') ∧ imo w I A I' A' := by
  cases kp with
  | true => exact c_image1 ho hc hk
  | false =>
    cases pl with
    | false =>
      cases o with
      | false => exact t_imagef hc hk
      | true => exact absurd (ho2.2 rfl rfl) (by decide)
    | true =>
      cases o with
      | true => exact t_imaget hc hk
      | false => exact absurd (ho.1 rfl rfl) (by decide)
end IK
