/-! Arrays.fill. -/
section CF
variable {o pl kp : Bool} {L : Nat} {I A : Nat → Nat → Int32}
def fi_to (f : Nat → Int32) (n : Nat) (x : Int32) : Nat → Int32 := fun j => if j < n then x else f j
theorem fi_next (f : Nat → Int32) (n : Nat) (x : Int32) : upd (fi_to f n x) n x = fi_to f (n + 1) x := by
  funext j
  unfold upd fi_to
  by_cases h : j = n
  · subst h; simp
  · by_cases h2 : j < n
    · simp [h, h2, Nat.lt_succ_of_lt h2]
    · have h3 : ¬ j < n + 1 := by omega
      simp [h, h2, h3]
theorem l_fill {a : Nat} {x : Int32} {P : Option Value → ks_S → Prop} (ho : sx_o o pl kp) (hk : ak L a = 0) (hu : sx_up pl kp a = true) (hn : ln L a < 2 ^ 31) (hP : P none (sx pl kp I (u1 A a (fi_to (A a) (ln L a) x)))) : ∀ m k, ln L a - k = m → k ≤ ln L a → rn (lt_G o L) mm_Arrays_fill 5 [some (.ref a), some (.int x), some (.int (nI k)), some (.int (nI (ln L a)))] [] (sx pl kp I (u1 A a (fi_to (A a) k x))) P := by
  intro m
  induction m with
  | zero =>
    intro k h1 h2
    have e : k = ln L a := by omega
    subst e
    rw [sq_Arrays_fill_5]
    simp (config := { decide := true }) only [sq_Arrays_fill_0, sq_Arrays_fill_1n, sq_Arrays_fill_1i, sq_Arrays_fill_1r, sq_Arrays_fill_2, sq_Arrays_fill_3, sq_Arrays_fill_4n, sq_Arrays_fill_4i, sq_Arrays_fill_4r, sq_Arrays_fill_6, sq_Arrays_fill_7, sq_Arrays_fill_10, sq_Arrays_fill_11, sq_Arrays_fill_12, sq_Arrays_fill_13, sq_Arrays_fill_14n, sq_Arrays_fill_14i, sq_Arrays_fill_14r, sq_Arrays_fill_17, sq_Arrays_fill_20, nI_leI, hn, hP, Nat.le_refl, not_true_eq_false, false_implies, and_true, true_implies]
  | succ m ih =>
    intro k h1 h2
    have hlt : k < ln L a := by omega
    have b1 : k < 2 ^ 31 := by omega
    have hle : ¬ ln L a ≤ k := by omega
    rw [sq_Arrays_fill_5]
    simp (config := { decide := true }) only [sq_Arrays_fill_0, sq_Arrays_fill_1n, sq_Arrays_fill_1i, sq_Arrays_fill_1r, sq_Arrays_fill_2, sq_Arrays_fill_3, sq_Arrays_fill_4n, sq_Arrays_fill_4i, sq_Arrays_fill_4r, sq_Arrays_fill_6, sq_Arrays_fill_7, sq_Arrays_fill_10, sq_Arrays_fill_11, sq_Arrays_fill_12, sq_Arrays_fill_13, sq_Arrays_fill_14n, sq_Arrays_fill_14i, sq_Arrays_fill_14r, sq_Arrays_fill_17, sq_Arrays_fill_20, nI_leI, hn, b1, hle, ho, hk, hu, hlt, not_false_eq_true, false_implies, true_and, true_implies, forall_const, u2_u1, fi_next, nI_add]
    exact ih (k + 1) (by omega) (by omega)
theorem t_fill {a : Nat} {x : Int32} (ho : sx_o o pl kp) (hk : ak L a = 0) (hu : sx_up pl kp a = true) (hn : ln L a < 2 ^ 31) : ev (lt_G o L) mm_Arrays_fill [.ref a, .int x] (sx pl kp I A) none (sx pl kp I (u1 A a (fi_to (A a) (ln L a) x))) := by
  refine ev_of ?_
  show rn _ _ 0 [some (.ref a), some (.int x), none, none] [] _ _
  simp (config := { decide := true }) only [sq_Arrays_fill_0, sq_Arrays_fill_1n, sq_Arrays_fill_1i, sq_Arrays_fill_1r, sq_Arrays_fill_2, sq_Arrays_fill_3, sq_Arrays_fill_4n, sq_Arrays_fill_4i, sq_Arrays_fill_4r, sq_Arrays_fill_6, sq_Arrays_fill_7, sq_Arrays_fill_10, sq_Arrays_fill_11, sq_Arrays_fill_12, sq_Arrays_fill_13, sq_Arrays_fill_14n, sq_Arrays_fill_14i, sq_Arrays_fill_14r, sq_Arrays_fill_17, sq_Arrays_fill_20, ho, hk, hu, true_or]
  have h := l_fill (I := I) (A := A) (x := x) (P := fun v S => v = none ∧ S = sx pl kp I (u1 A a (fi_to (A a) (ln L a) x))) ho hk hu hn ⟨rfl, rfl⟩ (ln L a) 0 (by omega) (by omega)
  have e : u1 A a (fi_to (A a) 0 x) = A := by
    have : fi_to (A a) 0 x = A a := by funext j; simp [fi_to]
    rw [this, u1_id]
  rw [e] at h
  exact h
end CF
