/-! The state, wired: every reference field of what stands holds its place; ints are I (fields) and A (elements); pl: the plan stands; kp: the kept world stands. -/
def sx_rf (i k : Nat) : Bool := match lt_tab[i]? with
  | some (.inl o) => match o.2[k]? with
    | some (_ + 2) => true
    | _ => false
  | _ => false
def sx_b (b : Bool) : Int32 := if b = true then 1 else 0
def sx_iv (pl kp : Bool) (I : Nat → Nat → Int32) (i k : Nat) : Int32 := if sx_rf i k = true then (if i = 0 ∧ k = 7 then sx_b kp else if i = 0 ∧ k = 8 then sx_b pl else if i < 65 then 1 else if i < 136 then sx_b pl else sx_b kp) else I i k
def sx_n (pl kp : Bool) : Nat := 65 + (if pl = true then 71 else 0) + (if kp = true then 15 else 0)
def sx_s (pl kp : Bool) : Nat := 5707 + (if pl = true then 3470 else 0) + (if kp = true then 378 else 0)
def sx (pl kp : Bool) (I A : Nat → Nat → Int32) : ks_S := (sx_iv pl kp I, A, sx_n pl kp, sx_s pl kp)
/-- the order of the late ones fits what stands -/
def sx_o (o pl kp : Bool) : Prop := (pl = true → kp = false → o = true) ∧ (pl = false → kp = true → o = false)
def u2 (A : Nat → Nat → Int32) (a k : Nat) (x : Int32) : Nat → Nat → Int32 := va_up A a (upd (A a) k x)
theorem u2_e (A : Nat → Nat → Int32) (a k : Nat) (x : Int32) (b j : Nat) : u2 A a k x b j = if b = a then (if j = k then x else A b j) else A b j := by
  unfold u2 va_up upd
  by_cases h : b = a
  · subst h; simp
  · simp [h]
theorem u2_ne {A : Nat → Nat → Int32} {a k : Nat} {x : Int32} {b : Nat} (h : b ≠ a) : u2 A a k x b = A b := by
  unfold u2 va_up
  simp [h]
theorem u2_eq {A : Nat → Nat → Int32} {a k : Nat} {x : Int32} : u2 A a k x a = upd (A a) k x := by
  unfold u2 va_up
  simp
def u1 (A : Nat → Nat → Int32) (a : Nat) (f : Nat → Int32) : Nat → Nat → Int32 := va_up A a f
theorem u1_ne {A : Nat → Nat → Int32} {a : Nat} {f : Nat → Int32} {b : Nat} (h : b ≠ a) : u1 A a f b = A b := by
  unfold u1 va_up
  simp [h]
theorem u1_eq {A : Nat → Nat → Int32} {a : Nat} {f : Nat → Int32} : u1 A a f a = f := by
  unfold u1 va_up
  simp
theorem sx_sa (pl kp : Bool) (I A : Nat → Nat → Int32) (a k : Nat) (x : Int32) : ks_sa (sx pl kp I A) a k x = sx pl kp I (u2 A a k x) := rfl
theorem sx_row (pl kp : Bool) (I A : Nat → Nat → Int32) (a : Nat) (f : Nat → Int32) : ks_row (sx pl kp I A) a f = sx pl kp I (u1 A a f) := rfl
theorem sx_av (pl kp : Bool) (I A : Nat → Nat → Int32) (a k : Nat) : ks_av (sx pl kp I A) a k = A a k := rfl
theorem sx_si {pl kp : Bool} {I A : Nat → Nat → Int32} {i k : Nat} {x : Int32} (h : sx_rf i k = false) : ks_si (sx pl kp I A) i k x = sx pl kp (u2 I i k x) A := by
  unfold ks_si sx
  refine Prod.ext ?_ rfl
  funext a b
  show va_up (sx_iv pl kp I) i (upd (sx_iv pl kp I i) k x) a b = sx_iv pl kp (u2 I i k x) a b
  by_cases ha : a = i
  · subst ha
    unfold va_up
    rw [if_pos rfl]
    unfold upd sx_iv
    by_cases hb : b = k
    · subst hb
      rw [if_pos rfl, h, u2_e]
      simp
    · rw [if_neg hb, u2_e]
      simp [hb]
  · unfold va_up
    rw [if_neg ha]
    unfold sx_iv
    rw [u2_e, if_neg ha]
theorem sx_int {pl kp : Bool} {I A : Nat → Nat → Int32} {i k : Nat} (h : sx_rf i k = false) : ks_iv (sx pl kp I A) i k = I i k := by
  show sx_iv pl kp I i k = _
  unfold sx_iv
  rw [h]
  rfl
theorem sx_ref {pl kp : Bool} {I A : Nat → Nat → Int32} {i k : Nat} (h : sx_rf i k = true) (hi : i < 65) (h7 : ¬ (i = 0 ∧ k = 7)) (h8 : ¬ (i = 0 ∧ k = 8)) : ks_iv (sx pl kp I A) i k = 1 := by
  show sx_iv pl kp I i k = _
  unfold sx_iv
  rw [if_pos h, if_neg h7, if_neg h8, if_pos hi]
theorem sx_refP {kp : Bool} {I A : Nat → Nat → Int32} {i k : Nat} (h : sx_rf i k = true) (hi : 65 ≤ i) (hj : i < 136) : ks_iv (sx true kp I A) i k = 1 := by
  show sx_iv true kp I i k = _
  unfold sx_iv
  rw [if_pos h, if_neg (by omega), if_neg (by omega), if_neg (by omega), if_pos hj]
  rfl
theorem sx_refK {pl : Bool} {I A : Nat → Nat → Int32} {i k : Nat} (h : sx_rf i k = true) (hi : 136 ≤ i) : ks_iv (sx pl true I A) i k = 1 := by
  show sx_iv pl true I i k = _
  unfold sx_iv
  rw [if_pos h, if_neg (by omega), if_neg (by omega), if_neg (by omega), if_neg (by omega)]
  rfl
theorem sx_kept {pl kp : Bool} {I A : Nat → Nat → Int32} : ks_iv (sx pl kp I A) 0 7 = sx_b kp := rfl
theorem sx_plan {pl kp : Bool} {I A : Nat → Nat → Int32} : ks_iv (sx pl kp I A) 0 8 = sx_b pl := rfl
/-- a place that stands -/
def sx_up (pl kp : Bool) (i : Nat) : Bool := decide (i < 65) || (pl && decide (i < 136)) || (kp && decide (136 ≤ i) && decide (i < 151))
theorem sx_is {o pl kp : Bool} {L : Nat} {I A : Nat → Nat → Int32} {i : Nat} (ho : sx_o o pl kp) (h : sx_up pl kp i = true) : kg_is (lt_G o L) (sx pl kp I A) i = true := by
  unfold kg_is
  rw [decide_eq_true_eq]
  show i < 1000 ∧ lt_pos o i < sx_n pl kp
  unfold sx_up at h
  unfold lt_pos sx_n
  cases o <;> cases pl <;> cases kp <;> simp at h ho ⊢ <;> first
    | omega
    | (refine ⟨by omega, ?_⟩; split <;> first | omega | (split <;> first | omega | (split <;> omega)))
    | (simp [sx_o] at ho)
theorem sx_ob {o pl kp : Bool} {L : Nat} {I A : Nat → Nat → Int32} {i : Nat} {q : Nat × List Nat} (ho : sx_o o pl kp) (h : sx_up pl kp i = true) (hl : lt_ly L i = some (.inl q)) : kg_ob (lt_G o L) (sx pl kp I A) i = some q := by
  unfold kg_ob
  rw [show kg_ly (lt_G o L) i = some (.inl q) from hl]
  exact if_pos (sx_is ho h)
theorem sx_aw {o pl kp : Bool} {L : Nat} {I A : Nat → Nat → Int32} {i : Nat} {q : Nat × Nat × Nat} (ho : sx_o o pl kp) (h : sx_up pl kp i = true) (hl : lt_ly L i = some (.inr q)) : kg_aw (lt_G o L) (sx pl kp I A) i = some q := by
  unfold kg_aw
  rw [show kg_ly (lt_G o L) i = some (.inr q) from hl]
  exact if_pos (sx_is ho h)
theorem sx_ar {o pl kp : Bool} {L : Nat} {I A : Nat → Nat → Int32} {i : Nat} {q : Nat × Nat × Nat} (ho : sx_o o pl kp) (h : sx_up pl kp i = true) (hl : lt_ly L i = some (.inr q)) : kg_ar (lt_G o L) (sx pl kp I A) i = some q := by
  unfold kg_ar
  rw [show kg_ly (lt_G o L) i = some (.inr q) from hl]
  exact if_pos (Or.inl (sx_is ho h))
theorem sx_aro {o pl kp : Bool} {L : Nat} {I A : Nat → Nat → Int32} {i : Nat} {q : Nat × Nat × Nat} (h : 1000 ≤ i) (hl : lt_ly L i = some (.inr q)) : kg_ar (lt_G o L) (sx pl kp I A) i = some q := by
  unfold kg_ar
  rw [show kg_ly (lt_G o L) i = some (.inr q) from hl]
  exact if_pos (Or.inr h)
