/-! Runs without a bound: what a frame of the pure machine comes to. -/
/-- the frame comes to a return with P -/
def rn (G : kg_G) (E : km_E) (pc : Nat) (lv : List (Option Value)) (st : List Value) (S : ks_S) (P : Option Value → ks_S → Prop) : Prop := ∃ n v S', kr G n E pc lv st S = some (v, S') ∧ P v S'
/-- the method, called with these arguments, gives v and leaves S' -/
def ev (G : kg_G) (E : km_E) (vs : List Value) (S : ks_S) (v : Option Value) (S' : ks_S) : Prop := ∃ n, kr G n E 0 (kx_en (km_L E) vs) [] S = some (v, S')
theorem ev_of {G : kg_G} {E : km_E} {vs : List Value} {S : ks_S} {v : Option Value} {S' : ks_S} (h : rn G E 0 (kx_en (km_L E) vs) [] S (fun a b => a = v ∧ b = S')) : ev G E vs S v S' := by
  obtain ⟨n, a, b, h1, rfl, rfl⟩ := h
  exact ⟨n, h1⟩
theorem kr_on_f {run run' : kr_T} (hr : ∀ E pc lv st S r, run E pc lv st S = some r → run' E pc lv st S = some r) {E : km_E} {o : Option kx_F} {r : Option Value × ks_S} (h : kr_on run E o = some r) : kr_on run' E o = some r := by
  obtain ⟨f, rfl, h2⟩ := kr_on_e h
  exact hr _ _ _ _ _ _ h2
theorem kr_call_f {G : kg_G} {run run' : kr_T} (hr : ∀ E pc lv st S r, run E pc lv st S = some r → run' E pc lv st S = some r) {kd : Nat} {o : Option (Nat × String × km_E)} {E : km_E} {pc : Nat} {lv : List (Option Value)} {st : List Value} {S : ks_S} {r : Option Value × ks_S} (h : kr_call G run kd o E pc lv st S = some r) : kr_call G run' kd o E pc lv st S = some r := by
  obtain ⟨k, host, E', v, S', rfl, h2, h3, h4⟩ := kr_call_e h
  show (if kx_ok G E E' kd k st S = true then (match run' E' 0 _ [] S with | some (v, S') => run' E (pc + 3) lv (v.toList ++ _) S' | none => none) else none) = some r
  rw [if_pos h2, hr _ _ _ _ _ _ h3]
  exact hr _ _ _ _ _ _ h4
theorem kr_step_f {G : kg_G} {run run' : kr_T} (hr : ∀ E pc lv st S r, run E pc lv st S = some r → run' E pc lv st S = some r) {E : km_E} {pc : Nat} {lv : List (Option Value)} {st : List Value} {S : ks_S} {r : Option Value × ks_S} (h : kr_step G run E pc lv st S = some r) : kr_step G run' E pc lv st S = some r := by
  unfold kr_step at h ⊢
  split at h
  · cases h
  next i len hd =>
    split at h
    next hlen =>
      rw [if_pos hlen]
      split at h
      · exact h
      · exact h
      · exact h
      · exact h
      · exact kr_call_f hr h
      · split at h
        next hc => rw [if_pos hc]; exact kr_on_f hr h
        next hc =>
          rw [if_neg hc]
          split at h
          next w hw => exact kr_on_f hr h
          next hw => exact kr_call_f hr h
      · split at h
        next hc => rw [if_pos hc]; exact kr_on_f hr h
        next hc => rw [if_neg hc]; exact kr_call_f hr h
      · exact kr_on_f hr h
    next => cases h
theorem kr_fuel1 {G : kg_G} : ∀ {n : Nat} {E : km_E} {pc : Nat} {lv : List (Option Value)} {st : List Value} {S : ks_S} {r : Option Value × ks_S}, kr G n E pc lv st S = some r → kr G (n + 1) E pc lv st S = some r
  | 0, _, _, _, _, _, _, h => by cases h
  | n + 1, E, pc, lv, st, S, r, h => kr_step_f (fun _ _ _ _ _ _ h => kr_fuel1 h) h
theorem kr_fuel {G : kg_G} {n m : Nat} (hm : n ≤ m) {E : km_E} {pc : Nat} {lv : List (Option Value)} {st : List Value} {S : ks_S} {r : Option Value × ks_S} (h : kr G n E pc lv st S = some r) : kr G m E pc lv st S = some r := by
  obtain ⟨k, rfl⟩ := Nat.exists_eq_add_of_le hm
  induction k with
  | zero => exact h
  | succ k ih => exact kr_fuel1 (ih (Nat.le_add_right _ _))
section RN
variable {G : kg_G} {E : km_E} {pc pc' : Nat} {lv lv' : List (Option Value)} {st st' : List Value} {S S' : ks_S} {P : Option Value → ks_S → Prop}
theorem rn_on (h : ∀ run : kr_T, kr_step G run E pc lv st S = run E pc' lv' st' S') : rn G E pc lv st S P ↔ rn G E pc' lv' st' S' P := by
  constructor
  · rintro ⟨n, v, T, h1, h2⟩
    cases n with
    | zero => cases h1
    | succ n => exact ⟨n, v, T, (h (kr G n)).symm.trans h1, h2⟩
  · rintro ⟨n, v, T, h1, h2⟩
    exact ⟨n + 1, v, T, (h (kr G n)).trans h1, h2⟩
/-- one instruction -/
theorem rn_kx {i : Instr} {len : Nat} (hd : decode (km_c E) pc = .ok (i, len)) (hs : ∀ run : kr_T, kr_step G run E pc lv st S = kr_on run E (kx G E i len pc lv st S)) (hk : kx G E i len pc lv st S = some (pc', lv', st', S')) : rn G E pc lv st S P ↔ rn G E pc' lv' st' S' P :=
  rn_on fun run => by rw [hs run, hk]; rfl
theorem rn_ret {v : Value} {kd : Nat} (hs : ∀ run : kr_T, kr_step G run E pc lv [v] S = kr_ret kd E [v] S) (hk : kx_ret kd (km_r E) v = true) : rn G E pc lv [v] S P ↔ P (some v) S := by
  have e : ∀ run : kr_T, kr_step G run E pc lv [v] S = some (some v, S) := fun run => by
    rw [hs run]
    exact if_pos hk
  constructor
  · rintro ⟨n, a, T, h1, h2⟩
    cases n with
    | zero => cases h1
    | succ n =>
      cases (e (kr G n)).symm.trans h1
      exact h2
  · intro h
    exact ⟨1, some v, S, e (kr G 0), h⟩
theorem rn_retV (hs : ∀ run : kr_T, kr_step G run E pc lv [] S = some (none, S)) : rn G E pc lv [] S P ↔ P none S := by
  constructor
  · rintro ⟨n, a, T, h1, h2⟩
    cases n with
    | zero => cases h1
    | succ n =>
      cases (hs (kr G n)).symm.trans h1
      exact h2
  · intro h
    exact ⟨1, none, S, hs (kr G 0), h⟩
/-- a call -/
theorem rn_call {kd : Nat} {o : Option (Nat × String × km_E)} {k : Nat} {host : String} {E' : km_E} {vs rest : List Value} {v : Option Value} (hs : ∀ run : kr_T, kr_step G run E pc lv st S = kr_call G run kd o E pc lv st S) (ho : o = some (k, host, E')) (hok : kx_ok G E E' kd k st S = true) (h1 : (st.take (km_na kd E')).reverse = vs) (h2 : st.drop (km_na kd E') = rest) (hc : ev G E' vs S v S') : rn G E pc lv st S P ↔ rn G E (pc + 3) lv (v.toList ++ rest) S' P := by
  obtain ⟨m, hc⟩ := hc
  have e : ∀ n, kr_step G (kr G n) E pc lv st S = (match kr G n E' 0 (kx_en (km_L E') vs) [] S with | some (v, S') => kr G n E (pc + 3) lv (v.toList ++ rest) S' | none => none) := fun n => by
    rw [hs, ho, ← h1, ← h2]
    exact if_pos hok
  constructor
  · rintro ⟨n, a, T, g1, g2⟩
    cases n with
    | zero => cases g1
    | succ n =>
      have g3 := (e n).symm.trans g1
      cases hq : kr G n E' 0 (kx_en (km_L E') vs) [] S with
      | none => rw [hq] at g3; cases g3
      | some r =>
        rw [hq] at g3
        have e1 := kr_fuel (Nat.le_max_left n m) hq
        have e2 := kr_fuel (Nat.le_max_right n m) hc
        cases e1.symm.trans e2
        exact ⟨n, a, T, g3, g2⟩
  · rintro ⟨n, a, T, g1, g2⟩
    refine ⟨max n m + 1, a, T, ?_, g2⟩
    show kr_step G (kr G (max n m)) E pc lv st S = _
    rw [e, kr_fuel (Nat.le_max_right n m) hc]
    exact kr_fuel (Nat.le_max_left n m) g1
end RN
