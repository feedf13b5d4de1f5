/-! Numbers, neighbours. -/
theorem u2_u1 {A : Nat → Nat → Int32} {a k : Nat} {f : Nat → Int32} {x : Int32} : u2 (u1 A a f) a k x = u1 A a (upd f k x) := by
  funext b j
  rw [u2_e]
  unfold u1 va_up upd
  by_cases h : b = a
  · subst h; simp
  · simp [h]
theorem u1_id {A : Nat → Nat → Int32} {a : Nat} : u1 A a (A a) = A := by
  funext b
  unfold u1 va_up
  by_cases h : b = a
  · subst h; simp
  · simp [h]
theorem u1_u1 {A : Nat → Nat → Int32} {a : Nat} {f g : Nat → Int32} : u1 (u1 A a f) a g = u1 A a g := by
  funext b
  unfold u1 va_up
  by_cases h : b = a
  · subst h; simp
  · simp [h]
theorem u2_as {A : Nat → Nat → Int32} {a k : Nat} {x : Int32} : u2 A a k x = u1 A a (upd (A a) k x) := rfl
theorem nr {c d : Nat} (hc : c < 2 ^ 31) (h0 : 0 < d) (hd : d < 2 ^ 31) : nI c - nI c / nI d * nI d = nI (c % d) := pk_rem hc h0 hd
/-- the neighbour of a cell at a side: up, left, right, down -/
def nb (c s : Nat) : Option Nat := match s with
  | 0 => if 7 ≤ c then some (c - 7) else none
  | 1 => if 0 < c % 7 then some (c - 1) else none
  | 2 => if c % 7 < 6 then some (c + 1) else none
  | _ => if c < 42 then some (c + 7) else none
def oI (q : Option Nat) : Int32 := match q with
  | some d => nI d
  | none => -1
theorem nb_lt {c s d : Nat} (hc : c < 49) (h : nb c s = some d) : d < 49 := by
  unfold nb at h
  split at h <;> split at h <;> cases h <;> omega
theorem oI_neg {q : Option Nat} (hq : ∀ d, q = some d → d < 2 ^ 31) : oI q < 0 ↔ q = none := by
  cases q with
  | none => exact ⟨fun _ => rfl, fun _ => by decide⟩
  | some d => exact ⟨fun h => absurd h (nI_pos (hq d rfl)), fun h => by cases h⟩
section CS
variable {G : kg_G} {S : ks_S} {lv : List (Option Value)} {st : List Value} {P : Option Value → ks_S → Prop}
theorem sw_cellAt0 : rn G mm_Road_cellAt 6 lv (.int (nI 0) :: st) S P ↔ rn G mm_Road_cellAt 32 lv st S P := rn_s dq_Road_cellAt_6 rfl rfl rfl
theorem sw_cellAt1 : rn G mm_Road_cellAt 6 lv (.int (nI 1) :: st) S P ↔ rn G mm_Road_cellAt 47 lv st S P := rn_s dq_Road_cellAt_6 rfl rfl rfl
theorem sw_cellAt2 : rn G mm_Road_cellAt 6 lv (.int (nI 2) :: st) S P ↔ rn G mm_Road_cellAt 59 lv st S P := rn_s dq_Road_cellAt_6 rfl rfl rfl
theorem sw_cellAt3 : rn G mm_Road_cellAt 6 lv (.int (nI 3) :: st) S P ↔ rn G mm_Road_cellAt 73 lv st S P := rn_s dq_Road_cellAt_6 rfl rfl rfl
end CS
