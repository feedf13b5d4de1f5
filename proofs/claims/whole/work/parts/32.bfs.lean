/-! The spread of water, as a pure function: which cells are wet, in which order they were reached, how many. -/
abbrev bs_T : Type := (Nat → Bool) × (Nat → Nat) × Nat
def bs_0 : bs_T := (fun _ => false, fun _ => 0, 0)
def bs_w (w : Nat → Bool) (c : Nat) : Nat → Bool := fun j => if j = c then true else w j
def bs_q (q : Nat → Nat) (n c : Nat) : Nat → Nat := fun j => if j = n then c else q j
def bs_soak (low : Nat → Bool) (c : Nat) (b : bs_T) : bs_T := if b.1 c = false ∧ low c = true then (bs_w b.1 c, bs_q b.2.1 b.2.2 c, b.2.2 + 1) else b
def bs_side (low : Nat → Bool) (i s : Nat) (b : bs_T) : bs_T := match nb (b.2.1 i) s with
  | some d => bs_soak low d b
  | none => b
/-- the steps f k, f (k + 1) .., m of them -/
def bs_fo {B : Type} (f : Nat → B → B) : Nat → Nat → B → B
  | _, 0, b => b
  | k, m + 1, b => bs_fo f (k + 1) m (f k b)
def bs_row (low : Nat → Bool) (i : Nat) (b : bs_T) : bs_T := bs_fo (bs_side low i) 0 4 b
def bs_p2 (low : Nat → Bool) : Nat → Nat → bs_T → bs_T
  | 0, _, b => b
  | m + 1, i, b => if i < b.2.2 then bs_p2 low m (i + 1) (bs_row low i b) else b
def bs_p1 (sp low : Nat → Bool) (c : Nat) (b : bs_T) : bs_T := if sp c = true then bs_soak low c b else b
/-- all of it -/
def bs_all (sp low : Nat → Bool) : bs_T := bs_p2 low 49 0 (bs_fo (bs_p1 sp low) 0 49 bs_0)
def bs_ct (w : Nat → Bool) : Nat → Nat
  | 0 => 0
  | n + 1 => bs_ct w n + (if w n = true then 1 else 0)
theorem bs_ct_le (w : Nat → Bool) : ∀ n, bs_ct w n ≤ n
  | 0 => Nat.le_refl _
  | n + 1 => by
    have := bs_ct_le w n
    unfold bs_ct
    split <;> omega
theorem bs_ct_out {w : Nat → Bool} {c : Nat} : ∀ {n : Nat}, n ≤ c → bs_ct (bs_w w c) n = bs_ct w n
  | 0, _ => rfl
  | n + 1, h => by
    have e : bs_w w c n = w n := if_neg (by omega)
    unfold bs_ct
    rw [bs_ct_out (by omega), e]
theorem bs_ct_in {w : Nat → Bool} {c : Nat} (hw : w c = false) : ∀ {n : Nat}, c < n → bs_ct (bs_w w c) n = bs_ct w n + 1
  | 0, h => absurd h (Nat.not_lt_zero _)
  | n + 1, h => by
    unfold bs_ct
    by_cases e : c = n
    · subst e
      rw [bs_ct_out (Nat.le_refl _), show bs_w w c c = true from if_pos rfl, hw]
      simp
    · rw [bs_ct_in hw (show c < n by omega), show bs_w w c n = w n from if_neg (fun z => e z.symm)]
      omega
theorem bs_ct_lt {w : Nat → Bool} {c n : Nat} (hw : w c = false) (h : c < n) : bs_ct w n < n := by
  have h1 := bs_ct_in hw h
  have h2 := bs_ct_le (bs_w w c) n
  omega
/-- what holds all along -/
def bs_I (low : Nat → Bool) (b : bs_T) : Prop := b.2.2 = bs_ct b.1 49 ∧ (∀ j, j < b.2.2 → b.2.1 j < 49) ∧ ∀ c, b.1 c = true → low c = true ∧ c < 49
theorem bs_I0 (low : Nat → Bool) : bs_I low bs_0 := by
  refine ⟨?_, fun j h => absurd h (Nat.not_lt_zero _), fun c h => by cases h⟩
  have : ∀ n, bs_ct (fun _ => false) n = 0 := fun n => by
    induction n with
    | zero => rfl
    | succ n ih => unfold bs_ct; rw [ih]; rfl
  exact (this 49).symm
theorem bs_I.le {low : Nat → Bool} {b : bs_T} (h : bs_I low b) : b.2.2 ≤ 49 := by rw [h.1]; exact bs_ct_le _ _
theorem bs_I.lt {low : Nat → Bool} {b : bs_T} (h : bs_I low b) {c : Nat} (hw : b.1 c = false) (hc : c < 49) : b.2.2 < 49 := by rw [h.1]; exact bs_ct_lt hw hc
theorem bs_I.soak {low : Nat → Bool} {b : bs_T} (h : bs_I low b) {c : Nat} (hc : c < 49) : bs_I low (bs_soak low c b) := by
  unfold bs_soak
  split
  next hq =>
    refine ⟨?_, fun j hj => ?_, fun d hd => ?_⟩
    · show b.2.2 + 1 = bs_ct (bs_w b.1 c) 49
      rw [bs_ct_in hq.1 hc, h.1]
    · have hj : j < b.2.2 + 1 := hj
      show (if j = b.2.2 then c else b.2.1 j) < 49
      split
      · exact hc
      · exact h.2.1 j (by omega)
    · have hd : (if d = c then true else b.1 d) = true := hd
      split at hd
      next e => subst e; exact ⟨hq.2, hc⟩
      next => exact h.2.2 d hd
  next => exact h
theorem bs_soak_ge {low : Nat → Bool} {b : bs_T} {c : Nat} : b.2.2 ≤ (bs_soak low c b).2.2 := by
  unfold bs_soak
  split
  · exact Nat.le_succ _
  · exact Nat.le_refl _
theorem bs_I.side {low : Nat → Bool} {b : bs_T} (h : bs_I low b) {i s : Nat} (hi : i < b.2.2) : bs_I low (bs_side low i s b) ∧ b.2.2 ≤ (bs_side low i s b).2.2 := by
  unfold bs_side
  split
  next d hd => exact ⟨h.soak (nb_lt (h.2.1 i hi) hd), bs_soak_ge⟩
  next => exact ⟨h, Nat.le_refl _⟩
def wd (lev : Int32) (top f0 : Nat → Int32) (w : Nat → Bool) : Nat → Int32 := fun c => if c < 49 then (if w c = true then lev - top c else 0) else f0 c
def wq (f0 : Nat → Int32) (q : Nat → Nat) (n : Nat) : Nat → Int32 := fun j => if j < n then nI (q j) else f0 j
def ww (f0 : Nat → Int32) (w : Nat → Bool) : Nat → Int32 := fun c => if c < 49 then (if w c = true then nI 1 else nI 0) else f0 c
theorem wd_up {lev : Int32} {top f0 : Nat → Int32} {w : Nat → Bool} {c : Nat} (hc : c < 49) : upd (wd lev top f0 w) c (lev - top c) = wd lev top f0 (bs_w w c) := by
  funext j
  unfold upd wd bs_w
  by_cases h : j = c
  · subst h; simp [hc]
  · simp [h]
theorem ww_up {f0 : Nat → Int32} {w : Nat → Bool} {c : Nat} (hc : c < 49) : upd (ww f0 w) c (nI 1) = ww f0 (bs_w w c) := by
  funext j
  unfold upd ww bs_w
  by_cases h : j = c
  · subst h; simp [hc]
  · simp [h]
theorem wq_up {f0 : Nat → Int32} {q : Nat → Nat} {n c : Nat} : upd (wq f0 q n) n (nI c) = wq f0 (bs_q q n c) (n + 1) := by
  funext j
  unfold upd wq bs_q
  by_cases h : j = n
  · subst h; simp
  · by_cases h2 : j < n
    · simp [h, h2, Nat.lt_succ_of_lt h2]
    · have h3 : ¬ j < n + 1 := by omega
      simp [h, h2, h3]
theorem u2_u2 {A : Nat → Nat → Int32} {a k : Nat} {x y : Int32} : u2 (u2 A a k x) a k y = u2 A a k y := by
  funext b j
  rw [u2_e, u2_e, u2_e]
  by_cases h : b = a
  · by_cases h2 : j = k <;> simp [h, h2]
  · simp [h]
theorem u2_in1 {A : Nat → Nat → Int32} {a b k : Nat} {f g : Nat → Int32} {x : Int32} (h : a ≠ b) : u2 (u1 (u1 A a f) b g) a k x = u1 (u1 A a (upd f k x)) b g := by
  funext d j
  rw [u2_e]
  unfold u1 va_up upd
  by_cases h1 : d = b
  · subst h1; simp [Ne.symm h]
  · by_cases h2 : d = a
    · subst h2; simp [h1]
    · simp [h1, h2]
