/-! The cheapest road: masks, the true values, their equations. -/
def ms (a b : Nat) : Nat := a ^^^ (a &&& b)
theorem ms_tb (a b i : Nat) : (ms a b).testBit i = (a.testBit i && !b.testBit i) := by
  unfold ms
  rw [Nat.testBit_xor, Nat.testBit_and]
  cases a.testBit i <;> cases b.testBit i <;> rfl
theorem ms_0 {a b : Nat} : ms a b = 0 ↔ ∀ i, a.testBit i = true → b.testBit i = true := by
  constructor
  · intro h i hi
    have e := ms_tb a b i
    rw [h, hi, Nat.zero_testBit] at e
    cases hb : b.testBit i
    · rw [hb] at e
      cases e
    · rfl
  · intro h
    apply Nat.eq_of_testBit_eq
    intro i
    rw [ms_tb, Nat.zero_testBit]
    cases ha : a.testBit i
    · rfl
    · rw [h i ha]
      rfl
theorem ms_sub {a b : Nat} (h : ms a b = 0) : a ≤ b := by
  have e : a &&& b = a := by
    apply Nat.eq_of_testBit_eq
    intro i
    rw [Nat.testBit_and]
    cases ha : a.testBit i
    · rfl
    · rw [ms_0.1 h i ha]
      rfl
  rw [← e]
  exact Nat.and_le_right
theorem ms_in (a b : Nat) : ms (ms a b) a = 0 := by
  rw [ms_0]
  intro i hi
  rw [ms_tb] at hi
  cases ha : a.testBit i
  · rw [ha] at hi
    cases hi
  · rfl
theorem ms_le (a b : Nat) : ms a b ≤ a := ms_sub (ms_in a b)
theorem ms_ms (a b : Nat) : ms (ms a b) b = ms a b := by
  apply Nat.eq_of_testBit_eq
  intro i
  rw [ms_tb, ms_tb]
  cases a.testBit i <;> cases b.testBit i <;> rfl
theorem ms_or (a b c : Nat) : ms (ms a b) c = ms a (b ||| c) := by
  apply Nat.eq_of_testBit_eq
  intro i
  rw [ms_tb, ms_tb, ms_tb, Nat.testBit_or]
  cases a.testBit i <;> cases b.testBit i <;> cases c.testBit i <;> rfl
theorem ms_z (a : Nat) : ms a 0 = a := by
  unfold ms
  rw [Nat.and_zero, Nat.xor_zero]
theorem ms_tr {a b c : Nat} (h : ms a b = 0) (h2 : ms b c = 0) : ms a c = 0 := ms_0.2 (fun i hi => ms_0.1 h2 i (ms_0.1 h i hi))
theorem ms_rf (a : Nat) : ms a a = 0 := ms_0.2 (fun _ hi => hi)
theorem ms_mo {a b : Nat} (h : ms a b = 0) (s : Nat) : ms (ms a s) (ms b s) = 0 := by
  rw [ms_0]
  intro i hi
  rw [ms_tb] at hi ⊢
  cases ha : a.testBit i
  · rw [ha] at hi
    cases hi
  · rw [ha] at hi
    rw [ms_0.1 h i ha]
    exact hi
theorem ms_bit {a b i : Nat} (h : b.testBit i = true) : ms (ms a (2 ^ i)) b = ms a b := by
  apply Nat.eq_of_testBit_eq
  intro j
  rw [ms_tb, ms_tb, ms_tb, Nat.testBit_two_pow]
  by_cases e : i = j
  · subst e
    rw [h]
    cases a.testBit i <;> simp
  · simp [e]
theorem ms_low {a m : Nat} (h : a < 2 ^ (m + 1)) : ms a (2 ^ m) < 2 ^ m := by
  apply Nat.lt_pow_two_of_testBit
  intro i hi
  rw [ms_tb, Nat.testBit_two_pow]
  by_cases e : m = i
  · simp [e]
  · have : a.testBit i = false := Nat.testBit_lt_two_pow (Nat.lt_of_lt_of_le h (Nat.pow_le_pow_right (by decide) (by omega)))
    rw [this]
    rfl
theorem ms_lt {a m : Nat} (b : Nat) (h : a < m) : ms a b < m := Nat.lt_of_le_of_lt (ms_le a b) h
/-- a road from c past U to g, with k steps, of weight v -/
def rR (W S : Nat → Nat) (g : Nat) : Nat → Nat → Nat → Nat → Prop
  | 0, U, c, v => ms U (S c) = 0 ∧ c = g ∧ v = W c
  | k + 1, U, c, v => ∃ s n v', s < 4 ∧ nb c s = some n ∧ v = v' + W c ∧ rR W S g k (ms U (S c)) n v'
theorem rR_mo {W S : Nat → Nat} {g : Nat} : ∀ k {U U2 c v}, ms U2 U = 0 → rR W S g k U c v → rR W S g k U2 c v
  | 0, U, U2, c, v, h, ⟨a, b, e⟩ => ⟨by
      have := ms_mo h (S c)
      rw [a, ms_z] at this
      exact this, b, e⟩
  | k + 1, U, U2, c, v, h, ⟨s, n, v', a, b, e, q⟩ => ⟨s, n, v', a, b, e, rR_mo k (ms_mo h (S c)) q⟩
theorem rR_eq {W S : Nat → Nat} {g : Nat} : ∀ k {U U2 c v}, ms U (S c) = ms U2 (S c) → rR W S g k U c v → rR W S g k U2 c v
  | 0, U, U2, c, v, h, ⟨a, b, e⟩ => ⟨h ▸ a, b, e⟩
  | k + 1, U, U2, c, v, h, ⟨s, n, v', a, b, e, q⟩ => ⟨s, n, v', a, b, e, h ▸ q⟩
/-- there is a road of at most j cells of weight X -/
def rP (W S : Nat → Nat) (g X U c j : Nat) : Prop := ∃ k v, rR W S g k U c v ∧ v ≤ j * X
theorem rP_step {W S : Nat → Nat} {g X U c j s n : Nat} (hX : W c ≤ X) (hs : s < 4) (hn : nb c s = some n) (h : rP W S g X U n j) : rP W S g X U c (j + 1) := by
  obtain ⟨k, v, h1, h2⟩ := h
  refine ⟨k + 1, v + W c, ⟨s, n, v, hs, hn, rfl, rR_mo k (ms_in U (S c)) h1⟩, ?_⟩
  rw [Nat.add_mul, Nat.one_mul]
  omega
/-- how far -/
def gd (c t : Nat) : Nat := (c / 7 - t / 7) + (t / 7 - c / 7) + (c % 7 - t % 7) + (t % 7 - c % 7)
theorem gd_le {c t : Nat} (hc : c < 49) (ht : t < 49) : gd c t ≤ 12 := by
  unfold gd
  omega
theorem gd_0 {c t : Nat} (h : gd c t = 0) : c = t := by
  unfold gd at h
  omega
theorem gd_s {c t d : Nat} (hc : c < 49) (ht : t < 49) (h : gd c t = d + 1) : ∃ s n, s < 4 ∧ nb c s = some n ∧ n < 49 ∧ gd n t = d := by
  unfold gd at h ⊢
  by_cases h0 : t / 7 < c / 7
  · refine ⟨0, c - 7, by decide, ?_, by omega, by omega⟩
    show (if 7 ≤ c then some (c - 7) else none) = _
    rw [if_pos (by omega)]
  by_cases h1 : t % 7 < c % 7
  · refine ⟨1, c - 1, by decide, ?_, by omega, by omega⟩
    show (if 0 < c % 7 then some (c - 1) else none) = _
    rw [if_pos (by omega)]
  by_cases h2 : c % 7 < t % 7
  · refine ⟨2, c + 1, by decide, ?_, by omega, by omega⟩
    show (if c % 7 < 6 then some (c + 1) else none) = _
    rw [if_pos (by omega)]
  refine ⟨3, c + 7, by decide, ?_, by omega, by omega⟩
  show (if c < 42 then some (c + 7) else none) = _
  rw [if_pos (by omega)]
theorem rP_go {W S : Nat → Nat} {g X U t j : Nat} (hX : ∀ c, c < 49 → W c ≤ X) (ht : t < 49) (h : rP W S g X U t j) : ∀ d c, c < 49 → gd c t = d → rP W S g X U c (j + d)
  | 0, c, _, e => by
    rw [gd_0 e]
    exact h
  | d + 1, c, hc, e => by
    obtain ⟨s, n, hs, hn, h9, hd⟩ := gd_s hc ht e
    exact rP_step (hX c hc) hs hn (rP_go hX ht h d n h9 hd)
theorem rP_up {W S : Nat → Nat} {g X U c j j' : Nat} (h : rP W S g X U c j) (hj : j ≤ j') : rP W S g X U c j' := by
  obtain ⟨k, v, h1, h2⟩ := h
  exact ⟨k, v, h1, Nat.le_trans h2 (Nat.mul_le_mul_right X hj)⟩
theorem rP_all {W S : Nat → Nat} {g X : Nat} (hX : ∀ c, c < 49 → W c ≤ X) (hg : g < 49) {N : Nat} {T : Nat → Nat} (hT : ∀ i, i < N → T i < 49 ∧ (S (T i)).testBit i = true) : ∀ m, m ≤ N → ∀ U, U < 2 ^ m → ∀ c, c < 49 → rP W S g X U c (12 * m + 13)
  | 0, _, U, hU, c, hc => by
    have e : U = 0 := by
      rw [Nat.pow_zero] at hU
      omega
    subst e
    have h0 : rP W S g X 0 g 1 := by
      refine ⟨0, W g, ⟨?_, rfl, rfl⟩, ?_⟩
      · exact ms_0.2 (fun i hi => by rw [Nat.zero_testBit] at hi; cases hi)
      · rw [Nat.one_mul]
        exact hX g hg
    have := gd_le hc hg
    exact rP_up (rP_go hX hg h0 _ c hc rfl) (by omega)
  | m + 1, hm, U, hU, c, hc => by
    obtain ⟨ht, hb⟩ := hT m (by omega)
    obtain ⟨k, v, h1, h2⟩ := rP_all hX hg hT m (by omega) (ms U (2 ^ m)) (ms_low hU) (T m) ht
    have h3 : rP W S g X U (T m) (12 * m + 13) := ⟨k, v, rR_eq k (ms_bit hb) h1, h2⟩
    have := gd_le hc ht
    exact rP_up (rP_go hX ht h3 _ c hc rfl) (by omega)
/-- the equations of the true values -/
def BE (W S : Nat → Nat) (g M : Nat) (V : Nat → Nat → Nat) : Prop := ∀ U c, U < M → c < 49 → (ms U (S c) = 0 → c = g → V U c = W c) ∧ (∀ s n, s < 4 → nb c s = some n → V U c ≤ V (ms U (S c)) n + W c) ∧ (¬ (ms U (S c) = 0 ∧ c = g) → ∃ s n, s < 4 ∧ nb c s = some n ∧ V U c = V (ms U (S c)) n + W c)
noncomputable def rV (W S : Nat → Nat) (g U c : Nat) : Nat := Classical.epsilon (fun v => (∃ k, rR W S g k U c v) ∧ ∀ j, j < v → ¬ ∃ k, rR W S g k U c j)
theorem rV_s {W S : Nat → Nat} {g U c : Nat} (h : ∃ v k, rR W S g k U c v) : (∃ k, rR W S g k U c (rV W S g U c)) ∧ ∀ v k, rR W S g k U c v → rV W S g U c ≤ v := by
  have := Classical.epsilon_spec (pk_least _ h)
  refine ⟨this.1, fun v k hv => ?_⟩
  exact Nat.le_of_not_lt (fun q => this.2 v q ⟨k, hv⟩)
theorem rR_w {W S : Nat → Nat} {g : Nat} : ∀ k {U c v}, rR W S g k U c v → W c ≤ v
  | 0, _, _, _, ⟨_, _, e⟩ => Nat.le_of_eq e.symm
  | _ + 1, _, _, _, ⟨_, _, _, _, _, e, _⟩ => by
    rw [e]
    exact Nat.le_add_left _ _
theorem rV_be {W S : Nat → Nat} {g M : Nat} (h : ∀ U c, U < M → c < 49 → ∃ v k, rR W S g k U c v) : BE W S g M (rV W S g) := by
  intro U c hU hc
  obtain ⟨⟨k, hk⟩, hl⟩ := rV_s (h U c hU hc)
  have hU' : ms U (S c) < M := ms_lt _ hU
  have step : ∀ s n, s < 4 → nb c s = some n → rV W S g U c ≤ rV W S g (ms U (S c)) n + W c := by
    intro s n hs hn
    obtain ⟨⟨k, hk⟩, _⟩ := rV_s (h _ n hU' (nb_lt hc hn))
    exact hl _ (k + 1) ⟨s, n, _, hs, hn, rfl, hk⟩
  refine ⟨fun h1 h2 => ?_, step, fun hn => ?_⟩
  · exact Nat.le_antisymm (hl _ 0 ⟨h1, h2, rfl⟩) (rR_w k hk)
  · cases k with
    | zero => exact absurd ⟨hk.1, hk.2.1⟩ hn
    | succ k =>
      obtain ⟨s, n, v', hs, hb, e, q⟩ := hk
      refine ⟨s, n, hs, hb, Nat.le_antisymm (step s n hs hb) ?_⟩
      rw [e]
      exact Nat.add_le_add_right ((rV_s (h _ n hU' (nb_lt hc hb))).2 _ k q) _
theorem rV_mo {W S : Nat → Nat} {g M : Nat} (h : ∀ U c, U < M → c < 49 → ∃ v k, rR W S g k U c v) {U U2 c : Nat} (hU : U < M) (hc : c < 49) (hs : ms U2 U = 0) : rV W S g U2 c ≤ rV W S g U c := by
  obtain ⟨⟨k, hk⟩, _⟩ := rV_s (h U c hU hc)
  have h2 : U2 < M := Nat.lt_of_le_of_lt (ms_sub hs) hU
  exact (rV_s (h U2 c h2 hc)).2 _ k (rR_mo k hs hk)
/-! Counting. -/
def ct (p : Nat → Bool) : Nat → Nat
  | 0 => 0
  | n + 1 => ct p n + if p n = true then 1 else 0
theorem ct_n (p : Nat → Bool) : ∀ n, ct p n ≤ n
  | 0 => Nat.le_refl 0
  | n + 1 => by
    have := ct_n p n
    unfold ct
    split <;> omega
theorem ct_le {p q : Nat → Bool} (h : ∀ i, p i = true → q i = true) : ∀ n, ct p n ≤ ct q n
  | 0 => Nat.le_refl 0
  | n + 1 => by
    have := ct_le h n
    have := h n
    unfold ct
    split
    next hp => rw [if_pos (h n hp)]; omega
    next => split <;> omega
theorem ct_lt {p q : Nat → Bool} (h : ∀ i, p i = true → q i = true) {i : Nat} (h1 : ¬ p i = true) (h2 : q i = true) : ∀ n, i < n → ct p n < ct q n
  | 0, hi => by omega
  | n + 1, hi => by
    have := ct_le h n
    unfold ct
    by_cases e : i = n
    · subst e
      rw [if_neg h1, if_pos h2]
      omega
    · have := ct_lt h h1 h2 n (by omega)
      split
      next hp => rw [if_pos (h n hp)]; omega
      next => split <;> omega
theorem ct_pos {q : Nat → Bool} {i n : Nat} (h2 : q i = true) (hi : i < n) : 1 ≤ ct q n := Nat.lt_of_le_of_lt (Nat.zero_le _) (ct_lt (p := fun _ => false) (q := q) (fun i h => by cases h) (by decide) h2 n hi)
theorem ms_ct {U s n : Nat} (h : ms U s ≠ U) (hU : U < 2 ^ n) : ct (ms U s).testBit n < ct U.testBit n := by
  have hs : ∀ i, (ms U s).testBit i = true → U.testBit i = true := ms_0.1 (ms_in U s)
  have : ∃ i, ¬ (ms U s).testBit i = true ∧ U.testBit i = true := by
    apply Classical.byContradiction
    intro q
    apply h
    apply Nat.eq_of_testBit_eq
    intro i
    cases hu : U.testBit i
    · cases hm : (ms U s).testBit i
      · rfl
      · rw [hs i hm] at hu
        cases hu
    · exact Classical.byContradiction (fun hm => q ⟨i, hm, hu⟩)
  obtain ⟨i, h1, h2⟩ := this
  refine ct_lt hs h1 h2 n (Nat.lt_of_not_le (fun hi => ?_))
  rw [Nat.testBit_lt_two_pow (Nat.lt_of_lt_of_le hU (Nat.pow_le_pow_right (by decide) hi))] at h2
  cases h2
/-! Cost and number of cells. -/
def vW (k : Nat → Nat) (M : Nat) : Nat → Nat := fun c => M * k c + 1
theorem rR_kn {k S : Nat → Nat} {g : Nat} (hk : ∀ c, 1 ≤ k c) : ∀ j {U c v}, rR (vW k 4096) S g j U c v → ∃ a b, v = 4096 * a + b ∧ 1 ≤ b ∧ b ≤ a
  | 0, _, c, _, ⟨_, _, e⟩ => ⟨k c, 1, e, Nat.le_refl 1, hk c⟩
  | j + 1, _, c, _, ⟨_, _, v', _, _, e, q⟩ => by
    obtain ⟨a, b, h1, h2, h3⟩ := rR_kn hk j q
    have := hk c
    refine ⟨a + k c, b + 1, ?_, by omega, by omega⟩
    rw [e, h1]
    unfold vW
    omega
/-- all that is known of the plan of a world -/
def PV (k S : Nat → Nat) (g m : Nat) (V : Nat → Nat → Nat) : Prop := BE (vW k 4096) S g (2 ^ m) V ∧ (∀ U c, U < 2 ^ m → c < 49 → ∃ a b, V U c = 4096 * a + b ∧ 1 ≤ b ∧ b ≤ a ∧ a ≤ 3910) ∧ (∀ U U2 c, U < 2 ^ m → c < 49 → ms U2 U = 0 → V U2 c ≤ V U c)
theorem rV_pv {k S : Nat → Nat} {g m : Nat} (hk : ∀ c, 1 ≤ k c ∧ k c ≤ 46) (hg : g < 49) (hm : m ≤ 6) {T : Nat → Nat} (hT : ∀ i, i < m → T i < 49 ∧ (S (T i)).testBit i = true) : PV k S g m (rV (vW k 4096) S g) := by
  have hX : ∀ c, c < 49 → vW k 4096 c ≤ 188417 := by
    intro c _
    have := hk c
    unfold vW
    omega
  have hP := fun U hU c hc => rP_all (W := vW k 4096) (S := S) hX hg hT m (Nat.le_refl m) U hU c hc
  have hE : ∀ U c, U < 2 ^ m → c < 49 → ∃ v j, rR (vW k 4096) S g j U c v := by
    intro U c hU hc
    obtain ⟨j, v, h, _⟩ := hP U hU c hc
    exact ⟨v, j, h⟩
  refine ⟨rV_be hE, fun U c hU hc => ?_, fun U U2 c hU hc hs => rV_mo hE hU hc hs⟩
  obtain ⟨⟨j, hj⟩, hl⟩ := rV_s (hE U c hU hc)
  obtain ⟨a, b, h1, h2, h3⟩ := rR_kn (fun c => (hk c).1) j hj
  obtain ⟨j2, v, h4, h5⟩ := hP U hU c hc
  have h6 := hl v j2 h4
  have h7 : (12 * m + 13) * 188417 ≤ 85 * 188417 := Nat.mul_le_mul_right _ (by omega)
  exact ⟨a, b, h1, h2, h3, by omega⟩
section PM
variable {k S : Nat → Nat} {g m : Nat} {V : Nat → Nat → Nat}
theorem PV.b (h : PV k S g m V) {U c : Nat} (hU : U < 2 ^ m) (hc : c < 49) : V U c = 4096 * (V U c / 4096) + V U c % 4096 ∧ 1 ≤ V U c % 4096 ∧ V U c % 4096 ≤ V U c / 4096 ∧ V U c / 4096 ≤ 3910 := by
  obtain ⟨a, b, h1, h2, h3, h4⟩ := h.2.1 U c hU hc
  omega
theorem PV.s (h : PV k S g m V) {U U' c n : Nat} (hU : U < 2 ^ m) (hc : c < 49) (hU' : U' < 2 ^ m) (hn : n < 49) (e : V U c = V U' n + vW k 4096 c) : V U c / 4096 = V U' n / 4096 + k c ∧ V U c % 4096 = V U' n % 4096 + 1 := by
  have := h.b hU hc
  have := h.b hU' hn
  unfold vW at e
  omega
theorem PV.n1 (h : PV k S g m V) (hm : m ≤ 6) : ∀ v U c, V U c ≤ v → U < 2 ^ m → c < 49 → V U c % 4096 ≤ ct (fun d => decide (V U d ≤ V U c)) 49 + 49 * ct U.testBit m := by
  intro v
  induction v with
  | zero =>
    intro U c hv hU hc
    have := h.b hU hc
    omega
  | succ v ih =>
    intro U c hv hU hc
    have hc1 : 1 ≤ ct (fun d => decide (V U d ≤ V U c)) 49 := ct_pos (i := c) (decide_eq_true (Nat.le_refl _)) hc
    obtain ⟨h1, _, h3⟩ := h.1 U c hU hc
    by_cases e : ms U (S c) = 0 ∧ c = g
    · have e2 := h1 e.1 e.2
      have hb := h.b hU hc
      unfold vW at e2
      omega
    · obtain ⟨s, n, hs, hn, e2⟩ := h3 e
      have hU' : ms U (S c) < 2 ^ m := ms_lt _ hU
      have h9 := nb_lt hc hn
      have hst := h.s hU hc hU' h9 e2
      have hlt : V (ms U (S c)) n < V U c := by
        rw [e2]
        unfold vW
        omega
      have hi := ih (ms U (S c)) n (by omega) hU' h9
      by_cases hq : ms U (S c) = U
      · rw [hq] at hi hlt hst
        have : ct (fun d => decide (V U d ≤ V U n)) 49 < ct (fun d => decide (V U d ≤ V U c)) 49 := by
          refine ct_lt (i := c) (fun i hi => ?_) ?_ (decide_eq_true (Nat.le_refl _)) 49 hc
          · have := of_decide_eq_true hi
            exact decide_eq_true (by omega)
          · intro q
            have := of_decide_eq_true q
            omega
        omega
      · have h1 := ms_ct hq hU
        have h2 := ct_n (fun d => decide (V (ms U (S c)) d ≤ V (ms U (S c)) n)) 49
        omega
theorem PV.n (h : PV k S g m V) (hm : m ≤ 6) {U c : Nat} (hU : U < 2 ^ m) (hc : c < 49) : V U c % 4096 ≤ 343 := by
  have h1 := h.n1 hm _ U c (Nat.le_refl _) hU hc
  have h2 := ct_n (fun d => decide (V U d ≤ V U c)) 49
  have h3 := ct_n U.testBit m
  omega
/-- cost and cells weighed otherwise -/
def vM (V : Nat → Nat → Nat) (M U c : Nat) : Nat := M * (V U c / 4096) + V U c % 4096
def vK (V : Nat → Nat → Nat) (U c : Nat) : Nat := V U c / 4096
theorem vK_be (h : PV k S g m V) : BE k S g (2 ^ m) (vK V) := by
  intro U c hU hc
  obtain ⟨h1, h2, h3⟩ := h.1 U c hU hc
  have hU' : ms U (S c) < 2 ^ m := ms_lt _ hU
  have hb := h.b hU hc
  unfold vK
  refine ⟨fun a b => ?_, fun s n hs hn => ?_, fun e => ?_⟩
  · have := h1 a b
    unfold vW at this
    omega
  · have q := h2 s n hs hn
    have := h.b hU' (nb_lt hc hn)
    unfold vW at q
    omega
  · obtain ⟨s, n, hs, hn, e2⟩ := h3 e
    exact ⟨s, n, hs, hn, (h.s hU hc hU' (nb_lt hc hn) e2).1⟩
theorem vM_be (h : PV k S g m V) (hm : m ≤ 6) : BE (vW k 1000) S g (2 ^ m) (vM V 1000) := by
  intro U c hU hc
  obtain ⟨h1, h2, h3⟩ := h.1 U c hU hc
  have hU' : ms U (S c) < 2 ^ m := ms_lt _ hU
  have hb := h.b hU hc
  have hn' := h.n hm hU hc
  unfold vM vW
  refine ⟨fun a b => ?_, fun s n hs hn => ?_, fun e => ?_⟩
  · have := h1 a b
    unfold vW at this
    omega
  · have := h2 s n hs hn
    have := h.b hU' (nb_lt hc hn)
    have := h.n hm hU' (nb_lt hc hn)
    unfold vW at *
    omega
  · obtain ⟨s, n, hs, hn, e2⟩ := h3 e
    have := h.s hU hc hU' (nb_lt hc hn) e2
    exact ⟨s, n, hs, hn, by omega⟩
theorem vM_eq (h : PV k S g m V) (hm : m ≤ 6) {U c U' n : Nat} (hU : U < 2 ^ m) (hc : c < 49) (hU' : U' < 2 ^ m) (hn : n < 49) : V U' n + vW k 4096 c = V U c ↔ vM V 1000 U' n + vW k 1000 c = vM V 1000 U c := by
  have := h.b hU hc
  have := h.n hm hU hc
  have := h.b hU' hn
  have := h.n hm hU' hn
  unfold vM vW
  omega
end PM
