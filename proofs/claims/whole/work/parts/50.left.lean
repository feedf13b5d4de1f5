/-! The reference's two searches, as pure things. -/
section LF
variable {W S : Nat → Nat} {g M : Nat} {X : Nat → Nat → Nat}
theorem be_w (h : BE W S g M X) {U c : Nat} (hU : U < M) (hc : c < 49) : W c ≤ X U c := by
  obtain ⟨h1, _, h3⟩ := h U c hU hc
  by_cases e : ms U (S c) = 0 ∧ c = g
  · rw [h1 e.1 e.2]
    exact Nat.le_refl _
  · obtain ⟨s, n, _, _, e2⟩ := h3 e
    rw [e2]
    exact Nat.le_add_left _ _
theorem be_same1 (h : BE W S g M X) {U U2 c : Nat} (hU : U < M) (hU2 : U2 < M) (hc : c < 49) (e : ms U (S c) = ms U2 (S c)) : X U c ≤ X U2 c := by
  obtain ⟨h1, h2, h3⟩ := h U c hU hc
  obtain ⟨k1, k2, k3⟩ := h U2 c hU2 hc
  by_cases q : ms U (S c) = 0 ∧ c = g
  · rw [h1 q.1 q.2, k1 (e ▸ q.1) q.2]
    exact Nat.le_refl _
  · obtain ⟨s, n, hs, hn, e2⟩ := k3 (e ▸ q)
    rw [e2, ← e]
    exact h2 s n hs hn
theorem be_same (h : BE W S g M X) {U U2 c : Nat} (hU : U < M) (hU2 : U2 < M) (hc : c < 49) (e : ms U (S c) = ms U2 (S c)) : X U c = X U2 c := Nat.le_antisymm (be_same1 h hU hU2 hc e) (be_same1 h hU2 hU hc e.symm)
def tt (W : Nat → Nat) (X : Nat → Nat → Nat) (set h c : Nat) : Nat := X (ms set h) c - W c
theorem or_sub {a h : Nat} (q : ms a h = 0) : h ||| a = h := by
  apply Nat.eq_of_testBit_eq
  intro i
  rw [Nat.testBit_or]
  cases ha : a.testBit i
  · rw [Bool.or_false]
  · rw [ms_0.1 q i ha]
    rfl
theorem ms_good {set h a : Nat} (q : ms a h = 0) : ms (ms set h) a = ms set h := by
  rw [ms_or, or_sub q]
theorem tt_0 (hB : BE W S g M X) {set h c : Nat} (hs : set < M) (hc : c < 49) (hg : ms (S c) h = 0) (h1 : ms set h = 0) (h2 : c = g) : tt W X set h c = 0 := by
  unfold tt
  rw [(hB _ c (ms_lt h hs) hc).1 (by rw [ms_good hg]; exact h1) h2, Nat.sub_self]
theorem tt_x (hB : BE W S g M X) {set h n : Nat} (hs : set < M) (hn : n < 49) : X (ms set h) n = tt W X set (h ||| S n) n + W n := by
  unfold tt
  have e : X (ms set h) n = X (ms set (h ||| S n)) n := by
    refine be_same hB (ms_lt _ hs) (ms_lt _ hs) hn ?_
    rw [← ms_or, ms_ms]
  have := be_w hB (ms_lt (h ||| S n) hs) hn
  omega
theorem tt_le (hB : BE W S g M X) {set h c s n : Nat} (hs : set < M) (hc : c < 49) (hg : ms (S c) h = 0) (h4 : s < 4) (hn : nb c s = some n) : tt W X set h c ≤ tt W X set (h ||| S n) n + W n := by
  have := (hB _ c (ms_lt h hs) hc).2.1 s n h4 hn
  rw [ms_good hg, tt_x hB hs (nb_lt hc hn)] at this
  have e : tt W X set h c = X (ms set h) c - W c := rfl
  omega
theorem tt_ex (hB : BE W S g M X) {set h c : Nat} (hs : set < M) (hc : c < 49) (hg : ms (S c) h = 0) (q : ¬ (ms set h = 0 ∧ c = g)) : ∃ s n, s < 4 ∧ nb c s = some n ∧ tt W X set h c = tt W X set (h ||| S n) n + W n := by
  obtain ⟨s, n, h4, hn, e⟩ := (hB _ c (ms_lt h hs) hc).2.2 (by rw [ms_good hg]; exact q)
  rw [ms_good hg, tt_x hB hs (nb_lt hc hn)] at e
  refine ⟨s, n, h4, hn, ?_⟩
  have e : tt W X set h c = X (ms set h) c - W c := rfl
  omega
theorem good_n (h a : Nat) : ms a (h ||| a) = 0 := ms_0.2 (fun i hi => by rw [Nat.testBit_or, hi, Bool.or_true])
theorem or_64 {h a : Nat} (h1 : h < 64) (h2 : a < 64) : h ||| a < 64 := Nat.or_lt_two_pow (n := 6) h1 h2
/-- backward search -/
def lI (W S : Nat → Nat) (g : Nat) (X : Nat → Nat → Nat) (set : Nat) (l : Nat → Nat) : Prop := ∀ c h, c < 49 → h < 64 → ms (S c) h = 0 → tt W X set h c ≤ l (64 * c + h) ∧ (ms set h = 0 → c = g → l (64 * c + h) = 0)
def lF (W S : Nat → Nat) (l : Nat → Nat) : Prop := ∀ c h s n, c < 49 → h < 64 → s < 4 → nb c s = some n → l (64 * c + h) ≤ l (64 * n + (h ||| S n)) + W n
theorem left_ok (hB : BE W S g M X) (hW : ∀ c, c < 49 → 0 < W c) (h64 : ∀ c, S c < 64) {set : Nat} (hs : set < M) {l : Nat → Nat} (hI : lI W S g X set l) (hF : lF W S l) {c h : Nat} (hc : c < 49) (hh : h < 64) (hg : ms (S c) h = 0) : l (64 * c + h) = tt W X set h c := by
  have key : ∀ m c h, c < 49 → h < 64 → ms (S c) h = 0 → tt W X set h c ≤ m → l (64 * c + h) ≤ tt W X set h c := by
    intro m
    induction m with
    | zero =>
      intro c h hc hh hg hm
      by_cases q : ms set h = 0 ∧ c = g
      · rw [(hI c h hc hh hg).2 q.1 q.2]
        exact Nat.zero_le _
      · obtain ⟨s, n, h4, hn, e⟩ := tt_ex hB hs hc hg q
        have := hW n (nb_lt hc hn)
        omega
    | succ m ih =>
      intro c h hc hh hg hm
      by_cases q : ms set h = 0 ∧ c = g
      · rw [(hI c h hc hh hg).2 q.1 q.2]
        exact Nat.zero_le _
      · obtain ⟨s, n, h4, hn, e⟩ := tt_ex hB hs hc hg q
        have h0 := hW n (nb_lt hc hn)
        have h1 := ih n (h ||| S n) (nb_lt hc hn) (or_64 hh (h64 n)) (good_n h (S n)) (by omega)
        have h2 := hF c h s n hc hh h4 hn
        omega
  exact Nat.le_antisymm (key _ c h hc hh hg (Nat.le_refl _)) (hI c h hc hh hg).1
theorem lI_up (hB : BE W S g M X) (h64 : ∀ c, S c < 64) {set : Nat} (hs : set < M) {l : Nat → Nat} (hI : lI W S g X set l) {c h s n : Nat} (hc : c < 49) (hh : h < 64) (h4 : s < 4) (hn : nb c s = some n) (hl : l (64 * n + (h ||| S n)) + W n < l (64 * c + h)) : lI W S g X set (un l (64 * c + h) (l (64 * n + (h ||| S n)) + W n)) := by
  intro c2 h2 hc2 hh2 hg2
  unfold un
  split
  next e =>
    have e1 : c2 = c := by omega
    have e2 : h2 = h := by omega
    subst e1
    subst e2
    refine ⟨?_, fun a b => ?_⟩
    · have h1 := (hI n (h2 ||| S n) (nb_lt hc hn) (or_64 hh (h64 n)) (good_n h2 (S n))).1
      have h3 := tt_le hB hs hc hg2 h4 hn
      omega
    · have := (hI c2 h2 hc hh hg2).2 a b
      omega
  next => exact hI c2 h2 hc2 hh2 hg2
/-- forward search, by cost alone -/
def cI (W S : Nat → Nat) (M : Nat) (X : Nat → Nat → Nat) (f F : Nat) (l : Nat → Nat) : Prop := l (64 * f + S f) ≤ W f ∧ ∀ c h, c < 49 → h < 64 → l (64 * c + h) ≤ F ∧ (l (64 * c + h) < F → ms (S c) h = 0 ∧ h < M ∧ ∀ set, set < M → X set f ≤ l (64 * c + h) + tt W X set h c)
def cF (W S : Nat → Nat) (F : Nat) (l : Nat → Nat) : Prop := ∀ c h s n, c < 49 → h < 64 → s < 4 → nb c s = some n → l (64 * c + h) < F → l (64 * n + (h ||| S n)) ≤ l (64 * c + h) + W n
theorem come_ge (hB : BE W S g M X) {f F set : Nat} (hs : set < M) {l : Nat → Nat} (hI : cI W S M X f F l) {h : Nat} (hg : g < 49) (hh : h < 64) (h1 : ms set h = 0) (hF : l (64 * g + h) < F) : X set f ≤ l (64 * g + h) := by
  obtain ⟨h2, h3, h4⟩ := (hI.2 g h hg hh).2 hF
  have := h4 set hs
  rw [tt_0 hB hs hg h2 h1 rfl] at this
  exact this
theorem come_le (hB : BE W S g M X) (hW : ∀ c, c < 49 → 0 < W c) (h64 : ∀ c, S c < 64) {f F set : Nat} (hf : f < 49) (hs : set < M) (hX : X set f < F) {l : Nat → Nat} (hI : cI W S M X f F l) (hF : cF W S F l) : ∃ h, h < M ∧ h < 64 ∧ ms set h = 0 ∧ l (64 * g + h) ≤ X set f := by
  have key : ∀ m c h, c < 49 → h < 64 → l (64 * c + h) + tt W X set h c < F → tt W X set h c ≤ m → ∃ h', h' < M ∧ h' < 64 ∧ ms set h' = 0 ∧ l (64 * g + h') ≤ l (64 * c + h) + tt W X set h c := by
    intro m
    induction m with
    | zero =>
      intro c h hc hh hlt hm
      obtain ⟨h2, h3, _⟩ := (hI.2 c h hc hh).2 (by omega)
      by_cases q : ms set h = 0 ∧ c = g
      · obtain ⟨q1, q2⟩ := q
        subst q2
        exact ⟨h, h3, hh, q1, Nat.le_add_right _ _⟩
      · obtain ⟨s, n, h4, hn, e⟩ := tt_ex hB hs hc h2 q
        have := hW n (nb_lt hc hn)
        omega
    | succ m ih =>
      intro c h hc hh hlt hm
      obtain ⟨h2, h3, _⟩ := (hI.2 c h hc hh).2 (by omega)
      by_cases q : ms set h = 0 ∧ c = g
      · obtain ⟨q1, q2⟩ := q
        subst q2
        exact ⟨h, h3, hh, q1, Nat.le_add_right _ _⟩
      · obtain ⟨s, n, h4, hn, e⟩ := tt_ex hB hs hc h2 q
        have h0 := hW n (nb_lt hc hn)
        have h5 := hF c h s n hc hh h4 hn (by omega)
        obtain ⟨h', a1, a2, a3, a4⟩ := ih n (h ||| S n) (nb_lt hc hn) (or_64 hh (h64 n)) (by omega) (by omega)
        exact ⟨h', a1, a2, a3, by omega⟩
  have e : X set f = tt W X set (S f) f + W f := by
    have := tt_x hB (h := 0) hs hf
    rw [ms_z, Nat.zero_or] at this
    exact this
  have hl := hI.1
  obtain ⟨h', a1, a2, a3, a4⟩ := key _ f (S f) hf (h64 f) (by omega) (Nat.le_refl _)
  exact ⟨h', a1, a2, a3, by omega⟩
theorem cI_up (hB : BE W S g M X) (h64 : ∀ c, S c < 64) (hSM : ∀ h c, h < M → h ||| S c < M) {f F : Nat} (hf : f < 49) {l : Nat → Nat} (hI : cI W S M X f F l) {c h s n : Nat} (hc : c < 49) (hh : h < 64) (h4 : s < 4) (hn : nb c s = some n) (hF : l (64 * c + h) < F) (hl : l (64 * c + h) + W n < l (64 * n + (h ||| S n))) : cI W S M X f F (un l (64 * n + (h ||| S n)) (l (64 * c + h) + W n)) := by
  have n9 := nb_lt hc hn
  have hh' := or_64 hh (h64 n)
  have hle := (hI.2 n (h ||| S n) n9 hh').1
  obtain ⟨k1, k2, k3⟩ := (hI.2 c h hc hh).2 hF
  refine ⟨?_, fun c2 h2 hc2 hh2 => ?_⟩
  · unfold un
    split
    next e =>
      rw [← e] at hl
      have := hI.1
      omega
    next => exact hI.1
  · unfold un
    split
    next e =>
      have e1 : c2 = n := by omega
      have e2 : h2 = h ||| S n := by omega
      subst e1
      subst e2
      refine ⟨by omega, fun _ => ⟨good_n h (S c2), hSM h c2 k2, fun set hs => ?_⟩⟩
      have a := k3 set hs
      have b := tt_le hB hs hc k1 h4 hn
      omega
    next => exact hI.2 c2 h2 hc2 hh2
end LF
