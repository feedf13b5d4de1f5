/-! The spreading of the class, as a pure thing, and that it ends at the true values. -/
theorem nb_sy {c s n : Nat} (hc : c < 49) (hs : s < 4) (h : nb c s = some n) : ∃ s', s' < 4 ∧ nb n s' = some c := by
  rcases (show s = 0 ∨ s = 1 ∨ s = 2 ∨ s = 3 by omega) with rfl | rfl | rfl | rfl
  · have h : (if 7 ≤ c then some (c - 7) else none) = some n := h
    split at h
    · cases h
      refine ⟨3, by decide, ?_⟩
      show (if c - 7 < 42 then some (c - 7 + 7) else none) = _
      rw [if_pos (by omega)]
      congr 1
      omega
    · cases h
  · have h : (if 0 < c % 7 then some (c - 1) else none) = some n := h
    split at h
    · cases h
      refine ⟨2, by decide, ?_⟩
      show (if (c - 1) % 7 < 6 then some (c - 1 + 1) else none) = _
      rw [if_pos (by omega)]
      congr 1
      omega
    · cases h
  · have h : (if c % 7 < 6 then some (c + 1) else none) = some n := h
    split at h
    · cases h
      refine ⟨1, by decide, ?_⟩
      show (if 0 < (c + 1) % 7 then some (c + 1 - 1) else none) = _
      rw [if_pos (by omega)]
      congr 1
    · cases h
  · have h : (if c < 42 then some (c + 7) else none) = some n := h
    split at h
    · cases h
      refine ⟨0, by decide, ?_⟩
      show (if 7 ≤ c + 7 then some (c + 7 - 7) else none) = _
      rw [if_pos (by omega)]
      congr 1
    · cases h
theorem nb_self {c s : Nat} (h : nb c s = some c) : False := by
  unfold nb at h
  split at h <;> split at h <;> simp at h <;> omega
def ez (W : Nat → Nat) (x : (Nat → Nat) × List Nat) (n b : Nat) : (Nat → Nat) × List Nat := if b + W n < x.1 n then (un x.1 n (b + W n), if n ∈ x.2 then x.2 else x.2 ++ [n]) else x
def es1 (W : Nat → Nat) (c : Nat) (x : (Nat → Nat) × List Nat) (s : Nat) : (Nat → Nat) × List Nat := match nb c s with
  | none => x
  | some n => ez W x n (x.1 c)
def es4 (W : Nat → Nat) (c : Nat) : Nat → (Nat → Nat) × List Nat → (Nat → Nat) × List Nat
  | 0, x => x
  | s + 1, x => es1 W c (es4 W c s x) s
def sp (W : Nat → Nat) : Nat → (Nat → Nat) × List Nat → (Nat → Nat) × List Nat
  | 0, x => x
  | f + 1, x => match x.2 with
    | [] => x
    | c :: Q => sp W f (es4 W c 4 (x.1, Q))
def qi (r : Nat → Nat) (F : Nat) : Nat → List Nat
  | 0 => []
  | n + 1 => if r n < F then qi r F n ++ [n] else qi r F n
/-! Lists without doubles, of cells. -/
def qok (Q : List Nat) : Prop := Q.Nodup ∧ ∀ c, c ∈ Q → c < 49
theorem ct_ins {p q : Nat → Bool} {a : Nat} (h1 : p a = false) (h2 : q a = true) (h3 : ∀ i, i ≠ a → q i = p i) : ∀ n, a < n → ct q n = ct p n + 1
  | 0, h => by omega
  | n + 1, h => by
    unfold ct
    by_cases e : a = n
    · subst e
      rw [h1, h2]
      have : ∀ m, m ≤ a → ct q m = ct p m := by
        intro m
        induction m with
        | zero => intro _; rfl
        | succ m ih =>
          intro hm
          unfold ct
          rw [ih (by omega), h3 m (by omega)]
      rw [this a (Nat.le_refl a)]
      rfl
    · rw [ct_ins h1 h2 h3 n (by omega), h3 n (by omega)]
      omega
theorem qok_len : ∀ {Q : List Nat}, qok Q → Q.length = ct (fun i => decide (i ∈ Q)) 49
  | [], _ => by
    have : ∀ n, ct (fun i => decide (i ∈ ([] : List Nat))) n = 0 := by
      intro n
      induction n with
      | zero => rfl
      | succ n ih =>
        unfold ct
        rw [ih]
        simp
    exact (this 49).symm
  | a :: Q, h => by
    have hn := List.nodup_cons.1 h.1
    have hq : qok Q := ⟨hn.2, fun c hc => h.2 c (List.mem_cons_of_mem a hc)⟩
    rw [ct_ins (p := fun i => decide (i ∈ Q)) (a := a) (decide_eq_false hn.1) (by simp) (fun i hi => by simp [hi]) 49 (h.2 a List.mem_cons_self), ← qok_len hq]
    rfl
theorem qok_49 {Q : List Nat} (h : qok Q) : Q.length ≤ 49 := by
  rw [qok_len h]
  exact ct_n _ 49
theorem qok_app {Q : List Nat} {c : Nat} (h : qok Q) (hc : c < 49) (hn : c ∉ Q) : qok (Q ++ [c]) := by
  refine ⟨List.nodup_append.2 ⟨h.1, List.nodup_cons.2 ⟨List.not_mem_nil, List.nodup_nil⟩, fun a ha b hb => ?_⟩, fun d hd => ?_⟩
  · rw [List.mem_singleton] at hb
    intro e
    rw [← hb, ← e] at hn
    exact hn ha
  · rcases List.mem_append.1 hd with q | q
    · exact h.2 d q
    · rw [List.mem_singleton] at q
      rw [q]
      exact hc
theorem qok_lt {Q : List Nat} {c : Nat} (h : qok Q) (hc : c < 49) (hn : c ∉ Q) : Q.length < 49 := by
  have := qok_49 (qok_app h hc hn)
  rw [List.length_append] at this
  exact this
theorem qi_ok {r : Nat → Nat} {F : Nat} : ∀ n, n ≤ 49 → qok (qi r F n) ∧ ∀ c, c ∈ qi r F n ↔ c < n ∧ r c < F
  | 0, _ => ⟨⟨List.nodup_nil, fun c hc => by cases hc⟩, fun c => ⟨fun h => (by cases h), fun h => absurd h.1 (Nat.not_lt_zero c)⟩⟩
  | n + 1, hn => by
    obtain ⟨h1, h2⟩ := qi_ok (r := r) (F := F) n (by omega)
    unfold qi
    by_cases h : r n < F
    · rw [if_pos h]
      refine ⟨qok_app h1 (by omega) (fun q => by have := (h2 n).1 q; omega), fun c => ?_⟩
      rw [List.mem_append, List.mem_singleton, h2]
      constructor
      · rintro (q | q)
        · exact ⟨by omega, q.2⟩
        · subst q
          exact ⟨by omega, h⟩
      · rintro ⟨q1, q2⟩
        by_cases e : c = n
        · exact Or.inr e
        · exact Or.inl ⟨by omega, q2⟩
    · rw [if_neg h]
      refine ⟨h1, fun c => ?_⟩
      rw [h2]
      constructor
      · rintro ⟨q1, q2⟩
        exact ⟨by omega, q2⟩
      · rintro ⟨q1, q2⟩
        refine ⟨?_, q2⟩
        by_cases e : c = n
        · subst e
          exact absurd q2 h
        · omega
section SP
variable {W v : Nat → Nat} {F : Nat} {e : Nat → Bool}
/-- what the true values are to be like -/
def sH (W v : Nat → Nat) (F : Nat) (e : Nat → Bool) : Prop := (∀ c, c < 49 → v c < F) ∧ (∀ c s n, c < 49 → s < 4 → nb c s = some n → v c ≤ v n + W c) ∧ (∀ c, c < 49 → e c = true ∨ ∃ s n, s < 4 ∧ nb c s = some n ∧ v c = v n + W c) ∧ ∀ c, c < 49 → 0 < W c
/-- what holds in between; c is the cell that is at work (or 49), its sides below s are done -/
def sJ (W v : Nat → Nat) (F : Nat) (e : Nat → Bool) (c s p j : Nat) (x : (Nat → Nat) × List Nat) : Prop := (qok x.2 ∧ c ∉ x.2) ∧ (∀ d, d < 49 → v d ≤ x.1 d ∧ x.1 d ≤ F) ∧ (∀ d, d < 49 → e d = true → x.1 d = v d) ∧ (∀ d t n, d < 49 → d ∉ x.2 → t < 4 → nb d t = some n → (d ≠ c ∨ t < s) → x.1 n ≤ x.1 d + W n) ∧ (∀ d, d < 49 → ct (fun a => decide (v a < v d)) 49 ≤ p → x.1 d = v d) ∧ (∀ d, d < 49 → ct (fun a => decide (v a < v d)) 49 ≤ p + 1 → x.1 d = v d ∨ (∃ i n t, i < j ∧ x.2[i]? = some n ∧ t < 4 ∧ nb n t = some d ∧ x.1 n = v n ∧ v d = v n + W d) ∨ ∃ t, s ≤ t ∧ t < 4 ∧ nb c t = some d ∧ x.1 c = v c ∧ v d = v c + W d) ∧ j ≤ x.2.length ∧ p ≤ 48 ∧ (p = 48 → x.2.length = j)
theorem rk_lt (v : Nat → Nat) {c : Nat} (hc : c < 49) : ct (fun a => decide (v a < v c)) 49 ≤ 48 := by
  have := ct_lt (p := fun a => decide (v a < v c)) (q := fun _ => true) (i := c) (fun _ _ => rfl) (by simp) rfl 49 hc
  have := ct_n (fun _ => true) 49
  omega
theorem sJ_side (hH : sH W v F e) {c s p j : Nat} {x : (Nat → Nat) × List Nat} (hc : c < 49) (hs : s < 4) (h : sJ W v F e c s p j x) : sJ W v F e c (s + 1) p j (es1 W c x s) ∧ (es1 W c x s).1 c = x.1 c := by
  obtain ⟨⟨q1, q2⟩, b, h3, h4, h5, h6, h7, h8, h9⟩ := h
  unfold es1
  cases hn : nb c s with
  | none =>
    refine ⟨⟨⟨q1, q2⟩, b, h3, fun d t n hd hq ht hb o => ?_, h5, fun d hd hr => ?_, h7, h8, h9⟩, rfl⟩
    · refine h4 d t n hd hq ht hb ?_
      rcases o with o | o
      · exact Or.inl o
      · by_cases e1 : d = c
        · refine Or.inr ?_
          subst e1
          by_cases e2 : t = s
          · subst e2
            rw [hn] at hb
            cases hb
          · omega
        · exact Or.inl e1
    · rcases h6 d hd hr with o | o | ⟨t, a1, a2, a3, a4⟩
      · exact Or.inl o
      · exact Or.inr (Or.inl o)
      · refine Or.inr (Or.inr ⟨t, ?_, a2, a3, a4⟩)
        by_cases e2 : t = s
        · subst e2
          rw [hn] at a3
          cases a3
        · omega
  | some n =>
    have n9 := nb_lt hc hn
    have hnc : n ≠ c := fun q => nb_self (q ▸ hn)
    show sJ W v F e c (s + 1) p j (ez W x n (x.1 c)) ∧ (ez W x n (x.1 c)).1 c = x.1 c
    unfold ez
    by_cases hlt : x.1 c + W n < x.1 n
    · rw [if_pos hlt]
      obtain ⟨s', hs', hsy⟩ := nb_sy hc hs hn
      have hv : v n ≤ x.1 c + W n := by
        have := hH.2.1 n s' c n9 hs' hsy
        have := (b c hc).1
        omega
      have dec : ∀ d, un x.1 n (x.1 c + W n) d ≤ x.1 d := by
        intro d
        unfold un
        split
        next q => subst q; omega
        next => exact Nat.le_refl _
      have low : ∀ d, d < 49 → v d ≤ un x.1 n (x.1 c + W n) d := by
        intro d hd
        unfold un
        split
        next q => subst q; exact hv
        next => exact (b d hd).1
      have keep : ∀ d, d < 49 → x.1 d = v d → un x.1 n (x.1 c + W n) d = v d := by
        intro d hd q
        have := dec d
        have := low d hd
        omega
      have hcc : un x.1 n (x.1 c + W n) c = x.1 c := un_ne (Ne.symm hnc)
      have hp : p ≠ 48 := by
        intro q
        have h1 := h5 n n9 (by rw [q]; exact rk_lt v n9)
        omega
      have hq : qok (if n ∈ x.2 then x.2 else x.2 ++ [n]) := by
        split
        · exact q1
        next q => exact qok_app q1 n9 q
      have hmem : ∀ d, d ∈ (if n ∈ x.2 then x.2 else x.2 ++ [n]) ↔ d ∈ x.2 ∨ d = n := by
        intro d
        split
        next q =>
          constructor
          · exact Or.inl
          · rintro (o | o)
            · exact o
            · rw [o]
              exact q
        next q => rw [List.mem_append, List.mem_singleton]
      have hlen : x.2.length ≤ (if n ∈ x.2 then x.2 else x.2 ++ [n]).length := by
        split
        · exact Nat.le_refl _
        · rw [List.length_append]
          omega
      have hget : ∀ i m, i < j → x.2[i]? = some m → (if n ∈ x.2 then x.2 else x.2 ++ [n])[i]? = some m := by
        intro i m hi hm
        split
        · exact hm
        · rw [List.getElem?_append_left (by omega)]
          exact hm
      refine ⟨⟨⟨hq, ?_⟩, fun d hd => ⟨low d hd, Nat.le_trans (dec d) (b d hd).2⟩, fun d hd he => keep d hd (h3 d hd he), fun d t m hd hqd ht hb o => ?_, fun d hd hr => keep d hd (h5 d hd hr), fun d hd hr => ?_, Nat.le_trans h7 hlen, h8, fun q => absurd q hp⟩, hcc⟩
      · intro q
        rcases (hmem c).1 q with o | o
        · exact q2 o
        · exact hnc o.symm
      · have hqd : d ∉ (if n ∈ x.2 then x.2 else x.2 ++ [n]) := hqd
        rw [hmem] at hqd
        have hd1 : d ∉ x.2 := fun q => hqd (Or.inl q)
        have hd2 : d ≠ n := fun q => hqd (Or.inr q)
        show un x.1 n (x.1 c + W n) m ≤ un x.1 n (x.1 c + W n) d + W m
        rw [un_ne (k := n) (j := d) hd2]
        by_cases e1 : d = c
        · subst e1
          by_cases e2 : t = s
          · subst e2
            rw [hn] at hb
            cases hb
            rw [un_eq]
            exact Nat.le_refl _
          · rcases o with o | o
            · exact absurd rfl o
            · exact Nat.le_trans (dec m) (h4 d t m hd hd1 ht hb (Or.inr (by omega)))
        · exact Nat.le_trans (dec m) (h4 d t m hd hd1 ht hb (Or.inl e1))
      · rcases h6 d hd hr with o | ⟨i, m, t, a1, a2, a3, a4, a5, a6⟩ | ⟨t, a1, a2, a3, a4, a5⟩
        · exact Or.inl (keep d hd o)
        · exact Or.inr (Or.inl ⟨i, m, t, a1, hget i m a1 a2, a3, a4, keep m (q1.2 m (List.mem_of_getElem? a2)) a5, a6⟩)
        · by_cases e2 : t = s
          · subst e2
            rw [hn] at a3
            cases a3
            refine Or.inl ?_
            show un x.1 n (x.1 c + W n) n = v n
            rw [un_eq, a4, a5]
          · refine Or.inr (Or.inr ⟨t, by omega, a2, a3, ?_, a5⟩)
            show un x.1 n (x.1 c + W n) c = v c
            rw [hcc]
            exact a4
    · rw [if_neg hlt]
      refine ⟨⟨⟨q1, q2⟩, b, h3, fun d t m hd hq ht hb o => ?_, h5, fun d hd hr => ?_, h7, h8, h9⟩, rfl⟩
      · by_cases e1 : d = c
        · by_cases e2 : t = s
          · subst e1
            subst e2
            rw [hn] at hb
            cases hb
            omega
          · refine h4 d t m hd hq ht hb (Or.inr ?_)
            rcases o with o | o
            · exact absurd e1 o
            · omega
        · exact h4 d t m hd hq ht hb (Or.inl e1)
      · rcases h6 d hd hr with o | o | ⟨t, a1, a2, a3, a4, a5⟩
        · exact Or.inl o
        · exact Or.inr (Or.inl o)
        · by_cases e2 : t = s
          · subst e2
            rw [hn] at a3
            cases a3
            have := (b n n9).1
            exact Or.inl (by omega)
          · exact Or.inr (Or.inr ⟨t, by omega, a2, a3, a4, a5⟩)
theorem sJ_pop (hH : sH W v F e) {c p j : Nat} {r : Nat → Nat} {Q : List Nat} (h : sJ W v F e 49 4 p (j + 1) (r, c :: Q)) : sJ W v F e 49 4 p j (es4 W c 4 (r, Q)) := by
  obtain ⟨⟨q1, q2⟩, b, h3, h4, h5, h6, h7, h8, h9⟩ := h
  have hn := List.nodup_cons.1 q1.1
  have hc : c < 49 := q1.2 c List.mem_cons_self
  have hq : qok Q := ⟨hn.2, fun d hd => q1.2 d (List.mem_cons_of_mem c hd)⟩
  have start : sJ W v F e c 0 p j (r, Q) := by
    refine ⟨⟨hq, hn.1⟩, b, h3, fun d t n hd hqd ht hb o => ?_, h5, fun d hd hr => ?_, ?_, h8, fun q => ?_⟩
    · rcases o with o | o
      · refine h4 d t n hd (fun q => ?_) ht hb (Or.inl (by omega))
        rcases List.mem_cons.1 q with q | q
        · exact o q
        · exact hqd q
      · omega
    · rcases h6 d hd hr with o | ⟨i, m, t, a1, a2, a3, a4, a5, a6⟩ | ⟨t, a1, a2, a3, a4, a5⟩
      · exact Or.inl o
      · cases i with
        | zero =>
          have a2 : some c = some m := a2
          cases a2
          exact Or.inr (Or.inr ⟨t, Nat.zero_le t, a3, a4, a5, a6⟩)
        | succ i => exact Or.inr (Or.inl ⟨i, m, t, by omega, a2, a3, a4, a5, a6⟩)
      · omega
    · have : j + 1 ≤ (c :: Q).length := h7
      rw [List.length_cons] at this
      exact Nat.le_of_succ_le_succ this
    · have := h9 q
      have this : (c :: Q).length = j + 1 := this
      rw [List.length_cons] at this
      exact Nat.succ.inj this
  have all : ∀ s, s ≤ 4 → sJ W v F e c s p j (es4 W c s (r, Q)) := by
    intro s
    induction s with
    | zero => intro _; exact start
    | succ s ih =>
      intro hs
      exact (sJ_side hH hc (by omega) (ih (by omega))).1
  obtain ⟨⟨q1, q2⟩, b, h3, h4, h5, h6, h7, h8, h9⟩ := all 4 (Nat.le_refl 4)
  refine ⟨⟨q1, fun q => absurd (q1.2 49 q) (by decide)⟩, b, h3, fun d t n hd hqd ht hb _ => h4 d t n hd hqd ht hb (Or.inr ht), h5, fun d hd hr => ?_, h7, h8, h9⟩
  rcases h6 d hd hr with o | o | ⟨t, a1, a2, _⟩
  · exact Or.inl o
  · exact Or.inr (Or.inl o)
  · omega
end SP
section SP2
variable {W v : Nat → Nat} {F : Nat} {e : Nat → Bool}
theorem sJ_fin (hH : sH W v F e) {p j : Nat} {r : Nat → Nat} (h : sJ W v F e 49 4 p j (r, [])) : ∀ c, c < 49 → r c = v c := by
  obtain ⟨⟨q1, q2⟩, b, h3, h4, h5, h6, h7, h8, h9⟩ := h
  have key : ∀ m c, c < 49 → v c ≤ m → r c = v c := by
    intro m
    induction m with
    | zero =>
      intro c hc hm
      rcases hH.2.2.1 c hc with q | ⟨s, n, hs, hn, q⟩
      · exact h3 c hc q
      · have := hH.2.2.2 c hc
        omega
    | succ m ih =>
      intro c hc hm
      rcases hH.2.2.1 c hc with q | ⟨s, n, hs, hn, q⟩
      · exact h3 c hc q
      · have h0 := hH.2.2.2 c hc
        have n9 := nb_lt hc hn
        have e1 := ih n n9 (by omega)
        obtain ⟨s', hs', hsy⟩ := nb_sy hc hs hn
        have := h4 n s' c n9 List.not_mem_nil hs' hsy (Or.inl (by omega))
        have this : r c ≤ r n + W c := this
        have := (b c hc).1
        have this : v c ≤ r c := this
        omega
  exact fun c hc => key _ c hc (Nat.le_refl _)
theorem sp_fin (hH : sH W v F e) : ∀ f p j x, 49 * (48 - p) + j ≤ f → sJ W v F e 49 4 p j x → (∀ c, c < 49 → (sp W f x).1 c = v c) ∧ (sp W f x).2 = [] := by
  intro f
  induction f with
  | zero =>
    intro p j x hf h
    have h7 := h.2.2.2.2.2.2.2.2
    have h8 := h.2.2.2.2.2.2.2.1
    have h9 := h7 (by omega)
    obtain ⟨r, Q⟩ := x
    have hQ : Q = [] := List.eq_nil_of_length_eq_zero (by have : Q.length = j := h9; omega)
    subst hQ
    exact ⟨sJ_fin hH h, rfl⟩
  | succ f ih =>
    intro p j x hf h
    obtain ⟨r, Q⟩ := x
    cases Q with
    | nil => exact ⟨sJ_fin hH h, rfl⟩
    | cons c Q =>
      show (∀ d, d < 49 → (sp W f (es4 W c 4 (r, Q))).1 d = v d) ∧ (sp W f (es4 W c 4 (r, Q))).2 = []
      cases j with
      | succ j => exact ih p j _ (by omega) (sJ_pop hH h)
      | zero =>
        obtain ⟨⟨q1, q2⟩, b, h3, h4, h5, h6, h7, h8, h9⟩ := id h
        have hp : p ≠ 48 := by
          intro q
          have := h9 q
          have this : (c :: Q).length = 0 := this
          rw [List.length_cons] at this
          omega
        have hl := qok_49 q1
        have hl : (c :: Q).length ≤ 49 := hl
        rw [List.length_cons] at hl
        have h5' : ∀ d, d < 49 → ct (fun a => decide (v a < v d)) 49 ≤ p + 1 → r d = v d := by
          intro d hd hr
          rcases h6 d hd hr with o | ⟨i, m, t, a1, _⟩ | ⟨t, a1, a2, _⟩
          · exact o
          · omega
          · omega
        have new : sJ W v F e 49 4 (p + 1) (Q.length + 1) (r, c :: Q) := by
          refine ⟨⟨q1, q2⟩, b, h3, h4, h5', fun d hd hr => ?_, Nat.le_refl _, by omega, fun _ => rfl⟩
          rcases hH.2.2.1 d hd with q | ⟨s, n, hs, hn, q⟩
          · exact Or.inl (h3 d hd q)
          · have h0 := hH.2.2.2 d hd
            have n9 := nb_lt hd hn
            have hrn : ct (fun a => decide (v a < v n)) 49 ≤ p + 1 := by
              have := ct_lt (p := fun a => decide (v a < v n)) (q := fun a => decide (v a < v d)) (i := n) (fun i hi => by
                have := of_decide_eq_true hi
                exact decide_eq_true (by omega)) (by simp) (decide_eq_true (by omega)) 49 n9
              omega
            have en := h5' n n9 hrn
            obtain ⟨s', hs', hsy⟩ := nb_sy hd hs hn
            by_cases hm : n ∈ c :: Q
            · obtain ⟨i, hi, e⟩ := List.mem_iff_getElem.1 hm
              refine Or.inr (Or.inl ⟨i, n, s', hi, ?_, hs', hsy, en, q⟩)
              show (c :: Q)[i]? = some n
              rw [List.getElem?_eq_getElem hi, e]
            · have := h4 n s' d n9 hm hs' hsy (Or.inl (by omega))
              have this : r d ≤ r n + W d := this
              have := (b d hd).1
              have this : v d ≤ r d := this
              exact Or.inl (show r d = v d by omega)
        exact ih (p + 1) Q.length _ (by omega) (sJ_pop hH new)
theorem sp_all (hH : sH W v F e) {r : Nat → Nat} (hr : ∀ c, c < 49 → r c = if e c = true then v c else F) : (∀ c, c < 49 → (sp W 2401 (r, qi r F 49)).1 c = v c) ∧ (sp W 2401 (r, qi r F 49)).2 = [] := by
  obtain ⟨hq, hm⟩ := qi_ok (r := r) (F := F) 49 (Nat.le_refl 49)
  have hl := qok_49 hq
  refine sp_fin hH 2401 0 (qi r F 49).length _ (by omega) ⟨⟨hq, fun q => absurd (hq.2 49 q) (by decide)⟩, fun d hd => ?_, fun d hd he => ?_, fun d t n hd hqd ht hb _ => ?_, fun d hd hr0 => ?_, fun d hd hr1 => ?_, Nat.le_refl _, by decide, fun q => by cases q⟩
  · show v d ≤ r d ∧ r d ≤ F
    have := hH.1 d hd
    rw [hr d hd]
    split <;> omega
  · show r d = v d
    rw [hr d hd, if_pos he]
  · show r n ≤ r d + W n
    have hqd : d ∉ qi r F 49 := hqd
    rw [hm] at hqd
    have h1 : ¬ r d < F := fun q => hqd ⟨hd, q⟩
    have h2 := hr n (nb_lt hd hb)
    have h3 := hH.1 n (nb_lt hd hb)
    split at h2 <;> omega
  · show r d = v d
    rcases hH.2.2.1 d hd with q | ⟨s, n, hs, hn, q⟩
    · rw [hr d hd, if_pos q]
    · have h0 := hH.2.2.2 d hd
      have := ct_pos (q := fun a => decide (v a < v d)) (i := n) (decide_eq_true (by omega)) (nb_lt hd hn)
      omega
  · rcases hH.2.2.1 d hd with q | ⟨s, n, hs, hn, q⟩
    · exact Or.inl (show r d = v d by rw [hr d hd, if_pos q])
    · by_cases he : e d = true
      · exact Or.inl (show r d = v d by rw [hr d hd, if_pos he])
      · have h0 := hH.2.2.2 d hd
        have n9 := nb_lt hd hn
        have hen : r n = v n := by
          rcases hH.2.2.1 n n9 with q2 | ⟨s2, n2, hs2, hn2, q2⟩
          · rw [hr n n9, if_pos q2]
          · exfalso
            have h02 := hH.2.2.2 n n9
            have h1 := ct_lt (p := fun a => decide (v a < v n)) (q := fun a => decide (v a < v d)) (i := n) (fun i hi => by
              have := of_decide_eq_true hi
              exact decide_eq_true (by omega)) (by simp) (decide_eq_true (by omega)) 49 n9
            have h2 := ct_pos (q := fun a => decide (v a < v n)) (i := n2) (decide_eq_true (by omega)) (nb_lt n9 hn2)
            omega
        obtain ⟨s', hs', hsy⟩ := nb_sy hd hs hn
        have hin : n ∈ qi r F 49 := (hm n).2 ⟨n9, by rw [hen]; exact hH.1 n n9⟩
        obtain ⟨i, hi, e2⟩ := List.mem_iff_getElem.1 hin
        refine Or.inr (Or.inl ⟨i, n, s', hi, ?_, hs', hsy, hen, q⟩)
        show (qi r F 49)[i]? = some n
        rw [List.getElem?_eq_getElem hi, e2]
end SP2
