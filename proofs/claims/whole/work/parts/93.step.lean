theorem kr_rt (G : kg_G) : ∀ n E pc lv st S v S', kr G n E pc lv st S = some (v, S') → v = none ∨ ∃ x kd, v = some x ∧ kx_ret kd (km_r E) x = true := by
  intro n
  induction n with
  | zero =>
    intro E pc lv st S v S' h
    cases h
  | succ n ih =>
    intro E pc lv st S v S' h
    have ron : ∀ o, kr_on (kr G n) E o = some (v, S') → v = none ∨ ∃ x kd, v = some x ∧ kx_ret kd (km_r E) x = true := by
      intro o h
      unfold kr_on at h
      split at h
      · exact ih _ _ _ _ _ _ _ h
      · cases h
    have rcall : ∀ kd o, kr_call G (kr G n) kd o E pc lv st S = some (v, S') → v = none ∨ ∃ x kd, v = some x ∧ kx_ret kd (km_r E) x = true := by
      intro kd o h
      unfold kr_call at h
      split at h
      · split at h
        · split at h
          · exact ih _ _ _ _ _ _ _ h
          · cases h
        · cases h
      · cases h
    have rret : ∀ kd, kr_ret kd E st S = some (v, S') → v = none ∨ ∃ x kd, v = some x ∧ kx_ret kd (km_r E) x = true := by
      intro kd h
      unfold kr_ret at h
      split at h
      · split at h
        · next x q =>
          injection h with h
          injection h with h1 h2
          exact Or.inr ⟨_, kd, h1.symm, q⟩
        · cases h
      · cases h
    have h : kr_step G (kr G n) E pc lv st S = some (v, S') := h
    unfold kr_step at h
    split at h
    · cases h
    · split at h
      · split at h
        · exact rret _ h
        · exact rret _ h
        · exact rret _ h
        · split at h
          · injection h with h
            injection h with h1 h2
            exact Or.inl h1.symm
          · cases h
        · exact rcall _ _ h
        · split at h
          · exact ron _ h
          · split at h
            · exact ron _ h
            · exact rcall _ _ h
        · split at h
          · exact ron _ h
          · exact rcall _ _ h
        · exact ron _ h
      · cases h
theorem kx_ret_int {kd : Nat} {x : Value} (h : kx_ret kd (some .int) x = true) : ∃ y, x = .int y := by
  rcases kd with _ | _ | kd <;> cases x <;> first | exact ⟨_, rfl⟩ | exact nomatch (show false = true from h)
theorem ev_int {G : kg_G} {E : km_E} {vs : List Value} {S S' : ks_S} {r : Value} (hE : km_r E = some .int) (h : ev G E vs S (some r) S') : ∃ x, r = .int x := by
  obtain ⟨n, hn⟩ := h
  rcases kr_rt G _ _ _ _ _ _ _ _ hn with q | ⟨x, kd, q1, q2⟩
  · cases q
  · injection q1 with q1
    subst q1
    rw [hE] at q2
    exact kx_ret_int q2
theorem kx_ret_long {kd : Nat} {x : Value} (h : kx_ret kd (some .long) x = true) : ∃ y, x = .long y := by
  rcases kd with _ | _ | kd <;> cases x <;> first | exact ⟨_, rfl⟩ | exact nomatch (show false = true from h)
theorem ev_long {G : kg_G} {E : km_E} {vs : List Value} {S S' : ks_S} {r : Value} (hE : km_r E = some .long) (h : ev G E vs S (some r) S') : ∃ x, r = .long x := by
  obtain ⟨n, hn⟩ := h
  rcases kr_rt G _ _ _ _ _ _ _ _ hn with q | ⟨x, kd, q1, q2⟩
  · cases q
  · injection q1 with q1
    subst q1
    rw [hE] at q2
    exact kx_ret_long q2
/-- what both programs hold, told purely -/
def ZS : Type := (Nat → Nat → Nat) × Nat × (Nat → Nat) × ((Nat → Nat) × (Nat → Nat)) × ST × (Nat → Nat → Nat) × Bool × Bool
def ZS.w (z : ZS) : Nat → Nat → Nat := z.1
def ZS.tn (z : ZS) : Nat := z.2.1
def ZS.tp (z : ZS) : Nat → Nat := z.2.2.1
def ZS.d (z : ZS) : (Nat → Nat) × (Nat → Nat) := z.2.2.2.1
def ZS.q (z : ZS) : ST := z.2.2.2.2.1
def ZS.k (z : ZS) : Nat → Nat → Nat := z.2.2.2.2.2.1
def ZS.pl (z : ZS) : Bool := z.2.2.2.2.2.2.1
def ZS.kp (z : ZS) : Bool := z.2.2.2.2.2.2.2
def zmk (w : Nat → Nat → Nat) (tn : Nat) (tp : Nat → Nat) (d : (Nat → Nat) × (Nat → Nat)) (q : ST) (k : Nat → Nat → Nat) (pl kp : Bool) : ZS := (w, tn, tp, d, q, k, pl, kp)
def zO (z : ZS) : Prop := wok z.w ∧ tok z.tn z.tp ∧ sO z.q ∧ (z.kp = true → wok z.k) ∧ (∀ i, z.d.1 i ≤ 48) ∧ ∀ i, z.d.2 i ≤ 99
def zX (xs : Nat → Int32) (A : Nat → Nat → Int32) : Prop := sts A ∧ A 1004 = xs
def zT (z : ZS) (I A : Nat → Nat → Int32) : Prop := cT z.tn z.tp I A ∧ I 24 2 = nI 0 ∧ dv z.d A
def zK (z : ZS) (I A : Nat → Nat → Int32) : Prop := z.kp = true → kC z.k I A
def zC (xs : Nat → Int32) (z : ZS) (I A : Nat → Nat → Int32) : Prop := zX xs A ∧ cw z.w I A ∧ wk z.w I A ∧ pkc z.w z.pl I A ∧ zT z I A ∧ sC z.q A ∧ zK z I A
def zM (z : ZS) (I A : Nat → Nat → Int32) : Prop := mw z.w I A ∧ mT z.tn z.tp I A ∧ sM z.q A ∧ I 45 24 = nI (bN z.kp) ∧ (z.kp = true → kM z.k A)
section ZF
variable {xs : Nat → Int32} {z : ZS} {I A I' A' : Nat → Nat → Int32} {w w' : Nat → Nat → Nat} {pl : Bool}
theorem zX_fr (h : zX xs A) (hA : ∀ a, 1000 ≤ a → A' a = A a) : zX xs A' := by
  obtain ⟨⟨a, b, c, d⟩, e⟩ := h
  exact ⟨⟨(hA _ (by decide)).trans a, (hA _ (by decide)).trans b, (hA _ (by decide)).trans c, (hA _ (by decide)).trans d⟩, (hA _ (by decide)).trans e⟩
theorem zT_fr (h : zT z I A) (h25 : A' 25 = A 25) (h43 : A' 43 = A 43) (h44 : A' 44 = A 44) (hI : I' 24 = I 24) : zT z I' A' := by
  obtain ⟨⟨a, b⟩, c, d, e, f⟩ := h
  refine ⟨⟨by rw [hI]; exact a, fun i hi => by rw [h25]; exact b i hi⟩, by rw [hI]; exact c, by rw [h43]; exact d, by rw [h44]; exact e, f⟩
theorem sC_fr {q : ST} (h : sC q A) (hA : ∀ a, 27 ≤ a → a < 35 → A' a = A a) : sC q A' := by
  intro t ht
  have := h t ht
  rw [hA 27 (by decide) (by decide), hA 28 (by decide) (by decide), hA 29 (by decide) (by decide), hA (31 + t) (by omega) (by omega)]
  exact this
theorem zK_fr (h : zK z I A) (hA : ∀ a, 136 ≤ a → a < 151 → A' a = A a) (hI : ∀ a, 136 ≤ a → a < 151 → I' a = I a) : zK z I' A' := by
  intro hk
  obtain ⟨⟨k1, k2, k3, k4, k5⟩, c0, c1, c2, c3, c4, c5⟩ := h hk
  refine ⟨⟨fun t c ht hc => ?_, fun i hi => ?_, fun i hi => ?_, fun i hi => ?_, fun i hi => ?_⟩, ?_, ?_, ?_, ?_, ?_, ?_⟩
  · rw [hA (139 + t) (by omega) (by omega)]; exact k1 t c ht hc
  · rw [hA 145 (by decide) (by decide)]; exact k2 i hi
  · rw [hA 146 (by decide) (by decide)]; exact k3 i hi
  · rw [hA 148 (by decide) (by decide)]; exact k4 i hi
  · rw [hA 150 (by decide) (by decide)]; exact k5 i hi
  all_goals (rw [hI _ (by decide) (by decide)]; assumption)
theorem wpn_fr (hw : wok w) (h : wpn w I A) (hA : ∀ a, 65 ≤ a → a < 136 → A' a = A a) (hI : I' 65 = I 65) : wpn w I' A' := by
  obtain ⟨sd, n1, n2, n3, n4, n5, hh, n6, n7, n8, n9, n10⟩ := h
  have h64 := (w_pg hw).h64
  refine ⟨sd, fun c hc => ?_, ?_, ?_, fun U hU => ?_, fun U hU hs c hc => ?_, hh, n6, ?_, ?_, fun i n hi => ?_, fun c hc => ?_⟩
  · rw [hA 66 (by decide) (by decide), hA 67 (by decide) (by decide)]; exact n1 c hc
  · rw [hI]; exact n2
  · rw [hI]; exact n3
  · rw [hA 133 (by decide) (by decide)]; exact n4 U hU
  · rw [hA (69 + U) (by omega) (by omega)]; exact n5 U hU hs c hc
  · rw [hI]; exact n7
  · rw [hI]; exact n8
  · rw [hA 134 (by decide) (by decide)]; exact n9 i n hi
  · rw [hA 135 (by decide) (by decide)]; exact n10 c hc
theorem pkc_fr (hw : wok w) (h : pkc w pl I A) (hA : ∀ a, 65 ≤ a → a < 136 → A' a = A a) (hI : I' 65 = I 65) (h0 : I' 0 10 = nI 0 ∨ (I' 0 10 = I 0 10 ∧ psame w w')) : pkc w' pl I' A' := by
  obtain ⟨h1, h2⟩ := h
  refine ⟨?_, fun hp => ?_⟩
  · rcases h0 with h0 | ⟨h0, h0'⟩
    · exact Or.inl h0
    · rcases h1 with h1 | ⟨h1, hp, h3⟩
      · exact Or.inl (h0.trans h1)
      · exact Or.inr ⟨h0.trans h1, hp, ps_wpn h0' (wpn_fr hw h3 hA hI)⟩
  · obtain ⟨hh, n6, n7, n8, n9, n10⟩ := h2 hp
    refine ⟨hh, n6, ?_, ?_, fun i n hi => ?_, fun c hc => ?_⟩
    · rw [hI]; exact n7
    · rw [hI]; exact n8
    · rw [hA 134 (by decide) (by decide)]; exact n9 i n hi
    · rw [hA 135 (by decide) (by decide)]; exact n10 c hc
theorem zC_fr (hw : wok z.w) (h : zC xs z I A) (hA : ∀ a, (a < 45 ∨ 65 ≤ a) → A' a = A a) (hI : ∀ a, a ≠ 45 → I' a = I a) : zC xs z I' A' := by
  obtain ⟨h1, h2, h3, h4, h5, h6, h7⟩ := h
  refine ⟨zX_fr h1 (fun a ha => hA a (by omega)), cw_of (fun a ha => hA a (by omega)) (fun a ha => hI a (by omega)) h2, wk_of (fun a ha => hA a (by omega)) (fun a ha => hI a (by omega)) h3, pkc_fr hw h4 (fun a h1 h2 => hA a (by omega)) (hI 65 (by decide)) (Or.inr ⟨by rw [hI 0 (by decide)], psame.r⟩), zT_fr h5 (hA _ (by decide)) (hA _ (by decide)) (hA _ (by decide)) (hI _ (by decide)), sC_fr h6 (fun a h1 h2 => hA a (by omega)), zK_fr h7 (fun a h1 h2 => hA a (by omega)) (fun a h1 h2 => hI a (by omega))⟩
theorem zM_fr (h : zM z I A) (hA : ∀ a, 45 ≤ a → a < 65 → A' a = A a) (hI : I' 45 = I 45) : zM z I' A' := by
  obtain ⟨⟨m1, ⟨a47, a48, a49, a50⟩, i0, i1, i2, i3, i4, i5⟩, ⟨t1, t2⟩, h3, h4, h5⟩ := h
  refine ⟨⟨fun t c ht hc => ?_, ⟨?_, ?_, ?_, ?_⟩, ?_, ?_, ?_, ?_, ?_, ?_⟩, ⟨?_, fun i hi => ?_⟩, fun t ht => ?_, ?_, fun hk => ?_⟩
  · rw [hA 46 (by decide) (by decide)]; exact m1 t c ht hc
  all_goals try (rw [hA _ (by decide) (by decide)]; assumption)
  all_goals try (rw [hI]; assumption)
  · rw [hA 54 (by decide) (by decide)]; exact t2 i hi
  · rw [hA 62 (by decide) (by decide), hA 63 (by decide) (by decide), hA 64 (by decide) (by decide)]; exact h3 t ht
  · have := h5 hk
    unfold kM at *
    rw [hA 60 (by decide) (by decide), hA 61 (by decide) (by decide)]
    exact this
end ZF
def cpl (xs : Nat → Int32) (z : ZS) (I A : Nat → Nat → Int32) : Prop := zO z ∧ zC xs z I A ∧ zM z I A
def STEP (xs : Nat → Int32) (c m : km_E) (vs : List Value) (z : ZS) : Prop := ∃ r z', (z.pl = true → z'.pl = true) ∧ (z.kp = true → z'.kp = true) ∧ ∀ (o : Bool) (L : Nat) (I A : Nat → Nat → Int32), sx_o o z.pl z.kp → sx_o o z'.pl z'.kp → cpl xs z I A → ∃ I1 A1 I' A', ev (lt_G o L) c (.ref 0 :: vs) (sx z.pl z.kp I A) (some r) (sx z'.pl z'.kp I1 A1) ∧ ev (lt_G o L) m (.ref 45 :: vs) (sx z'.pl z'.kp I1 A1) (some r) (sx z'.pl z'.kp I' A') ∧ A1 1004 = xs ∧ cpl xs z' I' A'
section ST
variable {xs : Nat → Int32} {c m : km_E} {vs : List Value} {z : ZS}
theorem st_AG (h : AG c m vs z.w) : STEP xs c m vs z := by
  obtain ⟨r, w', hw', hC, hM⟩ := h
  refine ⟨r, (zmk w' z.tn z.tp z.d z.q z.k z.pl z.kp), id, id, ?_⟩
  intro o L I A ho _ ⟨⟨o1, o2, o3, o4, o5⟩, ⟨c1, c2, c3, c4, c5, c6, c7⟩, hm⟩
  obtain ⟨I1, A1, e1, f1, f2, f3, f4⟩ := hC o z.pl z.kp L I A ho c2 c3 c1.1
  have hm1 : zM z I1 A1 := zM_fr hm (fun a h1 h2 => (f3 a (by omega)).1) (f3 45 (by decide)).2
  have hX1 : zX xs A1 := zX_fr c1 (fun a ha => (f3 a (by omega)).1)
  have hc1 : zC xs (zmk w' z.tn z.tp z.d z.q z.k z.pl z.kp) I1 A1 := ⟨hX1, f1, f2, pkc_fr o1 c4 (fun a h1 h2 => (f3 a (by omega)).1) (f3 65 (by decide)).2 f4, zT_fr c5 (f3 _ (by decide)).1 (f3 _ (by decide)).1 (f3 _ (by decide)).1 (f3 _ (by decide)).2, sC_fr c6 (fun a h1 h2 => (f3 a (by omega)).1), zK_fr c7 (fun a h1 h2 => (f3 a (by omega)).1) (fun a h1 h2 => (f3 a (by omega)).2)⟩
  obtain ⟨I2, A2, e2, g1, g2, g3, g4, g5⟩ := hM o z.pl z.kp L I1 A1 ho hm1.1
  refine ⟨I1, A1, I2, A2, e1, e2, hX1.2, ⟨hw', o2, o3, o4, o5⟩, zC_fr hw' hc1 (fun a ha => g2 a (by omega)) g3, g1, ?_, ?_, ?_, ?_⟩
  · obtain ⟨t1, t2⟩ := hm1.2.1
    exact ⟨g4.trans t1, fun i hi => by rw [g2 54 (by decide)]; exact t2 i hi⟩
  · intro t ht
    have := hm1.2.2.1 t ht
    rw [g2 62 (by decide), g2 63 (by decide), g2 64 (by decide)]
    exact this
  · exact g5.trans hm1.2.2.2.1
  · intro hk
    have := hm1.2.2.2.2 hk
    unfold kM at *
    rw [g2 60 (by decide), g2 61 (by decide)]
    exact this
end ST
