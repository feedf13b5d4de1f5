/-! Counting bits, orders, the common divisor. -/
def pp (s : Nat) : Nat := sm (fun i => bN (s.testBit i)) 6
def bsr (x : Int32) (k : Nat) : Int32 := (x.toUInt32 >>> ((nI k).toUInt32 &&& Int32.toUInt32 31)).toInt32
def bc1 (x : Int32) : Int32 := x - (bsr x 1 &&& nI 1431655765)
def bc2 (x : Int32) : Int32 := (x &&& nI 858993459) + (bsr x 2 &&& nI 858993459)
def bc3 (x : Int32) : Int32 := (x + bsr x 4) &&& nI 252645135
def bc4 (x : Int32) : Int32 := x + bsr x 8
def bc5 (x : Int32) : Int32 := x + bsr x 16
theorem bc_ok : ∀ s, s < 64 → bc5 (bc4 (bc3 (bc2 (bc1 (nI s))))) &&& nI 63 = nI (pp s) := by decide +kernel
theorem t_bitCount {G : kg_G} {S : ks_S} {s : Nat} (hs : s < 64) : ev G mm_Integer_bitCount [.int (nI s)] S (some (.int (nI (pp s)))) S := by
  refine ev_of ?_
  show rn _ _ 0 [some (.int (nI s))] [] _ _
  exact sq_Integer_bitCount_0.2 (sq_Integer_bitCount_1.2 (sq_Integer_bitCount_2.2 (sq_Integer_bitCount_3.2 (sq_Integer_bitCount_4.2 (sq_Integer_bitCount_7.2 (sq_Integer_bitCount_8.2 (sq_Integer_bitCount_9.2 (sq_Integer_bitCount_10.2 (sq_Integer_bitCount_11.2 (sq_Integer_bitCount_14.2 (sq_Integer_bitCount_15.2 (sq_Integer_bitCount_16.2 (sq_Integer_bitCount_17.2 (sq_Integer_bitCount_18.2 (sq_Integer_bitCount_21.2 (sq_Integer_bitCount_22.2 (sq_Integer_bitCount_23.2 (sq_Integer_bitCount_24.2 (sq_Integer_bitCount_25.2 (sq_Integer_bitCount_26.2 (sq_Integer_bitCount_27.2 (sq_Integer_bitCount_28.2 (sq_Integer_bitCount_29.2 (sq_Integer_bitCount_32.2 (sq_Integer_bitCount_33.2 (sq_Integer_bitCount_34.2 (sq_Integer_bitCount_35.2 (sq_Integer_bitCount_36.2 (sq_Integer_bitCount_38.2 (sq_Integer_bitCount_39.2 (sq_Integer_bitCount_40.2 (sq_Integer_bitCount_41.2 (sq_Integer_bitCount_42.2 (sq_Integer_bitCount_43.2 (sq_Integer_bitCount_45.2 (sq_Integer_bitCount_46.2 (sq_Integer_bitCount_47.2 (sq_Integer_bitCount_48.2 (sq_Integer_bitCount_49.2 (sq_Integer_bitCount_51.2 (sq_Integer_bitCount_52.2 ⟨congrArg (fun z => some (Value.int z)) (bc_ok s hs), rfl⟩)))))))))))))))))))))))))))))))))))))))))
theorem pp_st : ∀ s, s < 64 → (s = 0 → pp s = 0) ∧ (s ≠ 0 → pp s = pp (s &&& (s - 1)) + 1 ∧ s &&& (s - 1) < s) := by decide +kernel
theorem pp_6 : ∀ s, s < 64 → pp s ≤ 6 := by decide +kernel
theorem t_ones {G : kg_G} {S : ks_S} {s : Nat} (hs : s < 64) : ev G mm_Model_ones [.int (nI s)] S (some (.int (nI (pp s)))) S := by
  refine ev_of ?_
  show rn _ _ 0 [some (.int (nI s)), none, none] [] _ _
  have key : ∀ m t n, t ≤ m → t < 64 → n + pp t = pp s → rn G mm_Model_ones 4 [some (.int (nI s)), some (.int (nI n)), some (.int (nI t))] [] S (fun a b => a = some (.int (nI (pp s))) ∧ b = S) := by
    intro m
    induction m with
    | zero =>
      intro t n ht h64 hn
      have e : t = 0 := by omega
      subst e
      have hn : n = pp s := hn
      rw [hn]
      exact sq_Model_ones_4.2 (sq_Model_ones_5.2 ⟨fun _ => sq_Model_ones_20.2 (sq_Model_ones_21.2 ⟨rfl, rfl⟩), fun q => absurd (by decide) q⟩)
    | succ m ih =>
      intro t n ht h64 hn
      obtain ⟨p1, p2⟩ := pp_st t h64
      by_cases e : t = 0
      · subst e
        have hn : n = pp s := hn
        rw [hn]
        exact sq_Model_ones_4.2 (sq_Model_ones_5.2 ⟨fun _ => sq_Model_ones_20.2 (sq_Model_ones_21.2 ⟨rfl, rfl⟩), fun q => absurd (by decide) q⟩)
      · obtain ⟨p3, p4⟩ := p2 e
        have z : ¬ nI t = 0 := nI_ne0 (by omega) (by omega)
        have d1 : nI t - nI 1 = nI (t - 1) := pk_sub (by omega)
        refine sq_Model_ones_4.2 (sq_Model_ones_5.2 ⟨fun q => absurd q z, fun _ => ?_⟩)
        simp (config := { decide := true }) only [sq_Model_ones_0, sq_Model_ones_1n, sq_Model_ones_1i, sq_Model_ones_1r, sq_Model_ones_2, sq_Model_ones_3n, sq_Model_ones_3i, sq_Model_ones_3r, sq_Model_ones_5, sq_Model_ones_8n, sq_Model_ones_8i, sq_Model_ones_8r, sq_Model_ones_11, sq_Model_ones_12, sq_Model_ones_13, sq_Model_ones_14, sq_Model_ones_15, sq_Model_ones_16n, sq_Model_ones_16i, sq_Model_ones_16r, sq_Model_ones_17, sq_Model_ones_20, sq_Model_ones_21, d1, nI_and, nI_add]
        exact ih (t &&& (t - 1)) (n + 1) (by omega) (by omega) (by omega)
  simp (config := { decide := true }) only [sq_Model_ones_0, sq_Model_ones_1n, sq_Model_ones_1i, sq_Model_ones_1r, sq_Model_ones_2, sq_Model_ones_3n, sq_Model_ones_3i, sq_Model_ones_3r, sq_Model_ones_5, sq_Model_ones_8n, sq_Model_ones_8i, sq_Model_ones_8r, sq_Model_ones_11, sq_Model_ones_12, sq_Model_ones_13, sq_Model_ones_14, sq_Model_ones_15, sq_Model_ones_16n, sq_Model_ones_16i, sq_Model_ones_16r, sq_Model_ones_17, sq_Model_ones_20, sq_Model_ones_21]
  exact key s s 0 (Nat.le_refl _) hs (Nat.zero_add _)
def fc : Nat → Nat
  | 0 => 1
  | n + 1 => (n + 1) * fc n
theorem fc_6 : ∀ n, n ≤ 6 → 0 < fc n ∧ fc n ≤ 720 := by decide
theorem fc_st : ∀ n, n < 7 → lt_st 3 n = nI (fc n) := by decide
theorem fc_5 : ∀ n, n < 6 → ∀ k, k < 6 → k ≤ n → fc k * fc (n - k) ≤ 120 := by decide
theorem t_orders {G : kg_G} {S : ks_S} {n : Nat} (hn : n ≤ 6) : ev G mm_Model_orders [.int (nI n)] S (some (.int (nI (fc n)))) S := by
  refine ev_of ?_
  show rn _ _ 0 [some (.int (nI n)), none, none] [] _ _
  have key : ∀ r k, k + r = n + 1 → 1 ≤ k → rn G mm_Model_orders 4 [some (.int (nI n)), some (.int (nI (fc (k - 1)))), some (.int (nI k))] [] S (fun a b => a = some (.int (nI (fc n))) ∧ b = S) := by
    intro r
    induction r with
    | zero =>
      intro k hk h1
      have e : k = n + 1 := by omega
      subst e
      have b1 : nI n < nI (n + 1) := (nI_ltI (by omega) (by omega)).2 (by omega)
      refine sq_Model_orders_4.2 (sq_Model_orders_5.2 (sq_Model_orders_6.2 ⟨fun _ => sq_Model_orders_19.2 (sq_Model_orders_20.2 ⟨?_, rfl⟩), fun q => absurd b1 q⟩))
      rw [Nat.add_sub_cancel]
    | succ r ih =>
      intro k hk h1
      have b1 : ¬ nI n < nI k := fun q => by have := (nI_ltI (by omega) (by omega)).1 q; omega
      have ef : fc (k - 1) * k = fc (k + 1 - 1) := by
        obtain ⟨j, rfl⟩ : ∃ j, k = j + 1 := ⟨k - 1, by omega⟩
        show fc j * (j + 1) = (j + 1) * fc j
        exact Nat.mul_comm _ _
      refine sq_Model_orders_4.2 (sq_Model_orders_5.2 (sq_Model_orders_6.2 ⟨fun q => absurd q b1, fun _ => ?_⟩))
      simp (config := { decide := true }) only [sq_Model_orders_0, sq_Model_orders_1n, sq_Model_orders_1i, sq_Model_orders_1r, sq_Model_orders_2, sq_Model_orders_3n, sq_Model_orders_3i, sq_Model_orders_3r, sq_Model_orders_5, sq_Model_orders_6, sq_Model_orders_9, sq_Model_orders_10, sq_Model_orders_11, sq_Model_orders_12n, sq_Model_orders_12i, sq_Model_orders_12r, sq_Model_orders_13n, sq_Model_orders_13i, sq_Model_orders_13r, sq_Model_orders_16, sq_Model_orders_19, sq_Model_orders_20, pk_mul, nI_add, ef]
      exact ih (k + 1) (by omega) (by omega)
  simp (config := { decide := true }) only [sq_Model_orders_0, sq_Model_orders_1n, sq_Model_orders_1i, sq_Model_orders_1r, sq_Model_orders_2, sq_Model_orders_3n, sq_Model_orders_3i, sq_Model_orders_3r, sq_Model_orders_5, sq_Model_orders_6, sq_Model_orders_9, sq_Model_orders_10, sq_Model_orders_11, sq_Model_orders_12n, sq_Model_orders_12i, sq_Model_orders_12r, sq_Model_orders_13n, sq_Model_orders_13i, sq_Model_orders_13r, sq_Model_orders_16, sq_Model_orders_19, sq_Model_orders_20]
  by_cases h0 : n = 0
  · subst h0
    have b1 : nI 0 < nI 2 := by decide
    exact sq_Model_orders_4.2 (sq_Model_orders_5.2 (sq_Model_orders_6.2 ⟨fun _ => sq_Model_orders_19.2 (sq_Model_orders_20.2 ⟨rfl, rfl⟩), fun q => absurd b1 q⟩))
  · exact key (n - 1) 2 (by omega) (by omega)
theorem t_common {G : kg_G} {S : ks_S} {a b : Nat} (ha : a < 2 ^ 31) (hb : b < 2 ^ 31) : ev G mm_Model_common [.int (nI a), .int (nI b)] S (some (.int (nI (Nat.gcd a b)))) S := by
  refine ev_of ?_
  show rn _ _ 0 [some (.int (nI a)), some (.int (nI b)), none, none, none] [] _ _
  have key : ∀ m x y x4, y ≤ m → x < 2 ^ 31 → y < 2 ^ 31 → Nat.gcd x y = Nat.gcd a b → rn G mm_Model_common 4 [some (.int (nI a)), some (.int (nI b)), some (.int (nI x)), some (.int (nI y)), x4] [] S (fun p q => p = some (.int (nI (Nat.gcd a b))) ∧ q = S) := by
    intro m
    induction m with
    | zero =>
      intro x y x4 hy hx hy2 hg
      have e : y = 0 := Nat.le_zero.1 hy
      subst e
      rw [Nat.gcd_zero_right] at hg
      subst hg
      exact sq_Model_common_4.2 (sq_Model_common_5.2 ⟨fun _ => sq_Model_common_21.2 (sq_Model_common_22.2 ⟨rfl, rfl⟩), fun q => absurd (by decide) q⟩)
    | succ m ih =>
      intro x y x4 hy hx hy2 hg
      by_cases e : y = 0
      · subst e
        rw [Nat.gcd_zero_right] at hg
        subst hg
        exact sq_Model_common_4.2 (sq_Model_common_5.2 ⟨fun _ => sq_Model_common_21.2 (sq_Model_common_22.2 ⟨rfl, rfl⟩), fun q => absurd (by decide) q⟩)
      · have z : ¬ nI y = 0 := nI_ne0 (by omega) (by omega)
        have r1 : nI x - nI x / nI y * nI y = nI (x % y) := nr hx (by omega) hy2
        have hlt := Nat.mod_lt x (show 0 < y by omega)
        refine sq_Model_common_4.2 (sq_Model_common_5.2 ⟨fun q => absurd q z, fun _ => ?_⟩)
        simp (config := { decide := true }) only [sq_Model_common_0, sq_Model_common_1n, sq_Model_common_1i, sq_Model_common_1r, sq_Model_common_2, sq_Model_common_3n, sq_Model_common_3i, sq_Model_common_3r, sq_Model_common_5, sq_Model_common_8, sq_Model_common_9, sq_Model_common_10, sq_Model_common_11n, sq_Model_common_11i, sq_Model_common_11r, sq_Model_common_13, sq_Model_common_14n, sq_Model_common_14i, sq_Model_common_14r, sq_Model_common_15, sq_Model_common_17n, sq_Model_common_17i, sq_Model_common_17r, sq_Model_common_18, sq_Model_common_21, sq_Model_common_22, z, r1, not_false_eq_true]
        refine ih y (x % y) _ (by omega) hy2 (by omega) ?_
        rw [← hg, Nat.gcd_comm x y, Nat.gcd_rec y x, Nat.gcd_comm]
  simp (config := { decide := true }) only [sq_Model_common_0, sq_Model_common_1n, sq_Model_common_1i, sq_Model_common_1r, sq_Model_common_2, sq_Model_common_3n, sq_Model_common_3i, sq_Model_common_3r, sq_Model_common_5, sq_Model_common_8, sq_Model_common_9, sq_Model_common_10, sq_Model_common_11n, sq_Model_common_11i, sq_Model_common_11r, sq_Model_common_13, sq_Model_common_14n, sq_Model_common_14i, sq_Model_common_14r, sq_Model_common_15, sq_Model_common_17n, sq_Model_common_17i, sq_Model_common_17r, sq_Model_common_18, sq_Model_common_21, sq_Model_common_22]
  exact key b a b _ (Nat.le_refl _) ha hb rfl
