/-! What the pure machine's state says of the heap. -/
/-- a value with its references as addresses -/
def kv (ad : Nat → Nat) (v : Value) : Value := match v with
  | .ref i => .ref (ad i)
  | w => w
theorem kv_cat (ad : Nat → Nat) (v : Value) : (kv ad v).category = v.category := by cases v <;> rfl
abbrev kw_W : Type := kg_G × va_G × (Nat → ClassId) × Nat × (Nat → Nat)
def kz_ad (w : kw_W) (i : Nat) : Nat := if i < 1000 then w.2.2.2.1 + kg_pos w.1 i else w.2.2.2.2 (i - 1000)
def kz_A (w : kw_W) : Nat → Prop := fun q => w.2.2.2.1 ≤ q
def kz_fs (w : kw_W) (S : ks_S) (i : Nat) (tg : List Nat) : List Value := tg.mapIdx (fun k g => kv (kz_ad w) (kx_fld S i k g))
def kz_el (w : kw_W) (S : ks_S) (i t n b : Nat) : vp_A := (n, if t < 3 then .inl (S.2.1 i) else .inr (.inr (.inr (.inr (fun j => if j < n then some (kz_ad w (b + j)) else none)))))
def kz_c (w : kw_W) (S : ks_S) (i : Nat) (e : ly_E) : va_E := match e with
  | .inl o => .inr (o.1, kz_fs w S i o.2)
  | .inr a => .inl (w.2.2.1 a.1, kz_el w S i a.1 a.2.1 a.2.2)
def kz_R (w : kw_W) (S : ks_S) (U : State) (H : Heap) : Prop :=
  H.size = w.2.2.2.1 + S.2.2.1 ∧
  (∀ i e, i < 1000 → kg_ly w.1 i = some e → kg_pos w.1 i < S.2.2.1 → va_at w.2.1 vwCl (kz_ad w i, kz_c w S i e) H) ∧
  (∀ i a, 1000 ≤ i → kg_ly w.1 i = some (.inr a) → a.1 = 0 ∧ va_T .int (kz_ad w i) a.2.1 (fun j => .int (S.2.1 i j)) (kz_A w) U H) ∧
  (∀ k, k < 4 → va_Z "DeltaRoad" (ks_nm.getD k "") "[I" (.ref (kz_ad w (1000 + k))) (kz_A w) U H)
/-- the field types, as the classes' tables have them -/
def kz_tys : List (Nat → FieldType) := [tyX0, tyX1, tyX2, tyX3, tyX4, tyX5, tyX6, tyX7, tyX8, tyX9, tyX10]
def kz_ty (ci : Nat) : Nat → FieldType := kz_tys.getD ci (fun _ => .int)
theorem kz_11 {P : Nat → Prop} (h0 : P 0) (h1 : P 1) (h2 : P 2) (h3 : P 3) (h4 : P 4) (h5 : P 5) (h6 : P 6) (h7 : P 7) (h8 : P 8) (h9 : P 9) (h10 : P 10) {ci : Nat} (h : ci < 11) : P ci := by
  rcases (show ci = 0 ∨ ci = 1 ∨ ci = 2 ∨ ci = 3 ∨ ci = 4 ∨ ci = 5 ∨ ci = 6 ∨ ci = 7 ∨ ci = 8 ∨ ci = 9 ∨ ci = 10 by omega) with rfl | rfl | rfl | rfl | rfl | rfl | rfl | rfl | rfl | rfl | rfl <;> assumption
theorem kz_tyok {ci : Nat} (h : ci < 11) : ∀ k, k < (kf_C ci).2.2 → parseFieldDescriptor ((kf_C ci).2.1 k).2.2.1 = some (kz_ty ci k) :=
  kz_11 (P := fun ci => ∀ k, k < (kf_C ci).2.2 → parseFieldDescriptor ((kf_C ci).2.1 k).2.2.1 = some (kz_ty ci k)) tyX0_ok tyX1_ok tyX2_ok tyX3_ok tyX4_ok tyX5_ok tyX6_ok tyX7_ok tyX8_ok tyX9_ok tyX10_ok h
theorem kz_nm {ci : Nat} (h : ci < 11) : ∀ a, a < (kf_C ci).2.2 → ∀ b, b < (kf_C ci).2.2 → a ≠ b → ((kf_C ci).2.1 a).2.1 ≠ ((kf_C ci).2.1 b).2.1 :=
  kz_11 (P := fun ci => ∀ a, a < (kf_C ci).2.2 → ∀ b, b < (kf_C ci).2.2 → a ≠ b → ((kf_C ci).2.1 a).2.1 ≠ ((kf_C ci).2.1 b).2.1) nmX0 nmX1 nmX2 nmX3 nmX4 nmX5 nmX6 nmX7 nmX8 nmX9 nmX10 h
theorem kz_ws {ci : Nat} (h : ci < 11) : ∀ x ∈ u_ws (kf_C ci).1 (kf_C ci).2.1 (kf_C ci).2.2, x ∈ gw :=
  kz_11 (P := fun ci => ∀ x ∈ u_ws (kf_C ci).1 (kf_C ci).2.1 (kf_C ci).2.2, x ∈ gw) kf_w0 kf_w1 kf_w2 kf_w3 kf_w4 kf_w5 kf_w6 kf_w7 kf_w8 kf_w9 kf_w10 h
theorem kz_cn {ci : Nat} (h : ci < 11) : (kf_C ci).1 = kn ci :=
  kz_11 (P := fun ci => (kf_C ci).1 = kn ci) rfl rfl rfl rfl rfl rfl rfl rfl rfl rfl rfl h
/-- a field's kind fits its type -/
def kz_kd (ty : FieldType) (g : Nat) : Prop := (g = 0 → ty = .int) ∧ (g = 1 → ty = .boolean) ∧ (2 ≤ g → (∃ n, ty = .object n) ∨ ∃ t, ty = .array t)
/-- the shapes fit the classes, and the places are apart -/
def kz_L (w : kw_W) : Prop := (∀ i, kg_inv w.1 (kg_pos w.1 i) = i) ∧ (∀ q, kg_pos w.1 (kg_inv w.1 q) = q) ∧
  (∀ i ci tg, kg_ly w.1 i = some (.inl (ci, tg)) → i < 1000 ∧ ci < 11 ∧ tg.length = (kf_C ci).2.2 ∧ ∀ k g, tg[k]? = some g → kz_kd (kz_ty ci k) g)
def kz_tl (w : kw_W) : List (ClassId × FieldType) := [(w.2.2.1 0, .int), (w.2.2.1 1, .boolean), (w.2.2.1 2, .byte), (w.2.2.1 3, .array .int)]
def kz_K (w : kw_W) (U : State) : Prop := va_K w.2.1 vwCl (kz_tl w) U ∧ (∀ x ∈ nw, va_Nw x U) ∧ (Cond.arrayOver (.array .int)).before #[] U = true
theorem kz_K.moved {w : kw_W} {s U : State} (hW : s.WarmedH U.vm) (h : kz_K w s) : kz_K w U := by
  refine ⟨va_K.moved hW.alike h.1, fun x hx => ?_, kz_over_moved hW.alike h.2.2⟩
  have h1 := h.2.1 x hx
  have h2 := (List.mem_filter.mp hx).2
  cases x with
  | fieldLinkNest a b c d e f => exact va_Nw.warmF hW h1
  | methodLinkNest a b c d => exact va_Nw.warmM hW h1
  | _ => cases h2
theorem kz_K.same {w : kw_W} {u U : State} (hvm : u.vm = U.vm) (h : kz_K w u) : kz_K w U := by
  refine ⟨va_K.moved (by rw [hvm]; exact Vm.Alike.refl _) h.1, fun x hx => ?_, kz_over_moved (by rw [hvm]; exact Vm.Alike.refl _) h.2.2⟩
  have h1 := h.2.1 x hx
  have h2 := (List.mem_filter.mp hx).2
  cases x with
  | fieldLinkNest a b c d e f => exact va_Nw.same rfl hvm h1
  | methodLinkNest a b c d => exact va_Nw.same rfl hvm h1
  | _ => cases h2
theorem kz_R.moved {w : kw_W} {S : ks_S} {u U : State} {H : Heap} (hvm : u.vm.Alike U.vm) (h : kz_R w S u H) : kz_R w S U H :=
  ⟨h.1, h.2.1, fun i a hi hl => ⟨(h.2.2.1 i a hi hl).1, (h.2.2.1 i a hi hl).2.moved hvm⟩, fun k hk => (h.2.2.2 k hk).moved hvm⟩
theorem kz_ad_new {w : kw_W} {i : Nat} (h : i < 1000) : kz_ad w i = w.2.2.2.1 + kg_pos w.1 i := if_pos h
theorem kz_ad_A {w : kw_W} {i : Nat} (h : i < 1000) : kz_A w (kz_ad w i) := by
  rw [kz_ad_new h]; exact Nat.le_add_right _ _
theorem kz_ad_inj {w : kw_W} (hL : kz_L w) {i j : Nat} (hi : i < 1000) (hj : j < 1000) (h : kz_ad w i = kz_ad w j) : i = j := by
  rw [kz_ad_new hi, kz_ad_new hj] at h
  rw [← hL.1 i, ← hL.1 j, Nat.add_left_cancel h]
/-- one cell is written -/
theorem kz_R.wr {w : kw_W} {S S' : ks_S} {U : State} {H H' : Heap} {i : Nat} {e : ly_E} (hR : kz_R w S U H) (hL : kz_L w) (hi : i < 1000) (hly : kg_ly w.1 i = some e) (hcnt : S'.2.2.1 = S.2.2.1)
    (hsame : ∀ j e', j ≠ i → kz_c w S' j e' = kz_c w S j e') (hold : ∀ j, 1000 ≤ j → S'.2.1 j = S.2.1 j) (hnew : va_at w.2.1 vwCl (kz_ad w i, kz_c w S' i e) H') (hsz : H'.size = H.size) (ho : ∀ q, q ≠ kz_ad w i → H'[q]? = H[q]?) : kz_R w S' U H' := by
  have hk : ∀ a : Nat, a < H.size → ¬ kz_A w a → H'[a]? = H[a]? := fun a _ h => ho a (fun q => h (by rw [q]; exact kz_ad_A hi))
  refine ⟨by rw [hsz, hcnt]; exact hR.1, fun j e' hj hl hp => ?_, fun j a hj hl => ?_, fun k hk4 => (hR.2.2.2 k hk4).kept hk⟩
  · by_cases hji : j = i
    · subst hji
      cases hly.symm.trans hl
      exact hnew
    · rw [hsame j e' hji]
      rw [hcnt] at hp
      exact (hR.2.1 j e' hj hl hp).kept (ho _ (fun q => hji (kz_ad_inj hL hj hi q)))
  · obtain ⟨h1, h2⟩ := hR.2.2.1 j a hj hl
    refine ⟨h1, ?_⟩
    rw [hold j hj]
    exact h2.kept hk
/-- one cell is made -/
theorem kz_R.mk {w : kw_W} {S S' : ks_S} {U : State} {H H' : Heap} {i : Nat} {e : ly_E} (hR : kz_R w S U H) (hL : kz_L w) (hi : i < 1000) (hpi : kg_inv w.1 S.2.2.1 = i) (hly : kg_ly w.1 i = some e) (hcnt : S'.2.2.1 = S.2.2.1 + 1)
    (hsame : ∀ j e', j ≠ i → kz_c w S' j e' = kz_c w S j e') (hold : ∀ j, 1000 ≤ j → S'.2.1 j = S.2.1 j) (hnew : va_at w.2.1 vwCl (kz_ad w i, kz_c w S' i e) H') (hsz : H'.size = H.size + 1) (ho : ∀ q, q < H.size → H'[q]? = H[q]?) : kz_R w S' U H' := by
  have hk : ∀ a : Nat, a < H.size → ¬ kz_A w a → H'[a]? = H[a]? := fun a h _ => ho a h
  refine ⟨by rw [hsz, hcnt, hR.1]; omega, fun j e' hj hl hp => ?_, fun j a hj hl => ?_, fun k hk4 => (hR.2.2.2 k hk4).kept hk⟩
  · by_cases hji : j = i
    · subst hji
      cases hly.symm.trans hl
      exact hnew
    · rw [hsame j e' hji]
      have hp2 : kg_pos w.1 j < S.2.2.1 := by
        rw [hcnt] at hp
        rcases Nat.lt_or_ge (kg_pos w.1 j) S.2.2.1 with q | q
        · exact q
        · exfalso
          apply hji
          rw [← hpi, ← hL.1 j, show kg_pos w.1 j = S.2.2.1 by omega]
      exact (hR.2.1 j e' hj hl hp2).kept (ho _ (hR.2.1 j e' hj hl hp2).lt)
  · obtain ⟨h1, h2⟩ := hR.2.2.1 j a hj hl
    refine ⟨h1, ?_⟩
    rw [hold j hj]
    exact h2.kept hk
theorem kz_ad_at {w : kw_W} (hL : kz_L w) {S : ks_S} {U : State} {H : Heap} (hR : kz_R w S U H) {i : Nat} (hi : i < 1000) (hpi : kg_inv w.1 S.2.2.1 = i) : kz_ad w i = H.size := by
  rw [kz_ad_new hi, hR.1, ← hpi, hL.2.1]
theorem va_P1 {D : va_G} {cl : List vw_C} {q : Nat × va_E} {H : Heap} (h : va_at D cl q H) : va_P D cl [q] H := by
  intro k x hk
  have h0 : k < 1 := (List.getElem?_eq_some_iff.mp hk).1
  rw [show k = 0 by omega] at hk
  cases hk
  exact h
theorem kg_ob_e {G : kg_G} {S : ks_S} {i : Nat} {o : Nat × List Nat} (h : kg_ob G S i = some o) : kg_ly G i = some (.inl o) ∧ i < 1000 ∧ kg_pos G i < S.2.2.1 := by
  unfold kg_ob at h
  split at h
  next o' he =>
    split at h
    next hc =>
      cases h
      exact ⟨he, of_decide_eq_true hc⟩
    next => cases h
  next => cases h
theorem kg_aw_e {G : kg_G} {S : ks_S} {i : Nat} {o : Nat × Nat × Nat} (h : kg_aw G S i = some o) : kg_ly G i = some (.inr o) ∧ i < 1000 ∧ kg_pos G i < S.2.2.1 := by
  unfold kg_aw at h
  split at h
  next o' he =>
    split at h
    next hc =>
      cases h
      exact ⟨he, of_decide_eq_true hc⟩
    next => cases h
  next => cases h
theorem kg_ar_e {G : kg_G} {S : ks_S} {i : Nat} {o : Nat × Nat × Nat} (h : kg_ar G S i = some o) : kg_ly G i = some (.inr o) ∧ ((i < 1000 ∧ kg_pos G i < S.2.2.1) ∨ 1000 ≤ i) := by
  unfold kg_ar at h
  split at h
  next o' he =>
    split at h
    next hc =>
      cases h
      refine ⟨he, ?_⟩
      rcases hc with hc | hc
      · exact Or.inl (of_decide_eq_true hc)
      · exact Or.inr hc
    next => cases h
  next => cases h
theorem kz_fs_at {w : kw_W} {S : ks_S} {i k g : Nat} {tg : List Nat} (h : tg[k]? = some g) : (kz_fs w S i tg)[k]? = some (kv (kz_ad w) (kx_fld S i k g)) := by
  unfold kz_fs
  rw [List.getElem?_mapIdx, h]
  rfl
theorem kz_fs_len {w : kw_W} {S : ks_S} {i : Nat} {tg : List Nat} : (kz_fs w S i tg).length = tg.length := by
  unfold kz_fs
  rw [List.length_mapIdx]
theorem kx_fld_congr {S S' : ks_S} {i k g : Nat} (h : ks_iv S i k = ks_iv S' i k) : kx_fld S i k g = kx_fld S' i k g := by
  unfold kx_fld
  rw [h]
theorem kz_fs_set {w : kw_W} {S : ks_S} {i k g : Nat} {tg : List Nat} {x : Int32} {v : Value} (h : tg[k]? = some g) (hv : kx_fld (ks_si S i k x) i k g = v) : kz_fs w (ks_si S i k x) i tg = (kz_fs w S i tg).set k (kv (kz_ad w) v) := by
  apply List.ext_getElem?
  intro j
  by_cases hj : j = k
  · subst hj
    have hl : j < (kz_fs w S i tg).length := by rw [kz_fs_len]; exact (List.getElem?_eq_some_iff.mp h).1
    rw [List.getElem?_set_self hl, kz_fs_at h, hv]
  · rw [List.getElem?_set_ne (Ne.symm hj)]
    unfold kz_fs
    rw [List.getElem?_mapIdx, List.getElem?_mapIdx]
    cases tg[j]? with
    | none => rfl
    | some g' =>
      simp only [Option.map_some]
      rw [kx_fld_congr (S' := S)]
      simp [ks_iv, ks_si, va_up, upd, hj]
theorem kz_c_si {w : kw_W} {S : ks_S} {i k : Nat} {x : Int32} {j : Nat} {e : ly_E} (h : j ≠ i) : kz_c w (ks_si S i k x) j e = kz_c w S j e := by
  cases e with
  | inl o =>
    show Sum.inr (o.1, kz_fs w (ks_si S i k x) j o.2) = Sum.inr (o.1, kz_fs w S j o.2)
    congr 2
    unfold kz_fs
    congr 1
    funext a g
    rw [kx_fld_congr (S' := S)]
    simp [ks_iv, ks_si, va_up, h]
  | inr a => rfl
theorem kz_c_row {w : kw_W} {S : ks_S} {i : Nat} {f : Nat → Int32} {j : Nat} {e : ly_E} (h : j ≠ i) : kz_c w (ks_row S i f) j e = kz_c w S j e := by
  cases e with
  | inl o => rfl
  | inr a =>
    show Sum.inl (_, kz_el w (ks_row S i f) j _ _ _) = Sum.inl (_, kz_el w S j _ _ _)
    unfold kz_el
    simp [ks_row, va_up, h]
