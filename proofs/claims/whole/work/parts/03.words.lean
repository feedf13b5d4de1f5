def km_own (E : km_E) : Nat := E.1
def km_y (E : km_E) : MethodName := E.2.1
def km_c (E : km_E) : ByteArray := E.2.2.1
def km_L (E : km_E) : Nat := E.2.2.2.1
def km_r (E : km_E) : Option FieldType := E.2.2.2.2.1
def km_n (E : km_E) : Nat := E.2.2.2.2.2.1
def km_f (E : km_E) : Nat := E.2.2.2.2.2.2.1
def km_l (E : km_E) : Nat := E.2.2.2.2.2.2.2
/-! The tables' words: each entry of the tables of part 02 is backed by words of the Statement. -/
def gw : List Cond := lw_tbl.filter goodWord
def kz_isN : Cond → Bool
  | .fieldLinkNest _ _ _ _ _ _ => true
  | .methodLinkNest _ _ _ _ => true
  | _ => false
def nw : List Cond := lw_tbl.filter kz_isN
/-- w is the word at place i -/
def kz_at (i : Nat) (w : Cond) : Bool := decide (lw_tbl[i]? = some w)
theorem kz_at_mem {i : Nat} {w : Cond} (h : kz_at i w = true) : w ∈ lw_tbl := List.mem_of_getElem? (of_decide_eq_true h)
theorem kz_gw {i : Nat} {w : Cond} (h : kz_at i w = true) (hg : goodWord w = true) : w ∈ gw := List.mem_filter.mpr ⟨kz_at_mem h, hg⟩
theorem kz_nw {i : Nat} {w : Cond} (h : kz_at i w = true) (hg : kz_isN w = true) : w ∈ nw := List.mem_filter.mpr ⟨kz_at_mem h, hg⟩
def kc_P (e : kc_E) : Prop := (e.2.2.2.1 = "" → Cond.methodLink (kn e.1) e.2.1 (km_y e.2.2.2.2) ∈ gw) ∧ (¬ e.2.2.2.1 = "" → Cond.methodLinkNest (kn e.1) e.2.1 (km_y e.2.2.2.2) e.2.2.2.1 ∈ nw) ∧ Cond.code (km_y e.2.2.2.2) (km_c e.2.2.2.2) (km_L e.2.2.2.2) (km_r e.2.2.2.2) ∈ gw ∧ Cond.initialized (km_y e.2.2.2.2).cls ∈ gw ∧
  ((km_y e.2.2.2.2).cls ≠ "java/lang/invoke/MethodHandle" ∧ (km_y e.2.2.2.2).cls ≠ "java/lang/invoke/VarHandle" ∧ (parseMethodDescriptor (km_y e.2.2.2.2).desc).map (fun d => d.parameters.length) = some (km_n e.2.2.2.2)) ∧ (km_y e.2.2.2.2).cls = kn (km_own e.2.2.2.2) ∧ plainName (km_y e.2.2.2.2).cls = true ∧
  (e.2.2.1 = 0 → Cond.instanceMethod (km_y e.2.2.2.2) ∈ gw ∧ Cond.selects (km_y e.2.2.2.2).cls (km_y e.2.2.2.2) (km_y e.2.2.2.2) ∈ gw) ∧ (e.2.2.1 = 1 → Cond.static (km_y e.2.2.2.2) ∈ gw) ∧ (e.2.2.1 = 2 → Cond.instanceMethod (km_y e.2.2.2.2) ∈ gw ∧ (km_y e.2.2.2.2).name = "<init>" ∧ km_r e.2.2.2.2 = none)
/-- the check of an entry, the places of its words told: link, code, initialized, instance or static, selects -/
def kc_ck (e : kc_E) (a b c d f : Nat) : Bool :=
  (if e.2.2.2.1 = "" then kz_at a (Cond.methodLink (kn e.1) e.2.1 (km_y e.2.2.2.2)) else kz_at a (Cond.methodLinkNest (kn e.1) e.2.1 (km_y e.2.2.2.2) e.2.2.2.1)) && kz_at b (Cond.code (km_y e.2.2.2.2) (km_c e.2.2.2.2) (km_L e.2.2.2.2) (km_r e.2.2.2.2)) && kz_at c (Cond.initialized (km_y e.2.2.2.2).cls) &&
  (decide ((km_y e.2.2.2.2).cls ≠ "java/lang/invoke/MethodHandle" ∧ (km_y e.2.2.2.2).cls ≠ "java/lang/invoke/VarHandle" ∧ (parseMethodDescriptor (km_y e.2.2.2.2).desc).map (fun d => d.parameters.length) = some (km_n e.2.2.2.2))) && decide ((km_y e.2.2.2.2).cls = kn (km_own e.2.2.2.2)) && plainName (km_y e.2.2.2.2).cls &&
  (if e.2.2.1 = 0 then kz_at d (Cond.instanceMethod (km_y e.2.2.2.2)) && kz_at f (Cond.selects (km_y e.2.2.2.2).cls (km_y e.2.2.2.2) (km_y e.2.2.2.2)) else if e.2.2.1 = 1 then kz_at d (Cond.static (km_y e.2.2.2.2)) else kz_at d (Cond.instanceMethod (km_y e.2.2.2.2)) && decide ((km_y e.2.2.2.2).name = "<init>" ∧ km_r e.2.2.2.2 = none))
theorem kc_of {e : kc_E} {a b c d f : Nat} (h : kc_ck e a b c d f = true) : kc_P e := by
  unfold kc_ck at h
  simp only [Bool.and_eq_true, decide_eq_true_eq] at h
  obtain ⟨⟨⟨⟨⟨⟨h1, h2⟩, h3⟩, h4⟩, h5⟩, h6⟩, h7⟩ := h
  refine ⟨fun q => ?_, fun q => ?_, kz_gw h2 rfl, kz_gw h3 rfl, h4, h5, h6, fun q => ?_, fun q => ?_, fun q => ?_⟩
  · rw [if_pos q] at h1
    exact kz_gw h1 rfl
  · rw [if_neg q] at h1
    exact kz_nw h1 rfl
  · rw [if_pos q] at h7
    simp only [Bool.and_eq_true] at h7
    exact ⟨kz_gw h7.1 rfl, kz_gw h7.2 rfl⟩
  · rw [if_neg (by rw [q]; decide), if_pos q] at h7
    exact kz_gw h7 rfl
  · rw [if_neg (by rw [q]; decide), if_neg (by rw [q]; decide)] at h7
    simp only [Bool.and_eq_true, decide_eq_true_eq] at h7
    exact ⟨kz_gw h7.1 rfl, h7.2⟩
/-- a check of the whole list, entry by entry, with the places told -/
theorem kz_zp {α β : Type} {P : α → Prop} {ck : α → β → Bool} (h0 : ∀ a b, ck a b = true → P a) : ∀ (l : List α) (x : List β), l.length ≤ x.length → (l.zip x).all (fun q => ck q.1 q.2) = true → ∀ e ∈ l, P e
  | [], _, _, _, e, he => by cases he
  | a :: l, [], h, _, _, _ => by simp at h
  | a :: l, b :: x, h, hc, e, he => by
    simp only [List.zip_cons_cons, List.all_cons, Bool.and_eq_true] at hc
    rcases List.mem_cons.mp he with rfl | he
    · exact h0 _ _ hc.1
    · exact kz_zp h0 l x (by simpa using h) hc.2 e he
theorem kc_zip (l : List kc_E) (x : List (Nat × Nat × Nat × Nat × Nat)) (h : l.length ≤ x.length) (hc : (l.zip x).all (fun q => kc_ck q.1 q.2.1 q.2.2.1 q.2.2.2.1 q.2.2.2.2.1 q.2.2.2.2.2) = true) : ∀ e ∈ l, kc_P e :=
  kz_zp (ck := fun e b => kc_ck e b.1 b.2.1 b.2.2.1 b.2.2.2.1 b.2.2.2.2) (fun _ _ h => kc_of h) l x h hc
theorem kz_zip (l : List Cond) (x : List Nat) (h : l.length ≤ x.length) (hc : (l.zip x).all (fun q => kz_at q.2 q.1 && goodWord q.1) = true) : ∀ w ∈ l, w ∈ gw :=
  kz_zp (ck := fun w i => kz_at i w && goodWord w) (fun _ _ h => by rw [Bool.and_eq_true] at h; exact kz_gw h.1 h.2) l x h hc
def kf_C (ci : Nat) : vw_C := vwCl.getD ci ("", fun _ => ("", "", "", false), 0)
def kf_P (e : kf_E) : Prop := e.2.2.2.2 < (kf_C e.2.2.2.1).2.2 ∧ vwCl[e.2.2.2.1]? = some (kf_C e.2.2.2.1) ∧ (e.2.2.1 = "" → Cond.fieldLink (kn e.1) e.2.1 ((kf_C e.2.2.2.1).2.1 e.2.2.2.2).1 ((kf_C e.2.2.2.1).2.1 e.2.2.2.2).2.1 ((kf_C e.2.2.2.1).2.1 e.2.2.2.2).2.2.1 ∈ gw) ∧ (¬ e.2.2.1 = "" → Cond.fieldLinkNest (kn e.1) e.2.1 ((kf_C e.2.2.2.1).2.1 e.2.2.2.2).1 ((kf_C e.2.2.2.1).2.1 e.2.2.2.2).2.1 ((kf_C e.2.2.2.1).2.1 e.2.2.2.2).2.2.1 e.2.2.1 ∈ nw) ∧ ((kf_C e.2.2.2.1).2.1 e.2.2.2.2).1 = kn e.2.2.2.1
def kf_ck (e : kf_E) (i : Nat) : Bool := decide (e.2.2.2.2 < (kf_C e.2.2.2.1).2.2) && decide (e.2.2.2.1 < 11) && (if e.2.2.1 = "" then kz_at i (Cond.fieldLink (kn e.1) e.2.1 ((kf_C e.2.2.2.1).2.1 e.2.2.2.2).1 ((kf_C e.2.2.2.1).2.1 e.2.2.2.2).2.1 ((kf_C e.2.2.2.1).2.1 e.2.2.2.2).2.2.1) else kz_at i (Cond.fieldLinkNest (kn e.1) e.2.1 ((kf_C e.2.2.2.1).2.1 e.2.2.2.2).1 ((kf_C e.2.2.2.1).2.1 e.2.2.2.2).2.1 ((kf_C e.2.2.2.1).2.1 e.2.2.2.2).2.2.1 e.2.2.1)) && decide (((kf_C e.2.2.2.1).2.1 e.2.2.2.2).1 = kn e.2.2.2.1)
theorem kf_Cat {ci : Nat} (h : ci < 11) : vwCl[ci]? = some (kf_C ci) := by
  unfold kf_C
  rw [List.getD_eq_getElem?_getD]
  have hl : ci < vwCl.length := h
  rw [List.getElem?_eq_getElem hl]
  rfl
theorem kf_zip (l : List kf_E) (x : List Nat) (h : l.length ≤ x.length) (hc : (l.zip x).all (fun q => kf_ck q.1 q.2) = true) : ∀ e ∈ l, kf_P e :=
  kz_zp (ck := kf_ck) (fun e i h => by
    unfold kf_ck at h
    simp only [Bool.and_eq_true, decide_eq_true_eq] at h
    obtain ⟨⟨⟨h1, h2⟩, h3⟩, h4⟩ := h
    refine ⟨h1, kf_Cat h2, fun q => ?_, fun q => ?_, h4⟩
    · rw [if_pos q] at h3
      exact kz_gw h3 rfl
    · rw [if_neg q] at h3
      exact kz_nw h3 rfl) l x h hc
def ks_P (e : Nat × Nat × String × Nat) : Prop := e.2.2.2 < 4 ∧ (e.2.2.1 = "" → Cond.fieldLink (kn e.1) e.2.1 "DeltaRoad" (ks_nm.getD e.2.2.2 "") "[I" ∈ gw) ∧ (¬ e.2.2.1 = "" → Cond.fieldLinkNest (kn e.1) e.2.1 "DeltaRoad" (ks_nm.getD e.2.2.2 "") "[I" e.2.2.1 ∈ nw)
def ks_ck (e : Nat × Nat × String × Nat) (i : Nat) : Bool := decide (e.2.2.2 < 4) && (if e.2.2.1 = "" then kz_at i (Cond.fieldLink (kn e.1) e.2.1 "DeltaRoad" (ks_nm.getD e.2.2.2 "") "[I") else kz_at i (Cond.fieldLinkNest (kn e.1) e.2.1 "DeltaRoad" (ks_nm.getD e.2.2.2 "") "[I" e.2.2.1))
theorem ks_zip (l : List (Nat × Nat × String × Nat)) (x : List Nat) (h : l.length ≤ x.length) (hc : (l.zip x).all (fun q => ks_ck q.1 q.2) = true) : ∀ e ∈ l, ks_P e :=
  kz_zp (ck := ks_ck) (fun e i h => by
    unfold ks_ck at h
    simp only [Bool.and_eq_true, decide_eq_true_eq] at h
    refine ⟨h.1, fun q => ?_, fun q => ?_⟩
    · have h3 := h.2
      rw [if_pos q] at h3
      exact kz_gw h3 rfl
    · have h3 := h.2
      rw [if_neg q] at h3
      exact kz_nw h3 rfl) l x h hc
def kw_P (e : Nat × Nat × Nat) : Prop := e.2.2 < 11 ∧ Cond.classLink (kn e.1) e.2.1 (kf_C e.2.2).1 ∈ gw ∧ Cond.instantiable (kf_C e.2.2).1 (kf_C e.2.2).2.2 ∈ gw ∧ Cond.initialized (kf_C e.2.2).1 ∈ gw
theorem kw_zip (l : List (Nat × Nat × Nat)) (x : List (Nat × Nat × Nat)) (h : l.length ≤ x.length) (hc : (l.zip x).all (fun q => decide (q.1.2.2 < 11) && (kz_at q.2.1 (Cond.classLink (kn q.1.1) q.1.2.1 (kf_C q.1.2.2).1) && (kz_at q.2.2.1 (Cond.instantiable (kf_C q.1.2.2).1 (kf_C q.1.2.2).2.2) && kz_at q.2.2.2 (Cond.initialized (kf_C q.1.2.2).1)))) = true) : ∀ e ∈ l, kw_P e :=
  kz_zp (ck := fun e x => decide (e.2.2 < 11) && (kz_at x.1 (Cond.classLink (kn e.1) e.2.1 (kf_C e.2.2).1) && (kz_at x.2.1 (Cond.instantiable (kf_C e.2.2).1 (kf_C e.2.2).2.2) && kz_at x.2.2 (Cond.initialized (kf_C e.2.2).1)))) (fun e x h => by
    simp only [Bool.and_eq_true, decide_eq_true_eq] at h
    exact ⟨h.1, kz_gw h.2.1 rfl, kz_gw h.2.2.1 rfl, kz_gw h.2.2.2 rfl⟩) l x h hc
theorem kq_zip (l : List (Nat × Nat × Int32)) (x : List Nat) (h : l.length ≤ x.length) (hc : (l.zip x).all (fun q => kz_at q.2 (Cond.constant (kn q.1.1) q.1.2.1 q.1.2.2)) = true) : ∀ e ∈ l, Cond.constant (kn e.1) e.2.1 e.2.2 ∈ gw :=
  kz_zp (ck := fun e i => kz_at i (Cond.constant (kn e.1) e.2.1 e.2.2)) (fun e i h => kz_gw h rfl) l x h hc
theorem kl_zip (l : List (Nat × Nat × Int64)) (x : List Nat) (h : l.length ≤ x.length) (hc : (l.zip x).all (fun q => kz_at q.2 (Cond.constantLong (kn q.1.1) q.1.2.1 q.1.2.2)) = true) : ∀ e ∈ l, Cond.constantLong (kn e.1) e.2.1 e.2.2 ∈ gw :=
  kz_zp (ck := fun e i => kz_at i (Cond.constantLong (kn e.1) e.2.1 e.2.2)) (fun e i h => kz_gw h rfl) l x h hc
theorem ko_zip (y : MethodName) (l : List (Nat × Nat)) (x : List Nat) (h : l.length ≤ x.length) (hc : (l.zip x).all (fun q => kz_at q.2 (Cond.methodLink (kn q.1.1) q.1.2 y)) = true) : ∀ e ∈ l, Cond.methodLink (kn e.1) e.2 y ∈ gw :=
  kz_zp (ck := fun e i => kz_at i (Cond.methodLink (kn e.1) e.2 y)) (fun e i h => kz_gw h rfl) l x h hc
theorem kt_zip (l : List (Nat × Nat × Nat)) (x : List Nat) (h : l.length ≤ x.length) (hc : (l.zip x).all (fun q => kz_at q.2 (Cond.methodLink (kn q.1.1) q.1.2.1 (if q.1.2.2 = 0 then Lib.Math.max.name else if q.1.2.2 = 1 then Lib.Math.min.name else Lib.Math.abs.name))) = true) : ∀ e ∈ l, Cond.methodLink (kn e.1) e.2.1 (if e.2.2 = 0 then Lib.Math.max.name else if e.2.2 = 1 then Lib.Math.min.name else Lib.Math.abs.name) ∈ gw :=
  kz_zp (ck := fun e i => kz_at i (Cond.methodLink (kn e.1) e.2.1 (if e.2.2 = 0 then Lib.Math.max.name else if e.2.2 = 1 then Lib.Math.min.name else Lib.Math.abs.name))) (fun e i h => kz_gw h rfl) l x h hc
