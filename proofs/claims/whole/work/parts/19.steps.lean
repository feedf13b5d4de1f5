/-! One instruction, as an equivalence: for rewriting. -/
def ks_sim (i : Instr) : Bool := match i with
  | .ireturn => false
  | .lreturn => false
  | .areturn => false
  | .return_ => false
  | .invokevirtual _ => false
  | .invokestatic _ => false
  | .invokespecial _ => false
  | _ => true
section ST
variable {G : kg_G} {E : km_E} {pc pc' : Nat} {lv lv' : List (Option Value)} {st st' : List Value} {S S' : ks_S} {P : Option Value → ks_S → Prop}
theorem kr_sim {i : Instr} {len : Nat} (hd : decode (km_c E) pc = .ok (i, len)) (hl : len = ki_len i len) (hs : ks_sim i = true) (run : kr_T) : kr_step G run E pc lv st S = kr_on run E (kx G E i len pc lv st S) := by
  unfold kr_step
  rw [hd]
  show (if len = ki_len i len then _ else none) = _
  rw [if_pos hl]
  cases i <;> first | rfl | (cases hs)
theorem rn_s {i : Instr} {len : Nat} (hd : decode (km_c E) pc = .ok (i, len)) (hl : len = ki_len i len) (hs : ks_sim i = true) (hk : kx G E i len pc lv st S = some (pc', lv', st', S')) : rn G E pc lv st S P ↔ rn G E pc' lv' st' S' P :=
  rn_kx hd (kr_sim hd hl hs) hk
/-- a branch -/
theorem rn_b {i : Instr} {len : Nat} {c : Prop} {ic : Decidable c} {off : Int} {t : Nat} (hd : decode (km_c E) pc = .ok (i, len)) (hl : len = ki_len i len) (hs : ks_sim i = true) (hk : kx G E i len pc lv st S = @kx_to c ic pc off lv st' S) (ht : kx_j pc off = some t) : rn G E pc lv st S P ↔ ((c → rn G E t lv st' S P) ∧ (¬ c → rn G E (pc + 3) lv st' S P)) := by
  have e : kx G E i len pc lv st S = if c then some (t, lv, st', S) else some (pc + 3, lv, st', S) := by
    rw [hk]
    unfold kx_to
    rw [ht]
  by_cases h : c
  · rw [if_pos h] at e
    rw [rn_s hd hl hs e]
    exact ⟨fun z => ⟨fun _ => z, fun q => absurd h q⟩, fun z => z.1 h⟩
  · rw [if_neg h] at e
    rw [rn_s hd hl hs e]
    exact ⟨fun z => ⟨fun q => absurd q h, fun _ => z⟩, fun z => z.2 h⟩
theorem rn_ir {x : Int32} (hd : decode (km_c E) pc = .ok (.ireturn, 1)) (hr : kx_ret 0 (km_r E) (.int x) = true) : rn G E pc lv [.int x] S P ↔ P (some (.int x)) S :=
  rn_ret (kd := 0) (fun run => by unfold kr_step; rw [hd]; rfl) hr
theorem rn_lr {x : Int64} (hd : decode (km_c E) pc = .ok (.lreturn, 1)) (hr : kx_ret 1 (km_r E) (.long x) = true) : rn G E pc lv [.long x] S P ↔ P (some (.long x)) S :=
  rn_ret (kd := 1) (fun run => by unfold kr_step; rw [hd]; rfl) hr
theorem rn_ar {x : Nat} (hd : decode (km_c E) pc = .ok (.areturn, 1)) (hr : kx_ret 2 (km_r E) (.ref x) = true) : rn G E pc lv [.ref x] S P ↔ P (some (.ref x)) S :=
  rn_ret (kd := 2) (fun run => by unfold kr_step; rw [hd]; rfl) hr
theorem rn_vr (hd : decode (km_c E) pc = .ok (.return_, 1)) (hr : km_r E = none) : rn G E pc lv [] S P ↔ P none S :=
  rn_retV (fun run => by
    unfold kr_step
    rw [hd]
    show (if ([] : List Value).isEmpty = true ∧ km_r E = none then some (none, S) else none) = _
    exact if_pos ⟨rfl, hr⟩)
theorem rn_mm {idx w : Nat} (hd : decode (km_c E) pc = .ok (.invokestatic idx, 3)) (hc : (km_own E, idx) ∉ kc_cpy) (hw : kt (km_own E) idx = some w) (hk : kx_mm (km_f E) (km_l E) pc w lv st S = some (pc', lv', st', S')) : rn G E pc lv st S P ↔ rn G E pc' lv' st' S' P :=
  rn_on fun run => by
    unfold kr_step
    rw [hd]
    show (if (km_own E, idx) ∈ kc_cpy then _ else match kt (km_own E) idx with | some w => kr_on run E (kx_mm (km_f E) (km_l E) pc w lv st S) | none => _) = _
    rw [if_neg hc, hw]
    show kr_on run E (kx_mm (km_f E) (km_l E) pc w lv st S) = _
    rw [hk]
    rfl
theorem rn_cv {idx k : Nat} {host : String} {E' : km_E} {vs rest : List Value} {v : Option Value} (hd : decode (km_c E) pc = .ok (.invokevirtual idx, 3)) (ho : kc (km_own E) idx = some (k, host, E')) (hok : kx_ok G E E' 0 k st S = true) (h1 : (st.take (km_na 0 E')).reverse = vs) (h2 : st.drop (km_na 0 E') = rest) (hc : ev G E' vs S v S') : rn G E pc lv st S P ↔ rn G E (pc + 3) lv (v.toList ++ rest) S' P :=
  rn_call (fun run => by unfold kr_step; rw [hd]; rfl) ho hok h1 h2 hc
theorem rn_cs {idx k : Nat} {host : String} {E' : km_E} {vs rest : List Value} {v : Option Value} (hd : decode (km_c E) pc = .ok (.invokestatic idx, 3)) (hn : (km_own E, idx) ∉ kc_cpy) (hw : kt (km_own E) idx = none) (ho : kc (km_own E) idx = some (k, host, E')) (hok : kx_ok G E E' 1 k st S = true) (h1 : (st.take (km_na 1 E')).reverse = vs) (h2 : st.drop (km_na 1 E') = rest) (hc : ev G E' vs S v S') : rn G E pc lv st S P ↔ rn G E (pc + 3) lv (v.toList ++ rest) S' P :=
  rn_call (fun run => by
    unfold kr_step
    rw [hd]
    show (if (km_own E, idx) ∈ kc_cpy then _ else match kt (km_own E) idx with | some w => kr_on run E (kx_mm (km_f E) (km_l E) pc w lv st S) | none => kr_call G run 1 (kc (km_own E) idx) E pc lv st S) = _
    rw [if_neg hn, hw]) ho hok h1 h2 hc
theorem rn_ci {idx k : Nat} {host : String} {E' : km_E} {vs rest : List Value} {v : Option Value} (hd : decode (km_c E) pc = .ok (.invokespecial idx, 3)) (hn : (km_own E, idx) ∉ kc_obj) (ho : kc (km_own E) idx = some (k, host, E')) (hok : kx_ok G E E' 2 k st S = true) (h1 : (st.take (km_na 2 E')).reverse = vs) (h2 : st.drop (km_na 2 E') = rest) (hc : ev G E' vs S v S') : rn G E pc lv st S P ↔ rn G E (pc + 3) lv (v.toList ++ rest) S' P :=
  rn_call (fun run => by
    unfold kr_step
    rw [hd]
    show (if (km_own E, idx) ∈ kc_obj then _ else kr_call G run 2 (kc (km_own E) idx) E pc lv st S) = _
    rw [if_neg hn]) ho hok h1 h2 hc
end ST
/-- the places' lengths and kinds -/
def ln (L a : Nat) : Nat := match lt_ly L a with
  | some (.inr q) => q.2.1
  | _ => 0
def ak (L a : Nat) : Nat := match lt_ly L a with
  | some (.inr q) => q.1
  | _ => 9
def ab (L a : Nat) : Nat := match lt_ly L a with
  | some (.inr q) => q.2.2
  | _ => 0
theorem ak_e {L a t : Nat} (h : ak L a = t) (ht : t < 9) : lt_ly L a = some (.inr (t, ln L a, ab L a)) := by
  unfold ak at h
  unfold ln ab
  split at h
  next q hq => subst h; exact hq
  next => omega
section SX
variable {o pl kp : Bool} {L : Nat} {I A : Nat → Nat → Int32} {E : km_E} {pc : Nat} {lv : List (Option Value)} {st : List Value} {P : Option Value → ks_S → Prop}
theorem rx_get {idx ci k g a : Nat} {h : String} {tg : List Nat} {v : Value} (hd : decode (km_c E) pc = .ok (.getfield idx, 3)) (hf : kf (km_own E) idx = some (h, ci, k)) (ho : sx_o o pl kp) (hu : sx_up pl kp a = true) (hl : lt_ly L a = some (.inl (ci, tg))) (hg : tg[k]? = some g) (hv : kx_fld (sx pl kp I A) a k g = v) : rn (lt_G o L) E pc lv (.ref a :: st) (sx pl kp I A) P ↔ rn (lt_G o L) E (pc + 3) lv (v :: st) (sx pl kp I A) P := by
  refine rn_s hd rfl rfl ?_
  show (match kf (km_own E) idx with | some (_, ci, k) => _ | none => none) = _
  rw [hf]
  show (match kg_ob (lt_G o L) (sx pl kp I A) a with | some (cj, tg) => _ | none => none) = _
  rw [sx_ob ho hu hl]
  show (if ci = ci then (match tg[k]? with | some g => _ | none => none) else none) = _
  rw [if_pos rfl, hg, ← hv]
theorem rx_put {idx ci k a : Nat} {h : String} {tg : List Nat} {x : Int32} (hd : decode (km_c E) pc = .ok (.putfield idx, 3)) (hf : kf (km_own E) idx = some (h, ci, k)) (ho : sx_o o pl kp) (hu : sx_up pl kp a = true) (hl : lt_ly L a = some (.inl (ci, tg))) (hg : tg[k]? = some 0) (hfin : kx_fin E h ci k = true) (hrf : sx_rf a k = false) : rn (lt_G o L) E pc lv (.int x :: .ref a :: st) (sx pl kp I A) P ↔ rn (lt_G o L) E (pc + 3) lv st (sx pl kp (u2 I a k x) A) P := by
  refine rn_s hd rfl rfl ?_
  show (match kf (km_own E) idx with | some (host, ci, k) => _ | none => none) = _
  rw [hf]
  show (match kg_ob (lt_G o L) (sx pl kp I A) a with | some (cj, tg) => _ | none => none) = _
  rw [sx_ob ho hu hl]
  show (if ci = ci ∧ kx_fin E h ci k = true then (match tg[k]? with | some g => _ | none => none) else none) = _
  rw [if_pos ⟨rfl, hfin⟩, hg, ← sx_si hrf]
  rfl
theorem rx_putZ {idx ci k a : Nat} {h : String} {tg : List Nat} {x : Int32} (hd : decode (km_c E) pc = .ok (.putfield idx, 3)) (hf : kf (km_own E) idx = some (h, ci, k)) (ho : sx_o o pl kp) (hu : sx_up pl kp a = true) (hl : lt_ly L a = some (.inl (ci, tg))) (hg : tg[k]? = some 1) (hfin : kx_fin E h ci k = true) (hrf : sx_rf a k = false) (hx : x = 0 ∨ x = 1) : rn (lt_G o L) E pc lv (.int x :: .ref a :: st) (sx pl kp I A) P ↔ rn (lt_G o L) E (pc + 3) lv st (sx pl kp (u2 I a k x) A) P := by
  refine rn_s hd rfl rfl ?_
  show (match kf (km_own E) idx with | some (host, ci, k) => _ | none => none) = _
  rw [hf]
  show (match kg_ob (lt_G o L) (sx pl kp I A) a with | some (cj, tg) => _ | none => none) = _
  rw [sx_ob ho hu hl]
  show (if ci = ci ∧ kx_fin E h ci k = true then (match tg[k]? with | some g => _ | none => none) else none) = _
  rw [if_pos ⟨rfl, hfin⟩, hg, ← sx_si hrf]
  show (match (if x = 0 ∨ x = 1 then some (ks_si (sx pl kp I A) a k x) else none) with | some S' => _ | none => none) = _
  rw [if_pos hx]
theorem kx_in_n {c n : Nat} (h : c < n) (hn : n < 2 ^ 31) : kx_in (nI c) n = true := by
  unfold kx_in
  rw [decide_eq_true_eq]
  exact nI_in h hn
theorem rx_ild {a c : Nat} (hd : decode (km_c E) pc = .ok (.iaload, 1)) (ho : sx_o o pl kp) (hk : ak L a = 0) (hu : sx_up pl kp a = true ∨ 1000 ≤ a) (hc : c < ln L a) (hn : ln L a < 2 ^ 31) : rn (lt_G o L) E pc lv (.int (nI c) :: .ref a :: st) (sx pl kp I A) P ↔ rn (lt_G o L) E (pc + 1) lv (.int (A a c) :: st) (sx pl kp I A) P := by
  refine rn_s hd rfl rfl ?_
  have hl := ak_e hk (by decide)
  have ha : kg_ar (lt_G o L) (sx pl kp I A) a = some (0, ln L a, ab L a) := by
    rcases hu with hu | hu
    · exact sx_ar ho hu hl
    · exact sx_aro hu hl
  show (match kg_ar (lt_G o L) (sx pl kp I A) a with | some (t, n, _) => _ | none => none) = _
  rw [ha]
  show (if 0 = 0 ∧ kx_in (nI c) (ln L a) = true then some (pc + 1, lv, Value.int (A a (nI c).toNatClampNeg) :: st, sx pl kp I A) else none) = _
  rw [if_pos ⟨rfl, kx_in_n hc hn⟩, nI_clamp (by omega)]
theorem rx_bld {a c : Nat} (hd : decode (km_c E) pc = .ok (.baload, 1)) (ho : sx_o o pl kp) (hk : ak L a = 1 ∨ ak L a = 2) (hu : sx_up pl kp a = true) (hc : c < ln L a) (hn : ln L a < 2 ^ 31) : rn (lt_G o L) E pc lv (.int (nI c) :: .ref a :: st) (sx pl kp I A) P ↔ rn (lt_G o L) E (pc + 1) lv (.int (A a c) :: st) (sx pl kp I A) P := by
  refine rn_s hd rfl rfl ?_
  have hl := ak_e (L := L) (a := a) rfl (by rcases hk with h | h <;> omega)
  show (match kg_aw (lt_G o L) (sx pl kp I A) a with | some (t, n, _) => _ | none => none) = _
  rw [sx_aw ho hu hl]
  show (if (ak L a = 1 ∨ ak L a = 2) ∧ kx_in (nI c) (ln L a) = true then some (pc + 1, lv, Value.int (A a (nI c).toNatClampNeg) :: st, sx pl kp I A) else none) = _
  rw [if_pos ⟨hk, kx_in_n hc hn⟩, nI_clamp (by omega)]
theorem rx_ald {a c : Nat} (hd : decode (km_c E) pc = .ok (.aaload, 1)) (ho : sx_o o pl kp) (hk : ak L a = 3) (hu : sx_up pl kp a = true) (hc : c < ln L a) (hn : ln L a < 2 ^ 31) : rn (lt_G o L) E pc lv (.int (nI c) :: .ref a :: st) (sx pl kp I A) P ↔ rn (lt_G o L) E (pc + 1) lv (.ref (ab L a + c) :: st) (sx pl kp I A) P := by
  refine rn_s hd rfl rfl ?_
  have hl := ak_e hk (by decide)
  show (match kg_aw (lt_G o L) (sx pl kp I A) a with | some (t, n, b) => _ | none => none) = _
  rw [sx_aw ho hu hl]
  show (if 3 = 3 ∧ kx_in (nI c) (ln L a) = true then some (pc + 1, lv, Value.ref (ab L a + (nI c).toNatClampNeg) :: st, sx pl kp I A) else none) = _
  rw [if_pos ⟨rfl, kx_in_n hc hn⟩, nI_clamp (by omega)]
theorem rx_ist {a c : Nat} {x : Int32} (hd : decode (km_c E) pc = .ok (.iastore, 1)) (ho : sx_o o pl kp) (hk : ak L a = 0) (hu : sx_up pl kp a = true) (hc : c < ln L a) (hn : ln L a < 2 ^ 31) : rn (lt_G o L) E pc lv (.int x :: .int (nI c) :: .ref a :: st) (sx pl kp I A) P ↔ rn (lt_G o L) E (pc + 1) lv st (sx pl kp I (u2 A a c x)) P := by
  refine rn_s hd rfl rfl ?_
  have hl := ak_e hk (by decide)
  show (match kg_aw (lt_G o L) (sx pl kp I A) a with | some (t, n, _) => _ | none => none) = _
  rw [sx_aw ho hu hl]
  show (if 0 = 0 ∧ kx_in (nI c) (ln L a) = true then some (pc + 1, lv, st, ks_sa (sx pl kp I A) a (nI c).toNatClampNeg x) else none) = _
  rw [if_pos ⟨rfl, kx_in_n hc hn⟩, nI_clamp (by omega), sx_sa]
theorem rx_bst {a c : Nat} {x : Int32} (hd : decode (km_c E) pc = .ok (.bastore, 1)) (ho : sx_o o pl kp) (hk : ak L a = 1 ∨ ak L a = 2) (hu : sx_up pl kp a = true) (hc : c < ln L a) (hn : ln L a < 2 ^ 31) : rn (lt_G o L) E pc lv (.int x :: .int (nI c) :: .ref a :: st) (sx pl kp I A) P ↔ rn (lt_G o L) E (pc + 1) lv st (sx pl kp I (u2 A a c (vp_nar (kx_ty (ak L a)) x))) P := by
  refine rn_s hd rfl rfl ?_
  have hl := ak_e (L := L) (a := a) rfl (by rcases hk with h | h <;> omega)
  show (match kg_aw (lt_G o L) (sx pl kp I A) a with | some (t, n, _) => _ | none => none) = _
  rw [sx_aw ho hu hl]
  show (if (ak L a = 1 ∨ ak L a = 2) ∧ kx_in (nI c) (ln L a) = true then some (pc + 1, lv, st, ks_sa (sx pl kp I A) a (nI c).toNatClampNeg (vp_nar (kx_ty (ak L a)) x)) else none) = _
  rw [if_pos ⟨hk, kx_in_n hc hn⟩, nI_clamp (by omega), sx_sa]
theorem rx_len {a : Nat} (hd : decode (km_c E) pc = .ok (.arraylength, 1)) (ho : sx_o o pl kp) (hk : ak L a = 0) (hu : sx_up pl kp a = true ∨ 1000 ≤ a) : rn (lt_G o L) E pc lv (.ref a :: st) (sx pl kp I A) P ↔ rn (lt_G o L) E (pc + 1) lv (.int (nI (ln L a)) :: st) (sx pl kp I A) P := by
  refine rn_s hd rfl rfl ?_
  have hl := ak_e hk (by decide)
  have ha : kg_ar (lt_G o L) (sx pl kp I A) a = some (0, ln L a, ab L a) := by
    rcases hu with hu | hu
    · exact sx_ar ho hu hl
    · exact sx_aro hu hl
  show (match kg_ar (lt_G o L) (sx pl kp I A) a with | some (t, n, _) => _ | none => none) = _
  rw [ha]
  rfl
theorem rx_st {idx k : Nat} {h : String} (hd : decode (km_c E) pc = .ok (.getstatic idx, 3)) (hf : ks (km_own E) idx = some (h, k)) : rn (lt_G o L) E pc lv st (sx pl kp I A) P ↔ rn (lt_G o L) E (pc + 3) lv (.ref (1000 + k) :: st) (sx pl kp I A) P := by
  refine rn_s hd rfl rfl ?_
  show (match ks (km_own E) idx with | some (_, k) => _ | none => none) = _
  rw [hf]
end SX
theorem fl_i {pl kp : Bool} {I A : Nat → Nat → Int32} {a k : Nat} (h : sx_rf a k = false) : kx_fld (sx pl kp I A) a k 0 = .int (I a k) := congrArg Value.int (sx_int h)
theorem fl_z {pl kp : Bool} {I A : Nat → Nat → Int32} {a k : Nat} (h : sx_rf a k = false) : kx_fld (sx pl kp I A) a k 1 = .int (I a k) := congrArg Value.int (sx_int h)
theorem fl_r {pl kp : Bool} {I A : Nat → Nat → Int32} {a k t : Nat} (h : sx_rf a k = true) (hi : a < 65) (h7 : ¬ (a = 0 ∧ k = 7)) (h8 : ¬ (a = 0 ∧ k = 8)) : kx_fld (sx pl kp I A) a k (t + 2) = .ref t := by
  show (if ks_iv (sx pl kp I A) a k = 0 then Value.null else .ref t) = _
  rw [sx_ref h hi h7 h8]
  rfl
theorem fl_p {kp : Bool} {I A : Nat → Nat → Int32} {a k t : Nat} (h : sx_rf a k = true) (hi : 65 ≤ a) (hj : a < 136) : kx_fld (sx true kp I A) a k (t + 2) = .ref t := by
  show (if ks_iv (sx true kp I A) a k = 0 then Value.null else .ref t) = _
  rw [sx_refP h hi hj]
  rfl
theorem fl_k {pl : Bool} {I A : Nat → Nat → Int32} {a k t : Nat} (h : sx_rf a k = true) (hi : 136 ≤ a) : kx_fld (sx pl true I A) a k (t + 2) = .ref t := by
  show (if ks_iv (sx pl true I A) a k = 0 then Value.null else .ref t) = _
  rw [sx_refK h hi]
  rfl
theorem up_b {pl kp : Bool} {a : Nat} (h : a < 65) : sx_up pl kp a = true := by
  unfold sx_up
  rw [decide_eq_true h]
  rfl
theorem up_p {kp : Bool} {a : Nat} (h : a < 136) : sx_up true kp a = true := by
  unfold sx_up
  rw [decide_eq_true h]
  simp
theorem up_k {pl : Bool} {a : Nat} (h : 136 ≤ a) (h2 : a < 151) : sx_up pl true a = true := by
  unfold sx_up
  rw [decide_eq_true h, decide_eq_true h2]
  simp
theorem ok_v {G : kg_G} {E E' : km_E} {kd k : Nat} {st : List Value} {S : ks_S} (h1 : k = kd) (h2 : km_f E' + 1 ≤ km_f E) (h3 : 8 + (km_L E' + 11) + km_l E' ≤ km_l E) (h4 : km_na kd E' ≤ st.length) (h5 : kx_cat (st.drop (km_na kd E')) ≤ 8) (h6 : kx_len ((st.take (km_na kd E')).reverse) ≤ km_L E') (h7 : kd = 1 ∨ kx_rcv G S (km_own E') ((st.take (km_na kd E')).reverse) = true) : kx_ok G E E' kd k st S = true := by
  unfold kx_ok
  rw [Bool.and_eq_true]
  refine ⟨decide_eq_true ⟨h1, h2, h3, h4, h5, h6⟩, ?_⟩
  rcases h7 with h | h
  · subst h; rfl
  · rw [h, Bool.or_true]
theorem rc_v {o pl kp : Bool} {L : Nat} {I A : Nat → Nat → Int32} {a own : Nat} {tg : List Nat} {vs : List Value} (ho : sx_o o pl kp) (hu : sx_up pl kp a = true) (hl : lt_ly L a = some (.inl (own, tg))) : kx_rcv (lt_G o L) (sx pl kp I A) own (.ref a :: vs) = true := by
  show decide ((kg_ob (lt_G o L) (sx pl kp I A) a).map (fun q => q.1) = some own) = true
  rw [sx_ob ho hu hl]
  simp
