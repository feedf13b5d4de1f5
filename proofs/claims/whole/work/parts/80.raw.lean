/-! More rows on raw states. -/
theorem lo_inv {o : Bool} {L a : Nat} (h : a < 65) : kg_inv (lt_G o L) a = a := by
  show lt_inv o a = a
  unfold lt_inv
  cases o
  · rw [if_neg (by decide), if_pos h]
  · rw [if_pos rfl]
theorem lo_pos {o : Bool} {L a n : Nat} (h : a < 65) (h2 : a < n) : a < 1000 ∧ kg_pos (lt_G o L) a < n := by
  refine ⟨by omega, ?_⟩
  show lt_pos o a < n
  unfold lt_pos
  cases o
  · rw [if_neg (by decide), if_pos h]
    exact h2
  · rw [if_pos rfl]
    exact h2
section MQ
variable {G : kg_G} {E : km_E} {pc : Nat} {lv : List (Option Value)} {st : List Value} {P : Option Value → ks_S → Prop} {iv av : Nat → Nat → Int32} {n s : Nat}
theorem rk_ini {idx a own : Nat} {host : String} {E' : km_E} {tg : List Nat} {S' : ks_S} (hd : decode (km_c E) pc = .ok (.invokespecial idx, 3)) (hn : (km_own E, idx) ∉ kc_obj) (ho : kc (km_own E) idx = some (2, host, E')) (h2 : km_f E' + 1 ≤ km_f E) (h3 : 8 + (km_L E' + 11) + km_l E' ≤ km_l E) (hna : km_na 2 E' = 1) (h5 : kx_cat st ≤ 8) (h6 : 1 ≤ km_L E') (hown : km_own E' = own) (hl : kg_ly G a = some (.inl (own, tg))) (h : a < 1000 ∧ kg_pos G a < n) (hc : ev G E' [.ref a] (iv, av, n, s) none S') : rn G E pc lv (.ref a :: st) (iv, av, n, s) P ↔ rn G E (pc + 3) lv st S' P := by
  have hr : kx_rcv G (iv, av, n, s) (km_own E') [.ref a] = true := by
    rw [hown]
    show decide ((kg_ob G (iv, av, n, s) a).map (fun q => q.1) = some own) = true
    rw [rk_ob hl h]
    simp
  have e1 : ((.ref a :: st : List Value).take (km_na 2 E')).reverse = [.ref a] := by rw [hna]; rfl
  have e2 : (.ref a :: st : List Value).drop (km_na 2 E') = st := by rw [hna]; rfl
  exact rn_ci hd hn ho (ok_v rfl h2 h3 (by rw [hna]; exact Nat.le_add_left _ _) (by rw [e2]; exact h5) (by rw [e1]; exact h6) (Or.inr (by rw [e1]; exact hr))) e1 e2 hc
theorem rk_get {idx ci k a t : Nat} {host : String} {tg : List Nat} (hd : decode (km_c E) pc = .ok (.getfield idx, 3)) (hf : kf (km_own E) idx = some (host, ci, k)) (hl : kg_ly G a = some (.inl (ci, tg))) (h : a < 1000 ∧ kg_pos G a < n) (hg : tg[k]? = some (t + 2)) (hv : iv a k = 1) : rn G E pc lv (.ref a :: st) (iv, av, n, s) P ↔ rn G E (pc + 3) lv (.ref t :: st) (iv, av, n, s) P := by
  refine rn_s hd rfl rfl ?_
  show (match kf (km_own E) idx with | some (_, ci, k) => _ | none => none) = _
  rw [hf]
  show (match kg_ob G (iv, av, n, s) a with | some (cj, tg) => _ | none => none) = _
  rw [rk_ob hl h]
  show (if ci = ci then (match tg[k]? with | some g => some (pc + 3, lv, kx_fld (iv, av, n, s) a k g :: st, (iv, av, n, s)) | none => none) else none) = _
  rw [if_pos rfl, hg]
  show some (pc + 3, lv, (if iv a k = 0 then Value.null else Value.ref t) :: st, (iv, av, n, s)) = _
  rw [hv, if_neg (by decide)]
theorem rk_aw {a t len b : Nat} (hl : kg_ly G a = some (.inr (t, len, b))) (h : a < 1000 ∧ kg_pos G a < n) : kg_aw G (iv, av, n, s) a = some (t, len, b) := by
  unfold kg_aw
  rw [hl]
  exact if_pos (decide_eq_true h)
theorem rk_ar {a t len b : Nat} (hl : kg_ly G a = some (.inr (t, len, b))) (h : a < 1000 ∧ kg_pos G a < n) : kg_ar G (iv, av, n, s) a = some (t, len, b) := by
  unfold kg_ar
  rw [hl]
  exact if_pos (Or.inl (decide_eq_true h))
theorem rk_ald {a c len b : Nat} (hd : decode (km_c E) pc = .ok (.aaload, 1)) (hl : kg_ly G a = some (.inr (3, len, b))) (h : a < 1000 ∧ kg_pos G a < n) (hc : c < len) (hn : len < 2 ^ 31) : rn G E pc lv (.int (nI c) :: .ref a :: st) (iv, av, n, s) P ↔ rn G E (pc + 1) lv (.ref (b + c) :: st) (iv, av, n, s) P := by
  refine rn_s hd rfl rfl ?_
  show (match kg_aw G (iv, av, n, s) a with | some (t, n, b) => _ | none => none) = _
  rw [rk_aw hl h]
  show (if 3 = 3 ∧ kx_in (nI c) len = true then some (pc + 1, lv, Value.ref (b + (nI c).toNatClampNeg) :: st, (iv, av, n, s)) else none) = _
  rw [if_pos ⟨rfl, kx_in_n hc hn⟩, nI_clamp (by omega)]
theorem rk_ist {a c len b : Nat} {x : Int32} (hd : decode (km_c E) pc = .ok (.iastore, 1)) (hl : kg_ly G a = some (.inr (0, len, b))) (h : a < 1000 ∧ kg_pos G a < n) (hc : c < len) (hn : len < 2 ^ 31) : rn G E pc lv (.int x :: .int (nI c) :: .ref a :: st) (iv, av, n, s) P ↔ rn G E (pc + 1) lv st (iv, u2 av a c x, n, s) P := by
  refine rn_s hd rfl rfl ?_
  show (match kg_aw G (iv, av, n, s) a with | some (t, n, _) => _ | none => none) = _
  rw [rk_aw hl h]
  show (if 0 = 0 ∧ kx_in (nI c) len = true then some (pc + 1, lv, st, ks_sa (iv, av, n, s) a (nI c).toNatClampNeg x) else none) = _
  rw [if_pos ⟨rfl, kx_in_n hc hn⟩, nI_clamp (by omega)]
  rfl
theorem rk_len {a len b : Nat} (hd : decode (km_c E) pc = .ok (.arraylength, 1)) (hl : kg_ly G a = some (.inr (0, len, b))) (h : a < 1000 ∧ kg_pos G a < n) : rn G E pc lv (.ref a :: st) (iv, av, n, s) P ↔ rn G E (pc + 1) lv (.int (nI len) :: st) (iv, av, n, s) P := by
  refine rn_s hd rfl rfl ?_
  show (match kg_ar G (iv, av, n, s) a with | some (t, n, _) => _ | none => none) = _
  rw [rk_ar hl h]
  rfl
theorem rk_fill {a len b : Nat} {x : Int32} (hl : kg_ly G a = some (.inr (0, len, b))) (h : a < 1000 ∧ kg_pos G a < n) (hn : len < 2 ^ 31) : ev G mm_Arrays_fill [.ref a, .int x] (iv, av, n, s) none (iv, u1 av a (fun j => if j < len then x else av a j), n, s) := by
  refine ev_of ?_
  show rn _ _ 0 [some (.ref a), some (.int x), none, none] [] _ _
  have key : ∀ r k (f : Nat → Int32), k + r = len → (∀ j, f j = if j < k then x else av a j) → rn G mm_Arrays_fill 5 [some (.ref a), some (.int x), some (.int (nI k)), some (.int (nI len))] [] (iv, u1 av a f, n, s) (fun p q => p = none ∧ q = (iv, u1 av a (fun j => if j < len then x else av a j), n, s)) := by
    intro r
    induction r with
    | zero =>
      intro k f hk hf
      have e : k = len := by omega
      subst e
      refine sq_Arrays_fill_5.2 (sq_Arrays_fill_6.2 (sq_Arrays_fill_7.2 ⟨fun _ => sq_Arrays_fill_20.2 ⟨rfl, ?_⟩, fun q => absurd ((nI_leI hn hn).2 (Nat.le_refl _)) q⟩))
      rw [show f = (fun j => if j < k then x else av a j) from funext hf]
    | succ r ih =>
      intro k f hk hf
      refine sq_Arrays_fill_5.2 (sq_Arrays_fill_6.2 (sq_Arrays_fill_7.2 ⟨fun q => absurd ((nI_leI (by omega) (by omega)).1 q) (by omega), fun _ => sq_Arrays_fill_10.2 (sq_Arrays_fill_11.2 (sq_Arrays_fill_12.2 ((rk_ist dq_Arrays_fill_13 hl h (c := k) (by omega) hn).2 (sq_Arrays_fill_14i.2 (sq_Arrays_fill_17.2 ?_)))))⟩))
      rw [nI_add, u2_u1]
      refine ih (k + 1) _ (by omega) (fun j => ?_)
      by_cases e : j = k
      · rw [e, pk_us, if_pos (by omega)]
      · rw [pk_un e, hf j]
        by_cases q : j < k
        · rw [if_pos q, if_pos (by omega)]
        · rw [if_neg q, if_neg (by omega)]
  have k0 := key len 0 (av a) (by omega) (fun j => by rw [if_neg (by omega)])
  rw [u1_id] at k0
  exact sq_Arrays_fill_0.2 (sq_Arrays_fill_1i.2 (sq_Arrays_fill_2.2 ((rk_len dq_Arrays_fill_3 hl h).2 (sq_Arrays_fill_4i.2 k0))))
end MQ
/-! Raw states that are wired. -/
theorem rf_lt {i k : Nat} (h : sx_rf i k = true) : i < 151 ∧ k < 30 := by
  unfold sx_rf at h
  split at h
  next o ho =>
    split at h
    next x hx =>
      have h1 : i < lt_tab.length := (List.getElem?_eq_some_iff.1 ho).1
      have h2 : k < o.2.length := (List.getElem?_eq_some_iff.1 hx).1
      have h3 : lt_tab.all (fun e => match e with | .inl q => decide (q.2.length ≤ 30) | .inr _ => true) = true := by decide +kernel
      have h4 := List.all_eq_true.1 h3 _ (List.mem_of_getElem? ho)
      have h4 : o.2.length ≤ 30 := of_decide_eq_true h4
      have h5 : lt_tab.length = 151 := by decide +kernel
      omega
    next => cases h
  next => cases h
theorem sx_raw {pl kp : Bool} {iv av : Nat → Nat → Int32} {n s : Nat} (h : ∀ i k, sx_rf i k = true → iv i k = sx_iv pl kp (fun _ _ => 0) i k) (hn : n = sx_n pl kp) (hs : s = sx_s pl kp) : (iv, av, n, s) = sx pl kp iv av := by
  subst hn
  subst hs
  unfold sx
  refine Prod.ext ?_ rfl
  funext i k
  show iv i k = sx_iv pl kp iv i k
  cases hr : sx_rf i k with
  | false =>
    unfold sx_iv
    rw [hr]
    rfl
  | true =>
    rw [h i k hr]
    unfold sx_iv
    rw [hr]
    rfl
