/-! Making objects: rows on raw states. -/
section MK
variable {G : kg_G} {E : km_E} {pc : Nat} {lv : List (Option Value)} {st : List Value} {P : Option Value → ks_S → Prop} {iv av : Nat → Nat → Int32} {n s : Nat}
theorem rk_new {idx ci a : Nat} {tg : List Nat} (hd : decode (km_c E) pc = .ok (.new idx, 3)) (hw : kw (km_own E) idx = some ci) (hi : kg_inv G n = a) (hl : kg_ly G a = some (.inl (ci, tg))) (ha : a < 1000) : rn G E pc lv st (iv, av, n, s) P ↔ rn G E (pc + 3) lv (.ref a :: st) (u1 iv a (fun _ => 0), av, n + 1, s + tg.length) P := by
  refine rn_s hd rfl rfl ?_
  show (match kw (km_own E) idx with | some ci => _ | none => none) = _
  rw [hw]
  show (match kg_ly G (kg_inv G n) with | some (.inl (cj, tg)) => _ | _ => none) = _
  rw [hi, hl]
  show (if ci = ci ∧ a < 1000 then _ else none) = _
  rw [if_pos ⟨rfl, ha⟩]
  rfl
theorem rk_arr {ty : ArrayType} {a len b t : Nat} (hd : decode (km_c E) pc = .ok (.newarray ty, 2)) (hi : kg_inv G n = a) (hl : kg_ly G a = some (.inr (t, len, b))) (ht : t = kx_tag ty ∧ t < 3) (ha : a < 1000) (hlen : len < 100000) : rn G E pc lv (.int (nI len) :: st) (iv, av, n, s) P ↔ rn G E (pc + 2) lv (.ref a :: st) (iv, u1 av a (fun _ => 0), n + 1, s + len) P := by
  refine rn_s hd rfl rfl ?_
  show (match kg_ly G (kg_inv G n) with | some (.inr (t, n, _)) => _ | _ => none) = _
  rw [hi, hl]
  show (if t = kx_tag ty ∧ t < 3 ∧ a < 1000 ∧ ¬ nI len < 0 ∧ (nI len).toNatClampNeg = len ∧ len < 100000 then _ else none) = _
  rw [if_pos ⟨ht.1, ht.2, ha, nI_pos (by omega), nI_clamp (by omega), hlen⟩]
  rfl
theorem rk_obj {idx : Nat} {z : Nat} (hd : decode (km_c E) pc = .ok (.invokespecial idx, 3)) (hc : (km_own E, idx) ∈ kc_obj) (hf : 1 ≤ km_f E ∧ kx_cat st + 12 ≤ km_l E) {S : ks_S} : rn G E pc lv (.ref z :: st) S P ↔ rn G E (pc + 3) lv st S P :=
  rn_on fun run => by
    unfold kr_step
    rw [hd]
    show (if (km_own E, idx) ∈ kc_obj then kr_on run E (kx_ob1 E pc lv (.ref z :: st) S) else _) = _
    rw [if_pos hc]
    show kr_on run E (if 1 ≤ km_f E ∧ kx_cat st + 12 ≤ km_l E then some (pc + 3, lv, st, S) else none) = _
    rw [if_pos hf]
    rfl
/-- an object that stands -/
theorem rk_ob {i ci : Nat} {tg : List Nat} (hl : kg_ly G i = some (.inl (ci, tg))) (h : i < 1000 ∧ kg_pos G i < n) : kg_ob G (iv, av, n, s) i = some (ci, tg) := by
  unfold kg_ob
  rw [hl]
  exact if_pos (decide_eq_true h)
theorem rk_put {idx ci k a g : Nat} {host : String} {tg : List Nat} {v : Value} {S' : ks_S} (hd : decode (km_c E) pc = .ok (.putfield idx, 3)) (hk : kf (km_own E) idx = some (host, ci, k)) (hl : kg_ly G a = some (.inl (ci, tg))) (h : a < 1000 ∧ kg_pos G a < n) (hfin : kx_fin E host ci k = true) (hg : tg[k]? = some g) (hp : kx_put (iv, av, n, s) a k g v = some S') : rn G E pc lv (v :: .ref a :: st) (iv, av, n, s) P ↔ rn G E (pc + 3) lv st S' P := by
  refine rn_s hd rfl rfl ?_
  show (match kf (km_own E) idx with | some (host, ci, k) => _ | none => none) = _
  rw [hk]
  show (match kg_ob G (iv, av, n, s) a with | some (cj, tg) => _ | none => none) = _
  rw [rk_ob hl h]
  show (if ci = ci ∧ kx_fin E host ci k = true then (match tg[k]? with | some g => (match kx_put (iv, av, n, s) a k g v with | some S' => some (pc + 3, lv, st, S') | none => none) | none => none) else none) = _
  rw [if_pos ⟨rfl, hfin⟩, hg]
  show (match kx_put (iv, av, n, s) a k g v with | some S' => some (pc + 3, lv, st, S') | none => none) = _
  rw [hp]
theorem rk_pr {a k t : Nat} : kx_put (iv, av, n, s) a k (t + 2) (.ref t) = some (u2 iv a k 1, av, n, s) := by
  show (if t = t then some (ks_si (iv, av, n, s) a k 1) else none) = _
  rw [if_pos rfl]
  rfl
theorem rk_pi {a k : Nat} {x : Int32} : kx_put (iv, av, n, s) a k 0 (.int x) = some (u2 iv a k x, av, n, s) := rfl
theorem rk_pz {a k : Nat} {x : Int32} (h : x = 0 ∨ x = 1) : kx_put (iv, av, n, s) a k 1 (.int x) = some (u2 iv a k x, av, n, s) := by
  show (if x = 0 ∨ x = 1 then some (ks_si (iv, av, n, s) a k x) else none) = _
  rw [if_pos h]
  rfl
theorem rk_pn {a k t : Nat} : kx_put (iv, av, n, s) a k (t + 2) .null = some (u2 iv a k 0, av, n, s) := rfl
theorem rk_mul {idx a b m y : Nat} (hd : decode (km_c E) pc = .ok (.multianewarray idx 2, 4)) (hi : kg_inv G n = a) (hl : kg_ly G a = some (.inr (3, m, b))) (ha : a < 1000 ∧ b + m ≤ 1000) (hm : (km_own E, idx) ∈ kw_mul) (hmm : m < 100000) (hy : y < 100000) (hr : (List.range m).all (fun j => kg_inv G (n + 1 + j) == b + j && (match kg_ly G (b + j) with | some (.inr (t', n', _)) => t' == 0 && n' == y | _ => false)) = true) : rn G E pc lv (.int (nI y) :: .int (nI m) :: st) (iv, av, n, s) P ↔ rn G E (pc + 4) lv (.ref a :: st) (iv, (fun i => if b ≤ i ∧ i < b + m then fun _ => 0 else av i), n + 1 + m, s + m + m * y) P := by
  have c1 : (nI m).toNatClampNeg = m := nI_clamp (by omega)
  have c2 : (nI y).toNatClampNeg = y := nI_clamp (by omega)
  refine rn_s hd rfl rfl ?_
  show (match kg_ly G (kg_inv G n) with | some (.inr (t, n, b)) => _ | _ => none) = _
  rw [hi, hl]
  show (if 3 = 3 ∧ a < 1000 ∧ b + m ≤ 1000 ∧ (km_own E, idx) ∈ kw_mul ∧ ¬ nI m < 0 ∧ (nI m).toNatClampNeg = m ∧ m < 100000 ∧ ¬ nI y < 0 ∧ (nI y).toNatClampNeg < 100000 ∧ (List.range m).all (fun j => kg_inv G (n + 1 + j) == b + j && (match kg_ly G (b + j) with | some (.inr (t', n', _)) => t' == 0 && n' == (nI y).toNatClampNeg | _ => false)) = true then some (pc + 4, lv, .ref a :: st, (iv, (fun i => if b ≤ i ∧ i < b + m then fun _ => 0 else av i), n + 1 + m, s + m + m * (nI y).toNatClampNeg)) else none) = _
  rw [c2, if_pos ⟨rfl, ha.1, ha.2, hm, nI_pos (by omega), c1, hmm, nI_pos (by omega), hy, hr⟩]
end MK
