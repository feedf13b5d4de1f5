/-! The calls that the pure machine does in one step: System.arraycopy, Math.max, min, abs, Object's constructor. -/
section KR4
variable {p : Program} {l : Launch} {e : Env} {R : Room} {s : State} {m : MethodId} {args : Array Value} {below : List Frame} {meth : Method} {c : Code} {Q : State → Prop} {w : kw_W} {E : km_E} {cells slots pc : Nat} {lv : List (Option Value)} {st : List Value} {S : ks_S} {f : kx_F}
theorem kz_catm {r : List Value} : ((r.map (kv (kz_ad w))).map fun v => v.category).sum = kx_cat r := by
  unfold kx_cat
  rw [List.map_map]
  congr 1
  apply List.map_congr_left
  intro v _
  exact kv_cat _ _
theorem kz_nn (z : Int32) (hz : ¬ z < 0) : z.toInt = (z.toNatClampNeg : Int) := by
  have hz0 : (0 : Int) ≤ z.toInt := by
    have := Int32.not_lt.mp hz
    simpa using Int32.le_iff_toInt_le.mp this
  show z.toInt = ((z.toInt.toNat : Nat) : Int)
  omega
set_option maxHeartbeats 4000000 in
theorem kz_cpy (X : kz_X w p s m args meth c E) (hL : kz_L w) {idx : Nat} (hm : (km_own E, idx) ∈ kc_cpy) (hd : decode (km_c E) pc = .ok (.invokestatic idx, 3)) (hk : kx_cp w.1 (km_f E) (km_l E) pc lv st S = some f) (hRf : R.frames = km_f E) (hRl : R.locals = km_l E) (k : kz_go p l e R s m args below meth c Q w E cells slots f) : kz_go p l e R s m args below meth c Q w E cells slots (pc, lv, st, S) := by
  obtain ⟨hx, hb, hml, hr, hown, hts, ⟨hK, hN, -⟩, -⟩ := id X
  unfold kx_cp at hk
  split at hk
  next n dp a sp a0 r =>
    split at hk
    next t0 n0 b0 ha0 =>
      split at hk
      next t1 n1 b1 ha1 =>
        split at hk
        next hq =>
          obtain ⟨rfl, rfl, h1, h2, h3, h4, h5, h6, h7⟩ := hq
          cases hk
          intro H ls locs hR hlv hloc
          have hc0 : H[kz_ad w a0]? = some (vp_cell (w.2.2.1 0) (n0, .inl (S.2.1 a0))) := kz_atA hR ha0 (by decide)
          have hc1 : H[kz_ad w a]? = some (vp_cell (w.2.2.1 0) (n1, .inl (S.2.1 a))) := kz_atA hR ha1 (by decide)
          obtain ⟨hly, hi, hp⟩ := kg_aw_e ha1
          intro T hT Xs
          obtain ⟨-, k0, hk0, cm0, hkk0⟩ := (hK.2 0 _ rfl).1 n0 (fun j => .int (S.2.1 a0 j))
          obtain ⟨-, k1, hk1, cm1, hkk1⟩ := (hK.2 0 _ rfl).1 n1 (fun j => .int (S.2.1 a j))
          obtain ⟨vm', X', step⟩ := Xs.arraycopy hx hown (hts _ (ka_all _ hm)) (hts _ kz_w4) (hts _ kz_w3) (hts _ kz_w5) (src := kz_ad w a0) (dst := kz_ad w a) (cs := vp_cell (w.2.2.1 0) (n0, .inl (S.2.1 a0))) (cd := vp_cell (w.2.2.1 0) (n1, .inl (S.2.1 a))) (srcPos := sp) (destPos := dp) (n := n) (by rw [hT]; exact hc0) (by rw [hT]; exact hc1)
            (fun _ h => by cases h) (fun _ h => by cases h) (fun h => by cases h) (fun h => by cases h) hk0 hk1 hkk0 hkk1 rfl h1 h2 h3
            (by rw [kz_nn sp h1, kz_nn n h3]; show ¬ _ > ((arrV (w.2.2.1 0) n0 (fun j => .int (S.2.1 a0 j))).slots.size : Int); rw [arrV_size]; omega)
            (by rw [kz_nn dp h2, kz_nn n h3]; show ¬ _ > ((arrV (w.2.2.1 0) n1 (fun j => .int (S.2.1 a j))).slots.size : Int); rw [arrV_size]; omega)
            (fun vm₁ _ i hi => by
              have e : (vp_cell (w.2.2.1 0) (n0, .inl (S.2.1 a0))).slots.getD (sp.toNatClampNeg + i) .null = .int (S.2.1 a0 (sp.toNatClampNeg + i)) := by
                show (arrV (w.2.2.1 0) n0 (fun j => .int (S.2.1 a0 j))).slots.getD _ _ = _
                rw [Array.getD_eq_getD_getElem?, arrV_read _ _ (by omega)]
                rfl
              refine ⟨?_, ?_⟩
              · rw [e]
                rfl
              · rw [e]
                exact trivial)
            (g := F0 m pc ls (List.map (kv (kz_ad w)) (.int n :: .int dp :: .ref a :: .int sp :: .ref a0 :: r))) rfl (by rw [hml]; exact hlv.1) (rest := r.map (kv (kz_ad w))) rfl (by rw [hb]; exact hd) (by rw [hRf]; exact h6) (by rw [kz_catm, hRl]; show 2 * 0 + _ + (5 + 2 + 11) ≤ _; omega)
          have e1 : copied (vp_cell (w.2.2.1 0) (n0, .inl (S.2.1 a0))) (vp_cell (w.2.2.1 0) (n1, .inl (S.2.1 a))) sp dp n = vp_cell (w.2.2.1 0) (n1, .inl (va_cpy (S.2.1 a0) (S.2.1 a) sp.toNatClampNeg dp.toNatClampNeg n.toNatClampNeg)) := va_copied (fun z => .int z) _ _ (S.2.1 a0) (S.2.1 a) h4
          rw [e1] at X' step
          have hl : kz_ad w a < H.size := (Array.getElem?_eq_some_iff.mp hc1).1
          have hheap : ((T.setVm vm').setCell (kz_ad w a) (vp_cell (w.2.2.1 0) (n1, .inl (va_cpy (S.2.1 a0) (S.2.1 a) sp.toNatClampNeg dp.toNatClampNeg n.toNatClampNeg)))).heap = H.setIfInBounds (kz_ad w a) (vp_cell (w.2.2.1 0) (n1, .inl (va_cpy (S.2.1 a0) (S.2.1 a) sp.toNatClampNeg dp.toNatClampNeg n.toNatClampNeg))) := by rw [← hT]; rfl
          have hR2 : kz_R w (ks_row S a (va_cpy (S.2.1 a0) (S.2.1 a) sp.toNatClampNeg dp.toNatClampNeg n.toNatClampNeg)) s (H.setIfInBounds (kz_ad w a) (vp_cell (w.2.2.1 0) (n1, .inl (va_cpy (S.2.1 a0) (S.2.1 a) sp.toNatClampNeg dp.toNatClampNeg n.toNatClampNeg)))) := by
            refine hR.wr hL hi hly rfl (fun i e hne => kz_c_row hne) (fun i hge => ?_) ?_ (by simp) (fun q hq => by simp [Array.getElem?_setIfInBounds, Ne.symm hq])
            · show va_up S.2.1 a _ i = _
              simp [va_up, show i ≠ a by omega]
            · show (H.setIfInBounds (kz_ad w a) _)[kz_ad w a]? = some (vp_cell (w.2.2.1 0) (kz_el w _ a 0 n1 b1))
              rw [kz_el_lt (by decide)]
              simp [Array.getElem?_setIfInBounds, hl, ks_row, va_up]
          obtain ⟨t, a1, b1⟩ := k _ ls _ hR2 hlv (fun q hq => by
            rcases List.mem_append.mp hq with h | h
            · exact hloc q h
            · obtain ⟨z, -, hz⟩ := List.mem_map.mp h
              rw [← hz]
              exact kz_ad_A hi) _ hheap X'
          exact ⟨t, step t a1, b1⟩
        next => cases hk
      next => cases hk
    next => cases hk
  next => cases hk
set_option maxHeartbeats 4000000 in
theorem kz_mm (X : kz_X w p s m args meth c E) {idx v : Nat} (hm : kt (km_own E) idx = some v) (hd : decode (km_c E) pc = .ok (.invokestatic idx, 3)) (hk : kx_mm (km_f E) (km_l E) pc v lv st S = some f) (hRf : R.frames = km_f E) (hRl : R.locals = km_l E) (hc : cells ≤ R.cells) (hs : slots ≤ R.slots) (k : kz_go p l e R s m args below meth c Q w E cells slots f) : kz_go p l e R s m args below meth c Q w E cells slots (pc, lv, st, S) := by
  obtain ⟨hx, hb, hml, hr, hown, hts, ⟨hK, hN, -⟩, -⟩ := id X
  have hlk := kt_e hm
  unfold kx_mm at hk
  split at hk
  · obtain ⟨y, x, rr, rfl, hj⟩ := kx_ii_e hk
    split at hj
    next hq =>
      cases hj
      exact fun H ls locs hR hlv hloc => va_mmax hx hb (hml.trans hlv.1.symm) hown (hts _ hlk) (hts _ kz_m0) (hts _ kz_w6) (hts _ kz_c0) (by rw [hRf]; exact hq.1) (by rw [kz_catm, hRl]; exact hq.2) hc hs hd (k H ls locs hR hlv hloc)
    next => cases hj
  · obtain ⟨y, x, rr, rfl, hj⟩ := kx_ii_e hk
    split at hj
    next hq =>
      cases hj
      exact fun H ls locs hR hlv hloc => va_mmin hx hb (hml.trans hlv.1.symm) hown (hts _ hlk) (hts _ kz_m1) (hts _ kz_w6) (hts _ kz_c1) (by rw [hRf]; exact hq.1) (by rw [kz_catm, hRl]; exact hq.2) hc hs hd (k H ls locs hR hlv hloc)
    next => cases hj
  next h0 h1 =>
    obtain ⟨x, rr, rfl, hj⟩ := kx_i_e hk
    rw [if_neg h0, if_neg h1] at hlk
    split at hj
    next hq =>
      cases hj
      exact fun H ls locs hR hlv hloc => va_mabs hx hb (hml.trans hlv.1.symm) hown (hts _ hlk) (hts _ kz_m2) (hts _ kz_w6) (hts _ kz_c2) (by rw [hRf]; exact hq.1) (by rw [kz_catm, hRl]; exact hq.2) hc hs hd (k H ls locs hR hlv hloc)
    next => cases hj
set_option maxHeartbeats 4000000 in
theorem kz_obj (X : kz_X w p s m args meth c E) {idx : Nat} (hm : (km_own E, idx) ∈ kc_obj) (hd : decode (km_c E) pc = .ok (.invokespecial idx, 3)) (hk : kx_ob1 E pc lv st S = some f) (hRf : R.frames = km_f E) (hRl : R.locals = km_l E) (k : kz_go p l e R s m args below meth c Q w E cells slots f) : kz_go p l e R s m args below meth c Q w E cells slots (pc, lv, st, S) := by
  obtain ⟨hx, hb, hml, hr, hown, hts, ⟨hK, hN, -⟩, -⟩ := id X
  unfold kx_ob1 at hk
  split at hk
  next a r =>
    split at hk
    next hq =>
      cases hk
      exact fun H ls locs hR hlv hloc => W.objInit hx hb hown (hts _ (ko_all _ hm)) (hts _ kz_w1) (hts _ kz_w2) rfl (hlv.1.trans hml.symm) rfl hd (by rw [hRf]; exact hq.1) (by rw [kz_catm, hRl]; show 2 * 0 + _ + 12 ≤ _; omega) (k H ls locs hR hlv hloc)
    next => cases hk
  next => cases hk
end KR4
theorem kx_cp_cnt {G : kg_G} {f l pc : Nat} {lv : List (Option Value)} {st : List Value} {S : ks_S} {g : kx_F} (hk : kx_cp G f l pc lv st S = some g) : g.2.2.2.2.2 = S.2.2 := by
  unfold kx_cp at hk
  split at hk
  · split at hk
    · split at hk
      · split at hk
        · cases hk; rfl
        · cases hk
      · cases hk
    · cases hk
  · cases hk
theorem kx_mm_cnt {f l pc w : Nat} {lv : List (Option Value)} {st : List Value} {S : ks_S} {g : kx_F} (hk : kx_mm f l pc w lv st S = some g) : g.2.2.2.2.2 = S.2.2 := by
  unfold kx_mm at hk
  split at hk
  · obtain ⟨y, x, rr, rfl, hj⟩ := kx_ii_e hk
    split at hj
    · cases hj; rfl
    · cases hj
  · obtain ⟨y, x, rr, rfl, hj⟩ := kx_ii_e hk
    split at hj
    · cases hj; rfl
    · cases hj
  · obtain ⟨x, rr, rfl, hj⟩ := kx_i_e hk
    split at hj
    · cases hj; rfl
    · cases hj
theorem kx_ob1_cnt {E : km_E} {pc : Nat} {lv : List (Option Value)} {st : List Value} {S : ks_S} {g : kx_F} (hk : kx_ob1 E pc lv st S = some g) : g.2.2.2.2.2 = S.2.2 := by
  unfold kx_ob1 at hk
  split at hk
  · split at hk
    · cases hk; rfl
    · cases hk
  · cases hk
