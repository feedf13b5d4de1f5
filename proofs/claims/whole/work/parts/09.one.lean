/-! ONE INSTRUCTION of the pure machine is one of the machine. -/
theorem kz_locs {w : kw_W} {locs : List Loc} {y : Loc} (h : ∀ q ∈ locs, kz_A w q.base) (hy : kz_A w y.base) : ∀ q ∈ locs ++ [y], kz_A w q.base := fun q hq => by
  rcases List.mem_append.mp hq with hq | hq
  · exact h q hq
  · rw [List.mem_singleton.mp hq]; exact hy
theorem kx_put_cnt {S S' : ks_S} {i k g : Nat} {v : Value} (h : kx_put S i k g v = some S') : S'.2 = S.2 := by
  unfold kx_put at h
  split at h
  · split at h
    · cases h; rfl
    · cases h
  · split at h
    · split at h
      · cases h; rfl
      · cases h
    · cases h
  · split at h
    · split at h
      · cases h; rfl
      · cases h
    · cases h; rfl
    · cases h
section KR3
variable {p : Program} {l : Launch} {e : Env} {R : Room} {s : State} {m : MethodId} {args : Array Value} {below : List Frame} {meth : Method} {c : Code} {Q : State → Prop} {w : kw_W} {E : km_E}
set_option maxHeartbeats 4000000 in
theorem kz_mna {cells slots pc : Nat} {S : ks_S} {H : Heap} {locs : List Loc} {ls : Array Slot} {rest : List Value} (X : kz_X w p s m args meth c E) (hL : kz_L w) (hR : kz_R w S s H) (hloc : ∀ q ∈ locs, kz_A w q.base) {idx n b i : Nat} {x y : Int32} (hi : kg_inv w.1 S.2.2.1 = i) (hly : kg_ly w.1 i = some (.inr (3, n, b))) (hi0 : i < 1000) (hb : b + n ≤ 1000) (hm : (km_own E, idx) ∈ kw_mul) (hx0 : ¬ x < 0) (hxn : x.toNatClampNeg = n) (hn : n < 100000) (hy0 : ¬ y < 0) (hyn : y.toNatClampNeg < 100000)
    (hall : (List.range n).all (fun j => kg_inv w.1 (S.2.2.1 + 1 + j) == b + j && (match kg_ly w.1 (b + j) with | some (.inr (t', n', _)) => t' == 0 && n' == y.toNatClampNeg | _ => false)) = true) (hc : cells + (1 + n) ≤ R.cells) (hs : slots + (n + n * y.toNatClampNeg) ≤ R.slots) (hd : decode (km_c E) pc = .ok (.multianewarray idx 2, 4))
    (kk : ∀ (H' : Heap) (locs' : List Loc), (∀ q ∈ locs', kz_A w q.base) → kz_R w (S.1, (fun i => if b ≤ i ∧ i < b + n then fun _ => 0 else S.2.1 i), S.2.2.1 + 1 + n, S.2.2.2 + n + n * y.toNatClampNeg) s H' → W p l e R s m args below meth c H' locs' (cells + 1 + n) (slots + n + n * y.toNatClampNeg) Q (F0 m (pc + 4) ls (.ref (kz_ad w i) :: rest))) : W p l e R s m args below meth c H locs cells slots Q (F0 m pc ls (.int y :: .int x :: rest)) := by
  obtain ⟨hx, hbd, hml, hr, hown, hts, ⟨hK, hN, hov⟩, -⟩ := X
  subst hxn
  generalize hM : y.toNatClampNeg = M at *
  have e0 : "[" ++ (FieldType.array .int).toString = "[[I" := by decide +kernel
  have had := kz_ad_at hL hR hi0 hi
  have hrow : ∀ k, k < x.toNatClampNeg → kg_pos w.1 (b + k) = S.2.2.1 + 1 + k ∧ ∃ b', kg_ly w.1 (b + k) = some (.inr (0, M, b')) := fun k hk => by
    have h1 := List.all_eq_true.mp hall k (List.mem_range.mpr hk)
    rw [Bool.and_eq_true, beq_iff_eq] at h1
    refine ⟨by rw [← h1.1, hL.2.1], ?_⟩
    have h2 := h1.2
    split at h2
    next t' n' b' hq =>
      simp only [Bool.and_eq_true, beq_iff_eq] at h2
      rw [hq, h2.1, h2.2]
      exact ⟨b', rfl⟩
    next => cases h2
  intro T hT Xs
  obtain ⟨vm1, cA, cI, hw, fA, fI, step⟩ := mu_step Xs hx (own := kn (km_own E)) (index := idx) hown (by rw [e0]; exact hts _ (kw_muls _ hm)) hov (hts _ kz_y0) (g := F0 m pc ls (.int y :: .int x :: rest)) rfl (by rw [hbd]; exact hd) (n := x) (y := y) (rest := rest) rfl hx0 hy0 hn (by rw [hM]; exact hyn) hc (by rw [hM]; exact hs)
  rw [hM] at step
  have eA : cA = w.2.2.1 3 := Option.some.inj (fA.symm.trans (hK.2 3 _ rfl).2)
  have eI : cI = w.2.2.1 0 := Option.some.inj (fI.symm.trans (hK.2 0 _ rfl).2)
  subst eA
  subst eI
  obtain ⟨L, hLb, XF⟩ := mu_stand (Xs.noted hw) (w.2.2.1 3) (w.2.2.1 0) x.toNatClampNeg M x.toNatClampNeg
  have hTh : (T.setVm vm1).heap = H := hT
  have hat := mu_at (T.setVm vm1) (w.2.2.1 3) (w.2.2.1 0) x.toNatClampNeg M x.toNatClampNeg
  have hsz := mu_size (T.setVm vm1) (w.2.2.1 3) (w.2.2.1 0) x.toNatClampNeg M x.toNatClampNeg
  rw [hTh] at hat hsz
  generalize hF : mu_T (T.setVm vm1) (w.2.2.1 3) (w.2.2.1 0) x.toNatClampNeg M x.toNatClampNeg = F at *
  have hold : ∀ q, q < H.size → F.heap[q]? = H[q]? := fun q hq => by rw [hat q, if_pos hq]
  have hR2 : kz_R w (S.1, (fun i => if b ≤ i ∧ i < b + x.toNatClampNeg then fun _ => 0 else S.2.1 i), S.2.2.1 + 1 + x.toNatClampNeg, S.2.2.2 + x.toNatClampNeg + x.toNatClampNeg * M) s F.heap := by
    refine ⟨by rw [hsz, hR.1]; show _ = w.2.2.2.1 + (S.2.2.1 + 1 + x.toNatClampNeg); omega, fun j e' hj hl hp => ?_, fun j a hj hl => ?_, fun k hk4 => (hR.2.2.2 k hk4).kept (fun a h _ => hold a h)⟩
    · have hp : kg_pos w.1 j < S.2.2.1 + 1 + x.toNatClampNeg := hp
      rcases Nat.lt_trichotomy (kg_pos w.1 j) S.2.2.1 with q | q | q
      · have hnr : ¬ (b ≤ j ∧ j < b + x.toNatClampNeg) := fun z => by
          have h1 := (hrow (j - b) (by omega)).1
          rw [show b + (j - b) = j by omega] at h1
          omega
        have h1 := (hR.2.1 j e' hj hl q).kept (hold _ (hR.2.1 j e' hj hl q).lt)
        cases e' with
        | inl o => exact h1
        | inr a =>
          have e2 : kz_el w (S.1, (fun i => if b ≤ i ∧ i < b + x.toNatClampNeg then fun _ => 0 else S.2.1 i), S.2.2.1 + 1 + x.toNatClampNeg, S.2.2.2 + x.toNatClampNeg + x.toNatClampNeg * M) j a.1 a.2.1 a.2.2 = kz_el w S j a.1 a.2.1 a.2.2 := by
            unfold kz_el
            simp only [if_neg hnr]
          show va_at w.2.1 vwCl (kz_ad w j, .inl (w.2.2.1 a.1, kz_el w _ j a.1 a.2.1 a.2.2)) F.heap
          rw [e2]
          exact h1
      · have hji : j = i := by rw [← hL.1 j, q, hi]
        subst hji
        cases hly.symm.trans hl
        show F.heap[kz_ad w j]? = some (vp_cell (w.2.2.1 3) (kz_el w _ j 3 x.toNatClampNeg b))
        rw [kz_el_3, had, hat, if_neg (Nat.lt_irrefl _), if_pos rfl, vp_cell_q]
        unfold mu_o
        congr 1
        congr 1
        funext k
        by_cases hk : k < x.toNatClampNeg
        · rw [if_pos hk, if_pos hk, kz_ad_new (by omega), (hrow k hk).1, hR.1]
          congr 2
          omega
        · rw [if_neg hk, if_neg hk]
      · have hk : kg_pos w.1 j - S.2.2.1 - 1 < x.toNatClampNeg := by omega
        obtain ⟨h1, b', h2⟩ := hrow _ hk
        have hjb : j = b + (kg_pos w.1 j - S.2.2.1 - 1) := by
          have h3 : kg_pos w.1 (b + (kg_pos w.1 j - S.2.2.1 - 1)) = kg_pos w.1 j := by rw [h1]; omega
          rw [← hL.1 j, ← h3, hL.1]
          rw [h3]
        rw [← hjb] at h2
        cases h2.symm.trans hl
        show F.heap[kz_ad w j]? = some (vp_cell (w.2.2.1 0) (kz_el w _ j 0 M b'))
        rw [kz_el_lt (by decide), kz_ad_new hj, hat, if_neg (by rw [hR.1]; omega), if_neg (by rw [hR.1]; omega), if_pos (by rw [hR.1]; omega), vp_cell_i]
        have hin : b ≤ j ∧ j < b + x.toNatClampNeg := by omega
        simp only [if_pos hin]
        rfl
    · obtain ⟨h1, h2⟩ := hR.2.2.1 j a hj hl
      refine ⟨h1, ?_⟩
      have hnr : ¬ (b ≤ j ∧ j < b + x.toNatClampNeg) := by omega
      simp only [if_neg hnr]
      exact h2.kept (fun a h _ => hold a h)
  obtain ⟨t, a1, b1⟩ := kk F.heap (locs ++ L) (fun q hq => by
    rcases List.mem_append.mp hq with z | z
    · exact hloc q z
    · rw [hLb q z, hTh, ← had]
      exact kz_ad_A hi0) hR2 F rfl XF
  refine ⟨t, step t ?_, b1⟩
  rw [hT, ← had]
  exact a1
set_option maxHeartbeats 8000000 in
set_option maxRecDepth 100000 in
theorem kx_snd (X : kz_X w p s m args meth c E) (hL : kz_L w) {i : Instr} {len pc cells slots : Nat} {lv : List (Option Value)} {st : List Value} {S : ks_S} {f : kx_F} (hd : decode (km_c E) pc = .ok (i, len)) (hlen : len = ki_len i len) (hk : kx w.1 E i len pc lv st S = some f)
    (hc : cells + (f.2.2.2.2.2.1 - S.2.2.1) ≤ R.cells) (hs : slots + (f.2.2.2.2.2.2 - S.2.2.2) ≤ R.slots) (k : kz_go p l e R s m args below meth c Q w E (cells + (f.2.2.2.2.2.1 - S.2.2.1)) (slots + (f.2.2.2.2.2.2 - S.2.2.2)) f) : kz_go p l e R s m args below meth c Q w E cells slots (pc, lv, st, S) := by
  cases i with
  | iconst n =>
    have hl : len = 1 := hlen
    subst hl
    cases hk
    simp only [Nat.sub_self, Nat.add_zero] at k
    exact fun H ls locs hR hlv hloc => lv_iconst X.1 X.2.1 hd rfl (k H ls locs hR hlv hloc)
  | bipush n =>
    have hl : len = 2 := hlen
    subst hl
    cases hk
    simp only [Nat.sub_self, Nat.add_zero] at k
    exact fun H ls locs hR hlv hloc => lv_bipush X.1 X.2.1 hd rfl (k H ls locs hR hlv hloc)
  | sipush n =>
    have hl : len = 3 := hlen
    subst hl
    cases hk
    simp only [Nat.sub_self, Nat.add_zero] at k
    exact fun H ls locs hR hlv hloc => lv_sipush X.1 X.2.1 hd rfl (k H ls locs hR hlv hloc)
  | lconst n =>
    have hl : len = 1 := hlen
    subst hl
    cases hk
    simp only [Nat.sub_self, Nat.add_zero] at k
    exact fun H ls locs hR hlv hloc => lv_lconst X.1 X.2.1 hd rfl (k H ls locs hR hlv hloc)
  | aconst_null =>
    have hl : len = 1 := hlen
    subst hl
    cases hk
    simp only [Nat.sub_self, Nat.add_zero] at k
    exact fun H ls locs hR hlv hloc => lv_null X.1 X.2.1 hd (k H ls locs hR hlv hloc)
  | ldc idx =>
    have hl : len = 2 := hlen
    subst hl
    have hk2 : (match kq (km_own E) idx with | some v => _ | none => none) = some f := hk
    split at hk2
    next v hv =>
      cases hk2
      simp only [Nat.sub_self, Nat.add_zero] at k
      exact fun H ls locs hR hlv hloc => lv_ldc X.1 X.2.1 X.2.2.2.2.1 (X.2.2.2.2.2.1 _ (kq_e hv)) hd (k H ls locs hR hlv hloc)
    next => cases hk2
  | ldc_w idx =>
    have hl : len = 3 := hlen
    subst hl
    have hk2 : (match kq (km_own E) idx with | some v => _ | none => none) = some f := hk
    split at hk2
    next v hv =>
      cases hk2
      simp only [Nat.sub_self, Nat.add_zero] at k
      exact fun H ls locs hR hlv hloc => lv_ldcw X.1 X.2.1 X.2.2.2.2.1 (X.2.2.2.2.2.1 _ (kq_e hv)) hd (k H ls locs hR hlv hloc)
    next => cases hk2
  | ldc2_w idx =>
    have hl : len = 3 := hlen
    subst hl
    have hk2 : (match kl (km_own E) idx with | some v => _ | none => none) = some f := hk
    split at hk2
    next v hv =>
      cases hk2
      simp only [Nat.sub_self, Nat.add_zero] at k
      exact fun H ls locs hR hlv hloc => lv_ldc2 X.1 X.2.1 X.2.2.2.2.1 (X.2.2.2.2.2.1 _ (kl_e hv)) hd (k H ls locs hR hlv hloc)
    next => cases hk2
  | iload_n kk =>
    have hl : len = 1 := hlen
    subst hl
    obtain ⟨x, hm, hk⟩ := kx_ldi_e hk
    cases hk
    simp only [Nat.sub_self, Nat.add_zero] at k
    exact fun H ls locs hR hlv hloc => lv_iload_n X.1 X.2.1 hd rfl (kz_ld hlv hm) (k H ls locs hR hlv hloc)
  | iload kk =>
    have hl : len = 2 := hlen
    subst hl
    obtain ⟨x, hm, hk⟩ := kx_ldi_e hk
    cases hk
    simp only [Nat.sub_self, Nat.add_zero] at k
    exact fun H ls locs hR hlv hloc => lv_iload X.1 X.2.1 hd (kz_ld hlv hm) (k H ls locs hR hlv hloc)
  | lload_n kk =>
    have hl : len = 1 := hlen
    subst hl
    obtain ⟨x, hm, hk⟩ := kx_ldl_e hk
    cases hk
    simp only [Nat.sub_self, Nat.add_zero] at k
    exact fun H ls locs hR hlv hloc => lv_lload_n X.1 X.2.1 hd rfl (kz_ld hlv hm) (k H ls locs hR hlv hloc)
  | lload kk =>
    have hl : len = 2 := hlen
    subst hl
    obtain ⟨x, hm, hk⟩ := kx_ldl_e hk
    cases hk
    simp only [Nat.sub_self, Nat.add_zero] at k
    exact fun H ls locs hR hlv hloc => lv_lload X.1 X.2.1 hd (kz_ld hlv hm) (k H ls locs hR hlv hloc)
  | aload_n kk =>
    have hl : len = 1 := hlen
    subst hl
    obtain ⟨x, hm, hk⟩ := kx_lda_e hk
    cases hk
    simp only [Nat.sub_self, Nat.add_zero] at k
    exact fun H ls locs hR hlv hloc => lv_aload_n X.1 X.2.1 hd rfl (kz_ld hlv hm) (k H ls locs hR hlv hloc)
  | aload kk =>
    have hl : len = 2 := hlen
    subst hl
    obtain ⟨x, hm, hk⟩ := kx_lda_e hk
    cases hk
    simp only [Nat.sub_self, Nat.add_zero] at k
    exact fun H ls locs hR hlv hloc => lv_aload X.1 X.2.1 hd (kz_ld hlv hm) (k H ls locs hR hlv hloc)
  | istore_n kk =>
    have hl : len = 1 := hlen
    subst hl
    obtain ⟨x, rr, rfl, hj⟩ := kx_i_e hk
    clear hk
    have hk := hj
    clear hj
    split at hk
    next hn =>
      cases hk
      simp only [Nat.sub_self, Nat.add_zero] at k
      exact fun H ls locs hR hlv hloc => lv_istore_n X.1 X.2.1 hd rfl hlv hn rfl (fun ls2 hlv2 => k H ls2 locs hR (kz_sub hlv2 (kz_st1 (v := .int x))) hloc)
    next => cases hk
  | istore kk =>
    have hl : len = 2 := hlen
    subst hl
    obtain ⟨x, rr, rfl, hj⟩ := kx_i_e hk
    clear hk
    have hk := hj
    clear hj
    split at hk
    next hn =>
      cases hk
      simp only [Nat.sub_self, Nat.add_zero] at k
      exact fun H ls locs hR hlv hloc => lv_istore X.1 X.2.1 hd hlv hn rfl (fun ls2 hlv2 => k H ls2 locs hR (kz_sub hlv2 (kz_st1 (v := .int x))) hloc)
    next => cases hk
  | lstore_n kk =>
    have hl : len = 1 := hlen
    subst hl
    obtain ⟨x, rr, rfl, hj⟩ := kx_l_e hk
    clear hk
    have hk := hj
    clear hj
    split at hk
    next hn =>
      cases hk
      simp only [Nat.sub_self, Nat.add_zero] at k
      exact fun H ls locs hR hlv hloc => lv_lstore_n X.1 X.2.1 hd rfl hlv hn rfl (fun ls2 hlv2 => k H ls2 locs hR (kz_sub hlv2 (kz_st2 (v := .long x))) hloc)
    next => cases hk
  | lstore kk =>
    have hl : len = 2 := hlen
    subst hl
    obtain ⟨x, rr, rfl, hj⟩ := kx_l_e hk
    clear hk
    have hk := hj
    clear hj
    split at hk
    next hn =>
      cases hk
      simp only [Nat.sub_self, Nat.add_zero] at k
      exact fun H ls locs hR hlv hloc => lv_lstore X.1 X.2.1 hd hlv hn rfl (fun ls2 hlv2 => k H ls2 locs hR (kz_sub hlv2 (kz_st2 (v := .long x))) hloc)
    next => cases hk
  | astore_n kk =>
    have hl : len = 1 := hlen
    subst hl
    obtain ⟨x, rr, rfl, hj⟩ := kx_a_e hk
    clear hk
    have hk := hj
    clear hj
    split at hk
    next hn =>
      cases hk
      simp only [Nat.sub_self, Nat.add_zero] at k
      exact fun H ls locs hR hlv hloc => lv_astore_n X.1 X.2.1 hd rfl hlv hn rfl (fun ls2 hlv2 => k H ls2 locs hR (kz_sub hlv2 (kz_st1 (v := .ref x))) hloc)
    next => cases hk
  | astore kk =>
    have hl : len = 2 := hlen
    subst hl
    obtain ⟨x, rr, rfl, hj⟩ := kx_a_e hk
    clear hk
    have hk := hj
    clear hj
    split at hk
    next hn =>
      cases hk
      simp only [Nat.sub_self, Nat.add_zero] at k
      exact fun H ls locs hR hlv hloc => lv_astore X.1 X.2.1 hd hlv hn rfl (fun ls2 hlv2 => k H ls2 locs hR (kz_sub hlv2 (kz_st1 (v := .ref x))) hloc)
    next => cases hk
  | iinc kk n =>
    obtain ⟨x, hm, hj⟩ := kx_ldi_e hk
    clear hk
    have hk := hj
    clear hj
    split at hk
    next hn =>
      split at hk
      next h3 =>
        subst h3
        cases hk
        simp only [Nat.sub_self, Nat.add_zero] at k
        refine fun H ls locs hR hlv hloc => ?_
        obtain ⟨q, hq⟩ := List.getElem?_of_mem (kz_mem_lv (w := w) hm)
        exact lv_iinc X.1 X.2.1 hd hlv hq rfl hn rfl (fun ls2 hlv2 => k H ls2 locs hR (kz_sub hlv2 (kz_st1 (v := .int (x + Int32.ofInt n)))) hloc)
      next h3 =>
        split at hk
        next h6 =>
          subst h6
          cases hk
          simp only [Nat.sub_self, Nat.add_zero] at k
          refine fun H ls locs hR hlv hloc => ?_
          obtain ⟨q, hq⟩ := List.getElem?_of_mem (kz_mem_lv (w := w) hm)
          exact lv_iincW X.1 X.2.1 hd hlv hq rfl hn rfl (fun ls2 hlv2 => k H ls2 locs hR (kz_sub hlv2 (kz_st1 (v := .int (x + Int32.ofInt n)))) hloc)
        next => cases hk
    next => cases hk
  | iadd =>
    have hl : len = 1 := hlen
    subst hl
    obtain ⟨y, x, rr, rfl, hj⟩ := kx_ii_e hk
    clear hk
    have hk := hj
    clear hj
    cases hk
    simp only [Nat.sub_self, Nat.add_zero] at k
    exact fun H ls locs hR hlv hloc => lv_iadd X.1 X.2.1 hd (k H ls locs hR hlv hloc)
  | isub =>
    have hl : len = 1 := hlen
    subst hl
    obtain ⟨y, x, rr, rfl, hj⟩ := kx_ii_e hk
    clear hk
    have hk := hj
    clear hj
    cases hk
    simp only [Nat.sub_self, Nat.add_zero] at k
    exact fun H ls locs hR hlv hloc => lv_isub X.1 X.2.1 hd (k H ls locs hR hlv hloc)
  | imul =>
    have hl : len = 1 := hlen
    subst hl
    obtain ⟨y, x, rr, rfl, hj⟩ := kx_ii_e hk
    clear hk
    have hk := hj
    clear hj
    cases hk
    simp only [Nat.sub_self, Nat.add_zero] at k
    exact fun H ls locs hR hlv hloc => lv_imul X.1 X.2.1 hd (k H ls locs hR hlv hloc)
  | iand =>
    have hl : len = 1 := hlen
    subst hl
    obtain ⟨y, x, rr, rfl, hj⟩ := kx_ii_e hk
    clear hk
    have hk := hj
    clear hj
    cases hk
    simp only [Nat.sub_self, Nat.add_zero] at k
    exact fun H ls locs hR hlv hloc => lv_iand X.1 X.2.1 hd (k H ls locs hR hlv hloc)
  | ior =>
    have hl : len = 1 := hlen
    subst hl
    obtain ⟨y, x, rr, rfl, hj⟩ := kx_ii_e hk
    clear hk
    have hk := hj
    clear hj
    cases hk
    simp only [Nat.sub_self, Nat.add_zero] at k
    exact fun H ls locs hR hlv hloc => lv_ior X.1 X.2.1 hd (k H ls locs hR hlv hloc)
  | ixor =>
    have hl : len = 1 := hlen
    subst hl
    obtain ⟨y, x, rr, rfl, hj⟩ := kx_ii_e hk
    clear hk
    have hk := hj
    clear hj
    cases hk
    simp only [Nat.sub_self, Nat.add_zero] at k
    exact fun H ls locs hR hlv hloc => lv_ixor X.1 X.2.1 hd (k H ls locs hR hlv hloc)
  | ishl =>
    have hl : len = 1 := hlen
    subst hl
    obtain ⟨y, x, rr, rfl, hj⟩ := kx_ii_e hk
    clear hk
    have hk := hj
    clear hj
    cases hk
    simp only [Nat.sub_self, Nat.add_zero] at k
    exact fun H ls locs hR hlv hloc => lv_ishl X.1 X.2.1 hd (k H ls locs hR hlv hloc)
  | ishr =>
    have hl : len = 1 := hlen
    subst hl
    obtain ⟨y, x, rr, rfl, hj⟩ := kx_ii_e hk
    clear hk
    have hk := hj
    clear hj
    cases hk
    simp only [Nat.sub_self, Nat.add_zero] at k
    exact fun H ls locs hR hlv hloc => lv_ishr X.1 X.2.1 hd (k H ls locs hR hlv hloc)
  | iushr =>
    have hl : len = 1 := hlen
    subst hl
    obtain ⟨y, x, rr, rfl, hj⟩ := kx_ii_e hk
    clear hk
    have hk := hj
    clear hj
    cases hk
    simp only [Nat.sub_self, Nat.add_zero] at k
    exact fun H ls locs hR hlv hloc => lv_iushr X.1 X.2.1 hd rfl (k H ls locs hR hlv hloc)
  | idiv =>
    have hl : len = 1 := hlen
    subst hl
    obtain ⟨y, x, rr, rfl, hj⟩ := kx_ii_e hk
    clear hk
    have hk := hj
    clear hj
    split at hk
    next => cases hk
    next hne =>
      cases hk
      simp only [Nat.sub_self, Nat.add_zero] at k
      exact fun H ls locs hR hlv hloc => lv_idiv X.1 X.2.1 hd hne (k H ls locs hR hlv hloc)
  | irem =>
    have hl : len = 1 := hlen
    subst hl
    obtain ⟨y, x, rr, rfl, hj⟩ := kx_ii_e hk
    clear hk
    have hk := hj
    clear hj
    split at hk
    next => cases hk
    next hne =>
      cases hk
      simp only [Nat.sub_self, Nat.add_zero] at k
      exact fun H ls locs hR hlv hloc => lv_irem X.1 X.2.1 hd hne (k H ls locs hR hlv hloc)
  | ineg =>
    have hl : len = 1 := hlen
    subst hl
    obtain ⟨x, rr, rfl, hj⟩ := kx_i_e hk
    clear hk
    have hk := hj
    clear hj
    cases hk
    simp only [Nat.sub_self, Nat.add_zero] at k
    exact fun H ls locs hR hlv hloc => lv_ineg X.1 X.2.1 hd (k H ls locs hR hlv hloc)
  | ladd =>
    have hl : len = 1 := hlen
    subst hl
    obtain ⟨y, x, rr, rfl, hj⟩ := kx_ll_e hk
    clear hk
    have hk := hj
    clear hj
    cases hk
    simp only [Nat.sub_self, Nat.add_zero] at k
    exact fun H ls locs hR hlv hloc => lv_ladd X.1 X.2.1 hd (k H ls locs hR hlv hloc)
  | lsub =>
    have hl : len = 1 := hlen
    subst hl
    obtain ⟨y, x, rr, rfl, hj⟩ := kx_ll_e hk
    clear hk
    have hk := hj
    clear hj
    cases hk
    simp only [Nat.sub_self, Nat.add_zero] at k
    exact fun H ls locs hR hlv hloc => lv_lsub X.1 X.2.1 hd (k H ls locs hR hlv hloc)
  | lmul =>
    have hl : len = 1 := hlen
    subst hl
    obtain ⟨y, x, rr, rfl, hj⟩ := kx_ll_e hk
    clear hk
    have hk := hj
    clear hj
    cases hk
    simp only [Nat.sub_self, Nat.add_zero] at k
    exact fun H ls locs hR hlv hloc => lv_lmul X.1 X.2.1 hd (k H ls locs hR hlv hloc)
  | land =>
    have hl : len = 1 := hlen
    subst hl
    obtain ⟨y, x, rr, rfl, hj⟩ := kx_ll_e hk
    clear hk
    have hk := hj
    clear hj
    cases hk
    simp only [Nat.sub_self, Nat.add_zero] at k
    exact fun H ls locs hR hlv hloc => lv_land X.1 X.2.1 hd (k H ls locs hR hlv hloc)
  | lor =>
    have hl : len = 1 := hlen
    subst hl
    obtain ⟨y, x, rr, rfl, hj⟩ := kx_ll_e hk
    clear hk
    have hk := hj
    clear hj
    cases hk
    simp only [Nat.sub_self, Nat.add_zero] at k
    exact fun H ls locs hR hlv hloc => lv_lor X.1 X.2.1 hd (k H ls locs hR hlv hloc)
  | ldiv =>
    have hl : len = 1 := hlen
    subst hl
    obtain ⟨y, x, rr, rfl, hj⟩ := kx_ll_e hk
    clear hk
    have hk := hj
    clear hj
    split at hk
    next => cases hk
    next hne =>
      cases hk
      simp only [Nat.sub_self, Nat.add_zero] at k
      exact fun H ls locs hR hlv hloc => lv_ldiv X.1 X.2.1 hd hne (k H ls locs hR hlv hloc)
  | lrem =>
    have hl : len = 1 := hlen
    subst hl
    obtain ⟨y, x, rr, rfl, hj⟩ := kx_ll_e hk
    clear hk
    have hk := hj
    clear hj
    split at hk
    next => cases hk
    next hne =>
      cases hk
      simp only [Nat.sub_self, Nat.add_zero] at k
      exact fun H ls locs hR hlv hloc => lv_lrem X.1 X.2.1 hd hne (k H ls locs hR hlv hloc)
  | lshl =>
    have hl : len = 1 := hlen
    subst hl
    obtain ⟨y, x, rr, rfl, hj⟩ := kx_li_e hk
    clear hk
    have hk := hj
    clear hj
    cases hk
    simp only [Nat.sub_self, Nat.add_zero] at k
    exact fun H ls locs hR hlv hloc => lv_lshl X.1 X.2.1 hd rfl (k H ls locs hR hlv hloc)
  | lshr =>
    have hl : len = 1 := hlen
    subst hl
    obtain ⟨y, x, rr, rfl, hj⟩ := kx_li_e hk
    clear hk
    have hk := hj
    clear hj
    cases hk
    simp only [Nat.sub_self, Nat.add_zero] at k
    exact fun H ls locs hR hlv hloc => lv_lshr X.1 X.2.1 hd rfl (k H ls locs hR hlv hloc)
  | lcmp =>
    have hl : len = 1 := hlen
    subst hl
    obtain ⟨y, x, rr, rfl, hj⟩ := kx_ll_e hk
    clear hk
    have hk := hj
    clear hj
    cases hk
    simp only [Nat.sub_self, Nat.add_zero] at k
    exact fun H ls locs hR hlv hloc => W.lcmp X.1 X.2.1 hd (k H ls locs hR hlv hloc)
  | i2l =>
    have hl : len = 1 := hlen
    subst hl
    obtain ⟨x, rr, rfl, hj⟩ := kx_i_e hk
    clear hk
    have hk := hj
    clear hj
    cases hk
    simp only [Nat.sub_self, Nat.add_zero] at k
    exact fun H ls locs hR hlv hloc => lv_i2l X.1 X.2.1 hd rfl (k H ls locs hR hlv hloc)
  | l2i =>
    have hl : len = 1 := hlen
    subst hl
    obtain ⟨x, rr, rfl, hj⟩ := kx_l_e hk
    clear hk
    have hk := hj
    clear hj
    cases hk
    simp only [Nat.sub_self, Nat.add_zero] at k
    exact fun H ls locs hR hlv hloc => lv_l2i X.1 X.2.1 hd rfl (k H ls locs hR hlv hloc)
  | i2b =>
    have hl : len = 1 := hlen
    subst hl
    obtain ⟨x, rr, rfl, hj⟩ := kx_i_e hk
    clear hk
    have hk := hj
    clear hj
    cases hk
    simp only [Nat.sub_self, Nat.add_zero] at k
    exact fun H ls locs hR hlv hloc => lv_i2b X.1 X.2.1 hd rfl (k H ls locs hR hlv hloc)
  | i2s =>
    have hl : len = 1 := hlen
    subst hl
    obtain ⟨x, rr, rfl, hj⟩ := kx_i_e hk
    clear hk
    have hk := hj
    clear hj
    cases hk
    simp only [Nat.sub_self, Nat.add_zero] at k
    exact fun H ls locs hR hlv hloc => lv_i2s X.1 X.2.1 hd rfl (k H ls locs hR hlv hloc)
  | dup =>
    have hl : len = 1 := hlen
    subst hl
    obtain ⟨v, rr, rfl, hj⟩ := kx_v_e hk
    clear hk
    have hk := hj
    clear hj
    split at hk
    next hv =>
      cases hk
      simp only [Nat.sub_self, Nat.add_zero] at k
      exact fun H ls locs hR hlv hloc => lv_dup X.1 X.2.1 hd ((kv_cat _ _).trans hv) (k H ls locs hR hlv hloc)
    next => cases hk
  | pop =>
    have hl : len = 1 := hlen
    subst hl
    obtain ⟨v, rr, rfl, hj⟩ := kx_v_e hk
    clear hk
    have hk := hj
    clear hj
    split at hk
    next hv =>
      cases hk
      simp only [Nat.sub_self, Nat.add_zero] at k
      exact fun H ls locs hR hlv hloc => lv_pop X.1 X.2.1 hd ((kv_cat _ _).trans hv) (k H ls locs hR hlv hloc)
    next => cases hk
  | dup2 =>
    have hl : len = 1 := hlen
    subst hl
    obtain ⟨v, rr, rfl, hj⟩ := kx_v_e hk
    clear hk
    have hk := hj
    clear hj
    obtain ⟨v2, rr, rfl, hj⟩ := kx_v_e hk
    clear hk
    have hk := hj
    clear hj
    split at hk
    next hv =>
      cases hk
      simp only [Nat.sub_self, Nat.add_zero] at k
      exact fun H ls locs hR hlv hloc => lv_dup2_11 X.1 X.2.1 hd ((kv_cat _ _).trans hv.1) ((kv_cat _ _).trans hv.2) (k H ls locs hR hlv hloc)
    next => cases hk
  | ifCond cd off =>
    have hl : len = 3 := hlen
    subst hl
    cases cd with
    | eq =>
      obtain ⟨x, rr, rfl, hj⟩ := kx_i_e hk
      clear hk
      have hk := hj
      clear hj
      obtain ⟨t, ht, hk | hk⟩ := kx_to_e hk
      · obtain ⟨hcc, rfl⟩ := hk
        simp only [Nat.sub_self, Nat.add_zero] at k
        exact fun H ls locs hR hlv hloc => lv_if_eq X.1 X.2.1 hd ht (fun h => by first | exact k H ls locs hR hlv hloc | exact absurd hcc h | exact absurd h hcc) (fun h => by first | exact absurd hcc h | exact absurd h hcc)
      · obtain ⟨hcc, rfl⟩ := hk
        simp only [Nat.sub_self, Nat.add_zero] at k
        exact fun H ls locs hR hlv hloc => lv_if_eq X.1 X.2.1 hd ht (fun h => by first | exact absurd hcc h | exact absurd h hcc) (fun h => k H ls locs hR hlv hloc)
    | ne =>
      obtain ⟨x, rr, rfl, hj⟩ := kx_i_e hk
      clear hk
      have hk := hj
      clear hj
      obtain ⟨t, ht, hk | hk⟩ := kx_to_e hk
      · obtain ⟨hcc, rfl⟩ := hk
        simp only [Nat.sub_self, Nat.add_zero] at k
        exact fun H ls locs hR hlv hloc => lv_if_ne X.1 X.2.1 hd ht (fun h => by first | exact k H ls locs hR hlv hloc | exact absurd hcc h | exact absurd h hcc) (fun h => by first | exact absurd hcc h | exact absurd h hcc)
      · obtain ⟨hcc, rfl⟩ := hk
        simp only [Nat.sub_self, Nat.add_zero] at k
        exact fun H ls locs hR hlv hloc => lv_if_ne X.1 X.2.1 hd ht (fun h => by first | exact absurd hcc h | exact absurd h hcc) (fun h => k H ls locs hR hlv hloc)
    | lt =>
      obtain ⟨x, rr, rfl, hj⟩ := kx_i_e hk
      clear hk
      have hk := hj
      clear hj
      obtain ⟨t, ht, hk | hk⟩ := kx_to_e hk
      · obtain ⟨hcc, rfl⟩ := hk
        simp only [Nat.sub_self, Nat.add_zero] at k
        exact fun H ls locs hR hlv hloc => lv_if_lt X.1 X.2.1 hd ht (fun h => by first | exact k H ls locs hR hlv hloc | exact absurd hcc h | exact absurd h hcc) (fun h => by first | exact absurd hcc h | exact absurd h hcc)
      · obtain ⟨hcc, rfl⟩ := hk
        simp only [Nat.sub_self, Nat.add_zero] at k
        exact fun H ls locs hR hlv hloc => lv_if_lt X.1 X.2.1 hd ht (fun h => by first | exact absurd hcc h | exact absurd h hcc) (fun h => k H ls locs hR hlv hloc)
    | ge =>
      obtain ⟨x, rr, rfl, hj⟩ := kx_i_e hk
      clear hk
      have hk := hj
      clear hj
      obtain ⟨t, ht, hk | hk⟩ := kx_to_e hk
      · obtain ⟨hcc, rfl⟩ := hk
        simp only [Nat.sub_self, Nat.add_zero] at k
        exact fun H ls locs hR hlv hloc => lv_if_ge X.1 X.2.1 hd ht (fun h => by first | exact k H ls locs hR hlv hloc | exact absurd hcc h | exact absurd h hcc) (fun h => by first | exact absurd hcc h | exact absurd h hcc)
      · obtain ⟨hcc, rfl⟩ := hk
        simp only [Nat.sub_self, Nat.add_zero] at k
        exact fun H ls locs hR hlv hloc => lv_if_ge X.1 X.2.1 hd ht (fun h => by first | exact absurd hcc h | exact absurd h hcc) (fun h => k H ls locs hR hlv hloc)
    | gt =>
      obtain ⟨x, rr, rfl, hj⟩ := kx_i_e hk
      clear hk
      have hk := hj
      clear hj
      obtain ⟨t, ht, hk | hk⟩ := kx_to_e hk
      · obtain ⟨hcc, rfl⟩ := hk
        simp only [Nat.sub_self, Nat.add_zero] at k
        exact fun H ls locs hR hlv hloc => lv_if_gt X.1 X.2.1 hd ht (fun h => by first | exact k H ls locs hR hlv hloc | exact absurd hcc h | exact absurd h hcc) (fun h => by first | exact absurd hcc h | exact absurd h hcc)
      · obtain ⟨hcc, rfl⟩ := hk
        simp only [Nat.sub_self, Nat.add_zero] at k
        exact fun H ls locs hR hlv hloc => lv_if_gt X.1 X.2.1 hd ht (fun h => by first | exact absurd hcc h | exact absurd h hcc) (fun h => k H ls locs hR hlv hloc)
    | le =>
      obtain ⟨x, rr, rfl, hj⟩ := kx_i_e hk
      clear hk
      have hk := hj
      clear hj
      obtain ⟨t, ht, hk | hk⟩ := kx_to_e hk
      · obtain ⟨hcc, rfl⟩ := hk
        simp only [Nat.sub_self, Nat.add_zero] at k
        exact fun H ls locs hR hlv hloc => lv_if_le X.1 X.2.1 hd ht (fun h => by first | exact k H ls locs hR hlv hloc | exact absurd hcc h | exact absurd h hcc) (fun h => by first | exact absurd hcc h | exact absurd h hcc)
      · obtain ⟨hcc, rfl⟩ := hk
        simp only [Nat.sub_self, Nat.add_zero] at k
        exact fun H ls locs hR hlv hloc => lv_if_le X.1 X.2.1 hd ht (fun h => by first | exact absurd hcc h | exact absurd h hcc) (fun h => k H ls locs hR hlv hloc)
  | if_icmp cd off =>
    have hl : len = 3 := hlen
    subst hl
    cases cd with
    | eq =>
      obtain ⟨y, x, rr, rfl, hj⟩ := kx_ii_e hk
      clear hk
      have hk := hj
      clear hj
      obtain ⟨t, ht, hk | hk⟩ := kx_to_e hk
      · obtain ⟨hcc, rfl⟩ := hk
        simp only [Nat.sub_self, Nat.add_zero] at k
        exact fun H ls locs hR hlv hloc => lv_icmp_eq X.1 X.2.1 hd ht (fun h => by first | exact k H ls locs hR hlv hloc | exact absurd hcc h | exact absurd h hcc) (fun h => by first | exact absurd hcc h | exact absurd h hcc)
      · obtain ⟨hcc, rfl⟩ := hk
        simp only [Nat.sub_self, Nat.add_zero] at k
        exact fun H ls locs hR hlv hloc => lv_icmp_eq X.1 X.2.1 hd ht (fun h => by first | exact absurd hcc h | exact absurd h hcc) (fun h => k H ls locs hR hlv hloc)
    | ne =>
      obtain ⟨y, x, rr, rfl, hj⟩ := kx_ii_e hk
      clear hk
      have hk := hj
      clear hj
      obtain ⟨t, ht, hk | hk⟩ := kx_to_e hk
      · obtain ⟨hcc, rfl⟩ := hk
        simp only [Nat.sub_self, Nat.add_zero] at k
        exact fun H ls locs hR hlv hloc => lv_icmp_ne X.1 X.2.1 hd ht (fun h => by first | exact k H ls locs hR hlv hloc | exact absurd hcc h | exact absurd h hcc) (fun h => by first | exact absurd hcc h | exact absurd h hcc)
      · obtain ⟨hcc, rfl⟩ := hk
        simp only [Nat.sub_self, Nat.add_zero] at k
        exact fun H ls locs hR hlv hloc => lv_icmp_ne X.1 X.2.1 hd ht (fun h => by first | exact absurd hcc h | exact absurd h hcc) (fun h => k H ls locs hR hlv hloc)
    | lt =>
      obtain ⟨y, x, rr, rfl, hj⟩ := kx_ii_e hk
      clear hk
      have hk := hj
      clear hj
      obtain ⟨t, ht, hk | hk⟩ := kx_to_e hk
      · obtain ⟨hcc, rfl⟩ := hk
        simp only [Nat.sub_self, Nat.add_zero] at k
        exact fun H ls locs hR hlv hloc => lv_icmp_lt X.1 X.2.1 hd ht (fun h => by first | exact k H ls locs hR hlv hloc | exact absurd hcc h | exact absurd h hcc) (fun h => by first | exact absurd hcc h | exact absurd h hcc)
      · obtain ⟨hcc, rfl⟩ := hk
        simp only [Nat.sub_self, Nat.add_zero] at k
        exact fun H ls locs hR hlv hloc => lv_icmp_lt X.1 X.2.1 hd ht (fun h => by first | exact absurd hcc h | exact absurd h hcc) (fun h => k H ls locs hR hlv hloc)
    | ge =>
      obtain ⟨y, x, rr, rfl, hj⟩ := kx_ii_e hk
      clear hk
      have hk := hj
      clear hj
      obtain ⟨t, ht, hk | hk⟩ := kx_to_e hk
      · obtain ⟨hcc, rfl⟩ := hk
        simp only [Nat.sub_self, Nat.add_zero] at k
        exact fun H ls locs hR hlv hloc => lv_icmp_ge X.1 X.2.1 hd ht (fun h => by first | exact k H ls locs hR hlv hloc | exact absurd hcc h | exact absurd h hcc) (fun h => by first | exact absurd hcc h | exact absurd h hcc)
      · obtain ⟨hcc, rfl⟩ := hk
        simp only [Nat.sub_self, Nat.add_zero] at k
        exact fun H ls locs hR hlv hloc => lv_icmp_ge X.1 X.2.1 hd ht (fun h => by first | exact absurd hcc h | exact absurd h hcc) (fun h => k H ls locs hR hlv hloc)
    | gt =>
      obtain ⟨y, x, rr, rfl, hj⟩ := kx_ii_e hk
      clear hk
      have hk := hj
      clear hj
      obtain ⟨t, ht, hk | hk⟩ := kx_to_e hk
      · obtain ⟨hcc, rfl⟩ := hk
        simp only [Nat.sub_self, Nat.add_zero] at k
        exact fun H ls locs hR hlv hloc => lv_icmp_gt X.1 X.2.1 hd ht (fun h => by first | exact k H ls locs hR hlv hloc | exact absurd hcc h | exact absurd h hcc) (fun h => by first | exact absurd hcc h | exact absurd h hcc)
      · obtain ⟨hcc, rfl⟩ := hk
        simp only [Nat.sub_self, Nat.add_zero] at k
        exact fun H ls locs hR hlv hloc => lv_icmp_gt X.1 X.2.1 hd ht (fun h => by first | exact absurd hcc h | exact absurd h hcc) (fun h => k H ls locs hR hlv hloc)
    | le =>
      obtain ⟨y, x, rr, rfl, hj⟩ := kx_ii_e hk
      clear hk
      have hk := hj
      clear hj
      obtain ⟨t, ht, hk | hk⟩ := kx_to_e hk
      · obtain ⟨hcc, rfl⟩ := hk
        simp only [Nat.sub_self, Nat.add_zero] at k
        exact fun H ls locs hR hlv hloc => lv_icmp_le X.1 X.2.1 hd ht (fun h => by first | exact k H ls locs hR hlv hloc | exact absurd hcc h | exact absurd h hcc) (fun h => by first | exact absurd hcc h | exact absurd h hcc)
      · obtain ⟨hcc, rfl⟩ := hk
        simp only [Nat.sub_self, Nat.add_zero] at k
        exact fun H ls locs hR hlv hloc => lv_icmp_le X.1 X.2.1 hd ht (fun h => by first | exact absurd hcc h | exact absurd h hcc) (fun h => k H ls locs hR hlv hloc)
  | goto off =>
    have hl : len = 3 := hlen
    subst hl
    have hk2 : (match kx_j pc off with | some t => _ | none => none) = some f := hk
    split at hk2
    next t ht =>
      cases hk2
      simp only [Nat.sub_self, Nat.add_zero] at k
      exact fun H ls locs hR hlv hloc => lv_goto X.1 X.2.1 hd (kx_j_e ht) (k H ls locs hR hlv hloc)
    next => cases hk2
  | ifnonnull off =>
    have hl : len = 3 := hlen
    subst hl
    obtain ⟨v, rr, rfl, hj⟩ := kx_v_e hk
    clear hk
    have hk := hj
    clear hj
    split at hk
    next a =>
      split at hk
      next t ht =>
        cases hk
        simp only [Nat.sub_self, Nat.add_zero] at k
        exact fun H ls locs hR hlv hloc => lv_ifnonnull X.1 X.2.1 hd (kx_j_e ht) (k H ls locs hR hlv hloc)
      next => cases hk
    next =>
      cases hk
      simp only [Nat.sub_self, Nat.add_zero] at k
      exact fun H ls locs hR hlv hloc => lv_ifnonnullN X.1 X.2.1 hd (k H ls locs hR hlv hloc)
    next => cases hk
  | tableswitch dflt lo hi offs =>
    obtain ⟨x, rr, rfl, hj⟩ := kx_i_e hk
    clear hk
    have hk := hj
    clear hj
    split at hk
    next hq =>
      split at hk
      next t ht =>
        cases hk
        simp only [Nat.sub_self, Nat.add_zero] at k
        exact fun H ls locs hR hlv hloc => lv_tableOut X.1 X.2.1 hd hq (kx_j_e ht) (k H ls locs hR hlv hloc)
      next => cases hk
    next hq =>
      split at hk
      next off ho =>
        split at hk
        next t ht =>
          cases hk
          simp only [Nat.sub_self, Nat.add_zero] at k
          exact fun H ls locs hR hlv hloc => lv_tableIn X.1 X.2.1 hd (fun h => hq (Or.inl h)) (fun h => hq (Or.inr h)) ho (kx_j_e ht) (k H ls locs hR hlv hloc)
        next => cases hk
      next => cases hk
  | lookupswitch dflt ps =>
    obtain ⟨x, rr, rfl, hj⟩ := kx_i_e hk
    clear hk
    have hk := hj
    clear hj
    split at hk
    next hq =>
      split at hk
      next t ht =>
        cases hk
        simp only [Nat.sub_self, Nat.add_zero] at k
        exact fun H ls locs hR hlv hloc => lv_lookup X.1 X.2.1 hd hq rfl (kx_j_e ht) (k H ls locs hR hlv hloc)
      next => cases hk
    next => cases hk
  | getfield idx =>
    have hl : len = 3 := hlen
    subst hl
    obtain ⟨a, rr, rfl, hj⟩ := kx_a_e hk
    clear hk
    have hk := hj
    clear hj
    split at hk
    next host ci kf0 hf =>
      split at hk
      next cj tg ho =>
        split at hk
        next hcc =>
          subst hcc
          split at hk
          next g hg =>
            cases hk
            simp only [Nat.sub_self, Nat.add_zero] at k
            exact fun H ls locs hR hlv hloc => kz_getf X hL hR hf ho hg hd (k H ls locs hR hlv hloc)
          next => cases hk
        next => cases hk
      next => cases hk
    next => cases hk
  | putfield idx =>
    have hl : len = 3 := hlen
    subst hl
    obtain ⟨v, rr, rfl, hj⟩ := kx_v_e hk
    clear hk
    have hk := hj
    clear hj
    obtain ⟨a, rr, rfl, hj⟩ := kx_a_e hk
    clear hk
    have hk := hj
    clear hj
    split at hk
    next host ci kf0 hf =>
      split at hk
      next cj tg ho =>
        split at hk
        next hcc =>
          obtain ⟨hcc, hfin⟩ := hcc
          subst hcc
          split at hk
          next g hg =>
            split at hk
            next S2 hp =>
              cases hk
              have hcn : S2.2 = S.2 := kx_put_cnt hp
              rw [hcn, Nat.sub_self, Nat.sub_self] at k
              simp only [Nat.add_zero] at k
              refine fun H ls locs hR hlv hloc => kz_putf X hL hR hf hfin ho hg hp hd (fun H2 y hy hR2 => k H2 ls _ hR2 hlv (kz_locs hloc (by rw [hy]; exact kz_ad_A (kg_ob_e ho).2.1)))
            next => cases hk
          next => cases hk
        next => cases hk
      next => cases hk
    next => cases hk
  | getstatic idx =>
    have hl : len = 3 := hlen
    subst hl
    have hk2 : (match ks (km_own E) idx with | some (_, k) => _ | none => none) = some f := hk
    split at hk2
    next host k0 hf =>
      cases hk2
      simp only [Nat.sub_self, Nat.add_zero] at k
      exact fun H ls locs hR hlv hloc => kz_gets X hR hf hd (k H ls locs hR hlv hloc)
    next => cases hk2
  | iaload =>
    have hl : len = 1 := hlen
    subst hl
    obtain ⟨j, a, rr, rfl, hj⟩ := kx_ia_e hk
    clear hk
    have hk := hj
    clear hj
    split at hk
    next t n b ha =>
      split at hk
      next hq =>
        obtain ⟨rfl, hin⟩ := hq
        cases hk
        simp only [Nat.sub_self, Nat.add_zero] at k
        exact fun H ls locs hR hlv hloc => kz_iald X hR ha hin hd (k H ls locs hR hlv hloc)
      next => cases hk
    next => cases hk
  | baload =>
    have hl : len = 1 := hlen
    subst hl
    obtain ⟨j, a, rr, rfl, hj⟩ := kx_ia_e hk
    clear hk
    have hk := hj
    clear hj
    split at hk
    next t n b ha =>
      split at hk
      next hq =>
        cases hk
        simp only [Nat.sub_self, Nat.add_zero] at k
        exact fun H ls locs hR hlv hloc => kz_bald X hR ha hq.1 hq.2 hd (k H ls locs hR hlv hloc)
      next => cases hk
    next => cases hk
  | aaload =>
    have hl : len = 1 := hlen
    subst hl
    obtain ⟨j, a, rr, rfl, hj⟩ := kx_ia_e hk
    clear hk
    have hk := hj
    clear hj
    split at hk
    next t n b ha =>
      split at hk
      next hq =>
        obtain ⟨rfl, hin⟩ := hq
        cases hk
        simp only [Nat.sub_self, Nat.add_zero] at k
        exact fun H ls locs hR hlv hloc => kz_aald X hR ha hin hd (k H ls locs hR hlv hloc)
      next => cases hk
    next => cases hk
  | arraylength =>
    have hl : len = 1 := hlen
    subst hl
    obtain ⟨a, rr, rfl, hj⟩ := kx_a_e hk
    clear hk
    have hk := hj
    clear hj
    split at hk
    next t n b ha =>
      split at hk
      next hq =>
        cases hk
        simp only [Nat.sub_self, Nat.add_zero] at k
        exact fun H ls locs hR hlv hloc => kz_alen X hR ha hq hd (k H ls locs hR hlv hloc)
      next => cases hk
    next => cases hk
  | iastore =>
    have hl : len = 1 := hlen
    subst hl
    obtain ⟨x, j, a, rr, rfl, hj⟩ := kx_iia_e hk
    clear hk
    have hk := hj
    clear hj
    split at hk
    next t n b ha =>
      split at hk
      next hq =>
        obtain ⟨rfl, hin⟩ := hq
        cases hk
        simp only [ks_sa, Nat.sub_self, Nat.add_zero] at k
        refine fun H ls locs hR hlv hloc => kz_iast X hL hR ha hin hd (fun H2 y hy hR2 => k H2 ls _ hR2 hlv (kz_locs hloc (by rw [hy]; exact kz_ad_A (kg_aw_e ha).2.1)))
      next => cases hk
    next => cases hk
  | bastore =>
    have hl : len = 1 := hlen
    subst hl
    obtain ⟨x, j, a, rr, rfl, hj⟩ := kx_iia_e hk
    clear hk
    have hk := hj
    clear hj
    split at hk
    next t n b ha =>
      split at hk
      next hq =>
        cases hk
        simp only [ks_sa, Nat.sub_self, Nat.add_zero] at k
        refine fun H ls locs hR hlv hloc => kz_bast X hL hR ha hq.1 hq.2 hd (fun H2 y hy hR2 => k H2 ls _ hR2 hlv (kz_locs hloc (by rw [hy]; exact kz_ad_A (kg_aw_e ha).2.1)))
      next => cases hk
    next => cases hk
  | new idx =>
    have hl : len = 3 := hlen
    subst hl
    have hk2 : (match kw (km_own E) idx with | some ci => _ | none => none) = some f := hk
    split at hk2
    next ci hf =>
      split at hk2
      next cj tg hly =>
        split at hk2
        next hq =>
          obtain ⟨hcc, hi0⟩ := hq
          subst hcc
          cases hk2
          simp only [Nat.add_sub_cancel_left] at k hc hs
          exact fun H ls locs hR hlv hloc => kz_new X hL hR hf rfl hly hc hs hd (fun H2 hR2 => k H2 ls locs hR2 hlv hloc)
        next => cases hk2
      next => cases hk2
    next => cases hk2
  | newarray ty =>
    have hl : len = 2 := hlen
    subst hl
    obtain ⟨x, rr, rfl, hj⟩ := kx_i_e hk
    clear hk
    have hk := hj
    clear hj
    split at hk
    next t n b hly =>
      split at hk
      next hq =>
        obtain ⟨h1, h2, h3, h4, h5, h6⟩ := hq
        cases hk
        simp only [Nat.add_sub_cancel_left] at k hc hs
        exact fun H ls locs hR hlv hloc => kz_newa X hL hR rfl hly h1 h2 h3 h4 h5 h6 hc hs hd (fun H2 hR2 => k H2 ls locs hR2 hlv hloc)
      next => cases hk
    next => cases hk
  | multianewarray idx dm =>
    have hl : len = 4 := hlen
    subst hl
    rcases dm with _ | _ | _ | dm
    · have hk2 : (none : Option kx_F) = some f := hk
      cases hk2
    · have hk2 : (none : Option kx_F) = some f := hk
      cases hk2
    · obtain ⟨y, x, rr, rfl, hj⟩ := kx_ii_e hk
      clear hk
      have hk := hj
      clear hj
      split at hk
      next t n b hly =>
        split at hk
        next hq =>
          obtain ⟨h1, h2, h3, h4, h5, h6, h7, h8, h9, h10⟩ := hq
          subst h1
          cases hk
          simp only [show ∀ a n, a + 1 + n - a = 1 + n from fun a n => by omega, show ∀ a n k : Nat, a + n + k - a = n + k from fun a n k => by omega] at k hc hs
          simp only [← Nat.add_assoc] at k
          exact fun H ls locs hR hlv hloc => kz_mna X hL hR hloc rfl hly h2 h3 h4 h5 h6 h7 h8 h9 h10 hc hs hd (fun H2 locs2 hl2 hR2 => k H2 ls locs2 hR2 hlv hl2)
        next => cases hk
      next => cases hk
    · have hk2 : (none : Option kx_F) = some f := hk
      cases hk2
  | _ =>
    have hk2 : (none : Option kx_F) = some f := hk
    cases hk2
end KR3
