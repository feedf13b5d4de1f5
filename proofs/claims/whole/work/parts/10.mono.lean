/-! Nothing is unmade. -/
set_option maxHeartbeats 8000000 in
set_option maxRecDepth 100000 in
theorem kx_mono {w : kw_W} {E : km_E} {i : Instr} {len pc : Nat} {lv : List (Option Value)} {st : List Value} {S : ks_S} {f : kx_F} (hlen : len = ki_len i len) (hk : kx w.1 E i len pc lv st S = some f) : S.2.2.1 ≤ f.2.2.2.2.2.1 ∧ S.2.2.2 ≤ f.2.2.2.2.2.2 := by
  cases i with
  | iconst n =>
    have hl : len = 1 := hlen
    subst hl
    cases hk
    exact ⟨Nat.le_refl _, Nat.le_refl _⟩
  | bipush n =>
    have hl : len = 2 := hlen
    subst hl
    cases hk
    exact ⟨Nat.le_refl _, Nat.le_refl _⟩
  | sipush n =>
    have hl : len = 3 := hlen
    subst hl
    cases hk
    exact ⟨Nat.le_refl _, Nat.le_refl _⟩
  | lconst n =>
    have hl : len = 1 := hlen
    subst hl
    cases hk
    exact ⟨Nat.le_refl _, Nat.le_refl _⟩
  | aconst_null =>
    have hl : len = 1 := hlen
    subst hl
    cases hk
    exact ⟨Nat.le_refl _, Nat.le_refl _⟩
  | ldc idx =>
    have hl : len = 2 := hlen
    subst hl
    have hk2 : (match kq (km_own E) idx with | some v => _ | none => none) = some f := hk
    split at hk2
    next v hv =>
      cases hk2
      exact ⟨Nat.le_refl _, Nat.le_refl _⟩
    next => cases hk2
  | ldc_w idx =>
    have hl : len = 3 := hlen
    subst hl
    have hk2 : (match kq (km_own E) idx with | some v => _ | none => none) = some f := hk
    split at hk2
    next v hv =>
      cases hk2
      exact ⟨Nat.le_refl _, Nat.le_refl _⟩
    next => cases hk2
  | ldc2_w idx =>
    have hl : len = 3 := hlen
    subst hl
    have hk2 : (match kl (km_own E) idx with | some v => _ | none => none) = some f := hk
    split at hk2
    next v hv =>
      cases hk2
      exact ⟨Nat.le_refl _, Nat.le_refl _⟩
    next => cases hk2
  | iload_n kk =>
    have hl : len = 1 := hlen
    subst hl
    obtain ⟨x, hm, hk⟩ := kx_ldi_e hk
    cases hk
    exact ⟨Nat.le_refl _, Nat.le_refl _⟩
  | iload kk =>
    have hl : len = 2 := hlen
    subst hl
    obtain ⟨x, hm, hk⟩ := kx_ldi_e hk
    cases hk
    exact ⟨Nat.le_refl _, Nat.le_refl _⟩
  | lload_n kk =>
    have hl : len = 1 := hlen
    subst hl
    obtain ⟨x, hm, hk⟩ := kx_ldl_e hk
    cases hk
    exact ⟨Nat.le_refl _, Nat.le_refl _⟩
  | lload kk =>
    have hl : len = 2 := hlen
    subst hl
    obtain ⟨x, hm, hk⟩ := kx_ldl_e hk
    cases hk
    exact ⟨Nat.le_refl _, Nat.le_refl _⟩
  | aload_n kk =>
    have hl : len = 1 := hlen
    subst hl
    obtain ⟨x, hm, hk⟩ := kx_lda_e hk
    cases hk
    exact ⟨Nat.le_refl _, Nat.le_refl _⟩
  | aload kk =>
    have hl : len = 2 := hlen
    subst hl
    obtain ⟨x, hm, hk⟩ := kx_lda_e hk
    cases hk
    exact ⟨Nat.le_refl _, Nat.le_refl _⟩
  | istore_n kk =>
    have hl : len = 1 := hlen
    subst hl
    obtain ⟨x, rr, rfl, hj⟩ := kx_i_e hk
    clear hk
    have hk := hj
    clear hj
    split at hk
    next hn =>
      cases hk
      exact ⟨Nat.le_refl _, Nat.le_refl _⟩
    next => cases hk
  | istore kk =>
    have hl : len = 2 := hlen
    subst hl
    obtain ⟨x, rr, rfl, hj⟩ := kx_i_e hk
    clear hk
    have hk := hj
    clear hj
    split at hk
    next hn =>
      cases hk
      exact ⟨Nat.le_refl _, Nat.le_refl _⟩
    next => cases hk
  | lstore_n kk =>
    have hl : len = 1 := hlen
    subst hl
    obtain ⟨x, rr, rfl, hj⟩ := kx_l_e hk
    clear hk
    have hk := hj
    clear hj
    split at hk
    next hn =>
      cases hk
      exact ⟨Nat.le_refl _, Nat.le_refl _⟩
    next => cases hk
  | lstore kk =>
    have hl : len = 2 := hlen
    subst hl
    obtain ⟨x, rr, rfl, hj⟩ := kx_l_e hk
    clear hk
    have hk := hj
    clear hj
    split at hk
    next hn =>
      cases hk
      exact ⟨Nat.le_refl _, Nat.le_refl _⟩
    next => cases hk
  | astore_n kk =>
    have hl : len = 1 := hlen
    subst hl
    obtain ⟨x, rr, rfl, hj⟩ := kx_a_e hk
    clear hk
    have hk := hj
    clear hj
    split at hk
    next hn =>
      cases hk
      exact ⟨Nat.le_refl _, Nat.le_refl _⟩
    next => cases hk
  | astore kk =>
    have hl : len = 2 := hlen
    subst hl
    obtain ⟨x, rr, rfl, hj⟩ := kx_a_e hk
    clear hk
    have hk := hj
    clear hj
    split at hk
    next hn =>
      cases hk
      exact ⟨Nat.le_refl _, Nat.le_refl _⟩
    next => cases hk
  | iinc kk n =>
    obtain ⟨x, hm, hj⟩ := kx_ldi_e hk
    clear hk
    have hk := hj
    clear hj
    split at hk
    next hn =>
      split at hk
      next h3 =>
        subst h3
        cases hk
        exact ⟨Nat.le_refl _, Nat.le_refl _⟩
      next h3 =>
        split at hk
        next h6 =>
          subst h6
          cases hk
          exact ⟨Nat.le_refl _, Nat.le_refl _⟩
        next => cases hk
    next => cases hk
  | iadd =>
    have hl : len = 1 := hlen
    subst hl
    obtain ⟨y, x, rr, rfl, hj⟩ := kx_ii_e hk
    clear hk
    have hk := hj
    clear hj
    cases hk
    exact ⟨Nat.le_refl _, Nat.le_refl _⟩
  | isub =>
    have hl : len = 1 := hlen
    subst hl
    obtain ⟨y, x, rr, rfl, hj⟩ := kx_ii_e hk
    clear hk
    have hk := hj
    clear hj
    cases hk
    exact ⟨Nat.le_refl _, Nat.le_refl _⟩
  | imul =>
    have hl : len = 1 := hlen
    subst hl
    obtain ⟨y, x, rr, rfl, hj⟩ := kx_ii_e hk
    clear hk
    have hk := hj
    clear hj
    cases hk
    exact ⟨Nat.le_refl _, Nat.le_refl _⟩
  | iand =>
    have hl : len = 1 := hlen
    subst hl
    obtain ⟨y, x, rr, rfl, hj⟩ := kx_ii_e hk
    clear hk
    have hk := hj
    clear hj
    cases hk
    exact ⟨Nat.le_refl _, Nat.le_refl _⟩
  | ior =>
    have hl : len = 1 := hlen
    subst hl
    obtain ⟨y, x, rr, rfl, hj⟩ := kx_ii_e hk
    clear hk
    have hk := hj
    clear hj
    cases hk
    exact ⟨Nat.le_refl _, Nat.le_refl _⟩
  | ixor =>
    have hl : len = 1 := hlen
    subst hl
    obtain ⟨y, x, rr, rfl, hj⟩ := kx_ii_e hk
    clear hk
    have hk := hj
    clear hj
    cases hk
    exact ⟨Nat.le_refl _, Nat.le_refl _⟩
  | ishl =>
    have hl : len = 1 := hlen
    subst hl
    obtain ⟨y, x, rr, rfl, hj⟩ := kx_ii_e hk
    clear hk
    have hk := hj
    clear hj
    cases hk
    exact ⟨Nat.le_refl _, Nat.le_refl _⟩
  | ishr =>
    have hl : len = 1 := hlen
    subst hl
    obtain ⟨y, x, rr, rfl, hj⟩ := kx_ii_e hk
    clear hk
    have hk := hj
    clear hj
    cases hk
    exact ⟨Nat.le_refl _, Nat.le_refl _⟩
  | iushr =>
    have hl : len = 1 := hlen
    subst hl
    obtain ⟨y, x, rr, rfl, hj⟩ := kx_ii_e hk
    clear hk
    have hk := hj
    clear hj
    cases hk
    exact ⟨Nat.le_refl _, Nat.le_refl _⟩
  | idiv =>
    have hl : len = 1 := hlen
    subst hl
    obtain ⟨y, x, rr, rfl, hj⟩ := kx_ii_e hk
    clear hk
    have hk := hj
    clear hj
    split at hk
    next => cases hk
    next hne =>
      cases hk
      exact ⟨Nat.le_refl _, Nat.le_refl _⟩
  | irem =>
    have hl : len = 1 := hlen
    subst hl
    obtain ⟨y, x, rr, rfl, hj⟩ := kx_ii_e hk
    clear hk
    have hk := hj
    clear hj
    split at hk
    next => cases hk
    next hne =>
      cases hk
      exact ⟨Nat.le_refl _, Nat.le_refl _⟩
  | ineg =>
    have hl : len = 1 := hlen
    subst hl
    obtain ⟨x, rr, rfl, hj⟩ := kx_i_e hk
    clear hk
    have hk := hj
    clear hj
    cases hk
    exact ⟨Nat.le_refl _, Nat.le_refl _⟩
  | ladd =>
    have hl : len = 1 := hlen
    subst hl
    obtain ⟨y, x, rr, rfl, hj⟩ := kx_ll_e hk
    clear hk
    have hk := hj
    clear hj
    cases hk
    exact ⟨Nat.le_refl _, Nat.le_refl _⟩
  | lsub =>
    have hl : len = 1 := hlen
    subst hl
    obtain ⟨y, x, rr, rfl, hj⟩ := kx_ll_e hk
    clear hk
    have hk := hj
    clear hj
    cases hk
    exact ⟨Nat.le_refl _, Nat.le_refl _⟩
  | lmul =>
    have hl : len = 1 := hlen
    subst hl
    obtain ⟨y, x, rr, rfl, hj⟩ := kx_ll_e hk
    clear hk
    have hk := hj
    clear hj
    cases hk
    exact ⟨Nat.le_refl _, Nat.le_refl _⟩
  | land =>
    have hl : len = 1 := hlen
    subst hl
    obtain ⟨y, x, rr, rfl, hj⟩ := kx_ll_e hk
    clear hk
    have hk := hj
    clear hj
    cases hk
    exact ⟨Nat.le_refl _, Nat.le_refl _⟩
  | lor =>
    have hl : len = 1 := hlen
    subst hl
    obtain ⟨y, x, rr, rfl, hj⟩ := kx_ll_e hk
    clear hk
    have hk := hj
    clear hj
    cases hk
    exact ⟨Nat.le_refl _, Nat.le_refl _⟩
  | ldiv =>
    have hl : len = 1 := hlen
    subst hl
    obtain ⟨y, x, rr, rfl, hj⟩ := kx_ll_e hk
    clear hk
    have hk := hj
    clear hj
    split at hk
    next => cases hk
    next hne =>
      cases hk
      exact ⟨Nat.le_refl _, Nat.le_refl _⟩
  | lrem =>
    have hl : len = 1 := hlen
    subst hl
    obtain ⟨y, x, rr, rfl, hj⟩ := kx_ll_e hk
    clear hk
    have hk := hj
    clear hj
    split at hk
    next => cases hk
    next hne =>
      cases hk
      exact ⟨Nat.le_refl _, Nat.le_refl _⟩
  | lshl =>
    have hl : len = 1 := hlen
    subst hl
    obtain ⟨y, x, rr, rfl, hj⟩ := kx_li_e hk
    clear hk
    have hk := hj
    clear hj
    cases hk
    exact ⟨Nat.le_refl _, Nat.le_refl _⟩
  | lshr =>
    have hl : len = 1 := hlen
    subst hl
    obtain ⟨y, x, rr, rfl, hj⟩ := kx_li_e hk
    clear hk
    have hk := hj
    clear hj
    cases hk
    exact ⟨Nat.le_refl _, Nat.le_refl _⟩
  | lcmp =>
    have hl : len = 1 := hlen
    subst hl
    obtain ⟨y, x, rr, rfl, hj⟩ := kx_ll_e hk
    clear hk
    have hk := hj
    clear hj
    cases hk
    exact ⟨Nat.le_refl _, Nat.le_refl _⟩
  | i2l =>
    have hl : len = 1 := hlen
    subst hl
    obtain ⟨x, rr, rfl, hj⟩ := kx_i_e hk
    clear hk
    have hk := hj
    clear hj
    cases hk
    exact ⟨Nat.le_refl _, Nat.le_refl _⟩
  | l2i =>
    have hl : len = 1 := hlen
    subst hl
    obtain ⟨x, rr, rfl, hj⟩ := kx_l_e hk
    clear hk
    have hk := hj
    clear hj
    cases hk
    exact ⟨Nat.le_refl _, Nat.le_refl _⟩
  | i2b =>
    have hl : len = 1 := hlen
    subst hl
    obtain ⟨x, rr, rfl, hj⟩ := kx_i_e hk
    clear hk
    have hk := hj
    clear hj
    cases hk
    exact ⟨Nat.le_refl _, Nat.le_refl _⟩
  | i2s =>
    have hl : len = 1 := hlen
    subst hl
    obtain ⟨x, rr, rfl, hj⟩ := kx_i_e hk
    clear hk
    have hk := hj
    clear hj
    cases hk
    exact ⟨Nat.le_refl _, Nat.le_refl _⟩
  | dup =>
    have hl : len = 1 := hlen
    subst hl
    obtain ⟨v, rr, rfl, hj⟩ := kx_v_e hk
    clear hk
    have hk := hj
    clear hj
    split at hk
    next hv =>
      cases hk
      exact ⟨Nat.le_refl _, Nat.le_refl _⟩
    next => cases hk
  | pop =>
    have hl : len = 1 := hlen
    subst hl
    obtain ⟨v, rr, rfl, hj⟩ := kx_v_e hk
    clear hk
    have hk := hj
    clear hj
    split at hk
    next hv =>
      cases hk
      exact ⟨Nat.le_refl _, Nat.le_refl _⟩
    next => cases hk
  | dup2 =>
    have hl : len = 1 := hlen
    subst hl
    obtain ⟨v, rr, rfl, hj⟩ := kx_v_e hk
    clear hk
    have hk := hj
    clear hj
    obtain ⟨v2, rr, rfl, hj⟩ := kx_v_e hk
    clear hk
    have hk := hj
    clear hj
    split at hk
    next hv =>
      cases hk
      exact ⟨Nat.le_refl _, Nat.le_refl _⟩
    next => cases hk
  | ifCond cd off =>
    have hl : len = 3 := hlen
    subst hl
    cases cd with
    | eq =>
      obtain ⟨x, rr, rfl, hj⟩ := kx_i_e hk
      clear hk
      have hk := hj
      clear hj
      obtain ⟨t, ht, hk | hk⟩ := kx_to_e hk
      · obtain ⟨hcc, rfl⟩ := hk
        exact ⟨Nat.le_refl _, Nat.le_refl _⟩
      · obtain ⟨hcc, rfl⟩ := hk
        exact ⟨Nat.le_refl _, Nat.le_refl _⟩
    | ne =>
      obtain ⟨x, rr, rfl, hj⟩ := kx_i_e hk
      clear hk
      have hk := hj
      clear hj
      obtain ⟨t, ht, hk | hk⟩ := kx_to_e hk
      · obtain ⟨hcc, rfl⟩ := hk
        exact ⟨Nat.le_refl _, Nat.le_refl _⟩
      · obtain ⟨hcc, rfl⟩ := hk
        exact ⟨Nat.le_refl _, Nat.le_refl _⟩
    | lt =>
      obtain ⟨x, rr, rfl, hj⟩ := kx_i_e hk
      clear hk
      have hk := hj
      clear hj
      obtain ⟨t, ht, hk | hk⟩ := kx_to_e hk
      · obtain ⟨hcc, rfl⟩ := hk
        exact ⟨Nat.le_refl _, Nat.le_refl _⟩
      · obtain ⟨hcc, rfl⟩ := hk
        exact ⟨Nat.le_refl _, Nat.le_refl _⟩
    | ge =>
      obtain ⟨x, rr, rfl, hj⟩ := kx_i_e hk
      clear hk
      have hk := hj
      clear hj
      obtain ⟨t, ht, hk | hk⟩ := kx_to_e hk
      · obtain ⟨hcc, rfl⟩ := hk
        exact ⟨Nat.le_refl _, Nat.le_refl _⟩
      · obtain ⟨hcc, rfl⟩ := hk
        exact ⟨Nat.le_refl _, Nat.le_refl _⟩
    | gt =>
      obtain ⟨x, rr, rfl, hj⟩ := kx_i_e hk
      clear hk
      have hk := hj
      clear hj
      obtain ⟨t, ht, hk | hk⟩ := kx_to_e hk
      · obtain ⟨hcc, rfl⟩ := hk
        exact ⟨Nat.le_refl _, Nat.le_refl _⟩
      · obtain ⟨hcc, rfl⟩ := hk
        exact ⟨Nat.le_refl _, Nat.le_refl _⟩
    | le =>
      obtain ⟨x, rr, rfl, hj⟩ := kx_i_e hk
      clear hk
      have hk := hj
      clear hj
      obtain ⟨t, ht, hk | hk⟩ := kx_to_e hk
      · obtain ⟨hcc, rfl⟩ := hk
        exact ⟨Nat.le_refl _, Nat.le_refl _⟩
      · obtain ⟨hcc, rfl⟩ := hk
        exact ⟨Nat.le_refl _, Nat.le_refl _⟩
  | if_icmp cd off =>
    have hl : len = 3 := hlen
    subst hl
    cases cd with
    | eq =>
      obtain ⟨y, x, rr, rfl, hj⟩ := kx_ii_e hk
      clear hk
      have hk := hj
      clear hj
      obtain ⟨t, ht, hk | hk⟩ := kx_to_e hk
      · obtain ⟨hcc, rfl⟩ := hk
        exact ⟨Nat.le_refl _, Nat.le_refl _⟩
      · obtain ⟨hcc, rfl⟩ := hk
        exact ⟨Nat.le_refl _, Nat.le_refl _⟩
    | ne =>
      obtain ⟨y, x, rr, rfl, hj⟩ := kx_ii_e hk
      clear hk
      have hk := hj
      clear hj
      obtain ⟨t, ht, hk | hk⟩ := kx_to_e hk
      · obtain ⟨hcc, rfl⟩ := hk
        exact ⟨Nat.le_refl _, Nat.le_refl _⟩
      · obtain ⟨hcc, rfl⟩ := hk
        exact ⟨Nat.le_refl _, Nat.le_refl _⟩
    | lt =>
      obtain ⟨y, x, rr, rfl, hj⟩ := kx_ii_e hk
      clear hk
      have hk := hj
      clear hj
      obtain ⟨t, ht, hk | hk⟩ := kx_to_e hk
      · obtain ⟨hcc, rfl⟩ := hk
        exact ⟨Nat.le_refl _, Nat.le_refl _⟩
      · obtain ⟨hcc, rfl⟩ := hk
        exact ⟨Nat.le_refl _, Nat.le_refl _⟩
    | ge =>
      obtain ⟨y, x, rr, rfl, hj⟩ := kx_ii_e hk
      clear hk
      have hk := hj
      clear hj
      obtain ⟨t, ht, hk | hk⟩ := kx_to_e hk
      · obtain ⟨hcc, rfl⟩ := hk
        exact ⟨Nat.le_refl _, Nat.le_refl _⟩
      · obtain ⟨hcc, rfl⟩ := hk
        exact ⟨Nat.le_refl _, Nat.le_refl _⟩
    | gt =>
      obtain ⟨y, x, rr, rfl, hj⟩ := kx_ii_e hk
      clear hk
      have hk := hj
      clear hj
      obtain ⟨t, ht, hk | hk⟩ := kx_to_e hk
      · obtain ⟨hcc, rfl⟩ := hk
        exact ⟨Nat.le_refl _, Nat.le_refl _⟩
      · obtain ⟨hcc, rfl⟩ := hk
        exact ⟨Nat.le_refl _, Nat.le_refl _⟩
    | le =>
      obtain ⟨y, x, rr, rfl, hj⟩ := kx_ii_e hk
      clear hk
      have hk := hj
      clear hj
      obtain ⟨t, ht, hk | hk⟩ := kx_to_e hk
      · obtain ⟨hcc, rfl⟩ := hk
        exact ⟨Nat.le_refl _, Nat.le_refl _⟩
      · obtain ⟨hcc, rfl⟩ := hk
        exact ⟨Nat.le_refl _, Nat.le_refl _⟩
  | goto off =>
    have hl : len = 3 := hlen
    subst hl
    have hk2 : (match kx_j pc off with | some t => _ | none => none) = some f := hk
    split at hk2
    next t ht =>
      cases hk2
      exact ⟨Nat.le_refl _, Nat.le_refl _⟩
    next => cases hk2
  | ifnonnull off =>
    have hl : len = 3 := hlen
    subst hl
    obtain ⟨v, rr, rfl, hj⟩ := kx_v_e hk
    clear hk
    have hk := hj
    clear hj
    split at hk
    next a =>
      split at hk
      next t ht =>
        cases hk
        exact ⟨Nat.le_refl _, Nat.le_refl _⟩
      next => cases hk
    next =>
      cases hk
      exact ⟨Nat.le_refl _, Nat.le_refl _⟩
    next => cases hk
  | tableswitch dflt lo hi offs =>
    obtain ⟨x, rr, rfl, hj⟩ := kx_i_e hk
    clear hk
    have hk := hj
    clear hj
    split at hk
    next hq =>
      split at hk
      next t ht =>
        cases hk
        exact ⟨Nat.le_refl _, Nat.le_refl _⟩
      next => cases hk
    next hq =>
      split at hk
      next off ho =>
        split at hk
        next t ht =>
          cases hk
          exact ⟨Nat.le_refl _, Nat.le_refl _⟩
        next => cases hk
      next => cases hk
  | lookupswitch dflt ps =>
    obtain ⟨x, rr, rfl, hj⟩ := kx_i_e hk
    clear hk
    have hk := hj
    clear hj
    split at hk
    next hq =>
      split at hk
      next t ht =>
        cases hk
        exact ⟨Nat.le_refl _, Nat.le_refl _⟩
      next => cases hk
    next => cases hk
  | getfield idx =>
    have hl : len = 3 := hlen
    subst hl
    obtain ⟨a, rr, rfl, hj⟩ := kx_a_e hk
    clear hk
    have hk := hj
    clear hj
    split at hk
    next host ci kf0 hf =>
      split at hk
      next cj tg ho =>
        split at hk
        next hcc =>
          subst hcc
          split at hk
          next g hg =>
            cases hk
            exact ⟨Nat.le_refl _, Nat.le_refl _⟩
          next => cases hk
        next => cases hk
      next => cases hk
    next => cases hk
  | putfield idx =>
    have hl : len = 3 := hlen
    subst hl
    obtain ⟨v, rr, rfl, hj⟩ := kx_v_e hk
    clear hk
    have hk := hj
    clear hj
    obtain ⟨a, rr, rfl, hj⟩ := kx_a_e hk
    clear hk
    have hk := hj
    clear hj
    split at hk
    next host ci kf0 hf =>
      split at hk
      next cj tg ho =>
        split at hk
        next hcc =>
          obtain ⟨hcc, hfin⟩ := hcc
          subst hcc
          split at hk
          next g hg =>
            split at hk
            next S2 hp =>
              cases hk
              have hcn : S2.2 = S.2 := kx_put_cnt hp
              exact ⟨Nat.le_of_eq (by rw [hcn]), Nat.le_of_eq (by rw [hcn])⟩
            next => cases hk
          next => cases hk
        next => cases hk
      next => cases hk
    next => cases hk
  | getstatic idx =>
    have hl : len = 3 := hlen
    subst hl
    have hk2 : (match ks (km_own E) idx with | some (_, k) => _ | none => none) = some f := hk
    split at hk2
    next host k0 hf =>
      cases hk2
      exact ⟨Nat.le_refl _, Nat.le_refl _⟩
    next => cases hk2
  | iaload =>
    have hl : len = 1 := hlen
    subst hl
    obtain ⟨j, a, rr, rfl, hj⟩ := kx_ia_e hk
    clear hk
    have hk := hj
    clear hj
    split at hk
    next t n b ha =>
      split at hk
      next hq =>
        obtain ⟨rfl, hin⟩ := hq
        cases hk
        exact ⟨Nat.le_refl _, Nat.le_refl _⟩
      next => cases hk
    next => cases hk
  | baload =>
    have hl : len = 1 := hlen
    subst hl
    obtain ⟨j, a, rr, rfl, hj⟩ := kx_ia_e hk
    clear hk
    have hk := hj
    clear hj
    split at hk
    next t n b ha =>
      split at hk
      next hq =>
        cases hk
        exact ⟨Nat.le_refl _, Nat.le_refl _⟩
      next => cases hk
    next => cases hk
  | aaload =>
    have hl : len = 1 := hlen
    subst hl
    obtain ⟨j, a, rr, rfl, hj⟩ := kx_ia_e hk
    clear hk
    have hk := hj
    clear hj
    split at hk
    next t n b ha =>
      split at hk
      next hq =>
        obtain ⟨rfl, hin⟩ := hq
        cases hk
        exact ⟨Nat.le_refl _, Nat.le_refl _⟩
      next => cases hk
    next => cases hk
  | arraylength =>
    have hl : len = 1 := hlen
    subst hl
    obtain ⟨a, rr, rfl, hj⟩ := kx_a_e hk
    clear hk
    have hk := hj
    clear hj
    split at hk
    next t n b ha =>
      split at hk
      next hq =>
        cases hk
        exact ⟨Nat.le_refl _, Nat.le_refl _⟩
      next => cases hk
    next => cases hk
  | iastore =>
    have hl : len = 1 := hlen
    subst hl
    obtain ⟨x, j, a, rr, rfl, hj⟩ := kx_iia_e hk
    clear hk
    have hk := hj
    clear hj
    split at hk
    next t n b ha =>
      split at hk
      next hq =>
        obtain ⟨rfl, hin⟩ := hq
        cases hk
        exact ⟨Nat.le_refl _, Nat.le_refl _⟩
      next => cases hk
    next => cases hk
  | bastore =>
    have hl : len = 1 := hlen
    subst hl
    obtain ⟨x, j, a, rr, rfl, hj⟩ := kx_iia_e hk
    clear hk
    have hk := hj
    clear hj
    split at hk
    next t n b ha =>
      split at hk
      next hq =>
        cases hk
        exact ⟨Nat.le_refl _, Nat.le_refl _⟩
      next => cases hk
    next => cases hk
  | new idx =>
    have hl : len = 3 := hlen
    subst hl
    have hk2 : (match kw (km_own E) idx with | some ci => _ | none => none) = some f := hk
    split at hk2
    next ci hf =>
      split at hk2
      next cj tg hly =>
        split at hk2
        next hq =>
          obtain ⟨hcc, hi0⟩ := hq
          subst hcc
          cases hk2
          exact ⟨Nat.le_add_right _ _, Nat.le_add_right _ _⟩
        next => cases hk2
      next => cases hk2
    next => cases hk2
  | newarray ty =>
    have hl : len = 2 := hlen
    subst hl
    obtain ⟨x, rr, rfl, hj⟩ := kx_i_e hk
    clear hk
    have hk := hj
    clear hj
    split at hk
    next t n b hly =>
      split at hk
      next hq =>
        obtain ⟨h1, h2, h3, h4, h5, h6⟩ := hq
        cases hk
        exact ⟨Nat.le_add_right _ _, Nat.le_add_right _ _⟩
      next => cases hk
    next => cases hk
  | multianewarray idx dm =>
    have hl : len = 4 := hlen
    subst hl
    rcases dm with _ | _ | _ | dm
    · have hk2 : (none : Option kx_F) = some f := hk
      cases hk2
    · have hk2 : (none : Option kx_F) = some f := hk
      cases hk2
    · obtain ⟨y, x, rr, rfl, hj⟩ := kx_ii_e hk
      clear hk
      have hk := hj
      clear hj
      split at hk
      next t n b hly =>
        split at hk
        next hq =>
          obtain ⟨h1, h2, h3, h4, h5, h6, h7, h8, h9, h10⟩ := hq
          subst h1
          cases hk
          exact ⟨by dsimp only; omega, by dsimp only; rw [Nat.add_assoc]; exact Nat.le_add_right _ _⟩
        next => cases hk
      next => cases hk
    · have hk2 : (none : Option kx_F) = some f := hk
      cases hk2
  | _ =>
    have hk2 : (none : Option kx_F) = some f := hk
    cases hk2
theorem kx_cp_mono {G : kg_G} {f l pc : Nat} {lv : List (Option Value)} {st : List Value} {S : ks_S} {g : kx_F} (hk : kx_cp G f l pc lv st S = some g) : S.2.2.1 ≤ g.2.2.2.2.2.1 ∧ S.2.2.2 ≤ g.2.2.2.2.2.2 := by
  unfold kx_cp at hk
  split at hk
  · split at hk
    · split at hk
      · split at hk
        · cases hk; exact ⟨Nat.le_refl _, Nat.le_refl _⟩
        · cases hk
      · cases hk
    · cases hk
  · cases hk
theorem kx_mm_mono {f l pc w : Nat} {lv : List (Option Value)} {st : List Value} {S : ks_S} {g : kx_F} (hk : kx_mm f l pc w lv st S = some g) : S.2.2.1 ≤ g.2.2.2.2.2.1 ∧ S.2.2.2 ≤ g.2.2.2.2.2.2 := by
  unfold kx_mm at hk
  split at hk
  · obtain ⟨y, x, rr, rfl, hj⟩ := kx_ii_e hk
    split at hj
    · cases hj; exact ⟨Nat.le_refl _, Nat.le_refl _⟩
    · cases hj
  · obtain ⟨y, x, rr, rfl, hj⟩ := kx_ii_e hk
    split at hj
    · cases hj; exact ⟨Nat.le_refl _, Nat.le_refl _⟩
    · cases hj
  · obtain ⟨x, rr, rfl, hj⟩ := kx_i_e hk
    split at hj
    · cases hj; exact ⟨Nat.le_refl _, Nat.le_refl _⟩
    · cases hj
theorem kx_ob1_mono {E : km_E} {pc : Nat} {lv : List (Option Value)} {st : List Value} {S : ks_S} {g : kx_F} (hk : kx_ob1 E pc lv st S = some g) : S.2.2.1 ≤ g.2.2.2.2.2.1 ∧ S.2.2.2 ≤ g.2.2.2.2.2.2 := by
  unfold kx_ob1 at hk
  split at hk
  · split at hk
    · cases hk; exact ⟨Nat.le_refl _, Nat.le_refl _⟩
    · cases hk
  · cases hk
theorem kr_on_e {run : kr_T} {E : km_E} {o : Option kx_F} {r : Option Value × ks_S} (h : kr_on run E o = some r) : ∃ f, o = some f ∧ run E f.1 f.2.1 f.2.2.1 f.2.2.2 = some r := by
  unfold kr_on at h
  split at h
  · exact ⟨_, rfl, h⟩
  · cases h
theorem kr_call_e {G : kg_G} {run : kr_T} {kd : Nat} {o : Option (Nat × String × km_E)} {E : km_E} {pc : Nat} {lv : List (Option Value)} {st : List Value} {S : ks_S} {r : Option Value × ks_S} (h : kr_call G run kd o E pc lv st S = some r) :
    ∃ k host E' v S', o = some (k, host, E') ∧ kx_ok G E E' kd k st S = true ∧ run E' 0 (kx_en (km_L E') ((st.take (km_na kd E')).reverse)) [] S = some (v, S') ∧ run E (pc + 3) lv (v.toList ++ st.drop (km_na kd E')) S' = some r := by
  unfold kr_call at h
  split at h
  next k host E' =>
    split at h
    next hok =>
      split at h
      next v S' hr => exact ⟨k, host, E', v, S', rfl, hok, hr, h⟩
      next => cases h
    next => cases h
  next => cases h
set_option maxHeartbeats 4000000 in
theorem kr_mono {w : kw_W} : ∀ {n : Nat} {E : km_E} {pc : Nat} {lv : List (Option Value)} {st : List Value} {S : ks_S} {v : Option Value} {S' : ks_S}, kr w.1 n E pc lv st S = some (v, S') → S.2.2.1 ≤ S'.2.2.1 ∧ S.2.2.2 ≤ S'.2.2.2 := by
  intro n
  induction n with
  | zero => intro E pc lv st S v S' h; cases h
  | succ n ih =>
    intro E pc lv st S v S' h
    have tr : ∀ {f : kx_F}, (S.2.2.1 ≤ f.2.2.2.2.2.1 ∧ S.2.2.2 ≤ f.2.2.2.2.2.2) → kr w.1 n E f.1 f.2.1 f.2.2.1 f.2.2.2 = some (v, S') → S.2.2.1 ≤ S'.2.2.1 ∧ S.2.2.2 ≤ S'.2.2.2 := fun h1 h2 => ⟨Nat.le_trans h1.1 (ih h2).1, Nat.le_trans h1.2 (ih h2).2⟩
    have cl : ∀ {kd : Nat} {o : Option (Nat × String × km_E)}, kr_call w.1 (kr w.1 n) kd o E pc lv st S = some (v, S') → S.2.2.1 ≤ S'.2.2.1 ∧ S.2.2.2 ≤ S'.2.2.2 := fun hc => by
      obtain ⟨k, host, E', v1, S1, -, -, h1, h2⟩ := kr_call_e hc
      exact ⟨Nat.le_trans (ih h1).1 (ih h2).1, Nat.le_trans (ih h1).2 (ih h2).2⟩
    have rt : ∀ {kd : Nat}, kr_ret kd E st S = some (v, S') → S.2.2.1 ≤ S'.2.2.1 ∧ S.2.2.2 ≤ S'.2.2.2 := fun hc => by
      unfold kr_ret at hc
      split at hc
      · split at hc
        · cases hc; exact ⟨Nat.le_refl _, Nat.le_refl _⟩
        · cases hc
      · cases hc
    have h : kr_step w.1 (kr w.1 n) E pc lv st S = some (v, S') := h
    unfold kr_step at h
    split at h
    · cases h
    · split at h
      next hlen =>
        split at h
        · exact rt h
        · exact rt h
        · exact rt h
        · split at h
          · cases h; exact ⟨Nat.le_refl _, Nat.le_refl _⟩
          · cases h
        · exact cl h
        · split at h
          · obtain ⟨f, h1, h2⟩ := kr_on_e h
            exact tr (kx_cp_mono h1) h2
          · split at h
            · obtain ⟨f, h1, h2⟩ := kr_on_e h
              exact tr (kx_mm_mono h1) h2
            · exact cl h
        · split at h
          · obtain ⟨f, h1, h2⟩ := kr_on_e h
            exact tr (kx_ob1_mono h1) h2
          · exact cl h
        · obtain ⟨f, h1, h2⟩ := kr_on_e h
          exact tr (kx_mono hlen h1) h2
      next => cases h
