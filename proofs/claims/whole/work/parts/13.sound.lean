/-! THE PURE MACHINE IS SOUND: what it comes to, the machine comes to. -/
set_option maxHeartbeats 8000000 in
theorem kz_ret {l : Launch} {w : kw_W} {E : km_E} {st : List Value} {S S' : ks_S} {v : Option Value} {pc kd : Nat} {lv : List (Option Value)} (h : kr_ret kd E st S = some (v, S')) {p : Program} {e : Env} {s : State} {m : MethodId} {args : Array Value} {below : List Frame} {meth : Method} {c : Code} {cells slots mc ms : Nat} (X : kz_X w p s m args meth c E) (hmc : mc = cells + (S'.2.2.1 - S.2.2.1)) (hms : ms = slots + (S'.2.2.2 - S.2.2.2))
    (hd : (kd = 0 ∧ decode (km_c E) pc = .ok (.ireturn, 1)) ∨ (kd = 1 ∧ decode (km_c E) pc = .ok (.lreturn, 1)) ∨ (kd = 2 ∧ decode (km_c E) pc = .ok (.areturn, 1))) : kz_go p l e (kz_rm E mc ms) s m args below meth c (MQ below (kz_Qc w v S') args s mc ms (kz_A w)) w E cells slots (pc, lv, st, S) := by
  have id0 : ∀ a b : Nat, a + (b - b) = a := fun a b => by omega
  unfold kr_ret at h
  split at h
  next v0 =>
    split at h
    next hq =>
      cases h
      rw [id0] at hmc hms
      subst hmc
      subst hms
      rcases hd with ⟨rfl, hd⟩ | ⟨rfl, hd⟩ | ⟨rfl, hd⟩
      · cases v0 with
        | int x =>
          have hq : (match km_r E with | some .int => true | some .boolean => decide (x = 0 ∨ x = 1) | _ => false) = true := hq
          split at hq
          next hr => exact fun H ls locs hR hlv hloc => W.iret X.1 X.2.1 (X.2.2.2.1.trans hr) (fun t ht hW => ⟨rfl, by rw [ht]; exact hR.moved hW.alike⟩) hloc hd X.2.2.2.2.2.2.2.1
          next hr =>
            have hx := of_decide_eq_true hq
            exact fun H ls locs hR hlv hloc => W.zret X.1 X.2.1 (X.2.2.2.1.trans hr) (by rcases hx with rfl | rfl <;> rfl) (fun t ht hW => ⟨rfl, by rw [ht]; exact hR.moved hW.alike⟩) hloc hd X.2.2.2.2.2.2.2.1
          next => cases hq
        | _ => cases hq
      · cases v0 with
        | long x =>
          have hq : (match km_r E with | some .long => true | _ => false) = true := hq
          split at hq
          next hr => exact fun H ls locs hR hlv hloc => W.lret X.1 X.2.1 (X.2.2.2.1.trans hr) (fun t ht hW => ⟨rfl, by rw [ht]; exact hR.moved hW.alike⟩) hloc hd X.2.2.2.2.2.2.2.1
          next => cases hq
        | _ => cases hq
      · cases v0 with
        | ref x =>
          have hq : (match km_r E with | some (.object _) => true | _ => false) = true := hq
          split at hq
          next n hr => exact fun H ls locs hR hlv hloc => W.aret (v := .ref (kz_ad w x)) X.1 X.2.1 (X.2.2.2.1.trans hr) (Or.inl ⟨n, rfl⟩) (Or.inr ⟨_, rfl⟩) (fun t ht hW => ⟨rfl, by rw [ht]; exact hR.moved hW.alike⟩) hloc hd X.2.2.2.2.2.2.2.1
          next => cases hq
        | _ => cases hq
    next => cases h
  next => cases h
set_option maxHeartbeats 8000000 in
theorem kz_sound (l : Launch) {w : kw_W} (hL : kz_L w) : ∀ n, kz_snd l w n := by
  intro n
  induction n with
  | zero => intro E pc lv st S v S' h; cases h
  | succ n ih =>
    intro E pc lv st S v S' h p e s m args below meth c cells slots mc ms X hmc hms
    have h : kr_step w.1 (kr w.1 n) E pc lv st S = some (v, S') := h
    have tr : ∀ {f : kx_F}, (S.2.2.1 ≤ f.2.2.2.2.2.1 ∧ S.2.2.2 ≤ f.2.2.2.2.2.2) → kr w.1 n E f.1 f.2.1 f.2.2.1 f.2.2.2 = some (v, S') →
        (cells + (f.2.2.2.2.2.1 - S.2.2.1) ≤ mc ∧ slots + (f.2.2.2.2.2.2 - S.2.2.2) ≤ ms) ∧ kz_go p l e (kz_rm E mc ms) s m args below meth c (MQ below (kz_Qc w v S') args s mc ms (kz_A w)) w E (cells + (f.2.2.2.2.2.1 - S.2.2.1)) (slots + (f.2.2.2.2.2.2 - S.2.2.2)) f := fun h1 h2 => by
      have h3 := kr_mono h2
      refine ⟨⟨by omega, by omega⟩, ?_⟩
      exact ih E _ _ _ _ v S' h2 p e s m args below meth c _ _ mc ms X (by omega) (by omega)
    have cl : ∀ {kd idx : Nat} {i : Instr}, ((kd = 0 ∧ i = .invokevirtual idx) ∨ (kd = 1 ∧ i = .invokestatic idx) ∨ (kd = 2 ∧ i = .invokespecial idx)) → decode (km_c E) pc = .ok (i, 3) → kr_call w.1 (kr w.1 n) kd (kc (km_own E) idx) E pc lv st S = some (v, S') → kz_go p l e (kz_rm E mc ms) s m args below meth c (MQ below (kz_Qc w v S') args s mc ms (kz_A w)) w E cells slots (pc, lv, st, S) := fun hkd hd hc => by
      obtain ⟨k, host, E', v1, S1, hkc, hok, h1, h2⟩ := kr_call_e hc
      have m1 := kr_mono h1
      have m2 := kr_mono h2
      exact kz_call X hL ih hkd hd hkc hok h1 (by omega) (by omega) (ih E _ _ _ _ v S' h2 p e s m args below meth c _ _ mc ms X (by omega) (by omega))
    have id0 : ∀ a b : Nat, a + (b - b) = a := fun a b => by omega
    unfold kr_step at h
    split at h
    · cases h
    next i len hd =>
      split at h
      next hlen =>
        split at h
        · have hl : len = 1 := hlen
          subst hl
          exact kz_ret h X hmc hms (Or.inl ⟨rfl, hd⟩)
        · have hl : len = 1 := hlen
          subst hl
          exact kz_ret h X hmc hms (Or.inr (Or.inl ⟨rfl, hd⟩))
        · have hl : len = 1 := hlen
          subst hl
          exact kz_ret h X hmc hms (Or.inr (Or.inr ⟨rfl, hd⟩))
        · have hl : len = 1 := hlen
          subst hl
          split at h
          next hq =>
            cases h
            rw [id0] at hmc hms
            subst hmc
            subst hms
            have hst : st = [] := List.isEmpty_iff.mp hq.1
            subst hst
            exact fun H ls locs hR hlv hloc => W.vret X.1 X.2.1 (X.2.2.2.1.trans hq.2) (fun t ht hW => ⟨rfl, by rw [ht]; exact hR.moved hW.alike⟩) hloc hd X.2.2.2.2.2.2.2.1
          next => cases h
        · have hl : len = 3 := hlen
          subst hl
          exact cl (Or.inl ⟨rfl, rfl⟩) hd h
        · have hl : len = 3 := hlen
          subst hl
          split at h
          next hcp =>
            obtain ⟨f, h1, h2⟩ := kr_on_e h
            obtain ⟨h3, h4⟩ := tr (kx_cp_mono h1) h2
            have hz := kx_cp_cnt h1
            rw [hz, id0, id0] at h4
            exact kz_cpy X hL hcp hd h1 rfl rfl h4
          next hcp =>
            split at h
            next v0 hv0 =>
              obtain ⟨f, h1, h2⟩ := kr_on_e h
              obtain ⟨h3, h4⟩ := tr (kx_mm_mono h1) h2
              have hz := kx_mm_cnt h1
              rw [hz, id0, id0] at h4
              exact kz_mm X hv0 hd h1 rfl rfl (by show cells ≤ mc; omega) (by show slots ≤ ms; omega) h4
            next => exact cl (Or.inr (Or.inl ⟨rfl, rfl⟩)) hd h
        · have hl : len = 3 := hlen
          subst hl
          split at h
          next hcp =>
            obtain ⟨f, h1, h2⟩ := kr_on_e h
            obtain ⟨h3, h4⟩ := tr (kx_ob1_mono h1) h2
            have hz := kx_ob1_cnt h1
            rw [hz, id0, id0] at h4
            exact kz_obj X hcp hd h1 rfl rfl h4
          next => exact cl (Or.inr (Or.inr ⟨rfl, rfl⟩)) hd h
        · obtain ⟨f, h1, h2⟩ := kr_on_e h
          obtain ⟨h3, h4⟩ := tr (kx_mono hlen h1) h2
          exact kx_snd X hL hd hlen h1 h3.1 h3.2 h4
      next => cases h
