/-! Calls: a method's contract out of the pure machine's run of it, and what follows behind the call. -/
def kz_Pc (w : kw_W) (S : ks_S) (vs : List Value) : Array Value → State → Prop := va_Pc (vs.map (kv (kz_ad w))) (fun U => kz_R w S U U.heap ∧ kz_K w U)
def kz_Qc (w : kw_W) (v : Option Value) (S' : ks_S) : Array Value → State → Outcome → State → Prop := fun _ _ o t => o = .returned (v.map (kv (kz_ad w))) ∧ kz_R w S' t t.heap
def kz_ws' (E : km_E) : List Cond := Cond.code (km_y E) (km_c E) (km_L E) (km_r E) :: gw
def kz_rm (E : km_E) (mc ms : Nat) : Room := { frames := km_f E, cells := mc, slots := ms, locals := km_l E }
theorem kz_blind (w : kw_W) (S : ks_S) (vs : List Value) : FrameBlind (kz_Pc w S vs) := fun a U g mk h => ⟨h.1, kz_R.moved (u := U) (U := U.calling g mk a) (Vm.Alike.refl U.vm) h.2.1, kz_K.same (u := U) (U := U.calling g mk a) rfl h.2.2⟩
theorem kz_good {ws : List Cond} (h : ∀ x ∈ ws, x ∈ gw) : GoodIn gw ws := fun x hx => ⟨h x hx, good_of_word (List.mem_filter.mp (h x hx)).2⟩
theorem kz_ens (w : kw_W) : ∀ (vs : List Value) (n k : Nat) (i : Nat) (v : Value), (kx_en n vs)[i]? = some (some v) → (k + i, kv (kz_ad w) v) ∈ lv_args k (vs.map (kv (kz_ad w)))
  | [], n, k, i, v, h => by
    have h2 := List.mem_of_getElem? h
    have h3 := List.eq_of_mem_replicate h2
    cases h3
  | u :: vs, n, k, i, v, h => by
    unfold kx_en at h
    show (k + i, kv (kz_ad w) v) ∈ (k, kv (kz_ad w) u) :: lv_args (if (kv (kz_ad w) u).category = 2 then k + 2 else k + 1) (vs.map (kv (kz_ad w)))
    rw [kv_cat]
    by_cases hc : u.category = 2
    · rw [if_pos hc] at h ⊢
      match i, h with
      | 0, h => cases h; exact List.mem_cons_self
      | 1, h => cases h
      | i + 2, h =>
        have h2 := kz_ens w vs (n - 2) (k + 2) i v h
        rw [show k + (i + 2) = k + 2 + i by omega]
        exact List.mem_cons_of_mem _ h2
    · rw [if_neg hc] at h ⊢
      match i, h with
      | 0, h => cases h; exact List.mem_cons_self
      | i + 1, h =>
        have h2 := kz_ens w vs (n - 1) (k + 1) i v h
        rw [show k + (i + 1) = k + 1 + i by omega]
        exact List.mem_cons_of_mem _ h2
theorem kz_lsl (ad : Nat → Nat) : ∀ (vs : List Value), (lg_sl (vs.map (kv ad))).length = (lg_sl vs).length
  | [] => rfl
  | v :: vs => by
    have h := kz_lsl ad vs
    simp only [lg_sl, List.map_cons, List.flatMap_cons, List.length_append, kv_cat] at h ⊢
    rw [h]
    split <;> rfl
/-- the runs of n steps are sound -/
def kz_snd (l : Launch) (w : kw_W) (n : Nat) : Prop := ∀ (E : km_E) (pc : Nat) (lv : List (Option Value)) (st : List Value) (S : ks_S) (v : Option Value) (S' : ks_S), kr w.1 n E pc lv st S = some (v, S') →
  ∀ (p : Program) (e : Env) (s : State) (m : MethodId) (args : Array Value) (below : List Frame) (meth : Method) (c : Code) (cells slots mc ms : Nat), kz_X w p s m args meth c E → mc = cells + (S'.2.2.1 - S.2.2.1) → ms = slots + (S'.2.2.2 - S.2.2.2) →
  kz_go p l e (kz_rm E mc ms) s m args below meth c (MQ below (kz_Qc w v S') args s mc ms (kz_A w)) w E cells slots (pc, lv, st, S)
set_option maxHeartbeats 4000000 in
theorem kz_met {l : Launch} {w : kw_W} {n : Nat} (hP : kz_snd l w n) {E : km_E} (hpl : plainName (km_y E).cls = true) (hcls : (km_y E).cls = kn (km_own E)) {vs : List Value} {S S' : ks_S} {v : Option Value} (h : kr w.1 n E 0 (kx_en (km_L E) vs) [] S = some (v, S')) (hlen : kx_len vs ≤ km_L E) :
    Met l (km_y E) (kz_ws' E) (kz_rm E (S'.2.2.1 - S.2.2.1) (S'.2.2.2 - S.2.2.2)) (kz_Pc w S vs) (kz_Qc w v S') (S'.2.2.1 - S.2.2.1) (S'.2.2.2 - S.2.2.2) (kz_A w) := by
  refine Met.ofW (cc := km_c E) (maxL := km_L E) (ret := km_r E) hpl rfl ?_
  intro p e s m args below meth c s₁ B hml hv
  obtain ⟨rfl, hR, hK⟩ := hv
  have hts := atoms_spec (ws := kz_ws' E) B.pre
  have hown : s.vm.findClass (km_y E).cls = some m.cls := findClass_of_methodNamed B.named
  have X : kz_X w p s m (vs.map (kv (kz_ad w))).toArray meth c E := ⟨B.exec, B.bytes, hml, B.returns, by rw [← hcls]; exact hown, fun x hx => hts x (List.mem_cons_of_mem _ hx), hK, B.notSynchronized, fun h => (name_of_methodNamed B.named B.method).1.trans h, hcls⟩
  have hl := lv_entry (vs.map (kv (kz_ad w))) (n := km_L E) (by rw [kz_lsl]; exact hlen)
  rw [lg_entry_eq]
  have hl := kz_sub hl (fun q hq => by
    obtain ⟨u, h1, h2⟩ := kz_lv_mem hq
    have h3 := kz_ens w vs (km_L E) 0 q.1 u h1
    rw [Nat.zero_add, ← h2] at h3
    exact h3 : ∀ q ∈ kz_lv w (kx_en (km_L E) vs), q ∈ lv_args 0 (vs.map (kv (kz_ad w))))
  exact hP E 0 (kx_en (km_L E) vs) [] S v S' h p e s m _ below meth c 0 0 _ _ X (Nat.zero_add _).symm (Nat.zero_add _).symm s.heap _ [] hR hl (fun q hq => by cases hq)
section KR5
variable {p : Program} {l : Launch} {e : Env} {R : Room} {s : State} {m : MethodId} {args : Array Value} {below : List Frame} {meth : Method} {c : Code} {Q : State → Prop} {w : kw_W} {E : km_E} {cells slots pc mc ms : Nat} {lv : List (Option Value)} {S' : ks_S} {H : Heap} {locs : List Loc} {ls : Array Slot}
theorem kz_ran {st0 rest : List Value} {v : Option Value} {a : Array Value} (hrun : va_Run p l e R s m args below meth c H locs cells slots mc ms (F0 m pc ls st0) (rest.map (kv (kz_ad w))) (kz_Qc w v S' a) (kz_A w)) (hlv : lv_has ls (km_L E) (kz_lv w lv)) (hloc : ∀ q ∈ locs, kz_A w q.base)
    (k : kz_go p l e R s m args below meth c Q w E (cells + mc) (slots + ms) (pc + 3, lv, v.toList ++ rest, S')) : W p l e R s m args below meth c H locs cells slots Q (F0 m pc ls st0) := by
  intro T hT X
  obtain ⟨v', st₀, t, T', L, h0, X', hL, e1, e2, ⟨hv, hR⟩, st⟩ := hrun T hT X
  cases hv
  have hal : t.vm.Alike s.vm := by rw [← e2]; exact X'.warmed.alike.symm
  obtain ⟨t2, a1, b1⟩ := k T'.heap ls (locs ++ L) (by rw [e1]; exact hR.moved hal) hlv (fun q hq => by
    rcases List.mem_append.mp hq with h | h
    · exact hloc q h
    · exact hL q h) T' rfl X'
  refine ⟨t2, st t2 ?_, b1⟩
  have hst : (v.map (kv (kz_ad w))).toList ++ rest.map (kv (kz_ad w)) = (v.toList ++ rest).map (kv (kz_ad w)) := by
    cases v <;> rfl
  rw [hst]
  exact a1
end KR5
theorem kx_ok_e {G : kg_G} {E E' : km_E} {kd k : Nat} {st : List Value} {S : ks_S} (h : kx_ok G E E' kd k st S = true) : (k = kd ∧ km_f E' + 1 ≤ km_f E ∧ 8 + (km_L E' + 11) + km_l E' ≤ km_l E ∧ km_na kd E' ≤ st.length ∧ kx_cat (st.drop (km_na kd E')) ≤ 8 ∧ kx_len ((st.take (km_na kd E')).reverse) ≤ km_L E') ∧ (kd = 1 ∨ kx_rcv G S (km_own E') ((st.take (km_na kd E')).reverse) = true) := by
  unfold kx_ok at h
  rw [Bool.and_eq_true] at h
  refine ⟨of_decide_eq_true h.1, ?_⟩
  have h2 := h.2
  rw [Bool.or_eq_true] at h2
  rcases h2 with h2 | h2
  · exact Or.inl (by simpa using h2)
  · exact Or.inr h2
theorem kx_rcv_e {G : kg_G} {S : ks_S} {own : Nat} {vs : List Value} (h : kx_rcv G S own vs = true) : ∃ a As tg, vs = .ref a :: As ∧ kg_ob G S a = some (own, tg) := by
  unfold kx_rcv at h
  split at h
  next a As =>
    have h2 := of_decide_eq_true h
    cases ho : kg_ob G S a with
    | none => rw [ho] at h2; cases h2
    | some o =>
      rw [ho] at h2
      obtain ⟨c, tg⟩ := o
      have h3 : c = own := Option.some.inj h2
      subst h3
      exact ⟨a, As, tg, rfl, ho⟩
  next => cases h
section KR6
variable {p : Program} {l : Launch} {e : Env} {s : State} {m : MethodId} {args : Array Value} {below : List Frame} {meth : Method} {c : Code} {Q : State → Prop} {w : kw_W} {E : km_E} {cells slots pc mc ms n : Nat} {lv : List (Option Value)} {st : List Value} {S : ks_S}
set_option maxHeartbeats 8000000 in
/-- a call of another method -/
theorem kz_call (X : kz_X w p s m args meth c E) (hL : kz_L w) (hP : kz_snd l w n) {kd idx k : Nat} {host : String} {E' : km_E} {v : Option Value} {S1 : ks_S} {i : Instr} (hkd : (kd = 0 ∧ i = .invokevirtual idx) ∨ (kd = 1 ∧ i = .invokestatic idx) ∨ (kd = 2 ∧ i = .invokespecial idx)) (hd : decode (km_c E) pc = .ok (i, 3)) (hc : kc (km_own E) idx = some (k, host, E')) (hok : kx_ok w.1 E E' kd k st S = true) (hrun : kr w.1 n E' 0 (kx_en (km_L E') ((st.take (km_na kd E')).reverse)) [] S = some (v, S1))
    (hmc : cells + (S1.2.2.1 - S.2.2.1) ≤ mc) (hms : slots + (S1.2.2.2 - S.2.2.2) ≤ ms) (kk : kz_go p l e (kz_rm E mc ms) s m args below meth c Q w E (cells + (S1.2.2.1 - S.2.2.1)) (slots + (S1.2.2.2 - S.2.2.2)) (pc + 3, lv, v.toList ++ st.drop (km_na kd E'), S1)) :
    kz_go p l e (kz_rm E mc ms) s m args below meth c Q w E cells slots (pc, lv, st, S) := by
  obtain ⟨hx, hb, hml, hr, hown, hts, hKK, hlk, hnm, hcl⟩ := id X
  obtain ⟨hK, hN, -⟩ := id hKK
  obtain ⟨⟨rfl, hf1, hf2, hf3, hf4, hf5⟩, hrc⟩ := kx_ok_e hok
  obtain ⟨g1, g2, g3, g4, g5, g6, g7, g8, g9, g10⟩ := kc_e hc
  have g1 : host = "" → Cond.methodLink (kn (km_own E)) idx (km_y E') ∈ gw := g1
  have g2 : ¬ host = "" → Cond.methodLinkNest (kn (km_own E)) idx (km_y E') host ∈ nw := g2
  have g3 : Cond.code (km_y E') (km_c E') (km_L E') (km_r E') ∈ gw := g3
  have g4 : Cond.initialized (km_y E').cls ∈ gw := g4
  have g5 : (km_y E').cls ≠ "java/lang/invoke/MethodHandle" ∧ (km_y E').cls ≠ "java/lang/invoke/VarHandle" ∧ (parseMethodDescriptor (km_y E').desc).map (fun d => d.parameters.length) = some (km_n E') := g5
  have g6 : (km_y E').cls = kn (km_own E') := g6
  have hM := kz_met hP g7 g6 hrun hf5
  have hwin : ∀ x ∈ kz_ws' E', x ∈ gw := fun x hx => (List.mem_cons.mp hx).elim (fun q => q ▸ g3) (fun q => q)
  have hG : GoodIn gw (kz_ws' E') := kz_good hwin
  have hRm : (kz_rm E' (S1.2.2.1 - S.2.2.1) (S1.2.2.2 - S.2.2.2)).frames + 1 ≤ (kz_rm E mc ms).frames ∧ 8 + (km_L E' + 11) + (kz_rm E' (S1.2.2.1 - S.2.2.1) (S1.2.2.2 - S.2.2.2)).locals ≤ (kz_rm E mc ms).locals := ⟨hf1, hf2⟩
  intro H ls locs hR hlv hloc
  have hst : st = ((st.take (km_na k E')).reverse).reverse ++ st.drop (km_na k E') := by rw [List.reverse_reverse, List.take_append_drop]
  have hvl : ((st.take (km_na k E')).reverse).length = km_na k E' := by rw [List.length_reverse, List.length_take, Nat.min_eq_left hf3]
  generalize hvs : (st.take (km_na k E')).reverse = vs at *
  generalize hrr : st.drop (km_na k E') = rest at *
  have hsize : (F0 m pc ls (st.map (kv (kz_ad w)))).locals.size = km_L E := hlv.1
  have hcat : 2 * (F0 m pc ls (st.map (kv (kz_ad w)))).monitorRoom + ((rest.map (kv (kz_ad w))).map fun v => v.category).sum ≤ 8 := by
    rw [kz_catm]
    show 2 * 0 + _ ≤ 8
    omega
  have hpre : ∀ U : State, U.heap = H → s.WarmedH U.vm → kz_Pc w S vs (vs.map (kv (kz_ad w))).toArray U := fun U hU hW => ⟨rfl, by rw [hU]; exact hR.moved hW.alike, hKK.moved hW⟩
  have hcells : cells + (S1.2.2.1 - S.2.2.1) ≤ (kz_rm E mc ms).cells ∧ slots + (S1.2.2.2 - S.2.2.2) ≤ (kz_rm E mc ms).slots := ⟨hmc, hms⟩
  rcases hkd with ⟨rfl, rfl⟩ | ⟨rfl, rfl⟩ | ⟨rfl, rfl⟩
  · obtain ⟨a, As, tg, rfl, hob⟩ := kx_rcv_e (hrc.resolve_left (by decide))
    obtain ⟨hly, hi, hp⟩ := kg_ob_e hob
    have hci := (hL.2.2 a _ tg hly).2.1
    have hrec := va_recv hK (va_P1 (hR.2.1 a _ hi hly hp)) (kf_Cat hci) (q0 := 0) rfl
    rw [kz_cn hci, ← g6] at hrec
    have hn : (As.map (kv (kz_ad w))).length = km_n E' := by
      rw [List.length_map]
      have : As.length + 1 = km_n E' + 1 := hvl
      omega
    have hstk : (F0 m pc ls (st.map (kv (kz_ad w)))).stack = (As.map (kv (kz_ad w))).reverse ++ .ref (kz_ad w a) :: rest.map (kv (kz_ad w)) := by
      show st.map (kv (kz_ad w)) = _
      rw [hst, List.reverse_cons, List.map_append, List.map_append, List.map_reverse, List.append_assoc]
      rfl
    by_cases hh : host = ""
    · have hV : ∀ x ∈ wsV (kn (km_own E)) idx (km_y E').cls (km_y E') (kz_ws' E'), x ∈ gw := by
        intro x hx
        unfold wsV at hx
        rcases List.mem_append.mp hx with hx | hx
        · simp only [List.mem_cons, List.not_mem_nil, or_false] at hx
          rcases hx with rfl | rfl | rfl | rfl
          · exact g1 hh
          · exact (g8 rfl).1
          · exact (g8 rfl).2
          · exact g4
        · exact hwin x hx
      exact kz_ran (va_runV (As := As.map (kv (kz_ad w))) ⟨hx, hb, hml, hown, hts⟩ hM (cwV (km_n E') hts (kz_good hV) rfl rfl rfl ⟨rfl, g5⟩ hRm) ⟨kz_blind w S _, hrec, hpre⟩ rfl hn hsize hstk hcat hd hcells) hlv hloc kk
    · exact kz_ran (va_runVN (host := host) (C := (km_y E').cls) (As := As.map (kv (kz_ad w))) ⟨hx, hb, hml, hown, hts⟩ hM ⟨va_cnB (km_n E') hts hG rfl rfl rfl (hN _ (g2 hh)) (hts _ g4) g5 hRm, hts _ (g8 rfl).1, hts _ (g8 rfl).2⟩ ⟨kz_blind w S _, hrec, hpre⟩ rfl hn hsize hstk hcat hd hcells) hlv hloc kk
  · have hn : (vs.map (kv (kz_ad w))).length = km_n E' := by
      rw [List.length_map]
      exact hvl
    have hstk : (F0 m pc ls (st.map (kv (kz_ad w)))).stack = (vs.map (kv (kz_ad w))).reverse ++ rest.map (kv (kz_ad w)) := by
      show st.map (kv (kz_ad w)) = _
      rw [hst, List.map_append, List.map_reverse]
    by_cases hh : host = ""
    · have hV : ∀ x ∈ va_wsS (kn (km_own E)) idx (km_y E') (kz_ws' E'), x ∈ gw := by
        intro x hx
        unfold va_wsS at hx
        rcases List.mem_append.mp hx with hx | hx
        · simp only [List.mem_cons, List.not_mem_nil, or_false] at hx
          rcases hx with rfl | rfl | rfl
          · exact g1 hh
          · exact g9 rfl
          · exact g4
        · exact hwin x hx
      exact kz_ran (va_runS ⟨hx, hb, hml, hown, hts⟩ hM (va_cwS (km_n E') hts (kz_good hV) rfl rfl rfl g5 hRm) ⟨kz_blind w S _, hpre⟩ rfl hn hsize hstk hcat hd hcells) hlv hloc kk
    · exact kz_ran (va_runSN (host := host) ⟨hx, hb, hml, hown, hts⟩ hM ⟨va_cnB (km_n E') hts hG rfl rfl rfl (hN _ (g2 hh)) (hts _ g4) g5 hRm, hts _ (g9 rfl), trivial⟩ ⟨kz_blind w S _, hpre⟩ rfl hn hsize hstk hcat hd hcells) hlv hloc kk
  · obtain ⟨a, As, tg, rfl, hob⟩ := kx_rcv_e (hrc.resolve_left (by decide))
    obtain ⟨q1, q2, q3⟩ := g10 rfl
    have q3 : km_r E' = none := q3
    have hn : (As.map (kv (kz_ad w))).length = km_n E' := by
      rw [List.length_map]
      have : As.length + 1 = km_n E' + 1 := hvl
      omega
    have hstk : (F0 m pc ls (st.map (kv (kz_ad w)))).stack = (As.map (kv (kz_ad w))).reverse ++ .ref (kz_ad w a) :: rest.map (kv (kz_ad w)) := by
      show st.map (kv (kz_ad w)) = _
      rw [hst, List.reverse_cons, List.map_append, List.map_append, List.map_reverse, List.append_assoc]
      rfl
    have hw : kz_ws' E' = Cond.code (km_y E') (km_c E') (km_L E') none :: gw := by rw [← q3]; rfl
    by_cases hh : host = ""
    · exact kz_ran (va_runI (As := As.map (kv (kz_ad w))) ⟨hx, hb, hml, hown, hts⟩ hM (cwI (km_n E') hts hG hw rfl rfl (hts _ g4) (hts _ (g1 hh)) (hts _ q1) q2 g5 hRm) ⟨kz_blind w S _, hpre⟩ rfl hn hsize hstk hcat hd hcells) hlv hloc kk
    · exact kz_ran (va_runIN (host := host) (As := As.map (kv (kz_ad w))) ⟨hx, hb, hml, hown, hts⟩ hM ⟨va_cnB (km_n E') hts hG hw rfl rfl (hN _ (g2 hh)) (hts _ g4) g5 hRm, q2, hts _ q1⟩ ⟨kz_blind w S _, hpre⟩ rfl hn hsize hstk hcat hd hcells) hlv hloc kk
end KR6
