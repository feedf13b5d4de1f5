/-! An instruction of the pure machine is one of the machine: lookups, stack shapes, then the heap's instructions. -/
def kz_X (w : kw_W) (p : Program) (s : State) (m : MethodId) (args : Array Value) (meth : Method) (c : Code) (E : km_E) : Prop :=
  p.tables.exec = Jvm.exec ∧ c.code = km_c E ∧ c.maxLocals = km_L E ∧ meth.sig.returnType = km_r E ∧ s.vm.findClass (kn (km_own E)) = some m.cls ∧ (∀ x ∈ gw, x.before args s = true) ∧ kz_K w s ∧ meth.locks = false ∧ ((km_y E).name = "<init>" → meth.name = "<init>") ∧ (km_y E).cls = kn (km_own E)
/-- the locals, by number -/
def kz_lv (w : kw_W) (lv : List (Option Value)) : List (Nat × Value) := lv.zipIdx.filterMap (fun q => q.1.map (fun v => (q.2, kv (kz_ad w) v)))
theorem kz_lv_mem {w : kw_W} {lv : List (Option Value)} {q : Nat × Value} (h : q ∈ kz_lv w lv) : ∃ v, lv[q.1]? = some (some v) ∧ q.2 = kv (kz_ad w) v := by
  obtain ⟨⟨o, i⟩, h1, h2⟩ := List.mem_filterMap.mp h
  have h3 := List.mem_zipIdx_iff_getElem?.mp h1
  obtain ⟨v, hv, rfl⟩ := Option.map_eq_some_iff.mp h2
  have hv : o = some v := hv
  subst hv
  exact ⟨v, h3, rfl⟩
theorem kz_mem_lv {w : kw_W} {lv : List (Option Value)} {i : Nat} {v : Value} (h : lv[i]? = some (some v)) : (i, kv (kz_ad w) v) ∈ kz_lv w lv :=
  List.mem_filterMap.mpr ⟨(some v, i), List.mem_zipIdx_iff_getElem?.mpr h, rfl⟩
def kz_go (p : Program) (l : Launch) (e : Env) (R : Room) (s : State) (m : MethodId) (args : Array Value) (below : List Frame) (meth : Method) (c : Code) (Q : State → Prop) (w : kw_W) (E : km_E) (cells slots : Nat) (f : kx_F) : Prop :=
  ∀ (H : Heap) (ls : Array Slot) (locs : List Loc), kz_R w f.2.2.2 s H → lv_has ls (km_L E) (kz_lv w f.2.1) → (∀ q ∈ locs, kz_A w q.base) → W p l e R s m args below meth c H locs cells slots Q (F0 m f.1 ls (f.2.2.1.map (kv (kz_ad w))))
theorem kz_find {α β : Type} {l : List α} {p : α → Bool} {f : α → β} {v : β} (h : (l.find? p).map f = some v) : ∃ a ∈ l, p a = true ∧ f a = v := by
  cases hf : l.find? p with
  | none => rw [hf] at h; cases h
  | some a =>
    rw [hf] at h
    exact ⟨a, List.mem_of_find?_eq_some hf, List.find?_some hf, Option.some.inj h⟩
theorem kf_e {own idx : Nat} {host : String} {ci k : Nat} (h : kf own idx = some (host, ci, k)) : kf_P (own, idx, host, ci, k) := by
  obtain ⟨⟨a, b, r⟩, he, hp, hv⟩ := kz_find h
  simp only [Bool.and_eq_true, beq_iff_eq] at hp
  obtain ⟨rfl, rfl⟩ := hp
  subst hv
  exact kf_all _ he
theorem ks_e {own idx : Nat} {host : String} {k : Nat} (h : ks own idx = some (host, k)) : ks_P (own, idx, host, k) := by
  obtain ⟨⟨a, b, r⟩, he, hp, hv⟩ := kz_find h
  simp only [Bool.and_eq_true, beq_iff_eq] at hp
  obtain ⟨rfl, rfl⟩ := hp
  subst hv
  exact ks_all _ he
theorem kw_e {own idx ci : Nat} (h : kw own idx = some ci) : kw_P (own, idx, ci) := by
  obtain ⟨⟨a, b, r⟩, he, hp, hv⟩ := kz_find h
  simp only [Bool.and_eq_true, beq_iff_eq] at hp
  obtain ⟨rfl, rfl⟩ := hp
  subst hv
  exact kw_all _ he
theorem kq_e {own idx : Nat} {v : Int32} (h : kq own idx = some v) : Cond.constant (kn own) idx v ∈ gw := by
  obtain ⟨⟨a, b, r⟩, he, hp, hv⟩ := kz_find h
  simp only [Bool.and_eq_true, beq_iff_eq] at hp
  obtain ⟨rfl, rfl⟩ := hp
  subst hv
  exact kq_all _ he
theorem kl_e {own idx : Nat} {v : Int64} (h : kl own idx = some v) : Cond.constantLong (kn own) idx v ∈ gw := by
  obtain ⟨⟨a, b, r⟩, he, hp, hv⟩ := kz_find h
  simp only [Bool.and_eq_true, beq_iff_eq] at hp
  obtain ⟨rfl, rfl⟩ := hp
  subst hv
  exact kl_all _ he
theorem kc_e {own idx : Nat} {k : Nat} {host : String} {E : km_E} (h : kc own idx = some (k, host, E)) : kc_P (own, idx, k, host, E) := by
  obtain ⟨⟨a, b, r⟩, he, hp, hv⟩ := kz_find h
  simp only [Bool.and_eq_true, beq_iff_eq] at hp
  obtain ⟨rfl, rfl⟩ := hp
  subst hv
  exact kc_all _ he
theorem kt_e {own idx v : Nat} (h : kt own idx = some v) : Cond.methodLink (kn own) idx (if v = 0 then Lib.Math.max.name else if v = 1 then Lib.Math.min.name else Lib.Math.abs.name) ∈ gw := by
  obtain ⟨⟨a, b, r⟩, he, hp, hv⟩ := kz_find h
  simp only [Bool.and_eq_true, beq_iff_eq] at hp
  obtain ⟨rfl, rfl⟩ := hp
  subst hv
  exact kt_all _ he
theorem kx_i_e {st : List Value} {f : Int32 → List Value → Option kx_F} {r : kx_F} (h : kx_i st f = some r) : ∃ x rr, st = .int x :: rr ∧ f x rr = some r := by
  unfold kx_i at h
  split at h
  · exact ⟨_, _, rfl, h⟩
  · cases h
theorem kx_ii_e {st : List Value} {f : Int32 → Int32 → List Value → Option kx_F} {r : kx_F} (h : kx_ii st f = some r) : ∃ y x rr, st = .int y :: .int x :: rr ∧ f x y rr = some r := by
  unfold kx_ii at h
  split at h
  · exact ⟨_, _, _, rfl, h⟩
  · cases h
theorem kx_l_e {st : List Value} {f : Int64 → List Value → Option kx_F} {r : kx_F} (h : kx_l st f = some r) : ∃ x rr, st = .long x :: rr ∧ f x rr = some r := by
  unfold kx_l at h
  split at h
  · exact ⟨_, _, rfl, h⟩
  · cases h
theorem kx_ll_e {st : List Value} {f : Int64 → Int64 → List Value → Option kx_F} {r : kx_F} (h : kx_ll st f = some r) : ∃ y x rr, st = .long y :: .long x :: rr ∧ f x y rr = some r := by
  unfold kx_ll at h
  split at h
  · exact ⟨_, _, _, rfl, h⟩
  · cases h
theorem kx_li_e {st : List Value} {f : Int64 → Int32 → List Value → Option kx_F} {r : kx_F} (h : kx_li st f = some r) : ∃ y x rr, st = .int y :: .long x :: rr ∧ f x y rr = some r := by
  unfold kx_li at h
  split at h
  · exact ⟨_, _, _, rfl, h⟩
  · cases h
theorem kx_a_e {st : List Value} {f : Nat → List Value → Option kx_F} {r : kx_F} (h : kx_a st f = some r) : ∃ x rr, st = .ref x :: rr ∧ f x rr = some r := by
  unfold kx_a at h
  split at h
  · exact ⟨_, _, rfl, h⟩
  · cases h
theorem kx_ia_e {st : List Value} {f : Int32 → Nat → List Value → Option kx_F} {r : kx_F} (h : kx_ia st f = some r) : ∃ j a rr, st = .int j :: .ref a :: rr ∧ f j a rr = some r := by
  unfold kx_ia at h
  split at h
  · exact ⟨_, _, _, rfl, h⟩
  · cases h
theorem kx_iia_e {st : List Value} {f : Int32 → Int32 → Nat → List Value → Option kx_F} {r : kx_F} (h : kx_iia st f = some r) : ∃ x j a rr, st = .int x :: .int j :: .ref a :: rr ∧ f x j a rr = some r := by
  unfold kx_iia at h
  split at h
  · exact ⟨_, _, _, _, rfl, h⟩
  · cases h
theorem kx_v_e {st : List Value} {f : Value → List Value → Option kx_F} {r : kx_F} (h : kx_v st f = some r) : ∃ v rr, st = v :: rr ∧ f v rr = some r := by
  unfold kx_v at h
  split at h
  · exact ⟨_, _, rfl, h⟩
  · cases h
theorem kx_ldi_e {lv : List (Option Value)} {i : Nat} {f : Int32 → Option kx_F} {r : kx_F} (h : kx_ldi lv i f = some r) : ∃ x, lv[i]? = some (some (Value.int x)) ∧ f x = some r := by
  unfold kx_ldi at h
  split at h
  next x he =>
    refine ⟨x, ?_, h⟩
    unfold kx_ld at he
    split at he
    next o ho => rw [ho, he]
    next => cases he
  · cases h
theorem kx_ldl_e {lv : List (Option Value)} {i : Nat} {f : Int64 → Option kx_F} {r : kx_F} (h : kx_ldl lv i f = some r) : ∃ x, lv[i]? = some (some (Value.long x)) ∧ f x = some r := by
  unfold kx_ldl at h
  split at h
  next x he =>
    refine ⟨x, ?_, h⟩
    unfold kx_ld at he
    split at he
    next o ho => rw [ho, he]
    next => cases he
  · cases h
theorem kx_lda_e {lv : List (Option Value)} {i : Nat} {f : Nat → Option kx_F} {r : kx_F} (h : kx_lda lv i f = some r) : ∃ x, lv[i]? = some (some (Value.ref x)) ∧ f x = some r := by
  unfold kx_lda at h
  split at h
  next x he =>
    refine ⟨x, ?_, h⟩
    unfold kx_ld at he
    split at he
    next o ho => rw [ho, he]
    next => cases he
  · cases h
theorem kx_j_e {pc t : Nat} {off : Int} (h : kx_j pc off = some t) : (pc : Int) + off = (t : Int) := by
  unfold kx_j at h
  split at h
  next hc =>
    cases h
    omega
  · cases h
theorem kx_to_e {c : Prop} {ic : Decidable c} {pc : Nat} {off : Int} {lv : List (Option Value)} {r : List Value} {S : ks_S} {f : kx_F} (h : @kx_to c ic pc off lv r S = some f) : ∃ t : Nat, (pc : Int) + off = (t : Int) ∧ ((c ∧ f = (t, lv, r, S)) ∨ (¬ c ∧ f = (pc + 3, lv, r, S))) := by
  unfold kx_to at h
  split at h
  next t ht =>
    refine ⟨t, kx_j_e ht, ?_⟩
    split at h
    next hc => exact Or.inl ⟨hc, (Option.some.inj h).symm⟩
    next hc => exact Or.inr ⟨hc, (Option.some.inj h).symm⟩
  · cases h
theorem kz_ld {w : kw_W} {ls : Array Slot} {n : Nat} {lv : List (Option Value)} {i : Nat} {v : Value} (h : lv_has ls n (kz_lv w lv)) (hm : lv[i]? = some (some v)) : ls[i]? = some (.val (kv (kz_ad w) v)) := h.2.2 _ (kz_mem_lv hm)
theorem kz_sub {ls : Array Slot} {n : Nat} {l l' : List (Nat × Value)} (h : lv_has ls n l) (hs : ∀ q ∈ l', q ∈ l) : lv_has ls n l' := ⟨h.1, h.2.1, fun q hq => h.2.2 q (hs q hq)⟩
theorem kx_kill_e {lv L : List (Option Value)} {i j : Nat} {v : Value} (h : (kx_kill lv i L)[j]? = some (some v)) : L[j]? = some (some v) ∧ ¬ (j + 1 = i ∧ ∃ u, lv[j]? = some (some u) ∧ u.category = 2) := by
  unfold kx_kill at h
  split at h
  · exact ⟨h, fun z => by omega⟩
  next i =>
    split at h
    next u hu =>
      split at h
      next hc =>
        by_cases hj : j = i
        · subst hj
          rw [List.getElem?_set] at h
          simp only [if_true] at h
          split at h <;> cases h
        · rw [List.getElem?_set_ne (Ne.symm hj)] at h
          exact ⟨h, fun z => by omega⟩
      next hc =>
        refine ⟨h, fun z => ?_⟩
        obtain ⟨z1, u2, z2, z3⟩ := z
        have e1 : j = i := by omega
        subst e1
        cases hu.symm.trans z2
        exact hc z3
    next hu =>
      refine ⟨h, fun z => ?_⟩
      obtain ⟨z1, u2, z2, z3⟩ := z
      have e1 : j = i := by omega
      subst e1
      exact hu _ z2
theorem kz_st1 {w : kw_W} {lv : List (Option Value)} {i : Nat} {v : Value} : ∀ q ∈ kz_lv w (kx_s1 lv i v), q ∈ (i, kv (kz_ad w) v) :: (kz_lv w lv).filter (fun q => !(q.1 == i) && !(q.1 + 1 == i && q.2.category == 2)) := by
  intro q hq
  obtain ⟨u, h1, h2⟩ := kz_lv_mem hq
  obtain ⟨h3, h4⟩ := kx_kill_e h1
  by_cases hj : q.1 = i
  · rw [hj, List.getElem?_set] at h3
    simp only [if_true] at h3
    split at h3
    · cases h3
      exact List.mem_cons.mpr (Or.inl (Prod.ext hj h2))
    · cases h3
  · rw [List.getElem?_set_ne (Ne.symm hj)] at h3
    refine List.mem_cons.mpr (Or.inr (List.mem_filter.mpr ⟨?_, ?_⟩))
    · have := kz_mem_lv (w := w) h3
      rw [← h2] at this
      exact this
    · have h5 : ¬ (q.1 + 1 = i ∧ q.2.category = 2) := fun z => h4 ⟨z.1, u, h3, by rw [← kv_cat (kz_ad w), ← h2]; exact z.2⟩
      simp only [Bool.and_eq_true, Bool.not_eq_true', beq_eq_false_iff_ne, ne_eq, Bool.and_eq_false_iff]
      refine ⟨hj, ?_⟩
      by_cases a : q.1 + 1 = i
      · exact Or.inr (fun b => h5 ⟨a, b⟩)
      · exact Or.inl a
theorem kz_st2 {w : kw_W} {lv : List (Option Value)} {i : Nat} {v : Value} : ∀ q ∈ kz_lv w (kx_s2 lv i v), q ∈ (i, kv (kz_ad w) v) :: (kz_lv w lv).filter (fun q => !(q.1 == i) && (!(q.1 == i + 1) && !(q.1 + 1 == i && q.2.category == 2))) := by
  intro q hq
  obtain ⟨u, h1, h2⟩ := kz_lv_mem hq
  obtain ⟨h3, h4⟩ := kx_kill_e h1
  by_cases hj : q.1 = i
  · rw [hj, List.getElem?_set] at h3
    simp only [if_true] at h3
    split at h3
    · cases h3
      exact List.mem_cons.mpr (Or.inl (Prod.ext hj h2))
    · cases h3
  · rw [List.getElem?_set_ne (Ne.symm hj)] at h3
    have hj2 : ¬ q.1 = i + 1 := fun z => by
      rw [z, List.getElem?_set] at h3
      simp only [if_true] at h3
      split at h3 <;> cases h3
    rw [List.getElem?_set_ne (Ne.symm hj2)] at h3
    refine List.mem_cons.mpr (Or.inr (List.mem_filter.mpr ⟨?_, ?_⟩))
    · have := kz_mem_lv (w := w) h3
      rw [← h2] at this
      exact this
    · have h5 : ¬ (q.1 + 1 = i ∧ q.2.category = 2) := fun z => h4 ⟨z.1, u, h3, by rw [← kv_cat (kz_ad w), ← h2]; exact z.2⟩
      simp only [Bool.and_eq_true, Bool.not_eq_true', beq_eq_false_iff_ne, ne_eq, Bool.and_eq_false_iff]
      refine ⟨hj, hj2, ?_⟩
      by_cases a : q.1 + 1 = i
      · exact Or.inr (fun b => h5 ⟨a, b⟩)
      · exact Or.inl a
section KR
variable {p : Program} {l : Launch} {e : Env} {R : Room} {s : State} {m : MethodId} {args : Array Value} {below : List Frame} {meth : Method} {c : Code} {H : Heap} {locs : List Loc} {cells slots : Nat} {Q : State → Prop} {w : kw_W} {E : km_E} {S : ks_S} {ls : Array Slot} {rest : List Value} {pc : Nat}
set_option maxHeartbeats 4000000 in
theorem kz_getf (X : kz_X w p s m args meth c E) (hL : kz_L w) (hR : kz_R w S s H) {idx a ci k g : Nat} {host : String} {tg : List Nat} (hf : kf (km_own E) idx = some (host, ci, k)) (ho : kg_ob w.1 S a = some (ci, tg)) (hg : tg[k]? = some g) (hd : decode (km_c E) pc = .ok (.getfield idx, 3))
    (kk : W p l e R s m args below meth c H locs cells slots Q (F0 m (pc + 3) ls (kv (kz_ad w) (kx_fld S a k g) :: rest))) : W p l e R s m args below meth c H locs cells slots Q (F0 m pc ls (.ref (kz_ad w a) :: rest)) := by
  obtain ⟨hx, hb, hml, hr, hown, hts, ⟨hK, hN, -⟩, -⟩ := X
  obtain ⟨hly, hi, hp⟩ := kg_ob_e ho
  obtain ⟨h1, h2, h3, h4, h5⟩ := kf_e hf
  have hci := (hL.2.2 a ci tg hly).2.1
  have hat := va_P1 (hR.2.1 a _ hi hly hp)
  by_cases hh : host = ""
  · exact va_get (Ts := gw) (own := kn (km_own E)) (ref := ((kf_C ci).2.1 k).1) (C := (kf_C ci).1) (T := (kf_C ci).2.1) (N := (kf_C ci).2.2) hx hb hts (kz_ws hci) hown hK hat 0 rfl h2 k h1 (hts _ (h3 hh)) (fun x h => h) (kz_fs_at hg) hd kk
  · exact va_getN (Ts := gw) (own := kn (km_own E)) (ref := ((kf_C ci).2.1 k).1) (C := (kf_C ci).1) (T := (kf_C ci).2.1) (N := (kf_C ci).2.2) (host := host) hx hb hts (kz_ws hci) hown hK hat 0 rfl h2 k h1 (va_Nw.use rfl (hN _ (h4 hh))) (fun x h => h) (kz_fs_at hg) hd kk
theorem kz_fits {S S' : ks_S} {i k g : Nat} {v : Value} {ty : FieldType} (hk : kz_kd ty g) (h : kx_put S i k g v = some S') (ad : Nat → Nat) : (∃ x, S' = ks_si S i k x ∧ kx_fld S' i k g = v) ∧ narrow ty (kv ad v) = kv ad v ∧ fits ty (kv ad v) = true := by
  unfold kx_put at h
  split at h
  · have ht : ty = .int := hk.1 rfl
    subst ht
    split at h
    · cases h
      exact ⟨⟨_, rfl, by simp [kx_fld, ks_iv, ks_si, va_up, upd]⟩, rfl, rfl⟩
    · cases h
  · have ht : ty = .boolean := hk.2.1 rfl
    subst ht
    split at h
    · split at h
      next x hx =>
        cases h
        refine ⟨⟨_, rfl, by simp [kx_fld, ks_iv, ks_si, va_up, upd]⟩, ?_, ?_⟩
        · rcases hx with rfl | rfl <;> rfl
        · rcases hx with rfl | rfl <;> rfl
      next => cases h
    · cases h
  next t =>
    have ht := hk.2.2 (by omega)
    split at h
    · split at h
      next hx =>
        cases h
        subst hx
        refine ⟨⟨_, rfl, by simp [kx_fld, ks_iv, ks_si, va_up, upd]⟩, ?_, ?_⟩
        · rcases ht with ⟨n, rfl⟩ | ⟨n, rfl⟩ <;> rfl
        · rcases ht with ⟨n, rfl⟩ | ⟨n, rfl⟩ <;> rfl
      next => cases h
    · cases h
      refine ⟨⟨_, rfl, by simp [kx_fld, ks_iv, ks_si, va_up, upd]⟩, ?_, ?_⟩
      · rcases ht with ⟨n, rfl⟩ | ⟨n, rfl⟩ <;> rfl
      · rcases ht with ⟨n, rfl⟩ | ⟨n, rfl⟩ <;> rfl
    · cases h
/-- a field of an object is written: what the machine does -/
theorem kz_putW (X : kz_X w p s m args meth c E) {a : Nat} {fs : List Value} {idx ci k : Nat} {host : String} {v : Value} (hf : kf (km_own E) idx = some (host, ci, k)) (hci : ci < 11) (hfin : ((kf_C ci).2.1 k).2.2.2 = true → host = "" ∧ meth.name = "<init>" ∧ ci = km_own E) (hat : va_at w.2.1 vwCl (a, .inr (ci, fs)) H) (hl : k < fs.length) (hn : narrow (kz_ty ci k) v = v) (hfit : fits (kz_ty ci k) v = true) (hd : decode (km_c E) pc = .ok (.putfield idx, 3))
    (kk : ∀ (H' : Heap) (x : Loc), x.base = a → va_at w.2.1 vwCl (a, .inr (ci, fs.set k v)) H' → H'.size = H.size → (∀ q, q ≠ a → H'[q]? = H[q]?) → W p l e R s m args below meth c H' (locs ++ [x]) cells slots Q (F0 m (pc + 3) ls rest)) : W p l e R s m args below meth c H locs cells slots Q (F0 m pc ls (v :: .ref a :: rest)) := by
  obtain ⟨hx, hb, hml, hr, hown, hts, ⟨hK, hN, -⟩, -⟩ := X
  obtain ⟨h1, h2, h3, h4, h5⟩ := kf_e hf
  have hap := va_apart (own := kn (km_own E)) (C := (kf_C ci).1) (T := (kf_C ci).2.1) (N := (kf_C ci).2.2) hts (kz_ws hci) (kz_ty ci) (kz_tyok hci) (kz_nm hci) hK h2
  obtain ⟨r, g1, cell, q1, q2, q3, q4⟩ := hat
  have hrr : r = kf_C ci := Option.some.inj (g1.symm.trans h2)
  subst hrr
  obtain ⟨hS, hfc, kC, hkC, hkind⟩ := hK.1 ci _ h2
  obtain ⟨cf, kf', fi, f, hi, hsl⟩ := hS k h1
  have hlay := hts _ (kz_ws hci _ (u_in_lay h1))
  unfold u_lay at hlay
  have hst := (u_facts hfc hkC (u_lays hts (kz_ws hci) h1) hi).1
  have hd2 := kz_tyok hci k h1
  by_cases hfn : ((kf_C ci).2.1 k).2.2.2 = true
  · obtain ⟨hho, hin2, hce⟩ := hfin hfn
    rw [if_pos hfn] at hlay
    have hcf : m.cls = cf := by
      obtain ⟨_, _, c', _, _, _, -, -, hf', -, -, -, hown2, -⟩ := Cond.laysFinal_spec hlay
      have e1 : c' = cf := by have := hi.symm.trans hf'; simp at this; exact this.1.symm
      have h5' : ((kf_C ci).2.1 k).1 = kn ci := h5
      rw [h5', hce] at hown2
      rw [← e1]; exact Option.some.inj (hown.symm.trans hown2)
    have h6 := u_fits hfc hkC hkind (Or.inr hlay) hi hd2 hn hfit
    refine W.putFinK hx hb hown (hts _ (h3 hho)) hi hst hcf hin2 (by rw [q2]; exact h6) q1 q3 (by rw [hsl]; exact k2_hasslot (q4 k h1)) rfl rfl hd fun H' e1 e2 e3 => ?_
    rw [hsl] at e1 ⊢
    exact kk H' _ rfl ⟨_, h2, t_OB.to (V := updV (vp_V fs) k v) ⟨_, e1, q2, q3, t_set q4 hap h1 v⟩ (fun j _ => vp_updV_set hl v j)⟩ e2 e3
  · rw [if_neg hfn] at hlay
    have h6 := u_store hfc hkC hkind hlay hi hd2 hn hfit
    by_cases hh : host = ""
    · refine W.putK hx hb (f := f) ⟨hown, hts _ (h3 hh), ⟨_, _, _, hi⟩, hst⟩ (by rw [q2]; exact h6) q1 q3 (by rw [hsl]; exact k2_hasslot (q4 k h1)) rfl rfl hd fun H' e1 e2 e3 => ?_
      rw [hsl] at e1 ⊢
      exact kk H' _ rfl ⟨_, h2, t_OB.to (V := updV (vp_V fs) k v) ⟨_, e1, q2, q3, t_set q4 hap h1 v⟩ (fun j _ => vp_updV_set hl v j)⟩ e2 e3
    · refine va_WputK hx hb (f := f) hown (va_Nw.use rfl (hN _ (h4 hh))) hi hst (by rw [q2]; exact h6) q1 q3 (by rw [hsl]; exact k2_hasslot (q4 k h1)) rfl rfl hd fun H' e1 e2 e3 => ?_
      rw [hsl] at e1 ⊢
      exact kk H' _ rfl ⟨_, h2, t_OB.to (V := updV (vp_V fs) k v) ⟨_, e1, q2, q3, t_set q4 hap h1 v⟩ (fun j _ => vp_updV_set hl v j)⟩ e2 e3
end KR
