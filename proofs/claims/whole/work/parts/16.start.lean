/-! THE LAW, out of its pure run. -/
def pu_law : Prop := ∀ (L : Nat) (xs : Nat → Int32), L ≤ 2560 → ∃ (o : Bool) (n : Nat) (S' : ks_S), kr (lt_G o L) n mm_Law_law 0 (kx_en 4 [.ref 1004]) [] (lt_S xs) = some (some (.int 1), S') ∧ S'.2.2.1 ≤ 600000 ∧ S'.2.2.2 ≤ 7302250
theorem ro_mono {s : State} {pl : Platform} {r R : Room} (h1 : r.frames ≤ R.frames) (h2 : r.locals ≤ R.locals) (h3 : r.cells ≤ R.cells) (h4 : r.slots ≤ R.slots) (h : s.hasRoom pl R = true) : s.hasRoom pl r = true := by
  unfold State.hasRoom at h ⊢
  simp only [Bool.and_eq_true, decide_eq_true_eq] at h ⊢
  obtain ⟨⟨⟨⟨a1, a2, a3, a4, a5, a6⟩, b⟩, c⟩, d⟩ := h
  refine ⟨⟨⟨⟨?_, ?_, ?_, ?_, ?_, a6⟩, ?_⟩, ?_⟩, d⟩ <;> omega
theorem ro_W {p : Program} {l : Launch} {e : Env} {r R : Room} {s : State} {m : MethodId} {args : Array Value} {below : List Frame} {meth : Method} {c : Code} {H : Heap} {locs : List Loc} {cells slots : Nat} {Q Q2 : State → Prop} {g : JFrame} (h1 : r.frames ≤ R.frames) (h2 : r.locals ≤ R.locals) (h3 : r.cells ≤ R.cells) (h4 : r.slots ≤ R.slots) (hQ : ∀ t, Q t → Q2 t) (k : W p l e r s m args below meth c H locs cells slots Q g) : W p l e R s m args below meth c H locs cells slots Q2 g := fun T hT X => by
  obtain ⟨t, a, b⟩ := k T hT ⟨X.admits, X.cas, X.clock, X.frames, ro_mono h1 h2 h3 h4 X.room, X.hears, X.method, X.code, X.here, X.tail, X.warmed, X.limits, X.bytes, X.same⟩
  exact ⟨t, a, hQ t b⟩
theorem st_inst : ∀ ci, ci < 11 → Cond.instantiable (kf_C ci).1 (kf_C ci).2.2 ∈ gw := by
  intro ci hci
  have h : ∀ ci, ci < 11 → ∃ e ∈ kw_tab, e.2.2 = ci := by decide
  obtain ⟨e, he, hq⟩ := h ci hci
  have h2 := (kw_all e he).2.2.1
  rw [hq] at h2
  exact h2
set_option maxHeartbeats 4000000 in
set_option maxRecDepth 100000 in
theorem st_tab0 {b : Addr} {s : State} (hgv : (Jvm.Cond.and given_1 narrow_1).before #[Value.ref b] s = true) {A : Nat → Prop} (hA : ∀ a : Nat, a < s.heap.size → ¬ A a) : ∃ t : Nat, (Term.static "DeltaRoad" "MOST_OF_TRAIT" "[I").eval #[Value.ref b] s none [] s = some (.ref t) ∧ va_T .int t 5 (fun j => .int (lt_st 0 j)) A s s.heap := by
  have hs := flat_of_before _ hgv
  refine va_Tof (by decide) (hs (Cond.arrayOf (.static "DeltaRoad" "MOST_OF_TRAIT" "[I") .int) (by decide +kernel)) (va_eqt (hs (Cond.eq (.length (.static "DeltaRoad" "MOST_OF_TRAIT" "[I")) (.int 5)) (by decide +kernel))) (fun j hj => ?_) hA
  match j, hj with
  | 0, _ => exact va_eqt (hs (Cond.eq (.elem (.static "DeltaRoad" "MOST_OF_TRAIT" "[I") (.int 0)) (.int 20)) (by decide +kernel))
  | 1, _ => exact va_eqt (hs (Cond.eq (.elem (.static "DeltaRoad" "MOST_OF_TRAIT" "[I") (.int 1)) (.int 9)) (by decide +kernel))
  | 2, _ => exact va_eqt (hs (Cond.eq (.elem (.static "DeltaRoad" "MOST_OF_TRAIT" "[I") (.int 2)) (.int 3)) (by decide +kernel))
  | 3, _ => exact va_eqt (hs (Cond.eq (.elem (.static "DeltaRoad" "MOST_OF_TRAIT" "[I") (.int 3)) (.int 1)) (by decide +kernel))
  | 4, _ => exact va_eqt (hs (Cond.eq (.elem (.static "DeltaRoad" "MOST_OF_TRAIT" "[I") (.int 4)) (.int 1)) (by decide +kernel))
set_option maxHeartbeats 4000000 in
set_option maxRecDepth 100000 in
theorem st_tab1 {b : Addr} {s : State} (hgv : (Jvm.Cond.and given_1 narrow_1).before #[Value.ref b] s = true) {A : Nat → Prop} (hA : ∀ a : Nat, a < s.heap.size → ¬ A a) : ∃ t : Nat, (Term.static "DeltaRoad" "COST_OF_KIND" "[I").eval #[Value.ref b] s none [] s = some (.ref t) ∧ va_T .int t 4 (fun j => .int (lt_st 1 j)) A s s.heap := by
  have hs := flat_of_before _ hgv
  refine va_Tof (by decide) (hs (Cond.arrayOf (.static "DeltaRoad" "COST_OF_KIND" "[I") .int) (by decide +kernel)) (va_eqt (hs (Cond.eq (.length (.static "DeltaRoad" "COST_OF_KIND" "[I")) (.int 4)) (by decide +kernel))) (fun j hj => ?_) hA
  match j, hj with
  | 0, _ => exact va_eqt (hs (Cond.eq (.elem (.static "DeltaRoad" "COST_OF_KIND" "[I") (.int 0)) (.int 1)) (by decide +kernel))
  | 1, _ => exact va_eqt (hs (Cond.eq (.elem (.static "DeltaRoad" "COST_OF_KIND" "[I") (.int 1)) (.int 3)) (by decide +kernel))
  | 2, _ => exact va_eqt (hs (Cond.eq (.elem (.static "DeltaRoad" "COST_OF_KIND" "[I") (.int 2)) (.int 2)) (by decide +kernel))
  | 3, _ => exact va_eqt (hs (Cond.eq (.elem (.static "DeltaRoad" "COST_OF_KIND" "[I") (.int 3)) (.int 6)) (by decide +kernel))
set_option maxHeartbeats 4000000 in
set_option maxRecDepth 100000 in
theorem st_tab2 {b : Addr} {s : State} (hgv : (Jvm.Cond.and given_1 narrow_1).before #[Value.ref b] s = true) {A : Nat → Prop} (hA : ∀ a : Nat, a < s.heap.size → ¬ A a) : ∃ t : Nat, (Term.static "DeltaRoad" "SOFTNESS_OF_KIND" "[I").eval #[Value.ref b] s none [] s = some (.ref t) ∧ va_T .int t 4 (fun j => .int (lt_st 2 j)) A s s.heap := by
  have hs := flat_of_before _ hgv
  refine va_Tof (by decide) (hs (Cond.arrayOf (.static "DeltaRoad" "SOFTNESS_OF_KIND" "[I") .int) (by decide +kernel)) (va_eqt (hs (Cond.eq (.length (.static "DeltaRoad" "SOFTNESS_OF_KIND" "[I")) (.int 4)) (by decide +kernel))) (fun j hj => ?_) hA
  match j, hj with
  | 0, _ => exact va_eqt (hs (Cond.eq (.elem (.static "DeltaRoad" "SOFTNESS_OF_KIND" "[I") (.int 0)) (.int 0)) (by decide +kernel))
  | 1, _ => exact va_eqt (hs (Cond.eq (.elem (.static "DeltaRoad" "SOFTNESS_OF_KIND" "[I") (.int 1)) (.int 10)) (by decide +kernel))
  | 2, _ => exact va_eqt (hs (Cond.eq (.elem (.static "DeltaRoad" "SOFTNESS_OF_KIND" "[I") (.int 2)) (.int 10)) (by decide +kernel))
  | 3, _ => exact va_eqt (hs (Cond.eq (.elem (.static "DeltaRoad" "SOFTNESS_OF_KIND" "[I") (.int 3)) (.int 20)) (by decide +kernel))
set_option maxHeartbeats 4000000 in
set_option maxRecDepth 100000 in
theorem st_tab3 {b : Addr} {s : State} (hgv : (Jvm.Cond.and given_1 narrow_1).before #[Value.ref b] s = true) {A : Nat → Prop} (hA : ∀ a : Nat, a < s.heap.size → ¬ A a) : ∃ t : Nat, (Term.static "DeltaRoad" "ORDERS" "[I").eval #[Value.ref b] s none [] s = some (.ref t) ∧ va_T .int t 7 (fun j => .int (lt_st 3 j)) A s s.heap := by
  have hs := flat_of_before _ hgv
  refine va_Tof (by decide) (hs (Cond.arrayOf (.static "DeltaRoad" "ORDERS" "[I") .int) (by decide +kernel)) (va_eqt (hs (Cond.eq (.length (.static "DeltaRoad" "ORDERS" "[I")) (.int 7)) (by decide +kernel))) (fun j hj => ?_) hA
  match j, hj with
  | 0, _ => exact va_eqt (hs (Cond.eq (.elem (.static "DeltaRoad" "ORDERS" "[I") (.int 0)) (.int 1)) (by decide +kernel))
  | 1, _ => exact va_eqt (hs (Cond.eq (.elem (.static "DeltaRoad" "ORDERS" "[I") (.int 1)) (.int 1)) (by decide +kernel))
  | 2, _ => exact va_eqt (hs (Cond.eq (.elem (.static "DeltaRoad" "ORDERS" "[I") (.int 2)) (.int 2)) (by decide +kernel))
  | 3, _ => exact va_eqt (hs (Cond.eq (.elem (.static "DeltaRoad" "ORDERS" "[I") (.int 3)) (.int 6)) (by decide +kernel))
  | 4, _ => exact va_eqt (hs (Cond.eq (.elem (.static "DeltaRoad" "ORDERS" "[I") (.int 4)) (.int 24)) (by decide +kernel))
  | 5, _ => exact va_eqt (hs (Cond.eq (.elem (.static "DeltaRoad" "ORDERS" "[I") (.int 5)) (.int 120)) (by decide +kernel))
  | 6, _ => exact va_eqt (hs (Cond.eq (.elem (.static "DeltaRoad" "ORDERS" "[I") (.int 6)) (.int 720)) (by decide +kernel))
theorem st_arr {a : Array Value} {s : State} {ty : FieldType} (h : (Cond.arrayClass ty).before a s = true) (hp : ∀ C, ty ≠ .object C) : ∃ cA, ArrOfT s cA ty ∧ va_RA s cA ty := by
  obtain ⟨cA, kA, comp, h1, h2, h3⟩ := Cond.arrayClass_spec h
  refine ⟨cA, fun n z => ⟨fun k q => (by cases q), kA, h2, comp, h3⟩, ?_⟩
  cases ty with
  | object C => exact absurd rfl (hp C)
  | _ => exact h1
set_option maxHeartbeats 4000000 in
set_option maxRecDepth 100000 in
theorem whole_of (hpu : pu_law) {p : Program} {e : Env} {s : State} {m : MethodId} {below : List Frame} {meth : Method} {c : Code} (l : Launch) {b L : Nat} {xs : Nat → Int32} (hL : L ≤ 2560) (C0 : lw_At p s m meth c b L xs) : W p l e room_1 s m #[Value.ref b] below meth c s.heap [] 0 0 (lw_Z below #[Value.ref b] s) (entryFrame m ([Value.ref b] : List Value).toArray 4) := by
  obtain ⟨hx, hb, hr, hml, hown, hts, hX, hbl, hlocks, hgv⟩ := id C0
  obtain ⟨o, n, S', hrun, hS1, hS2⟩ := hpu L xs hL
  have hgw : ∀ x ∈ gw, x.before #[Value.ref b] s = true := fun x hx => hts x (List.mem_filter.mp hx).1
  have hA : ∀ a : Nat, a < s.heap.size → ¬ (fun q : Nat => s.heap.size ≤ q) a := fun a h => Nat.not_le.mpr h
  obtain ⟨t0, ev0, hT0⟩ := st_tab0 hgv hA
  obtain ⟨t1, ev1, hT1⟩ := st_tab1 hgv hA
  obtain ⟨t2, ev2, hT2⟩ := st_tab2 hgv hA
  obtain ⟨t3, ev3, hT3⟩ := st_tab3 hgv hA
  have hZ0 := va_Zof (hts _ kz_s0) (hgw _ kz_i9) ev0 hA
  have hZ1 := va_Zof (hts _ kz_s1) (hgw _ kz_i9) ev1 hA
  have hZ2 := va_Zof (hts _ kz_s2) (hgw _ kz_i9) ev2 hA
  have hZ3 := va_Zof (hts _ kz_s3) (hgw _ kz_i9) ev3 hA
  have hex : ∀ ci : Nat, ∃ q : ClassId × (Nat → Nat), ci < 11 → u_Kn s (kf_C ci).1 (kf_C ci).2.1 (kf_C ci).2.2 q.1 q.2 := fun ci => by
    by_cases hci : ci < 11
    · obtain ⟨cC, iS, h⟩ := u_known hgw (kz_ws hci) (hgw _ (st_inst ci hci))
      exact ⟨(cC, iS), fun _ => h⟩
    · exact ⟨(0, fun _ => 0), fun h => absurd h hci⟩
  obtain ⟨F, hF⟩ := Classical.axiomOfChoice hex
  obtain ⟨c0, a0, r0⟩ := st_arr (hgw _ kz_y0) (fun C h => by cases h)
  obtain ⟨c1, a1, r1⟩ := st_arr (hgw _ kz_y1) (fun C h => by cases h)
  obtain ⟨c2, a2, r2⟩ := st_arr (hgw _ kz_y2) (fun C h => by cases h)
  have hov : (Cond.arrayOver (.array .int)).before #[] s = true := hts _ kz_over
  obtain ⟨cI, c3, k3, g1, -, g3, g4, g5⟩ := mu_over hov
  let w : kw_W := (lt_G o L, (fun ci => (F ci).1, fun ci => (F ci).2), (fun t => match t with | 0 => c0 | 1 => c1 | 2 => c2 | _ => c3), s.heap.size, (fun k => match k with | 0 => t0 | 1 => t1 | 2 => t2 | 3 => t3 | _ => b))
  have hwL : kz_L w := lt_L rfl
  have hK : kz_K w s := by
    refine ⟨⟨fun ci q hq => ?_, fun k q hk => ?_⟩, fun x hx => ?_, hov⟩
    · have hci : ci < 11 := (List.getElem?_eq_some_iff.mp hq).1
      have hq2 : q = kf_C ci := Option.some.inj (hq.symm.trans (kf_Cat hci))
      subst hq2
      exact hF ci hci
    · have hk4 : k < 4 := (List.getElem?_eq_some_iff.mp hk).1
      match k, hk4, hk with
      | 0, _, hk => cases hk; exact ⟨a0, r0⟩
      | 1, _, hk => cases hk; exact ⟨a1, r1⟩
      | 2, _, hk => cases hk; exact ⟨a2, r2⟩
      | 3, _, hk => cases hk; exact ⟨fun n z => ⟨fun k q => (by cases q), k3, g3, cI, g4⟩, g5⟩
    · have h1 := hts x (List.mem_filter.mp hx).1
      have h2 := (List.mem_filter.mp hx).2
      cases x with
      | fieldLinkNest a b c d e f => exact va_Nw.of rfl h1
      | methodLinkNest a b c d => exact va_Nw.of rfl h1
      | _ => cases h2
  have hR : kz_R w (lt_S xs) s s.heap := by
    refine ⟨rfl, fun i e hi hl hp => absurd hp (Nat.not_lt_zero _), fun i a hi hl => ?_, fun k hk => ?_⟩
    · have hl : lt_ly L i = some (.inr a) := hl
      unfold lt_ly at hl
      rw [if_neg (by omega)] at hl
      obtain ⟨k, rfl⟩ : ∃ k, i = 1000 + k := ⟨i - 1000, by omega⟩
      rw [show 1000 + k - 1000 = k by omega] at hl
      have hadk : kz_ad w (1000 + k) = w.2.2.2.2 k := by
        unfold kz_ad
        rw [if_neg (by omega), show 1000 + k - 1000 = k by omega]
      rw [hadk]
      unfold lt_old at hl
      split at hl
      · cases hl; exact ⟨rfl, hT0⟩
      · cases hl; exact ⟨rfl, hT1⟩
      · cases hl; exact ⟨rfl, hT2⟩
      · cases hl; exact ⟨rfl, hT3⟩
      · cases hl
        obtain ⟨scr, z1, z2, z3, z4, z5⟩ := hX
        exact ⟨rfl, scr, z1, z2, z3, Nat.le_of_eq z4.symm, by rw [z4], z5, hA b hbl⟩
      · cases hl
    · have hadk : kz_ad w (1000 + k) = w.2.2.2.2 k := by
        unfold kz_ad
        rw [if_neg (by omega), show 1000 + k - 1000 = k by omega]
      rw [hadk]
      match k, hk with
      | 0, _ => exact hZ0
      | 1, _ => exact hZ1
      | 2, _ => exact hZ2
      | 3, _ => exact hZ3
  have X : kz_X w p s m #[Value.ref b] meth c mm_Law_law := ⟨hx, hb, hml, hr, hown, hgw, hK, hlocks, fun h => absurd h (by decide), rfl⟩
  have hl := lv_entry ([.ref b]) (n := 4) (Nat.le_of_ble_eq_true rfl)
  rw [lg_entry_eq]
  have hl2 := kz_sub hl (fun q hq => by
    obtain ⟨u, h1, h2⟩ := kz_lv_mem hq
    have h3 := kz_ens w [.ref 1004] 4 0 q.1 u h1
    rw [Nat.zero_add, ← h2] at h3
    exact h3 : ∀ q ∈ kz_lv w (kx_en 4 [.ref 1004]), q ∈ lv_args 0 ([.ref b]))
  refine ro_W (r := kz_rm mm_Law_law (0 + (S'.2.2.1 - (lt_S xs).2.2.1)) (0 + (S'.2.2.2 - (lt_S xs).2.2.2))) (show km_f mm_Law_law ≤ 9 by decide) (show km_l mm_Law_law ≤ 340 by decide) (by show 0 + (S'.2.2.1 - 0) ≤ 600000; omega) (by show 0 + (S'.2.2.2 - 0) ≤ 7302250; omega) (fun t ht => ?_) (kz_sound l hwL n mm_Law_law 0 (kx_en 4 [.ref 1004]) [] (lt_S xs) (some (.int 1)) S' hrun p e s m #[Value.ref b] below meth c 0 0 _ _ X rfl rfl s.heap _ [] hR hl2 (fun q hq => by cases hq))
  obtain ⟨oc, h1, h2, ⟨h3, -⟩, Ls, ⟨h4, h5, h6⟩, h7⟩ := ht
  refine ⟨oc, h1, h2, h3, h4, h5, h6.weaken (fun y hy hlt => absurd hlt (Nat.not_lt.mpr (h7 y hy))) ?_ ?_⟩
  · show 0 + (S'.2.2.1 - 0) ≤ 600000
    omega
  · show 0 + (S'.2.2.2 - 0) ≤ 7302250
    omega
