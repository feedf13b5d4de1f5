/-! 'new int[N][M]' on the machine: the outer array, then its rows one behind the other. -/
/-- the outer array, its first i rows laid -/
def mu_o (cA : ClassId) (N h i : Nat) : Cell := arrV cA N (fun j => va_rf (if j < i then some (h + 1 + j) else none))
def mu_r (cI : ClassId) (M : Nat) : Cell := arrV cI M (fun _ => .int 0)
/-- the state, i rows laid -/
def mu_T (T : State) (cA cI : ClassId) (N M : Nat) : Nat → State
  | 0 => T.pushCell (mu_o cA N T.heap.size 0)
  | i + 1 => ((mu_T T cA cI N M i).pushCell (mu_r cI M)).setCell T.heap.size (mu_o cA N T.heap.size (i + 1))
theorem mu_o_next (cA : ClassId) (N h i : Nat) : (mu_o cA N h i).setSlot i (.ref (h + 1 + i)) = mu_o cA N h (i + 1) := by
  unfold mu_o
  rw [arrV_store]
  congr 1
  funext j
  unfold updV
  by_cases e : j = i
  · subst e
    rw [if_pos rfl, if_pos (Nat.lt_succ_self j)]
    rfl
  · rw [if_neg e]
    show va_rf (if j < i then some (h + 1 + j) else none) = _
    by_cases q : j < i
    · rw [if_pos q, if_pos (Nat.lt_succ_of_lt q)]
    · rw [if_neg q, if_neg (by omega)]
theorem mu_size (T : State) (cA cI : ClassId) (N M : Nat) : ∀ i, (mu_T T cA cI N M i).heap.size = T.heap.size + 1 + i
  | 0 => by simp [mu_T, State.pushCell]
  | i + 1 => by
    show (((mu_T T cA cI N M i).pushCell (mu_r cI M)).setCell T.heap.size _).heap.size = _
    rw [size_setCell, size_pushCell, mu_size T cA cI N M i]
    omega
theorem mu_vm (T : State) (cA cI : ClassId) (N M : Nat) : ∀ i, (mu_T T cA cI N M i).vm = T.vm
  | 0 => rfl
  | i + 1 => mu_vm T cA cI N M i
theorem mu_used (T : State) (cA cI : ClassId) (N M : Nat) : ∀ i, (mu_T T cA cI N M i).slotsUsed = T.slotsUsed + N + i * M
  | 0 => by
    show T.slotsUsed + (arrV _ _ _).slots.size = _
    rw [arrV_size]
    omega
  | i + 1 => by
    show (mu_T T cA cI N M i).slotsUsed + (arrV _ _ _).slots.size = _
    rw [arrV_size, mu_used T cA cI N M i, Nat.succ_mul]
    omega
theorem mu_top (T : State) (f : JFrame) (cA cI : ClassId) (N M : Nat) : ∀ i, mu_T (T.setTop f) cA cI N M i = (mu_T T cA cI N M i).setTop f
  | 0 => rfl
  | i + 1 => by
    show ((mu_T (T.setTop f) cA cI N M i).pushCell _).setCell _ _ = _
    rw [mu_top T f cA cI N M i]
    rfl
/-- what lies at an address, i rows laid -/
theorem mu_at (T : State) (cA cI : ClassId) (N M : Nat) : ∀ i q, (mu_T T cA cI N M i).heap[q]? = if q < T.heap.size then T.heap[q]? else if q = T.heap.size then some (mu_o cA N T.heap.size i) else if q < T.heap.size + 1 + i then some (mu_r cI M) else none
  | 0, q => by
    show (T.heap.push _)[q]? = _
    rw [Array.getElem?_push]
    by_cases h1 : q = T.heap.size
    · rw [if_pos h1, if_neg (by omega), if_pos h1]
    · rw [if_neg h1]
      by_cases h2 : q < T.heap.size
      · rw [if_pos h2]
      · rw [if_neg h2, if_neg h1, if_neg (by omega)]
        exact Array.getElem?_eq_none (by omega)
  | i + 1, q => by
    have hs := mu_size T cA cI N M i
    have ih := mu_at T cA cI N M i q
    show (((mu_T T cA cI N M i).heap.push (mu_r cI M)).setIfInBounds T.heap.size _)[q]? = _
    rw [Array.getElem?_setIfInBounds]
    by_cases h1 : T.heap.size = q
    · subst h1
      rw [if_pos rfl, if_pos (by rw [Array.size_push, hs]; omega), if_neg (Nat.lt_irrefl _), if_pos rfl]
    · rw [if_neg h1, Array.getElem?_push]
      by_cases h2 : q = (mu_T T cA cI N M i).heap.size
      · rw [if_pos h2, if_neg (by omega), if_neg (by omega), if_pos (by omega)]
      · rw [if_neg h2, ih]
        by_cases h3 : q < T.heap.size
        · rw [if_pos h3, if_pos h3]
        · have hne : ¬ q = T.heap.size := fun z => h1 z.symm
          rw [if_neg h3, if_neg h3, if_neg hne, if_neg hne]
          by_cases h4 : q < T.heap.size + 1 + i
          · rw [if_pos h4, if_pos (by omega)]
          · rw [if_neg h4, if_neg (by omega)]
section MU
variable {p : Program} {l : Launch} {e : Env} {R : Room} {s : State} {m : MethodId} {args : Array Value} {below : List Frame} {meth : Method} {c : Code} {T : State} {locs : List Loc} {cells slots : Nat}
theorem mu_stand (X : Stand p l e R s m args below meth c T locs cells slots) (cA cI : ClassId) (N M : Nat) : ∀ i, ∃ L : List Loc, (∀ q ∈ L, q.base = T.heap.size) ∧ Stand p l e R s m args below meth c (mu_T T cA cI N M i) (locs ++ L) (cells + 1 + i) (slots + N + i * M)
  | 0 => by
    have h := X.pushed (mu_o cA N T.heap.size 0)
    rw [show (mu_o cA N T.heap.size 0).slots.size = N from arrV_size _ _ _] at h
    refine ⟨[], (fun q hq => (by cases hq)), ?_⟩
    rw [List.append_nil, Nat.zero_mul]
    exact h
  | i + 1 => by
    obtain ⟨L, hL, Xi⟩ := mu_stand X cA cI N M i
    have hs := mu_size T cA cI N M i
    have hc : ((mu_T T cA cI N M i).pushCell (mu_r cI M)).heap[T.heap.size]? = some (mu_o cA N T.heap.size i) := by
      show ((mu_T T cA cI N M i).heap.push _)[T.heap.size]? = _
      rw [Array.getElem?_push, if_neg (by omega), mu_at, if_neg (Nat.lt_irrefl _), if_pos rfl]
    have h := (Xi.pushed (mu_r cI M)).stored hc i (.ref (T.heap.size + 1 + i))
    rw [mu_o_next, show (mu_r cI M).slots.size = M from arrV_size _ _ _, List.append_assoc] at h
    refine ⟨L ++ [⟨T.heap.size, i⟩], fun q hq => ?_, ?_⟩
    · rcases List.mem_append.mp hq with z | z
      · exact hL q z
      · rw [List.mem_singleton.mp z]
    · rw [Nat.succ_mul, ← Nat.add_assoc, ← Nat.add_assoc]
      exact h
section MU2
variable {EE : CtlPost} {ee : Env} {d : Bool} {acts : List Action} {u : State}
/-- an array of zeros or nulls -/
theorem mu_new {cA comp : ClassId} {k : Class} {ty : FieldType} {len : Nat} {init : Value} (hk : u.vm.classes[cA]? = some k) (hkind : k.kind = .array comp ty) (h1 : ¬ len > ee.platform.arrayLengthLimit) (h2 : ¬ len * componentBytes ty > ee.platform.maxHeapBytes) (hf : fits ty init = true) (hdf : init.isDefault = true) {P : Addr → Pre} (h3 : u.heap.size < ee.platform.maxCells) (h4 : u.slotsUsed + len ≤ ee.platform.maxSlots)
    (hP : P u.heap.size d acts (u.pushCell (arrV cA len (fun _ => init)))) : wp (Jvm.newArray cA len init) P EE ee d acts u := by
  rw [← arrV_new] at hP
  have ha : allocActs (Array.replicate len init) u.heap.size acts = acts := by
    unfold allocActs
    refine if_pos ?_
    rw [Array.all_replicate]
    split
    · rfl
    · exact hdf
  have hw : ∀ (j : Nat) (v : Value), (Array.replicate len init)[j]? = some v → u.fitsSlot cA .none j v = true := fun j v hv => by
    rw [Array.getElem?_replicate] at hv
    split at hv
    · cases hv
      simp [State.fitsSlot, State.slotType?, hk, hkind, hf]
    · cases hv
  simp only [Jvm.newArray, Jvm.arrayFits, wp_bind', W.ask, W.ite, h1, if_false, wp_pure', W.theClass, hk, hkind, h2, W.alloc, W.stop, Option.some.injEq, exists_eq_left', Array.size_replicate, ha]
  rw [if_neg (by omega)]
  exact ⟨h3, h4, hw, hP⟩
/-- the rows -/
theorem mu_make {cA cI cc : ClassId} {kA kI : Class} {n y : Int32} (hA : u.vm.classes[cA]? = some kA) (hkA : kA.kind = .array cI (.array .int)) (hI : u.vm.classes[cI]? = some kI) (hkI : kI.kind = .array cc .int) (hn : ¬ n < 0) (hy : ¬ y < 0) (hn1 : n.toNatClampNeg ≤ ee.platform.arrayLengthLimit) (hn2 : n.toNatClampNeg * 4 ≤ ee.platform.maxHeapBytes) (hy1 : y.toNatClampNeg ≤ ee.platform.arrayLengthLimit) (hy2 : y.toNatClampNeg * 4 ≤ ee.platform.maxHeapBytes)
    (hc : u.heap.size + 1 + n.toNatClampNeg ≤ ee.platform.maxCells) (hs : u.slotsUsed + n.toNatClampNeg + n.toNatClampNeg * y.toNatClampNeg ≤ ee.platform.maxSlots) {P : Addr → Pre} (hP : ∀ d2 acts2, P u.heap.size d2 acts2 (mu_T u cA cI n.toNatClampNeg y.toNatClampNeg n.toNatClampNeg)) : wp (multianewarray.make cA [n, y]) P EE ee d acts u := by
  generalize hN : n.toNatClampNeg = N at *
  generalize hM : y.toNatClampNeg = M at *
  rw [multianewarray.make]
  simp only [wp_bind', W.ite, hn, if_false, wp_pure', W.theClass, hA, hkA, Option.some.injEq, exists_eq_left', hN]
  refine mu_new hA hkA (by omega) (by show ¬ N * 4 > _; omega) rfl rfl (by omega) (by have := Nat.zero_le (N * M); omega) ?_
  have hf : ([y].find? (· < 0)) = none := by simp [hy]
  simp only [hf]
  rw [ite_self, wp_bind', Std.Legacy.Range.forIn_eq_forIn_range']
  rw [show ([:N] : Std.Legacy.Range).size = N by simp [Std.Legacy.Range.size]]
  refine wp_forIn_inv (fun r v => ∃ i, i ≤ N ∧ r = List.range' i (N - i) ∧ v = mu_T u cA cI N M i) _ _ ⟨0, Nat.zero_le _, rfl, ?_⟩ ?_ ?_
  · show u.pushCell _ = u.pushCell _
    congr 1
  · rintro x r v d2 acts2 Q2 ⟨i, hi, hr, rfl⟩ hnext
    have hlt : i < N := Nat.lt_of_not_le fun q => by
      rw [show N - i = 0 by omega] at hr
      cases hr
    rw [show N - i = (N - (i + 1)) + 1 by omega, List.range'_succ] at hr
    obtain ⟨rfl, hr⟩ := List.cons.inj hr
    have hm : x * M + M ≤ N * M := by
      rw [← Nat.succ_mul]
      exact Nat.mul_le_mul_right M hlt
    have hsz := mu_size u cA cI N M x
    have hus := mu_used u cA cI N M x
    have hvm := mu_vm u cA cI N M x
    simp only [wp_bind']
    rw [multianewarray.make]
    simp only [wp_bind', W.ite, hy, if_false, wp_pure', W.theClass, hvm, hI, hkI, Option.some.injEq, exists_eq_left', hM]
    refine mu_new (by rw [hvm]; exact hI) hkI (by omega) (by show ¬ M * 4 > _; omega) rfl rfl (by rw [hsz]; omega) (by rw [hus]; omega) ?_
    have hcell : ((mu_T u cA cI N M x).pushCell (mu_r cI M)).heap[u.heap.size]? = some (mu_o cA N u.heap.size x) := by
      show ((mu_T u cA cI N M x).heap.push _)[u.heap.size]? = _
      rw [Array.getElem?_push, if_neg (by omega), mu_at, if_neg (Nat.lt_irrefl _), if_pos rfl]
    simp only [wp_bind', W.writeLoc, wp_pure']
    refine ⟨mu_o cA N u.heap.size x, hcell, (fun z => (by cases z)), (by show x < (arrV _ _ _).slots.size; rw [arrV_size]; exact hlt), ?_, hnext _ _ _ ⟨x + 1, hlt, hr, ?_⟩⟩
    · show State.fitsSlot _ cA .none x _ = true
      simp [State.fitsSlot, State.slotType?, hvm, hA, hkA, fits]
    · rw [hsz, mu_o_next]
      rfl
  · rintro v d2 acts2 ⟨i, hi, hr, rfl⟩
    have he : i = N := Nat.le_antisymm hi (Nat.le_of_not_lt fun q => by
      rw [show N - i = (N - (i + 1)) + 1 by omega, List.range'_succ] at hr
      cases hr)
    subst he
    simp only [wp_pure']
    exact hP _ _
end MU2
set_option maxHeartbeats 4000000 in
/-- the instruction -/
theorem mu_step (X : Stand p l e R s m args below meth c T locs cells slots) (hexec : p.tables.exec = Jvm.exec) {own : String} {index : Nat} (hown : s.vm.findClass own = some m.cls) (hlink : (Cond.classLink own index ("[" ++ (FieldType.array .int).toString)).before args s = true) (hover : (Cond.arrayOver (.array .int)).before #[] s = true) (harr : (Cond.arrayClass .int).before args s = true)
    {g : JFrame} (hg : g.method = m) (hd : decode c.code g.pc = .ok (.multianewarray index 2, 4)) {n y : Int32} {rest : List Value} (hst : g.stack = .int y :: .int n :: rest) (hn : ¬ n < 0) (hy : ¬ y < 0) (hn1 : n.toNatClampNeg < 100000) (hy1 : y.toNatClampNeg < 100000) (hc : cells + (1 + n.toNatClampNeg) ≤ R.cells) (hs : slots + (n.toNatClampNeg + n.toNatClampNeg * y.toNatClampNeg) ≤ R.slots) :
    ∃ (vm1 : Vm) (cA cI : ClassId), s.WarmedH vm1 ∧ s.vm.findClass ("[" ++ (FieldType.array .int).toString) = some cA ∧ s.vm.findClass (FieldType.array .int).toString = some cI ∧ ∀ target, Steps p.tables e below ((mu_T (T.setVm vm1) cA cI n.toNatClampNeg y.toNatClampNeg n.toNatClampNeg).setTop { g with pc := g.pc + 4, stack := .ref T.heap.size :: rest }) target → Steps p.tables e below (T.setTop g) target := by
  subst hg
  have hpl : e.platform.magicAccessors = ({} : Platform).magicAccessors := by rw [X.admits.platform]
  obtain ⟨cI, cA, kA, h1, -, h3, h4, h5⟩ := mu_over hover
  obtain ⟨cI2, kI, cc, g1, g2, g3⟩ := Cond.arrayClass_spec harr
  have e1 : cI2 = cI := Option.some.inj (g1.symm.trans h1)
  subst e1
  obtain ⟨c0, f1, f2⟩ := Cond.classLink_spec hown hlink e.platform hpl
  have e2 : c0 = cA := Option.some.inj (f1.symm.trans h5)
  subst e2
  obtain ⟨k1, hw, -⟩ := State.classEntry (e := e) X.warmed f2
  generalize T.vm.noted g.method.cls index (.cls c0) = vm1 at k1 hw
  obtain ⟨kA1, q1, q2⟩ := hw.alike.2.2 _ _ h3
  obtain ⟨kI1, q3, q4⟩ := hw.alike.2.2 _ _ g2
  obtain ⟨r1, r2⟩ := X.roomAbove hc hs
  refine ⟨vm1, c0, cI2, hw, h5, h1, fun target ht => ?_⟩
  have b1 := Launch.admits_arrayLengthLimit X.admits
  have b2 := Launch.admits_maxHeapBytes X.admits
  jvm_step X.here [hexec, hd]
  simp only [multianewarray.sem, wp_bind', W.resolveClassAt_links (State.method?_setTop g X.here.top) k1]
  rw [W.popN, if_neg (by decide)]
  refine ⟨g, State.topJava?_setTop' (s := T.setVm vm1) g X.here.top, [.int n, .int y], rest, rfl, hst, ?_⟩
  simp only [List.mapM_cons, List.mapM_nil, wp_bind', wp_pure']
  refine mu_make (kA := kA1) (kI := kI1) (cI := cI2) (cc := cc) q1 (by rw [q2]; exact h4) q3 (by rw [q4]; exact g3) hn hy (by rw [b1]; omega) (by rw [b2]; omega) (by rw [b1]; omega) (by rw [b2]; omega) (by show T.heap.size + 1 + _ ≤ _; omega) (by show T.slotsUsed + _ + _ ≤ _; omega) (fun d2 acts2 => ?_)
  obtain ⟨L, -, XF⟩ := mu_stand (X.noted hw) c0 cI2 n.toNatClampNeg y.toNatClampNeg n.toNatClampNeg
  have eS : ((T.setTop g).setVm vm1).setTop { g with stack := rest } = (T.setVm vm1).setTop { g with stack := rest } := by
    show ((T.setVm vm1).setTop g).setTop _ = _
    rw [State.setTop_setTop]
  rw [eS, mu_top]
  simp only [wp_bind', W.mark, W.pushRef, State.topJava?_setTop' _ XF.here.top, Option.some.injEq, exists_eq_left', State.setTop_setTop, State.heap_setTop]
  intro acts
  simp [jvm, XF.here.top]
  exact ht
end MU
