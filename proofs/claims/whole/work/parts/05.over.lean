/-! The class of arrays of int arrays: what the word says of it, and that a warmer table still says it. -/
theorem mu_over {a : Array Value} {s : State} (h : (Cond.arrayOver (.array .int)).before a s = true) : ∃ comp c k, s.vm.findClass (FieldType.array .int).toString = some comp ∧ (s.vm.classes.findIdx? fun (x : Class) => match x.kind with | .array component _ => component == comp | _ => false) = some c ∧ s.vm.classes[c]? = some k ∧ k.kind = .array comp (.array .int) ∧ s.vm.findClass ("[" ++ (FieldType.array .int).toString) = some c := by
  unfold Cond.before Cond.holds at h
  simp only [Cond.value, beq_iff_eq] at h
  obtain ⟨comp, hc, h1⟩ := Option.bind_eq_some_iff.mp h
  obtain ⟨c, hi, h2⟩ := Option.bind_eq_some_iff.mp h1
  obtain ⟨k, hk, h3⟩ := Option.map_eq_some_iff.mp h2
  obtain ⟨hlt, hq, -⟩ := Array.findIdx?_eq_some_iff_getElem.mp hi
  have e1 : s.vm.classes[c] = k := (Array.getElem?_eq_some_iff.mp hk).2
  rw [e1] at hq
  clear h h1 h2
  cases hkk : k.kind with
  | array co ty =>
    rw [hkk] at h3 hq
    simp only [Bool.and_eq_true, decide_eq_true_eq, beq_iff_eq] at h3 hq
    subst hq
    exact ⟨co, c, k, hc, hi, hk, by rw [hkk, h3.1], h3.2⟩
  | _ =>
    rw [hkk] at h3
    cases h3
theorem kz_over_moved {u U : State} (hvm : u.vm.Alike U.vm) (h : (Cond.arrayOver (.array .int)).before #[] u = true) : (Cond.arrayOver (.array .int)).before #[] U = true := by
  obtain ⟨comp, c, k, h1, h2, h3, h4, h5⟩ := mu_over h
  obtain ⟨k', hk', he⟩ := hvm.2.2 _ _ h3
  have hi : (U.vm.classes.findIdx? fun (x : Class) => match x.kind with | .array component _ => component == comp | _ => false) = some c := by
    have e1 := va_idx_bare U.vm comp
    have e2 := va_idx_bare u.vm comp
    rw [hvm.bare_eq] at e1
    exact e1.symm.trans (e2.trans h2)
  have f1 : U.vm.findClass (FieldType.array .int).toString = some comp := by rw [hvm.findClass]; exact h1
  have f2 : U.vm.findClass ("[" ++ (FieldType.array .int).toString) = some c := by rw [hvm.findClass]; exact h5
  have f3 : k'.kind = .array comp (.array .int) := by rw [he]; exact h4
  unfold Cond.before Cond.holds
  simp only [Cond.value, beq_iff_eq]
  refine Option.bind_eq_some_iff.mpr ⟨comp, f1, Option.bind_eq_some_iff.mpr ⟨c, hi, Option.map_eq_some_iff.mpr ⟨k', hk', ?_⟩⟩⟩
  rw [f3]
  simp only [Bool.and_eq_true, decide_eq_true_eq]
  exact ⟨trivial, f2⟩
