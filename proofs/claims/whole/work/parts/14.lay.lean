/-! The shape of the heap: the class at 0 .. 44, the reference at 45 .. 64, the plan (made late) at 65 .. 135, the kept world (made late) at 136 .. 150; old arrays: the four statics at 1000 .. 1003, the script at 1004. -/
def lt_tab : List ly_E := [.inl (9, [3, 18, 22, 26, 28, 37, 44, 138, 67, 1, 1]), .inl (8, [4, 11, 14, 16, 0, 0]), .inl (0, [5, 0]), .inr (3, 5, 4), .inr (0, 49, 0), .inr (0, 49, 0), .inr (0, 49, 0), .inr (0, 49, 0), .inr (0, 49, 0), .inl (5, [12, 13, 0]), .inr (0, 6, 0), .inr (0, 6, 0), .inl (1, [15, 0]), .inr (0, 60, 0), .inl (7, [17, 0]), .inr (0, 41, 0), .inl (6, [19, 20, 21, 0]), .inr (0, 49, 0), .inr (0, 49, 0), .inr (0, 49, 0), .inl (6, [23, 24, 25, 0]), .inr (0, 49, 0), .inr (0, 49, 0), .inr (0, 49, 0), .inl (4, [27, 0, 0]), .inr (2, 140, 0), .inl (3, [29, 30, 31, 32]), .inr (1, 4, 0), .inr (0, 4, 0), .inr (0, 4, 0), .inr (3, 4, 31), .inr (0, 24, 0), .inr (0, 24, 0), .inr (0, 24, 0), .inr (0, 24, 0), .inl (0, [38, 0]), .inr (3, 5, 37), .inr (0, 49, 0), .inr (0, 49, 0), .inr (0, 49, 0), .inr (0, 49, 0), .inr (0, 49, 0), .inl (5, [45, 46, 0]), .inr (0, 6, 0), .inr (0, 6, 0), .inl (10, [48, 0, 49, 50, 0, 0, 0, 51, 0, 52, 0, 53, 54, 0, 55, 56, 0, 0, 0, 57, 58, 59, 60, 61, 1, 62, 63, 64, 65, 66]), .inr (0, 245, 0), .inr (0, 6, 0), .inr (0, 6, 0), .inr (0, 60, 0), .inr (0, 41, 0), .inr (0, 49, 0), .inr (0, 49, 0), .inr (0, 49, 0), .inr (0, 140, 0), .inr (0, 49, 0), .inr (0, 49, 0), .inr (0, 49, 0), .inr (0, 3136, 0), .inr (0, 64, 0), .inr (0, 358, 0), .inr (0, 6, 0), .inr (0, 4, 0), .inr (0, 4, 0), .inr (0, 96, 0), .inl (2, [68, 69, 70, 135, 136, 137, 0, 0, 0, 0]), .inr (0, 49, 0), .inr (0, 49, 0), .inr (3, 64, 69), .inr (0, 49, 0), .inr (0, 49, 0), .inr (0, 49, 0), .inr (0, 49, 0), .inr (0, 49, 0), .inr (0, 49, 0), .inr (0, 49, 0), .inr (0, 49, 0), .inr (0, 49, 0), .inr (0, 49, 0), .inr (0, 49, 0), .inr (0, 49, 0), .inr (0, 49, 0), .inr (0, 49, 0), .inr (0, 49, 0), .inr (0, 49, 0), .inr (0, 49, 0), .inr (0, 49, 0), .inr (0, 49, 0), .inr (0, 49, 0), .inr (0, 49, 0), .inr (0, 49, 0), .inr (0, 49, 0), .inr (0, 49, 0), .inr (0, 49, 0), .inr (0, 49, 0), .inr (0, 49, 0), .inr (0, 49, 0), .inr (0, 49, 0), .inr (0, 49, 0), .inr (0, 49, 0), .inr (0, 49, 0), .inr (0, 49, 0), .inr (0, 49, 0), .inr (0, 49, 0), .inr (0, 49, 0), .inr (0, 49, 0), .inr (0, 49, 0), .inr (0, 49, 0), .inr (0, 49, 0), .inr (0, 49, 0), .inr (0, 49, 0), .inr (0, 49, 0), .inr (0, 49, 0), .inr (0, 49, 0), .inr (0, 49, 0), .inr (0, 49, 0), .inr (0, 49, 0), .inr (0, 49, 0), .inr (0, 49, 0), .inr (0, 49, 0), .inr (0, 49, 0), .inr (0, 49, 0), .inr (0, 49, 0), .inr (0, 49, 0), .inr (0, 49, 0), .inr (0, 49, 0), .inr (0, 49, 0), .inr (0, 49, 0), .inr (0, 49, 0), .inr (0, 49, 0), .inr (0, 49, 0), .inr (0, 49, 0), .inr (0, 49, 0), .inr (1, 64, 0), .inr (0, 49, 0), .inr (1, 49, 0), .inl (8, [139, 146, 149, 151, 0, 0]), .inl (0, [140, 0]), .inr (3, 5, 139), .inr (0, 49, 0), .inr (0, 49, 0), .inr (0, 49, 0), .inr (0, 49, 0), .inr (0, 49, 0), .inl (5, [147, 148, 0]), .inr (0, 6, 0), .inr (0, 6, 0), .inl (1, [150, 0]), .inr (0, 60, 0), .inl (7, [152, 0]), .inr (0, 41, 0)]
def lt_old (L k : Nat) : Option ly_E := match k with
  | 0 => some (.inr (0, 5, 0))
  | 1 => some (.inr (0, 4, 0))
  | 2 => some (.inr (0, 4, 0))
  | 3 => some (.inr (0, 7, 0))
  | 4 => some (.inr (0, L, 0))
  | _ => none
def lt_ly (L i : Nat) : Option ly_E := if i < 1000 then lt_tab[i]? else lt_old L (i - 1000)
/-- where a place lies: o: the plan is made ahead of the kept world -/
def lt_pos (o : Bool) (i : Nat) : Nat := if o = true then i else if i < 65 then i else if i < 136 then i + 15 else if i < 151 then i - 71 else i
def lt_inv (o : Bool) (q : Nat) : Nat := if o = true then q else if q < 65 then q else if q < 80 then q + 71 else if q < 151 then q - 15 else q
def lt_G (o : Bool) (L : Nat) : kg_G := (lt_pos o, lt_inv o, lt_ly L)
theorem lt_pi (o : Bool) (i : Nat) : lt_inv o (lt_pos o i) = i := by
  unfold lt_inv lt_pos
  cases o
  · simp only [Bool.false_eq_true, if_false]
    repeat' split
    all_goals omega
  · rfl
theorem lt_ip (o : Bool) (i : Nat) : lt_pos o (lt_inv o i) = i := by
  unfold lt_inv lt_pos
  cases o
  · simp only [Bool.false_eq_true, if_false]
    repeat' split
    all_goals omega
  · rfl
def lt_ok1 (e : ly_E) : Bool := match e with
  | .inl (ci, tg) => decide (ci < 11) && decide (tg.length = (kf_C ci).2.2) && (List.range tg.length).all (fun k => match tg[k]?, kz_ty ci k with
    | some 0, .int => true
    | some 1, .boolean => true
    | some (_ + 2), .object _ => true
    | some (_ + 2), .array _ => true
    | _, _ => false)
  | .inr _ => true
theorem lt_ok : lt_tab.all lt_ok1 = true := by decide +kernel
theorem lt_L {w : kw_W} {o : Bool} {L : Nat} (h : w.1 = lt_G o L) : kz_L w := by
  unfold kz_L
  rw [h]
  refine ⟨lt_pi o, lt_ip o, fun i ci tg hi => ?_⟩
  have hi : lt_ly L i = some (.inl (ci, tg)) := hi
  unfold lt_ly at hi
  split at hi
  next hlt =>
    have h1 := List.all_eq_true.mp lt_ok _ (List.mem_of_getElem? hi)
    unfold lt_ok1 at h1
    simp only [Bool.and_eq_true, decide_eq_true_eq, List.all_eq_true] at h1
    obtain ⟨⟨h2, h3⟩, h4⟩ := h1
    refine ⟨hlt, h2, h3, fun k g hg => ?_⟩
    have hk : k < tg.length := (List.getElem?_eq_some_iff.mp hg).1
    have h5 := h4 k (List.mem_range.mpr hk)
    rw [hg] at h5
    split at h5
    next hq hty => cases hq; exact ⟨fun _ => hty, fun q => by omega, fun q => by omega⟩
    next hq hty => cases hq; exact ⟨fun q => by omega, fun _ => hty, fun q => by omega⟩
    next hq hty => cases hq; exact ⟨fun q => by omega, fun q => by omega, fun _ => Or.inl ⟨_, hty⟩⟩
    next hq hty => cases hq; exact ⟨fun q => by omega, fun q => by omega, fun _ => Or.inr ⟨_, hty⟩⟩
    next => cases h5
  next =>
    unfold lt_old at hi
    split at hi <;> cases hi
def lt_st (k j : Nat) : Int32 := (([[20, 9, 3, 1, 1], [1, 3, 2, 6], [0, 10, 10, 20], [1, 1, 2, 6, 24, 120, 720]] : List (List Int32)).getD k []).getD j 0
/-- the state at the start: nothing is made; the statics, the script -/
def lt_S (xs : Nat → Int32) : ks_S := (fun _ _ => 0, fun i j => if i = 1004 then xs j else if 1000 ≤ i then lt_st (i - 1000) j else 0, 0, 0)
