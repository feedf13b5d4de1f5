/-! The heap's instructions, as steps from one state of the pure machine to the next. -/
theorem kz_el_lt {w : kw_W} {S : ks_S} {i t n b : Nat} (h : t < 3) : kz_el w S i t n b = (n, .inl (S.2.1 i)) := by
  unfold kz_el; rw [if_pos h]
theorem kz_el_3 {w : kw_W} {S : ks_S} {i n b : Nat} : kz_el w S i 3 n b = (n, .inr (.inr (.inr (.inr (fun j => if j < n then some (kz_ad w (b + j)) else none))))) := by
  unfold kz_el; rw [if_neg (by decide)]
theorem kz_lt {j : Int32} {n : Nat} (h : kx_in j n = true) : j.toNatClampNeg < n := Nat.not_le.mp fun q => (of_decide_eq_true h) (Or.inr q)
theorem kz_in {j : Int32} {n : Nat} (h : kx_in j n = true) : vp_in j n := by
  have h2 : ¬ (j < 0 ∨ n ≤ j.toNatClampNeg) := of_decide_eq_true h
  exact h2
section KR2
variable {p : Program} {l : Launch} {e : Env} {R : Room} {s : State} {m : MethodId} {args : Array Value} {below : List Frame} {meth : Method} {c : Code} {H : Heap} {locs : List Loc} {cells slots : Nat} {Q : State → Prop} {w : kw_W} {E : km_E} {S : ks_S} {ls : Array Slot} {rest : List Value} {pc : Nat}
theorem kz_atA {t n b a : Nat} (hR : kz_R w S s H) (ha : kg_aw w.1 S a = some (t, n, b)) (ht : t < 3) : va_at w.2.1 vwCl (kz_ad w a, .inl (w.2.2.1 t, n, .inl (S.2.1 a))) H := by
  obtain ⟨hly, hi, hp⟩ := kg_aw_e ha
  have h : va_at w.2.1 vwCl (kz_ad w a, .inl (w.2.2.1 t, kz_el w S a t n b)) H := hR.2.1 a _ hi hly hp
  rw [kz_el_lt ht] at h
  exact h
set_option maxHeartbeats 4000000 in
theorem kz_iald (X : kz_X w p s m args meth c E) (hR : kz_R w S s H) {a n b : Nat} {j : Int32} (ha : kg_ar w.1 S a = some (0, n, b)) (hin : kx_in j n = true) (hd : decode (km_c E) pc = .ok (.iaload, 1))
    (kk : W p l e R s m args below meth c H locs cells slots Q (F0 m (pc + 1) ls (.int (ks_av S a j.toNatClampNeg) :: rest))) : W p l e R s m args below meth c H locs cells slots Q (F0 m pc ls (.int j :: .ref (kz_ad w a) :: rest)) := by
  obtain ⟨hx, hb, hml, hr, hown, hts, ⟨hK, hN, -⟩, -⟩ := X
  obtain ⟨hly, hi⟩ := kg_ar_e ha
  rcases hi with ⟨hi, hp⟩ | hi
  · have h : va_at w.2.1 vwCl (kz_ad w a, .inl (w.2.2.1 0, kz_el w S a 0 n b)) H := hR.2.1 a _ hi hly hp
    rw [kz_el_lt (by decide)] at h
    exact va_iald hx hb hK (va_P1 h) 0 0 rfl rfl (kz_in hin) hd kk
  · obtain ⟨-, cell, h1, h2, h3, h4, h5, h6, h7⟩ := hR.2.2.1 a _ hi hly
    have hlt := kz_lt hin
    exact W.iald (v := .int (S.2.1 a j.toNatClampNeg)) hx hb h1 h2 h3 (fun q => by
      rcases q with q | q
      · exact (kz_in hin) (Or.inl q)
      · exact absurd (Nat.lt_of_lt_of_le hlt h4) (Nat.not_lt.mpr q)) (h6 _ hlt) rfl rfl hd kk
set_option maxHeartbeats 4000000 in
theorem kz_alen (X : kz_X w p s m args meth c E) (hR : kz_R w S s H) {a t n b : Nat} (ha : kg_ar w.1 S a = some (t, n, b)) (ht : t < 3) (hd : decode (km_c E) pc = .ok (.arraylength, 1))
    (kk : W p l e R s m args below meth c H locs cells slots Q (F0 m (pc + 1) ls (.int (Int32.ofNat n) :: rest))) : W p l e R s m args below meth c H locs cells slots Q (F0 m pc ls (.ref (kz_ad w a) :: rest)) := by
  obtain ⟨hx, hb, hml, hr, hown, hts, ⟨hK, hN, -⟩, -⟩ := X
  obtain ⟨hly, hi⟩ := kg_ar_e ha
  rcases hi with ⟨hi, hp⟩ | hi
  · have h : va_at w.2.1 vwCl (kz_ad w a, .inl (w.2.2.1 t, kz_el w S a t n b)) H := hR.2.1 a _ hi hly hp
    rw [kz_el_lt ht] at h
    rcases (show t = 0 ∨ t = 1 ∨ t = 2 by omega) with rfl | rfl | rfl
    · exact va_alen hx hb hK (va_P1 h) 0 0 rfl (ty := .int) rfl rfl hd kk
    · exact va_alen hx hb hK (va_P1 h) 0 1 rfl (ty := .boolean) rfl rfl hd kk
    · exact va_alen hx hb hK (va_P1 h) 0 2 rfl (ty := .byte) rfl rfl hd kk
  · obtain ⟨-, cell, h1, h2, h3, h4, h5, h6, h7⟩ := hR.2.2.1 a _ hi hly
    exact W.alen hx hb h1 h2 h5 rfl rfl hd kk
set_option maxHeartbeats 4000000 in
theorem kz_bald (X : kz_X w p s m args meth c E) (hR : kz_R w S s H) {a t n b : Nat} {j : Int32} (ha : kg_aw w.1 S a = some (t, n, b)) (ht : t = 1 ∨ t = 2) (hin : kx_in j n = true) (hd : decode (km_c E) pc = .ok (.baload, 1))
    (kk : W p l e R s m args below meth c H locs cells slots Q (F0 m (pc + 1) ls (.int (ks_av S a j.toNatClampNeg) :: rest))) : W p l e R s m args below meth c H locs cells slots Q (F0 m pc ls (.int j :: .ref (kz_ad w a) :: rest)) := by
  obtain ⟨hx, hb, hml, hr, hown, hts, ⟨hK, hN, -⟩, -⟩ := X
  rcases ht with rfl | rfl
  · exact va_zald hx hb hK (va_P1 (kz_atA hR ha (by decide))) 0 1 rfl rfl (kz_in hin) hd kk
  · exact va_bald hx hb hK (va_P1 (kz_atA hR ha (by decide))) 0 2 rfl rfl (kz_in hin) hd kk
set_option maxHeartbeats 4000000 in
theorem kz_aald (X : kz_X w p s m args meth c E) (hR : kz_R w S s H) {a n b : Nat} {j : Int32} (ha : kg_aw w.1 S a = some (3, n, b)) (hin : kx_in j n = true) (hd : decode (km_c E) pc = .ok (.aaload, 1))
    (kk : W p l e R s m args below meth c H locs cells slots Q (F0 m (pc + 1) ls (.ref (kz_ad w (b + j.toNatClampNeg)) :: rest))) : W p l e R s m args below meth c H locs cells slots Q (F0 m pc ls (.int j :: .ref (kz_ad w a) :: rest)) := by
  obtain ⟨hx, hb, hml, hr, hown, hts, ⟨hK, hN, -⟩, -⟩ := X
  obtain ⟨hly, hi, hp⟩ := kg_aw_e ha
  have h : va_at w.2.1 vwCl (kz_ad w a, .inl (w.2.2.1 3, kz_el w S a 3 n b)) H := hR.2.1 a _ hi hly hp
  rw [kz_el_3] at h
  have hlt := kz_lt hin
  have h2 : H[kz_ad w a]? = some (arrV (w.2.2.1 3) n (fun j => va_rf (if j < n then some (kz_ad w (b + j)) else none))) := h
  refine W.aald (v := .ref (kz_ad w (b + j.toNatClampNeg))) (ty := .array .int) hx hb h2 ((hK.2 3 _ rfl).1 n (fun j => va_rf (if j < n then some (kz_ad w (b + j)) else none))) rfl (fun q => by cases q) (by rw [arrV_size]; exact kz_in hin) ?_ rfl rfl hd kk
  rw [arrV_read _ _ hlt, if_pos hlt]
  rfl
theorem kz_upd {f : Nat → Int32} {k : Nat} {x : Int32} {v : Value} (hv : v = .int x) : updV (fun j => .int (f j)) k v = fun j => .int (upd f k x j) := by
  subst hv
  funext q
  by_cases hq : q = k
  · subst hq
    simp [updV, upd]
  · simp [updV, upd, hq]
/-- an element is written -/
theorem kz_stored {a t n b : Nat} {j : Int32} {x : Int32} {v : Value} {H' : Heap} (hL : kz_L w) (hR : kz_R w S s H) (ha : kg_aw w.1 S a = some (t, n, b)) (ht : t < 3) (hv : v = .int x) (h1 : H'[kz_ad w a]? = some ((vp_cell (w.2.2.1 t) (n, .inl (S.2.1 a))).setSlot j.toNatClampNeg v)) (h2 : H'.size = H.size) (h3 : ∀ q, q ≠ kz_ad w a → H'[q]? = H[q]?) : kz_R w (ks_sa S a j.toNatClampNeg x) s H' := by
  obtain ⟨hly, hi, hp⟩ := kg_aw_e ha
  refine hR.wr hL hi hly rfl (fun i e hne => kz_c_row hne) (fun i hge => ?_) ?_ h2 h3
  · show va_up S.2.1 a _ i = _
    simp [va_up, show i ≠ a by omega]
  · show H'[kz_ad w a]? = some (vp_cell (w.2.2.1 t) (kz_el w (ks_sa S a j.toNatClampNeg x) a t n b))
    rw [kz_el_lt ht, h1, vp_cell_i, vp_cell_i, arrV_store, kz_upd hv]
    simp [ks_sa, va_up]
set_option maxHeartbeats 4000000 in
theorem kz_iast (X : kz_X w p s m args meth c E) (hL : kz_L w) (hR : kz_R w S s H) {a n b : Nat} {j x : Int32} (ha : kg_aw w.1 S a = some (0, n, b)) (hin : kx_in j n = true) (hd : decode (km_c E) pc = .ok (.iastore, 1))
    (kk : ∀ (H' : Heap) (y : Loc), y.base = kz_ad w a → kz_R w (ks_sa S a j.toNatClampNeg x) s H' → W p l e R s m args below meth c H' (locs ++ [y]) cells slots Q (F0 m (pc + 1) ls rest)) : W p l e R s m args below meth c H locs cells slots Q (F0 m pc ls (.int x :: .int j :: .ref (kz_ad w a) :: rest)) := by
  obtain ⟨hx, hb, hml, hr, hown, hts, ⟨hK, hN, -⟩, -⟩ := X
  have h := kz_atA hR ha (by decide)
  refine W.iast hx hb h ((hK.2 0 _ rfl).1 n (fun j => .int (S.2.1 a j))) (fun q => by cases q) (by show ¬ (j < 0 ∨ (arrV _ _ _).slots.size ≤ _); rw [arrV_size]; exact kz_in hin) rfl rfl hd fun H1 e1 z oq => ?_
  exact kk H1 _ rfl (kz_stored hL hR ha (by decide) rfl e1 z oq)
set_option maxHeartbeats 4000000 in
theorem kz_bast (X : kz_X w p s m args meth c E) (hL : kz_L w) (hR : kz_R w S s H) {a t n b : Nat} {j x : Int32} (ha : kg_aw w.1 S a = some (t, n, b)) (ht : t = 1 ∨ t = 2) (hin : kx_in j n = true) (hd : decode (km_c E) pc = .ok (.bastore, 1))
    (kk : ∀ (H' : Heap) (y : Loc), y.base = kz_ad w a → kz_R w (ks_sa S a j.toNatClampNeg (vp_nar (kx_ty t) x)) s H' → W p l e R s m args below meth c H' (locs ++ [y]) cells slots Q (F0 m (pc + 1) ls rest)) : W p l e R s m args below meth c H locs cells slots Q (F0 m pc ls (.int x :: .int j :: .ref (kz_ad w a) :: rest)) := by
  obtain ⟨hx, hb, hml, hr, hown, hts, ⟨hK, hN, -⟩, -⟩ := X
  rcases ht with rfl | rfl
  · have h := kz_atA hR ha (by decide)
    refine W.zast hx hb h ((hK.2 1 _ rfl).1 n (fun j => .int (S.2.1 a j))) (fun q => by cases q) (by show ¬ (j < 0 ∨ (arrV _ _ _).slots.size ≤ _); rw [arrV_size]; exact kz_in hin) rfl rfl hd fun H1 e1 z oq => ?_
    exact kk H1 _ rfl (kz_stored hL hR ha (by decide) (by simp [kx_ty, vp_nar]; try rfl) e1 z oq)
  · have h := kz_atA hR ha (by decide)
    refine W.bast hx hb h ((hK.2 2 _ rfl).1 n (fun j => .int (S.2.1 a j))) (fun q => by cases q) (by show ¬ (j < 0 ∨ (arrV _ _ _).slots.size ≤ _); rw [arrV_size]; exact kz_in hin) rfl rfl hd fun H1 e1 z oq => ?_
    exact kk H1 _ rfl (kz_stored hL hR ha (by decide) (by simp [kx_ty, vp_nar]; try rfl) e1 z oq)
set_option maxHeartbeats 4000000 in
theorem kz_gets (X : kz_X w p s m args meth c E) (hR : kz_R w S s H) {idx k : Nat} {host : String} (hf : ks (km_own E) idx = some (host, k)) (hd : decode (km_c E) pc = .ok (.getstatic idx, 3))
    (kk : W p l e R s m args below meth c H locs cells slots Q (F0 m (pc + 3) ls (.ref (kz_ad w (1000 + k)) :: rest))) : W p l e R s m args below meth c H locs cells slots Q (F0 m pc ls rest) := by
  obtain ⟨hx, hb, hml, hr, hown, hts, ⟨hK, hN, -⟩, -⟩ := X
  obtain ⟨h1, h2, h3⟩ := ks_e hf
  obtain ⟨cf, kf, fi, f, a, cell, g1, g2, g3, g4, g5, g6, g7, g8⟩ := hR.2.2.2 k h1
  by_cases hh : host = ""
  · exact W.gets hx hb hown (hts _ (h2 hh)) g1 g2 g3 g4 g5 (fun e => by rw [e] at g6; cases g6) g7 rfl hd kk
  · exact va_WgetsN hx hb hown (va_Nw.use rfl (hN _ (h3 hh))) g1 g2 g3 g4 g5 (fun e => by rw [e] at g6; cases g6) g7 rfl hd kk
set_option maxHeartbeats 4000000 in
theorem kz_putf (X : kz_X w p s m args meth c E) (hL : kz_L w) (hR : kz_R w S s H) {S' : ks_S} {idx a ci k g : Nat} {host : String} {tg : List Nat} {v : Value} (hf : kf (km_own E) idx = some (host, ci, k)) (hfin : kx_fin E host ci k = true) (ho : kg_ob w.1 S a = some (ci, tg)) (hg : tg[k]? = some g) (hv : kx_put S a k g v = some S') (hd : decode (km_c E) pc = .ok (.putfield idx, 3))
    (kk : ∀ (H' : Heap) (y : Loc), y.base = kz_ad w a → kz_R w S' s H' → W p l e R s m args below meth c H' (locs ++ [y]) cells slots Q (F0 m (pc + 3) ls rest)) : W p l e R s m args below meth c H locs cells slots Q (F0 m pc ls (kv (kz_ad w) v :: .ref (kz_ad w a) :: rest)) := by
  obtain ⟨hly, hi, hp⟩ := kg_ob_e ho
  obtain ⟨-, hci, hlen, hkd⟩ := hL.2.2 a ci tg hly
  obtain ⟨⟨x, hS', hfl⟩, hn, hfit⟩ := kz_fits (hkd k g hg) hv (kz_ad w)
  have hat : va_at w.2.1 vwCl (kz_ad w a, .inr (ci, kz_fs w S a tg)) H := hR.2.1 a _ hi hly hp
  have hl : k < (kz_fs w S a tg).length := by rw [kz_fs_len]; exact (List.getElem?_eq_some_iff.mp hg).1
  refine kz_putW X hf hci (fun hq => ?_) hat hl hn hfit hd fun H' y hy e1 e2 e3 => ?_
  · unfold kx_fin at hfin
    rw [hq] at hfin
    simp only [Bool.not_true, Bool.false_or, Bool.and_eq_true, beq_iff_eq] at hfin
    exact ⟨hfin.1.1, X.2.2.2.2.2.2.2.2.1 hfin.1.2, hfin.2⟩
  · subst hS'
    refine kk H' y hy (hR.wr hL hi hly rfl (fun i e hne => kz_c_si hne) (fun i hge => rfl) ?_ e2 e3)
    show va_at w.2.1 vwCl (kz_ad w a, .inr (ci, kz_fs w (ks_si S a k x) a tg)) H'
    rw [kz_fs_set hg hfl]
    exact e1
set_option maxHeartbeats 4000000 in
theorem kz_new (X : kz_X w p s m args meth c E) (hL : kz_L w) (hR : kz_R w S s H) {idx ci i : Nat} {tg : List Nat} (hf : kw (km_own E) idx = some ci) (hi : kg_inv w.1 S.2.2.1 = i) (hly : kg_ly w.1 i = some (.inl (ci, tg))) (hc : cells + 1 ≤ R.cells) (hs : slots + tg.length ≤ R.slots) (hd : decode (km_c E) pc = .ok (.new idx, 3))
    (kk : ∀ (H' : Heap), kz_R w (va_up S.1 i (fun _ => 0), S.2.1, S.2.2.1 + 1, S.2.2.2 + tg.length) s H' → W p l e R s m args below meth c H' locs (cells + 1) (slots + tg.length) Q (F0 m (pc + 3) ls (.ref (kz_ad w i) :: rest))) : W p l e R s m args below meth c H locs cells slots Q (F0 m pc ls rest) := by
  obtain ⟨hx, hb, hml, hr, hown, hts, ⟨hK, hN, -⟩, -⟩ := X
  obtain ⟨h1, h2, h3, h4⟩ := kw_e hf
  obtain ⟨hi0, hci, hlen, hkd⟩ := hL.2.2 i ci tg hly
  have hC := kf_Cat hci
  have hKn := hK.1 ci _ hC
  have had := kz_ad_at hL hR hi0 hi
  rw [hlen] at hs kk
  refine W.newcK hx hb hown (hts _ h2) (hts _ h3) (hts _ h4) rfl hd hc hs hKn.2.1 had.symm fun H1 kC hkC e1 z1 o1 => ?_
  refine kk H1 (hR.mk hL hi0 hi hly rfl (fun j e' hne => ?_) (fun j hge => rfl) ?_ (by rw [z1, had]) (fun q hq => o1 q (by rw [had]; exact hq)))
  · cases e' with
    | inl o =>
      show Sum.inr (o.1, kz_fs w _ j o.2) = Sum.inr (o.1, kz_fs w S j o.2)
      congr 2
      unfold kz_fs
      congr 1
      funext a g
      rw [kx_fld_congr (S' := S)]
      simp [ks_iv, va_up, hne]
    | inr a => rfl
  · refine ⟨_, hC, t_OB.to (u_born (kz_ty ci) hts (kz_ws hci) hKn hkC e1 (kz_tyok hci)) (fun k hk => ?_)⟩
    have hk2 : k < tg.length := by rw [hlen]; exact hk
    have hg : tg[k]? = some tg[k] := List.getElem?_eq_getElem hk2
    have hkk := hkd k _ hg
    show defaultValue (kz_ty ci k) = (kz_fs w _ i tg).getD k .null
    rw [List.getD_eq_getElem?_getD, kz_fs_at hg]
    show defaultValue (kz_ty ci k) = kv (kz_ad w) (kx_fld _ i k tg[k])
    generalize tg[k] = g at hkk
    have hz : ks_iv (va_up S.1 i (fun _ => 0), S.2.1, S.2.2.1 + 1, S.2.2.2 + (kf_C ci).2.2) i k = 0 := by simp [ks_iv, va_up]
    unfold kx_fld
    rw [hz]
    match g, hkk with
    | 0, hkk => rw [hkk.1 rfl]; rfl
    | 1, hkk => rw [hkk.2.1 rfl]; rfl
    | t + 2, hkk =>
      rcases hkk.2.2 (by omega) with ⟨n, q⟩ | ⟨n, q⟩ <;> rw [q] <;> rfl
theorem kz_arr {ty : ArrayType} {t : Nat} (h : t = kx_tag ty) (h3 : t < 3) : newarray.typeOf ty = kx_ty t ∧ Cond.arrayClass (newarray.typeOf ty) ∈ gw ∧ defaultValue (kx_ty t) = .int 0 ∧ componentBytes (kx_ty t) ≤ 4 := by
  cases ty <;> simp [kx_tag] at h <;> subst h <;> first | omega | exact ⟨rfl, by first | exact kz_y0 | exact kz_y1 | exact kz_y2, rfl, by decide⟩
theorem kz_tlt {t : Nat} (h : t < 3) : (kz_tl w)[t]? = some (w.2.2.1 t, kx_ty t) := by
  rcases (show t = 0 ∨ t = 1 ∨ t = 2 by omega) with rfl | rfl | rfl <;> rfl
set_option maxHeartbeats 4000000 in
theorem kz_newa (X : kz_X w p s m args meth c E) (hL : kz_L w) (hR : kz_R w S s H) {t n b i : Nat} {x : Int32} {ty : ArrayType} (hi : kg_inv w.1 S.2.2.1 = i) (hly : kg_ly w.1 i = some (.inr (t, n, b))) (ht : t = kx_tag ty) (h3 : t < 3) (hi0 : i < 1000) (hx0 : ¬ x < 0) (hxn : x.toNatClampNeg = n) (hn : n < 100000) (hc : cells + 1 ≤ R.cells) (hs : slots + n ≤ R.slots) (hd : decode (km_c E) pc = .ok (.newarray ty, 2))
    (kk : ∀ (H' : Heap), kz_R w (S.1, va_up S.2.1 i (fun _ => 0), S.2.2.1 + 1, S.2.2.2 + n) s H' → W p l e R s m args below meth c H' locs (cells + 1) (slots + n) Q (F0 m (pc + 2) ls (.ref (kz_ad w i) :: rest))) : W p l e R s m args below meth c H locs cells slots Q (F0 m pc ls (.int x :: rest)) := by
  obtain ⟨hx, hb, hml, hr, hown, hts, ⟨hK, hN, -⟩, -⟩ := X
  obtain ⟨k1, k2, k3, k4⟩ := kz_arr ht h3
  have had := kz_ad_at hL hR hi0 hi
  refine va_newaK hx hb (hts _ k2) rfl hd rfl hx0 hxn (by rw [k1]; have := Nat.mul_le_mul_left n k4; omega) hc hs had.symm fun H1 cA e1 z1 o1 hAr hNm => ?_
  have hcA : cA = w.2.2.1 t := by
    have h9 := (hK.2 t _ (kz_tlt h3)).2
    rw [k1] at hNm
    rcases (show t = 0 ∨ t = 1 ∨ t = 2 by omega) with rfl | rfl | rfl
    · exact Option.some.inj (hNm.symm.trans h9)
    · exact Option.some.inj (hNm.symm.trans h9)
    · exact Option.some.inj (hNm.symm.trans h9)
  refine kk H1 (hR.mk hL hi0 hi hly rfl (fun j e' hne => ?_) (fun j hge => ?_) ?_ (by rw [z1, had]) (fun q hq => o1 q (by rw [had]; exact hq)))
  · cases e' with
    | inl o => rfl
    | inr a =>
      show Sum.inl (_, kz_el w _ j _ _ _) = Sum.inl (_, kz_el w S j _ _ _)
      unfold kz_el
      simp [va_up, hne]
  · show va_up S.2.1 i _ j = _
    simp [va_up, show j ≠ i by omega]
  · show H1[kz_ad w i]? = some (vp_cell (w.2.2.1 t) (kz_el w _ i t n b))
    rw [kz_el_lt h3, e1, hcA, k1, k3, vp_cell_i]
    simp [va_up]
end KR2
