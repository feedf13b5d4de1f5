/-! Each kind of call is a step. -/
section SS
variable {xs : Nat → Int32} {c m : km_E} {vs : List Value} {z : ZS}
theorem zM_R {w' : Nat → Nat → Nat} {I1 A1 I2 A2 : Nat → Nat → Int32} {pl : Bool} (hm1 : zM z I1 A1) (g : mo w' I1 A1 I2 A2) : zM (zmk w' z.tn z.tp z.d z.q z.k pl z.kp) I2 A2 := by
  obtain ⟨g1, g2, g3, g4, g5⟩ := g
  refine ⟨g1, ?_, ?_, ?_, ?_⟩
  · obtain ⟨t1, t2⟩ := hm1.2.1
    exact ⟨g4.trans t1, fun i hi => by rw [g2 54 (by decide)]; exact t2 i hi⟩
  · intro t ht
    have := hm1.2.2.1 t ht
    rw [g2 62 (by decide), g2 63 (by decide), g2 64 (by decide)]
    exact this
  · exact g5.trans hm1.2.2.2.1
  · intro hk
    have := hm1.2.2.2.2 hk
    unfold kM at *
    rw [g2 60 (by decide), g2 61 (by decide)]
    exact this
theorem pl_C {w' : Nat → Nat → Nat} {I A I1 A1 : Nat → Nat → Int32} {pl' : Bool} (h : zC xs z I A) (f1 : cw w' I1 A1) (f2 : wk w' I1 A1) (f3 : pkc w' pl' I1 A1) (f4 : pfr I A I1 A1) : zC xs (zmk w' z.tn z.tp z.d z.q z.k pl' z.kp) I1 A1 := by
  obtain ⟨c1, c2, c3, c4, c5, c6, c7⟩ := h
  obtain ⟨fa, fi⟩ := f4
  exact ⟨zX_fr c1 (fun a ha => fa a (by omega) (by omega)), f1, f2, f3, zT_fr c5 (fa _ (by decide) (by decide)) (fa _ (by decide) (by decide)) (fa _ (by decide) (by decide)) (fi _ (by decide) (by decide)), sC_fr c6 (fun a h1 h2 => fa a (by omega) (by omega)), zK_fr c7 (fun a h1 h2 => fa a (by omega) (by omega)) (fun a h1 h2 => fi a (by omega) (by omega))⟩
theorem st_AGP (h : AGP c m vs z.w z.pl) : STEP xs c m vs z := by
  obtain ⟨r, w', pl', hpl, hw', hC, hM⟩ := h
  refine ⟨r, (zmk w' z.tn z.tp z.d z.q z.k pl' z.kp), hpl, id, ?_⟩
  intro o L I A ho ho2 ⟨⟨o1, o2, o3, o4, o5⟩, hc, hm⟩
  obtain ⟨I1, A1, e1, f1, f2, f3, f4⟩ := hC o z.kp L I A ho ho2 hc.2.1 hc.2.2.1 hc.1.1 hc.2.2.2.1
  have hm1 : zM z I1 A1 := zM_fr hm (fun a h1 h2 => f4.1 a (by omega) (by omega)) (f4.2 45 (by decide) (by decide))
  have hc1 := pl_C hc f1 f2 f3 f4
  obtain ⟨I2, A2, e2, g⟩ := hM o pl' z.kp L I1 A1 ho2 hm1.1
  exact ⟨I1, A1, I2, A2, e1, e2, hc1.1.2, ⟨hw', o2, o3, o4, o5⟩, zC_fr hw' hc1 (fun a ha => g.2.1 a (by omega)) g.2.2.1, zM_R hm1 g⟩
theorem st_AGL (h : AGL c m vs z.w z.q z.pl) : STEP xs c m vs z := by
  obtain ⟨r, pl', hpl, hC, hM⟩ := h
  refine ⟨r, (zmk z.w z.tn z.tp z.d z.q z.k pl' z.kp), hpl, id, ?_⟩
  intro o L I A ho ho2 ⟨⟨o1, o2, o3, o4, o5⟩, hc, hm⟩
  obtain ⟨I1, A1, e1, f1, f2, f3, f4⟩ := hC o z.kp L I A ho ho2 hc.2.1 hc.2.2.1 hc.1.1 hc.2.2.2.1 hc.2.2.2.2.2.1
  have hm1 : zM z I1 A1 := zM_fr hm (fun a h1 h2 => f4.1 a (by omega) (by omega)) (f4.2 45 (by decide) (by decide))
  have hc1 := pl_C hc f1 f2 f3 f4
  obtain ⟨I2, A2, e2, g⟩ := hM o pl' z.kp L I1 A1 ho2 hm1.1 hm1.2.2.1
  exact ⟨I1, A1, I2, A2, e1, e2, hc1.1.2, ⟨o1, o2, o3, o4, o5⟩, zC_fr o1 hc1 (fun a ha => g.2.1 a (by omega)) g.2.2.1, zM_R hm1 g⟩
theorem t_C {w' : Nat → Nat → Nat} {tn' : Nat} {tp' : Nat → Nat} {d' : (Nat → Nat) × (Nat → Nat)} {I A I1 A1 : Nat → Nat → Int32} (hw : wok z.w) (h : zC xs z I A) (f : cot z.w w' tn' tp' d' I A I1 A1) : zC xs (zmk w' tn' tp' d' z.q z.k z.pl z.kp) I1 A1 := by
  obtain ⟨c1, c2, c3, c4, c5, c6, c7⟩ := h
  obtain ⟨f1, f2, f3, f4, f5, f6, f7⟩ := f
  exact ⟨zX_fr c1 (fun a ha => (f6 a (by omega) (by omega)).1), f1, f2, pkc_fr hw c4 (fun a h1 h2 => (f6 a (by omega) (by omega)).1) (f6 65 (by decide) (by decide)).2 f7, ⟨f3, f4, f5⟩, sC_fr c6 (fun a h1 h2 => (f6 a (by omega) (by omega)).1), zK_fr c7 (fun a h1 h2 => (f6 a (by omega) (by omega)).1) (fun a h1 h2 => (f6 a (by omega) (by omega)).2)⟩
theorem t_M {w' : Nat → Nat → Nat} {tn' : Nat} {tp' : Nat → Nat} {d' : (Nat → Nat) × (Nat → Nat)} {I1 A1 I2 A2 : Nat → Nat → Int32} (hm1 : zM z I1 A1) (g : mot w' tn' tp' I1 A1 I2 A2) : zM (zmk w' tn' tp' d' z.q z.k z.pl z.kp) I2 A2 := by
  obtain ⟨g1, g2, g3, g4, g5⟩ := g
  refine ⟨g1, g2, ?_, ?_, ?_⟩
  · intro t ht
    have := hm1.2.2.1 t ht
    rw [g3 62 (by decide), g3 63 (by decide), g3 64 (by decide)]
    exact this
  · exact g5.trans hm1.2.2.2.1
  · intro hk
    have := hm1.2.2.2.2 hk
    unfold kM at *
    rw [g3 60 (by decide), g3 61 (by decide)]
    exact this
theorem st_AGT (h : AGT c m vs z.w z.tn z.tp z.d) : STEP xs c m vs z := by
  obtain ⟨r, w', tn', tp', d', hw', ht', hC, hM⟩ := h
  refine ⟨r, (zmk w' tn' tp' d' z.q z.k z.pl z.kp), id, id, ?_⟩
  intro o L I A ho ho2 ⟨⟨o1, o2, o3, o4, o5⟩, hc, hm⟩
  obtain ⟨I1, A1, e1, f⟩ := hC o z.pl z.kp L I A ho hc.2.1 hc.2.2.1 hc.1.1 hc.2.2.2.2.1.1 hc.2.2.2.2.1.2.1 hc.2.2.2.2.1.2.2
  have f6 := f.2.2.2.2.2.1
  have hm1 : zM z I1 A1 := zM_fr hm (fun a h1 h2 => (f6 a (by omega) (by omega)).1) (f6 45 (by decide) (by decide)).2
  have hc1 := t_C o1 hc f
  obtain ⟨I2, A2, e2, g⟩ := hM o z.pl z.kp L I1 A1 ho2 hm1.1 hm1.2.1
  have f5 := f.2.2.2.2.1
  exact ⟨I1, A1, I2, A2, e1, e2, hc1.1.2, ⟨hw', ht', o3, o4, f5.2.2.1, f5.2.2.2⟩, zC_fr hw' hc1 (fun a ha => g.2.2.1 a (by omega)) g.2.2.2.1, t_M hm1 g⟩
theorem st_villages (h : zO z) : STEP xs mm_Road_villages mm_Model_villages [] z := by
  obtain ⟨r, w', tn', tp', d', hw', ht', hC, hM⟩ := ag_villages h.1 h.2.1 h.2.2.2.2.1 h.2.2.2.2.2
  exact st_AGT ⟨r, w', tn', tp', d', hw', ht', fun o pl kp L I A a1 a2 a3 a4 a5 a6 a7 => hC o pl kp L I A a1 a2 a3 a4 a5 a6 a7.1 a7.2.1, hM⟩
theorem st_AGS (h : AGS c m vs z.w z.q) : STEP xs c m vs z := by
  obtain ⟨r, q', hq', hC, hM⟩ := h
  refine ⟨r, (zmk z.w z.tn z.tp z.d q' z.k z.pl z.kp), id, id, ?_⟩
  intro o L I A ho ho2 ⟨⟨o1, o2, o3, o4, o5⟩, ⟨c1, c2, c3, c4, c5, c6, c7⟩, hm⟩
  obtain ⟨I1, A1, e1, f1, f2, f3, f4, f5, f6⟩ := hC o z.pl z.kp L I A ho c2 c3 c1.1 c6
  have hm1 : zM z I1 A1 := zM_fr hm (fun a h1 h2 => f4 a (by omega) (by omega)) (f5 45 (by decide))
  have hc1 : zC xs (zmk z.w z.tn z.tp z.d q' z.k z.pl z.kp) I1 A1 := ⟨zX_fr c1 (fun a ha => f4 a (by omega) (by omega)), f1, f2, pkc_fr o1 c4 (fun a h1 h2 => f4 a (by omega) (by omega)) (f5 65 (by decide)) (Or.inr ⟨f6, psame.r⟩), zT_fr c5 (f4 _ (by decide) (by decide)) (f4 _ (by decide) (by decide)) (f4 _ (by decide) (by decide)) (f5 _ (by decide)), f3, zK_fr c7 (fun a h1 h2 => f4 a (by omega) (by omega)) (fun a h1 h2 => f5 a (by omega))⟩
  obtain ⟨I2, A2, e2, g1, g2, g3, g4, g5, g6⟩ := hM o z.pl z.kp L I1 A1 ho2 hm1.1 hm1.2.2.1
  refine ⟨I1, A1, I2, A2, e1, e2, hc1.1.2, ⟨o1, o2, hq', o4, o5⟩, zC_fr o1 hc1 (fun a ha => g3 a (by omega)) g4, g1, ?_, g2, ?_, ?_⟩
  · obtain ⟨t1, t2⟩ := hm1.2.1
    exact ⟨g5.trans t1, fun i hi => by rw [g3 54 (by decide)]; exact t2 i hi⟩
  · exact g6.trans hm1.2.2.2.1
  · intro hk
    have := hm1.2.2.2.2 hk
    unfold kM at *
    rw [g3 60 (by decide), g3 61 (by decide)]
    exact this
theorem st_image : STEP xs mm_Road_image mm_Model_image [] z := by
  refine ⟨.int (nI 1), (zmk z.w z.tn z.tp z.d z.q z.w z.pl true), id, fun _ => rfl, ?_⟩
  intro o L I A ho ho2 ⟨⟨o1, o2, o3, o4, o5⟩, ⟨c1, c2, c3, c4, c5, c6, c7⟩, hm⟩
  obtain ⟨I1, A1, e1, f1, f2, f3, f4, f5⟩ := t_imageA (L := L) ho ho2 c2 c3
  have hm1 : zM z I1 A1 := zM_fr hm (fun a h1 h2 => (f4 a (by omega)).1) (f4 45 (by decide)).2
  have hc1 : zC xs (zmk z.w z.tn z.tp z.d z.q z.w z.pl true) I1 A1 := ⟨zX_fr c1 (fun a ha => f5 a (by omega)), f1, f2, pkc_fr o1 c4 (fun a h1 h2 => (f4 a (by omega)).1) (f4 65 (by decide)).2 (Or.inr ⟨by rw [(f4 0 (by decide)).2], psame.r⟩), zT_fr c5 (f4 _ (by decide)).1 (f4 _ (by decide)).1 (f4 _ (by decide)).1 (f4 _ (by decide)).2, sC_fr c6 (fun a h1 h2 => (f4 a (by omega)).1), fun _ => f3⟩
  obtain ⟨I2, A2, e2, g1, g2, g3, g4, g5⟩ := m_image (L := L) ho2 o1 hm1.1
  refine ⟨I1, A1, I2, A2, e1, e2, hc1.1.2, ⟨o1, o2, o3, fun _ => o1, o5⟩, zC_fr o1 hc1 (fun a ha => g5 a (by omega) (by omega)) (fun a ha => funext fun k => g4 a k (fun q => ha q.1)), g1, ?_, ?_, g3, fun _ => g2⟩
  · obtain ⟨t1, t2⟩ := hm1.2.1
    exact ⟨(g4 45 16 (by decide)).trans t1, fun i hi => by rw [g5 54 (by decide) (by decide)]; exact t2 i hi⟩
  · intro t ht
    have := hm1.2.2.1 t ht
    rw [g5 62 (by decide) (by decide), g5 63 (by decide) (by decide), g5 64 (by decide) (by decide)]
    exact this
theorem st_restore : STEP xs mm_Road_restore mm_Model_restore [] z := by
  cases hkp : z.kp with
  | false =>
    refine ⟨.int (-4), z, id, id, ?_⟩
    intro o L I A ho ho2 hz
    have hz' := hz
    obtain ⟨_, hc, hm⟩ := hz
    rw [hkp] at ho ⊢
    have h24 := hm.2.2.2.1
    rw [hkp] at h24
    exact ⟨I, A, I, A, c_restore0 ho, m_restore0 ho h24, hc.1.2, hz'⟩
  | true =>
    refine ⟨.int (nI 1), (zmk (wrs z.w z.k) z.tn z.tp z.d z.q z.k z.pl z.kp), id, id, ?_⟩
    intro o L I A ho ho2 ⟨⟨o1, o2, o3, o4, o5⟩, ⟨c1, c2, c3, c4, c5, c6, c7⟩, hm⟩
    have hwk := o4 hkp
    have hw' := wrs_ok o1 hwk
    have ho' := ho
    rw [hkp] at ho'
    obtain ⟨I1, A1, e1, f1, f2, f3, f4⟩ := c_restore1 (L := L) (pl := z.pl) ho' c2 (c7 hkp)
    have hm1 : zM z I1 A1 := zM_fr hm (fun a h1 h2 => (f4 a (by omega)).1) (f4 45 (by decide)).2
    have hc1 : zC xs (zmk (wrs z.w z.k) z.tn z.tp z.d z.q z.k z.pl z.kp) I1 A1 := ⟨zX_fr c1 (fun a ha => (f4 a (by omega)).1), f1, Or.inl f2, pkc_fr o1 c4 (fun a h1 h2 => (f4 a (by omega)).1) (f4 65 (by decide)).2 (Or.inl f3), zT_fr c5 (f4 _ (by decide)).1 (f4 _ (by decide)).1 (f4 _ (by decide)).1 (f4 _ (by decide)).2, sC_fr c6 (fun a h1 h2 => (f4 a (by omega)).1), zK_fr c7 (fun a h1 h2 => (f4 a (by omega)).1) (fun a h1 h2 => (f4 a (by omega)).2)⟩
    have h24 := hm1.2.2.2.1
    rw [hkp] at h24
    obtain ⟨I2, A2, e2, g1, g2, g3, g4, g5⟩ := m_restore (L := L) (pl := z.pl) (kp := true) ho' o1 hwk hm1.1 (hm1.2.2.2.2 hkp) h24
    refine ⟨I1, A1, I2, A2, ?_, ?_, hc1.1.2, ⟨hw', o2, o3, o4, o5⟩, zC_fr hw' hc1 (fun a ha => g5 a (by omega)) g2, g1, ?_, ?_, ?_, ?_⟩
    · show ev _ _ _ (sx z.pl z.kp I A) _ (sx z.pl z.kp I1 A1)
      rw [hkp]
      exact e1
    · show ev _ _ _ (sx z.pl z.kp I1 A1) _ (sx z.pl z.kp I2 A2)
      rw [hkp]
      exact e2
    · obtain ⟨t1, t2⟩ := hm1.2.1
      exact ⟨g3.trans t1, fun i hi => by rw [g5 54 (by decide)]; exact t2 i hi⟩
    · intro t ht
      have := hm1.2.2.1 t ht
      rw [g5 62 (by decide), g5 63 (by decide), g5 64 (by decide)]
      exact this
    · exact g4.trans hm1.2.2.2.1
    · intro hk
      have := hm1.2.2.2.2 hk
      unfold kM at *
      rw [g5 60 (by decide), g5 61 (by decide)]
      exact this
end SS
