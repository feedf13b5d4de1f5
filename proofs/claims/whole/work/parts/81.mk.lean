/-! The constructors, row by row (gen_mk.py writes this). -/
def mrow (av : Nat → Nat → Int32) (b m : Nat) : Nat → Nat → Int32 := fun i => if b ≤ i ∧ i < b + m then fun _ => 0 else av i
def fil5 (av : Nat → Nat → Int32) (a : Nat) : Nat → Nat → Int32 := u1 av a (fun j => if j < 49 then nI 5 else av a j)
theorem mk_Plan_65_t {L s : Nat} {iv av : Nat → Nat → Int32} : ev (lt_G true L) mm_Plan_init [.ref 65] (iv, av, 66, s) none (u2 (u2 (u2 (u2 (u2 (u2 (u2 (u2 (u2 (u2 (iv) 65 0 1) 65 1 1) 65 2 1) 65 3 1) 65 4 1) 65 5 1) 65 6 (nI 0)) 65 7 (nI 0)) 65 8 (nI 0)) 65 9 (nI 0), u1 (u1 (u1 (mrow (u1 (u1 (av) 66 (fun _ => 0)) 67 (fun _ => 0)) 69 64) 133 (fun _ => 0)) 134 (fun _ => 0)) 135 (fun _ => 0), 136, s + 49 + 49 + 64 + 64 * 49 + 64 + 49 + 49) := by
  refine ev_of ?_
  show rn _ _ 0 [some (.ref 65)] [] _ _
  refine sq_Plan_init_0.2 ?_
  refine (rk_obj dq_Plan_init_1 (by decide) (by decide)).2 ?_
  refine sq_Plan_init_4.2 ?_
  refine sq_Plan_init_5.2 ?_
  refine (rk_arr (a := 66) (len := 49) (b := 0) (t := 0) dq_Plan_init_7 rfl rfl (by decide) (by decide) (by decide)).2 ?_
  refine (rk_put (host := "") (ci := 2) (k := 0) (tg := [68, 69, 70, 135, 136, 137, 0, 0, 0, 0]) dq_Plan_init_9 (by decide +kernel) rfl ⟨by decide, show lt_pos true 65 < _ by decide⟩ (by decide) rfl (rk_pr (t := 66))).2 ?_
  refine sq_Plan_init_12.2 ?_
  refine sq_Plan_init_13.2 ?_
  refine (rk_arr (a := 67) (len := 49) (b := 0) (t := 0) dq_Plan_init_15 rfl rfl (by decide) (by decide) (by decide)).2 ?_
  refine (rk_put (host := "") (ci := 2) (k := 1) (tg := [68, 69, 70, 135, 136, 137, 0, 0, 0, 0]) dq_Plan_init_17 (by decide +kernel) rfl ⟨by decide, show lt_pos true 65 < _ by decide⟩ (by decide) rfl (rk_pr (t := 67))).2 ?_
  refine sq_Plan_init_20.2 ?_
  refine sq_Plan_init_21.2 ?_
  refine sq_Plan_init_23.2 ?_
  refine (rk_mul (a := 68) (b := 69) (m := 64) (y := 49) dq_Plan_init_25 rfl rfl ⟨by decide, by decide⟩ (by decide) (by decide) (by decide) rfl).2 ?_
  refine (rk_put (host := "") (ci := 2) (k := 2) (tg := [68, 69, 70, 135, 136, 137, 0, 0, 0, 0]) dq_Plan_init_29 (by decide +kernel) rfl ⟨by decide, show lt_pos true 65 < _ by decide⟩ (by decide) rfl (rk_pr (t := 68))).2 ?_
  refine sq_Plan_init_32.2 ?_
  refine sq_Plan_init_33.2 ?_
  refine (rk_arr (a := 133) (len := 64) (b := 0) (t := 1) dq_Plan_init_35 rfl rfl (by decide) (by decide) (by decide)).2 ?_
  refine (rk_put (host := "") (ci := 2) (k := 3) (tg := [68, 69, 70, 135, 136, 137, 0, 0, 0, 0]) dq_Plan_init_37 (by decide +kernel) rfl ⟨by decide, show lt_pos true 65 < _ by decide⟩ (by decide) rfl (rk_pr (t := 133))).2 ?_
  refine sq_Plan_init_40.2 ?_
  refine sq_Plan_init_41.2 ?_
  refine (rk_arr (a := 134) (len := 49) (b := 0) (t := 0) dq_Plan_init_43 rfl rfl (by decide) (by decide) (by decide)).2 ?_
  refine (rk_put (host := "") (ci := 2) (k := 4) (tg := [68, 69, 70, 135, 136, 137, 0, 0, 0, 0]) dq_Plan_init_45 (by decide +kernel) rfl ⟨by decide, show lt_pos true 65 < _ by decide⟩ (by decide) rfl (rk_pr (t := 134))).2 ?_
  refine sq_Plan_init_48.2 ?_
  refine sq_Plan_init_49.2 ?_
  refine (rk_arr (a := 135) (len := 49) (b := 0) (t := 1) dq_Plan_init_51 rfl rfl (by decide) (by decide) (by decide)).2 ?_
  refine (rk_put (host := "") (ci := 2) (k := 5) (tg := [68, 69, 70, 135, 136, 137, 0, 0, 0, 0]) dq_Plan_init_53 (by decide +kernel) rfl ⟨by decide, show lt_pos true 65 < _ by decide⟩ (by decide) rfl (rk_pr (t := 135))).2 ?_
  refine sq_Plan_init_56.2 ?_
  refine sq_Plan_init_57.2 ?_
  refine (rk_put (host := "") (ci := 2) (k := 6) (tg := [68, 69, 70, 135, 136, 137, 0, 0, 0, 0]) dq_Plan_init_58 (by decide +kernel) rfl ⟨by decide, show lt_pos true 65 < _ by decide⟩ (by decide) rfl rk_pi).2 ?_
  refine sq_Plan_init_61.2 ?_
  refine sq_Plan_init_62.2 ?_
  refine (rk_put (host := "") (ci := 2) (k := 7) (tg := [68, 69, 70, 135, 136, 137, 0, 0, 0, 0]) dq_Plan_init_63 (by decide +kernel) rfl ⟨by decide, show lt_pos true 65 < _ by decide⟩ (by decide) rfl rk_pi).2 ?_
  refine sq_Plan_init_66.2 ?_
  refine sq_Plan_init_67.2 ?_
  refine (rk_put (host := "") (ci := 2) (k := 8) (tg := [68, 69, 70, 135, 136, 137, 0, 0, 0, 0]) dq_Plan_init_68 (by decide +kernel) rfl ⟨by decide, show lt_pos true 65 < _ by decide⟩ (by decide) rfl rk_pi).2 ?_
  refine sq_Plan_init_71.2 ?_
  refine sq_Plan_init_72.2 ?_
  refine (rk_put (host := "") (ci := 2) (k := 9) (tg := [68, 69, 70, 135, 136, 137, 0, 0, 0, 0]) dq_Plan_init_73 (by decide +kernel) rfl ⟨by decide, show lt_pos true 65 < _ by decide⟩ (by decide) rfl rk_pi).2 ?_
  exact sq_Plan_init_76.2 ⟨rfl, rfl⟩
def ivPt (iv : Nat → Nat → Int32) : Nat → Nat → Int32 := u2 (u2 (u2 (u2 (u2 (u2 (u2 (u2 (u2 (u2 (u2 (u1 (iv) 65 (fun _ => 0)) 65 0 1) 65 1 1) 65 2 1) 65 3 1) 65 4 1) 65 5 1) 65 6 (nI 0)) 65 7 (nI 0)) 65 8 (nI 0)) 65 9 (nI 0)) 0 8 1
def avPt (av : Nat → Nat → Int32) : Nat → Nat → Int32 := u1 (u1 (u1 (mrow (u1 (u1 (av) 66 (fun _ => 0)) 67 (fun _ => 0)) 69 64) 133 (fun _ => 0)) 134 (fun _ => 0)) 135 (fun _ => 0)
theorem mk_plan_t {L : Nat} {I A : Nat → Nat → Int32} {P : Option Value → ks_S → Prop} (ho : sx_o true false false) (h : rn (lt_G true L) mm_Road_planNow 18 [some (.ref 0), none] [] (ivPt (sx_iv false false I), avPt A, 136, 9177) P) : rn (lt_G true L) mm_Road_planNow 0 [some (.ref 0), none] [] (sx false false I A) P := by
  refine sq_Road_planNow_0.2 ?_
  refine (sq_Road_planNow_1_0f ho).2 ?_
  refine sq_Road_planNow_4n.2 ?_
  refine sq_Road_planNow_7.2 ?_
  show rn _ _ 8 _ _ (sx_iv false false I, A, 65, 5707) _
  refine (rk_new (ci := 2) (a := 65) (tg := [68, 69, 70, 135, 136, 137, 0, 0, 0, 0]) dq_Road_planNow_8 (by decide) rfl rfl (by decide)).2 ?_
  refine sq_Road_planNow_11r.2 ?_
  refine (rk_ini (host := "DeltaRoad") (E' := mm_Plan_init) (tg := [68, 69, 70, 135, 136, 137, 0, 0, 0, 0]) dq_Road_planNow_12 (by decide) rfl (by decide) (by decide) rfl (by decide) (by decide) rfl rfl ⟨by decide, show lt_pos true 65 < _ by decide⟩ mk_Plan_65_t).2 ?_
  refine (rk_put (host := "") (ci := 9) (k := 8) (tg := [3, 18, 22, 26, 28, 37, 44, 138, 67, 1, 1]) dq_Road_planNow_15 (by decide +kernel) rfl (lo_pos (by decide) (by decide)) (by decide) rfl (rk_pr (t := 65))).2 ?_
  exact h
theorem mk_Plan_65_f {L s : Nat} {iv av : Nat → Nat → Int32} : ev (lt_G false L) mm_Plan_init [.ref 65] (iv, av, 81, s) none (u2 (u2 (u2 (u2 (u2 (u2 (u2 (u2 (u2 (u2 (iv) 65 0 1) 65 1 1) 65 2 1) 65 3 1) 65 4 1) 65 5 1) 65 6 (nI 0)) 65 7 (nI 0)) 65 8 (nI 0)) 65 9 (nI 0), u1 (u1 (u1 (mrow (u1 (u1 (av) 66 (fun _ => 0)) 67 (fun _ => 0)) 69 64) 133 (fun _ => 0)) 134 (fun _ => 0)) 135 (fun _ => 0), 151, s + 49 + 49 + 64 + 64 * 49 + 64 + 49 + 49) := by
  refine ev_of ?_
  show rn _ _ 0 [some (.ref 65)] [] _ _
  refine sq_Plan_init_0.2 ?_
  refine (rk_obj dq_Plan_init_1 (by decide) (by decide)).2 ?_
  refine sq_Plan_init_4.2 ?_
  refine sq_Plan_init_5.2 ?_
  refine (rk_arr (a := 66) (len := 49) (b := 0) (t := 0) dq_Plan_init_7 rfl rfl (by decide) (by decide) (by decide)).2 ?_
  refine (rk_put (host := "") (ci := 2) (k := 0) (tg := [68, 69, 70, 135, 136, 137, 0, 0, 0, 0]) dq_Plan_init_9 (by decide +kernel) rfl ⟨by decide, show lt_pos false 65 < _ by decide⟩ (by decide) rfl (rk_pr (t := 66))).2 ?_
  refine sq_Plan_init_12.2 ?_
  refine sq_Plan_init_13.2 ?_
  refine (rk_arr (a := 67) (len := 49) (b := 0) (t := 0) dq_Plan_init_15 rfl rfl (by decide) (by decide) (by decide)).2 ?_
  refine (rk_put (host := "") (ci := 2) (k := 1) (tg := [68, 69, 70, 135, 136, 137, 0, 0, 0, 0]) dq_Plan_init_17 (by decide +kernel) rfl ⟨by decide, show lt_pos false 65 < _ by decide⟩ (by decide) rfl (rk_pr (t := 67))).2 ?_
  refine sq_Plan_init_20.2 ?_
  refine sq_Plan_init_21.2 ?_
  refine sq_Plan_init_23.2 ?_
  refine (rk_mul (a := 68) (b := 69) (m := 64) (y := 49) dq_Plan_init_25 rfl rfl ⟨by decide, by decide⟩ (by decide) (by decide) (by decide) rfl).2 ?_
  refine (rk_put (host := "") (ci := 2) (k := 2) (tg := [68, 69, 70, 135, 136, 137, 0, 0, 0, 0]) dq_Plan_init_29 (by decide +kernel) rfl ⟨by decide, show lt_pos false 65 < _ by decide⟩ (by decide) rfl (rk_pr (t := 68))).2 ?_
  refine sq_Plan_init_32.2 ?_
  refine sq_Plan_init_33.2 ?_
  refine (rk_arr (a := 133) (len := 64) (b := 0) (t := 1) dq_Plan_init_35 rfl rfl (by decide) (by decide) (by decide)).2 ?_
  refine (rk_put (host := "") (ci := 2) (k := 3) (tg := [68, 69, 70, 135, 136, 137, 0, 0, 0, 0]) dq_Plan_init_37 (by decide +kernel) rfl ⟨by decide, show lt_pos false 65 < _ by decide⟩ (by decide) rfl (rk_pr (t := 133))).2 ?_
  refine sq_Plan_init_40.2 ?_
  refine sq_Plan_init_41.2 ?_
  refine (rk_arr (a := 134) (len := 49) (b := 0) (t := 0) dq_Plan_init_43 rfl rfl (by decide) (by decide) (by decide)).2 ?_
  refine (rk_put (host := "") (ci := 2) (k := 4) (tg := [68, 69, 70, 135, 136, 137, 0, 0, 0, 0]) dq_Plan_init_45 (by decide +kernel) rfl ⟨by decide, show lt_pos false 65 < _ by decide⟩ (by decide) rfl (rk_pr (t := 134))).2 ?_
  refine sq_Plan_init_48.2 ?_
  refine sq_Plan_init_49.2 ?_
  refine (rk_arr (a := 135) (len := 49) (b := 0) (t := 1) dq_Plan_init_51 rfl rfl (by decide) (by decide) (by decide)).2 ?_
  refine (rk_put (host := "") (ci := 2) (k := 5) (tg := [68, 69, 70, 135, 136, 137, 0, 0, 0, 0]) dq_Plan_init_53 (by decide +kernel) rfl ⟨by decide, show lt_pos false 65 < _ by decide⟩ (by decide) rfl (rk_pr (t := 135))).2 ?_
  refine sq_Plan_init_56.2 ?_
  refine sq_Plan_init_57.2 ?_
  refine (rk_put (host := "") (ci := 2) (k := 6) (tg := [68, 69, 70, 135, 136, 137, 0, 0, 0, 0]) dq_Plan_init_58 (by decide +kernel) rfl ⟨by decide, show lt_pos false 65 < _ by decide⟩ (by decide) rfl rk_pi).2 ?_
  refine sq_Plan_init_61.2 ?_
  refine sq_Plan_init_62.2 ?_
  refine (rk_put (host := "") (ci := 2) (k := 7) (tg := [68, 69, 70, 135, 136, 137, 0, 0, 0, 0]) dq_Plan_init_63 (by decide +kernel) rfl ⟨by decide, show lt_pos false 65 < _ by decide⟩ (by decide) rfl rk_pi).2 ?_
  refine sq_Plan_init_66.2 ?_
  refine sq_Plan_init_67.2 ?_
  refine (rk_put (host := "") (ci := 2) (k := 8) (tg := [68, 69, 70, 135, 136, 137, 0, 0, 0, 0]) dq_Plan_init_68 (by decide +kernel) rfl ⟨by decide, show lt_pos false 65 < _ by decide⟩ (by decide) rfl rk_pi).2 ?_
  refine sq_Plan_init_71.2 ?_
  refine sq_Plan_init_72.2 ?_
  refine (rk_put (host := "") (ci := 2) (k := 9) (tg := [68, 69, 70, 135, 136, 137, 0, 0, 0, 0]) dq_Plan_init_73 (by decide +kernel) rfl ⟨by decide, show lt_pos false 65 < _ by decide⟩ (by decide) rfl rk_pi).2 ?_
  exact sq_Plan_init_76.2 ⟨rfl, rfl⟩
def ivPf (iv : Nat → Nat → Int32) : Nat → Nat → Int32 := u2 (u2 (u2 (u2 (u2 (u2 (u2 (u2 (u2 (u2 (u2 (u1 (iv) 65 (fun _ => 0)) 65 0 1) 65 1 1) 65 2 1) 65 3 1) 65 4 1) 65 5 1) 65 6 (nI 0)) 65 7 (nI 0)) 65 8 (nI 0)) 65 9 (nI 0)) 0 8 1
def avPf (av : Nat → Nat → Int32) : Nat → Nat → Int32 := u1 (u1 (u1 (mrow (u1 (u1 (av) 66 (fun _ => 0)) 67 (fun _ => 0)) 69 64) 133 (fun _ => 0)) 134 (fun _ => 0)) 135 (fun _ => 0)
theorem mk_plan_f {L : Nat} {I A : Nat → Nat → Int32} {P : Option Value → ks_S → Prop} (ho : sx_o false false true) (h : rn (lt_G false L) mm_Road_planNow 18 [some (.ref 0), none] [] (ivPf (sx_iv false true I), avPf A, 151, 9555) P) : rn (lt_G false L) mm_Road_planNow 0 [some (.ref 0), none] [] (sx false true I A) P := by
  refine sq_Road_planNow_0.2 ?_
  refine (sq_Road_planNow_1_0f ho).2 ?_
  refine sq_Road_planNow_4n.2 ?_
  refine sq_Road_planNow_7.2 ?_
  show rn _ _ 8 _ _ (sx_iv false true I, A, 80, 6085) _
  refine (rk_new (ci := 2) (a := 65) (tg := [68, 69, 70, 135, 136, 137, 0, 0, 0, 0]) dq_Road_planNow_8 (by decide) rfl rfl (by decide)).2 ?_
  refine sq_Road_planNow_11r.2 ?_
  refine (rk_ini (host := "DeltaRoad") (E' := mm_Plan_init) (tg := [68, 69, 70, 135, 136, 137, 0, 0, 0, 0]) dq_Road_planNow_12 (by decide) rfl (by decide) (by decide) rfl (by decide) (by decide) rfl rfl ⟨by decide, show lt_pos false 65 < _ by decide⟩ mk_Plan_65_f).2 ?_
  refine (rk_put (host := "") (ci := 9) (k := 8) (tg := [3, 18, 22, 26, 28, 37, 44, 138, 67, 1, 1]) dq_Road_planNow_15 (by decide +kernel) rfl (lo_pos (by decide) (by decide)) (by decide) rfl (rk_pr (t := 65))).2 ?_
  exact h
theorem mk_Ground_137_f {L s : Nat} {iv av : Nat → Nat → Int32} : ev (lt_G false L) mm_Ground_init [.ref 137] (iv, av, 67, s) none (u2 (u2 (iv) 137 0 1) 137 1 (nI 0), fil5 (mrow (av) 139 5) 139, 73, s + 5 + 5 * 49) := by
  refine ev_of ?_
  show rn _ _ 0 [some (.ref 137)] [] _ _
  refine sq_Ground_init_0.2 ?_
  refine (rk_obj dq_Ground_init_1 (by decide) (by decide)).2 ?_
  refine sq_Ground_init_4.2 ?_
  refine sq_Ground_init_5.2 ?_
  refine sq_Ground_init_6.2 ?_
  refine (rk_mul (a := 138) (b := 139) (m := 5) (y := 49) dq_Ground_init_8 rfl rfl ⟨by decide, by decide⟩ (by decide) (by decide) (by decide) rfl).2 ?_
  refine (rk_put (host := "") (ci := 0) (k := 0) (tg := [140, 0]) dq_Ground_init_12 (by decide +kernel) rfl ⟨by decide, show lt_pos false 137 < _ by decide⟩ (by decide) rfl (rk_pr (t := 138))).2 ?_
  refine sq_Ground_init_15.2 ?_
  refine sq_Ground_init_16.2 ?_
  refine (rk_put (host := "") (ci := 0) (k := 1) (tg := [140, 0]) dq_Ground_init_17 (by decide +kernel) rfl ⟨by decide, show lt_pos false 137 < _ by decide⟩ (by decide) rfl rk_pi).2 ?_
  refine sq_Ground_init_20.2 ?_
  refine (rk_get (host := "") (ci := 0) (k := 0) (t := 138) (tg := [140, 0]) dq_Ground_init_21 (by decide +kernel) rfl ⟨by decide, show lt_pos false 137 < _ by decide⟩ rfl rfl).2 ?_
  refine sq_Ground_init_24.2 ?_
  refine (rk_ald (c := 0) (len := 5) (b := 139) dq_Ground_init_25 rfl ⟨by decide, show lt_pos false 138 < _ by decide⟩ (by decide) (by decide)).2 ?_
  refine sq_Ground_init_26.2 ?_
  refine (sq_Ground_init_27 (rk_fill (len := 49) (b := 0) rfl ⟨by decide, show lt_pos false 139 < _ by decide⟩ (by decide)) (by decide)).2 ?_
  exact sq_Ground_init_30.2 ⟨rfl, rfl⟩
theorem mk_Villages_144_f {L s : Nat} {iv av : Nat → Nat → Int32} : ev (lt_G false L) mm_Villages_init [.ref 144] (iv, av, 74, s) none (u2 (u2 (u2 (iv) 144 0 1) 144 1 1) 144 2 (nI 0), u1 (u1 (av) 145 (fun _ => 0)) 146 (fun _ => 0), 76, s + 6 + 6) := by
  refine ev_of ?_
  show rn _ _ 0 [some (.ref 144)] [] _ _
  refine sq_Villages_init_0.2 ?_
  refine (rk_obj dq_Villages_init_1 (by decide) (by decide)).2 ?_
  refine sq_Villages_init_4.2 ?_
  refine sq_Villages_init_5.2 ?_
  refine (rk_arr (a := 145) (len := 6) (b := 0) (t := 0) dq_Villages_init_7 rfl rfl (by decide) (by decide) (by decide)).2 ?_
  refine (rk_put (host := "") (ci := 5) (k := 0) (tg := [147, 148, 0]) dq_Villages_init_9 (by decide +kernel) rfl ⟨by decide, show lt_pos false 144 < _ by decide⟩ (by decide) rfl (rk_pr (t := 145))).2 ?_
  refine sq_Villages_init_12.2 ?_
  refine sq_Villages_init_13.2 ?_
  refine (rk_arr (a := 146) (len := 6) (b := 0) (t := 0) dq_Villages_init_15 rfl rfl (by decide) (by decide) (by decide)).2 ?_
  refine (rk_put (host := "") (ci := 5) (k := 1) (tg := [147, 148, 0]) dq_Villages_init_17 (by decide +kernel) rfl ⟨by decide, show lt_pos false 144 < _ by decide⟩ (by decide) rfl (rk_pr (t := 146))).2 ?_
  refine sq_Villages_init_20.2 ?_
  refine sq_Villages_init_21.2 ?_
  refine (rk_put (host := "") (ci := 5) (k := 2) (tg := [147, 148, 0]) dq_Villages_init_22 (by decide +kernel) rfl ⟨by decide, show lt_pos false 144 < _ by decide⟩ (by decide) rfl rk_pi).2 ?_
  exact sq_Villages_init_25.2 ⟨rfl, rfl⟩
theorem mk_Laid_147_f {L s : Nat} {iv av : Nat → Nat → Int32} : ev (lt_G false L) mm_Laid_init [.ref 147] (iv, av, 77, s) none (u2 (u2 (iv) 147 0 1) 147 1 (nI 0), u1 (av) 148 (fun _ => 0), 78, s + 60) := by
  refine ev_of ?_
  show rn _ _ 0 [some (.ref 147)] [] _ _
  refine sq_Laid_init_0.2 ?_
  refine (rk_obj dq_Laid_init_1 (by decide) (by decide)).2 ?_
  refine sq_Laid_init_4.2 ?_
  refine sq_Laid_init_5.2 ?_
  refine (rk_arr (a := 148) (len := 60) (b := 0) (t := 0) dq_Laid_init_7 rfl rfl (by decide) (by decide) (by decide)).2 ?_
  refine (rk_put (host := "") (ci := 1) (k := 0) (tg := [150, 0]) dq_Laid_init_9 (by decide +kernel) rfl ⟨by decide, show lt_pos false 147 < _ by decide⟩ (by decide) rfl (rk_pr (t := 148))).2 ?_
  refine sq_Laid_init_12.2 ?_
  refine sq_Laid_init_13.2 ?_
  refine (rk_put (host := "") (ci := 1) (k := 1) (tg := [150, 0]) dq_Laid_init_14 (by decide +kernel) rfl ⟨by decide, show lt_pos false 147 < _ by decide⟩ (by decide) rfl rk_pi).2 ?_
  exact sq_Laid_init_17.2 ⟨rfl, rfl⟩
theorem mk_Weather_149_f {L s : Nat} {iv av : Nat → Nat → Int32} : ev (lt_G false L) mm_Weather_init [.ref 149] (iv, av, 79, s) none (u2 (u2 (iv) 149 0 1) 149 1 (nI 1), u1 (av) 150 (fun _ => 0), 80, s + 41) := by
  refine ev_of ?_
  show rn _ _ 0 [some (.ref 149)] [] _ _
  refine sq_Weather_init_0.2 ?_
  refine (rk_obj dq_Weather_init_1 (by decide) (by decide)).2 ?_
  refine sq_Weather_init_4.2 ?_
  refine sq_Weather_init_5.2 ?_
  refine (rk_arr (a := 150) (len := 41) (b := 0) (t := 0) dq_Weather_init_7 rfl rfl (by decide) (by decide) (by decide)).2 ?_
  refine (rk_put (host := "") (ci := 7) (k := 0) (tg := [152, 0]) dq_Weather_init_9 (by decide +kernel) rfl ⟨by decide, show lt_pos false 149 < _ by decide⟩ (by decide) rfl (rk_pr (t := 150))).2 ?_
  refine sq_Weather_init_12.2 ?_
  refine sq_Weather_init_13.2 ?_
  refine (rk_put (host := "") (ci := 7) (k := 1) (tg := [152, 0]) dq_Weather_init_14 (by decide +kernel) rfl ⟨by decide, show lt_pos false 149 < _ by decide⟩ (by decide) rfl rk_pi).2 ?_
  exact sq_Weather_init_17.2 ⟨rfl, rfl⟩
theorem mk_World_136_f {L s : Nat} {iv av : Nat → Nat → Int32} : ev (lt_G false L) mm_World_init [.ref 136] (iv, av, 66, s) none (u2 (u2 (u2 (u2 (u2 (u1 (u2 (u2 (u2 (u1 (u2 (u2 (u2 (u2 (u1 (u2 (u2 (u2 (u1 (iv) 137 (fun _ => 0)) 137 0 1) 137 1 (nI 0)) 136 0 1) 144 (fun _ => 0)) 144 0 1) 144 1 1) 144 2 (nI 0)) 136 1 1) 147 (fun _ => 0)) 147 0 1) 147 1 (nI 0)) 136 2 1) 149 (fun _ => 0)) 149 0 1) 149 1 (nI 1)) 136 3 1) 136 4 (nI 0)) 136 5 (nI 48), u1 (u1 (u1 (u1 (fil5 (mrow (av) 139 5) 139) 145 (fun _ => 0)) 146 (fun _ => 0)) 148 (fun _ => 0)) 150 (fun _ => 0), 80, s + [140, 0].length + 5 + 5 * 49 + [147, 148, 0].length + 6 + 6 + [150, 0].length + 60 + [152, 0].length + 41) := by
  refine ev_of ?_
  show rn _ _ 0 [some (.ref 136)] [] _ _
  refine sq_World_init_0.2 ?_
  refine (rk_obj dq_World_init_1 (by decide) (by decide)).2 ?_
  refine sq_World_init_4.2 ?_
  refine (rk_new (ci := 0) (a := 137) (tg := [140, 0]) dq_World_init_5 (by decide) rfl rfl (by decide)).2 ?_
  refine sq_World_init_8r.2 ?_
  refine (rk_ini (host := "") (E' := mm_Ground_init) (tg := [140, 0]) dq_World_init_9 (by decide) rfl (by decide) (by decide) rfl (by decide) (by decide) rfl rfl ⟨by decide, show lt_pos false 137 < _ by decide⟩ mk_Ground_137_f).2 ?_
  refine (rk_put (host := "") (ci := 8) (k := 0) (tg := [139, 146, 149, 151, 0, 0]) dq_World_init_12 (by decide +kernel) rfl ⟨by decide, show lt_pos false 136 < _ by decide⟩ (by decide) rfl (rk_pr (t := 137))).2 ?_
  refine sq_World_init_15.2 ?_
  refine (rk_new (ci := 5) (a := 144) (tg := [147, 148, 0]) dq_World_init_16 (by decide) rfl rfl (by decide)).2 ?_
  refine sq_World_init_19r.2 ?_
  refine (rk_ini (host := "DeltaRoad") (E' := mm_Villages_init) (tg := [147, 148, 0]) dq_World_init_20 (by decide) rfl (by decide) (by decide) rfl (by decide) (by decide) rfl rfl ⟨by decide, show lt_pos false 144 < _ by decide⟩ mk_Villages_144_f).2 ?_
  refine (rk_put (host := "") (ci := 8) (k := 1) (tg := [139, 146, 149, 151, 0, 0]) dq_World_init_23 (by decide +kernel) rfl ⟨by decide, show lt_pos false 136 < _ by decide⟩ (by decide) rfl (rk_pr (t := 144))).2 ?_
  refine sq_World_init_26.2 ?_
  refine (rk_new (ci := 1) (a := 147) (tg := [150, 0]) dq_World_init_27 (by decide) rfl rfl (by decide)).2 ?_
  refine sq_World_init_30r.2 ?_
  refine (rk_ini (host := "DeltaRoad") (E' := mm_Laid_init) (tg := [150, 0]) dq_World_init_31 (by decide) rfl (by decide) (by decide) rfl (by decide) (by decide) rfl rfl ⟨by decide, show lt_pos false 147 < _ by decide⟩ mk_Laid_147_f).2 ?_
  refine (rk_put (host := "") (ci := 8) (k := 2) (tg := [139, 146, 149, 151, 0, 0]) dq_World_init_34 (by decide +kernel) rfl ⟨by decide, show lt_pos false 136 < _ by decide⟩ (by decide) rfl (rk_pr (t := 147))).2 ?_
  refine sq_World_init_37.2 ?_
  refine (rk_new (ci := 7) (a := 149) (tg := [152, 0]) dq_World_init_38 (by decide) rfl rfl (by decide)).2 ?_
  refine sq_World_init_41r.2 ?_
  refine (rk_ini (host := "DeltaRoad") (E' := mm_Weather_init) (tg := [152, 0]) dq_World_init_42 (by decide) rfl (by decide) (by decide) rfl (by decide) (by decide) rfl rfl ⟨by decide, show lt_pos false 149 < _ by decide⟩ mk_Weather_149_f).2 ?_
  refine (rk_put (host := "") (ci := 8) (k := 3) (tg := [139, 146, 149, 151, 0, 0]) dq_World_init_45 (by decide +kernel) rfl ⟨by decide, show lt_pos false 136 < _ by decide⟩ (by decide) rfl (rk_pr (t := 149))).2 ?_
  refine sq_World_init_48.2 ?_
  refine sq_World_init_49.2 ?_
  refine (rk_put (host := "") (ci := 8) (k := 4) (tg := [139, 146, 149, 151, 0, 0]) dq_World_init_50 (by decide +kernel) rfl ⟨by decide, show lt_pos false 136 < _ by decide⟩ (by decide) rfl rk_pi).2 ?_
  refine sq_World_init_53.2 ?_
  refine sq_World_init_54.2 ?_
  refine (rk_put (host := "") (ci := 8) (k := 5) (tg := [139, 146, 149, 151, 0, 0]) dq_World_init_56 (by decide +kernel) rfl ⟨by decide, show lt_pos false 136 < _ by decide⟩ (by decide) rfl rk_pi).2 ?_
  exact sq_World_init_59.2 ⟨rfl, rfl⟩
def ivKf (iv : Nat → Nat → Int32) : Nat → Nat → Int32 := u2 (u2 (u2 (u2 (u2 (u2 (u1 (u2 (u2 (u2 (u1 (u2 (u2 (u2 (u2 (u1 (u2 (u2 (u2 (u1 (u1 (iv) 136 (fun _ => 0)) 137 (fun _ => 0)) 137 0 1) 137 1 (nI 0)) 136 0 1) 144 (fun _ => 0)) 144 0 1) 144 1 1) 144 2 (nI 0)) 136 1 1) 147 (fun _ => 0)) 147 0 1) 147 1 (nI 0)) 136 2 1) 149 (fun _ => 0)) 149 0 1) 149 1 (nI 1)) 136 3 1) 136 4 (nI 0)) 136 5 (nI 48)) 0 7 1
def avKf (av : Nat → Nat → Int32) : Nat → Nat → Int32 := u1 (u1 (u1 (u1 (fil5 (mrow (av) 139 5) 139) 145 (fun _ => 0)) 146 (fun _ => 0)) 148 (fun _ => 0)) 150 (fun _ => 0)
theorem mk_kept_f {L : Nat} {I A : Nat → Nat → Int32} {P : Option Value → ks_S → Prop} (ho : sx_o false false false) (h : rn (lt_G false L) mm_Road_image 18 [some (.ref 0)] [] (ivKf (sx_iv false false I), avKf A, 80, 6085) P) : rn (lt_G false L) mm_Road_image 0 [some (.ref 0)] [] (sx false false I A) P := by
  refine sq_Road_image_0.2 ?_
  refine (sq_Road_image_1_0f ho).2 ?_
  refine sq_Road_image_4n.2 ?_
  refine sq_Road_image_7.2 ?_
  show rn _ _ 8 _ _ (sx_iv false false I, A, 65, 5707) _
  refine (rk_new (ci := 8) (a := 136) (tg := [139, 146, 149, 151, 0, 0]) dq_Road_image_8 (by decide) rfl rfl (by decide)).2 ?_
  refine sq_Road_image_11r.2 ?_
  refine (rk_ini (host := "DeltaRoad") (E' := mm_World_init) (tg := [139, 146, 149, 151, 0, 0]) dq_Road_image_12 (by decide) rfl (by decide) (by decide) rfl (by decide) (by decide) rfl rfl ⟨by decide, show lt_pos false 136 < _ by decide⟩ mk_World_136_f).2 ?_
  refine (rk_put (host := "") (ci := 9) (k := 7) (tg := [3, 18, 22, 26, 28, 37, 44, 138, 67, 1, 1]) dq_Road_image_15 (by decide +kernel) rfl (lo_pos (by decide) (by decide)) (by decide) rfl (rk_pr (t := 136))).2 ?_
  exact h
theorem mk_Ground_137_t {L s : Nat} {iv av : Nat → Nat → Int32} : ev (lt_G true L) mm_Ground_init [.ref 137] (iv, av, 138, s) none (u2 (u2 (iv) 137 0 1) 137 1 (nI 0), fil5 (mrow (av) 139 5) 139, 144, s + 5 + 5 * 49) := by
  refine ev_of ?_
  show rn _ _ 0 [some (.ref 137)] [] _ _
  refine sq_Ground_init_0.2 ?_
  refine (rk_obj dq_Ground_init_1 (by decide) (by decide)).2 ?_
  refine sq_Ground_init_4.2 ?_
  refine sq_Ground_init_5.2 ?_
  refine sq_Ground_init_6.2 ?_
  refine (rk_mul (a := 138) (b := 139) (m := 5) (y := 49) dq_Ground_init_8 rfl rfl ⟨by decide, by decide⟩ (by decide) (by decide) (by decide) rfl).2 ?_
  refine (rk_put (host := "") (ci := 0) (k := 0) (tg := [140, 0]) dq_Ground_init_12 (by decide +kernel) rfl ⟨by decide, show lt_pos true 137 < _ by decide⟩ (by decide) rfl (rk_pr (t := 138))).2 ?_
  refine sq_Ground_init_15.2 ?_
  refine sq_Ground_init_16.2 ?_
  refine (rk_put (host := "") (ci := 0) (k := 1) (tg := [140, 0]) dq_Ground_init_17 (by decide +kernel) rfl ⟨by decide, show lt_pos true 137 < _ by decide⟩ (by decide) rfl rk_pi).2 ?_
  refine sq_Ground_init_20.2 ?_
  refine (rk_get (host := "") (ci := 0) (k := 0) (t := 138) (tg := [140, 0]) dq_Ground_init_21 (by decide +kernel) rfl ⟨by decide, show lt_pos true 137 < _ by decide⟩ rfl rfl).2 ?_
  refine sq_Ground_init_24.2 ?_
  refine (rk_ald (c := 0) (len := 5) (b := 139) dq_Ground_init_25 rfl ⟨by decide, show lt_pos true 138 < _ by decide⟩ (by decide) (by decide)).2 ?_
  refine sq_Ground_init_26.2 ?_
  refine (sq_Ground_init_27 (rk_fill (len := 49) (b := 0) rfl ⟨by decide, show lt_pos true 139 < _ by decide⟩ (by decide)) (by decide)).2 ?_
  exact sq_Ground_init_30.2 ⟨rfl, rfl⟩
theorem mk_Villages_144_t {L s : Nat} {iv av : Nat → Nat → Int32} : ev (lt_G true L) mm_Villages_init [.ref 144] (iv, av, 145, s) none (u2 (u2 (u2 (iv) 144 0 1) 144 1 1) 144 2 (nI 0), u1 (u1 (av) 145 (fun _ => 0)) 146 (fun _ => 0), 147, s + 6 + 6) := by
  refine ev_of ?_
  show rn _ _ 0 [some (.ref 144)] [] _ _
  refine sq_Villages_init_0.2 ?_
  refine (rk_obj dq_Villages_init_1 (by decide) (by decide)).2 ?_
  refine sq_Villages_init_4.2 ?_
  refine sq_Villages_init_5.2 ?_
  refine (rk_arr (a := 145) (len := 6) (b := 0) (t := 0) dq_Villages_init_7 rfl rfl (by decide) (by decide) (by decide)).2 ?_
  refine (rk_put (host := "") (ci := 5) (k := 0) (tg := [147, 148, 0]) dq_Villages_init_9 (by decide +kernel) rfl ⟨by decide, show lt_pos true 144 < _ by decide⟩ (by decide) rfl (rk_pr (t := 145))).2 ?_
  refine sq_Villages_init_12.2 ?_
  refine sq_Villages_init_13.2 ?_
  refine (rk_arr (a := 146) (len := 6) (b := 0) (t := 0) dq_Villages_init_15 rfl rfl (by decide) (by decide) (by decide)).2 ?_
  refine (rk_put (host := "") (ci := 5) (k := 1) (tg := [147, 148, 0]) dq_Villages_init_17 (by decide +kernel) rfl ⟨by decide, show lt_pos true 144 < _ by decide⟩ (by decide) rfl (rk_pr (t := 146))).2 ?_
  refine sq_Villages_init_20.2 ?_
  refine sq_Villages_init_21.2 ?_
  refine (rk_put (host := "") (ci := 5) (k := 2) (tg := [147, 148, 0]) dq_Villages_init_22 (by decide +kernel) rfl ⟨by decide, show lt_pos true 144 < _ by decide⟩ (by decide) rfl rk_pi).2 ?_
  exact sq_Villages_init_25.2 ⟨rfl, rfl⟩
theorem mk_Laid_147_t {L s : Nat} {iv av : Nat → Nat → Int32} : ev (lt_G true L) mm_Laid_init [.ref 147] (iv, av, 148, s) none (u2 (u2 (iv) 147 0 1) 147 1 (nI 0), u1 (av) 148 (fun _ => 0), 149, s + 60) := by
  refine ev_of ?_
  show rn _ _ 0 [some (.ref 147)] [] _ _
  refine sq_Laid_init_0.2 ?_
  refine (rk_obj dq_Laid_init_1 (by decide) (by decide)).2 ?_
  refine sq_Laid_init_4.2 ?_
  refine sq_Laid_init_5.2 ?_
  refine (rk_arr (a := 148) (len := 60) (b := 0) (t := 0) dq_Laid_init_7 rfl rfl (by decide) (by decide) (by decide)).2 ?_
  refine (rk_put (host := "") (ci := 1) (k := 0) (tg := [150, 0]) dq_Laid_init_9 (by decide +kernel) rfl ⟨by decide, show lt_pos true 147 < _ by decide⟩ (by decide) rfl (rk_pr (t := 148))).2 ?_
  refine sq_Laid_init_12.2 ?_
  refine sq_Laid_init_13.2 ?_
  refine (rk_put (host := "") (ci := 1) (k := 1) (tg := [150, 0]) dq_Laid_init_14 (by decide +kernel) rfl ⟨by decide, show lt_pos true 147 < _ by decide⟩ (by decide) rfl rk_pi).2 ?_
  exact sq_Laid_init_17.2 ⟨rfl, rfl⟩
theorem mk_Weather_149_t {L s : Nat} {iv av : Nat → Nat → Int32} : ev (lt_G true L) mm_Weather_init [.ref 149] (iv, av, 150, s) none (u2 (u2 (iv) 149 0 1) 149 1 (nI 1), u1 (av) 150 (fun _ => 0), 151, s + 41) := by
  refine ev_of ?_
  show rn _ _ 0 [some (.ref 149)] [] _ _
  refine sq_Weather_init_0.2 ?_
  refine (rk_obj dq_Weather_init_1 (by decide) (by decide)).2 ?_
  refine sq_Weather_init_4.2 ?_
  refine sq_Weather_init_5.2 ?_
  refine (rk_arr (a := 150) (len := 41) (b := 0) (t := 0) dq_Weather_init_7 rfl rfl (by decide) (by decide) (by decide)).2 ?_
  refine (rk_put (host := "") (ci := 7) (k := 0) (tg := [152, 0]) dq_Weather_init_9 (by decide +kernel) rfl ⟨by decide, show lt_pos true 149 < _ by decide⟩ (by decide) rfl (rk_pr (t := 150))).2 ?_
  refine sq_Weather_init_12.2 ?_
  refine sq_Weather_init_13.2 ?_
  refine (rk_put (host := "") (ci := 7) (k := 1) (tg := [152, 0]) dq_Weather_init_14 (by decide +kernel) rfl ⟨by decide, show lt_pos true 149 < _ by decide⟩ (by decide) rfl rk_pi).2 ?_
  exact sq_Weather_init_17.2 ⟨rfl, rfl⟩
theorem mk_World_136_t {L s : Nat} {iv av : Nat → Nat → Int32} : ev (lt_G true L) mm_World_init [.ref 136] (iv, av, 137, s) none (u2 (u2 (u2 (u2 (u2 (u1 (u2 (u2 (u2 (u1 (u2 (u2 (u2 (u2 (u1 (u2 (u2 (u2 (u1 (iv) 137 (fun _ => 0)) 137 0 1) 137 1 (nI 0)) 136 0 1) 144 (fun _ => 0)) 144 0 1) 144 1 1) 144 2 (nI 0)) 136 1 1) 147 (fun _ => 0)) 147 0 1) 147 1 (nI 0)) 136 2 1) 149 (fun _ => 0)) 149 0 1) 149 1 (nI 1)) 136 3 1) 136 4 (nI 0)) 136 5 (nI 48), u1 (u1 (u1 (u1 (fil5 (mrow (av) 139 5) 139) 145 (fun _ => 0)) 146 (fun _ => 0)) 148 (fun _ => 0)) 150 (fun _ => 0), 151, s + [140, 0].length + 5 + 5 * 49 + [147, 148, 0].length + 6 + 6 + [150, 0].length + 60 + [152, 0].length + 41) := by
  refine ev_of ?_
  show rn _ _ 0 [some (.ref 136)] [] _ _
  refine sq_World_init_0.2 ?_
  refine (rk_obj dq_World_init_1 (by decide) (by decide)).2 ?_
  refine sq_World_init_4.2 ?_
  refine (rk_new (ci := 0) (a := 137) (tg := [140, 0]) dq_World_init_5 (by decide) rfl rfl (by decide)).2 ?_
  refine sq_World_init_8r.2 ?_
  refine (rk_ini (host := "") (E' := mm_Ground_init) (tg := [140, 0]) dq_World_init_9 (by decide) rfl (by decide) (by decide) rfl (by decide) (by decide) rfl rfl ⟨by decide, show lt_pos true 137 < _ by decide⟩ mk_Ground_137_t).2 ?_
  refine (rk_put (host := "") (ci := 8) (k := 0) (tg := [139, 146, 149, 151, 0, 0]) dq_World_init_12 (by decide +kernel) rfl ⟨by decide, show lt_pos true 136 < _ by decide⟩ (by decide) rfl (rk_pr (t := 137))).2 ?_
  refine sq_World_init_15.2 ?_
  refine (rk_new (ci := 5) (a := 144) (tg := [147, 148, 0]) dq_World_init_16 (by decide) rfl rfl (by decide)).2 ?_
  refine sq_World_init_19r.2 ?_
  refine (rk_ini (host := "DeltaRoad") (E' := mm_Villages_init) (tg := [147, 148, 0]) dq_World_init_20 (by decide) rfl (by decide) (by decide) rfl (by decide) (by decide) rfl rfl ⟨by decide, show lt_pos true 144 < _ by decide⟩ mk_Villages_144_t).2 ?_
  refine (rk_put (host := "") (ci := 8) (k := 1) (tg := [139, 146, 149, 151, 0, 0]) dq_World_init_23 (by decide +kernel) rfl ⟨by decide, show lt_pos true 136 < _ by decide⟩ (by decide) rfl (rk_pr (t := 144))).2 ?_
  refine sq_World_init_26.2 ?_
  refine (rk_new (ci := 1) (a := 147) (tg := [150, 0]) dq_World_init_27 (by decide) rfl rfl (by decide)).2 ?_
  refine sq_World_init_30r.2 ?_
  refine (rk_ini (host := "DeltaRoad") (E' := mm_Laid_init) (tg := [150, 0]) dq_World_init_31 (by decide) rfl (by decide) (by decide) rfl (by decide) (by decide) rfl rfl ⟨by decide, show lt_pos true 147 < _ by decide⟩ mk_Laid_147_t).2 ?_
  refine (rk_put (host := "") (ci := 8) (k := 2) (tg := [139, 146, 149, 151, 0, 0]) dq_World_init_34 (by decide +kernel) rfl ⟨by decide, show lt_pos true 136 < _ by decide⟩ (by decide) rfl (rk_pr (t := 147))).2 ?_
  refine sq_World_init_37.2 ?_
  refine (rk_new (ci := 7) (a := 149) (tg := [152, 0]) dq_World_init_38 (by decide) rfl rfl (by decide)).2 ?_
  refine sq_World_init_41r.2 ?_
  refine (rk_ini (host := "DeltaRoad") (E' := mm_Weather_init) (tg := [152, 0]) dq_World_init_42 (by decide) rfl (by decide) (by decide) rfl (by decide) (by decide) rfl rfl ⟨by decide, show lt_pos true 149 < _ by decide⟩ mk_Weather_149_t).2 ?_
  refine (rk_put (host := "") (ci := 8) (k := 3) (tg := [139, 146, 149, 151, 0, 0]) dq_World_init_45 (by decide +kernel) rfl ⟨by decide, show lt_pos true 136 < _ by decide⟩ (by decide) rfl (rk_pr (t := 149))).2 ?_
  refine sq_World_init_48.2 ?_
  refine sq_World_init_49.2 ?_
  refine (rk_put (host := "") (ci := 8) (k := 4) (tg := [139, 146, 149, 151, 0, 0]) dq_World_init_50 (by decide +kernel) rfl ⟨by decide, show lt_pos true 136 < _ by decide⟩ (by decide) rfl rk_pi).2 ?_
  refine sq_World_init_53.2 ?_
  refine sq_World_init_54.2 ?_
  refine (rk_put (host := "") (ci := 8) (k := 5) (tg := [139, 146, 149, 151, 0, 0]) dq_World_init_56 (by decide +kernel) rfl ⟨by decide, show lt_pos true 136 < _ by decide⟩ (by decide) rfl rk_pi).2 ?_
  exact sq_World_init_59.2 ⟨rfl, rfl⟩
def ivKt (iv : Nat → Nat → Int32) : Nat → Nat → Int32 := u2 (u2 (u2 (u2 (u2 (u2 (u1 (u2 (u2 (u2 (u1 (u2 (u2 (u2 (u2 (u1 (u2 (u2 (u2 (u1 (u1 (iv) 136 (fun _ => 0)) 137 (fun _ => 0)) 137 0 1) 137 1 (nI 0)) 136 0 1) 144 (fun _ => 0)) 144 0 1) 144 1 1) 144 2 (nI 0)) 136 1 1) 147 (fun _ => 0)) 147 0 1) 147 1 (nI 0)) 136 2 1) 149 (fun _ => 0)) 149 0 1) 149 1 (nI 1)) 136 3 1) 136 4 (nI 0)) 136 5 (nI 48)) 0 7 1
def avKt (av : Nat → Nat → Int32) : Nat → Nat → Int32 := u1 (u1 (u1 (u1 (fil5 (mrow (av) 139 5) 139) 145 (fun _ => 0)) 146 (fun _ => 0)) 148 (fun _ => 0)) 150 (fun _ => 0)
theorem mk_kept_t {L : Nat} {I A : Nat → Nat → Int32} {P : Option Value → ks_S → Prop} (ho : sx_o true true false) (h : rn (lt_G true L) mm_Road_image 18 [some (.ref 0)] [] (ivKt (sx_iv true false I), avKt A, 151, 9555) P) : rn (lt_G true L) mm_Road_image 0 [some (.ref 0)] [] (sx true false I A) P := by
  refine sq_Road_image_0.2 ?_
  refine (sq_Road_image_1_0f ho).2 ?_
  refine sq_Road_image_4n.2 ?_
  refine sq_Road_image_7.2 ?_
  show rn _ _ 8 _ _ (sx_iv true false I, A, 136, 9177) _
  refine (rk_new (ci := 8) (a := 136) (tg := [139, 146, 149, 151, 0, 0]) dq_Road_image_8 (by decide) rfl rfl (by decide)).2 ?_
  refine sq_Road_image_11r.2 ?_
  refine (rk_ini (host := "DeltaRoad") (E' := mm_World_init) (tg := [139, 146, 149, 151, 0, 0]) dq_Road_image_12 (by decide) rfl (by decide) (by decide) rfl (by decide) (by decide) rfl rfl ⟨by decide, show lt_pos true 136 < _ by decide⟩ mk_World_136_t).2 ?_
  refine (rk_put (host := "") (ci := 9) (k := 7) (tg := [3, 18, 22, 26, 28, 37, 44, 138, 67, 1, 1]) dq_Road_image_15 (by decide +kernel) rfl (lo_pos (by decide) (by decide)) (by decide) rfl (rk_pr (t := 136))).2 ?_
  exact h
theorem mk_Ground_2 {o : Bool} {L s : Nat} {iv av : Nat → Nat → Int32} : ev (lt_G o L) mm_Ground_init [.ref 2] (iv, av, 3, s) none (u2 (u2 (iv) 2 0 1) 2 1 (nI 0), fil5 (mrow (av) 4 5) 4, 9, s + 5 + 5 * 49) := by
  refine ev_of ?_
  show rn _ _ 0 [some (.ref 2)] [] _ _
  refine sq_Ground_init_0.2 ?_
  refine (rk_obj dq_Ground_init_1 (by decide) (by decide)).2 ?_
  refine sq_Ground_init_4.2 ?_
  refine sq_Ground_init_5.2 ?_
  refine sq_Ground_init_6.2 ?_
  refine (rk_mul (a := 3) (b := 4) (m := 5) (y := 49) dq_Ground_init_8 (lo_inv (by decide)) rfl ⟨by decide, by decide⟩ (by decide) (by decide) (by decide) (by cases o <;> rfl)).2 ?_
  refine (rk_put (host := "") (ci := 0) (k := 0) (tg := [5, 0]) dq_Ground_init_12 (by decide +kernel) rfl (lo_pos (by decide) (by decide)) (by decide) rfl (rk_pr (t := 3))).2 ?_
  refine sq_Ground_init_15.2 ?_
  refine sq_Ground_init_16.2 ?_
  refine (rk_put (host := "") (ci := 0) (k := 1) (tg := [5, 0]) dq_Ground_init_17 (by decide +kernel) rfl (lo_pos (by decide) (by decide)) (by decide) rfl rk_pi).2 ?_
  refine sq_Ground_init_20.2 ?_
  refine (rk_get (host := "") (ci := 0) (k := 0) (t := 3) (tg := [5, 0]) dq_Ground_init_21 (by decide +kernel) rfl (lo_pos (by decide) (by decide)) rfl rfl).2 ?_
  refine sq_Ground_init_24.2 ?_
  refine (rk_ald (c := 0) (len := 5) (b := 4) dq_Ground_init_25 rfl (lo_pos (by decide) (by decide)) (by decide) (by decide)).2 ?_
  refine sq_Ground_init_26.2 ?_
  refine (sq_Ground_init_27 (rk_fill (len := 49) (b := 0) rfl (lo_pos (by decide) (by decide)) (by decide)) (by decide)).2 ?_
  exact sq_Ground_init_30.2 ⟨rfl, rfl⟩
theorem mk_Villages_9 {o : Bool} {L s : Nat} {iv av : Nat → Nat → Int32} : ev (lt_G o L) mm_Villages_init [.ref 9] (iv, av, 10, s) none (u2 (u2 (u2 (iv) 9 0 1) 9 1 1) 9 2 (nI 0), u1 (u1 (av) 10 (fun _ => 0)) 11 (fun _ => 0), 12, s + 6 + 6) := by
  refine ev_of ?_
  show rn _ _ 0 [some (.ref 9)] [] _ _
  refine sq_Villages_init_0.2 ?_
  refine (rk_obj dq_Villages_init_1 (by decide) (by decide)).2 ?_
  refine sq_Villages_init_4.2 ?_
  refine sq_Villages_init_5.2 ?_
  refine (rk_arr (a := 10) (len := 6) (b := 0) (t := 0) dq_Villages_init_7 (lo_inv (by decide)) rfl (by decide) (by decide) (by decide)).2 ?_
  refine (rk_put (host := "") (ci := 5) (k := 0) (tg := [12, 13, 0]) dq_Villages_init_9 (by decide +kernel) rfl (lo_pos (by decide) (by decide)) (by decide) rfl (rk_pr (t := 10))).2 ?_
  refine sq_Villages_init_12.2 ?_
  refine sq_Villages_init_13.2 ?_
  refine (rk_arr (a := 11) (len := 6) (b := 0) (t := 0) dq_Villages_init_15 (lo_inv (by decide)) rfl (by decide) (by decide) (by decide)).2 ?_
  refine (rk_put (host := "") (ci := 5) (k := 1) (tg := [12, 13, 0]) dq_Villages_init_17 (by decide +kernel) rfl (lo_pos (by decide) (by decide)) (by decide) rfl (rk_pr (t := 11))).2 ?_
  refine sq_Villages_init_20.2 ?_
  refine sq_Villages_init_21.2 ?_
  refine (rk_put (host := "") (ci := 5) (k := 2) (tg := [12, 13, 0]) dq_Villages_init_22 (by decide +kernel) rfl (lo_pos (by decide) (by decide)) (by decide) rfl rk_pi).2 ?_
  exact sq_Villages_init_25.2 ⟨rfl, rfl⟩
theorem mk_Laid_12 {o : Bool} {L s : Nat} {iv av : Nat → Nat → Int32} : ev (lt_G o L) mm_Laid_init [.ref 12] (iv, av, 13, s) none (u2 (u2 (iv) 12 0 1) 12 1 (nI 0), u1 (av) 13 (fun _ => 0), 14, s + 60) := by
  refine ev_of ?_
  show rn _ _ 0 [some (.ref 12)] [] _ _
  refine sq_Laid_init_0.2 ?_
  refine (rk_obj dq_Laid_init_1 (by decide) (by decide)).2 ?_
  refine sq_Laid_init_4.2 ?_
  refine sq_Laid_init_5.2 ?_
  refine (rk_arr (a := 13) (len := 60) (b := 0) (t := 0) dq_Laid_init_7 (lo_inv (by decide)) rfl (by decide) (by decide) (by decide)).2 ?_
  refine (rk_put (host := "") (ci := 1) (k := 0) (tg := [15, 0]) dq_Laid_init_9 (by decide +kernel) rfl (lo_pos (by decide) (by decide)) (by decide) rfl (rk_pr (t := 13))).2 ?_
  refine sq_Laid_init_12.2 ?_
  refine sq_Laid_init_13.2 ?_
  refine (rk_put (host := "") (ci := 1) (k := 1) (tg := [15, 0]) dq_Laid_init_14 (by decide +kernel) rfl (lo_pos (by decide) (by decide)) (by decide) rfl rk_pi).2 ?_
  exact sq_Laid_init_17.2 ⟨rfl, rfl⟩
theorem mk_Weather_14 {o : Bool} {L s : Nat} {iv av : Nat → Nat → Int32} : ev (lt_G o L) mm_Weather_init [.ref 14] (iv, av, 15, s) none (u2 (u2 (iv) 14 0 1) 14 1 (nI 1), u1 (av) 15 (fun _ => 0), 16, s + 41) := by
  refine ev_of ?_
  show rn _ _ 0 [some (.ref 14)] [] _ _
  refine sq_Weather_init_0.2 ?_
  refine (rk_obj dq_Weather_init_1 (by decide) (by decide)).2 ?_
  refine sq_Weather_init_4.2 ?_
  refine sq_Weather_init_5.2 ?_
  refine (rk_arr (a := 15) (len := 41) (b := 0) (t := 0) dq_Weather_init_7 (lo_inv (by decide)) rfl (by decide) (by decide) (by decide)).2 ?_
  refine (rk_put (host := "") (ci := 7) (k := 0) (tg := [17, 0]) dq_Weather_init_9 (by decide +kernel) rfl (lo_pos (by decide) (by decide)) (by decide) rfl (rk_pr (t := 15))).2 ?_
  refine sq_Weather_init_12.2 ?_
  refine sq_Weather_init_13.2 ?_
  refine (rk_put (host := "") (ci := 7) (k := 1) (tg := [17, 0]) dq_Weather_init_14 (by decide +kernel) rfl (lo_pos (by decide) (by decide)) (by decide) rfl rk_pi).2 ?_
  exact sq_Weather_init_17.2 ⟨rfl, rfl⟩
theorem mk_World_1 {o : Bool} {L s : Nat} {iv av : Nat → Nat → Int32} : ev (lt_G o L) mm_World_init [.ref 1] (iv, av, 2, s) none (u2 (u2 (u2 (u2 (u2 (u1 (u2 (u2 (u2 (u1 (u2 (u2 (u2 (u2 (u1 (u2 (u2 (u2 (u1 (iv) 2 (fun _ => 0)) 2 0 1) 2 1 (nI 0)) 1 0 1) 9 (fun _ => 0)) 9 0 1) 9 1 1) 9 2 (nI 0)) 1 1 1) 12 (fun _ => 0)) 12 0 1) 12 1 (nI 0)) 1 2 1) 14 (fun _ => 0)) 14 0 1) 14 1 (nI 1)) 1 3 1) 1 4 (nI 0)) 1 5 (nI 48), u1 (u1 (u1 (u1 (fil5 (mrow (av) 4 5) 4) 10 (fun _ => 0)) 11 (fun _ => 0)) 13 (fun _ => 0)) 15 (fun _ => 0), 16, s + [5, 0].length + 5 + 5 * 49 + [12, 13, 0].length + 6 + 6 + [15, 0].length + 60 + [17, 0].length + 41) := by
  refine ev_of ?_
  show rn _ _ 0 [some (.ref 1)] [] _ _
  refine sq_World_init_0.2 ?_
  refine (rk_obj dq_World_init_1 (by decide) (by decide)).2 ?_
  refine sq_World_init_4.2 ?_
  refine (rk_new (ci := 0) (a := 2) (tg := [5, 0]) dq_World_init_5 (by decide) (lo_inv (by decide)) rfl (by decide)).2 ?_
  refine sq_World_init_8r.2 ?_
  refine (rk_ini (host := "") (E' := mm_Ground_init) (tg := [5, 0]) dq_World_init_9 (by decide) rfl (by decide) (by decide) rfl (by decide) (by decide) rfl rfl (lo_pos (by decide) (by decide)) mk_Ground_2).2 ?_
  refine (rk_put (host := "") (ci := 8) (k := 0) (tg := [4, 11, 14, 16, 0, 0]) dq_World_init_12 (by decide +kernel) rfl (lo_pos (by decide) (by decide)) (by decide) rfl (rk_pr (t := 2))).2 ?_
  refine sq_World_init_15.2 ?_
  refine (rk_new (ci := 5) (a := 9) (tg := [12, 13, 0]) dq_World_init_16 (by decide) (lo_inv (by decide)) rfl (by decide)).2 ?_
  refine sq_World_init_19r.2 ?_
  refine (rk_ini (host := "DeltaRoad") (E' := mm_Villages_init) (tg := [12, 13, 0]) dq_World_init_20 (by decide) rfl (by decide) (by decide) rfl (by decide) (by decide) rfl rfl (lo_pos (by decide) (by decide)) mk_Villages_9).2 ?_
  refine (rk_put (host := "") (ci := 8) (k := 1) (tg := [4, 11, 14, 16, 0, 0]) dq_World_init_23 (by decide +kernel) rfl (lo_pos (by decide) (by decide)) (by decide) rfl (rk_pr (t := 9))).2 ?_
  refine sq_World_init_26.2 ?_
  refine (rk_new (ci := 1) (a := 12) (tg := [15, 0]) dq_World_init_27 (by decide) (lo_inv (by decide)) rfl (by decide)).2 ?_
  refine sq_World_init_30r.2 ?_
  refine (rk_ini (host := "DeltaRoad") (E' := mm_Laid_init) (tg := [15, 0]) dq_World_init_31 (by decide) rfl (by decide) (by decide) rfl (by decide) (by decide) rfl rfl (lo_pos (by decide) (by decide)) mk_Laid_12).2 ?_
  refine (rk_put (host := "") (ci := 8) (k := 2) (tg := [4, 11, 14, 16, 0, 0]) dq_World_init_34 (by decide +kernel) rfl (lo_pos (by decide) (by decide)) (by decide) rfl (rk_pr (t := 12))).2 ?_
  refine sq_World_init_37.2 ?_
  refine (rk_new (ci := 7) (a := 14) (tg := [17, 0]) dq_World_init_38 (by decide) (lo_inv (by decide)) rfl (by decide)).2 ?_
  refine sq_World_init_41r.2 ?_
  refine (rk_ini (host := "DeltaRoad") (E' := mm_Weather_init) (tg := [17, 0]) dq_World_init_42 (by decide) rfl (by decide) (by decide) rfl (by decide) (by decide) rfl rfl (lo_pos (by decide) (by decide)) mk_Weather_14).2 ?_
  refine (rk_put (host := "") (ci := 8) (k := 3) (tg := [4, 11, 14, 16, 0, 0]) dq_World_init_45 (by decide +kernel) rfl (lo_pos (by decide) (by decide)) (by decide) rfl (rk_pr (t := 14))).2 ?_
  refine sq_World_init_48.2 ?_
  refine sq_World_init_49.2 ?_
  refine (rk_put (host := "") (ci := 8) (k := 4) (tg := [4, 11, 14, 16, 0, 0]) dq_World_init_50 (by decide +kernel) rfl (lo_pos (by decide) (by decide)) (by decide) rfl rk_pi).2 ?_
  refine sq_World_init_53.2 ?_
  refine sq_World_init_54.2 ?_
  refine (rk_put (host := "") (ci := 8) (k := 5) (tg := [4, 11, 14, 16, 0, 0]) dq_World_init_56 (by decide +kernel) rfl (lo_pos (by decide) (by decide)) (by decide) rfl rk_pi).2 ?_
  exact sq_World_init_59.2 ⟨rfl, rfl⟩
theorem mk_Water_16 {o : Bool} {L s : Nat} {iv av : Nat → Nat → Int32} : ev (lt_G o L) mm_Water_init [.ref 16] (iv, av, 17, s) none (u2 (u2 (u2 (u2 (iv) 16 0 1) 16 1 1) 16 2 1) 16 3 (nI 0), u1 (u1 (u1 (av) 17 (fun _ => 0)) 18 (fun _ => 0)) 19 (fun _ => 0), 20, s + 49 + 49 + 49) := by
  refine ev_of ?_
  show rn _ _ 0 [some (.ref 16)] [] _ _
  refine sq_Water_init_0.2 ?_
  refine (rk_obj dq_Water_init_1 (by decide) (by decide)).2 ?_
  refine sq_Water_init_4.2 ?_
  refine sq_Water_init_5.2 ?_
  refine (rk_arr (a := 17) (len := 49) (b := 0) (t := 0) dq_Water_init_7 (lo_inv (by decide)) rfl (by decide) (by decide) (by decide)).2 ?_
  refine (rk_put (host := "") (ci := 6) (k := 0) (tg := [19, 20, 21, 0]) dq_Water_init_9 (by decide +kernel) rfl (lo_pos (by decide) (by decide)) (by decide) rfl (rk_pr (t := 17))).2 ?_
  refine sq_Water_init_12.2 ?_
  refine sq_Water_init_13.2 ?_
  refine (rk_arr (a := 18) (len := 49) (b := 0) (t := 0) dq_Water_init_15 (lo_inv (by decide)) rfl (by decide) (by decide) (by decide)).2 ?_
  refine (rk_put (host := "") (ci := 6) (k := 1) (tg := [19, 20, 21, 0]) dq_Water_init_17 (by decide +kernel) rfl (lo_pos (by decide) (by decide)) (by decide) rfl (rk_pr (t := 18))).2 ?_
  refine sq_Water_init_20.2 ?_
  refine sq_Water_init_21.2 ?_
  refine (rk_arr (a := 19) (len := 49) (b := 0) (t := 0) dq_Water_init_23 (lo_inv (by decide)) rfl (by decide) (by decide) (by decide)).2 ?_
  refine (rk_put (host := "") (ci := 6) (k := 2) (tg := [19, 20, 21, 0]) dq_Water_init_25 (by decide +kernel) rfl (lo_pos (by decide) (by decide)) (by decide) rfl (rk_pr (t := 19))).2 ?_
  refine sq_Water_init_28.2 ?_
  refine sq_Water_init_29.2 ?_
  refine (rk_put (host := "") (ci := 6) (k := 3) (tg := [19, 20, 21, 0]) dq_Water_init_30 (by decide +kernel) rfl (lo_pos (by decide) (by decide)) (by decide) rfl rk_pi).2 ?_
  exact sq_Water_init_33.2 ⟨rfl, rfl⟩
theorem mk_Water_20 {o : Bool} {L s : Nat} {iv av : Nat → Nat → Int32} : ev (lt_G o L) mm_Water_init [.ref 20] (iv, av, 21, s) none (u2 (u2 (u2 (u2 (iv) 20 0 1) 20 1 1) 20 2 1) 20 3 (nI 0), u1 (u1 (u1 (av) 21 (fun _ => 0)) 22 (fun _ => 0)) 23 (fun _ => 0), 24, s + 49 + 49 + 49) := by
  refine ev_of ?_
  show rn _ _ 0 [some (.ref 20)] [] _ _
  refine sq_Water_init_0.2 ?_
  refine (rk_obj dq_Water_init_1 (by decide) (by decide)).2 ?_
  refine sq_Water_init_4.2 ?_
  refine sq_Water_init_5.2 ?_
  refine (rk_arr (a := 21) (len := 49) (b := 0) (t := 0) dq_Water_init_7 (lo_inv (by decide)) rfl (by decide) (by decide) (by decide)).2 ?_
  refine (rk_put (host := "") (ci := 6) (k := 0) (tg := [23, 24, 25, 0]) dq_Water_init_9 (by decide +kernel) rfl (lo_pos (by decide) (by decide)) (by decide) rfl (rk_pr (t := 21))).2 ?_
  refine sq_Water_init_12.2 ?_
  refine sq_Water_init_13.2 ?_
  refine (rk_arr (a := 22) (len := 49) (b := 0) (t := 0) dq_Water_init_15 (lo_inv (by decide)) rfl (by decide) (by decide) (by decide)).2 ?_
  refine (rk_put (host := "") (ci := 6) (k := 1) (tg := [23, 24, 25, 0]) dq_Water_init_17 (by decide +kernel) rfl (lo_pos (by decide) (by decide)) (by decide) rfl (rk_pr (t := 22))).2 ?_
  refine sq_Water_init_20.2 ?_
  refine sq_Water_init_21.2 ?_
  refine (rk_arr (a := 23) (len := 49) (b := 0) (t := 0) dq_Water_init_23 (lo_inv (by decide)) rfl (by decide) (by decide) (by decide)).2 ?_
  refine (rk_put (host := "") (ci := 6) (k := 2) (tg := [23, 24, 25, 0]) dq_Water_init_25 (by decide +kernel) rfl (lo_pos (by decide) (by decide)) (by decide) rfl (rk_pr (t := 23))).2 ?_
  refine sq_Water_init_28.2 ?_
  refine sq_Water_init_29.2 ?_
  refine (rk_put (host := "") (ci := 6) (k := 3) (tg := [23, 24, 25, 0]) dq_Water_init_30 (by decide +kernel) rfl (lo_pos (by decide) (by decide)) (by decide) rfl rk_pi).2 ?_
  exact sq_Water_init_33.2 ⟨rfl, rfl⟩
theorem mk_Tape_24 {o : Bool} {L s : Nat} {iv av : Nat → Nat → Int32} : ev (lt_G o L) mm_Tape_init [.ref 24] (iv, av, 25, s) none (u2 (u2 (u2 (iv) 24 0 1) 24 1 (nI 0)) 24 2 (nI 0), u1 (av) 25 (fun _ => 0), 26, s + 140) := by
  refine ev_of ?_
  show rn _ _ 0 [some (.ref 24)] [] _ _
  refine sq_Tape_init_0.2 ?_
  refine (rk_obj dq_Tape_init_1 (by decide) (by decide)).2 ?_
  refine sq_Tape_init_4.2 ?_
  refine sq_Tape_init_5.2 ?_
  refine (rk_arr (a := 25) (len := 140) (b := 0) (t := 2) dq_Tape_init_8 (lo_inv (by decide)) rfl (by decide) (by decide) (by decide)).2 ?_
  refine (rk_put (host := "") (ci := 4) (k := 0) (tg := [27, 0, 0]) dq_Tape_init_10 (by decide +kernel) rfl (lo_pos (by decide) (by decide)) (by decide) rfl (rk_pr (t := 25))).2 ?_
  refine sq_Tape_init_13.2 ?_
  refine sq_Tape_init_14.2 ?_
  refine (rk_put (host := "") (ci := 4) (k := 1) (tg := [27, 0, 0]) dq_Tape_init_15 (by decide +kernel) rfl (lo_pos (by decide) (by decide)) (by decide) rfl rk_pi).2 ?_
  refine sq_Tape_init_18.2 ?_
  refine sq_Tape_init_19.2 ?_
  refine (rk_put (host := "") (ci := 4) (k := 2) (tg := [27, 0, 0]) dq_Tape_init_20 (by decide +kernel) rfl (lo_pos (by decide) (by decide)) (by decide) rfl rk_pi).2 ?_
  exact sq_Tape_init_23.2 ⟨rfl, rfl⟩
theorem mk_Sheets_26 {o : Bool} {L s : Nat} {iv av : Nat → Nat → Int32} : ev (lt_G o L) mm_Sheets_init [.ref 26] (iv, av, 27, s) none (u2 (u2 (u2 (u2 (iv) 26 0 1) 26 1 1) 26 2 1) 26 3 1, mrow (u1 (u1 (u1 (av) 27 (fun _ => 0)) 28 (fun _ => 0)) 29 (fun _ => 0)) 31 4, 35, s + 4 + 4 + 4 + 4 + 4 * 24) := by
  refine ev_of ?_
  show rn _ _ 0 [some (.ref 26)] [] _ _
  refine sq_Sheets_init_0.2 ?_
  refine (rk_obj dq_Sheets_init_1 (by decide) (by decide)).2 ?_
  refine sq_Sheets_init_4.2 ?_
  refine sq_Sheets_init_5.2 ?_
  refine (rk_arr (a := 27) (len := 4) (b := 0) (t := 1) dq_Sheets_init_6 (lo_inv (by decide)) rfl (by decide) (by decide) (by decide)).2 ?_
  refine (rk_put (host := "") (ci := 3) (k := 0) (tg := [29, 30, 31, 32]) dq_Sheets_init_8 (by decide +kernel) rfl (lo_pos (by decide) (by decide)) (by decide) rfl (rk_pr (t := 27))).2 ?_
  refine sq_Sheets_init_11.2 ?_
  refine sq_Sheets_init_12.2 ?_
  refine (rk_arr (a := 28) (len := 4) (b := 0) (t := 0) dq_Sheets_init_13 (lo_inv (by decide)) rfl (by decide) (by decide) (by decide)).2 ?_
  refine (rk_put (host := "") (ci := 3) (k := 1) (tg := [29, 30, 31, 32]) dq_Sheets_init_15 (by decide +kernel) rfl (lo_pos (by decide) (by decide)) (by decide) rfl (rk_pr (t := 28))).2 ?_
  refine sq_Sheets_init_18.2 ?_
  refine sq_Sheets_init_19.2 ?_
  refine (rk_arr (a := 29) (len := 4) (b := 0) (t := 0) dq_Sheets_init_20 (lo_inv (by decide)) rfl (by decide) (by decide) (by decide)).2 ?_
  refine (rk_put (host := "") (ci := 3) (k := 2) (tg := [29, 30, 31, 32]) dq_Sheets_init_22 (by decide +kernel) rfl (lo_pos (by decide) (by decide)) (by decide) rfl (rk_pr (t := 29))).2 ?_
  refine sq_Sheets_init_25.2 ?_
  refine sq_Sheets_init_26.2 ?_
  refine sq_Sheets_init_27.2 ?_
  refine (rk_mul (a := 30) (b := 31) (m := 4) (y := 24) dq_Sheets_init_29 (lo_inv (by decide)) rfl ⟨by decide, by decide⟩ (by decide) (by decide) (by decide) (by cases o <;> rfl)).2 ?_
  refine (rk_put (host := "") (ci := 3) (k := 3) (tg := [29, 30, 31, 32]) dq_Sheets_init_33 (by decide +kernel) rfl (lo_pos (by decide) (by decide)) (by decide) rfl (rk_pr (t := 30))).2 ?_
  exact sq_Sheets_init_36.2 ⟨rfl, rfl⟩
theorem mk_Ground_35 {o : Bool} {L s : Nat} {iv av : Nat → Nat → Int32} : ev (lt_G o L) mm_Ground_init [.ref 35] (iv, av, 36, s) none (u2 (u2 (iv) 35 0 1) 35 1 (nI 0), fil5 (mrow (av) 37 5) 37, 42, s + 5 + 5 * 49) := by
  refine ev_of ?_
  show rn _ _ 0 [some (.ref 35)] [] _ _
  refine sq_Ground_init_0.2 ?_
  refine (rk_obj dq_Ground_init_1 (by decide) (by decide)).2 ?_
  refine sq_Ground_init_4.2 ?_
  refine sq_Ground_init_5.2 ?_
  refine sq_Ground_init_6.2 ?_
  refine (rk_mul (a := 36) (b := 37) (m := 5) (y := 49) dq_Ground_init_8 (lo_inv (by decide)) rfl ⟨by decide, by decide⟩ (by decide) (by decide) (by decide) (by cases o <;> rfl)).2 ?_
  refine (rk_put (host := "") (ci := 0) (k := 0) (tg := [38, 0]) dq_Ground_init_12 (by decide +kernel) rfl (lo_pos (by decide) (by decide)) (by decide) rfl (rk_pr (t := 36))).2 ?_
  refine sq_Ground_init_15.2 ?_
  refine sq_Ground_init_16.2 ?_
  refine (rk_put (host := "") (ci := 0) (k := 1) (tg := [38, 0]) dq_Ground_init_17 (by decide +kernel) rfl (lo_pos (by decide) (by decide)) (by decide) rfl rk_pi).2 ?_
  refine sq_Ground_init_20.2 ?_
  refine (rk_get (host := "") (ci := 0) (k := 0) (t := 36) (tg := [38, 0]) dq_Ground_init_21 (by decide +kernel) rfl (lo_pos (by decide) (by decide)) rfl rfl).2 ?_
  refine sq_Ground_init_24.2 ?_
  refine (rk_ald (c := 0) (len := 5) (b := 37) dq_Ground_init_25 rfl (lo_pos (by decide) (by decide)) (by decide) (by decide)).2 ?_
  refine sq_Ground_init_26.2 ?_
  refine (sq_Ground_init_27 (rk_fill (len := 49) (b := 0) rfl (lo_pos (by decide) (by decide)) (by decide)) (by decide)).2 ?_
  exact sq_Ground_init_30.2 ⟨rfl, rfl⟩
theorem mk_Villages_42 {o : Bool} {L s : Nat} {iv av : Nat → Nat → Int32} : ev (lt_G o L) mm_Villages_init [.ref 42] (iv, av, 43, s) none (u2 (u2 (u2 (iv) 42 0 1) 42 1 1) 42 2 (nI 0), u1 (u1 (av) 43 (fun _ => 0)) 44 (fun _ => 0), 45, s + 6 + 6) := by
  refine ev_of ?_
  show rn _ _ 0 [some (.ref 42)] [] _ _
  refine sq_Villages_init_0.2 ?_
  refine (rk_obj dq_Villages_init_1 (by decide) (by decide)).2 ?_
  refine sq_Villages_init_4.2 ?_
  refine sq_Villages_init_5.2 ?_
  refine (rk_arr (a := 43) (len := 6) (b := 0) (t := 0) dq_Villages_init_7 (lo_inv (by decide)) rfl (by decide) (by decide) (by decide)).2 ?_
  refine (rk_put (host := "") (ci := 5) (k := 0) (tg := [45, 46, 0]) dq_Villages_init_9 (by decide +kernel) rfl (lo_pos (by decide) (by decide)) (by decide) rfl (rk_pr (t := 43))).2 ?_
  refine sq_Villages_init_12.2 ?_
  refine sq_Villages_init_13.2 ?_
  refine (rk_arr (a := 44) (len := 6) (b := 0) (t := 0) dq_Villages_init_15 (lo_inv (by decide)) rfl (by decide) (by decide) (by decide)).2 ?_
  refine (rk_put (host := "") (ci := 5) (k := 1) (tg := [45, 46, 0]) dq_Villages_init_17 (by decide +kernel) rfl (lo_pos (by decide) (by decide)) (by decide) rfl (rk_pr (t := 44))).2 ?_
  refine sq_Villages_init_20.2 ?_
  refine sq_Villages_init_21.2 ?_
  refine (rk_put (host := "") (ci := 5) (k := 2) (tg := [45, 46, 0]) dq_Villages_init_22 (by decide +kernel) rfl (lo_pos (by decide) (by decide)) (by decide) rfl rk_pi).2 ?_
  exact sq_Villages_init_25.2 ⟨rfl, rfl⟩
theorem mk_Road_0 {o : Bool} {L s : Nat} {iv av : Nat → Nat → Int32} : ev (lt_G o L) mm_Road_init [.ref 0] (iv, av, 1, s) none (u2 (u2 (u2 (u2 (u2 (u2 (u2 (u2 (u1 (u2 (u2 (u2 (u1 (u2 (u2 (u2 (u2 (u2 (u1 (u2 (u2 (u2 (u2 (u1 (u2 (u2 (u2 (u2 (u2 (u1 (u2 (u2 (u2 (u2 (u2 (u1 (u2 (u2 (u2 (u2 (u2 (u2 (u1 (u2 (u2 (u2 (u1 (u2 (u2 (u2 (u2 (u1 (u2 (u2 (u2 (u1 (u1 (iv) 1 (fun _ => 0)) 2 (fun _ => 0)) 2 0 1) 2 1 (nI 0)) 1 0 1) 9 (fun _ => 0)) 9 0 1) 9 1 1) 9 2 (nI 0)) 1 1 1) 12 (fun _ => 0)) 12 0 1) 12 1 (nI 0)) 1 2 1) 14 (fun _ => 0)) 14 0 1) 14 1 (nI 1)) 1 3 1) 1 4 (nI 0)) 1 5 (nI 48)) 0 0 1) 16 (fun _ => 0)) 16 0 1) 16 1 1) 16 2 1) 16 3 (nI 0)) 0 1 1) 20 (fun _ => 0)) 20 0 1) 20 1 1) 20 2 1) 20 3 (nI 0)) 0 2 1) 24 (fun _ => 0)) 24 0 1) 24 1 (nI 0)) 24 2 (nI 0)) 0 3 1) 26 (fun _ => 0)) 26 0 1) 26 1 1) 26 2 1) 26 3 1) 0 4 1) 35 (fun _ => 0)) 35 0 1) 35 1 (nI 0)) 0 5 1) 42 (fun _ => 0)) 42 0 1) 42 1 1) 42 2 (nI 0)) 0 6 1) 0 7 0) 0 8 0) 0 9 (nI 0)) 0 10 (nI 0), u1 (u1 (fil5 (mrow (mrow (u1 (u1 (u1 (u1 (u1 (u1 (u1 (u1 (u1 (u1 (u1 (u1 (u1 (u1 (fil5 (mrow (av) 4 5) 4) 10 (fun _ => 0)) 11 (fun _ => 0)) 13 (fun _ => 0)) 15 (fun _ => 0)) 17 (fun _ => 0)) 18 (fun _ => 0)) 19 (fun _ => 0)) 21 (fun _ => 0)) 22 (fun _ => 0)) 23 (fun _ => 0)) 25 (fun _ => 0)) 27 (fun _ => 0)) 28 (fun _ => 0)) 29 (fun _ => 0)) 31 4) 37 5) 37) 43 (fun _ => 0)) 44 (fun _ => 0), 45, s + [4, 11, 14, 16, 0, 0].length + [5, 0].length + 5 + 5 * 49 + [12, 13, 0].length + 6 + 6 + [15, 0].length + 60 + [17, 0].length + 41 + [19, 20, 21, 0].length + 49 + 49 + 49 + [23, 24, 25, 0].length + 49 + 49 + 49 + [27, 0, 0].length + 140 + [29, 30, 31, 32].length + 4 + 4 + 4 + 4 + 4 * 24 + [38, 0].length + 5 + 5 * 49 + [45, 46, 0].length + 6 + 6) := by
  refine ev_of ?_
  show rn _ _ 0 [some (.ref 0)] [] _ _
  refine sq_Road_init_0.2 ?_
  refine (rk_obj dq_Road_init_1 (by decide) (by decide)).2 ?_
  refine sq_Road_init_4.2 ?_
  refine (rk_new (ci := 8) (a := 1) (tg := [4, 11, 14, 16, 0, 0]) dq_Road_init_5 (by decide) (lo_inv (by decide)) rfl (by decide)).2 ?_
  refine sq_Road_init_8r.2 ?_
  refine (rk_ini (host := "DeltaRoad") (E' := mm_World_init) (tg := [4, 11, 14, 16, 0, 0]) dq_Road_init_9 (by decide) rfl (by decide) (by decide) rfl (by decide) (by decide) rfl rfl (lo_pos (by decide) (by decide)) mk_World_1).2 ?_
  refine (rk_put (host := "") (ci := 9) (k := 0) (tg := [3, 18, 22, 26, 28, 37, 44, 138, 67, 1, 1]) dq_Road_init_12 (by decide +kernel) rfl (lo_pos (by decide) (by decide)) (by decide) rfl (rk_pr (t := 1))).2 ?_
  refine sq_Road_init_15.2 ?_
  refine (rk_new (ci := 6) (a := 16) (tg := [19, 20, 21, 0]) dq_Road_init_16 (by decide) (lo_inv (by decide)) rfl (by decide)).2 ?_
  refine sq_Road_init_19r.2 ?_
  refine (rk_ini (host := "DeltaRoad") (E' := mm_Water_init) (tg := [19, 20, 21, 0]) dq_Road_init_20 (by decide) rfl (by decide) (by decide) rfl (by decide) (by decide) rfl rfl (lo_pos (by decide) (by decide)) mk_Water_16).2 ?_
  refine (rk_put (host := "") (ci := 9) (k := 1) (tg := [3, 18, 22, 26, 28, 37, 44, 138, 67, 1, 1]) dq_Road_init_23 (by decide +kernel) rfl (lo_pos (by decide) (by decide)) (by decide) rfl (rk_pr (t := 16))).2 ?_
  refine sq_Road_init_26.2 ?_
  refine (rk_new (ci := 6) (a := 20) (tg := [23, 24, 25, 0]) dq_Road_init_27 (by decide) (lo_inv (by decide)) rfl (by decide)).2 ?_
  refine sq_Road_init_30r.2 ?_
  refine (rk_ini (host := "DeltaRoad") (E' := mm_Water_init) (tg := [23, 24, 25, 0]) dq_Road_init_31 (by decide) rfl (by decide) (by decide) rfl (by decide) (by decide) rfl rfl (lo_pos (by decide) (by decide)) mk_Water_20).2 ?_
  refine (rk_put (host := "") (ci := 9) (k := 2) (tg := [3, 18, 22, 26, 28, 37, 44, 138, 67, 1, 1]) dq_Road_init_34 (by decide +kernel) rfl (lo_pos (by decide) (by decide)) (by decide) rfl (rk_pr (t := 20))).2 ?_
  refine sq_Road_init_37.2 ?_
  refine (rk_new (ci := 4) (a := 24) (tg := [27, 0, 0]) dq_Road_init_38 (by decide) (lo_inv (by decide)) rfl (by decide)).2 ?_
  refine sq_Road_init_41r.2 ?_
  refine (rk_ini (host := "DeltaRoad") (E' := mm_Tape_init) (tg := [27, 0, 0]) dq_Road_init_42 (by decide) rfl (by decide) (by decide) rfl (by decide) (by decide) rfl rfl (lo_pos (by decide) (by decide)) mk_Tape_24).2 ?_
  refine (rk_put (host := "") (ci := 9) (k := 3) (tg := [3, 18, 22, 26, 28, 37, 44, 138, 67, 1, 1]) dq_Road_init_45 (by decide +kernel) rfl (lo_pos (by decide) (by decide)) (by decide) rfl (rk_pr (t := 24))).2 ?_
  refine sq_Road_init_48.2 ?_
  refine (rk_new (ci := 3) (a := 26) (tg := [29, 30, 31, 32]) dq_Road_init_49 (by decide) (lo_inv (by decide)) rfl (by decide)).2 ?_
  refine sq_Road_init_52r.2 ?_
  refine (rk_ini (host := "DeltaRoad") (E' := mm_Sheets_init) (tg := [29, 30, 31, 32]) dq_Road_init_53 (by decide) rfl (by decide) (by decide) rfl (by decide) (by decide) rfl rfl (lo_pos (by decide) (by decide)) mk_Sheets_26).2 ?_
  refine (rk_put (host := "") (ci := 9) (k := 4) (tg := [3, 18, 22, 26, 28, 37, 44, 138, 67, 1, 1]) dq_Road_init_56 (by decide +kernel) rfl (lo_pos (by decide) (by decide)) (by decide) rfl (rk_pr (t := 26))).2 ?_
  refine sq_Road_init_59.2 ?_
  refine (rk_new (ci := 0) (a := 35) (tg := [38, 0]) dq_Road_init_60 (by decide) (lo_inv (by decide)) rfl (by decide)).2 ?_
  refine sq_Road_init_63r.2 ?_
  refine (rk_ini (host := "") (E' := mm_Ground_init) (tg := [38, 0]) dq_Road_init_64 (by decide) rfl (by decide) (by decide) rfl (by decide) (by decide) rfl rfl (lo_pos (by decide) (by decide)) mk_Ground_35).2 ?_
  refine (rk_put (host := "") (ci := 9) (k := 5) (tg := [3, 18, 22, 26, 28, 37, 44, 138, 67, 1, 1]) dq_Road_init_67 (by decide +kernel) rfl (lo_pos (by decide) (by decide)) (by decide) rfl (rk_pr (t := 35))).2 ?_
  refine sq_Road_init_70.2 ?_
  refine (rk_new (ci := 5) (a := 42) (tg := [45, 46, 0]) dq_Road_init_71 (by decide) (lo_inv (by decide)) rfl (by decide)).2 ?_
  refine sq_Road_init_74r.2 ?_
  refine (rk_ini (host := "DeltaRoad") (E' := mm_Villages_init) (tg := [45, 46, 0]) dq_Road_init_75 (by decide) rfl (by decide) (by decide) rfl (by decide) (by decide) rfl rfl (lo_pos (by decide) (by decide)) mk_Villages_42).2 ?_
  refine (rk_put (host := "") (ci := 9) (k := 6) (tg := [3, 18, 22, 26, 28, 37, 44, 138, 67, 1, 1]) dq_Road_init_78 (by decide +kernel) rfl (lo_pos (by decide) (by decide)) (by decide) rfl (rk_pr (t := 42))).2 ?_
  refine sq_Road_init_81.2 ?_
  refine sq_Road_init_82.2 ?_
  refine (rk_put (host := "") (ci := 9) (k := 7) (tg := [3, 18, 22, 26, 28, 37, 44, 138, 67, 1, 1]) dq_Road_init_83 (by decide +kernel) rfl (lo_pos (by decide) (by decide)) (by decide) rfl (rk_pn (t := 136))).2 ?_
  refine sq_Road_init_86.2 ?_
  refine sq_Road_init_87.2 ?_
  refine (rk_put (host := "") (ci := 9) (k := 8) (tg := [3, 18, 22, 26, 28, 37, 44, 138, 67, 1, 1]) dq_Road_init_88 (by decide +kernel) rfl (lo_pos (by decide) (by decide)) (by decide) rfl (rk_pn (t := 65))).2 ?_
  refine sq_Road_init_91.2 ?_
  refine sq_Road_init_92.2 ?_
  refine (rk_put (host := "") (ci := 9) (k := 9) (tg := [3, 18, 22, 26, 28, 37, 44, 138, 67, 1, 1]) dq_Road_init_93 (by decide +kernel) rfl (lo_pos (by decide) (by decide)) (by decide) rfl (rk_pz (Or.inl rfl))).2 ?_
  refine sq_Road_init_96.2 ?_
  refine sq_Road_init_97.2 ?_
  refine (rk_put (host := "") (ci := 9) (k := 10) (tg := [3, 18, 22, 26, 28, 37, 44, 138, 67, 1, 1]) dq_Road_init_98 (by decide +kernel) rfl (lo_pos (by decide) (by decide)) (by decide) rfl (rk_pz (Or.inl rfl))).2 ?_
  exact sq_Road_init_101.2 ⟨rfl, rfl⟩
theorem mk_Model_45 {o : Bool} {L s : Nat} {iv av : Nat → Nat → Int32} {P : Option Value → ks_S → Prop} (h : rn (lt_G o L) mm_Model_init 169 [some (.ref 45), none] [] (u2 (u2 (u2 (u2 (u2 (u2 (u2 (u2 (u2 (u2 (u2 (u2 (u2 (u2 (u2 (u2 (u2 (u2 (u2 (u2 (u2 (iv) 45 0 1) 45 2 1) 45 3 1) 45 6 (nI 48)) 45 7 1) 45 9 1) 45 10 (nI 1)) 45 11 1) 45 12 1) 45 14 1) 45 15 1) 45 19 1) 45 20 1) 45 21 1) 45 22 1) 45 23 1) 45 25 1) 45 26 1) 45 27 1) 45 28 1) 45 29 1, u1 (u1 (u1 (u1 (u1 (u1 (u1 (u1 (u1 (u1 (u1 (u1 (u1 (u1 (u1 (u1 (u1 (u1 (u1 (av) 46 (fun _ => 0)) 47 (fun _ => 0)) 48 (fun _ => 0)) 49 (fun _ => 0)) 50 (fun _ => 0)) 51 (fun _ => 0)) 52 (fun _ => 0)) 53 (fun _ => 0)) 54 (fun _ => 0)) 55 (fun _ => 0)) 56 (fun _ => 0)) 57 (fun _ => 0)) 58 (fun _ => 0)) 59 (fun _ => 0)) 60 (fun _ => 0)) 61 (fun _ => 0)) 62 (fun _ => 0)) 63 (fun _ => 0)) 64 (fun _ => 0), 65, s + 245 + 6 + 6 + 60 + 41 + 49 + 49 + 49 + 140 + 49 + 49 + 49 + 3136 + 64 + 358 + 6 + 4 + 4 + 96) P) : rn (lt_G o L) mm_Model_init 0 [some (.ref 45), none] [] (iv, av, 46, s) P := by
  refine sq_Model_init_0.2 ?_
  refine (rk_obj dq_Model_init_1 (by decide) (by decide)).2 ?_
  refine sq_Model_init_4.2 ?_
  refine sq_Model_init_5.2 ?_
  refine (rk_arr (a := 46) (len := 245) (b := 0) (t := 0) dq_Model_init_8 (lo_inv (by decide)) rfl (by decide) (by decide) (by decide)).2 ?_
  refine (rk_put (host := "") (ci := 10) (k := 0) (tg := [48, 0, 49, 50, 0, 0, 0, 51, 0, 52, 0, 53, 54, 0, 55, 56, 0, 0, 0, 57, 58, 59, 60, 61, 1, 62, 63, 64, 65, 66]) dq_Model_init_10 (by decide +kernel) rfl (lo_pos (by decide) (by decide)) (by decide) rfl (rk_pr (t := 46))).2 ?_
  refine sq_Model_init_13.2 ?_
  refine sq_Model_init_14.2 ?_
  refine (rk_arr (a := 47) (len := 6) (b := 0) (t := 0) dq_Model_init_16 (lo_inv (by decide)) rfl (by decide) (by decide) (by decide)).2 ?_
  refine (rk_put (host := "") (ci := 10) (k := 2) (tg := [48, 0, 49, 50, 0, 0, 0, 51, 0, 52, 0, 53, 54, 0, 55, 56, 0, 0, 0, 57, 58, 59, 60, 61, 1, 62, 63, 64, 65, 66]) dq_Model_init_18 (by decide +kernel) rfl (lo_pos (by decide) (by decide)) (by decide) rfl (rk_pr (t := 47))).2 ?_
  refine sq_Model_init_21.2 ?_
  refine sq_Model_init_22.2 ?_
  refine (rk_arr (a := 48) (len := 6) (b := 0) (t := 0) dq_Model_init_24 (lo_inv (by decide)) rfl (by decide) (by decide) (by decide)).2 ?_
  refine (rk_put (host := "") (ci := 10) (k := 3) (tg := [48, 0, 49, 50, 0, 0, 0, 51, 0, 52, 0, 53, 54, 0, 55, 56, 0, 0, 0, 57, 58, 59, 60, 61, 1, 62, 63, 64, 65, 66]) dq_Model_init_26 (by decide +kernel) rfl (lo_pos (by decide) (by decide)) (by decide) rfl (rk_pr (t := 48))).2 ?_
  refine sq_Model_init_29.2 ?_
  refine sq_Model_init_30.2 ?_
  refine (rk_put (host := "") (ci := 10) (k := 6) (tg := [48, 0, 49, 50, 0, 0, 0, 51, 0, 52, 0, 53, 54, 0, 55, 56, 0, 0, 0, 57, 58, 59, 60, 61, 1, 62, 63, 64, 65, 66]) dq_Model_init_32 (by decide +kernel) rfl (lo_pos (by decide) (by decide)) (by decide) rfl rk_pi).2 ?_
  refine sq_Model_init_35.2 ?_
  refine sq_Model_init_36.2 ?_
  refine (rk_arr (a := 49) (len := 60) (b := 0) (t := 0) dq_Model_init_38 (lo_inv (by decide)) rfl (by decide) (by decide) (by decide)).2 ?_
  refine (rk_put (host := "") (ci := 10) (k := 7) (tg := [48, 0, 49, 50, 0, 0, 0, 51, 0, 52, 0, 53, 54, 0, 55, 56, 0, 0, 0, 57, 58, 59, 60, 61, 1, 62, 63, 64, 65, 66]) dq_Model_init_40 (by decide +kernel) rfl (lo_pos (by decide) (by decide)) (by decide) rfl (rk_pr (t := 49))).2 ?_
  refine sq_Model_init_43.2 ?_
  refine sq_Model_init_44.2 ?_
  refine (rk_arr (a := 50) (len := 41) (b := 0) (t := 0) dq_Model_init_46 (lo_inv (by decide)) rfl (by decide) (by decide) (by decide)).2 ?_
  refine (rk_put (host := "") (ci := 10) (k := 9) (tg := [48, 0, 49, 50, 0, 0, 0, 51, 0, 52, 0, 53, 54, 0, 55, 56, 0, 0, 0, 57, 58, 59, 60, 61, 1, 62, 63, 64, 65, 66]) dq_Model_init_48 (by decide +kernel) rfl (lo_pos (by decide) (by decide)) (by decide) rfl (rk_pr (t := 50))).2 ?_
  refine sq_Model_init_51.2 ?_
  refine sq_Model_init_52.2 ?_
  refine (rk_put (host := "") (ci := 10) (k := 10) (tg := [48, 0, 49, 50, 0, 0, 0, 51, 0, 52, 0, 53, 54, 0, 55, 56, 0, 0, 0, 57, 58, 59, 60, 61, 1, 62, 63, 64, 65, 66]) dq_Model_init_53 (by decide +kernel) rfl (lo_pos (by decide) (by decide)) (by decide) rfl rk_pi).2 ?_
  refine sq_Model_init_56.2 ?_
  refine sq_Model_init_57.2 ?_
  refine (rk_arr (a := 51) (len := 49) (b := 0) (t := 0) dq_Model_init_59 (lo_inv (by decide)) rfl (by decide) (by decide) (by decide)).2 ?_
  refine (rk_put (host := "") (ci := 10) (k := 11) (tg := [48, 0, 49, 50, 0, 0, 0, 51, 0, 52, 0, 53, 54, 0, 55, 56, 0, 0, 0, 57, 58, 59, 60, 61, 1, 62, 63, 64, 65, 66]) dq_Model_init_61 (by decide +kernel) rfl (lo_pos (by decide) (by decide)) (by decide) rfl (rk_pr (t := 51))).2 ?_
  refine sq_Model_init_64.2 ?_
  refine sq_Model_init_65.2 ?_
  refine (rk_arr (a := 52) (len := 49) (b := 0) (t := 0) dq_Model_init_67 (lo_inv (by decide)) rfl (by decide) (by decide) (by decide)).2 ?_
  refine (rk_put (host := "") (ci := 10) (k := 12) (tg := [48, 0, 49, 50, 0, 0, 0, 51, 0, 52, 0, 53, 54, 0, 55, 56, 0, 0, 0, 57, 58, 59, 60, 61, 1, 62, 63, 64, 65, 66]) dq_Model_init_69 (by decide +kernel) rfl (lo_pos (by decide) (by decide)) (by decide) rfl (rk_pr (t := 52))).2 ?_
  refine sq_Model_init_72.2 ?_
  refine sq_Model_init_73.2 ?_
  refine (rk_arr (a := 53) (len := 49) (b := 0) (t := 0) dq_Model_init_75 (lo_inv (by decide)) rfl (by decide) (by decide) (by decide)).2 ?_
  refine (rk_put (host := "") (ci := 10) (k := 14) (tg := [48, 0, 49, 50, 0, 0, 0, 51, 0, 52, 0, 53, 54, 0, 55, 56, 0, 0, 0, 57, 58, 59, 60, 61, 1, 62, 63, 64, 65, 66]) dq_Model_init_77 (by decide +kernel) rfl (lo_pos (by decide) (by decide)) (by decide) rfl (rk_pr (t := 53))).2 ?_
  refine sq_Model_init_80.2 ?_
  refine sq_Model_init_81.2 ?_
  refine (rk_arr (a := 54) (len := 140) (b := 0) (t := 0) dq_Model_init_84 (lo_inv (by decide)) rfl (by decide) (by decide) (by decide)).2 ?_
  refine (rk_put (host := "") (ci := 10) (k := 15) (tg := [48, 0, 49, 50, 0, 0, 0, 51, 0, 52, 0, 53, 54, 0, 55, 56, 0, 0, 0, 57, 58, 59, 60, 61, 1, 62, 63, 64, 65, 66]) dq_Model_init_86 (by decide +kernel) rfl (lo_pos (by decide) (by decide)) (by decide) rfl (rk_pr (t := 54))).2 ?_
  refine sq_Model_init_89.2 ?_
  refine sq_Model_init_90.2 ?_
  refine (rk_arr (a := 55) (len := 49) (b := 0) (t := 0) dq_Model_init_92 (lo_inv (by decide)) rfl (by decide) (by decide) (by decide)).2 ?_
  refine (rk_put (host := "") (ci := 10) (k := 19) (tg := [48, 0, 49, 50, 0, 0, 0, 51, 0, 52, 0, 53, 54, 0, 55, 56, 0, 0, 0, 57, 58, 59, 60, 61, 1, 62, 63, 64, 65, 66]) dq_Model_init_94 (by decide +kernel) rfl (lo_pos (by decide) (by decide)) (by decide) rfl (rk_pr (t := 55))).2 ?_
  refine sq_Model_init_97.2 ?_
  refine sq_Model_init_98.2 ?_
  refine (rk_arr (a := 56) (len := 49) (b := 0) (t := 0) dq_Model_init_100 (lo_inv (by decide)) rfl (by decide) (by decide) (by decide)).2 ?_
  refine (rk_put (host := "") (ci := 10) (k := 20) (tg := [48, 0, 49, 50, 0, 0, 0, 51, 0, 52, 0, 53, 54, 0, 55, 56, 0, 0, 0, 57, 58, 59, 60, 61, 1, 62, 63, 64, 65, 66]) dq_Model_init_102 (by decide +kernel) rfl (lo_pos (by decide) (by decide)) (by decide) rfl (rk_pr (t := 56))).2 ?_
  refine sq_Model_init_105.2 ?_
  refine sq_Model_init_106.2 ?_
  refine (rk_arr (a := 57) (len := 49) (b := 0) (t := 0) dq_Model_init_108 (lo_inv (by decide)) rfl (by decide) (by decide) (by decide)).2 ?_
  refine (rk_put (host := "") (ci := 10) (k := 21) (tg := [48, 0, 49, 50, 0, 0, 0, 51, 0, 52, 0, 53, 54, 0, 55, 56, 0, 0, 0, 57, 58, 59, 60, 61, 1, 62, 63, 64, 65, 66]) dq_Model_init_110 (by decide +kernel) rfl (lo_pos (by decide) (by decide)) (by decide) rfl (rk_pr (t := 57))).2 ?_
  refine sq_Model_init_113.2 ?_
  refine sq_Model_init_114.2 ?_
  refine (rk_arr (a := 58) (len := 3136) (b := 0) (t := 0) dq_Model_init_117 (lo_inv (by decide)) rfl (by decide) (by decide) (by decide)).2 ?_
  refine (rk_put (host := "") (ci := 10) (k := 22) (tg := [48, 0, 49, 50, 0, 0, 0, 51, 0, 52, 0, 53, 54, 0, 55, 56, 0, 0, 0, 57, 58, 59, 60, 61, 1, 62, 63, 64, 65, 66]) dq_Model_init_119 (by decide +kernel) rfl (lo_pos (by decide) (by decide)) (by decide) rfl (rk_pr (t := 58))).2 ?_
  refine sq_Model_init_122.2 ?_
  refine sq_Model_init_123.2 ?_
  refine (rk_arr (a := 59) (len := 64) (b := 0) (t := 0) dq_Model_init_125 (lo_inv (by decide)) rfl (by decide) (by decide) (by decide)).2 ?_
  refine (rk_put (host := "") (ci := 10) (k := 23) (tg := [48, 0, 49, 50, 0, 0, 0, 51, 0, 52, 0, 53, 54, 0, 55, 56, 0, 0, 0, 57, 58, 59, 60, 61, 1, 62, 63, 64, 65, 66]) dq_Model_init_127 (by decide +kernel) rfl (lo_pos (by decide) (by decide)) (by decide) rfl (rk_pr (t := 59))).2 ?_
  refine sq_Model_init_130.2 ?_
  refine sq_Model_init_131.2 ?_
  refine (rk_arr (a := 60) (len := 358) (b := 0) (t := 0) dq_Model_init_134 (lo_inv (by decide)) rfl (by decide) (by decide) (by decide)).2 ?_
  refine (rk_put (host := "") (ci := 10) (k := 25) (tg := [48, 0, 49, 50, 0, 0, 0, 51, 0, 52, 0, 53, 54, 0, 55, 56, 0, 0, 0, 57, 58, 59, 60, 61, 1, 62, 63, 64, 65, 66]) dq_Model_init_136 (by decide +kernel) rfl (lo_pos (by decide) (by decide)) (by decide) rfl (rk_pr (t := 60))).2 ?_
  refine sq_Model_init_139.2 ?_
  refine sq_Model_init_140.2 ?_
  refine (rk_arr (a := 61) (len := 6) (b := 0) (t := 0) dq_Model_init_142 (lo_inv (by decide)) rfl (by decide) (by decide) (by decide)).2 ?_
  refine (rk_put (host := "") (ci := 10) (k := 26) (tg := [48, 0, 49, 50, 0, 0, 0, 51, 0, 52, 0, 53, 54, 0, 55, 56, 0, 0, 0, 57, 58, 59, 60, 61, 1, 62, 63, 64, 65, 66]) dq_Model_init_144 (by decide +kernel) rfl (lo_pos (by decide) (by decide)) (by decide) rfl (rk_pr (t := 61))).2 ?_
  refine sq_Model_init_147.2 ?_
  refine sq_Model_init_148.2 ?_
  refine (rk_arr (a := 62) (len := 4) (b := 0) (t := 0) dq_Model_init_149 (lo_inv (by decide)) rfl (by decide) (by decide) (by decide)).2 ?_
  refine (rk_put (host := "") (ci := 10) (k := 27) (tg := [48, 0, 49, 50, 0, 0, 0, 51, 0, 52, 0, 53, 54, 0, 55, 56, 0, 0, 0, 57, 58, 59, 60, 61, 1, 62, 63, 64, 65, 66]) dq_Model_init_151 (by decide +kernel) rfl (lo_pos (by decide) (by decide)) (by decide) rfl (rk_pr (t := 62))).2 ?_
  refine sq_Model_init_154.2 ?_
  refine sq_Model_init_155.2 ?_
  refine (rk_arr (a := 63) (len := 4) (b := 0) (t := 0) dq_Model_init_156 (lo_inv (by decide)) rfl (by decide) (by decide) (by decide)).2 ?_
  refine (rk_put (host := "") (ci := 10) (k := 28) (tg := [48, 0, 49, 50, 0, 0, 0, 51, 0, 52, 0, 53, 54, 0, 55, 56, 0, 0, 0, 57, 58, 59, 60, 61, 1, 62, 63, 64, 65, 66]) dq_Model_init_158 (by decide +kernel) rfl (lo_pos (by decide) (by decide)) (by decide) rfl (rk_pr (t := 63))).2 ?_
  refine sq_Model_init_161.2 ?_
  refine sq_Model_init_162.2 ?_
  refine (rk_arr (a := 64) (len := 96) (b := 0) (t := 0) dq_Model_init_164 (lo_inv (by decide)) rfl (by decide) (by decide) (by decide)).2 ?_
  refine (rk_put (host := "") (ci := 10) (k := 29) (tg := [48, 0, 49, 50, 0, 0, 0, 51, 0, 52, 0, 53, 54, 0, 55, 56, 0, 0, 0, 57, 58, 59, 60, 61, 1, 62, 63, 64, 65, 66]) dq_Model_init_166 (by decide +kernel) rfl (lo_pos (by decide) (by decide)) (by decide) rfl (rk_pr (t := 64))).2 ?_
  exact h
def ivS : Nat → Nat → Int32 := u2 (u2 (u2 (u2 (u2 (u2 (u2 (u2 (u2 (u2 (u2 (u2 (u2 (u2 (u2 (u2 (u2 (u2 (u2 (u2 (u2 (u1 (u2 (u2 (u2 (u2 (u2 (u2 (u2 (u2 (u1 (u2 (u2 (u2 (u1 (u2 (u2 (u2 (u2 (u2 (u1 (u2 (u2 (u2 (u2 (u1 (u2 (u2 (u2 (u2 (u2 (u1 (u2 (u2 (u2 (u2 (u2 (u1 (u2 (u2 (u2 (u2 (u2 (u2 (u1 (u2 (u2 (u2 (u1 (u2 (u2 (u2 (u2 (u1 (u2 (u2 (u2 (u1 (u1 (u1 (fun _ _ => 0) 0 (fun _ => 0)) 1 (fun _ => 0)) 2 (fun _ => 0)) 2 0 1) 2 1 (nI 0)) 1 0 1) 9 (fun _ => 0)) 9 0 1) 9 1 1) 9 2 (nI 0)) 1 1 1) 12 (fun _ => 0)) 12 0 1) 12 1 (nI 0)) 1 2 1) 14 (fun _ => 0)) 14 0 1) 14 1 (nI 1)) 1 3 1) 1 4 (nI 0)) 1 5 (nI 48)) 0 0 1) 16 (fun _ => 0)) 16 0 1) 16 1 1) 16 2 1) 16 3 (nI 0)) 0 1 1) 20 (fun _ => 0)) 20 0 1) 20 1 1) 20 2 1) 20 3 (nI 0)) 0 2 1) 24 (fun _ => 0)) 24 0 1) 24 1 (nI 0)) 24 2 (nI 0)) 0 3 1) 26 (fun _ => 0)) 26 0 1) 26 1 1) 26 2 1) 26 3 1) 0 4 1) 35 (fun _ => 0)) 35 0 1) 35 1 (nI 0)) 0 5 1) 42 (fun _ => 0)) 42 0 1) 42 1 1) 42 2 (nI 0)) 0 6 1) 0 7 0) 0 8 0) 0 9 (nI 0)) 0 10 (nI 0)) 45 (fun _ => 0)) 45 0 1) 45 2 1) 45 3 1) 45 6 (nI 48)) 45 7 1) 45 9 1) 45 10 (nI 1)) 45 11 1) 45 12 1) 45 14 1) 45 15 1) 45 19 1) 45 20 1) 45 21 1) 45 22 1) 45 23 1) 45 25 1) 45 26 1) 45 27 1) 45 28 1) 45 29 1
def avS (av : Nat → Nat → Int32) : Nat → Nat → Int32 := u1 (u1 (u1 (u1 (u1 (u1 (u1 (u1 (u1 (u1 (u1 (u1 (u1 (u1 (u1 (u1 (u1 (u1 (u1 (u1 (u1 (fil5 (mrow (mrow (u1 (u1 (u1 (u1 (u1 (u1 (u1 (u1 (u1 (u1 (u1 (u1 (u1 (u1 (fil5 (mrow (av) 4 5) 4) 10 (fun _ => 0)) 11 (fun _ => 0)) 13 (fun _ => 0)) 15 (fun _ => 0)) 17 (fun _ => 0)) 18 (fun _ => 0)) 19 (fun _ => 0)) 21 (fun _ => 0)) 22 (fun _ => 0)) 23 (fun _ => 0)) 25 (fun _ => 0)) 27 (fun _ => 0)) 28 (fun _ => 0)) 29 (fun _ => 0)) 31 4) 37 5) 37) 43 (fun _ => 0)) 44 (fun _ => 0)) 46 (fun _ => 0)) 47 (fun _ => 0)) 48 (fun _ => 0)) 49 (fun _ => 0)) 50 (fun _ => 0)) 51 (fun _ => 0)) 52 (fun _ => 0)) 53 (fun _ => 0)) 54 (fun _ => 0)) 55 (fun _ => 0)) 56 (fun _ => 0)) 57 (fun _ => 0)) 58 (fun _ => 0)) 59 (fun _ => 0)) 60 (fun _ => 0)) 61 (fun _ => 0)) 62 (fun _ => 0)) 63 (fun _ => 0)) 64 (fun _ => 0)
