theorem kc_all : ∀ e ∈ kc_tab, kc_P e := by
  intro e he
  simp only [kc_tab, List.mem_append] at he
  rcases he with ((((((((((((((h | h) | h) | h) | h) | h) | h) | h) | h) | h) | h) | h) | h) | h) | h) | h
  · exact kc_a0 e h
  · exact kc_a1 e h
  · exact kc_a2 e h
  · exact kc_a3 e h
  · exact kc_a4 e h
  · exact kc_a5 e h
  · exact kc_a6 e h
  · exact kc_a7 e h
  · exact kc_a8 e h
  · exact kc_a9 e h
  · exact kc_a10 e h
  · exact kc_a11 e h
  · exact kc_a12 e h
  · exact kc_a13 e h
  · exact kc_a14 e h
  · exact kc_a15 e h
theorem kf_all : ∀ e ∈ kf_tab, kf_P e := kf_zip _ [92, 96, 136, 131, 130, 134, 500, 501, 502, 503, 504, 505, 506, 507, 508, 509, 137, 229, 231, 232, 234, 210, 211, 213, 95, 115, 110, 112, 114, 190, 192, 193, 194, 93, 135, 132, 150, 152, 159, 161, 163, 165, 167, 169, 249, 250, 251, 252, 253, 254, 255, 256, 257, 258, 259, 160, 94, 191, 97, 212, 162, 116, 164, 138, 166, 111, 113, 168, 170, 133, 151, 153, 230, 233, 806, 808, 809, 812, 813, 815, 816, 817, 818, 820, 821, 825, 826, 827, 828, 829, 831, 832, 833, 834, 835, 819, 807, 810, 814, 822, 823, 824, 811, 830] (by decide +kernel) (by decide +kernel)
theorem kf_w0 : ∀ w ∈ u_ws RX0 TX0 2, w ∈ gw := kz_zip _ [98, 100] (by decide +kernel) (by decide +kernel)
theorem kf_w1 : ∀ w ∈ u_ws RX1 TX1 2, w ∈ gw := kz_zip _ [139, 141] (by decide +kernel) (by decide +kernel)
theorem kf_w2 : ∀ w ∈ u_ws RX2 TX2 10, w ∈ gw := kz_zip _ [510, 512, 514, 516, 518, 520, 522, 524, 526, 528] (by decide +kernel) (by decide +kernel)
theorem kf_w3 : ∀ w ∈ u_ws RX3 TX3 4, w ∈ gw := kz_zip _ [235, 237, 239, 241] (by decide +kernel) (by decide +kernel)
theorem kf_w4 : ∀ w ∈ u_ws RX4 TX4 3, w ∈ gw := kz_zip _ [214, 216, 218] (by decide +kernel) (by decide +kernel)
theorem kf_w5 : ∀ w ∈ u_ws RX5 TX5 3, w ∈ gw := kz_zip _ [117, 119, 121] (by decide +kernel) (by decide +kernel)
theorem kf_w6 : ∀ w ∈ u_ws RX6 TX6 4, w ∈ gw := kz_zip _ [195, 197, 199, 201] (by decide +kernel) (by decide +kernel)
theorem kf_w7 : ∀ w ∈ u_ws RX7 TX7 2, w ∈ gw := kz_zip _ [154, 156] (by decide +kernel) (by decide +kernel)
theorem kf_w8 : ∀ w ∈ u_ws RX8 TX8 6, w ∈ gw := kz_zip _ [171, 173, 175, 177, 179, 181] (by decide +kernel) (by decide +kernel)
theorem kf_w9 : ∀ w ∈ u_ws RX9 TX9 11, w ∈ gw := kz_zip _ [260, 262, 264, 266, 268, 270, 272, 274, 276, 278, 280] (by decide +kernel) (by decide +kernel)
theorem kf_w10 : ∀ w ∈ u_ws RX10 TX10 30, w ∈ gw := kz_zip _ [836, 838, 840, 842, 844, 846, 848, 850, 852, 854, 856, 858, 860, 862, 864, 866, 868, 870, 872, 874, 876, 878, 880, 882, 884, 886, 888, 890, 892, 894] (by decide +kernel) (by decide +kernel)
theorem ks_all : ∀ e ∈ ks_tab, ks_P e := ks_zip _ [609, 293, 611, 327, 336] (by decide +kernel) (by decide +kernel)
theorem kw_all : ∀ e ∈ kw_tab, kw_P e := kw_zip _ [(81, 82, 54), (104, 105, 56), (124, 125, 57), (144, 145, 58), (75, 76, 53), (184, 185, 59), (204, 205, 60), (222, 223, 61), (245, 82, 54), (247, 105, 56), (493, 494, 65), (67, 68, 52), (800, 801, 62)] (by decide +kernel) (by decide +kernel)
theorem kw_muls : ∀ e ∈ kw_mul, Cond.classLink (kn e.1) e.2 "[[I" ∈ gw := by
  intro e he
  simp only [kw_mul, List.mem_cons, List.not_mem_nil, or_false] at he
  rcases he with rfl | rfl | rfl
  · exact kz_gw (i := 87) (by decide +kernel) rfl
  · exact kz_gw (i := 499) (by decide +kernel) rfl
  · exact kz_gw (i := 228) (by decide +kernel) rfl
theorem kq_all : ∀ e ∈ kq_tab, Cond.constant (kn e.1) e.2.1 e.2.2 ∈ gw := kq_zip _ [562, 716, 717, 719, 581, 1057, 1062, 1152, 605, 606, 607] (by decide +kernel) (by decide +kernel)
theorem kl_all : ∀ e ∈ kl_tab, Cond.constantLong (kn e.1) e.2.1 e.2.2 ∈ gw := kl_zip _ [368, 702, 703, 904, 908, 916, 951, 972, 973, 974, 975, 992, 1021, 1106, 1115, 1120, 1121, 1142, 1143, 1144, 1149, 1150, 1151, 1180, 1204] (by decide +kernel) (by decide +kernel)
theorem ko_all : ∀ e ∈ kc_obj, Cond.methodLink (kn e.1) e.2 Lib.objectInit ∈ gw := ko_zip _ _ [86, 129, 498, 227, 209, 109, 189, 149, 80, 72, 805] (by decide +kernel) (by decide +kernel)
theorem ka_all : ∀ e ∈ kc_cpy, Cond.methodLink (kn e.1) e.2 arraycopyName ∈ gw := ko_zip _ _ [382, 746, 447, 751] (by decide +kernel) (by decide +kernel)
theorem kt_all : ∀ e ∈ kt_tab, Cond.methodLink (kn e.1) e.2.1 (if e.2.2 = 0 then Lib.Math.max.name else if e.2.2 = 1 then Lib.Math.min.name else Lib.Math.abs.name) ∈ gw := kt_zip _ [564, 436, 535, 538, 673, 329] (by decide +kernel) (by decide +kernel)
theorem kz_w1 : Cond.instanceMethod Lib.objectInit ∈ gw := kz_gw (i := 73) (by decide +kernel) rfl
theorem kz_w2 : Cond.code Lib.objectInit ⟨#[0xb1]⟩ 1 none ∈ gw := kz_gw (i := 74) (by decide +kernel) rfl
theorem kz_w3 : Cond.static arraycopyName ∈ gw := kz_gw (i := 383) (by decide +kernel) rfl
theorem kz_w4 : Cond.native arraycopyName ∈ gw := kz_gw (i := 384) (by decide +kernel) rfl
theorem kz_w5 : Cond.initialized "java/lang/System" ∈ gw := kz_gw (i := 64) (by decide +kernel) rfl
theorem kz_w6 : Cond.initialized "java/lang/Math" ∈ gw := kz_gw (i := 63) (by decide +kernel) rfl
theorem kz_m0 : Cond.static Lib.Math.max.name ∈ gw := kz_gw (i := 330) (by decide +kernel) rfl
theorem kz_c0 : Cond.code Lib.Math.max.name Lib.Math.max.code 2 (some .int) ∈ gw := kz_gw (i := 331) (by decide +kernel) rfl
theorem kz_m1 : Cond.static Lib.Math.min.name ∈ gw := kz_gw (i := 437) (by decide +kernel) rfl
theorem kz_c1 : Cond.code Lib.Math.min.name Lib.Math.min.code 2 (some .int) ∈ gw := kz_gw (i := 438) (by decide +kernel) rfl
theorem kz_m2 : Cond.static Lib.Math.abs.name ∈ gw := kz_gw (i := 536) (by decide +kernel) rfl
theorem kz_c2 : Cond.code Lib.Math.abs.name Lib.Math.abs.code 1 (some .int) ∈ gw := kz_gw (i := 537) (by decide +kernel) rfl
theorem kz_y0 : Cond.arrayClass .int ∈ gw := kz_gw (i := 103) (by decide +kernel) rfl
theorem kz_y1 : Cond.arrayClass .boolean ∈ gw := kz_gw (i := 244) (by decide +kernel) rfl
theorem kz_y2 : Cond.arrayClass .byte ∈ gw := kz_gw (i := 221) (by decide +kernel) rfl
theorem kz_over : Cond.arrayOver (.array .int) ∈ lw_tbl := kz_at_mem (i := 88) (by decide +kernel)
theorem kz_s0 : Cond.laysStatic "DeltaRoad" "MOST_OF_TRAIT" "[I" ∈ lw_tbl := kz_at_mem (i := 294) (by decide +kernel)
theorem kz_s1 : Cond.laysStatic "DeltaRoad" "COST_OF_KIND" "[I" ∈ lw_tbl := kz_at_mem (i := 328) (by decide +kernel)
theorem kz_s2 : Cond.laysStatic "DeltaRoad" "SOFTNESS_OF_KIND" "[I" ∈ lw_tbl := kz_at_mem (i := 337) (by decide +kernel)
theorem kz_s3 : Cond.laysStatic "DeltaRoad" "ORDERS" "[I" ∈ lw_tbl := kz_at_mem (i := 610) (by decide +kernel)
theorem kz_i9 : Cond.initialized "DeltaRoad" ∈ gw := kz_gw (i := 52) (by decide +kernel) rfl
