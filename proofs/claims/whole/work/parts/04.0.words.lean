theorem kc_a0 : ∀ e ∈ kc_u0, kc_P e := kc_zip _ [(89, 91, 55, 90, 0)] (by decide +kernel) (by decide +kernel)
theorem kc_a1 : ∀ e ∈ kc_u1, kc_P e := kc_zip _ [(668, 641, 52, 640, 0)] (by decide +kernel) (by decide +kernel)
theorem kc_a2 : ∀ e ∈ kc_u2, kc_P e := kc_zip _ [(551, 554, 65, 553, 16), (602, 604, 66, 603, 0), (608, 550, 65, 548, 549), (628, 631, 57, 629, 630), (632, 634, 65, 633, 0), (563, 322, 52, 321, 0), (555, 558, 65, 557, 17), (565, 568, 65, 567, 18), (559, 561, 65, 560, 0), (569, 572, 65, 571, 19), (573, 576, 65, 575, 20)] (by decide +kernel) (by decide +kernel)
theorem kc_a3 : ∀ e ∈ kc_u3, kc_P e := kc_zip _ [(783, 91, 55, 90, 0), (770, 292, 52, 291, 0)] (by decide +kernel) (by decide +kernel)
