/-! ===== a text: its objects; push, pop, join ===== -/
theorem txa {h : mH} (H : St h) {x : Int} (x0 : 0 ≤ x) (x1 : x < 6) : h 5 x = 40 + x := by
  rcases (show x = 0 ∨ x = 1 ∨ x = 2 ∨ x = 3 ∨ x = 4 ∨ x = 5 by omega) with rfl | rfl | rfl | rfl | rfl | rfl
  · exact st_5_0 H
  · exact st_5_1 H
  · exact st_5_2 H
  · exact st_5_3 H
  · exact st_5_4 H
  · exact st_5_5 H
theorem txb {h : mH} (H : St h) {x : Int} (x0 : 0 ≤ x) (x1 : x < 6) : h (40 + x) (-1) = 11 := by
  rcases (show x = 0 ∨ x = 1 ∨ x = 2 ∨ x = 3 ∨ x = 4 ∨ x = 5 by omega) with rfl | rfl | rfl | rfl | rfl | rfl
  · exact st_40_m1 H
  · exact st_41_m1 H
  · exact st_42_m1 H
  · exact st_43_m1 H
  · exact st_44_m1 H
  · exact st_45_m1 H
theorem txc {h : mH} (H : St h) {x : Int} (x0 : 0 ≤ x) (x1 : x < 6) : h (40 + x) 0 = 50 + x := by
  rcases (show x = 0 ∨ x = 1 ∨ x = 2 ∨ x = 3 ∨ x = 4 ∨ x = 5 by omega) with rfl | rfl | rfl | rfl | rfl | rfl
  · exact st_40_0 H
  · exact st_41_0 H
  · exact st_42_0 H
  · exact st_43_0 H
  · exact st_44_0 H
  · exact st_45_0 H
theorem txd {h : mH} (H : St h) {x : Int} (x0 : 0 ≤ x) (x1 : x < 6) : h (40 + x) 1 = 60 + x := by
  rcases (show x = 0 ∨ x = 1 ∨ x = 2 ∨ x = 3 ∨ x = 4 ∨ x = 5 by omega) with rfl | rfl | rfl | rfl | rfl | rfl
  · exact st_40_1 H
  · exact st_41_1 H
  · exact st_42_1 H
  · exact st_43_1 H
  · exact st_44_1 H
  · exact st_45_1 H
theorem txe {h : mH} (H : St h) {x : Int} (x0 : 0 ≤ x) (x1 : x < 6) : h (40 + x) 2 = 70 + x := by
  rcases (show x = 0 ∨ x = 1 ∨ x = 2 ∨ x = 3 ∨ x = 4 ∨ x = 5 by omega) with rfl | rfl | rfl | rfl | rfl | rfl
  · exact st_40_2 H
  · exact st_41_2 H
  · exact st_42_2 H
  · exact st_43_2 H
  · exact st_44_2 H
  · exact st_45_2 H
theorem txf {h : mH} (H : St h) {x : Int} (x0 : 0 ≤ x) (x1 : x < 6) : h (50 + x) (-1) = 20 := by
  rcases (show x = 0 ∨ x = 1 ∨ x = 2 ∨ x = 3 ∨ x = 4 ∨ x = 5 by omega) with rfl | rfl | rfl | rfl | rfl | rfl
  · exact st_50_m1 H
  · exact st_51_m1 H
  · exact st_52_m1 H
  · exact st_53_m1 H
  · exact st_54_m1 H
  · exact st_55_m1 H
theorem txg {h : mH} (H : St h) {x : Int} (x0 : 0 ≤ x) (x1 : x < 6) : h (50 + x) (-2) = 160 := by
  rcases (show x = 0 ∨ x = 1 ∨ x = 2 ∨ x = 3 ∨ x = 4 ∨ x = 5 by omega) with rfl | rfl | rfl | rfl | rfl | rfl
  · exact st_50_m2 H
  · exact st_51_m2 H
  · exact st_52_m2 H
  · exact st_53_m2 H
  · exact st_54_m2 H
  · exact st_55_m2 H
theorem txh {h : mH} (H : St h) {x : Int} (x0 : 0 ≤ x) (x1 : x < 6) : h (60 + x) (-1) = 20 := by
  rcases (show x = 0 ∨ x = 1 ∨ x = 2 ∨ x = 3 ∨ x = 4 ∨ x = 5 by omega) with rfl | rfl | rfl | rfl | rfl | rfl
  · exact st_60_m1 H
  · exact st_61_m1 H
  · exact st_62_m1 H
  · exact st_63_m1 H
  · exact st_64_m1 H
  · exact st_65_m1 H
theorem txi {h : mH} (H : St h) {x : Int} (x0 : 0 ≤ x) (x1 : x < 6) : h (60 + x) (-2) = 3 := by
  rcases (show x = 0 ∨ x = 1 ∨ x = 2 ∨ x = 3 ∨ x = 4 ∨ x = 5 by omega) with rfl | rfl | rfl | rfl | rfl | rfl
  · exact st_60_m2 H
  · exact st_61_m2 H
  · exact st_62_m2 H
  · exact st_63_m2 H
  · exact st_64_m2 H
  · exact st_65_m2 H
theorem txj {h : mH} (H : St h) {x : Int} (x0 : 0 ≤ x) (x1 : x < 6) : h (70 + x) (-1) = 20 := by
  rcases (show x = 0 ∨ x = 1 ∨ x = 2 ∨ x = 3 ∨ x = 4 ∨ x = 5 by omega) with rfl | rfl | rfl | rfl | rfl | rfl
  · exact st_70_m1 H
  · exact st_71_m1 H
  · exact st_72_m1 H
  · exact st_73_m1 H
  · exact st_74_m1 H
  · exact st_75_m1 H
theorem txk {h : mH} (H : St h) {x : Int} (x0 : 0 ≤ x) (x1 : x < 6) : h (70 + x) (-2) = 160 := by
  rcases (show x = 0 ∨ x = 1 ∨ x = 2 ∨ x = 3 ∨ x = 4 ∨ x = 5 by omega) with rfl | rfl | rfl | rfl | rfl | rfl
  · exact st_70_m2 H
  · exact st_71_m2 H
  · exact st_72_m2 H
  · exact st_73_m2 H
  · exact st_74_m2 H
  · exact st_75_m2 H
theorem s_X10_push {u : gT} {h : mH} {d b : Nat} {x : Int} (hS : St h) (x0 : 0 ≤ x) (x1 : x < 6) {v n : Int} (hn : h (40 + x) 4 = n) (n0 : 0 ≤ n) (n1 : n < 160) : Det (gX (gq u)) MX10_push d b [(2, 40 + x), (0, v)] h (9, 0) (up2 (up2 h (70 + x) n v) (40 + x) 4 (n + 1)) := by
  intro Q hQ
  show WP (gX (gq u)) MX10_push d b Q 0 [(2, 40 + x), (0, v)] [] h
  refine wp_aload_n rfl rfl dX10_push_0 ?_
  refine wp_getfield1 (z := 11) (kI := 4) fX10_29 dX10_push_1 (by first | omega | (simp (disch := omega) only [up2_ne, up2_eq, txa hS, txb hS, txc hS, txd hS, txe hS, txf hS, txg hS, txh hS, txi hS, txj hS, txk hS, hn]; first | done | omega)) (by first | assumption | (simp (disch := omega) only [up2_ne, up2_eq, txa hS, txb hS, txc hS, txd hS, txe hS, txf hS, txg hS, txh hS, txi hS, txj hS, txk hS, hn]; first | done | rfl | omega)) rfl rfl ?_
  try simp (disch := omega) only [up2_ne, up2_eq, txa hS, txb hS, txc hS, txd hS, txe hS, txf hS, txg hS, txh hS, txi hS, txj hS, txk hS, hn]
  refine wp_aload_n rfl rfl dX10_push_4 ?_
  refine wp_getfield1 (z := 11) (kI := 2) fX10_18 dX10_push_5 (by first | omega | (simp (disch := omega) only [up2_ne, up2_eq, txa hS, txb hS, txc hS, txd hS, txe hS, txf hS, txg hS, txh hS, txi hS, txj hS, txk hS, hn]; first | done | omega)) (by first | assumption | (simp (disch := omega) only [up2_ne, up2_eq, txa hS, txb hS, txc hS, txd hS, txe hS, txf hS, txg hS, txh hS, txi hS, txj hS, txk hS, hn]; first | done | rfl | omega)) rfl rfl ?_
  try simp (disch := omega) only [up2_ne, up2_eq, txa hS, txb hS, txc hS, txd hS, txe hS, txf hS, txg hS, txh hS, txi hS, txj hS, txk hS, hn]
  refine wp_alen1 dX10_push_8 (by first | omega | (simp (disch := omega) only [up2_ne, up2_eq, txa hS, txb hS, txc hS, txd hS, txe hS, txf hS, txg hS, txh hS, txi hS, txj hS, txk hS, hn]; first | done | omega)) (by first | omega | (simp (disch := omega) only [up2_ne, up2_eq, txa hS, txb hS, txc hS, txd hS, txe hS, txf hS, txg hS, txh hS, txi hS, txj hS, txk hS, hn]; first | done | omega)) ?_
  try simp (disch := omega) only [up2_ne, up2_eq, txa hS, txb hS, txc hS, txd hS, txe hS, txf hS, txg hS, txh hS, txi hS, txj hS, txk hS, hn]
  refine wp_icmp_ge (tgt := 32) (by first | assumption | exact bI_in _ | exact ⟨by omega, by omega⟩ | exact iAnd_in | exact iOr_in | exact iShr_in | exact iShl_in | exact iXor_in | exact hxs _) (by first | assumption | exact bI_in _ | exact ⟨by omega, by omega⟩ | exact iAnd_in | exact iOr_in | exact iShr_in | exact iShl_in | exact iXor_in | exact hxs _) dX10_push_9 (by decide) (fun c1 => ?_) (fun c1 => ?_)
  · refine wp_vret dX10_push_32 rfl ?_
    first | exact hQ | (exfalso; omega)
  · refine wp_aload_n rfl rfl dX10_push_12 ?_
    refine wp_getfield1 (z := 11) (kI := 2) fX10_18 dX10_push_13 (by first | omega | (simp (disch := omega) only [up2_ne, up2_eq, txa hS, txb hS, txc hS, txd hS, txe hS, txf hS, txg hS, txh hS, txi hS, txj hS, txk hS, hn]; first | done | omega)) (by first | assumption | (simp (disch := omega) only [up2_ne, up2_eq, txa hS, txb hS, txc hS, txd hS, txe hS, txf hS, txg hS, txh hS, txi hS, txj hS, txk hS, hn]; first | done | rfl | omega)) rfl rfl ?_
    try simp (disch := omega) only [up2_ne, up2_eq, txa hS, txb hS, txc hS, txd hS, txe hS, txf hS, txg hS, txh hS, txi hS, txj hS, txk hS, hn]
    refine wp_aload_n rfl rfl dX10_push_16 ?_
    refine wp_getfield1 (z := 11) (kI := 4) fX10_29 dX10_push_17 (by first | omega | (simp (disch := omega) only [up2_ne, up2_eq, txa hS, txb hS, txc hS, txd hS, txe hS, txf hS, txg hS, txh hS, txi hS, txj hS, txk hS, hn]; first | done | omega)) (by first | assumption | (simp (disch := omega) only [up2_ne, up2_eq, txa hS, txb hS, txc hS, txd hS, txe hS, txf hS, txg hS, txh hS, txi hS, txj hS, txk hS, hn]; first | done | rfl | omega)) rfl rfl ?_
    try simp (disch := omega) only [up2_ne, up2_eq, txa hS, txb hS, txc hS, txd hS, txe hS, txf hS, txg hS, txh hS, txi hS, txj hS, txk hS, hn]
    refine wp_iload_n rfl rfl dX10_push_20 ?_
    refine wp_iastore1 dX10_push_21 (by first | omega | (simp (disch := omega) only [up2_ne, up2_eq, txa hS, txb hS, txc hS, txd hS, txe hS, txf hS, txg hS, txh hS, txi hS, txj hS, txk hS, hn]; first | done | omega)) (by first | assumption | (simp (disch := omega) only [up2_ne, up2_eq, txa hS, txb hS, txc hS, txd hS, txe hS, txf hS, txg hS, txh hS, txi hS, txj hS, txk hS, hn]; first | done | rfl | omega)) (by first | omega | (simp (disch := omega) only [up2_ne, up2_eq, txa hS, txb hS, txc hS, txd hS, txe hS, txf hS, txg hS, txh hS, txi hS, txj hS, txk hS, hn]; first | done | omega)) (by first | omega | (simp (disch := omega) only [up2_ne, up2_eq, txa hS, txb hS, txc hS, txd hS, txe hS, txf hS, txg hS, txh hS, txi hS, txj hS, txk hS, hn]; first | done | omega)) ?_
    refine wp_aload_n rfl rfl dX10_push_22 ?_
    refine wp_dup (by decide) dX10_push_23 ?_
    refine wp_getfield1 (z := 11) (kI := 4) fX10_29 dX10_push_24 (by first | omega | (simp (disch := omega) only [up2_ne, up2_eq, txa hS, txb hS, txc hS, txd hS, txe hS, txf hS, txg hS, txh hS, txi hS, txj hS, txk hS, hn]; first | done | omega)) (by first | assumption | (simp (disch := omega) only [up2_ne, up2_eq, txa hS, txb hS, txc hS, txd hS, txe hS, txf hS, txg hS, txh hS, txi hS, txj hS, txk hS, hn]; first | done | rfl | omega)) rfl rfl ?_
    try simp (disch := omega) only [up2_ne, up2_eq, txa hS, txb hS, txc hS, txd hS, txe hS, txf hS, txg hS, txh hS, txi hS, txj hS, txk hS, hn]
    refine wp_iconst dX10_push_27 ?_
    refine wp_iadd dX10_push_28 ?_
    refine wp_putfield1 (z := 11) (kI := 4) fX10_29 dX10_push_29 (by first | omega | (simp (disch := omega) only [up2_ne, up2_eq, txa hS, txb hS, txc hS, txd hS, txe hS, txf hS, txg hS, txh hS, txi hS, txj hS, txk hS, hn]; first | done | omega)) (by first | assumption | (simp (disch := omega) only [up2_ne, up2_eq, txa hS, txb hS, txc hS, txd hS, txe hS, txf hS, txg hS, txh hS, txi hS, txj hS, txk hS, hn]; first | done | rfl | omega)) rfl rfl ?_
    refine wp_vret dX10_push_32 rfl ?_
    first | exact hQ | (exfalso; omega)
theorem s_X10_pop {u : gT} {h : mH} {d b : Nat} {x : Int} (hS : St h) (x0 : 0 ≤ x) (x1 : x < 6) {n : Int} (hn : h (40 + x) 4 = n) (n0 : 1 ≤ n) (n1 : n ≤ 160) : Det (gX (gq u)) MX10_pop d b [(2, 40 + x)] h (0, h (70 + x) (n - 1)) (up2 h (40 + x) 4 (n - 1)) := by
  intro Q hQ
  show WP (gX (gq u)) MX10_pop d b Q 0 [(2, 40 + x)] [] h
  refine wp_aload_n rfl rfl dX10_pop_0 ?_
  refine wp_getfield1 (z := 11) (kI := 4) fX10_29 dX10_pop_1 (by first | omega | (simp (disch := omega) only [up2_ne, up2_eq, txa hS, txb hS, txc hS, txd hS, txe hS, txf hS, txg hS, txh hS, txi hS, txj hS, txk hS, hn]; first | done | omega)) (by first | assumption | (simp (disch := omega) only [up2_ne, up2_eq, txa hS, txb hS, txc hS, txd hS, txe hS, txf hS, txg hS, txh hS, txi hS, txj hS, txk hS, hn]; first | done | rfl | omega)) rfl rfl ?_
  try simp (disch := omega) only [up2_ne, up2_eq, txa hS, txb hS, txc hS, txd hS, txe hS, txf hS, txg hS, txh hS, txi hS, txj hS, txk hS, hn]
  refine wp_iconst dX10_pop_4 ?_
  refine wp_icmp_ge (tgt := 10) (by first | assumption | exact bI_in _ | exact ⟨by omega, by omega⟩ | exact iAnd_in | exact iOr_in | exact iShr_in | exact iShl_in | exact iXor_in | exact hxs _) (by first | assumption | exact bI_in _ | exact ⟨by omega, by omega⟩ | exact iAnd_in | exact iOr_in | exact iShr_in | exact iShl_in | exact iXor_in | exact hxs _) dX10_pop_5 (by decide) (fun c1 => ?_) (fun c1 => ?_)
  · refine wp_aload_n rfl rfl dX10_pop_10 ?_
    refine wp_dup (by decide) dX10_pop_11 ?_
    refine wp_getfield1 (z := 11) (kI := 4) fX10_29 dX10_pop_12 (by first | omega | (simp (disch := omega) only [up2_ne, up2_eq, txa hS, txb hS, txc hS, txd hS, txe hS, txf hS, txg hS, txh hS, txi hS, txj hS, txk hS, hn]; first | done | omega)) (by first | assumption | (simp (disch := omega) only [up2_ne, up2_eq, txa hS, txb hS, txc hS, txd hS, txe hS, txf hS, txg hS, txh hS, txi hS, txj hS, txk hS, hn]; first | done | rfl | omega)) rfl rfl ?_
    try simp (disch := omega) only [up2_ne, up2_eq, txa hS, txb hS, txc hS, txd hS, txe hS, txf hS, txg hS, txh hS, txi hS, txj hS, txk hS, hn]
    refine wp_iconst dX10_pop_15 ?_
    refine wp_isub dX10_pop_16 ?_
    refine wp_putfield1 (z := 11) (kI := 4) fX10_29 dX10_pop_17 (by first | omega | (simp (disch := omega) only [up2_ne, up2_eq, txa hS, txb hS, txc hS, txd hS, txe hS, txf hS, txg hS, txh hS, txi hS, txj hS, txk hS, hn]; first | done | omega)) (by first | assumption | (simp (disch := omega) only [up2_ne, up2_eq, txa hS, txb hS, txc hS, txd hS, txe hS, txf hS, txg hS, txh hS, txi hS, txj hS, txk hS, hn]; first | done | rfl | omega)) rfl rfl ?_
    refine wp_aload_n rfl rfl dX10_pop_20 ?_
    refine wp_getfield1 (z := 11) (kI := 2) fX10_18 dX10_pop_21 (by first | omega | (simp (disch := omega) only [up2_ne, up2_eq, txa hS, txb hS, txc hS, txd hS, txe hS, txf hS, txg hS, txh hS, txi hS, txj hS, txk hS, hn]; first | done | omega)) (by first | assumption | (simp (disch := omega) only [up2_ne, up2_eq, txa hS, txb hS, txc hS, txd hS, txe hS, txf hS, txg hS, txh hS, txi hS, txj hS, txk hS, hn]; first | done | rfl | omega)) rfl rfl ?_
    try simp (disch := omega) only [up2_ne, up2_eq, txa hS, txb hS, txc hS, txd hS, txe hS, txf hS, txg hS, txh hS, txi hS, txj hS, txk hS, hn]
    refine wp_aload_n rfl rfl dX10_pop_24 ?_
    refine wp_getfield1 (z := 11) (kI := 4) fX10_29 dX10_pop_25 (by first | omega | (simp (disch := omega) only [up2_ne, up2_eq, txa hS, txb hS, txc hS, txd hS, txe hS, txf hS, txg hS, txh hS, txi hS, txj hS, txk hS, hn]; first | done | omega)) (by first | assumption | (simp (disch := omega) only [up2_ne, up2_eq, txa hS, txb hS, txc hS, txd hS, txe hS, txf hS, txg hS, txh hS, txi hS, txj hS, txk hS, hn]; first | done | rfl | omega)) rfl rfl ?_
    try simp (disch := omega) only [up2_ne, up2_eq, txa hS, txb hS, txc hS, txd hS, txe hS, txf hS, txg hS, txh hS, txi hS, txj hS, txk hS, hn]
    refine wp_iaload1 dX10_pop_28 (by first | omega | (simp (disch := omega) only [up2_ne, up2_eq, txa hS, txb hS, txc hS, txd hS, txe hS, txf hS, txg hS, txh hS, txi hS, txj hS, txk hS, hn]; first | done | omega)) (by first | assumption | (simp (disch := omega) only [up2_ne, up2_eq, txa hS, txb hS, txc hS, txd hS, txe hS, txf hS, txg hS, txh hS, txi hS, txj hS, txk hS, hn]; first | done | rfl | omega)) (by first | omega | (simp (disch := omega) only [up2_ne, up2_eq, txa hS, txb hS, txc hS, txd hS, txe hS, txf hS, txg hS, txh hS, txi hS, txj hS, txk hS, hn]; first | done | omega)) (by first | omega | (simp (disch := omega) only [up2_ne, up2_eq, txa hS, txb hS, txc hS, txd hS, txe hS, txf hS, txg hS, txh hS, txi hS, txj hS, txk hS, hn]; first | done | omega)) ?_
    try simp (disch := omega) only [up2_ne, up2_eq, txa hS, txb hS, txc hS, txd hS, txe hS, txf hS, txg hS, txh hS, txi hS, txj hS, txk hS, hn]
    refine wp_iret dX10_pop_29 rfl ?_
    first | exact hQ | (exfalso; omega)
  · refine wp_iconst dX10_pop_8 ?_
    refine wp_iret dX10_pop_9 rfl ?_
    first | exact hQ | (exfalso; omega)
