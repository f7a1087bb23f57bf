/-! ===== the beginning: the first text ===== -/
theorem x9i_30 {u : gT} {h : mH} {d : Nat}  (hz : h (30) (-1) = 10) (z0 : h (31) (-1) = 0) (z1 : h (32) (-1) = 0) (z2 : h (33) (-1) = 0) (z3 : h (34) (-1) = 0) : Det (gX (gq u)) MX9_init (d + 1) 647 [(2, 30)] h (9, 0) (hl (gX (gq u)) [(false, 30, 4, 34), (true, 34, 20, 161), (false, 30, 3, 33), (true, 33, 20, 161), (false, 30, 2, 32), (true, 32, 20, 161), (false, 30, 0, 31), (true, 31, 21, 160)] h) := by
  intro Q hQ
  show WP (gX (gq u)) MX9_init (d + 1) 647 Q 0 [(2, 30)] [] h
  refine wp_aload_n rfl rfl dX9_init_0 ?_
  refine wp_objInit wX9_3.1 wX9_3.2.1 wX9_3.2.2 dX9_init_1 (by first | omega | (simp (disch := omega) only [up2_ne, up2_eq, nw_ne, nw_m1, nw_m2, nw_i, nw_q, hl_nil, hl_cf, hl_ct, hz, z0, z1, z2, z3]; first | done | omega)) (by decide) ?_
  refine wp_aload_n rfl rfl dX9_init_4 ?_
  refine wp_sipush (by decide) dX9_init_5 ?_
  refine wp_newarray (a := (31)) (code := 21) (b' := 486) dX9_init_8 rfl ac_byte rfl (by decide) (by omega) (by first | assumption | (simp (disch := omega) only [up2_ne, up2_eq, nw_ne, nw_m1, nw_m2, nw_i, nw_q, hl_nil, hl_cf, hl_ct, hz, z0, z1, z2, z3]; first | done | rfl | omega)) (by decide) (Nat.le_of_ble_eq_true rfl) ?_
  refine wp_putfinal1 (z := 10) (kI := 0) fX9_9 rfl (fun _ q => by cases q; rfl) dX9_init_10 (by first | omega | (simp (disch := omega) only [up2_ne, up2_eq, nw_ne, nw_m1, nw_m2, nw_i, nw_q, hl_nil, hl_cf, hl_ct, hz, z0, z1, z2, z3]; first | done | omega)) (by first | assumption | (simp (disch := omega) only [up2_ne, up2_eq, nw_ne, nw_m1, nw_m2, nw_i, nw_q, hl_nil, hl_cf, hl_ct, hz, z0, z1, z2, z3]; first | done | rfl | omega)) rfl rfl ?_
  refine wp_aload_n rfl rfl dX9_init_13 ?_
  refine wp_sipush (by decide) dX9_init_14 ?_
  refine wp_newarray (a := (32)) (code := 20) (b' := 324) dX9_init_17 rfl ac_int rfl (by decide) (by omega) (by first | assumption | (simp (disch := omega) only [up2_ne, up2_eq, nw_ne, nw_m1, nw_m2, nw_i, nw_q, hl_nil, hl_cf, hl_ct, hz, z0, z1, z2, z3]; first | done | rfl | omega)) (by decide) (Nat.le_of_ble_eq_true rfl) ?_
  refine wp_putfinal1 (z := 10) (kI := 2) fX9_15 rfl (fun _ q => by cases q; rfl) dX9_init_19 (by first | omega | (simp (disch := omega) only [up2_ne, up2_eq, nw_ne, nw_m1, nw_m2, nw_i, nw_q, hl_nil, hl_cf, hl_ct, hz, z0, z1, z2, z3]; first | done | omega)) (by first | assumption | (simp (disch := omega) only [up2_ne, up2_eq, nw_ne, nw_m1, nw_m2, nw_i, nw_q, hl_nil, hl_cf, hl_ct, hz, z0, z1, z2, z3]; first | done | rfl | omega)) rfl rfl ?_
  refine wp_aload_n rfl rfl dX9_init_22 ?_
  refine wp_sipush (by decide) dX9_init_23 ?_
  refine wp_newarray (a := (33)) (code := 20) (b' := 162) dX9_init_26 rfl ac_int rfl (by decide) (by omega) (by first | assumption | (simp (disch := omega) only [up2_ne, up2_eq, nw_ne, nw_m1, nw_m2, nw_i, nw_q, hl_nil, hl_cf, hl_ct, hz, z0, z1, z2, z3]; first | done | rfl | omega)) (by decide) (Nat.le_of_ble_eq_true rfl) ?_
  refine wp_putfinal1 (z := 10) (kI := 3) fX9_19 rfl (fun _ q => by cases q; rfl) dX9_init_28 (by first | omega | (simp (disch := omega) only [up2_ne, up2_eq, nw_ne, nw_m1, nw_m2, nw_i, nw_q, hl_nil, hl_cf, hl_ct, hz, z0, z1, z2, z3]; first | done | omega)) (by first | assumption | (simp (disch := omega) only [up2_ne, up2_eq, nw_ne, nw_m1, nw_m2, nw_i, nw_q, hl_nil, hl_cf, hl_ct, hz, z0, z1, z2, z3]; first | done | rfl | omega)) rfl rfl ?_
  refine wp_aload_n rfl rfl dX9_init_31 ?_
  refine wp_sipush (by decide) dX9_init_32 ?_
  refine wp_newarray (a := (34)) (code := 20) (b' := 0) dX9_init_35 rfl ac_int rfl (by decide) (by omega) (by first | assumption | (simp (disch := omega) only [up2_ne, up2_eq, nw_ne, nw_m1, nw_m2, nw_i, nw_q, hl_nil, hl_cf, hl_ct, hz, z0, z1, z2, z3]; first | done | rfl | omega)) (by decide) (Nat.le_of_ble_eq_true rfl) ?_
  refine wp_putfinal1 (z := 10) (kI := 4) fX9_22 rfl (fun _ q => by cases q; rfl) dX9_init_37 (by first | omega | (simp (disch := omega) only [up2_ne, up2_eq, nw_ne, nw_m1, nw_m2, nw_i, nw_q, hl_nil, hl_cf, hl_ct, hz, z0, z1, z2, z3]; first | done | omega)) (by first | assumption | (simp (disch := omega) only [up2_ne, up2_eq, nw_ne, nw_m1, nw_m2, nw_i, nw_q, hl_nil, hl_cf, hl_ct, hz, z0, z1, z2, z3]; first | done | rfl | omega)) rfl rfl ?_
  refine wp_vret dX9_init_40 rfl ?_
  exact hQ
theorem x9i_7 {u : gT} {h : mH} {d : Nat}  (hz : h (7) (-1) = 10) (z0 : h (13) (-1) = 0) (z1 : h (14) (-1) = 0) (z2 : h (15) (-1) = 0) (z3 : h (16) (-1) = 0) : Det (gX (gq u)) MX9_init (d + 1) 647 [(2, 7)] h (9, 0) (hl (gX (gq u)) [(false, 7, 4, 16), (true, 16, 20, 161), (false, 7, 3, 15), (true, 15, 20, 161), (false, 7, 2, 14), (true, 14, 20, 161), (false, 7, 0, 13), (true, 13, 21, 160)] h) := by
  intro Q hQ
  show WP (gX (gq u)) MX9_init (d + 1) 647 Q 0 [(2, 7)] [] h
  refine wp_aload_n rfl rfl dX9_init_0 ?_
  refine wp_objInit wX9_3.1 wX9_3.2.1 wX9_3.2.2 dX9_init_1 (by first | omega | (simp (disch := omega) only [up2_ne, up2_eq, nw_ne, nw_m1, nw_m2, nw_i, nw_q, hl_nil, hl_cf, hl_ct, hz, z0, z1, z2, z3, st_7_m1 hS]; first | done | omega)) (by decide) ?_
  refine wp_aload_n rfl rfl dX9_init_4 ?_
  refine wp_sipush (by decide) dX9_init_5 ?_
  refine wp_newarray (a := (13)) (code := 21) (b' := 486) dX9_init_8 rfl ac_byte rfl (by decide) (by omega) (by first | assumption | (simp (disch := omega) only [up2_ne, up2_eq, nw_ne, nw_m1, nw_m2, nw_i, nw_q, hl_nil, hl_cf, hl_ct, hz, z0, z1, z2, z3, st_7_m1 hS]; first | done | rfl | omega)) (by decide) (Nat.le_of_ble_eq_true rfl) ?_
  refine wp_putfinal1 (z := 10) (kI := 0) fX9_9 rfl (fun _ q => by cases q; rfl) dX9_init_10 (by first | omega | (simp (disch := omega) only [up2_ne, up2_eq, nw_ne, nw_m1, nw_m2, nw_i, nw_q, hl_nil, hl_cf, hl_ct, hz, z0, z1, z2, z3, st_7_m1 hS]; first | done | omega)) (by first | assumption | (simp (disch := omega) only [up2_ne, up2_eq, nw_ne, nw_m1, nw_m2, nw_i, nw_q, hl_nil, hl_cf, hl_ct, hz, z0, z1, z2, z3, st_7_m1 hS]; first | done | rfl | omega)) rfl rfl ?_
  refine wp_aload_n rfl rfl dX9_init_13 ?_
  refine wp_sipush (by decide) dX9_init_14 ?_
  refine wp_newarray (a := (14)) (code := 20) (b' := 324) dX9_init_17 rfl ac_int rfl (by decide) (by omega) (by first | assumption | (simp (disch := omega) only [up2_ne, up2_eq, nw_ne, nw_m1, nw_m2, nw_i, nw_q, hl_nil, hl_cf, hl_ct, hz, z0, z1, z2, z3, st_7_m1 hS]; first | done | rfl | omega)) (by decide) (Nat.le_of_ble_eq_true rfl) ?_
  refine wp_putfinal1 (z := 10) (kI := 2) fX9_15 rfl (fun _ q => by cases q; rfl) dX9_init_19 (by first | omega | (simp (disch := omega) only [up2_ne, up2_eq, nw_ne, nw_m1, nw_m2, nw_i, nw_q, hl_nil, hl_cf, hl_ct, hz, z0, z1, z2, z3, st_7_m1 hS]; first | done | omega)) (by first | assumption | (simp (disch := omega) only [up2_ne, up2_eq, nw_ne, nw_m1, nw_m2, nw_i, nw_q, hl_nil, hl_cf, hl_ct, hz, z0, z1, z2, z3, st_7_m1 hS]; first | done | rfl | omega)) rfl rfl ?_
  refine wp_aload_n rfl rfl dX9_init_22 ?_
  refine wp_sipush (by decide) dX9_init_23 ?_
  refine wp_newarray (a := (15)) (code := 20) (b' := 162) dX9_init_26 rfl ac_int rfl (by decide) (by omega) (by first | assumption | (simp (disch := omega) only [up2_ne, up2_eq, nw_ne, nw_m1, nw_m2, nw_i, nw_q, hl_nil, hl_cf, hl_ct, hz, z0, z1, z2, z3, st_7_m1 hS]; first | done | rfl | omega)) (by decide) (Nat.le_of_ble_eq_true rfl) ?_
  refine wp_putfinal1 (z := 10) (kI := 3) fX9_19 rfl (fun _ q => by cases q; rfl) dX9_init_28 (by first | omega | (simp (disch := omega) only [up2_ne, up2_eq, nw_ne, nw_m1, nw_m2, nw_i, nw_q, hl_nil, hl_cf, hl_ct, hz, z0, z1, z2, z3, st_7_m1 hS]; first | done | omega)) (by first | assumption | (simp (disch := omega) only [up2_ne, up2_eq, nw_ne, nw_m1, nw_m2, nw_i, nw_q, hl_nil, hl_cf, hl_ct, hz, z0, z1, z2, z3, st_7_m1 hS]; first | done | rfl | omega)) rfl rfl ?_
  refine wp_aload_n rfl rfl dX9_init_31 ?_
  refine wp_sipush (by decide) dX9_init_32 ?_
  refine wp_newarray (a := (16)) (code := 20) (b' := 0) dX9_init_35 rfl ac_int rfl (by decide) (by omega) (by first | assumption | (simp (disch := omega) only [up2_ne, up2_eq, nw_ne, nw_m1, nw_m2, nw_i, nw_q, hl_nil, hl_cf, hl_ct, hz, z0, z1, z2, z3, st_7_m1 hS]; first | done | rfl | omega)) (by decide) (Nat.le_of_ble_eq_true rfl) ?_
  refine wp_putfinal1 (z := 10) (kI := 4) fX9_22 rfl (fun _ q => by cases q; rfl) dX9_init_37 (by first | omega | (simp (disch := omega) only [up2_ne, up2_eq, nw_ne, nw_m1, nw_m2, nw_i, nw_q, hl_nil, hl_cf, hl_ct, hz, z0, z1, z2, z3, st_7_m1 hS]; first | done | omega)) (by first | assumption | (simp (disch := omega) only [up2_ne, up2_eq, nw_ne, nw_m1, nw_m2, nw_i, nw_q, hl_nil, hl_cf, hl_ct, hz, z0, z1, z2, z3, st_7_m1 hS]; first | done | rfl | omega)) rfl rfl ?_
  refine wp_vret dX9_init_40 rfl ?_
  exact hQ
theorem x10i_0 {u : gT} {h : mH} {d : Nat}  (hz : h (40) (-1) = 11) (z0 : h (50) (-1) = 0) (z1 : h (60) (-1) = 0) (z2 : h (70) (-1) = 0) : Det (gX (gq u)) MX10_init (d + 1) 326 [(2, 40)] h (9, 0) (hl (gX (gq u)) [(false, 40, 2, 70), (true, 70, 20, 160), (false, 40, 1, 60), (true, 60, 20, 3), (false, 40, 0, 50), (true, 50, 20, 160)] h) := by
  intro Q hQ
  show WP (gX (gq u)) MX10_init (d + 1) 326 Q 0 [(2, 40)] [] h
  refine wp_aload_n rfl rfl dX10_init_0 ?_
  refine wp_objInit wX10_3.1 wX10_3.2.1 wX10_3.2.2 dX10_init_1 (by first | omega | (simp (disch := omega) only [up2_ne, up2_eq, nw_ne, nw_m1, nw_m2, nw_i, nw_q, hl_nil, hl_cf, hl_ct, hz, z0, z1, z2, st_40_m1 hS]; first | done | omega)) (by decide) ?_
  refine wp_aload_n rfl rfl dX10_init_4 ?_
  refine wp_sipush (by decide) dX10_init_5 ?_
  refine wp_newarray (a := (50)) (code := 20) (b' := 165) dX10_init_8 rfl ac_int rfl (by decide) (by omega) (by first | assumption | (simp (disch := omega) only [up2_ne, up2_eq, nw_ne, nw_m1, nw_m2, nw_i, nw_q, hl_nil, hl_cf, hl_ct, hz, z0, z1, z2, st_40_m1 hS]; first | done | rfl | omega)) (by decide) (Nat.le_of_ble_eq_true rfl) ?_
  refine wp_putfinal1 (z := 11) (kI := 0) fX10_9 rfl (fun _ q => by cases q; rfl) dX10_init_10 (by first | omega | (simp (disch := omega) only [up2_ne, up2_eq, nw_ne, nw_m1, nw_m2, nw_i, nw_q, hl_nil, hl_cf, hl_ct, hz, z0, z1, z2, st_40_m1 hS]; first | done | omega)) (by first | assumption | (simp (disch := omega) only [up2_ne, up2_eq, nw_ne, nw_m1, nw_m2, nw_i, nw_q, hl_nil, hl_cf, hl_ct, hz, z0, z1, z2, st_40_m1 hS]; first | done | rfl | omega)) rfl rfl ?_
  refine wp_aload_n rfl rfl dX10_init_13 ?_
  refine wp_iconst dX10_init_14 ?_
  refine wp_newarray (a := (60)) (code := 20) (b' := 161) dX10_init_15 rfl ac_int rfl (by decide) (by omega) (by first | assumption | (simp (disch := omega) only [up2_ne, up2_eq, nw_ne, nw_m1, nw_m2, nw_i, nw_q, hl_nil, hl_cf, hl_ct, hz, z0, z1, z2, st_40_m1 hS]; first | done | rfl | omega)) (by decide) (Nat.le_of_ble_eq_true rfl) ?_
  refine wp_putfinal1 (z := 11) (kI := 1) fX10_15 rfl (fun _ q => by cases q; rfl) dX10_init_17 (by first | omega | (simp (disch := omega) only [up2_ne, up2_eq, nw_ne, nw_m1, nw_m2, nw_i, nw_q, hl_nil, hl_cf, hl_ct, hz, z0, z1, z2, st_40_m1 hS]; first | done | omega)) (by first | assumption | (simp (disch := omega) only [up2_ne, up2_eq, nw_ne, nw_m1, nw_m2, nw_i, nw_q, hl_nil, hl_cf, hl_ct, hz, z0, z1, z2, st_40_m1 hS]; first | done | rfl | omega)) rfl rfl ?_
  refine wp_aload_n rfl rfl dX10_init_20 ?_
  refine wp_sipush (by decide) dX10_init_21 ?_
  refine wp_newarray (a := (70)) (code := 20) (b' := 0) dX10_init_24 rfl ac_int rfl (by decide) (by omega) (by first | assumption | (simp (disch := omega) only [up2_ne, up2_eq, nw_ne, nw_m1, nw_m2, nw_i, nw_q, hl_nil, hl_cf, hl_ct, hz, z0, z1, z2, st_40_m1 hS]; first | done | rfl | omega)) (by decide) (Nat.le_of_ble_eq_true rfl) ?_
  refine wp_putfinal1 (z := 11) (kI := 2) fX10_18 rfl (fun _ q => by cases q; rfl) dX10_init_26 (by first | omega | (simp (disch := omega) only [up2_ne, up2_eq, nw_ne, nw_m1, nw_m2, nw_i, nw_q, hl_nil, hl_cf, hl_ct, hz, z0, z1, z2, st_40_m1 hS]; first | done | omega)) (by first | assumption | (simp (disch := omega) only [up2_ne, up2_eq, nw_ne, nw_m1, nw_m2, nw_i, nw_q, hl_nil, hl_cf, hl_ct, hz, z0, z1, z2, st_40_m1 hS]; first | done | rfl | omega)) rfl rfl ?_
  refine wp_vret dX10_init_29 rfl ?_
  exact hQ
theorem x10i_1 {u : gT} {h : mH} {d : Nat}  (hz : h (41) (-1) = 11) (z0 : h (51) (-1) = 0) (z1 : h (61) (-1) = 0) (z2 : h (71) (-1) = 0) : Det (gX (gq u)) MX10_init (d + 1) 326 [(2, 41)] h (9, 0) (hl (gX (gq u)) [(false, 41, 2, 71), (true, 71, 20, 160), (false, 41, 1, 61), (true, 61, 20, 3), (false, 41, 0, 51), (true, 51, 20, 160)] h) := by
  intro Q hQ
  show WP (gX (gq u)) MX10_init (d + 1) 326 Q 0 [(2, 41)] [] h
  refine wp_aload_n rfl rfl dX10_init_0 ?_
  refine wp_objInit wX10_3.1 wX10_3.2.1 wX10_3.2.2 dX10_init_1 (by first | omega | (simp (disch := omega) only [up2_ne, up2_eq, nw_ne, nw_m1, nw_m2, nw_i, nw_q, hl_nil, hl_cf, hl_ct, hz, z0, z1, z2, st_41_m1 hS]; first | done | omega)) (by decide) ?_
  refine wp_aload_n rfl rfl dX10_init_4 ?_
  refine wp_sipush (by decide) dX10_init_5 ?_
  refine wp_newarray (a := (51)) (code := 20) (b' := 165) dX10_init_8 rfl ac_int rfl (by decide) (by omega) (by first | assumption | (simp (disch := omega) only [up2_ne, up2_eq, nw_ne, nw_m1, nw_m2, nw_i, nw_q, hl_nil, hl_cf, hl_ct, hz, z0, z1, z2, st_41_m1 hS]; first | done | rfl | omega)) (by decide) (Nat.le_of_ble_eq_true rfl) ?_
  refine wp_putfinal1 (z := 11) (kI := 0) fX10_9 rfl (fun _ q => by cases q; rfl) dX10_init_10 (by first | omega | (simp (disch := omega) only [up2_ne, up2_eq, nw_ne, nw_m1, nw_m2, nw_i, nw_q, hl_nil, hl_cf, hl_ct, hz, z0, z1, z2, st_41_m1 hS]; first | done | omega)) (by first | assumption | (simp (disch := omega) only [up2_ne, up2_eq, nw_ne, nw_m1, nw_m2, nw_i, nw_q, hl_nil, hl_cf, hl_ct, hz, z0, z1, z2, st_41_m1 hS]; first | done | rfl | omega)) rfl rfl ?_
  refine wp_aload_n rfl rfl dX10_init_13 ?_
  refine wp_iconst dX10_init_14 ?_
  refine wp_newarray (a := (61)) (code := 20) (b' := 161) dX10_init_15 rfl ac_int rfl (by decide) (by omega) (by first | assumption | (simp (disch := omega) only [up2_ne, up2_eq, nw_ne, nw_m1, nw_m2, nw_i, nw_q, hl_nil, hl_cf, hl_ct, hz, z0, z1, z2, st_41_m1 hS]; first | done | rfl | omega)) (by decide) (Nat.le_of_ble_eq_true rfl) ?_
  refine wp_putfinal1 (z := 11) (kI := 1) fX10_15 rfl (fun _ q => by cases q; rfl) dX10_init_17 (by first | omega | (simp (disch := omega) only [up2_ne, up2_eq, nw_ne, nw_m1, nw_m2, nw_i, nw_q, hl_nil, hl_cf, hl_ct, hz, z0, z1, z2, st_41_m1 hS]; first | done | omega)) (by first | assumption | (simp (disch := omega) only [up2_ne, up2_eq, nw_ne, nw_m1, nw_m2, nw_i, nw_q, hl_nil, hl_cf, hl_ct, hz, z0, z1, z2, st_41_m1 hS]; first | done | rfl | omega)) rfl rfl ?_
  refine wp_aload_n rfl rfl dX10_init_20 ?_
  refine wp_sipush (by decide) dX10_init_21 ?_
  refine wp_newarray (a := (71)) (code := 20) (b' := 0) dX10_init_24 rfl ac_int rfl (by decide) (by omega) (by first | assumption | (simp (disch := omega) only [up2_ne, up2_eq, nw_ne, nw_m1, nw_m2, nw_i, nw_q, hl_nil, hl_cf, hl_ct, hz, z0, z1, z2, st_41_m1 hS]; first | done | rfl | omega)) (by decide) (Nat.le_of_ble_eq_true rfl) ?_
  refine wp_putfinal1 (z := 11) (kI := 2) fX10_18 rfl (fun _ q => by cases q; rfl) dX10_init_26 (by first | omega | (simp (disch := omega) only [up2_ne, up2_eq, nw_ne, nw_m1, nw_m2, nw_i, nw_q, hl_nil, hl_cf, hl_ct, hz, z0, z1, z2, st_41_m1 hS]; first | done | omega)) (by first | assumption | (simp (disch := omega) only [up2_ne, up2_eq, nw_ne, nw_m1, nw_m2, nw_i, nw_q, hl_nil, hl_cf, hl_ct, hz, z0, z1, z2, st_41_m1 hS]; first | done | rfl | omega)) rfl rfl ?_
  refine wp_vret dX10_init_29 rfl ?_
  exact hQ
theorem x10i_2 {u : gT} {h : mH} {d : Nat}  (hz : h (42) (-1) = 11) (z0 : h (52) (-1) = 0) (z1 : h (62) (-1) = 0) (z2 : h (72) (-1) = 0) : Det (gX (gq u)) MX10_init (d + 1) 326 [(2, 42)] h (9, 0) (hl (gX (gq u)) [(false, 42, 2, 72), (true, 72, 20, 160), (false, 42, 1, 62), (true, 62, 20, 3), (false, 42, 0, 52), (true, 52, 20, 160)] h) := by
  intro Q hQ
  show WP (gX (gq u)) MX10_init (d + 1) 326 Q 0 [(2, 42)] [] h
  refine wp_aload_n rfl rfl dX10_init_0 ?_
  refine wp_objInit wX10_3.1 wX10_3.2.1 wX10_3.2.2 dX10_init_1 (by first | omega | (simp (disch := omega) only [up2_ne, up2_eq, nw_ne, nw_m1, nw_m2, nw_i, nw_q, hl_nil, hl_cf, hl_ct, hz, z0, z1, z2, st_42_m1 hS]; first | done | omega)) (by decide) ?_
  refine wp_aload_n rfl rfl dX10_init_4 ?_
  refine wp_sipush (by decide) dX10_init_5 ?_
  refine wp_newarray (a := (52)) (code := 20) (b' := 165) dX10_init_8 rfl ac_int rfl (by decide) (by omega) (by first | assumption | (simp (disch := omega) only [up2_ne, up2_eq, nw_ne, nw_m1, nw_m2, nw_i, nw_q, hl_nil, hl_cf, hl_ct, hz, z0, z1, z2, st_42_m1 hS]; first | done | rfl | omega)) (by decide) (Nat.le_of_ble_eq_true rfl) ?_
  refine wp_putfinal1 (z := 11) (kI := 0) fX10_9 rfl (fun _ q => by cases q; rfl) dX10_init_10 (by first | omega | (simp (disch := omega) only [up2_ne, up2_eq, nw_ne, nw_m1, nw_m2, nw_i, nw_q, hl_nil, hl_cf, hl_ct, hz, z0, z1, z2, st_42_m1 hS]; first | done | omega)) (by first | assumption | (simp (disch := omega) only [up2_ne, up2_eq, nw_ne, nw_m1, nw_m2, nw_i, nw_q, hl_nil, hl_cf, hl_ct, hz, z0, z1, z2, st_42_m1 hS]; first | done | rfl | omega)) rfl rfl ?_
  refine wp_aload_n rfl rfl dX10_init_13 ?_
  refine wp_iconst dX10_init_14 ?_
  refine wp_newarray (a := (62)) (code := 20) (b' := 161) dX10_init_15 rfl ac_int rfl (by decide) (by omega) (by first | assumption | (simp (disch := omega) only [up2_ne, up2_eq, nw_ne, nw_m1, nw_m2, nw_i, nw_q, hl_nil, hl_cf, hl_ct, hz, z0, z1, z2, st_42_m1 hS]; first | done | rfl | omega)) (by decide) (Nat.le_of_ble_eq_true rfl) ?_
  refine wp_putfinal1 (z := 11) (kI := 1) fX10_15 rfl (fun _ q => by cases q; rfl) dX10_init_17 (by first | omega | (simp (disch := omega) only [up2_ne, up2_eq, nw_ne, nw_m1, nw_m2, nw_i, nw_q, hl_nil, hl_cf, hl_ct, hz, z0, z1, z2, st_42_m1 hS]; first | done | omega)) (by first | assumption | (simp (disch := omega) only [up2_ne, up2_eq, nw_ne, nw_m1, nw_m2, nw_i, nw_q, hl_nil, hl_cf, hl_ct, hz, z0, z1, z2, st_42_m1 hS]; first | done | rfl | omega)) rfl rfl ?_
  refine wp_aload_n rfl rfl dX10_init_20 ?_
  refine wp_sipush (by decide) dX10_init_21 ?_
  refine wp_newarray (a := (72)) (code := 20) (b' := 0) dX10_init_24 rfl ac_int rfl (by decide) (by omega) (by first | assumption | (simp (disch := omega) only [up2_ne, up2_eq, nw_ne, nw_m1, nw_m2, nw_i, nw_q, hl_nil, hl_cf, hl_ct, hz, z0, z1, z2, st_42_m1 hS]; first | done | rfl | omega)) (by decide) (Nat.le_of_ble_eq_true rfl) ?_
  refine wp_putfinal1 (z := 11) (kI := 2) fX10_18 rfl (fun _ q => by cases q; rfl) dX10_init_26 (by first | omega | (simp (disch := omega) only [up2_ne, up2_eq, nw_ne, nw_m1, nw_m2, nw_i, nw_q, hl_nil, hl_cf, hl_ct, hz, z0, z1, z2, st_42_m1 hS]; first | done | omega)) (by first | assumption | (simp (disch := omega) only [up2_ne, up2_eq, nw_ne, nw_m1, nw_m2, nw_i, nw_q, hl_nil, hl_cf, hl_ct, hz, z0, z1, z2, st_42_m1 hS]; first | done | rfl | omega)) rfl rfl ?_
  refine wp_vret dX10_init_29 rfl ?_
  exact hQ
theorem x10i_3 {u : gT} {h : mH} {d : Nat}  (hz : h (43) (-1) = 11) (z0 : h (53) (-1) = 0) (z1 : h (63) (-1) = 0) (z2 : h (73) (-1) = 0) : Det (gX (gq u)) MX10_init (d + 1) 326 [(2, 43)] h (9, 0) (hl (gX (gq u)) [(false, 43, 2, 73), (true, 73, 20, 160), (false, 43, 1, 63), (true, 63, 20, 3), (false, 43, 0, 53), (true, 53, 20, 160)] h) := by
  intro Q hQ
  show WP (gX (gq u)) MX10_init (d + 1) 326 Q 0 [(2, 43)] [] h
  refine wp_aload_n rfl rfl dX10_init_0 ?_
  refine wp_objInit wX10_3.1 wX10_3.2.1 wX10_3.2.2 dX10_init_1 (by first | omega | (simp (disch := omega) only [up2_ne, up2_eq, nw_ne, nw_m1, nw_m2, nw_i, nw_q, hl_nil, hl_cf, hl_ct, hz, z0, z1, z2, st_43_m1 hS]; first | done | omega)) (by decide) ?_
  refine wp_aload_n rfl rfl dX10_init_4 ?_
  refine wp_sipush (by decide) dX10_init_5 ?_
  refine wp_newarray (a := (53)) (code := 20) (b' := 165) dX10_init_8 rfl ac_int rfl (by decide) (by omega) (by first | assumption | (simp (disch := omega) only [up2_ne, up2_eq, nw_ne, nw_m1, nw_m2, nw_i, nw_q, hl_nil, hl_cf, hl_ct, hz, z0, z1, z2, st_43_m1 hS]; first | done | rfl | omega)) (by decide) (Nat.le_of_ble_eq_true rfl) ?_
  refine wp_putfinal1 (z := 11) (kI := 0) fX10_9 rfl (fun _ q => by cases q; rfl) dX10_init_10 (by first | omega | (simp (disch := omega) only [up2_ne, up2_eq, nw_ne, nw_m1, nw_m2, nw_i, nw_q, hl_nil, hl_cf, hl_ct, hz, z0, z1, z2, st_43_m1 hS]; first | done | omega)) (by first | assumption | (simp (disch := omega) only [up2_ne, up2_eq, nw_ne, nw_m1, nw_m2, nw_i, nw_q, hl_nil, hl_cf, hl_ct, hz, z0, z1, z2, st_43_m1 hS]; first | done | rfl | omega)) rfl rfl ?_
  refine wp_aload_n rfl rfl dX10_init_13 ?_
  refine wp_iconst dX10_init_14 ?_
  refine wp_newarray (a := (63)) (code := 20) (b' := 161) dX10_init_15 rfl ac_int rfl (by decide) (by omega) (by first | assumption | (simp (disch := omega) only [up2_ne, up2_eq, nw_ne, nw_m1, nw_m2, nw_i, nw_q, hl_nil, hl_cf, hl_ct, hz, z0, z1, z2, st_43_m1 hS]; first | done | rfl | omega)) (by decide) (Nat.le_of_ble_eq_true rfl) ?_
  refine wp_putfinal1 (z := 11) (kI := 1) fX10_15 rfl (fun _ q => by cases q; rfl) dX10_init_17 (by first | omega | (simp (disch := omega) only [up2_ne, up2_eq, nw_ne, nw_m1, nw_m2, nw_i, nw_q, hl_nil, hl_cf, hl_ct, hz, z0, z1, z2, st_43_m1 hS]; first | done | omega)) (by first | assumption | (simp (disch := omega) only [up2_ne, up2_eq, nw_ne, nw_m1, nw_m2, nw_i, nw_q, hl_nil, hl_cf, hl_ct, hz, z0, z1, z2, st_43_m1 hS]; first | done | rfl | omega)) rfl rfl ?_
  refine wp_aload_n rfl rfl dX10_init_20 ?_
  refine wp_sipush (by decide) dX10_init_21 ?_
  refine wp_newarray (a := (73)) (code := 20) (b' := 0) dX10_init_24 rfl ac_int rfl (by decide) (by omega) (by first | assumption | (simp (disch := omega) only [up2_ne, up2_eq, nw_ne, nw_m1, nw_m2, nw_i, nw_q, hl_nil, hl_cf, hl_ct, hz, z0, z1, z2, st_43_m1 hS]; first | done | rfl | omega)) (by decide) (Nat.le_of_ble_eq_true rfl) ?_
  refine wp_putfinal1 (z := 11) (kI := 2) fX10_18 rfl (fun _ q => by cases q; rfl) dX10_init_26 (by first | omega | (simp (disch := omega) only [up2_ne, up2_eq, nw_ne, nw_m1, nw_m2, nw_i, nw_q, hl_nil, hl_cf, hl_ct, hz, z0, z1, z2, st_43_m1 hS]; first | done | omega)) (by first | assumption | (simp (disch := omega) only [up2_ne, up2_eq, nw_ne, nw_m1, nw_m2, nw_i, nw_q, hl_nil, hl_cf, hl_ct, hz, z0, z1, z2, st_43_m1 hS]; first | done | rfl | omega)) rfl rfl ?_
  refine wp_vret dX10_init_29 rfl ?_
  exact hQ
theorem x10i_4 {u : gT} {h : mH} {d : Nat}  (hz : h (44) (-1) = 11) (z0 : h (54) (-1) = 0) (z1 : h (64) (-1) = 0) (z2 : h (74) (-1) = 0) : Det (gX (gq u)) MX10_init (d + 1) 326 [(2, 44)] h (9, 0) (hl (gX (gq u)) [(false, 44, 2, 74), (true, 74, 20, 160), (false, 44, 1, 64), (true, 64, 20, 3), (false, 44, 0, 54), (true, 54, 20, 160)] h) := by
  intro Q hQ
  show WP (gX (gq u)) MX10_init (d + 1) 326 Q 0 [(2, 44)] [] h
  refine wp_aload_n rfl rfl dX10_init_0 ?_
  refine wp_objInit wX10_3.1 wX10_3.2.1 wX10_3.2.2 dX10_init_1 (by first | omega | (simp (disch := omega) only [up2_ne, up2_eq, nw_ne, nw_m1, nw_m2, nw_i, nw_q, hl_nil, hl_cf, hl_ct, hz, z0, z1, z2, st_44_m1 hS]; first | done | omega)) (by decide) ?_
  refine wp_aload_n rfl rfl dX10_init_4 ?_
  refine wp_sipush (by decide) dX10_init_5 ?_
  refine wp_newarray (a := (54)) (code := 20) (b' := 165) dX10_init_8 rfl ac_int rfl (by decide) (by omega) (by first | assumption | (simp (disch := omega) only [up2_ne, up2_eq, nw_ne, nw_m1, nw_m2, nw_i, nw_q, hl_nil, hl_cf, hl_ct, hz, z0, z1, z2, st_44_m1 hS]; first | done | rfl | omega)) (by decide) (Nat.le_of_ble_eq_true rfl) ?_
  refine wp_putfinal1 (z := 11) (kI := 0) fX10_9 rfl (fun _ q => by cases q; rfl) dX10_init_10 (by first | omega | (simp (disch := omega) only [up2_ne, up2_eq, nw_ne, nw_m1, nw_m2, nw_i, nw_q, hl_nil, hl_cf, hl_ct, hz, z0, z1, z2, st_44_m1 hS]; first | done | omega)) (by first | assumption | (simp (disch := omega) only [up2_ne, up2_eq, nw_ne, nw_m1, nw_m2, nw_i, nw_q, hl_nil, hl_cf, hl_ct, hz, z0, z1, z2, st_44_m1 hS]; first | done | rfl | omega)) rfl rfl ?_
  refine wp_aload_n rfl rfl dX10_init_13 ?_
  refine wp_iconst dX10_init_14 ?_
  refine wp_newarray (a := (64)) (code := 20) (b' := 161) dX10_init_15 rfl ac_int rfl (by decide) (by omega) (by first | assumption | (simp (disch := omega) only [up2_ne, up2_eq, nw_ne, nw_m1, nw_m2, nw_i, nw_q, hl_nil, hl_cf, hl_ct, hz, z0, z1, z2, st_44_m1 hS]; first | done | rfl | omega)) (by decide) (Nat.le_of_ble_eq_true rfl) ?_
  refine wp_putfinal1 (z := 11) (kI := 1) fX10_15 rfl (fun _ q => by cases q; rfl) dX10_init_17 (by first | omega | (simp (disch := omega) only [up2_ne, up2_eq, nw_ne, nw_m1, nw_m2, nw_i, nw_q, hl_nil, hl_cf, hl_ct, hz, z0, z1, z2, st_44_m1 hS]; first | done | omega)) (by first | assumption | (simp (disch := omega) only [up2_ne, up2_eq, nw_ne, nw_m1, nw_m2, nw_i, nw_q, hl_nil, hl_cf, hl_ct, hz, z0, z1, z2, st_44_m1 hS]; first | done | rfl | omega)) rfl rfl ?_
  refine wp_aload_n rfl rfl dX10_init_20 ?_
  refine wp_sipush (by decide) dX10_init_21 ?_
  refine wp_newarray (a := (74)) (code := 20) (b' := 0) dX10_init_24 rfl ac_int rfl (by decide) (by omega) (by first | assumption | (simp (disch := omega) only [up2_ne, up2_eq, nw_ne, nw_m1, nw_m2, nw_i, nw_q, hl_nil, hl_cf, hl_ct, hz, z0, z1, z2, st_44_m1 hS]; first | done | rfl | omega)) (by decide) (Nat.le_of_ble_eq_true rfl) ?_
  refine wp_putfinal1 (z := 11) (kI := 2) fX10_18 rfl (fun _ q => by cases q; rfl) dX10_init_26 (by first | omega | (simp (disch := omega) only [up2_ne, up2_eq, nw_ne, nw_m1, nw_m2, nw_i, nw_q, hl_nil, hl_cf, hl_ct, hz, z0, z1, z2, st_44_m1 hS]; first | done | omega)) (by first | assumption | (simp (disch := omega) only [up2_ne, up2_eq, nw_ne, nw_m1, nw_m2, nw_i, nw_q, hl_nil, hl_cf, hl_ct, hz, z0, z1, z2, st_44_m1 hS]; first | done | rfl | omega)) rfl rfl ?_
  refine wp_vret dX10_init_29 rfl ?_
  exact hQ
theorem x10i_5 {u : gT} {h : mH} {d : Nat}  (hz : h (45) (-1) = 11) (z0 : h (55) (-1) = 0) (z1 : h (65) (-1) = 0) (z2 : h (75) (-1) = 0) : Det (gX (gq u)) MX10_init (d + 1) 326 [(2, 45)] h (9, 0) (hl (gX (gq u)) [(false, 45, 2, 75), (true, 75, 20, 160), (false, 45, 1, 65), (true, 65, 20, 3), (false, 45, 0, 55), (true, 55, 20, 160)] h) := by
  intro Q hQ
  show WP (gX (gq u)) MX10_init (d + 1) 326 Q 0 [(2, 45)] [] h
  refine wp_aload_n rfl rfl dX10_init_0 ?_
  refine wp_objInit wX10_3.1 wX10_3.2.1 wX10_3.2.2 dX10_init_1 (by first | omega | (simp (disch := omega) only [up2_ne, up2_eq, nw_ne, nw_m1, nw_m2, nw_i, nw_q, hl_nil, hl_cf, hl_ct, hz, z0, z1, z2, st_45_m1 hS]; first | done | omega)) (by decide) ?_
  refine wp_aload_n rfl rfl dX10_init_4 ?_
  refine wp_sipush (by decide) dX10_init_5 ?_
  refine wp_newarray (a := (55)) (code := 20) (b' := 165) dX10_init_8 rfl ac_int rfl (by decide) (by omega) (by first | assumption | (simp (disch := omega) only [up2_ne, up2_eq, nw_ne, nw_m1, nw_m2, nw_i, nw_q, hl_nil, hl_cf, hl_ct, hz, z0, z1, z2, st_45_m1 hS]; first | done | rfl | omega)) (by decide) (Nat.le_of_ble_eq_true rfl) ?_
  refine wp_putfinal1 (z := 11) (kI := 0) fX10_9 rfl (fun _ q => by cases q; rfl) dX10_init_10 (by first | omega | (simp (disch := omega) only [up2_ne, up2_eq, nw_ne, nw_m1, nw_m2, nw_i, nw_q, hl_nil, hl_cf, hl_ct, hz, z0, z1, z2, st_45_m1 hS]; first | done | omega)) (by first | assumption | (simp (disch := omega) only [up2_ne, up2_eq, nw_ne, nw_m1, nw_m2, nw_i, nw_q, hl_nil, hl_cf, hl_ct, hz, z0, z1, z2, st_45_m1 hS]; first | done | rfl | omega)) rfl rfl ?_
  refine wp_aload_n rfl rfl dX10_init_13 ?_
  refine wp_iconst dX10_init_14 ?_
  refine wp_newarray (a := (65)) (code := 20) (b' := 161) dX10_init_15 rfl ac_int rfl (by decide) (by omega) (by first | assumption | (simp (disch := omega) only [up2_ne, up2_eq, nw_ne, nw_m1, nw_m2, nw_i, nw_q, hl_nil, hl_cf, hl_ct, hz, z0, z1, z2, st_45_m1 hS]; first | done | rfl | omega)) (by decide) (Nat.le_of_ble_eq_true rfl) ?_
  refine wp_putfinal1 (z := 11) (kI := 1) fX10_15 rfl (fun _ q => by cases q; rfl) dX10_init_17 (by first | omega | (simp (disch := omega) only [up2_ne, up2_eq, nw_ne, nw_m1, nw_m2, nw_i, nw_q, hl_nil, hl_cf, hl_ct, hz, z0, z1, z2, st_45_m1 hS]; first | done | omega)) (by first | assumption | (simp (disch := omega) only [up2_ne, up2_eq, nw_ne, nw_m1, nw_m2, nw_i, nw_q, hl_nil, hl_cf, hl_ct, hz, z0, z1, z2, st_45_m1 hS]; first | done | rfl | omega)) rfl rfl ?_
  refine wp_aload_n rfl rfl dX10_init_20 ?_
  refine wp_sipush (by decide) dX10_init_21 ?_
  refine wp_newarray (a := (75)) (code := 20) (b' := 0) dX10_init_24 rfl ac_int rfl (by decide) (by omega) (by first | assumption | (simp (disch := omega) only [up2_ne, up2_eq, nw_ne, nw_m1, nw_m2, nw_i, nw_q, hl_nil, hl_cf, hl_ct, hz, z0, z1, z2, st_45_m1 hS]; first | done | rfl | omega)) (by decide) (Nat.le_of_ble_eq_true rfl) ?_
  refine wp_putfinal1 (z := 11) (kI := 2) fX10_18 rfl (fun _ q => by cases q; rfl) dX10_init_26 (by first | omega | (simp (disch := omega) only [up2_ne, up2_eq, nw_ne, nw_m1, nw_m2, nw_i, nw_q, hl_nil, hl_cf, hl_ct, hz, z0, z1, z2, st_45_m1 hS]; first | done | omega)) (by first | assumption | (simp (disch := omega) only [up2_ne, up2_eq, nw_ne, nw_m1, nw_m2, nw_i, nw_q, hl_nil, hl_cf, hl_ct, hz, z0, z1, z2, st_45_m1 hS]; first | done | rfl | omega)) rfl rfl ?_
  refine wp_vret dX10_init_29 rfl ?_
  exact hQ
theorem x8i_0 {u : gT} {h : mH} {d : Nat}  (hz : h (80) (-1) = 9) (z0 : h (90) (-1) = 0) : Det (gX (gq u)) MX8_init (d + 1) 41 [(2, 80)] h (9, 0) (hl (gX (gq u)) [(false, 80, 2, -1), (false, 80, 0, 90), (true, 90, 20, 40)] h) := by
  intro Q hQ
  show WP (gX (gq u)) MX8_init (d + 1) 41 Q 0 [(2, 80)] [] h
  refine wp_aload_n rfl rfl dX8_init_0 ?_
  refine wp_objInit wX8_3.1 wX8_3.2.1 wX8_3.2.2 dX8_init_1 (by first | omega | (simp (disch := omega) only [up2_ne, up2_eq, nw_ne, nw_m1, nw_m2, nw_i, nw_q, hl_nil, hl_cf, hl_ct, hz, z0, st_80_m1 hS]; first | done | omega)) (by decide) ?_
  refine wp_aload_n rfl rfl dX8_init_4 ?_
  refine wp_bipush (by decide) dX8_init_5 ?_
  refine wp_newarray (a := (90)) (code := 20) (b' := 0) dX8_init_7 rfl ac_int rfl (by decide) (by omega) (by first | assumption | (simp (disch := omega) only [up2_ne, up2_eq, nw_ne, nw_m1, nw_m2, nw_i, nw_q, hl_nil, hl_cf, hl_ct, hz, z0, st_80_m1 hS]; first | done | rfl | omega)) (by decide) (Nat.le_of_ble_eq_true rfl) ?_
  refine wp_putfinal1 (z := 9) (kI := 0) fX8_9 rfl (fun _ q => by cases q; rfl) dX8_init_9 (by first | omega | (simp (disch := omega) only [up2_ne, up2_eq, nw_ne, nw_m1, nw_m2, nw_i, nw_q, hl_nil, hl_cf, hl_ct, hz, z0, st_80_m1 hS]; first | done | omega)) (by first | assumption | (simp (disch := omega) only [up2_ne, up2_eq, nw_ne, nw_m1, nw_m2, nw_i, nw_q, hl_nil, hl_cf, hl_ct, hz, z0, st_80_m1 hS]; first | done | rfl | omega)) rfl rfl ?_
  refine wp_aload_n rfl rfl dX8_init_12 ?_
  refine wp_iconst dX8_init_13 ?_
  refine wp_putfield1 (z := 9) (kI := 2) fX8_15 dX8_init_14 (by first | omega | (simp (disch := omega) only [up2_ne, up2_eq, nw_ne, nw_m1, nw_m2, nw_i, nw_q, hl_nil, hl_cf, hl_ct, hz, z0, st_80_m1 hS]; first | done | omega)) (by first | assumption | (simp (disch := omega) only [up2_ne, up2_eq, nw_ne, nw_m1, nw_m2, nw_i, nw_q, hl_nil, hl_cf, hl_ct, hz, z0, st_80_m1 hS]; first | done | rfl | omega)) rfl rfl ?_
  refine wp_vret dX8_init_17 rfl ?_
  exact hQ
theorem x8i_1 {u : gT} {h : mH} {d : Nat}  (hz : h (81) (-1) = 9) (z0 : h (91) (-1) = 0) : Det (gX (gq u)) MX8_init (d + 1) 41 [(2, 81)] h (9, 0) (hl (gX (gq u)) [(false, 81, 2, -1), (false, 81, 0, 91), (true, 91, 20, 40)] h) := by
  intro Q hQ
  show WP (gX (gq u)) MX8_init (d + 1) 41 Q 0 [(2, 81)] [] h
  refine wp_aload_n rfl rfl dX8_init_0 ?_
  refine wp_objInit wX8_3.1 wX8_3.2.1 wX8_3.2.2 dX8_init_1 (by first | omega | (simp (disch := omega) only [up2_ne, up2_eq, nw_ne, nw_m1, nw_m2, nw_i, nw_q, hl_nil, hl_cf, hl_ct, hz, z0, st_81_m1 hS]; first | done | omega)) (by decide) ?_
  refine wp_aload_n rfl rfl dX8_init_4 ?_
  refine wp_bipush (by decide) dX8_init_5 ?_
  refine wp_newarray (a := (91)) (code := 20) (b' := 0) dX8_init_7 rfl ac_int rfl (by decide) (by omega) (by first | assumption | (simp (disch := omega) only [up2_ne, up2_eq, nw_ne, nw_m1, nw_m2, nw_i, nw_q, hl_nil, hl_cf, hl_ct, hz, z0, st_81_m1 hS]; first | done | rfl | omega)) (by decide) (Nat.le_of_ble_eq_true rfl) ?_
  refine wp_putfinal1 (z := 9) (kI := 0) fX8_9 rfl (fun _ q => by cases q; rfl) dX8_init_9 (by first | omega | (simp (disch := omega) only [up2_ne, up2_eq, nw_ne, nw_m1, nw_m2, nw_i, nw_q, hl_nil, hl_cf, hl_ct, hz, z0, st_81_m1 hS]; first | done | omega)) (by first | assumption | (simp (disch := omega) only [up2_ne, up2_eq, nw_ne, nw_m1, nw_m2, nw_i, nw_q, hl_nil, hl_cf, hl_ct, hz, z0, st_81_m1 hS]; first | done | rfl | omega)) rfl rfl ?_
  refine wp_aload_n rfl rfl dX8_init_12 ?_
  refine wp_iconst dX8_init_13 ?_
  refine wp_putfield1 (z := 9) (kI := 2) fX8_15 dX8_init_14 (by first | omega | (simp (disch := omega) only [up2_ne, up2_eq, nw_ne, nw_m1, nw_m2, nw_i, nw_q, hl_nil, hl_cf, hl_ct, hz, z0, st_81_m1 hS]; first | done | omega)) (by first | assumption | (simp (disch := omega) only [up2_ne, up2_eq, nw_ne, nw_m1, nw_m2, nw_i, nw_q, hl_nil, hl_cf, hl_ct, hz, z0, st_81_m1 hS]; first | done | rfl | omega)) rfl rfl ?_
  refine wp_vret dX8_init_17 rfl ?_
  exact hQ
theorem x8i_2 {u : gT} {h : mH} {d : Nat}  (hz : h (82) (-1) = 9) (z0 : h (92) (-1) = 0) : Det (gX (gq u)) MX8_init (d + 1) 41 [(2, 82)] h (9, 0) (hl (gX (gq u)) [(false, 82, 2, -1), (false, 82, 0, 92), (true, 92, 20, 40)] h) := by
  intro Q hQ
  show WP (gX (gq u)) MX8_init (d + 1) 41 Q 0 [(2, 82)] [] h
  refine wp_aload_n rfl rfl dX8_init_0 ?_
  refine wp_objInit wX8_3.1 wX8_3.2.1 wX8_3.2.2 dX8_init_1 (by first | omega | (simp (disch := omega) only [up2_ne, up2_eq, nw_ne, nw_m1, nw_m2, nw_i, nw_q, hl_nil, hl_cf, hl_ct, hz, z0, st_82_m1 hS]; first | done | omega)) (by decide) ?_
  refine wp_aload_n rfl rfl dX8_init_4 ?_
  refine wp_bipush (by decide) dX8_init_5 ?_
  refine wp_newarray (a := (92)) (code := 20) (b' := 0) dX8_init_7 rfl ac_int rfl (by decide) (by omega) (by first | assumption | (simp (disch := omega) only [up2_ne, up2_eq, nw_ne, nw_m1, nw_m2, nw_i, nw_q, hl_nil, hl_cf, hl_ct, hz, z0, st_82_m1 hS]; first | done | rfl | omega)) (by decide) (Nat.le_of_ble_eq_true rfl) ?_
  refine wp_putfinal1 (z := 9) (kI := 0) fX8_9 rfl (fun _ q => by cases q; rfl) dX8_init_9 (by first | omega | (simp (disch := omega) only [up2_ne, up2_eq, nw_ne, nw_m1, nw_m2, nw_i, nw_q, hl_nil, hl_cf, hl_ct, hz, z0, st_82_m1 hS]; first | done | omega)) (by first | assumption | (simp (disch := omega) only [up2_ne, up2_eq, nw_ne, nw_m1, nw_m2, nw_i, nw_q, hl_nil, hl_cf, hl_ct, hz, z0, st_82_m1 hS]; first | done | rfl | omega)) rfl rfl ?_
  refine wp_aload_n rfl rfl dX8_init_12 ?_
  refine wp_iconst dX8_init_13 ?_
  refine wp_putfield1 (z := 9) (kI := 2) fX8_15 dX8_init_14 (by first | omega | (simp (disch := omega) only [up2_ne, up2_eq, nw_ne, nw_m1, nw_m2, nw_i, nw_q, hl_nil, hl_cf, hl_ct, hz, z0, st_82_m1 hS]; first | done | omega)) (by first | assumption | (simp (disch := omega) only [up2_ne, up2_eq, nw_ne, nw_m1, nw_m2, nw_i, nw_q, hl_nil, hl_cf, hl_ct, hz, z0, st_82_m1 hS]; first | done | rfl | omega)) rfl rfl ?_
  refine wp_vret dX8_init_17 rfl ?_
  exact hQ
theorem x8i_3 {u : gT} {h : mH} {d : Nat}  (hz : h (83) (-1) = 9) (z0 : h (93) (-1) = 0) : Det (gX (gq u)) MX8_init (d + 1) 41 [(2, 83)] h (9, 0) (hl (gX (gq u)) [(false, 83, 2, -1), (false, 83, 0, 93), (true, 93, 20, 40)] h) := by
  intro Q hQ
  show WP (gX (gq u)) MX8_init (d + 1) 41 Q 0 [(2, 83)] [] h
  refine wp_aload_n rfl rfl dX8_init_0 ?_
  refine wp_objInit wX8_3.1 wX8_3.2.1 wX8_3.2.2 dX8_init_1 (by first | omega | (simp (disch := omega) only [up2_ne, up2_eq, nw_ne, nw_m1, nw_m2, nw_i, nw_q, hl_nil, hl_cf, hl_ct, hz, z0, st_83_m1 hS]; first | done | omega)) (by decide) ?_
  refine wp_aload_n rfl rfl dX8_init_4 ?_
  refine wp_bipush (by decide) dX8_init_5 ?_
  refine wp_newarray (a := (93)) (code := 20) (b' := 0) dX8_init_7 rfl ac_int rfl (by decide) (by omega) (by first | assumption | (simp (disch := omega) only [up2_ne, up2_eq, nw_ne, nw_m1, nw_m2, nw_i, nw_q, hl_nil, hl_cf, hl_ct, hz, z0, st_83_m1 hS]; first | done | rfl | omega)) (by decide) (Nat.le_of_ble_eq_true rfl) ?_
  refine wp_putfinal1 (z := 9) (kI := 0) fX8_9 rfl (fun _ q => by cases q; rfl) dX8_init_9 (by first | omega | (simp (disch := omega) only [up2_ne, up2_eq, nw_ne, nw_m1, nw_m2, nw_i, nw_q, hl_nil, hl_cf, hl_ct, hz, z0, st_83_m1 hS]; first | done | omega)) (by first | assumption | (simp (disch := omega) only [up2_ne, up2_eq, nw_ne, nw_m1, nw_m2, nw_i, nw_q, hl_nil, hl_cf, hl_ct, hz, z0, st_83_m1 hS]; first | done | rfl | omega)) rfl rfl ?_
  refine wp_aload_n rfl rfl dX8_init_12 ?_
  refine wp_iconst dX8_init_13 ?_
  refine wp_putfield1 (z := 9) (kI := 2) fX8_15 dX8_init_14 (by first | omega | (simp (disch := omega) only [up2_ne, up2_eq, nw_ne, nw_m1, nw_m2, nw_i, nw_q, hl_nil, hl_cf, hl_ct, hz, z0, st_83_m1 hS]; first | done | omega)) (by first | assumption | (simp (disch := omega) only [up2_ne, up2_eq, nw_ne, nw_m1, nw_m2, nw_i, nw_q, hl_nil, hl_cf, hl_ct, hz, z0, st_83_m1 hS]; first | done | rfl | omega)) rfl rfl ?_
  refine wp_vret dX8_init_17 rfl ?_
  exact hQ
theorem Tp30 {h : mH} (e0 : h 30 (-1) = 10) (e1 : h 30 0 = 31) (e2 : h 30 2 = 32) (e3 : h 30 3 = 33) (e4 : h 30 4 = 34) (e5 : h 31 (-1) = 21) (e6 : h 31 (-2) = 160) (e7 : h 32 (-1) = 20) (e8 : h 32 (-2) = 161) (e9 : h 33 (-1) = 20) (e10 : h 33 (-2) = 161) (e11 : h 34 (-1) = 20) (e12 : h 34 (-2) = 161) : Tp h 30 31 := ⟨e0, e1, e2, e3, e4, e5, e6, e7, e8, e9, e10, e11, e12⟩
theorem Tx0 {h : mH} (e0 : h 40 (-1) = 11) (e1 : h 40 0 = 50) (e2 : h 40 1 = 60) (e3 : h 50 (-1) = 20) (e4 : h 50 (-2) = 160) (e5 : h 60 (-1) = 20) (e6 : h 60 (-2) = 3) : Tx h 0 := ⟨e0, e1, e2, e3, e4, e5, e6⟩
abbrev regF (x : Int) : Prop := (30 ≤ x ∧ x ≤ 35) ∨ x = 40 ∨ x = 50 ∨ x = 60 ∨ x = 70
theorem Tp_H2 {u : gT} {h : mH} : Tp (up2 (nwh (gX (gq u)) (up2 (nwh (gX (gq u)) (up2 (nwh (gX (gq u)) (up2 (nwh (gX (gq u)) (nwh (gX (gq u)) h 30 10 0) 31 21 160) 30 0 31) 32 20 161) 30 2 32) 33 20 161) 30 3 33) 34 20 161) 30 4 34) 30 31 ∧ (up2 (nwh (gX (gq u)) (up2 (nwh (gX (gq u)) (up2 (nwh (gX (gq u)) (up2 (nwh (gX (gq u)) (nwh (gX (gq u)) h 30 10 0) 31 21 160) 30 0 31) 32 20 161) 30 2 32) 33 20 161) 30 3 33) 34 20 161) 30 4 34) 30 1 = 0 := by
  refine ⟨Tp30 ?_ ?_ ?_ ?_ ?_ ?_ ?_ ?_ ?_ ?_ ?_ ?_ ?_, ?_⟩ <;> simp (disch := omega) only [up2_ne, up2_eq, nw_ne, nw_m1, nw_m2, hfs_ne, nf_10_1]
set_option maxHeartbeats 1000000 in
theorem H6_f {u : gT} {h : mH} : tF (nwh (gX (gq u)) (up2 (nwh (gX (gq u)) (up2 (nwh (gX (gq u)) (up2 (nwh (gX (gq u)) (nwh (gX (gq u)) (up2 (hfs (up2 (nwh (gX (gq u)) (up2 (nwh (gX (gq u)) (up2 (nwh (gX (gq u)) (up2 (nwh (gX (gq u)) (nwh (gX (gq u)) h 30 10 0) 31 21 160) 30 0 31) 32 20 161) 30 2 32) 33 20 161) 30 3 33) 34 20 161) 30 4 34) 31 0 47 fS0) 30 1 47) 40 11 0) 50 20 160) 40 0 50) 60 20 3) 40 1 60) 70 20 160) 40 2 70) 35 6 0) 30 31 47 fS ∧ (nwh (gX (gq u)) (up2 (nwh (gX (gq u)) (up2 (nwh (gX (gq u)) (up2 (nwh (gX (gq u)) (nwh (gX (gq u)) (up2 (hfs (up2 (nwh (gX (gq u)) (up2 (nwh (gX (gq u)) (up2 (nwh (gX (gq u)) (up2 (nwh (gX (gq u)) (nwh (gX (gq u)) h 30 10 0) 31 21 160) 30 0 31) 32 20 161) 30 2 32) 33 20 161) 30 3 33) 34 20 161) 30 4 34) 31 0 47 fS0) 30 1 47) 40 11 0) 50 20 160) 40 0 50) 60 20 3) 40 1 60) 70 20 160) 40 2 70) 35 6 0) 35 (-1) = 6 ∧ Tx (nwh (gX (gq u)) (up2 (nwh (gX (gq u)) (up2 (nwh (gX (gq u)) (up2 (nwh (gX (gq u)) (nwh (gX (gq u)) (up2 (hfs (up2 (nwh (gX (gq u)) (up2 (nwh (gX (gq u)) (up2 (nwh (gX (gq u)) (up2 (nwh (gX (gq u)) (nwh (gX (gq u)) h 30 10 0) 31 21 160) 30 0 31) 32 20 161) 30 2 32) 33 20 161) 30 3 33) 34 20 161) 30 4 34) 31 0 47 fS0) 30 1 47) 40 11 0) 50 20 160) 40 0 50) 60 20 3) 40 1 60) 70 20 160) 40 2 70) 35 6 0) 0 ∧ ((nwh (gX (gq u)) (up2 (nwh (gX (gq u)) (up2 (nwh (gX (gq u)) (up2 (nwh (gX (gq u)) (nwh (gX (gq u)) (up2 (hfs (up2 (nwh (gX (gq u)) (up2 (nwh (gX (gq u)) (up2 (nwh (gX (gq u)) (up2 (nwh (gX (gq u)) (nwh (gX (gq u)) h 30 10 0) 31 21 160) 30 0 31) 32 20 161) 30 2 32) 33 20 161) 30 3 33) 34 20 161) 30 4 34) 31 0 47 fS0) 30 1 47) 40 11 0) 50 20 160) 40 0 50) 60 20 3) 40 1 60) 70 20 160) 40 2 70) 35 6 0) 40 2 = 70 ∧ (nwh (gX (gq u)) (up2 (nwh (gX (gq u)) (up2 (nwh (gX (gq u)) (up2 (nwh (gX (gq u)) (nwh (gX (gq u)) (up2 (hfs (up2 (nwh (gX (gq u)) (up2 (nwh (gX (gq u)) (up2 (nwh (gX (gq u)) (up2 (nwh (gX (gq u)) (nwh (gX (gq u)) h 30 10 0) 31 21 160) 30 0 31) 32 20 161) 30 2 32) 33 20 161) 30 3 33) 34 20 161) 30 4 34) 31 0 47 fS0) 30 1 47) 40 11 0) 50 20 160) 40 0 50) 60 20 3) 40 1 60) 70 20 160) 40 2 70) 35 6 0) 70 (-1) = 20 ∧ (nwh (gX (gq u)) (up2 (nwh (gX (gq u)) (up2 (nwh (gX (gq u)) (up2 (nwh (gX (gq u)) (nwh (gX (gq u)) (up2 (hfs (up2 (nwh (gX (gq u)) (up2 (nwh (gX (gq u)) (up2 (nwh (gX (gq u)) (up2 (nwh (gX (gq u)) (nwh (gX (gq u)) h 30 10 0) 31 21 160) 30 0 31) 32 20 161) 30 2 32) 33 20 161) 30 3 33) 34 20 161) 30 4 34) 31 0 47 fS0) 30 1 47) 40 11 0) 50 20 160) 40 0 50) 60 20 3) 40 1 60) 70 20 160) 40 2 70) 35 6 0) 70 (-2) = 160) ∧ ∀ x k : Int, ¬ regF x → (nwh (gX (gq u)) (up2 (nwh (gX (gq u)) (up2 (nwh (gX (gq u)) (up2 (nwh (gX (gq u)) (nwh (gX (gq u)) (up2 (hfs (up2 (nwh (gX (gq u)) (up2 (nwh (gX (gq u)) (up2 (nwh (gX (gq u)) (up2 (nwh (gX (gq u)) (nwh (gX (gq u)) h 30 10 0) 31 21 160) 30 0 31) 32 20 161) 30 2 32) 33 20 161) 30 3 33) 34 20 161) 30 4 34) 31 0 47 fS0) 30 1 47) 40 11 0) 50 20 160) 40 0 50) 60 20 3) 40 1 60) 70 20 160) 40 2 70) 35 6 0) x k = h x k := by
  refine ⟨⟨Or.inr ⟨rfl, rfl⟩, Tp30 ?_ ?_ ?_ ?_ ?_ ?_ ?_ ?_ ?_ ?_ ?_ ?_ ?_, ?_, fS_LF, fun k k0 k1 => ?_⟩, ?_, Tx0 ?_ ?_ ?_ ?_ ?_ ?_ ?_, ⟨?_, ?_, ?_⟩, fun x k q => ?_⟩
  case refine_15 =>
    have e := fS0_b k.toNat (by omega)
    simp (disch := omega) only [up2_ne, nw_ne]
    rw [hfs_eq k0 (by omega)]
    unfold fS fS0 sgn
    rw [if_pos k1, show k - 0 = k by omega, if_neg (by omega)]
  all_goals simp (disch := omega) only [up2_ne, up2_eq, nw_ne, nw_m1, nw_m2, hfs_ne, nf_10_1]
set_option maxHeartbeats 2000000 in
theorem s_X11_firstText {u : gT} {h : mH} {d : Nat} (hfm : u.2.2.2.2.2 ≤ -10 ∨ u.2.2.2.2.2 = -1) (z : ∀ x : Int, regF x → h x (-1) = 0) : Rlt (gX (gq u)) MX11_firstText (d + 97) 991 [] h (fun r g => r = (2, 40) ∧ (∀ x k : Int, ¬ regF x → g x k = h x k) ∧ Tx g 0 ∧ (g 40 2 = 70 ∧ g 70 (-1) = 20 ∧ g 70 (-2) = 160) ∧ tC g 0 osS 3) := by
  refine Rlt.of ?_
  have z30 := z 30 (by omega)
  have z31 := z 31 (by omega)
  have z32 := z 32 (by omega)
  have z33 := z 33 (by omega)
  have z34 := z 34 (by omega)
  have z35 := z 35 (by omega)
  have z40 := z 40 (by omega)
  have z50 := z 50 (by omega)
  have z60 := z 60 (by omega)
  have z70 := z 70 (by omega)
  show WP (gX (gq u)) MX11_firstText (d + 97) 991 _ 0 [(9, 0), (9, 0)] [] h
  refine wp_new1 (a := 30) (ci := 9) (b' := 983) (z := 10) rfl clX11_39 inX9 iniX9 dX11_firstText_0 rfl (by omega) (by first | assumption | (simp (disch := omega) only [up2_ne, up2_eq, nw_ne, nw_m1, nw_m2, nw_i, nw_q, hl_nil, hl_cf, hl_ct, hfs_ne, nf_10_1, z30, z31, z32, z33, z34, z35, z40, z50, z60, z70]; first | done | rfl | omega)) (Nat.le_of_ble_eq_true rfl) ?_
  refine wp_dup (by decide) dX11_firstText_3 ?_
  refine wp_cIN0v okX9_init ⟨rfl, rfl⟩ wX11_41 dX11_firstText_4 (Nat.le_of_ble_eq_true rfl) (Nat.le_of_ble_eq_true rfl) (by first | omega | (simp (disch := omega) only [up2_ne, up2_eq, nw_ne, nw_m1, nw_m2, nw_i, nw_q, hl_nil, hl_cf, hl_ct, hfs_ne, nf_10_1, z30, z31, z32, z33, z34, z35, z40, z50, z60, z70]; first | done | omega)) (x9i_30 (by simp (disch := omega) only [nw_m1]) (by simp (disch := omega) only [nw_ne]; assumption) (by simp (disch := omega) only [nw_ne]; assumption) (by simp (disch := omega) only [nw_ne]; assumption) (by simp (disch := omega) only [nw_ne]; assumption)) (Nat.le_of_ble_eq_true rfl) ?_
  try simp (disch := omega) only [up2_ne, up2_eq, nw_ne, nw_m1, nw_m2, nw_i, nw_q, hl_nil, hl_cf, hl_ct, hfs_ne, nf_10_1, z30, z31, z32, z33, z34, z35, z40, z50, z60, z70]
  refine wp_astore_n rfl dX11_firstText_7 rfl (Nat.le_of_ble_eq_true rfl) rfl ?_
  try simp only [List.set_cons_zero, List.set_cons_succ]
  refine wp_aload_n rfl rfl dX11_firstText_8 ?_
  refine wp_ldcS (List.mem_of_getElem? (i := 0) rfl) dX11_firstText_9 ?_
  show WP _ _ _ _ _ _ _ _ (up2 (nwh (gX (gq u)) (up2 (nwh (gX (gq u)) (up2 (nwh (gX (gq u)) (up2 (nwh (gX (gq u)) (nwh (gX (gq u)) h 30 10 0) 31 21 160) 30 0 31) 32 20 161) 30 2 32) 33 20 161) 30 3 33) 34 20 161) 30 4 34)
  refine wp_cV1v (ci := 9) okX9_write rfl rfl wX11_90 dX11_firstText_11 (Nat.le_of_ble_eq_true rfl) (Nat.le_of_ble_eq_true rfl) (by first | omega | (simp (disch := omega) only [up2_ne, up2_eq, nw_ne, nw_m1, nw_m2, nw_i, nw_q, hl_nil, hl_cf, hl_ct, hfs_ne, nf_10_1, z30, z31, z32, z33, z34, z35, z40, z50, z60, z70]; first | done | omega)) (by first | assumption | (simp (disch := omega) only [up2_ne, up2_eq, nw_ne, nw_m1, nw_m2, nw_i, nw_q, hl_nil, hl_cf, hl_ct, hfs_ne, nf_10_1, z30, z31, z32, z33, z34, z35, z40, z50, z60, z70]; first | done | rfl | omega)) (s_X9_write (tb := 31) (Or.inr ⟨rfl, rfl⟩) Tp_H2.1 hfm Tp_H2.2) (Nat.zero_le _) ?_
  try simp (disch := omega) only [up2_ne, up2_eq, nw_ne, nw_m1, nw_m2, nw_i, nw_q, hl_nil, hl_cf, hl_ct, hfs_ne, nf_10_1, z30, z31, z32, z33, z34, z35, z40, z50, z60, z70]
  refine wp_new1 (a := 40) (ci := 10) (b' := 330) (z := 11) rfl clX11_27 inX10 iniX10 dX11_firstText_14 rfl (by omega) (by first | assumption | (simp (disch := omega) only [up2_ne, up2_eq, nw_ne, nw_m1, nw_m2, nw_i, nw_q, hl_nil, hl_cf, hl_ct, hfs_ne, nf_10_1, z30, z31, z32, z33, z34, z35, z40, z50, z60, z70]; first | done | rfl | omega)) (Nat.le_of_ble_eq_true rfl) ?_
  refine wp_dup (by decide) dX11_firstText_17 ?_
  refine wp_cIN0v okX10_init ⟨rfl, rfl⟩ wX11_86 dX11_firstText_18 (Nat.le_of_ble_eq_true rfl) (Nat.le_of_ble_eq_true rfl) (by first | omega | (simp (disch := omega) only [up2_ne, up2_eq, nw_ne, nw_m1, nw_m2, nw_i, nw_q, hl_nil, hl_cf, hl_ct, hfs_ne, nf_10_1, z30, z31, z32, z33, z34, z35, z40, z50, z60, z70]; first | done | omega)) (x10i_0 (by simp (disch := omega) only [nw_m1]) (by simp (disch := omega) only [nw_ne, up2_ne, hfs_ne]; assumption) (by simp (disch := omega) only [nw_ne, up2_ne, hfs_ne]; assumption) (by simp (disch := omega) only [nw_ne, up2_ne, hfs_ne]; assumption)) (Nat.le_of_ble_eq_true rfl) ?_
  try simp (disch := omega) only [up2_ne, up2_eq, nw_ne, nw_m1, nw_m2, nw_i, nw_q, hl_nil, hl_cf, hl_ct, hfs_ne, nf_10_1, z30, z31, z32, z33, z34, z35, z40, z50, z60, z70]
  refine wp_astore_n rfl dX11_firstText_21 rfl (Nat.le_of_ble_eq_true rfl) rfl ?_
  try simp only [List.set_cons_zero, List.set_cons_succ]
  refine wp_new1 (a := 35) (ci := 5) (b' := 0) (z := 6) rfl clX11_46 inX5 iniX5 dX11_firstText_22 rfl (by omega) (by first | assumption | (simp (disch := omega) only [up2_ne, up2_eq, nw_ne, nw_m1, nw_m2, nw_i, nw_q, hl_nil, hl_cf, hl_ct, hfs_ne, nf_10_1, z30, z31, z32, z33, z34, z35, z40, z50, z60, z70]; first | done | rfl | omega)) (Nat.le_of_ble_eq_true rfl) ?_
  refine wp_dup (by decide) dX11_firstText_25 ?_
  refine wp_cIN0v okX5_init ⟨rfl, rfl⟩ wX11_48 dX11_firstText_26 (Nat.le_of_ble_eq_true rfl) (Nat.le_of_ble_eq_true rfl) (by first | omega | (simp (disch := omega) only [up2_ne, up2_eq, nw_ne, nw_m1, nw_m2, nw_i, nw_q, hl_nil, hl_cf, hl_ct, hfs_ne, nf_10_1, z30, z31, z32, z33, z34, z35, z40, z50, z60, z70]; first | done | omega)) (s_X5_init (pa := 35) (Or.inr rfl) (by simp (disch := omega) only [nw_m1])) (Nat.zero_le _) ?_
  try simp (disch := omega) only [up2_ne, up2_eq, nw_ne, nw_m1, nw_m2, nw_i, nw_q, hl_nil, hl_cf, hl_ct, hfs_ne, nf_10_1, z30, z31, z32, z33, z34, z35, z40, z50, z60, z70]
  show WP _ _ _ _ _ _ _ _ (nwh (gX (gq u)) (up2 (nwh (gX (gq u)) (up2 (nwh (gX (gq u)) (up2 (nwh (gX (gq u)) (nwh (gX (gq u)) (up2 (hfs (up2 (nwh (gX (gq u)) (up2 (nwh (gX (gq u)) (up2 (nwh (gX (gq u)) (up2 (nwh (gX (gq u)) (nwh (gX (gq u)) h 30 10 0) 31 21 160) 30 0 31) 32 20 161) 30 2 32) 33 20 161) 30 3 33) 34 20 161) 30 4 34) 31 0 47 fS0) 30 1 47) 40 11 0) 50 20 160) 40 0 50) 60 20 3) 40 1 60) 70 20 160) 40 2 70) 35 6 0)
  have HF := H6_f (u := u) (h := h)
  have r5 : ∀ b : Nat, Rlt (gX (gq u)) MX5_parse (d + 96) b [(2, 35), (2, 30), (2, 40)] (nwh (gX (gq u)) (up2 (nwh (gX (gq u)) (up2 (nwh (gX (gq u)) (up2 (nwh (gX (gq u)) (nwh (gX (gq u)) (up2 (hfs (up2 (nwh (gX (gq u)) (up2 (nwh (gX (gq u)) (up2 (nwh (gX (gq u)) (up2 (nwh (gX (gq u)) (nwh (gX (gq u)) h 30 10 0) 31 21 160) 30 0 31) 32 20 161) 30 2 32) 33 20 161) 30 3 33) 34 20 161) 30 4 34) 31 0 47 fS0) 30 1 47) 40 11 0) 50 20 160) 40 0 50) 60 20 3) 40 1 60) 70 20 160) 40 2 70) 35 6 0) _ := fun b => s_X5_parse (d := d) (b := b) (x := 0) HF.1 hfm (Or.inr rfl) HF.2.1 (by omega) HF.2.2.1
  refine wp_aload_n rfl rfl dX11_firstText_29 ?_
  refine wp_aload_n rfl rfl dX11_firstText_30 ?_
  refine wp_cV2r (ci := 5) okX5_parse rfl rfl wX11_94 dX11_firstText_31 (Nat.le_of_ble_eq_true rfl) (Nat.le_of_ble_eq_true rfl) (by first | omega | (simp (disch := omega) only [up2_ne, up2_eq, nw_ne, nw_m1, nw_m2, nw_i, nw_q, hl_nil, hl_cf, hl_ct, hfs_ne, nf_10_1, z30, z31, z32, z33, z34, z35, z40, z50, z60, z70]; first | done | omega)) (by first | assumption | (simp (disch := omega) only [up2_ne, up2_eq, nw_ne, nw_m1, nw_m2, nw_i, nw_q, hl_nil, hl_cf, hl_ct, hfs_ne, nf_10_1, z30, z31, z32, z33, z34, z35, z40, z50, z60, z70]; first | done | rfl | omega)) (r5 _) (Nat.zero_le _) ?_
  rintro r g ⟨N, hN, K, (⟨j, e1, -, -⟩ | ⟨os, e1, rfl, e3, e4⟩)⟩ -
  · exfalso
    rw [ptx_S] at e1
    cases e1
  rw [ptx_S] at e1
  cases e1
  show WP _ _ _ _ _ _ _ ((0, -1) :: _) _
  refine wp_pop (by decide) dX11_firstText_34 ?_
  refine wp_aload_n rfl rfl dX11_firstText_35 ?_
  refine wp_aret dX11_firstText_36 rfl (Or.inl ⟨_, rfl⟩) ?_
  refine ⟨rfl, fun x k q => ?_, ?_, ⟨?_, ?_, ?_⟩, e4⟩
  · rw [K x k (by omega)]
    exact HF.2.2.2.2 x k q
  · exact Tx_cg HF.2.2.1 (fun y k q => K y k (by omega))
  · rw [K _ _ (by omega)]
    exact HF.2.2.2.1.1
  · rw [K _ _ (by omega)]
    exact HF.2.2.2.1.2.1
  · rw [K _ _ (by omega)]
    exact HF.2.2.2.1.2.2
