/-! ===== the beginning: the reference's constructor ===== -/
theorem radd0 {u : gT} {g : mH} {d b : Nat} {row a what v i a1 : Int} (r0 : 0 ≤ row) (r1 : row ≤ 17) (q0 : g 200 (-1) = 13) (q2 : g 200 32 = 232) (q3 : g 200 33 = 233) (q4 : g 200 34 = 234) (q5 : g 232 (-1) = 20) (q6 : g 232 (-2) = 18) (q7 : g 233 (-1) = 20) (q8 : g 233 (-2) = 2880) (q9 : g 234 (-1) = 20) (q10 : g 234 (-2) = 2880) (ha : g 232 row = a) (a0 : 0 ≤ a) (a2 : a < 160) (hi : 160 * row + a = i) (hb : a + 1 = a1) : Det (gX (gq u)) MX12_add d b [(2, 200), (0, row), (0, what), (0, v)] g (9, 0) (hl (gX (gq u)) [(false, 232, row, a1), (false, 234, i, v), (false, 233, i, what)] g) := by
  intro Q hQ
  show WP (gX (gq u)) MX12_add d b Q 0 [(2, 200), (0, row), (0, what), (0, v)] [] g
  refine wp_aload_n rfl rfl dX12_add_0 ?_
  refine wp_getfield1 (z := 13) (kI := 33) fX12_167 dX12_add_1 (by first | omega | (simp (disch := omega) only [up2_ne, up2_eq, q0, q2, q3, q4, q5, q6, q7, q8, q9, q10, ha]; first | done | omega)) (by first | assumption | (simp (disch := omega) only [up2_ne, up2_eq, q0, q2, q3, q4, q5, q6, q7, q8, q9, q10, ha]; first | done | rfl | omega)) rfl rfl ?_
  try simp (disch := omega) only [up2_ne, up2_eq, q0, q2, q3, q4, q5, q6, q7, q8, q9, q10, ha]
  refine wp_sipush (by decide) dX12_add_4 ?_
  refine wp_iload_n rfl rfl dX12_add_7 ?_
  refine wp_imul dX12_add_8 ?_
  refine wp_aload_n rfl rfl dX12_add_9 ?_
  refine wp_getfield1 (z := 13) (kI := 32) fX12_164 dX12_add_10 (by first | omega | (simp (disch := omega) only [up2_ne, up2_eq, q0, q2, q3, q4, q5, q6, q7, q8, q9, q10, ha]; first | done | omega)) (by first | assumption | (simp (disch := omega) only [up2_ne, up2_eq, q0, q2, q3, q4, q5, q6, q7, q8, q9, q10, ha]; first | done | rfl | omega)) rfl rfl ?_
  try simp (disch := omega) only [up2_ne, up2_eq, q0, q2, q3, q4, q5, q6, q7, q8, q9, q10, ha]
  refine wp_iload_n rfl rfl dX12_add_13 ?_
  refine wp_iaload1 dX12_add_14 (by first | omega | (simp (disch := omega) only [up2_ne, up2_eq, q0, q2, q3, q4, q5, q6, q7, q8, q9, q10, ha]; first | done | omega)) (by first | assumption | (simp (disch := omega) only [up2_ne, up2_eq, q0, q2, q3, q4, q5, q6, q7, q8, q9, q10, ha]; first | done | rfl | omega)) (by first | omega | (simp (disch := omega) only [up2_ne, up2_eq, q0, q2, q3, q4, q5, q6, q7, q8, q9, q10, ha]; first | done | omega)) (by first | omega | (simp (disch := omega) only [up2_ne, up2_eq, q0, q2, q3, q4, q5, q6, q7, q8, q9, q10, ha]; first | done | omega)) ?_
  try simp (disch := omega) only [up2_ne, up2_eq, q0, q2, q3, q4, q5, q6, q7, q8, q9, q10, ha]
  refine wp_iadd dX12_add_15 ?_
  refine wp_iload_n rfl rfl dX12_add_16 ?_
  refine wp_iastore1 dX12_add_17 (by first | omega | (simp (disch := omega) only [up2_ne, up2_eq, q0, q2, q3, q4, q5, q6, q7, q8, q9, q10, ha]; first | done | omega)) (by first | assumption | (simp (disch := omega) only [up2_ne, up2_eq, q0, q2, q3, q4, q5, q6, q7, q8, q9, q10, ha]; first | done | rfl | omega)) (by first | omega | (simp (disch := omega) only [up2_ne, up2_eq, q0, q2, q3, q4, q5, q6, q7, q8, q9, q10, ha]; first | done | omega)) (by first | omega | (simp (disch := omega) only [up2_ne, up2_eq, q0, q2, q3, q4, q5, q6, q7, q8, q9, q10, ha]; first | done | omega)) ?_
  refine wp_aload_n rfl rfl dX12_add_18 ?_
  refine wp_getfield1 (z := 13) (kI := 34) fX12_170 dX12_add_19 (by first | omega | (simp (disch := omega) only [up2_ne, up2_eq, q0, q2, q3, q4, q5, q6, q7, q8, q9, q10, ha]; first | done | omega)) (by first | assumption | (simp (disch := omega) only [up2_ne, up2_eq, q0, q2, q3, q4, q5, q6, q7, q8, q9, q10, ha]; first | done | rfl | omega)) rfl rfl ?_
  try simp (disch := omega) only [up2_ne, up2_eq, q0, q2, q3, q4, q5, q6, q7, q8, q9, q10, ha]
  refine wp_sipush (by decide) dX12_add_22 ?_
  refine wp_iload_n rfl rfl dX12_add_25 ?_
  refine wp_imul dX12_add_26 ?_
  refine wp_aload_n rfl rfl dX12_add_27 ?_
  refine wp_getfield1 (z := 13) (kI := 32) fX12_164 dX12_add_28 (by first | omega | (simp (disch := omega) only [up2_ne, up2_eq, q0, q2, q3, q4, q5, q6, q7, q8, q9, q10, ha]; first | done | omega)) (by first | assumption | (simp (disch := omega) only [up2_ne, up2_eq, q0, q2, q3, q4, q5, q6, q7, q8, q9, q10, ha]; first | done | rfl | omega)) rfl rfl ?_
  try simp (disch := omega) only [up2_ne, up2_eq, q0, q2, q3, q4, q5, q6, q7, q8, q9, q10, ha]
  refine wp_iload_n rfl rfl dX12_add_31 ?_
  refine wp_iaload1 dX12_add_32 (by first | omega | (simp (disch := omega) only [up2_ne, up2_eq, q0, q2, q3, q4, q5, q6, q7, q8, q9, q10, ha]; first | done | omega)) (by first | assumption | (simp (disch := omega) only [up2_ne, up2_eq, q0, q2, q3, q4, q5, q6, q7, q8, q9, q10, ha]; first | done | rfl | omega)) (by first | omega | (simp (disch := omega) only [up2_ne, up2_eq, q0, q2, q3, q4, q5, q6, q7, q8, q9, q10, ha]; first | done | omega)) (by first | omega | (simp (disch := omega) only [up2_ne, up2_eq, q0, q2, q3, q4, q5, q6, q7, q8, q9, q10, ha]; first | done | omega)) ?_
  try simp (disch := omega) only [up2_ne, up2_eq, q0, q2, q3, q4, q5, q6, q7, q8, q9, q10, ha]
  refine wp_iadd dX12_add_33 ?_
  refine wp_iload_n rfl rfl dX12_add_34 ?_
  refine wp_iastore1 dX12_add_35 (by first | omega | (simp (disch := omega) only [up2_ne, up2_eq, q0, q2, q3, q4, q5, q6, q7, q8, q9, q10, ha]; first | done | omega)) (by first | assumption | (simp (disch := omega) only [up2_ne, up2_eq, q0, q2, q3, q4, q5, q6, q7, q8, q9, q10, ha]; first | done | rfl | omega)) (by first | omega | (simp (disch := omega) only [up2_ne, up2_eq, q0, q2, q3, q4, q5, q6, q7, q8, q9, q10, ha]; first | done | omega)) (by first | omega | (simp (disch := omega) only [up2_ne, up2_eq, q0, q2, q3, q4, q5, q6, q7, q8, q9, q10, ha]; first | done | omega)) ?_
  refine wp_aload_n rfl rfl dX12_add_36 ?_
  refine wp_getfield1 (z := 13) (kI := 32) fX12_164 dX12_add_37 (by first | omega | (simp (disch := omega) only [up2_ne, up2_eq, q0, q2, q3, q4, q5, q6, q7, q8, q9, q10, ha]; first | done | omega)) (by first | assumption | (simp (disch := omega) only [up2_ne, up2_eq, q0, q2, q3, q4, q5, q6, q7, q8, q9, q10, ha]; first | done | rfl | omega)) rfl rfl ?_
  try simp (disch := omega) only [up2_ne, up2_eq, q0, q2, q3, q4, q5, q6, q7, q8, q9, q10, ha]
  refine wp_iload_n rfl rfl dX12_add_40 ?_
  refine wp_dup2 (by decide) (by decide) dX12_add_41 ?_
  refine wp_iaload1 dX12_add_42 (by first | omega | (simp (disch := omega) only [up2_ne, up2_eq, q0, q2, q3, q4, q5, q6, q7, q8, q9, q10, ha]; first | done | omega)) (by first | assumption | (simp (disch := omega) only [up2_ne, up2_eq, q0, q2, q3, q4, q5, q6, q7, q8, q9, q10, ha]; first | done | rfl | omega)) (by first | omega | (simp (disch := omega) only [up2_ne, up2_eq, q0, q2, q3, q4, q5, q6, q7, q8, q9, q10, ha]; first | done | omega)) (by first | omega | (simp (disch := omega) only [up2_ne, up2_eq, q0, q2, q3, q4, q5, q6, q7, q8, q9, q10, ha]; first | done | omega)) ?_
  try simp (disch := omega) only [up2_ne, up2_eq, q0, q2, q3, q4, q5, q6, q7, q8, q9, q10, ha]
  refine wp_iconst dX12_add_43 ?_
  refine wp_iadd dX12_add_44 ?_
  refine wp_iastore1 dX12_add_45 (by first | omega | (simp (disch := omega) only [up2_ne, up2_eq, q0, q2, q3, q4, q5, q6, q7, q8, q9, q10, ha]; first | done | omega)) (by first | assumption | (simp (disch := omega) only [up2_ne, up2_eq, q0, q2, q3, q4, q5, q6, q7, q8, q9, q10, ha]; first | done | rfl | omega)) (by first | omega | (simp (disch := omega) only [up2_ne, up2_eq, q0, q2, q3, q4, q5, q6, q7, q8, q9, q10, ha]; first | done | omega)) (by first | omega | (simp (disch := omega) only [up2_ne, up2_eq, q0, q2, q3, q4, q5, q6, q7, q8, q9, q10, ha]; first | done | omega)) ?_
  refine wp_vret dX12_add_46 rfl ?_
  subst hi hb
  exact hQ
theorem hl_newM {g : gG} {h : mH} {L : List hop} {x : Int} (hz : ∀ x : Int, 200 ≤ x → h x (-1) = 0) (x0 : 200 ≤ x) (e : rd L x (-1) = none) : hl (gX g) L h x (-1) = 0 := by rw [hl_none e, hz x x0]
def LM12 : List hop := [(false, 200, 30, 1), (false, 232, 2, 1), (false, 234, 320, 0), (false, 233, 320, 106), (false, 232, 1, 3), (false, 234, 162, 0), (false, 233, 162, 60), (false, 232, 1, 2), (false, 234, 161, 0), (false, 233, 161, 104), (false, 232, 1, 1), (false, 234, 160, 49), (false, 233, 160, 200), (false, 232, 0, 3), (false, 234, 2, 0), (false, 233, 2, 60), (false, 232, 0, 2), (false, 234, 1, 5000), (false, 233, 1, 200), (false, 232, 0, 1), (false, 234, 0, 0), (false, 233, 0, 101), (false, 200, 55, 255), (true, 255, 20, 160), (false, 200, 54, 254), (true, 254, 20, 4), (false, 200, 53, 253), (false, 253, 3, -1), (false, 253, 2, -1), (false, 253, 1, -1), (false, 253, 0, -1), (true, 253, 20, 4), (false, 200, 52, 252), (true, 252, 22, 14), (false, 200, 51, 251), (true, 251, 20, 14), (false, 200, 50, 250), (true, 250, 22, 14), (false, 200, 47, 247), (true, 247, 20, 8), (false, 200, 46, 246), (true, 246, 20, 14), (false, 200, 45, 245), (true, 245, 22, 112), (false, 200, 44, 244), (true, 244, 20, 200), (false, 200, 42, 242), (true, 242, 20, 200), (false, 200, 37, 237), (false, 237, 12, 3), (false, 237, 11, 3), (false, 237, 10, 2), (false, 237, 9, 4), (false, 237, 8, 4), (false, 237, 7, 3), (false, 237, 6, 6), (false, 237, 5, 7), (false, 237, 4, 4), (false, 237, 3, 3), (false, 237, 2, 5), (false, 237, 1, 3), (false, 237, 0, 4), (true, 237, 20, 13), (false, 200, 36, 236), (false, 236, 12, 48), (false, 236, 11, 45), (false, 236, 10, 43), (false, 236, 9, 39), (false, 236, 8, 35), (false, 236, 7, 32), (false, 236, 6, 26), (false, 236, 5, 19), (false, 236, 4, 15), (false, 236, 3, 12), (false, 236, 2, 7), (false, 236, 1, 4), (false, 236, 0, 0), (true, 236, 20, 13), (false, 200, 35, 235), (false, 235, 50, 116), (false, 235, 49, 111), (false, 235, 48, 110), (false, 235, 47, 100), (false, 235, 46, 110), (false, 235, 45, 97), (false, 235, 44, 114), (false, 235, 43, 111), (false, 235, 42, 101), (false, 235, 41, 116), (false, 235, 40, 97), (false, 235, 39, 108), (false, 235, 38, 115), (false, 235, 37, 115), (false, 235, 36, 97), (false, 235, 35, 112), (false, 235, 34, 121), (false, 235, 33, 97), (false, 235, 32, 109), (false, 235, 31, 100), (false, 235, 30, 110), (false, 235, 29, 105), (false, 235, 28, 104), (false, 235, 27, 101), (false, 235, 26, 98), (false, 235, 25, 115), (false, 235, 24, 114), (false, 235, 23, 101), (false, 235, 22, 100), (false, 235, 21, 97), (false, 235, 20, 101), (false, 235, 19, 114), (false, 235, 18, 107), (false, 235, 17, 114), (false, 235, 16, 97), (false, 235, 15, 109), (false, 235, 14, 121), (false, 235, 13, 97), (false, 235, 12, 100), (false, 235, 11, 101), (false, 235, 10, 109), (false, 235, 9, 101), (false, 235, 8, 104), (false, 235, 7, 116), (false, 235, 6, 109), (false, 235, 5, 117), (false, 235, 4, 115), (false, 235, 3, 100), (false, 235, 2, 110), (false, 235, 1, 105), (false, 235, 0, 107), (true, 235, 23, 51), (false, 200, 34, 234), (true, 234, 20, 2880), (false, 200, 33, 233), (true, 233, 20, 2880), (false, 200, 32, 232), (true, 232, 20, 18), (false, 200, 28, 228), (true, 228, 21, 160), (false, 200, 27, 227), (true, 227, 20, 14), (false, 200, 26, 226), (true, 226, 20, 14), (false, 200, 25, 225), (true, 225, 20, 14), (false, 200, 24, 224), (true, 224, 20, 14), (false, 200, 23, 223), (true, 223, 20, 14), (false, 200, 22, 222), (true, 222, 20, 14), (false, 200, 21, 221), (true, 221, 20, 14), (false, 200, 20, 220), (true, 220, 20, 112), (false, 200, 19, 219), (true, 219, 22, 112), (false, 200, 18, 218), (true, 218, 20, 14), (false, 200, 17, 217), (true, 217, 20, 14), (false, 200, 16, 216), (true, 216, 20, 14), (false, 200, 15, 215), (true, 215, 20, 14), (false, 200, 14, 214), (true, 214, 20, 14), (false, 200, 13, 213), (true, 213, 20, 14), (false, 200, 12, 212), (true, 212, 20, 14), (false, 200, 11, 211), (true, 211, 20, 14), (false, 200, 9, 209), (true, 209, 20, 8), (false, 200, 8, 208), (true, 208, 20, 8), (false, 200, 7, 207), (true, 207, 20, 8), (false, 200, 5, 205), (true, 205, 20, 5), (false, 200, 4, 204), (true, 204, 20, 5), (false, 200, 3, 203), (true, 203, 20, 5), (false, 200, 2, 202), (true, 202, 20, 5), (false, 200, 1, 201), (true, 201, 20, 5), (true, 200, 13, 0)]
set_option maxHeartbeats 16000000 in
set_option maxRecDepth 100000 in
theorem s_X12_init {u : gT} {h : mH} {d : Nat} (hz : ∀ x : Int, 200 ≤ x → h x (-1) = 0) : Det (gX (gq u)) MX12_init (d + 2) 7285 [(2, 200)] (hl (gX (gq u)) [(true, 200, 13, 0)] h) (9, 0) (hl (gX (gq u)) LM12 h) := by
  intro Q hQ
  show WP (gX (gq u)) MX12_init (d + 2) 7285 Q 0 [(2, 200)] [] (hl (gX (gq u)) [(true, 200, 13, 0)] h)
  refine wp_aload_n rfl rfl dX12_init_0 ?_
  refine wp_objInit wX12_141.1 wX12_141.2.1 wX12_141.2.2 dX12_init_1 (by decide) (by decide) ?_
  refine wp_aload_n rfl rfl dX12_init_4 ?_
  refine wp_iconst dX12_init_5 ?_
  refine wp_newarrL (a := 201) (code := 20) (b' := 7279) dX12_init_6 rfl ac_int rfl (by decide) (by decide) (hl_newM hz (by decide) (by decide +kernel)) (by decide) (Nat.le_of_ble_eq_true rfl) ?_
  refine wp_putfL (z := 13) (kI := 1) fX12_19 rfl (fun _ q => by cases q; rfl) dX12_init_8 (by decide) (hl_read (by decide +kernel)) rfl rfl ?_
  refine wp_aload_n rfl rfl dX12_init_11 ?_
  refine wp_iconst dX12_init_12 ?_
  refine wp_newarrL (a := 202) (code := 20) (b' := 7273) dX12_init_13 rfl ac_int rfl (by decide) (by decide) (hl_newM hz (by decide) (by decide +kernel)) (by decide) (Nat.le_of_ble_eq_true rfl) ?_
  refine wp_putfL (z := 13) (kI := 2) fX12_29 rfl (fun _ q => by cases q; rfl) dX12_init_15 (by decide) (hl_read (by decide +kernel)) rfl rfl ?_
  refine wp_aload_n rfl rfl dX12_init_18 ?_
  refine wp_iconst dX12_init_19 ?_
  refine wp_newarrL (a := 203) (code := 20) (b' := 7267) dX12_init_20 rfl ac_int rfl (by decide) (by decide) (hl_newM hz (by decide) (by decide +kernel)) (by decide) (Nat.le_of_ble_eq_true rfl) ?_
  refine wp_putfL (z := 13) (kI := 3) fX12_33 rfl (fun _ q => by cases q; rfl) dX12_init_22 (by decide) (hl_read (by decide +kernel)) rfl rfl ?_
  refine wp_aload_n rfl rfl dX12_init_25 ?_
  refine wp_iconst dX12_init_26 ?_
  refine wp_newarrL (a := 204) (code := 20) (b' := 7261) dX12_init_27 rfl ac_int rfl (by decide) (by decide) (hl_newM hz (by decide) (by decide +kernel)) (by decide) (Nat.le_of_ble_eq_true rfl) ?_
  refine wp_putfL (z := 13) (kI := 4) fX12_36 rfl (fun _ q => by cases q; rfl) dX12_init_29 (by decide) (hl_read (by decide +kernel)) rfl rfl ?_
  refine wp_aload_n rfl rfl dX12_init_32 ?_
  refine wp_iconst dX12_init_33 ?_
  refine wp_newarrL (a := 205) (code := 20) (b' := 7255) dX12_init_34 rfl ac_int rfl (by decide) (by decide) (hl_newM hz (by decide) (by decide +kernel)) (by decide) (Nat.le_of_ble_eq_true rfl) ?_
  refine wp_putfL (z := 13) (kI := 5) fX12_39 rfl (fun _ q => by cases q; rfl) dX12_init_36 (by decide) (hl_read (by decide +kernel)) rfl rfl ?_
  refine wp_aload_n rfl rfl dX12_init_39 ?_
  refine wp_bipush (by decide) dX12_init_40 ?_
  refine wp_newarrL (a := 207) (code := 20) (b' := 7246) dX12_init_42 rfl ac_int rfl (by decide) (by decide) (hl_newM hz (by decide) (by decide +kernel)) (by decide) (Nat.le_of_ble_eq_true rfl) ?_
  refine wp_putfL (z := 13) (kI := 7) fX12_46 rfl (fun _ q => by cases q; rfl) dX12_init_44 (by decide) (hl_read (by decide +kernel)) rfl rfl ?_
  refine wp_aload_n rfl rfl dX12_init_47 ?_
  refine wp_bipush (by decide) dX12_init_48 ?_
  refine wp_newarrL (a := 208) (code := 20) (b' := 7237) dX12_init_50 rfl ac_int rfl (by decide) (by decide) (hl_newM hz (by decide) (by decide +kernel)) (by decide) (Nat.le_of_ble_eq_true rfl) ?_
  refine wp_putfL (z := 13) (kI := 8) fX12_49 rfl (fun _ q => by cases q; rfl) dX12_init_52 (by decide) (hl_read (by decide +kernel)) rfl rfl ?_
  refine wp_aload_n rfl rfl dX12_init_55 ?_
  refine wp_bipush (by decide) dX12_init_56 ?_
  refine wp_newarrL (a := 209) (code := 20) (b' := 7228) dX12_init_58 rfl ac_int rfl (by decide) (by decide) (hl_newM hz (by decide) (by decide +kernel)) (by decide) (Nat.le_of_ble_eq_true rfl) ?_
  refine wp_putfL (z := 13) (kI := 9) fX12_52 rfl (fun _ q => by cases q; rfl) dX12_init_60 (by decide) (hl_read (by decide +kernel)) rfl rfl ?_
  refine wp_aload_n rfl rfl dX12_init_63 ?_
  refine wp_bipush (by decide) dX12_init_64 ?_
  refine wp_newarrL (a := 211) (code := 20) (b' := 7213) dX12_init_66 rfl ac_int rfl (by decide) (by decide) (hl_newM hz (by decide) (by decide +kernel)) (by decide) (Nat.le_of_ble_eq_true rfl) ?_
  refine wp_putfL (z := 13) (kI := 11) fX12_82 rfl (fun _ q => by cases q; rfl) dX12_init_68 (by decide) (hl_read (by decide +kernel)) rfl rfl ?_
  refine wp_aload_n rfl rfl dX12_init_71 ?_
  refine wp_bipush (by decide) dX12_init_72 ?_
  refine wp_newarrL (a := 212) (code := 20) (b' := 7198) dX12_init_74 rfl ac_int rfl (by decide) (by decide) (hl_newM hz (by decide) (by decide +kernel)) (by decide) (Nat.le_of_ble_eq_true rfl) ?_
  refine wp_putfL (z := 13) (kI := 12) fX12_85 rfl (fun _ q => by cases q; rfl) dX12_init_76 (by decide) (hl_read (by decide +kernel)) rfl rfl ?_
  refine wp_aload_n rfl rfl dX12_init_79 ?_
  refine wp_bipush (by decide) dX12_init_80 ?_
  refine wp_newarrL (a := 213) (code := 20) (b' := 7183) dX12_init_82 rfl ac_int rfl (by decide) (by decide) (hl_newM hz (by decide) (by decide +kernel)) (by decide) (Nat.le_of_ble_eq_true rfl) ?_
  refine wp_putfL (z := 13) (kI := 13) fX12_88 rfl (fun _ q => by cases q; rfl) dX12_init_84 (by decide) (hl_read (by decide +kernel)) rfl rfl ?_
  refine wp_aload_n rfl rfl dX12_init_87 ?_
  refine wp_bipush (by decide) dX12_init_88 ?_
  refine wp_newarrL (a := 214) (code := 20) (b' := 7168) dX12_init_90 rfl ac_int rfl (by decide) (by decide) (hl_newM hz (by decide) (by decide +kernel)) (by decide) (Nat.le_of_ble_eq_true rfl) ?_
  refine wp_putfL (z := 13) (kI := 14) fX12_91 rfl (fun _ q => by cases q; rfl) dX12_init_92 (by decide) (hl_read (by decide +kernel)) rfl rfl ?_
  refine wp_aload_n rfl rfl dX12_init_95 ?_
  refine wp_bipush (by decide) dX12_init_96 ?_
  refine wp_newarrL (a := 215) (code := 20) (b' := 7153) dX12_init_98 rfl ac_int rfl (by decide) (by decide) (hl_newM hz (by decide) (by decide +kernel)) (by decide) (Nat.le_of_ble_eq_true rfl) ?_
  refine wp_putfL (z := 13) (kI := 15) fX12_94 rfl (fun _ q => by cases q; rfl) dX12_init_100 (by decide) (hl_read (by decide +kernel)) rfl rfl ?_
  refine wp_aload_n rfl rfl dX12_init_103 ?_
  refine wp_bipush (by decide) dX12_init_104 ?_
  refine wp_newarrL (a := 216) (code := 20) (b' := 7138) dX12_init_106 rfl ac_int rfl (by decide) (by decide) (hl_newM hz (by decide) (by decide +kernel)) (by decide) (Nat.le_of_ble_eq_true rfl) ?_
  refine wp_putfL (z := 13) (kI := 16) fX12_97 rfl (fun _ q => by cases q; rfl) dX12_init_108 (by decide) (hl_read (by decide +kernel)) rfl rfl ?_
  refine wp_aload_n rfl rfl dX12_init_111 ?_
  refine wp_bipush (by decide) dX12_init_112 ?_
  refine wp_newarrL (a := 217) (code := 20) (b' := 7123) dX12_init_114 rfl ac_int rfl (by decide) (by decide) (hl_newM hz (by decide) (by decide +kernel)) (by decide) (Nat.le_of_ble_eq_true rfl) ?_
  refine wp_putfL (z := 13) (kI := 17) fX12_100 rfl (fun _ q => by cases q; rfl) dX12_init_116 (by decide) (hl_read (by decide +kernel)) rfl rfl ?_
  refine wp_aload_n rfl rfl dX12_init_119 ?_
  refine wp_bipush (by decide) dX12_init_120 ?_
  refine wp_newarrL (a := 218) (code := 20) (b' := 7108) dX12_init_122 rfl ac_int rfl (by decide) (by decide) (hl_newM hz (by decide) (by decide +kernel)) (by decide) (Nat.le_of_ble_eq_true rfl) ?_
  refine wp_putfL (z := 13) (kI := 18) fX12_55 rfl (fun _ q => by cases q; rfl) dX12_init_124 (by decide) (hl_read (by decide +kernel)) rfl rfl ?_
  refine wp_aload_n rfl rfl dX12_init_127 ?_
  refine wp_bipush (by decide) dX12_init_128 ?_
  refine wp_newarrL (a := 219) (code := 22) (b' := 6995) dX12_init_130 rfl ac_boolean rfl (by decide) (by decide) (hl_newM hz (by decide) (by decide +kernel)) (by decide) (Nat.le_of_ble_eq_true rfl) ?_
  refine wp_putfL (z := 13) (kI := 19) fX12_147 rfl (fun _ q => by cases q; rfl) dX12_init_132 (by decide) (hl_read (by decide +kernel)) rfl rfl ?_
  refine wp_aload_n rfl rfl dX12_init_135 ?_
  refine wp_bipush (by decide) dX12_init_136 ?_
  refine wp_newarrL (a := 220) (code := 20) (b' := 6882) dX12_init_138 rfl ac_int rfl (by decide) (by decide) (hl_newM hz (by decide) (by decide +kernel)) (by decide) (Nat.le_of_ble_eq_true rfl) ?_
  refine wp_putfL (z := 13) (kI := 20) fX12_106 rfl (fun _ q => by cases q; rfl) dX12_init_140 (by decide) (hl_read (by decide +kernel)) rfl rfl ?_
  refine wp_aload_n rfl rfl dX12_init_143 ?_
  refine wp_bipush (by decide) dX12_init_144 ?_
  refine wp_newarrL (a := 221) (code := 20) (b' := 6867) dX12_init_146 rfl ac_int rfl (by decide) (by decide) (hl_newM hz (by decide) (by decide +kernel)) (by decide) (Nat.le_of_ble_eq_true rfl) ?_
  refine wp_putfL (z := 13) (kI := 21) fX12_103 rfl (fun _ q => by cases q; rfl) dX12_init_148 (by decide) (hl_read (by decide +kernel)) rfl rfl ?_
  refine wp_aload_n rfl rfl dX12_init_151 ?_
  refine wp_bipush (by decide) dX12_init_152 ?_
  refine wp_newarrL (a := 222) (code := 20) (b' := 6852) dX12_init_154 rfl ac_int rfl (by decide) (by decide) (hl_newM hz (by decide) (by decide +kernel)) (by decide) (Nat.le_of_ble_eq_true rfl) ?_
  refine wp_putfL (z := 13) (kI := 22) fX12_151 rfl (fun _ q => by cases q; rfl) dX12_init_156 (by decide) (hl_read (by decide +kernel)) rfl rfl ?_
  refine wp_aload_n rfl rfl dX12_init_159 ?_
  refine wp_bipush (by decide) dX12_init_160 ?_
  refine wp_newarrL (a := 223) (code := 20) (b' := 6837) dX12_init_162 rfl ac_int rfl (by decide) (by decide) (hl_newM hz (by decide) (by decide +kernel)) (by decide) (Nat.le_of_ble_eq_true rfl) ?_
  refine wp_putfL (z := 13) (kI := 23) fX12_154 rfl (fun _ q => by cases q; rfl) dX12_init_164 (by decide) (hl_read (by decide +kernel)) rfl rfl ?_
  refine wp_aload_n rfl rfl dX12_init_167 ?_
  refine wp_bipush (by decide) dX12_init_168 ?_
  refine wp_newarrL (a := 224) (code := 20) (b' := 6822) dX12_init_170 rfl ac_int rfl (by decide) (by decide) (hl_newM hz (by decide) (by decide +kernel)) (by decide) (Nat.le_of_ble_eq_true rfl) ?_
  refine wp_putfL (z := 13) (kI := 24) fX12_157 rfl (fun _ q => by cases q; rfl) dX12_init_172 (by decide) (hl_read (by decide +kernel)) rfl rfl ?_
  refine wp_aload_n rfl rfl dX12_init_175 ?_
  refine wp_bipush (by decide) dX12_init_176 ?_
  refine wp_newarrL (a := 225) (code := 20) (b' := 6807) dX12_init_178 rfl ac_int rfl (by decide) (by decide) (hl_newM hz (by decide) (by decide +kernel)) (by decide) (Nat.le_of_ble_eq_true rfl) ?_
  refine wp_putfL (z := 13) (kI := 25) fX12_132 rfl (fun _ q => by cases q; rfl) dX12_init_180 (by decide) (hl_read (by decide +kernel)) rfl rfl ?_
  refine wp_aload_n rfl rfl dX12_init_183 ?_
  refine wp_bipush (by decide) dX12_init_184 ?_
  refine wp_newarrL (a := 226) (code := 20) (b' := 6792) dX12_init_186 rfl ac_int rfl (by decide) (by decide) (hl_newM hz (by decide) (by decide +kernel)) (by decide) (Nat.le_of_ble_eq_true rfl) ?_
  refine wp_putfL (z := 13) (kI := 26) fX12_135 rfl (fun _ q => by cases q; rfl) dX12_init_188 (by decide) (hl_read (by decide +kernel)) rfl rfl ?_
  refine wp_aload_n rfl rfl dX12_init_191 ?_
  refine wp_bipush (by decide) dX12_init_192 ?_
  refine wp_newarrL (a := 227) (code := 20) (b' := 6777) dX12_init_194 rfl ac_int rfl (by decide) (by decide) (hl_newM hz (by decide) (by decide +kernel)) (by decide) (Nat.le_of_ble_eq_true rfl) ?_
  refine wp_putfL (z := 13) (kI := 27) fX12_138 rfl (fun _ q => by cases q; rfl) dX12_init_196 (by decide) (hl_read (by decide +kernel)) rfl rfl ?_
  refine wp_aload_n rfl rfl dX12_init_199 ?_
  refine wp_sipush (by decide) dX12_init_200 ?_
  refine wp_newarrL (a := 228) (code := 21) (b' := 6616) dX12_init_203 rfl ac_byte rfl (by decide) (by decide) (hl_newM hz (by decide) (by decide +kernel)) (by decide) (Nat.le_of_ble_eq_true rfl) ?_
  refine wp_putfL (z := 13) (kI := 28) fX12_160 rfl (fun _ q => by cases q; rfl) dX12_init_205 (by decide) (hl_read (by decide +kernel)) rfl rfl ?_
  refine wp_aload_n rfl rfl dX12_init_208 ?_
  refine wp_bipush (by decide) dX12_init_209 ?_
  refine wp_newarrL (a := 232) (code := 20) (b' := 6597) dX12_init_211 rfl ac_int rfl (by decide) (by decide) (hl_newM hz (by decide) (by decide +kernel)) (by decide) (Nat.le_of_ble_eq_true rfl) ?_
  refine wp_putfL (z := 13) (kI := 32) fX12_164 rfl (fun _ q => by cases q; rfl) dX12_init_213 (by decide) (hl_read (by decide +kernel)) rfl rfl ?_
  refine wp_aload_n rfl rfl dX12_init_216 ?_
  refine wp_sipush (by decide) dX12_init_217 ?_
  refine wp_newarrL (a := 233) (code := 20) (b' := 3716) dX12_init_220 rfl ac_int rfl (by decide) (by decide) (hl_newM hz (by decide) (by decide +kernel)) (by decide) (Nat.le_of_ble_eq_true rfl) ?_
  refine wp_putfL (z := 13) (kI := 33) fX12_167 rfl (fun _ q => by cases q; rfl) dX12_init_222 (by decide) (hl_read (by decide +kernel)) rfl rfl ?_
  refine wp_aload_n rfl rfl dX12_init_225 ?_
  refine wp_sipush (by decide) dX12_init_226 ?_
  refine wp_newarrL (a := 234) (code := 20) (b' := 835) dX12_init_229 rfl ac_int rfl (by decide) (by decide) (hl_newM hz (by decide) (by decide +kernel)) (by decide) (Nat.le_of_ble_eq_true rfl) ?_
  refine wp_putfL (z := 13) (kI := 34) fX12_170 rfl (fun _ q => by cases q; rfl) dX12_init_231 (by decide) (hl_read (by decide +kernel)) rfl rfl ?_
  refine wp_aload_n rfl rfl dX12_init_234 ?_
  refine wp_bipush (by decide) dX12_init_235 ?_
  refine wp_newarrL (a := 235) (code := 23) (b' := 783) dX12_init_237 rfl ac_char rfl (by decide) (by decide) (hl_newM hz (by decide) (by decide +kernel)) (by decide) (Nat.le_of_ble_eq_true rfl) ?_
  refine wp_dup (by decide) dX12_init_239 ?_
  refine wp_iconst dX12_init_240 ?_
  refine wp_bipush (by decide) dX12_init_241 ?_
  refine wp_castoreL (n := 51) (by decide) dX12_init_243 (by decide) (hl_read (by decide +kernel)) (by decide) (hl_read (by decide +kernel)) (by decide) ?_
  refine wp_dup (by decide) dX12_init_244 ?_
  refine wp_iconst dX12_init_245 ?_
  refine wp_bipush (by decide) dX12_init_246 ?_
  refine wp_castoreL (n := 51) (by decide) dX12_init_248 (by decide) (hl_read (by decide +kernel)) (by decide) (hl_read (by decide +kernel)) (by decide) ?_
  refine wp_dup (by decide) dX12_init_249 ?_
  refine wp_iconst dX12_init_250 ?_
  refine wp_bipush (by decide) dX12_init_251 ?_
  refine wp_castoreL (n := 51) (by decide) dX12_init_253 (by decide) (hl_read (by decide +kernel)) (by decide) (hl_read (by decide +kernel)) (by decide) ?_
  refine wp_dup (by decide) dX12_init_254 ?_
  refine wp_iconst dX12_init_255 ?_
  refine wp_bipush (by decide) dX12_init_256 ?_
  refine wp_castoreL (n := 51) (by decide) dX12_init_258 (by decide) (hl_read (by decide +kernel)) (by decide) (hl_read (by decide +kernel)) (by decide) ?_
  refine wp_dup (by decide) dX12_init_259 ?_
  refine wp_iconst dX12_init_260 ?_
  refine wp_bipush (by decide) dX12_init_261 ?_
  refine wp_castoreL (n := 51) (by decide) dX12_init_263 (by decide) (hl_read (by decide +kernel)) (by decide) (hl_read (by decide +kernel)) (by decide) ?_
  refine wp_dup (by decide) dX12_init_264 ?_
  refine wp_iconst dX12_init_265 ?_
  refine wp_bipush (by decide) dX12_init_266 ?_
  refine wp_castoreL (n := 51) (by decide) dX12_init_268 (by decide) (hl_read (by decide +kernel)) (by decide) (hl_read (by decide +kernel)) (by decide) ?_
  refine wp_dup (by decide) dX12_init_269 ?_
  refine wp_bipush (by decide) dX12_init_270 ?_
  refine wp_bipush (by decide) dX12_init_272 ?_
  refine wp_castoreL (n := 51) (by decide) dX12_init_274 (by decide) (hl_read (by decide +kernel)) (by decide) (hl_read (by decide +kernel)) (by decide) ?_
  refine wp_dup (by decide) dX12_init_275 ?_
  refine wp_bipush (by decide) dX12_init_276 ?_
  refine wp_bipush (by decide) dX12_init_278 ?_
  refine wp_castoreL (n := 51) (by decide) dX12_init_280 (by decide) (hl_read (by decide +kernel)) (by decide) (hl_read (by decide +kernel)) (by decide) ?_
  refine wp_dup (by decide) dX12_init_281 ?_
  refine wp_bipush (by decide) dX12_init_282 ?_
  refine wp_bipush (by decide) dX12_init_284 ?_
  refine wp_castoreL (n := 51) (by decide) dX12_init_286 (by decide) (hl_read (by decide +kernel)) (by decide) (hl_read (by decide +kernel)) (by decide) ?_
  refine wp_dup (by decide) dX12_init_287 ?_
  refine wp_bipush (by decide) dX12_init_288 ?_
  refine wp_bipush (by decide) dX12_init_290 ?_
  refine wp_castoreL (n := 51) (by decide) dX12_init_292 (by decide) (hl_read (by decide +kernel)) (by decide) (hl_read (by decide +kernel)) (by decide) ?_
  refine wp_dup (by decide) dX12_init_293 ?_
  refine wp_bipush (by decide) dX12_init_294 ?_
  refine wp_bipush (by decide) dX12_init_296 ?_
  refine wp_castoreL (n := 51) (by decide) dX12_init_298 (by decide) (hl_read (by decide +kernel)) (by decide) (hl_read (by decide +kernel)) (by decide) ?_
  refine wp_dup (by decide) dX12_init_299 ?_
  refine wp_bipush (by decide) dX12_init_300 ?_
  refine wp_bipush (by decide) dX12_init_302 ?_
  refine wp_castoreL (n := 51) (by decide) dX12_init_304 (by decide) (hl_read (by decide +kernel)) (by decide) (hl_read (by decide +kernel)) (by decide) ?_
  refine wp_dup (by decide) dX12_init_305 ?_
  refine wp_bipush (by decide) dX12_init_306 ?_
  refine wp_bipush (by decide) dX12_init_308 ?_
  refine wp_castoreL (n := 51) (by decide) dX12_init_310 (by decide) (hl_read (by decide +kernel)) (by decide) (hl_read (by decide +kernel)) (by decide) ?_
  refine wp_dup (by decide) dX12_init_311 ?_
  refine wp_bipush (by decide) dX12_init_312 ?_
  refine wp_bipush (by decide) dX12_init_314 ?_
  refine wp_castoreL (n := 51) (by decide) dX12_init_316 (by decide) (hl_read (by decide +kernel)) (by decide) (hl_read (by decide +kernel)) (by decide) ?_
  refine wp_dup (by decide) dX12_init_317 ?_
  refine wp_bipush (by decide) dX12_init_318 ?_
  refine wp_bipush (by decide) dX12_init_320 ?_
  refine wp_castoreL (n := 51) (by decide) dX12_init_322 (by decide) (hl_read (by decide +kernel)) (by decide) (hl_read (by decide +kernel)) (by decide) ?_
  refine wp_dup (by decide) dX12_init_323 ?_
  refine wp_bipush (by decide) dX12_init_324 ?_
  refine wp_bipush (by decide) dX12_init_326 ?_
  refine wp_castoreL (n := 51) (by decide) dX12_init_328 (by decide) (hl_read (by decide +kernel)) (by decide) (hl_read (by decide +kernel)) (by decide) ?_
  refine wp_dup (by decide) dX12_init_329 ?_
  refine wp_bipush (by decide) dX12_init_330 ?_
  refine wp_bipush (by decide) dX12_init_332 ?_
  refine wp_castoreL (n := 51) (by decide) dX12_init_334 (by decide) (hl_read (by decide +kernel)) (by decide) (hl_read (by decide +kernel)) (by decide) ?_
  refine wp_dup (by decide) dX12_init_335 ?_
  refine wp_bipush (by decide) dX12_init_336 ?_
  refine wp_bipush (by decide) dX12_init_338 ?_
  refine wp_castoreL (n := 51) (by decide) dX12_init_340 (by decide) (hl_read (by decide +kernel)) (by decide) (hl_read (by decide +kernel)) (by decide) ?_
  refine wp_dup (by decide) dX12_init_341 ?_
  refine wp_bipush (by decide) dX12_init_342 ?_
  refine wp_bipush (by decide) dX12_init_344 ?_
  refine wp_castoreL (n := 51) (by decide) dX12_init_346 (by decide) (hl_read (by decide +kernel)) (by decide) (hl_read (by decide +kernel)) (by decide) ?_
  refine wp_dup (by decide) dX12_init_347 ?_
  refine wp_bipush (by decide) dX12_init_348 ?_
  refine wp_bipush (by decide) dX12_init_350 ?_
  refine wp_castoreL (n := 51) (by decide) dX12_init_352 (by decide) (hl_read (by decide +kernel)) (by decide) (hl_read (by decide +kernel)) (by decide) ?_
  refine wp_dup (by decide) dX12_init_353 ?_
  refine wp_bipush (by decide) dX12_init_354 ?_
  refine wp_bipush (by decide) dX12_init_356 ?_
  refine wp_castoreL (n := 51) (by decide) dX12_init_358 (by decide) (hl_read (by decide +kernel)) (by decide) (hl_read (by decide +kernel)) (by decide) ?_
  refine wp_dup (by decide) dX12_init_359 ?_
  refine wp_bipush (by decide) dX12_init_360 ?_
  refine wp_bipush (by decide) dX12_init_362 ?_
  refine wp_castoreL (n := 51) (by decide) dX12_init_364 (by decide) (hl_read (by decide +kernel)) (by decide) (hl_read (by decide +kernel)) (by decide) ?_
  refine wp_dup (by decide) dX12_init_365 ?_
  refine wp_bipush (by decide) dX12_init_366 ?_
  refine wp_bipush (by decide) dX12_init_368 ?_
  refine wp_castoreL (n := 51) (by decide) dX12_init_370 (by decide) (hl_read (by decide +kernel)) (by decide) (hl_read (by decide +kernel)) (by decide) ?_
  refine wp_dup (by decide) dX12_init_371 ?_
  refine wp_bipush (by decide) dX12_init_372 ?_
  refine wp_bipush (by decide) dX12_init_374 ?_
  refine wp_castoreL (n := 51) (by decide) dX12_init_376 (by decide) (hl_read (by decide +kernel)) (by decide) (hl_read (by decide +kernel)) (by decide) ?_
  refine wp_dup (by decide) dX12_init_377 ?_
  refine wp_bipush (by decide) dX12_init_378 ?_
  refine wp_bipush (by decide) dX12_init_380 ?_
  refine wp_castoreL (n := 51) (by decide) dX12_init_382 (by decide) (hl_read (by decide +kernel)) (by decide) (hl_read (by decide +kernel)) (by decide) ?_
  refine wp_dup (by decide) dX12_init_383 ?_
  refine wp_bipush (by decide) dX12_init_384 ?_
  refine wp_bipush (by decide) dX12_init_386 ?_
  refine wp_castoreL (n := 51) (by decide) dX12_init_388 (by decide) (hl_read (by decide +kernel)) (by decide) (hl_read (by decide +kernel)) (by decide) ?_
  refine wp_dup (by decide) dX12_init_389 ?_
  refine wp_bipush (by decide) dX12_init_390 ?_
  refine wp_bipush (by decide) dX12_init_392 ?_
  refine wp_castoreL (n := 51) (by decide) dX12_init_394 (by decide) (hl_read (by decide +kernel)) (by decide) (hl_read (by decide +kernel)) (by decide) ?_
  refine wp_dup (by decide) dX12_init_395 ?_
  refine wp_bipush (by decide) dX12_init_396 ?_
  refine wp_bipush (by decide) dX12_init_398 ?_
  refine wp_castoreL (n := 51) (by decide) dX12_init_400 (by decide) (hl_read (by decide +kernel)) (by decide) (hl_read (by decide +kernel)) (by decide) ?_
  refine wp_dup (by decide) dX12_init_401 ?_
  refine wp_bipush (by decide) dX12_init_402 ?_
  refine wp_bipush (by decide) dX12_init_404 ?_
  refine wp_castoreL (n := 51) (by decide) dX12_init_406 (by decide) (hl_read (by decide +kernel)) (by decide) (hl_read (by decide +kernel)) (by decide) ?_
  refine wp_dup (by decide) dX12_init_407 ?_
  refine wp_bipush (by decide) dX12_init_408 ?_
  refine wp_bipush (by decide) dX12_init_410 ?_
  refine wp_castoreL (n := 51) (by decide) dX12_init_412 (by decide) (hl_read (by decide +kernel)) (by decide) (hl_read (by decide +kernel)) (by decide) ?_
  refine wp_dup (by decide) dX12_init_413 ?_
  refine wp_bipush (by decide) dX12_init_414 ?_
  refine wp_bipush (by decide) dX12_init_416 ?_
  refine wp_castoreL (n := 51) (by decide) dX12_init_418 (by decide) (hl_read (by decide +kernel)) (by decide) (hl_read (by decide +kernel)) (by decide) ?_
  refine wp_dup (by decide) dX12_init_419 ?_
  refine wp_bipush (by decide) dX12_init_420 ?_
  refine wp_bipush (by decide) dX12_init_422 ?_
  refine wp_castoreL (n := 51) (by decide) dX12_init_424 (by decide) (hl_read (by decide +kernel)) (by decide) (hl_read (by decide +kernel)) (by decide) ?_
  refine wp_dup (by decide) dX12_init_425 ?_
  refine wp_bipush (by decide) dX12_init_426 ?_
  refine wp_bipush (by decide) dX12_init_428 ?_
  refine wp_castoreL (n := 51) (by decide) dX12_init_430 (by decide) (hl_read (by decide +kernel)) (by decide) (hl_read (by decide +kernel)) (by decide) ?_
  refine wp_dup (by decide) dX12_init_431 ?_
  refine wp_bipush (by decide) dX12_init_432 ?_
  refine wp_bipush (by decide) dX12_init_434 ?_
  refine wp_castoreL (n := 51) (by decide) dX12_init_436 (by decide) (hl_read (by decide +kernel)) (by decide) (hl_read (by decide +kernel)) (by decide) ?_
  refine wp_dup (by decide) dX12_init_437 ?_
  refine wp_bipush (by decide) dX12_init_438 ?_
  refine wp_bipush (by decide) dX12_init_440 ?_
  refine wp_castoreL (n := 51) (by decide) dX12_init_442 (by decide) (hl_read (by decide +kernel)) (by decide) (hl_read (by decide +kernel)) (by decide) ?_
  refine wp_dup (by decide) dX12_init_443 ?_
  refine wp_bipush (by decide) dX12_init_444 ?_
  refine wp_bipush (by decide) dX12_init_446 ?_
  refine wp_castoreL (n := 51) (by decide) dX12_init_448 (by decide) (hl_read (by decide +kernel)) (by decide) (hl_read (by decide +kernel)) (by decide) ?_
  refine wp_dup (by decide) dX12_init_449 ?_
  refine wp_bipush (by decide) dX12_init_450 ?_
  refine wp_bipush (by decide) dX12_init_452 ?_
  refine wp_castoreL (n := 51) (by decide) dX12_init_454 (by decide) (hl_read (by decide +kernel)) (by decide) (hl_read (by decide +kernel)) (by decide) ?_
  refine wp_dup (by decide) dX12_init_455 ?_
  refine wp_bipush (by decide) dX12_init_456 ?_
  refine wp_bipush (by decide) dX12_init_458 ?_
  refine wp_castoreL (n := 51) (by decide) dX12_init_460 (by decide) (hl_read (by decide +kernel)) (by decide) (hl_read (by decide +kernel)) (by decide) ?_
  refine wp_dup (by decide) dX12_init_461 ?_
  refine wp_bipush (by decide) dX12_init_462 ?_
  refine wp_bipush (by decide) dX12_init_464 ?_
  refine wp_castoreL (n := 51) (by decide) dX12_init_466 (by decide) (hl_read (by decide +kernel)) (by decide) (hl_read (by decide +kernel)) (by decide) ?_
  refine wp_dup (by decide) dX12_init_467 ?_
  refine wp_bipush (by decide) dX12_init_468 ?_
  refine wp_bipush (by decide) dX12_init_470 ?_
  refine wp_castoreL (n := 51) (by decide) dX12_init_472 (by decide) (hl_read (by decide +kernel)) (by decide) (hl_read (by decide +kernel)) (by decide) ?_
  refine wp_dup (by decide) dX12_init_473 ?_
  refine wp_bipush (by decide) dX12_init_474 ?_
  refine wp_bipush (by decide) dX12_init_476 ?_
  refine wp_castoreL (n := 51) (by decide) dX12_init_478 (by decide) (hl_read (by decide +kernel)) (by decide) (hl_read (by decide +kernel)) (by decide) ?_
  refine wp_dup (by decide) dX12_init_479 ?_
  refine wp_bipush (by decide) dX12_init_480 ?_
  refine wp_bipush (by decide) dX12_init_482 ?_
  refine wp_castoreL (n := 51) (by decide) dX12_init_484 (by decide) (hl_read (by decide +kernel)) (by decide) (hl_read (by decide +kernel)) (by decide) ?_
  refine wp_dup (by decide) dX12_init_485 ?_
  refine wp_bipush (by decide) dX12_init_486 ?_
  refine wp_bipush (by decide) dX12_init_488 ?_
  refine wp_castoreL (n := 51) (by decide) dX12_init_490 (by decide) (hl_read (by decide +kernel)) (by decide) (hl_read (by decide +kernel)) (by decide) ?_
  refine wp_dup (by decide) dX12_init_491 ?_
  refine wp_bipush (by decide) dX12_init_492 ?_
  refine wp_bipush (by decide) dX12_init_494 ?_
  refine wp_castoreL (n := 51) (by decide) dX12_init_496 (by decide) (hl_read (by decide +kernel)) (by decide) (hl_read (by decide +kernel)) (by decide) ?_
  refine wp_dup (by decide) dX12_init_497 ?_
  refine wp_bipush (by decide) dX12_init_498 ?_
  refine wp_bipush (by decide) dX12_init_500 ?_
  refine wp_castoreL (n := 51) (by decide) dX12_init_502 (by decide) (hl_read (by decide +kernel)) (by decide) (hl_read (by decide +kernel)) (by decide) ?_
  refine wp_dup (by decide) dX12_init_503 ?_
  refine wp_bipush (by decide) dX12_init_504 ?_
  refine wp_bipush (by decide) dX12_init_506 ?_
  refine wp_castoreL (n := 51) (by decide) dX12_init_508 (by decide) (hl_read (by decide +kernel)) (by decide) (hl_read (by decide +kernel)) (by decide) ?_
  refine wp_dup (by decide) dX12_init_509 ?_
  refine wp_bipush (by decide) dX12_init_510 ?_
  refine wp_bipush (by decide) dX12_init_512 ?_
  refine wp_castoreL (n := 51) (by decide) dX12_init_514 (by decide) (hl_read (by decide +kernel)) (by decide) (hl_read (by decide +kernel)) (by decide) ?_
  refine wp_dup (by decide) dX12_init_515 ?_
  refine wp_bipush (by decide) dX12_init_516 ?_
  refine wp_bipush (by decide) dX12_init_518 ?_
  refine wp_castoreL (n := 51) (by decide) dX12_init_520 (by decide) (hl_read (by decide +kernel)) (by decide) (hl_read (by decide +kernel)) (by decide) ?_
  refine wp_dup (by decide) dX12_init_521 ?_
  refine wp_bipush (by decide) dX12_init_522 ?_
  refine wp_bipush (by decide) dX12_init_524 ?_
  refine wp_castoreL (n := 51) (by decide) dX12_init_526 (by decide) (hl_read (by decide +kernel)) (by decide) (hl_read (by decide +kernel)) (by decide) ?_
  refine wp_dup (by decide) dX12_init_527 ?_
  refine wp_bipush (by decide) dX12_init_528 ?_
  refine wp_bipush (by decide) dX12_init_530 ?_
  refine wp_castoreL (n := 51) (by decide) dX12_init_532 (by decide) (hl_read (by decide +kernel)) (by decide) (hl_read (by decide +kernel)) (by decide) ?_
  refine wp_dup (by decide) dX12_init_533 ?_
  refine wp_bipush (by decide) dX12_init_534 ?_
  refine wp_bipush (by decide) dX12_init_536 ?_
  refine wp_castoreL (n := 51) (by decide) dX12_init_538 (by decide) (hl_read (by decide +kernel)) (by decide) (hl_read (by decide +kernel)) (by decide) ?_
  refine wp_putfL (z := 13) (kI := 35) fX12_173 rfl (fun _ q => by cases q; rfl) dX12_init_539 (by decide) (hl_read (by decide +kernel)) rfl rfl ?_
  refine wp_aload_n rfl rfl dX12_init_542 ?_
  refine wp_bipush (by decide) dX12_init_543 ?_
  refine wp_newarrL (a := 236) (code := 20) (b' := 769) dX12_init_545 rfl ac_int rfl (by decide) (by decide) (hl_newM hz (by decide) (by decide +kernel)) (by decide) (Nat.le_of_ble_eq_true rfl) ?_
  refine wp_dup (by decide) dX12_init_547 ?_
  refine wp_iconst dX12_init_548 ?_
  refine wp_iconst dX12_init_549 ?_
  refine wp_iastoreL (n := 13) dX12_init_550 (by decide) (hl_read (by decide +kernel)) (by decide) (hl_read (by decide +kernel)) (by decide) ?_
  refine wp_dup (by decide) dX12_init_551 ?_
  refine wp_iconst dX12_init_552 ?_
  refine wp_iconst dX12_init_553 ?_
  refine wp_iastoreL (n := 13) dX12_init_554 (by decide) (hl_read (by decide +kernel)) (by decide) (hl_read (by decide +kernel)) (by decide) ?_
  refine wp_dup (by decide) dX12_init_555 ?_
  refine wp_iconst dX12_init_556 ?_
  refine wp_bipush (by decide) dX12_init_557 ?_
  refine wp_iastoreL (n := 13) dX12_init_559 (by decide) (hl_read (by decide +kernel)) (by decide) (hl_read (by decide +kernel)) (by decide) ?_
  refine wp_dup (by decide) dX12_init_560 ?_
  refine wp_iconst dX12_init_561 ?_
  refine wp_bipush (by decide) dX12_init_562 ?_
  refine wp_iastoreL (n := 13) dX12_init_564 (by decide) (hl_read (by decide +kernel)) (by decide) (hl_read (by decide +kernel)) (by decide) ?_
  refine wp_dup (by decide) dX12_init_565 ?_
  refine wp_iconst dX12_init_566 ?_
  refine wp_bipush (by decide) dX12_init_567 ?_
  refine wp_iastoreL (n := 13) dX12_init_569 (by decide) (hl_read (by decide +kernel)) (by decide) (hl_read (by decide +kernel)) (by decide) ?_
  refine wp_dup (by decide) dX12_init_570 ?_
  refine wp_iconst dX12_init_571 ?_
  refine wp_bipush (by decide) dX12_init_572 ?_
  refine wp_iastoreL (n := 13) dX12_init_574 (by decide) (hl_read (by decide +kernel)) (by decide) (hl_read (by decide +kernel)) (by decide) ?_
  refine wp_dup (by decide) dX12_init_575 ?_
  refine wp_bipush (by decide) dX12_init_576 ?_
  refine wp_bipush (by decide) dX12_init_578 ?_
  refine wp_iastoreL (n := 13) dX12_init_580 (by decide) (hl_read (by decide +kernel)) (by decide) (hl_read (by decide +kernel)) (by decide) ?_
  refine wp_dup (by decide) dX12_init_581 ?_
  refine wp_bipush (by decide) dX12_init_582 ?_
  refine wp_bipush (by decide) dX12_init_584 ?_
  refine wp_iastoreL (n := 13) dX12_init_586 (by decide) (hl_read (by decide +kernel)) (by decide) (hl_read (by decide +kernel)) (by decide) ?_
  refine wp_dup (by decide) dX12_init_587 ?_
  refine wp_bipush (by decide) dX12_init_588 ?_
  refine wp_bipush (by decide) dX12_init_590 ?_
  refine wp_iastoreL (n := 13) dX12_init_592 (by decide) (hl_read (by decide +kernel)) (by decide) (hl_read (by decide +kernel)) (by decide) ?_
  refine wp_dup (by decide) dX12_init_593 ?_
  refine wp_bipush (by decide) dX12_init_594 ?_
  refine wp_bipush (by decide) dX12_init_596 ?_
  refine wp_iastoreL (n := 13) dX12_init_598 (by decide) (hl_read (by decide +kernel)) (by decide) (hl_read (by decide +kernel)) (by decide) ?_
  refine wp_dup (by decide) dX12_init_599 ?_
  refine wp_bipush (by decide) dX12_init_600 ?_
  refine wp_bipush (by decide) dX12_init_602 ?_
  refine wp_iastoreL (n := 13) dX12_init_604 (by decide) (hl_read (by decide +kernel)) (by decide) (hl_read (by decide +kernel)) (by decide) ?_
  refine wp_dup (by decide) dX12_init_605 ?_
  refine wp_bipush (by decide) dX12_init_606 ?_
  refine wp_bipush (by decide) dX12_init_608 ?_
  refine wp_iastoreL (n := 13) dX12_init_610 (by decide) (hl_read (by decide +kernel)) (by decide) (hl_read (by decide +kernel)) (by decide) ?_
  refine wp_dup (by decide) dX12_init_611 ?_
  refine wp_bipush (by decide) dX12_init_612 ?_
  refine wp_bipush (by decide) dX12_init_614 ?_
  refine wp_iastoreL (n := 13) dX12_init_616 (by decide) (hl_read (by decide +kernel)) (by decide) (hl_read (by decide +kernel)) (by decide) ?_
  refine wp_putfL (z := 13) (kI := 36) fX12_177 rfl (fun _ q => by cases q; rfl) dX12_init_617 (by decide) (hl_read (by decide +kernel)) rfl rfl ?_
  refine wp_aload_n rfl rfl dX12_init_620 ?_
  refine wp_bipush (by decide) dX12_init_621 ?_
  refine wp_newarrL (a := 237) (code := 20) (b' := 755) dX12_init_623 rfl ac_int rfl (by decide) (by decide) (hl_newM hz (by decide) (by decide +kernel)) (by decide) (Nat.le_of_ble_eq_true rfl) ?_
  refine wp_dup (by decide) dX12_init_625 ?_
  refine wp_iconst dX12_init_626 ?_
  refine wp_iconst dX12_init_627 ?_
  refine wp_iastoreL (n := 13) dX12_init_628 (by decide) (hl_read (by decide +kernel)) (by decide) (hl_read (by decide +kernel)) (by decide) ?_
  refine wp_dup (by decide) dX12_init_629 ?_
  refine wp_iconst dX12_init_630 ?_
  refine wp_iconst dX12_init_631 ?_
  refine wp_iastoreL (n := 13) dX12_init_632 (by decide) (hl_read (by decide +kernel)) (by decide) (hl_read (by decide +kernel)) (by decide) ?_
  refine wp_dup (by decide) dX12_init_633 ?_
  refine wp_iconst dX12_init_634 ?_
  refine wp_iconst dX12_init_635 ?_
  refine wp_iastoreL (n := 13) dX12_init_636 (by decide) (hl_read (by decide +kernel)) (by decide) (hl_read (by decide +kernel)) (by decide) ?_
  refine wp_dup (by decide) dX12_init_637 ?_
  refine wp_iconst dX12_init_638 ?_
  refine wp_iconst dX12_init_639 ?_
  refine wp_iastoreL (n := 13) dX12_init_640 (by decide) (hl_read (by decide +kernel)) (by decide) (hl_read (by decide +kernel)) (by decide) ?_
  refine wp_dup (by decide) dX12_init_641 ?_
  refine wp_iconst dX12_init_642 ?_
  refine wp_iconst dX12_init_643 ?_
  refine wp_iastoreL (n := 13) dX12_init_644 (by decide) (hl_read (by decide +kernel)) (by decide) (hl_read (by decide +kernel)) (by decide) ?_
  refine wp_dup (by decide) dX12_init_645 ?_
  refine wp_iconst dX12_init_646 ?_
  refine wp_bipush (by decide) dX12_init_647 ?_
  refine wp_iastoreL (n := 13) dX12_init_649 (by decide) (hl_read (by decide +kernel)) (by decide) (hl_read (by decide +kernel)) (by decide) ?_
  refine wp_dup (by decide) dX12_init_650 ?_
  refine wp_bipush (by decide) dX12_init_651 ?_
  refine wp_bipush (by decide) dX12_init_653 ?_
  refine wp_iastoreL (n := 13) dX12_init_655 (by decide) (hl_read (by decide +kernel)) (by decide) (hl_read (by decide +kernel)) (by decide) ?_
  refine wp_dup (by decide) dX12_init_656 ?_
  refine wp_bipush (by decide) dX12_init_657 ?_
  refine wp_iconst dX12_init_659 ?_
  refine wp_iastoreL (n := 13) dX12_init_660 (by decide) (hl_read (by decide +kernel)) (by decide) (hl_read (by decide +kernel)) (by decide) ?_
  refine wp_dup (by decide) dX12_init_661 ?_
  refine wp_bipush (by decide) dX12_init_662 ?_
  refine wp_iconst dX12_init_664 ?_
  refine wp_iastoreL (n := 13) dX12_init_665 (by decide) (hl_read (by decide +kernel)) (by decide) (hl_read (by decide +kernel)) (by decide) ?_
  refine wp_dup (by decide) dX12_init_666 ?_
  refine wp_bipush (by decide) dX12_init_667 ?_
  refine wp_iconst dX12_init_669 ?_
  refine wp_iastoreL (n := 13) dX12_init_670 (by decide) (hl_read (by decide +kernel)) (by decide) (hl_read (by decide +kernel)) (by decide) ?_
  refine wp_dup (by decide) dX12_init_671 ?_
  refine wp_bipush (by decide) dX12_init_672 ?_
  refine wp_iconst dX12_init_674 ?_
  refine wp_iastoreL (n := 13) dX12_init_675 (by decide) (hl_read (by decide +kernel)) (by decide) (hl_read (by decide +kernel)) (by decide) ?_
  refine wp_dup (by decide) dX12_init_676 ?_
  refine wp_bipush (by decide) dX12_init_677 ?_
  refine wp_iconst dX12_init_679 ?_
  refine wp_iastoreL (n := 13) dX12_init_680 (by decide) (hl_read (by decide +kernel)) (by decide) (hl_read (by decide +kernel)) (by decide) ?_
  refine wp_dup (by decide) dX12_init_681 ?_
  refine wp_bipush (by decide) dX12_init_682 ?_
  refine wp_iconst dX12_init_684 ?_
  refine wp_iastoreL (n := 13) dX12_init_685 (by decide) (hl_read (by decide +kernel)) (by decide) (hl_read (by decide +kernel)) (by decide) ?_
  refine wp_putfL (z := 13) (kI := 37) fX12_180 rfl (fun _ q => by cases q; rfl) dX12_init_686 (by decide) (hl_read (by decide +kernel)) rfl rfl ?_
  refine wp_aload_n rfl rfl dX12_init_689 ?_
  refine wp_sipush (by decide) dX12_init_690 ?_
  refine wp_newarrL (a := 242) (code := 20) (b' := 554) dX12_init_693 rfl ac_int rfl (by decide) (by decide) (hl_newM hz (by decide) (by decide +kernel)) (by decide) (Nat.le_of_ble_eq_true rfl) ?_
  refine wp_putfL (z := 13) (kI := 42) fX12_183 rfl (fun _ q => by cases q; rfl) dX12_init_695 (by decide) (hl_read (by decide +kernel)) rfl rfl ?_
  refine wp_aload_n rfl rfl dX12_init_698 ?_
  refine wp_sipush (by decide) dX12_init_699 ?_
  refine wp_newarrL (a := 244) (code := 20) (b' := 353) dX12_init_702 rfl ac_int rfl (by decide) (by decide) (hl_newM hz (by decide) (by decide +kernel)) (by decide) (Nat.le_of_ble_eq_true rfl) ?_
  refine wp_putfL (z := 13) (kI := 44) fX12_186 rfl (fun _ q => by cases q; rfl) dX12_init_704 (by decide) (hl_read (by decide +kernel)) rfl rfl ?_
  refine wp_aload_n rfl rfl dX12_init_707 ?_
  refine wp_bipush (by decide) dX12_init_708 ?_
  refine wp_newarrL (a := 245) (code := 22) (b' := 240) dX12_init_710 rfl ac_boolean rfl (by decide) (by decide) (hl_newM hz (by decide) (by decide +kernel)) (by decide) (Nat.le_of_ble_eq_true rfl) ?_
  refine wp_putfL (z := 13) (kI := 45) fX12_189 rfl (fun _ q => by cases q; rfl) dX12_init_712 (by decide) (hl_read (by decide +kernel)) rfl rfl ?_
  refine wp_aload_n rfl rfl dX12_init_715 ?_
  refine wp_bipush (by decide) dX12_init_716 ?_
  refine wp_newarrL (a := 246) (code := 20) (b' := 225) dX12_init_718 rfl ac_int rfl (by decide) (by decide) (hl_newM hz (by decide) (by decide +kernel)) (by decide) (Nat.le_of_ble_eq_true rfl) ?_
  refine wp_putfL (z := 13) (kI := 46) fX12_192 rfl (fun _ q => by cases q; rfl) dX12_init_720 (by decide) (hl_read (by decide +kernel)) rfl rfl ?_
  refine wp_aload_n rfl rfl dX12_init_723 ?_
  refine wp_bipush (by decide) dX12_init_724 ?_
  refine wp_newarrL (a := 247) (code := 20) (b' := 216) dX12_init_726 rfl ac_int rfl (by decide) (by decide) (hl_newM hz (by decide) (by decide +kernel)) (by decide) (Nat.le_of_ble_eq_true rfl) ?_
  refine wp_putfL (z := 13) (kI := 47) fX12_195 rfl (fun _ q => by cases q; rfl) dX12_init_728 (by decide) (hl_read (by decide +kernel)) rfl rfl ?_
  refine wp_aload_n rfl rfl dX12_init_731 ?_
  refine wp_bipush (by decide) dX12_init_732 ?_
  refine wp_newarrL (a := 250) (code := 22) (b' := 201) dX12_init_734 rfl ac_boolean rfl (by decide) (by decide) (hl_newM hz (by decide) (by decide +kernel)) (by decide) (Nat.le_of_ble_eq_true rfl) ?_
  refine wp_putfL (z := 13) (kI := 50) fX12_198 rfl (fun _ q => by cases q; rfl) dX12_init_736 (by decide) (hl_read (by decide +kernel)) rfl rfl ?_
  refine wp_aload_n rfl rfl dX12_init_739 ?_
  refine wp_bipush (by decide) dX12_init_740 ?_
  refine wp_newarrL (a := 251) (code := 20) (b' := 186) dX12_init_742 rfl ac_int rfl (by decide) (by decide) (hl_newM hz (by decide) (by decide +kernel)) (by decide) (Nat.le_of_ble_eq_true rfl) ?_
  refine wp_putfL (z := 13) (kI := 51) fX12_201 rfl (fun _ q => by cases q; rfl) dX12_init_744 (by decide) (hl_read (by decide +kernel)) rfl rfl ?_
  refine wp_aload_n rfl rfl dX12_init_747 ?_
  refine wp_bipush (by decide) dX12_init_748 ?_
  refine wp_newarrL (a := 252) (code := 22) (b' := 171) dX12_init_750 rfl ac_boolean rfl (by decide) (by decide) (hl_newM hz (by decide) (by decide +kernel)) (by decide) (Nat.le_of_ble_eq_true rfl) ?_
  refine wp_putfL (z := 13) (kI := 52) fX12_204 rfl (fun _ q => by cases q; rfl) dX12_init_752 (by decide) (hl_read (by decide +kernel)) rfl rfl ?_
  refine wp_aload_n rfl rfl dX12_init_755 ?_
  refine wp_iconst dX12_init_756 ?_
  refine wp_newarrL (a := 253) (code := 20) (b' := 166) dX12_init_757 rfl ac_int rfl (by decide) (by decide) (hl_newM hz (by decide) (by decide +kernel)) (by decide) (Nat.le_of_ble_eq_true rfl) ?_
  refine wp_dup (by decide) dX12_init_759 ?_
  refine wp_iconst dX12_init_760 ?_
  refine wp_iconst dX12_init_761 ?_
  refine wp_iastoreL (n := 4) dX12_init_762 (by decide) (hl_read (by decide +kernel)) (by decide) (hl_read (by decide +kernel)) (by decide) ?_
  refine wp_dup (by decide) dX12_init_763 ?_
  refine wp_iconst dX12_init_764 ?_
  refine wp_iconst dX12_init_765 ?_
  refine wp_iastoreL (n := 4) dX12_init_766 (by decide) (hl_read (by decide +kernel)) (by decide) (hl_read (by decide +kernel)) (by decide) ?_
  refine wp_dup (by decide) dX12_init_767 ?_
  refine wp_iconst dX12_init_768 ?_
  refine wp_iconst dX12_init_769 ?_
  refine wp_iastoreL (n := 4) dX12_init_770 (by decide) (hl_read (by decide +kernel)) (by decide) (hl_read (by decide +kernel)) (by decide) ?_
  refine wp_dup (by decide) dX12_init_771 ?_
  refine wp_iconst dX12_init_772 ?_
  refine wp_iconst dX12_init_773 ?_
  refine wp_iastoreL (n := 4) dX12_init_774 (by decide) (hl_read (by decide +kernel)) (by decide) (hl_read (by decide +kernel)) (by decide) ?_
  refine wp_putfL (z := 13) (kI := 53) fX12_113 rfl (fun _ q => by cases q; rfl) dX12_init_775 (by decide) (hl_read (by decide +kernel)) rfl rfl ?_
  refine wp_aload_n rfl rfl dX12_init_778 ?_
  refine wp_iconst dX12_init_779 ?_
  refine wp_newarrL (a := 254) (code := 20) (b' := 161) dX12_init_780 rfl ac_int rfl (by decide) (by decide) (hl_newM hz (by decide) (by decide +kernel)) (by decide) (Nat.le_of_ble_eq_true rfl) ?_
  refine wp_putfL (z := 13) (kI := 54) fX12_116 rfl (fun _ q => by cases q; rfl) dX12_init_782 (by decide) (hl_read (by decide +kernel)) rfl rfl ?_
  refine wp_aload_n rfl rfl dX12_init_785 ?_
  refine wp_sipush (by decide) dX12_init_786 ?_
  refine wp_newarrL (a := 255) (code := 20) (b' := 0) dX12_init_789 rfl ac_int rfl (by decide) (by decide) (hl_newM hz (by decide) (by decide +kernel)) (by decide) (Nat.le_of_ble_eq_true rfl) ?_
  refine wp_putfL (z := 13) (kI := 55) fX12_119 rfl (fun _ q => by cases q; rfl) dX12_init_791 (by decide) (hl_read (by decide +kernel)) rfl rfl ?_
  refine wp_aload_n rfl rfl dX12_init_794 ?_
  refine wp_iconst dX12_init_795 ?_
  refine wp_bipush (by decide) dX12_init_796 ?_
  refine wp_iconst dX12_init_798 ?_
  refine wp_cV3v (ci := 12) okX12_add rfl rfl wX12_207 dX12_init_799 (Nat.le_of_ble_eq_true rfl) (Nat.le_of_ble_eq_true rfl) (by decide) (hl_read (by decide +kernel)) (radd0 (a := 0) (i := 0) (a1 := 1) (by decide) (by decide) (hl_read (by decide +kernel)) (hl_read (by decide +kernel)) (hl_read (by decide +kernel)) (hl_read (by decide +kernel)) (hl_read (by decide +kernel)) (hl_read (by decide +kernel)) (hl_read (by decide +kernel)) (hl_read (by decide +kernel)) (hl_read (by decide +kernel)) (hl_read (by decide +kernel)) (hl_read (by decide +kernel)) (by decide) (by decide) (by decide) (by decide)) (Nat.zero_le _) ?_
  rw [hl_app]
  simp only [List.cons_append, List.nil_append]
  refine wp_aload_n rfl rfl dX12_init_802 ?_
  refine wp_iconst dX12_init_803 ?_
  refine wp_sipush (by decide) dX12_init_804 ?_
  refine wp_sipush (by decide) dX12_init_807 ?_
  refine wp_cV3v (ci := 12) okX12_add rfl rfl wX12_207 dX12_init_810 (Nat.le_of_ble_eq_true rfl) (Nat.le_of_ble_eq_true rfl) (by decide) (hl_read (by decide +kernel)) (radd0 (a := 1) (i := 1) (a1 := 2) (by decide) (by decide) (hl_read (by decide +kernel)) (hl_read (by decide +kernel)) (hl_read (by decide +kernel)) (hl_read (by decide +kernel)) (hl_read (by decide +kernel)) (hl_read (by decide +kernel)) (hl_read (by decide +kernel)) (hl_read (by decide +kernel)) (hl_read (by decide +kernel)) (hl_read (by decide +kernel)) (hl_read (by decide +kernel)) (by decide) (by decide) (by decide) (by decide)) (Nat.zero_le _) ?_
  rw [hl_app]
  simp only [List.cons_append, List.nil_append]
  refine wp_aload_n rfl rfl dX12_init_813 ?_
  refine wp_iconst dX12_init_814 ?_
  refine wp_bipush (by decide) dX12_init_815 ?_
  refine wp_iconst dX12_init_817 ?_
  refine wp_cV3v (ci := 12) okX12_add rfl rfl wX12_207 dX12_init_818 (Nat.le_of_ble_eq_true rfl) (Nat.le_of_ble_eq_true rfl) (by decide) (hl_read (by decide +kernel)) (radd0 (a := 2) (i := 2) (a1 := 3) (by decide) (by decide) (hl_read (by decide +kernel)) (hl_read (by decide +kernel)) (hl_read (by decide +kernel)) (hl_read (by decide +kernel)) (hl_read (by decide +kernel)) (hl_read (by decide +kernel)) (hl_read (by decide +kernel)) (hl_read (by decide +kernel)) (hl_read (by decide +kernel)) (hl_read (by decide +kernel)) (hl_read (by decide +kernel)) (by decide) (by decide) (by decide) (by decide)) (Nat.zero_le _) ?_
  rw [hl_app]
  simp only [List.cons_append, List.nil_append]
  refine wp_aload_n rfl rfl dX12_init_821 ?_
  refine wp_iconst dX12_init_822 ?_
  refine wp_sipush (by decide) dX12_init_823 ?_
  refine wp_bipush (by decide) dX12_init_826 ?_
  refine wp_cV3v (ci := 12) okX12_add rfl rfl wX12_207 dX12_init_828 (Nat.le_of_ble_eq_true rfl) (Nat.le_of_ble_eq_true rfl) (by decide) (hl_read (by decide +kernel)) (radd0 (a := 0) (i := 160) (a1 := 1) (by decide) (by decide) (hl_read (by decide +kernel)) (hl_read (by decide +kernel)) (hl_read (by decide +kernel)) (hl_read (by decide +kernel)) (hl_read (by decide +kernel)) (hl_read (by decide +kernel)) (hl_read (by decide +kernel)) (hl_read (by decide +kernel)) (hl_read (by decide +kernel)) (hl_read (by decide +kernel)) (hl_read (by decide +kernel)) (by decide) (by decide) (by decide) (by decide)) (Nat.zero_le _) ?_
  rw [hl_app]
  simp only [List.cons_append, List.nil_append]
  refine wp_aload_n rfl rfl dX12_init_831 ?_
  refine wp_iconst dX12_init_832 ?_
  refine wp_bipush (by decide) dX12_init_833 ?_
  refine wp_iconst dX12_init_835 ?_
  refine wp_cV3v (ci := 12) okX12_add rfl rfl wX12_207 dX12_init_836 (Nat.le_of_ble_eq_true rfl) (Nat.le_of_ble_eq_true rfl) (by decide) (hl_read (by decide +kernel)) (radd0 (a := 1) (i := 161) (a1 := 2) (by decide) (by decide) (hl_read (by decide +kernel)) (hl_read (by decide +kernel)) (hl_read (by decide +kernel)) (hl_read (by decide +kernel)) (hl_read (by decide +kernel)) (hl_read (by decide +kernel)) (hl_read (by decide +kernel)) (hl_read (by decide +kernel)) (hl_read (by decide +kernel)) (hl_read (by decide +kernel)) (hl_read (by decide +kernel)) (by decide) (by decide) (by decide) (by decide)) (Nat.zero_le _) ?_
  rw [hl_app]
  simp only [List.cons_append, List.nil_append]
  refine wp_aload_n rfl rfl dX12_init_839 ?_
  refine wp_iconst dX12_init_840 ?_
  refine wp_bipush (by decide) dX12_init_841 ?_
  refine wp_iconst dX12_init_843 ?_
  refine wp_cV3v (ci := 12) okX12_add rfl rfl wX12_207 dX12_init_844 (Nat.le_of_ble_eq_true rfl) (Nat.le_of_ble_eq_true rfl) (by decide) (hl_read (by decide +kernel)) (radd0 (a := 2) (i := 162) (a1 := 3) (by decide) (by decide) (hl_read (by decide +kernel)) (hl_read (by decide +kernel)) (hl_read (by decide +kernel)) (hl_read (by decide +kernel)) (hl_read (by decide +kernel)) (hl_read (by decide +kernel)) (hl_read (by decide +kernel)) (hl_read (by decide +kernel)) (hl_read (by decide +kernel)) (hl_read (by decide +kernel)) (hl_read (by decide +kernel)) (by decide) (by decide) (by decide) (by decide)) (Nat.zero_le _) ?_
  rw [hl_app]
  simp only [List.cons_append, List.nil_append]
  refine wp_aload_n rfl rfl dX12_init_847 ?_
  refine wp_iconst dX12_init_848 ?_
  refine wp_bipush (by decide) dX12_init_849 ?_
  refine wp_iconst dX12_init_851 ?_
  refine wp_cV3v (ci := 12) okX12_add rfl rfl wX12_207 dX12_init_852 (Nat.le_of_ble_eq_true rfl) (Nat.le_of_ble_eq_true rfl) (by decide) (hl_read (by decide +kernel)) (radd0 (a := 0) (i := 320) (a1 := 1) (by decide) (by decide) (hl_read (by decide +kernel)) (hl_read (by decide +kernel)) (hl_read (by decide +kernel)) (hl_read (by decide +kernel)) (hl_read (by decide +kernel)) (hl_read (by decide +kernel)) (hl_read (by decide +kernel)) (hl_read (by decide +kernel)) (hl_read (by decide +kernel)) (hl_read (by decide +kernel)) (hl_read (by decide +kernel)) (by decide) (by decide) (by decide) (by decide)) (Nat.zero_le _) ?_
  rw [hl_app]
  simp only [List.cons_append, List.nil_append]
  refine wp_aload_n rfl rfl dX12_init_855 ?_
  refine wp_iconst dX12_init_856 ?_
  refine wp_putL (z := 13) (kI := 30) fX12_211 dX12_init_857 (by decide) (hl_read (by decide +kernel)) rfl rfl ?_
  refine wp_vret dX12_init_860 rfl ?_
  exact hQ
