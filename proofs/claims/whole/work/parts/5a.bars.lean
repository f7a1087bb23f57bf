/-! ===== barred, bar, taken: class, reference, pairs ===== -/
theorem ndA_g {u : gT} {j : Nat} {h m : mH} {d b : Nat} (H : Inv j m) (e : Cl h m) (hS : St h) {n : Int} (hn : InI n) : Det (gX (gq u)) MX11_findAsking (d + 1) b [(2, 1), (0, n)] h (2, if 0 ≤ n ∧ n ≤ h 1 13 - 1 then h 4 n else -1) h := by
  have hs := H.ns
  have e1 := H.n13
  have e2 := e 1 13 (by omega)
  exact s_X11_findAsking hS hn (by omega) (by omega)
theorem barred_f1 {u : gT} {j : Nat} {h m : mH} {d b : Nat} (H : Inv j m) (e : Cl h m) (hS : St h) {r a : Int} (ir : InI r) (ia : InI a) (q : ¬ (0 ≤ r ∧ r < m 200 6)) : Det (gX (gq u)) MX11_barred (d + 5) b [(2, 1), (0, r), (0, a)] h (0, -2) h := by
  intro Q hQ
  have hn := H.ns
  have e12 := H.n12
  have e13 := H.n13
  have e11 := H.n11
  show WP (gX (gq u)) MX11_barred (d + 5) b Q 0 [(2, 1), (0, r), (0, a), (9, 0), (9, 0)] [] h
  refine wp_aload_n rfl rfl dX11_barred_0 ?_
  refine wp_iload_n rfl rfl dX11_barred_1 ?_
  refine wp_cV1 (ci := 11) okX11_findReader rfl rfl wX11_138 dX11_barred_2 rfl (Nat.le_of_ble_eq_true rfl) (Nat.le_of_ble_eq_true rfl) (by first | omega | (simp (disch := omega) only [up2_ne, up2_eq, e, e11, e12, e13, H.a4, H.az, H.r3, H.rz, st_1_m1 hS, st_1_m1 H.1]; first | done | omega)) (by first | assumption | (simp (disch := omega) only [up2_ne, up2_eq, e, e11, e12, e13, H.a4, H.az, H.r3, H.rz, st_1_m1 hS, st_1_m1 H.1]; first | done | rfl | omega)) (ndR_f H e hS ir q) (Nat.zero_le _) ?_
  try simp (disch := omega) only [up2_ne, up2_eq, e, e11, e12, e13, H.a4, H.az, H.r3, H.rz, st_1_m1 hS, st_1_m1 H.1]
  refine wp_astore_n rfl dX11_barred_5 rfl (Nat.le_of_ble_eq_true rfl) rfl ?_
  try simp only [List.set_cons_zero, List.set_cons_succ]
  refine wp_aload_n rfl rfl dX11_barred_6 ?_
  refine wp_iload_n rfl rfl dX11_barred_7 ?_
  refine wp_cV1 (ci := 11) okX11_findAsking rfl rfl wX11_200 dX11_barred_8 rfl (Nat.le_of_ble_eq_true rfl) (Nat.le_of_ble_eq_true rfl) (by first | omega | (simp (disch := omega) only [up2_ne, up2_eq, e, e11, e12, e13, H.a4, H.az, H.r3, H.rz, st_1_m1 hS, st_1_m1 H.1]; first | done | omega)) (by first | assumption | (simp (disch := omega) only [up2_ne, up2_eq, e, e11, e12, e13, H.a4, H.az, H.r3, H.rz, st_1_m1 hS, st_1_m1 H.1]; first | done | rfl | omega)) (ndA_g H e hS ia) (Nat.zero_le _) ?_
  try simp (disch := omega) only [up2_ne, up2_eq, e, e11, e12, e13, H.a4, H.az, H.r3, H.rz, st_1_m1 hS, st_1_m1 H.1]
  refine wp_astore dX11_barred_11 rfl (Nat.le_of_ble_eq_true rfl) rfl ?_
  try simp only [List.set_cons_zero, List.set_cons_succ]
  refine wp_aload_n rfl rfl dX11_barred_13 ?_
  refine wp_ifnull (tgt := 22) dX11_barred_14 (by decide) (fun hx => ?_) (fun hx => absurd rfl hx)
  refine wp_bipush (by decide) dX11_barred_22 ?_
  refine wp_iret dX11_barred_24 rfl ?_
  exact hQ
theorem barred_f2 {u : gT} {j : Nat} {h m : mH} {d b : Nat} (H : Inv j m) (e : Cl h m) (hS : St h) {r : Int} (r0 : 0 ≤ r) (r1 : r < m 200 6) {a : Int} (ia : InI a) (q : ¬ (0 ≤ a ∧ a < m 200 10)) : Det (gX (gq u)) MX11_barred (d + 5) b [(2, 1), (0, r), (0, a)] h (0, -2) h := by
  intro Q hQ
  have hn := H.ns
  have e12 := H.n12
  have e13 := H.n13
  have e11 := H.n11
  show WP (gX (gq u)) MX11_barred (d + 5) b Q 0 [(2, 1), (0, r), (0, a), (9, 0), (9, 0)] [] h
  refine wp_aload_n rfl rfl dX11_barred_0 ?_
  refine wp_iload_n rfl rfl dX11_barred_1 ?_
  refine wp_cV1 (ci := 11) okX11_findReader rfl rfl wX11_138 dX11_barred_2 rfl (Nat.le_of_ble_eq_true rfl) (Nat.le_of_ble_eq_true rfl) (by first | omega | (simp (disch := omega) only [up2_ne, up2_eq, e, e11, e12, e13, H.a4, H.az, H.r3, H.rz, st_1_m1 hS, st_1_m1 H.1]; first | done | omega)) (by first | assumption | (simp (disch := omega) only [up2_ne, up2_eq, e, e11, e12, e13, H.a4, H.az, H.r3, H.rz, st_1_m1 hS, st_1_m1 H.1]; first | done | rfl | omega)) (ndR_t H e hS r0 r1) (Nat.zero_le _) ?_
  try simp (disch := omega) only [up2_ne, up2_eq, e, e11, e12, e13, H.a4, H.az, H.r3, H.rz, st_1_m1 hS, st_1_m1 H.1]
  refine wp_astore_n rfl dX11_barred_5 rfl (Nat.le_of_ble_eq_true rfl) rfl ?_
  try simp only [List.set_cons_zero, List.set_cons_succ]
  refine wp_aload_n rfl rfl dX11_barred_6 ?_
  refine wp_iload_n rfl rfl dX11_barred_7 ?_
  refine wp_cV1 (ci := 11) okX11_findAsking rfl rfl wX11_200 dX11_barred_8 rfl (Nat.le_of_ble_eq_true rfl) (Nat.le_of_ble_eq_true rfl) (by first | omega | (simp (disch := omega) only [up2_ne, up2_eq, e, e11, e12, e13, H.a4, H.az, H.r3, H.rz, st_1_m1 hS, st_1_m1 H.1]; first | done | omega)) (by first | assumption | (simp (disch := omega) only [up2_ne, up2_eq, e, e11, e12, e13, H.a4, H.az, H.r3, H.rz, st_1_m1 hS, st_1_m1 H.1]; first | done | rfl | omega)) (ndA_f H e hS ia q) (Nat.zero_le _) ?_
  try simp (disch := omega) only [up2_ne, up2_eq, e, e11, e12, e13, H.a4, H.az, H.r3, H.rz, st_1_m1 hS, st_1_m1 H.1]
  refine wp_astore dX11_barred_11 rfl (Nat.le_of_ble_eq_true rfl) rfl ?_
  try simp only [List.set_cons_zero, List.set_cons_succ]
  refine wp_aload_n rfl rfl dX11_barred_13 ?_
  refine wp_ifnull (tgt := 22) dX11_barred_14 (by decide) (fun hx => absurd hx (by omega)) (fun hx => ?_)
  refine wp_aload rfl dX11_barred_17 ?_
  refine wp_ifnonnull (tgt := 25) dX11_barred_19 (by decide) (fun hx => absurd rfl hx) (fun hx => ?_)
  refine wp_bipush (by decide) dX11_barred_22 ?_
  refine wp_iret dX11_barred_24 rfl ?_
  exact hQ
theorem barred_t {u : gT} {j : Nat} {h m : mH} {d b : Nat} (H : Inv j m) (e : Cl h m) (hS : St h) {r : Int} (r0 : 0 ≤ r) (r1 : r < m 200 6) {a : Int} (a0 : 0 ≤ a) (a1 : a < m 200 10) : Det (gX (gq u)) MX11_barred (d + 5) b [(2, 1), (0, r), (0, a)] h (0, bI (kb m r a)) h := by
  intro Q hQ
  have hn := H.ns
  have e12 := H.n12
  have e13 := H.n13
  have e11 := H.n11
  show WP (gX (gq u)) MX11_barred (d + 5) b Q 0 [(2, 1), (0, r), (0, a), (9, 0), (9, 0)] [] h
  refine wp_aload_n rfl rfl dX11_barred_0 ?_
  refine wp_iload_n rfl rfl dX11_barred_1 ?_
  refine wp_cV1 (ci := 11) okX11_findReader rfl rfl wX11_138 dX11_barred_2 rfl (Nat.le_of_ble_eq_true rfl) (Nat.le_of_ble_eq_true rfl) (by first | omega | (simp (disch := omega) only [up2_ne, up2_eq, e, e11, e12, e13, H.a4, H.az, H.r3, H.rz, st_1_m1 hS, st_1_m1 H.1]; first | done | omega)) (by first | assumption | (simp (disch := omega) only [up2_ne, up2_eq, e, e11, e12, e13, H.a4, H.az, H.r3, H.rz, st_1_m1 hS, st_1_m1 H.1]; first | done | rfl | omega)) (ndR_t H e hS r0 r1) (Nat.zero_le _) ?_
  try simp (disch := omega) only [up2_ne, up2_eq, e, e11, e12, e13, H.a4, H.az, H.r3, H.rz, st_1_m1 hS, st_1_m1 H.1]
  refine wp_astore_n rfl dX11_barred_5 rfl (Nat.le_of_ble_eq_true rfl) rfl ?_
  try simp only [List.set_cons_zero, List.set_cons_succ]
  refine wp_aload_n rfl rfl dX11_barred_6 ?_
  refine wp_iload_n rfl rfl dX11_barred_7 ?_
  refine wp_cV1 (ci := 11) okX11_findAsking rfl rfl wX11_200 dX11_barred_8 rfl (Nat.le_of_ble_eq_true rfl) (Nat.le_of_ble_eq_true rfl) (by first | omega | (simp (disch := omega) only [up2_ne, up2_eq, e, e11, e12, e13, H.a4, H.az, H.r3, H.rz, st_1_m1 hS, st_1_m1 H.1]; first | done | omega)) (by first | assumption | (simp (disch := omega) only [up2_ne, up2_eq, e, e11, e12, e13, H.a4, H.az, H.r3, H.rz, st_1_m1 hS, st_1_m1 H.1]; first | done | rfl | omega)) (ndA_t H e hS a0 a1) (Nat.zero_le _) ?_
  try simp (disch := omega) only [up2_ne, up2_eq, e, e11, e12, e13, H.a4, H.az, H.r3, H.rz, st_1_m1 hS, st_1_m1 H.1]
  refine wp_astore dX11_barred_11 rfl (Nat.le_of_ble_eq_true rfl) rfl ?_
  try simp only [List.set_cons_zero, List.set_cons_succ]
  refine wp_aload_n rfl rfl dX11_barred_13 ?_
  refine wp_ifnull (tgt := 22) dX11_barred_14 (by decide) (fun hx => absurd hx (by omega)) (fun hx => ?_)
  refine wp_aload rfl dX11_barred_17 ?_
  refine wp_ifnonnull (tgt := 25) dX11_barred_19 (by decide) (fun hx => ?_) (fun hx => absurd hx (by omega))
  refine wp_aload rfl dX11_barred_25 ?_
  refine wp_aload_n rfl rfl dX11_barred_27 ?_
  refine wp_cV1 (ci := 0) okX0_isBarredTo rfl rfl wX11_274 dX11_barred_28 rfl (Nat.le_of_ble_eq_true rfl) (Nat.le_of_ble_eq_true rfl) (by first | omega | (simp (disch := omega) only [up2_ne, up2_eq, e, e11, e12, e13, H.a4, H.az, H.r3, H.rz, st_1_m1 hS, st_1_m1 H.1]; first | done | omega)) (by first | assumption | (simp (disch := omega) only [up2_ne, up2_eq, e, e11, e12, e13, H.a4, H.az, H.r3, H.rz, st_1_m1 hS, st_1_m1 H.1]; first | done | rfl | omega)) (ib_row H e a0 a1 r0 r1) (Nat.zero_le _) ?_
  try simp (disch := omega) only [up2_ne, up2_eq, e, e11, e12, e13, H.a4, H.az, H.r3, H.rz, st_1_m1 hS, st_1_m1 H.1]
  refine wp_ifB_eq (tgt := 38) dX11_barred_31 (by decide) (fun c3 => ?_) (fun c3 => ?_)
  · refine wp_iconst dX11_barred_38 ?_
    refine wp_iret dX11_barred_39 rfl ?_
    first | (rw [bI_t (by assumption)] at hQ; exact hQ) | (rw [bI_f (by assumption)] at hQ; exact hQ)
  · refine wp_iconst dX11_barred_34 ?_
    refine wp_goto (tgt := 39) dX11_barred_35 (by decide) ?_
    refine wp_iret dX11_barred_39 rfl ?_
    first | (rw [bI_t (by assumption)] at hQ; exact hQ) | (rw [bI_f (by assumption)] at hQ; exact hQ)
theorem bar_f1 {u : gT} {j : Nat} {h m : mH} {d b : Nat} (H : Inv j m) (e : Cl h m) (hS : St h) {r a : Int} (ir : InI r) (ia : InI a) (q : ¬ (0 ≤ r ∧ r < m 200 6)) : Det (gX (gq u)) MX11_bar (d + 5) b [(2, 1), (0, r), (0, a)] h (0, -2) h := by
  intro Q hQ
  have hn := H.ns
  have e12 := H.n12
  have e13 := H.n13
  have e11 := H.n11
  show WP (gX (gq u)) MX11_bar (d + 5) b Q 0 [(2, 1), (0, r), (0, a), (9, 0), (9, 0)] [] h
  refine wp_aload_n rfl rfl dX11_bar_0 ?_
  refine wp_iload_n rfl rfl dX11_bar_1 ?_
  refine wp_cV1 (ci := 11) okX11_findReader rfl rfl wX11_138 dX11_bar_2 rfl (Nat.le_of_ble_eq_true rfl) (Nat.le_of_ble_eq_true rfl) (by first | omega | (simp (disch := omega) only [up2_ne, up2_eq, e, e11, e12, e13, H.a4, H.az, H.r3, H.rz, st_1_m1 hS, st_1_m1 H.1]; first | done | omega)) (by first | assumption | (simp (disch := omega) only [up2_ne, up2_eq, e, e11, e12, e13, H.a4, H.az, H.r3, H.rz, st_1_m1 hS, st_1_m1 H.1]; first | done | rfl | omega)) (ndR_f H e hS ir q) (Nat.zero_le _) ?_
  try simp (disch := omega) only [up2_ne, up2_eq, e, e11, e12, e13, H.a4, H.az, H.r3, H.rz, st_1_m1 hS, st_1_m1 H.1]
  refine wp_astore_n rfl dX11_bar_5 rfl (Nat.le_of_ble_eq_true rfl) rfl ?_
  try simp only [List.set_cons_zero, List.set_cons_succ]
  refine wp_aload_n rfl rfl dX11_bar_6 ?_
  refine wp_iload_n rfl rfl dX11_bar_7 ?_
  refine wp_cV1 (ci := 11) okX11_findAsking rfl rfl wX11_200 dX11_bar_8 rfl (Nat.le_of_ble_eq_true rfl) (Nat.le_of_ble_eq_true rfl) (by first | omega | (simp (disch := omega) only [up2_ne, up2_eq, e, e11, e12, e13, H.a4, H.az, H.r3, H.rz, st_1_m1 hS, st_1_m1 H.1]; first | done | omega)) (by first | assumption | (simp (disch := omega) only [up2_ne, up2_eq, e, e11, e12, e13, H.a4, H.az, H.r3, H.rz, st_1_m1 hS, st_1_m1 H.1]; first | done | rfl | omega)) (ndA_g H e hS ia) (Nat.zero_le _) ?_
  try simp (disch := omega) only [up2_ne, up2_eq, e, e11, e12, e13, H.a4, H.az, H.r3, H.rz, st_1_m1 hS, st_1_m1 H.1]
  refine wp_astore dX11_bar_11 rfl (Nat.le_of_ble_eq_true rfl) rfl ?_
  try simp only [List.set_cons_zero, List.set_cons_succ]
  refine wp_aload_n rfl rfl dX11_bar_13 ?_
  refine wp_ifnull (tgt := 22) dX11_bar_14 (by decide) (fun hx => ?_) (fun hx => absurd rfl hx)
  refine wp_bipush (by decide) dX11_bar_22 ?_
  refine wp_iret dX11_bar_24 rfl ?_
  exact hQ
theorem bar_f2 {u : gT} {j : Nat} {h m : mH} {d b : Nat} (H : Inv j m) (e : Cl h m) (hS : St h) {r : Int} (r0 : 0 ≤ r) (r1 : r < m 200 6) {a : Int} (ia : InI a) (q : ¬ (0 ≤ a ∧ a < m 200 10)) : Det (gX (gq u)) MX11_bar (d + 5) b [(2, 1), (0, r), (0, a)] h (0, -2) h := by
  intro Q hQ
  have hn := H.ns
  have e12 := H.n12
  have e13 := H.n13
  have e11 := H.n11
  show WP (gX (gq u)) MX11_bar (d + 5) b Q 0 [(2, 1), (0, r), (0, a), (9, 0), (9, 0)] [] h
  refine wp_aload_n rfl rfl dX11_bar_0 ?_
  refine wp_iload_n rfl rfl dX11_bar_1 ?_
  refine wp_cV1 (ci := 11) okX11_findReader rfl rfl wX11_138 dX11_bar_2 rfl (Nat.le_of_ble_eq_true rfl) (Nat.le_of_ble_eq_true rfl) (by first | omega | (simp (disch := omega) only [up2_ne, up2_eq, e, e11, e12, e13, H.a4, H.az, H.r3, H.rz, st_1_m1 hS, st_1_m1 H.1]; first | done | omega)) (by first | assumption | (simp (disch := omega) only [up2_ne, up2_eq, e, e11, e12, e13, H.a4, H.az, H.r3, H.rz, st_1_m1 hS, st_1_m1 H.1]; first | done | rfl | omega)) (ndR_t H e hS r0 r1) (Nat.zero_le _) ?_
  try simp (disch := omega) only [up2_ne, up2_eq, e, e11, e12, e13, H.a4, H.az, H.r3, H.rz, st_1_m1 hS, st_1_m1 H.1]
  refine wp_astore_n rfl dX11_bar_5 rfl (Nat.le_of_ble_eq_true rfl) rfl ?_
  try simp only [List.set_cons_zero, List.set_cons_succ]
  refine wp_aload_n rfl rfl dX11_bar_6 ?_
  refine wp_iload_n rfl rfl dX11_bar_7 ?_
  refine wp_cV1 (ci := 11) okX11_findAsking rfl rfl wX11_200 dX11_bar_8 rfl (Nat.le_of_ble_eq_true rfl) (Nat.le_of_ble_eq_true rfl) (by first | omega | (simp (disch := omega) only [up2_ne, up2_eq, e, e11, e12, e13, H.a4, H.az, H.r3, H.rz, st_1_m1 hS, st_1_m1 H.1]; first | done | omega)) (by first | assumption | (simp (disch := omega) only [up2_ne, up2_eq, e, e11, e12, e13, H.a4, H.az, H.r3, H.rz, st_1_m1 hS, st_1_m1 H.1]; first | done | rfl | omega)) (ndA_f H e hS ia q) (Nat.zero_le _) ?_
  try simp (disch := omega) only [up2_ne, up2_eq, e, e11, e12, e13, H.a4, H.az, H.r3, H.rz, st_1_m1 hS, st_1_m1 H.1]
  refine wp_astore dX11_bar_11 rfl (Nat.le_of_ble_eq_true rfl) rfl ?_
  try simp only [List.set_cons_zero, List.set_cons_succ]
  refine wp_aload_n rfl rfl dX11_bar_13 ?_
  refine wp_ifnull (tgt := 22) dX11_bar_14 (by decide) (fun hx => absurd hx (by omega)) (fun hx => ?_)
  refine wp_aload rfl dX11_bar_17 ?_
  refine wp_ifnonnull (tgt := 25) dX11_bar_19 (by decide) (fun hx => absurd rfl hx) (fun hx => ?_)
  refine wp_bipush (by decide) dX11_bar_22 ?_
  refine wp_iret dX11_bar_24 rfl ?_
  exact hQ
theorem bar_t {u : gT} {j : Nat} {h m : mH} {d b : Nat} (H : Inv j m) (e : Cl h m) (hS : St h) {r : Int} (r0 : 0 ≤ r) (r1 : r < m 200 6) {a : Int} (a0 : 0 ≤ a) (a1 : a < m 200 10) : Rlt (gX (gq u)) MX11_bar (d + 5) b [(2, 1), (0, r), (0, a)] h (fun x h1 => (m 219 (8 * a + r) = 1 ∧ x = (0, 0) ∧ h1 = h) ∨ (m 219 (8 * a + r) = 0 ∧ x = (0, 1) ∧ h1 = up2 h (120 + a) 10 (iOr (m (120 + a) 10) (iShl 1 r)))) := by
  refine Rlt.of ?_
  have hn := H.ns
  have e12 := H.n12
  have e13 := H.n13
  have e11 := H.n11
  have hb := (H.2.2.2.2.2.1 a r a0 (by omega) r0 (by omega))
  have hb1 : bt (m (120 + a) 10) r = m 219 (8 * a + r) := by rcases hb.1 with q | q <;> omega
  show WP (gX (gq u)) MX11_bar (d + 5) b _ 0 [(2, 1), (0, r), (0, a), (9, 0), (9, 0)] [] h
  refine wp_aload_n rfl rfl dX11_bar_0 ?_
  refine wp_iload_n rfl rfl dX11_bar_1 ?_
  refine wp_cV1 (ci := 11) okX11_findReader rfl rfl wX11_138 dX11_bar_2 rfl (Nat.le_of_ble_eq_true rfl) (Nat.le_of_ble_eq_true rfl) (by first | omega | (simp (disch := omega) only [up2_ne, up2_eq, e, e11, e12, e13, H.a4, H.az, H.r3, H.rz, H.ri, st_1_m1 hS, st_1_m1 H.1]; first | done | omega)) (by first | assumption | (simp (disch := omega) only [up2_ne, up2_eq, e, e11, e12, e13, H.a4, H.az, H.r3, H.rz, H.ri, st_1_m1 hS, st_1_m1 H.1]; first | done | rfl | omega)) (ndR_t H e hS r0 r1) (Nat.zero_le _) ?_
  try simp (disch := omega) only [up2_ne, up2_eq, e, e11, e12, e13, H.a4, H.az, H.r3, H.rz, H.ri, st_1_m1 hS, st_1_m1 H.1]
  refine wp_astore_n rfl dX11_bar_5 rfl (Nat.le_of_ble_eq_true rfl) rfl ?_
  try simp only [List.set_cons_zero, List.set_cons_succ]
  refine wp_aload_n rfl rfl dX11_bar_6 ?_
  refine wp_iload_n rfl rfl dX11_bar_7 ?_
  refine wp_cV1 (ci := 11) okX11_findAsking rfl rfl wX11_200 dX11_bar_8 rfl (Nat.le_of_ble_eq_true rfl) (Nat.le_of_ble_eq_true rfl) (by first | omega | (simp (disch := omega) only [up2_ne, up2_eq, e, e11, e12, e13, H.a4, H.az, H.r3, H.rz, H.ri, st_1_m1 hS, st_1_m1 H.1]; first | done | omega)) (by first | assumption | (simp (disch := omega) only [up2_ne, up2_eq, e, e11, e12, e13, H.a4, H.az, H.r3, H.rz, H.ri, st_1_m1 hS, st_1_m1 H.1]; first | done | rfl | omega)) (ndA_t H e hS a0 a1) (Nat.zero_le _) ?_
  try simp (disch := omega) only [up2_ne, up2_eq, e, e11, e12, e13, H.a4, H.az, H.r3, H.rz, H.ri, st_1_m1 hS, st_1_m1 H.1]
  refine wp_astore dX11_bar_11 rfl (Nat.le_of_ble_eq_true rfl) rfl ?_
  try simp only [List.set_cons_zero, List.set_cons_succ]
  refine wp_aload_n rfl rfl dX11_bar_13 ?_
  refine wp_ifnull (tgt := 22) dX11_bar_14 (by decide) (fun hx => absurd hx (by omega)) (fun hx => ?_)
  refine wp_aload rfl dX11_bar_17 ?_
  refine wp_ifnonnull (tgt := 25) dX11_bar_19 (by decide) (fun hx => ?_) (fun hx => absurd hx (by omega))
  refine wp_aload rfl dX11_bar_25 ?_
  refine wp_getfield1 (z := 1) (kI := 10) fX11_264 dX11_bar_27 (by first | omega | (simp (disch := omega) only [up2_ne, up2_eq, e, e11, e12, e13, H.a4, H.az, H.r3, H.rz, H.ri, st_1_m1 hS, st_1_m1 H.1]; first | done | omega)) (by first | assumption | (simp (disch := omega) only [up2_ne, up2_eq, e, e11, e12, e13, H.a4, H.az, H.r3, H.rz, H.ri, st_1_m1 hS, st_1_m1 H.1]; first | done | rfl | omega)) rfl rfl ?_
  try simp (disch := omega) only [up2_ne, up2_eq, e, e11, e12, e13, H.a4, H.az, H.r3, H.rz, H.ri, st_1_m1 hS, st_1_m1 H.1]
  refine wp_aload_n rfl rfl dX11_bar_30 ?_
  refine wp_getfield1 (z := 7) (kI := 0) fX11_267 dX11_bar_31 (by first | omega | (simp (disch := omega) only [up2_ne, up2_eq, e, e11, e12, e13, H.a4, H.az, H.r3, H.rz, H.ri, st_1_m1 hS, st_1_m1 H.1]; first | done | omega)) (by first | assumption | (simp (disch := omega) only [up2_ne, up2_eq, e, e11, e12, e13, H.a4, H.az, H.r3, H.rz, H.ri, st_1_m1 hS, st_1_m1 H.1]; first | done | rfl | omega)) rfl rfl ?_
  try simp (disch := omega) only [up2_ne, up2_eq, e, e11, e12, e13, H.a4, H.az, H.r3, H.rz, H.ri, st_1_m1 hS, st_1_m1 H.1]
  refine wp_cS2 okX11_hasBit wX11_270 dX11_bar_34 rfl (Nat.le_of_ble_eq_true rfl) (Nat.le_of_ble_eq_true rfl) (s_X11_hasBit) (Nat.zero_le _) ?_
  try simp (disch := omega) only [up2_ne, up2_eq, e, e11, e12, e13, H.a4, H.az, H.r3, H.rz, H.ri, st_1_m1 hS, st_1_m1 H.1]
  refine wp_ifB_eq (tgt := 42) dX11_bar_37 (by decide) (fun c3 => ?_) (fun c3 => ?_)
  · refine wp_aload rfl dX11_bar_42 ?_
    refine wp_dup (by decide) dX11_bar_44 ?_
    refine wp_getfield1 (z := 1) (kI := 10) fX11_264 dX11_bar_45 (by first | omega | (simp (disch := omega) only [up2_ne, up2_eq, e, e11, e12, e13, H.a4, H.az, H.r3, H.rz, H.ri, st_1_m1 hS, st_1_m1 H.1]; first | done | omega)) (by first | assumption | (simp (disch := omega) only [up2_ne, up2_eq, e, e11, e12, e13, H.a4, H.az, H.r3, H.rz, H.ri, st_1_m1 hS, st_1_m1 H.1]; first | done | rfl | omega)) rfl rfl ?_
    try simp (disch := omega) only [up2_ne, up2_eq, e, e11, e12, e13, H.a4, H.az, H.r3, H.rz, H.ri, st_1_m1 hS, st_1_m1 H.1]
    refine wp_iconst dX11_bar_48 ?_
    refine wp_aload_n rfl rfl dX11_bar_49 ?_
    refine wp_getfield1 (z := 7) (kI := 0) fX11_267 dX11_bar_50 (by first | omega | (simp (disch := omega) only [up2_ne, up2_eq, e, e11, e12, e13, H.a4, H.az, H.r3, H.rz, H.ri, st_1_m1 hS, st_1_m1 H.1]; first | done | omega)) (by first | assumption | (simp (disch := omega) only [up2_ne, up2_eq, e, e11, e12, e13, H.a4, H.az, H.r3, H.rz, H.ri, st_1_m1 hS, st_1_m1 H.1]; first | done | rfl | omega)) rfl rfl ?_
    try simp (disch := omega) only [up2_ne, up2_eq, e, e11, e12, e13, H.a4, H.az, H.r3, H.rz, H.ri, st_1_m1 hS, st_1_m1 H.1]
    refine wp_ishl dX11_bar_53 ?_
    refine wp_ior dX11_bar_54 ?_
    refine wp_putfield1 (z := 1) (kI := 10) fX11_264 dX11_bar_55 (by first | omega | (simp (disch := omega) only [up2_ne, up2_eq, e, e11, e12, e13, H.a4, H.az, H.r3, H.rz, H.ri, st_1_m1 hS, st_1_m1 H.1]; first | done | omega)) (by first | assumption | (simp (disch := omega) only [up2_ne, up2_eq, e, e11, e12, e13, H.a4, H.az, H.r3, H.rz, H.ri, st_1_m1 hS, st_1_m1 H.1]; first | done | rfl | omega)) rfl rfl ?_
    refine wp_iconst dX11_bar_58 ?_
    refine wp_iret dX11_bar_59 rfl ?_
    first | exact Or.inl ⟨by omega, rfl, rfl⟩ | exact Or.inr ⟨by omega, rfl, rfl⟩
  · refine wp_iconst dX11_bar_40 ?_
    refine wp_iret dX11_bar_41 rfl ?_
    first | exact Or.inl ⟨by omega, rfl, rfl⟩ | exact Or.inr ⟨by omega, rfl, rfl⟩
theorem s_X12_barred {u : gT} {j : Nat} {h m : mH} {d b : Nat} (H : Inv j m) (e : Cr h m) (hS : St h) {r a : Int} (ir : InI r) (ia : InI a) : Det (gX (gq u)) MX12_barred (d + 3) b [(2, 200), (0, r), (0, a)] h (0, if (0 ≤ r ∧ r < m 200 6) ∧ (0 ≤ a ∧ a < m 200 10) then bI (kb m r a) else -2) h := by
  intro Q hQ
  have hn := H.ns
  show WP (gX (gq u)) MX12_barred (d + 3) b Q 0 [(2, 200), (0, r), (0, a)] [] h
  refine wp_aload_n rfl rfl dX12_barred_0 ?_
  refine wp_iload_n rfl rfl dX12_barred_1 ?_
  refine wp_cV1 (ci := 12) okX12_isReader rfl rfl wX12_58 dX12_barred_2 rfl (Nat.le_of_ble_eq_true rfl) (Nat.le_of_ble_eq_true rfl) (by first | omega | (simp (disch := omega) only [up2_ne, up2_eq, e, st_200_m1 hS, st_200_m1 H.1]; first | done | omega)) (by first | assumption | (simp (disch := omega) only [up2_ne, up2_eq, e, st_200_m1 hS, st_200_m1 H.1]; first | done | rfl | omega)) (risReader H e hS (by assumption)) (Nat.zero_le _) ?_
  try simp (disch := omega) only [up2_ne, up2_eq, e, st_200_m1 hS, st_200_m1 H.1]
  refine wp_ifB_eq (tgt := 16) dX12_barred_5 (by decide) (fun c1 => ?_) (fun c1 => ?_)
  · refine wp_bipush (by decide) dX12_barred_16 ?_
    refine wp_goto (tgt := 35) dX12_barred_18 (by decide) ?_
    refine wp_iret dX12_barred_35 rfl ?_
    refine Q_eq hQ ?_ rfl
    congr 1
    first | (rw [if_neg (by omega)]; done) | (rw [if_pos (by omega), bI_t (by assumption)]; done) | (rw [if_pos (by omega), bI_f (by assumption)]; done)
  · refine wp_aload_n rfl rfl dX12_barred_8 ?_
    refine wp_iload_n rfl rfl dX12_barred_9 ?_
    refine wp_cV1 (ci := 12) okX12_isAsking rfl rfl wX12_126 dX12_barred_10 rfl (Nat.le_of_ble_eq_true rfl) (Nat.le_of_ble_eq_true rfl) (by first | omega | (simp (disch := omega) only [up2_ne, up2_eq, e, st_200_m1 hS, st_200_m1 H.1]; first | done | omega)) (by first | assumption | (simp (disch := omega) only [up2_ne, up2_eq, e, st_200_m1 hS, st_200_m1 H.1]; first | done | rfl | omega)) (risAsking H e hS (by assumption)) (Nat.zero_le _) ?_
    try simp (disch := omega) only [up2_ne, up2_eq, e, st_200_m1 hS, st_200_m1 H.1]
    refine wp_ifB_ne (tgt := 21) dX12_barred_13 (by decide) (fun c2 => ?_) (fun c2 => ?_)
    · refine wp_aload_n rfl rfl dX12_barred_21 ?_
      refine wp_iload_n rfl rfl dX12_barred_22 ?_
      refine wp_iload_n rfl rfl dX12_barred_23 ?_
      refine wp_cV2 (ci := 12) okX12_isBarred rfl rfl wX12_288 dX12_barred_24 rfl (Nat.le_of_ble_eq_true rfl) (Nat.le_of_ble_eq_true rfl) (by first | omega | (simp (disch := omega) only [up2_ne, up2_eq, e, st_200_m1 hS, st_200_m1 H.1]; first | done | omega)) (by first | assumption | (simp (disch := omega) only [up2_ne, up2_eq, e, st_200_m1 hS, st_200_m1 H.1]; first | done | rfl | omega)) (rbar H e hS (by omega) (by omega) (by omega) (by omega)) (Nat.zero_le _) ?_
      try simp (disch := omega) only [up2_ne, up2_eq, e, st_200_m1 hS, st_200_m1 H.1]
      refine wp_ifB_eq (tgt := 34) dX12_barred_27 (by decide) (fun c3 => ?_) (fun c3 => ?_)
      · refine wp_iconst dX12_barred_34 ?_
        refine wp_iret dX12_barred_35 rfl ?_
        refine Q_eq hQ ?_ rfl
        congr 1
        first | (rw [if_neg (by omega)]; done) | (rw [if_pos (by omega), bI_t (by assumption)]; done) | (rw [if_pos (by omega), bI_f (by assumption)]; done)
      · refine wp_iconst dX12_barred_30 ?_
        refine wp_goto (tgt := 35) dX12_barred_31 (by decide) ?_
        refine wp_iret dX12_barred_35 rfl ?_
        refine Q_eq hQ ?_ rfl
        congr 1
        first | (rw [if_neg (by omega)]; done) | (rw [if_pos (by omega), bI_t (by assumption)]; done) | (rw [if_pos (by omega), bI_f (by assumption)]; done)
    · refine wp_bipush (by decide) dX12_barred_16 ?_
      refine wp_goto (tgt := 35) dX12_barred_18 (by decide) ?_
      refine wp_iret dX12_barred_35 rfl ?_
      refine Q_eq hQ ?_ rfl
      congr 1
      first | (rw [if_neg (by omega)]; done) | (rw [if_pos (by omega), bI_t (by assumption)]; done) | (rw [if_pos (by omega), bI_f (by assumption)]; done)
theorem s_X12_bar {u : gT} {j : Nat} {h m : mH} {d b : Nat} (H : Inv j m) (e : Cr h m) (hS : St h) {r a : Int} (ir : InI r) (ia : InI a) : Rlt (gX (gq u)) MX12_bar (d + 3) b [(2, 200), (0, r), (0, a)] h (fun x h1 => (¬ ((0 ≤ r ∧ r < m 200 6) ∧ (0 ≤ a ∧ a < m 200 10)) ∧ x = (0, -2) ∧ h1 = h) ∨ (((0 ≤ r ∧ r < m 200 6) ∧ (0 ≤ a ∧ a < m 200 10)) ∧ x = (0, if m 219 (8 * a + r) = 0 then 1 else 0) ∧ h1 = up2 h 219 (8 * a + r) 1)) := by
  refine Rlt.of ?_
  have hn := H.ns
  have hk := fun (z : (0 ≤ r ∧ r < m 200 6) ∧ (0 ≤ a ∧ a < m 200 10)) => (H.rm z.2.1 (by omega) z.1.1 (by omega)).1
  show WP (gX (gq u)) MX12_bar (d + 3) b _ 0 [(2, 200), (0, r), (0, a), (9, 0)] [] h
  refine wp_aload_n rfl rfl dX12_bar_0 ?_
  refine wp_iload_n rfl rfl dX12_bar_1 ?_
  refine wp_cV1 (ci := 12) okX12_isReader rfl rfl wX12_58 dX12_bar_2 rfl (Nat.le_of_ble_eq_true rfl) (Nat.le_of_ble_eq_true rfl) (by first | omega | (simp (disch := omega) only [up2_ne, up2_eq, e, st_200_m1 hS, st_200_m1 H.1, st_200_19 hS, st_200_19 H.1, st_219_m2 hS, st_219_m2 H.1, st_219_m1 hS, st_219_m1 H.1]; first | done | omega)) (by first | assumption | (simp (disch := omega) only [up2_ne, up2_eq, e, st_200_m1 hS, st_200_m1 H.1, st_200_19 hS, st_200_19 H.1, st_219_m2 hS, st_219_m2 H.1, st_219_m1 hS, st_219_m1 H.1]; first | done | rfl | omega)) (risReader H e hS (by assumption)) (Nat.zero_le _) ?_
  try simp (disch := omega) only [up2_ne, up2_eq, e, st_200_m1 hS, st_200_m1 H.1, st_200_19 hS, st_200_19 H.1, st_219_m2 hS, st_219_m2 H.1, st_219_m1 hS, st_219_m1 H.1]
  refine wp_ifB_eq (tgt := 16) dX12_bar_5 (by decide) (fun c1 => ?_) (fun c1 => ?_)
  · refine wp_bipush (by decide) dX12_bar_16 ?_
    refine wp_iret dX12_bar_18 rfl ?_
    first | exact Or.inl ⟨by omega, rfl, rfl⟩ | exact Or.inr ⟨by omega, by rw [if_pos (by omega)], rfl⟩ | exact Or.inr ⟨by omega, by rw [if_neg (by omega)], rfl⟩
  · refine wp_aload_n rfl rfl dX12_bar_8 ?_
    refine wp_iload_n rfl rfl dX12_bar_9 ?_
    refine wp_cV1 (ci := 12) okX12_isAsking rfl rfl wX12_126 dX12_bar_10 rfl (Nat.le_of_ble_eq_true rfl) (Nat.le_of_ble_eq_true rfl) (by first | omega | (simp (disch := omega) only [up2_ne, up2_eq, e, st_200_m1 hS, st_200_m1 H.1, st_200_19 hS, st_200_19 H.1, st_219_m2 hS, st_219_m2 H.1, st_219_m1 hS, st_219_m1 H.1]; first | done | omega)) (by first | assumption | (simp (disch := omega) only [up2_ne, up2_eq, e, st_200_m1 hS, st_200_m1 H.1, st_200_19 hS, st_200_19 H.1, st_219_m2 hS, st_219_m2 H.1, st_219_m1 hS, st_219_m1 H.1]; first | done | rfl | omega)) (risAsking H e hS (by assumption)) (Nat.zero_le _) ?_
    try simp (disch := omega) only [up2_ne, up2_eq, e, st_200_m1 hS, st_200_m1 H.1, st_200_19 hS, st_200_19 H.1, st_219_m2 hS, st_219_m2 H.1, st_219_m1 hS, st_219_m1 H.1]
    refine wp_ifB_ne (tgt := 19) dX12_bar_13 (by decide) (fun c2 => ?_) (fun c2 => ?_)
    · refine wp_aload_n rfl rfl dX12_bar_19 ?_
      refine wp_getfield1 (z := 13) (kI := 19) fX12_147 dX12_bar_20 (by first | omega | (simp (disch := omega) only [up2_ne, up2_eq, e, st_200_m1 hS, st_200_m1 H.1, st_200_19 hS, st_200_19 H.1, st_219_m2 hS, st_219_m2 H.1, st_219_m1 hS, st_219_m1 H.1]; first | done | omega)) (by first | assumption | (simp (disch := omega) only [up2_ne, up2_eq, e, st_200_m1 hS, st_200_m1 H.1, st_200_19 hS, st_200_19 H.1, st_219_m2 hS, st_219_m2 H.1, st_219_m1 hS, st_219_m1 H.1]; first | done | rfl | omega)) rfl rfl ?_
      try simp (disch := omega) only [up2_ne, up2_eq, e, st_200_m1 hS, st_200_m1 H.1, st_200_19 hS, st_200_19 H.1, st_219_m2 hS, st_219_m2 H.1, st_219_m1 hS, st_219_m1 H.1]
      refine wp_bipush (by decide) dX12_bar_23 ?_
      refine wp_iload_n rfl rfl dX12_bar_25 ?_
      refine wp_imul dX12_bar_26 ?_
      refine wp_iload_n rfl rfl dX12_bar_27 ?_
      refine wp_iadd dX12_bar_28 ?_
      refine wp_zaload1 dX12_bar_29 (by first | omega | (simp (disch := omega) only [up2_ne, up2_eq, e, st_200_m1 hS, st_200_m1 H.1, st_200_19 hS, st_200_19 H.1, st_219_m2 hS, st_219_m2 H.1, st_219_m1 hS, st_219_m1 H.1]; first | done | omega)) (by first | assumption | (simp (disch := omega) only [up2_ne, up2_eq, e, st_200_m1 hS, st_200_m1 H.1, st_200_19 hS, st_200_19 H.1, st_219_m2 hS, st_219_m2 H.1, st_219_m1 hS, st_219_m1 H.1]; first | done | rfl | omega)) (by first | omega | (simp (disch := omega) only [up2_ne, up2_eq, e, st_200_m1 hS, st_200_m1 H.1, st_200_19 hS, st_200_19 H.1, st_219_m2 hS, st_219_m2 H.1, st_219_m1 hS, st_219_m1 H.1]; first | done | omega)) (by first | omega | (simp (disch := omega) only [up2_ne, up2_eq, e, st_200_m1 hS, st_200_m1 H.1, st_200_19 hS, st_200_19 H.1, st_219_m2 hS, st_219_m2 H.1, st_219_m1 hS, st_219_m1 H.1]; first | done | omega)) ?_
      try simp (disch := omega) only [up2_ne, up2_eq, e, st_200_m1 hS, st_200_m1 H.1, st_200_19 hS, st_200_19 H.1, st_219_m2 hS, st_219_m2 H.1, st_219_m1 hS, st_219_m1 H.1]
      refine wp_istore_n rfl dX12_bar_30 rfl (Nat.le_of_ble_eq_true rfl) rfl ?_
      try simp only [List.set_cons_zero, List.set_cons_succ]
      refine wp_aload_n rfl rfl dX12_bar_31 ?_
      refine wp_getfield1 (z := 13) (kI := 19) fX12_147 dX12_bar_32 (by first | omega | (simp (disch := omega) only [up2_ne, up2_eq, e, st_200_m1 hS, st_200_m1 H.1, st_200_19 hS, st_200_19 H.1, st_219_m2 hS, st_219_m2 H.1, st_219_m1 hS, st_219_m1 H.1]; first | done | omega)) (by first | assumption | (simp (disch := omega) only [up2_ne, up2_eq, e, st_200_m1 hS, st_200_m1 H.1, st_200_19 hS, st_200_19 H.1, st_219_m2 hS, st_219_m2 H.1, st_219_m1 hS, st_219_m1 H.1]; first | done | rfl | omega)) rfl rfl ?_
      try simp (disch := omega) only [up2_ne, up2_eq, e, st_200_m1 hS, st_200_m1 H.1, st_200_19 hS, st_200_19 H.1, st_219_m2 hS, st_219_m2 H.1, st_219_m1 hS, st_219_m1 H.1]
      refine wp_bipush (by decide) dX12_bar_35 ?_
      refine wp_iload_n rfl rfl dX12_bar_37 ?_
      refine wp_imul dX12_bar_38 ?_
      refine wp_iload_n rfl rfl dX12_bar_39 ?_
      refine wp_iadd dX12_bar_40 ?_
      refine wp_iconst dX12_bar_41 ?_
      refine wp_zastore1 (by omega) dX12_bar_42 (by first | omega | (simp (disch := omega) only [up2_ne, up2_eq, e, st_200_m1 hS, st_200_m1 H.1, st_200_19 hS, st_200_19 H.1, st_219_m2 hS, st_219_m2 H.1, st_219_m1 hS, st_219_m1 H.1]; first | done | omega)) (by first | assumption | (simp (disch := omega) only [up2_ne, up2_eq, e, st_200_m1 hS, st_200_m1 H.1, st_200_19 hS, st_200_19 H.1, st_219_m2 hS, st_219_m2 H.1, st_219_m1 hS, st_219_m1 H.1]; first | done | rfl | omega)) (by first | omega | (simp (disch := omega) only [up2_ne, up2_eq, e, st_200_m1 hS, st_200_m1 H.1, st_200_19 hS, st_200_19 H.1, st_219_m2 hS, st_219_m2 H.1, st_219_m1 hS, st_219_m1 H.1]; first | done | omega)) (by first | omega | (simp (disch := omega) only [up2_ne, up2_eq, e, st_200_m1 hS, st_200_m1 H.1, st_200_19 hS, st_200_19 H.1, st_219_m2 hS, st_219_m2 H.1, st_219_m1 hS, st_219_m1 H.1]; first | done | omega)) ?_
      refine wp_iload_n rfl rfl dX12_bar_43 ?_
      refine wp_if_eq (tgt := 51) (by first | assumption | exact bI_in _ | exact ⟨by omega, by omega⟩ | exact iAnd_in | exact iOr_in | exact iShr_in | exact iShl_in | exact iXor_in | exact hxs _) dX12_bar_44 (by decide) (fun c3 => ?_) (fun c3 => ?_)
      · refine wp_iconst dX12_bar_51 ?_
        refine wp_iret dX12_bar_52 rfl ?_
        first | exact Or.inl ⟨by omega, rfl, rfl⟩ | exact Or.inr ⟨by omega, by rw [if_pos (by omega)], rfl⟩ | exact Or.inr ⟨by omega, by rw [if_neg (by omega)], rfl⟩
      · refine wp_iconst dX12_bar_47 ?_
        refine wp_goto (tgt := 52) dX12_bar_48 (by decide) ?_
        refine wp_iret dX12_bar_52 rfl ?_
        first | exact Or.inl ⟨by omega, rfl, rfl⟩ | exact Or.inr ⟨by omega, by rw [if_pos (by omega)], rfl⟩ | exact Or.inr ⟨by omega, by rw [if_neg (by omega)], rfl⟩
    · refine wp_bipush (by decide) dX12_bar_16 ?_
      refine wp_iret dX12_bar_18 rfl ?_
      first | exact Or.inl ⟨by omega, rfl, rfl⟩ | exact Or.inr ⟨by omega, by rw [if_pos (by omega)], rfl⟩ | exact Or.inr ⟨by omega, by rw [if_neg (by omega)], rfl⟩
theorem or_bit {x r : Int} (x0 : 0 ≤ x) (x1 : x < 256) (r0 : 0 ≤ r) (r1 : r < 8) : 0 ≤ iOr x (iShl 1 r) ∧ iOr x (iShl 1 r) < 256 ∧ ∀ s, 0 ≤ s → s < 8 → bt (iOr x (iShl 1 r)) s = if s = r then 1 else bt x s := by
  have hp : (2 : Int) ^ r.toNat = ((2 ^ r.toNat : Nat) : Int) := by rw [Int.natCast_pow]; rfl
  have hb : 2 ^ r.toNat < 2 ^ 8 := Nat.pow_lt_pow_right (by decide) (by omega)
  have e1 : iShl 1 r = ((2 ^ r.toNat : Nat) : Int) := by
    rw [iShl_eq (by decide) r0 (by omega) (by rw [hp]; omega), Int.one_mul, hp]
  have e2 : iOr x (iShl 1 r) = ((x.toNat ||| 2 ^ r.toNat : Nat) : Int) := by
    rw [e1]
    generalize 2 ^ r.toNat = p at hb
    rw [iOr_nat x0 (by omega) (Int.natCast_nonneg p) (by omega)]
    rfl
  have hl : x.toNat ||| 2 ^ r.toNat < 2 ^ 8 := Nat.or_lt_two_pow (by omega) hb
  refine ⟨by rw [e2]; omega, by rw [e2]; omega, fun s s0 s1 => ?_⟩
  rw [bt_tb (by rw [e2]; omega) (by rw [e2]; omega) s0 (by omega), bt_tb x0 (by omega) s0 (by omega), e2, Int.toNat_natCast, Nat.testBit_or, Nat.testBit_two_pow]
  by_cases c : s = r
  · subst c
    simp
  · rw [if_neg c, decide_eq_false (by omega), Bool.or_false]
def kuF : Nat → Int → Int → Int
  | 0, _, _ => 0
  | n + 1, at_, ab => if 0 ≤ at_ ∧ at_ ≤ 5 then (if at_ = ab then 1 else kuF n (strF aboveL at_.toNat) ab) else 0
theorem kuF_01 : ∀ (n : Nat) (x ab : Int), kuF n x ab = 0 ∨ kuF n x ab = 1
  | 0, _, _ => Or.inl rfl
  | n + 1, x, ab => by
    unfold kuF
    split
    · split
      · exact Or.inr rfl
      · exact kuF_01 n _ _
    · exact Or.inl rfl
theorem above_in {x : Int} : InI (strF aboveL x.toNat) := by
  by_cases c : x.toNat < 6
  · rcases (show x.toNat = 0 ∨ x.toNat = 1 ∨ x.toNat = 2 ∨ x.toNat = 3 ∨ x.toNat = 4 ∨ x.toNat = 5 by omega) with q | q | q | q | q | q <;> rw [q] <;> exact ⟨by decide +kernel, by decide +kernel⟩
  · have : strF aboveL x.toNat = 0 := by
      unfold strF
      rw [List.getD_eq_getElem?_getD, show aboveL[x.toNat]? = none from List.getElem?_eq_none (by show 6 ≤ x.toNat; omega)]
      rfl
    rw [this]
    exact ⟨by decide, by decide⟩
theorem s_X11_isKindOrUnder {u : gT} {h : mH} {d b : Nat} {k ab : Int} (i1 : InI k) (i2 : InI ab) : Det (gX (gq u)) MX11_isKindOrUnder (d + 1) b [(0, k), (0, ab)] h (0, kuF 6 k ab) h := by
  intro Q hQ
  have loop : ∀ n : Nat, n ≤ 6 → ∀ x : Int, InI x → (Q (0, kuF n x ab) h) → WP (gX (gq u)) MX11_isKindOrUnder (d + 1) b Q 4 [(0, k), (0, ab), (0, x), (0, 6 - (n : Int))] [] h := by
    intro n
    induction n with
    | zero =>
      intro hn x hx hQ
      refine wp_iload_n rfl rfl dX11_isKindOrUnder_4 ?_
      refine wp_iconst dX11_isKindOrUnder_5 ?_
      refine wp_icmp_gt (tgt := 42) (by first | assumption | exact bI_in _ | exact ⟨by omega, by omega⟩ | exact iAnd_in | exact iOr_in | exact iShr_in | exact iShl_in | exact iXor_in | exact hxs _) (by first | assumption | exact bI_in _ | exact ⟨by omega, by omega⟩ | exact iAnd_in | exact iOr_in | exact iShr_in | exact iShl_in | exact iXor_in | exact hxs _) dX11_isKindOrUnder_6 (by decide) (fun c1 => ?_) (fun c1 => ?_)
      · refine wp_iconst dX11_isKindOrUnder_42 ?_
        refine wp_zret (by first | exact Or.inl rfl | exact Or.inr rfl | omega) dX11_isKindOrUnder_43 rfl ?_
        first
          | exact hQ
          | (exfalso; omega)
          | (rw [if_pos (by omega), if_pos (by assumption)] at hQ; exact hQ)
          | (rw [if_neg (by omega)] at hQ; exact hQ)
      · refine wp_iload_n rfl rfl dX11_isKindOrUnder_9 ?_
        refine wp_iconst dX11_isKindOrUnder_10 ?_
        refine wp_gets (v := (2, -11)) (List.mem_of_getElem? (i := 0) rfl) sfX11_380 (Or.inr ⟨rfl, Or.inl (by decide)⟩) dX11_isKindOrUnder_11 ?_
        refine wp_alenR rfl (by first | assumption | decide) dX11_isKindOrUnder_14 ?_
        refine wp_iconst dX11_isKindOrUnder_15 ?_
        refine wp_isub dX11_isKindOrUnder_16 ?_
        refine wp_cS3 okX11_isWithin wX11_98 dX11_isKindOrUnder_17 rfl (Nat.le_of_ble_eq_true rfl) (Nat.le_of_ble_eq_true rfl) (s_X11_isWithin (by first | assumption | exact ⟨by omega, by omega⟩) In0 ⟨by decide, by decide⟩) (Nat.zero_le _) ?_
        try simp (disch := omega) only [up2_ne, up2_eq]
        refine wp_ifB_eq (tgt := 42) dX11_isKindOrUnder_20 (by decide) (fun c2 => ?_) (fun c2 => ?_)
        · refine wp_iconst dX11_isKindOrUnder_42 ?_
          refine wp_zret (by first | exact Or.inl rfl | exact Or.inr rfl | omega) dX11_isKindOrUnder_43 rfl ?_
          first
            | exact hQ
            | (exfalso; omega)
            | (rw [if_pos (by omega), if_pos (by assumption)] at hQ; exact hQ)
            | (rw [if_neg (by omega)] at hQ; exact hQ)
        · refine wp_iload_n rfl rfl dX11_isKindOrUnder_23 ?_
          refine wp_iload_n rfl rfl dX11_isKindOrUnder_24 ?_
          refine wp_icmp_ne (tgt := 30) (by first | assumption | exact bI_in _ | exact ⟨by omega, by omega⟩ | exact iAnd_in | exact iOr_in | exact iShr_in | exact iShl_in | exact iXor_in | exact hxs _) (by first | assumption | exact bI_in _ | exact ⟨by omega, by omega⟩ | exact iAnd_in | exact iOr_in | exact iShr_in | exact iShl_in | exact iXor_in | exact hxs _) dX11_isKindOrUnder_25 (by decide) (fun c3 => ?_) (fun c3 => ?_)
          · refine wp_gets (v := (2, -11)) (List.mem_of_getElem? (i := 0) rfl) sfX11_380 (Or.inr ⟨rfl, Or.inl (by decide)⟩) dX11_isKindOrUnder_30 ?_
            refine wp_iload_n rfl rfl dX11_isKindOrUnder_33 ?_
            refine wp_ialoadR rfl (by first | assumption | decide) (by first | omega | (simp (disch := omega) only [up2_ne, up2_eq]; first | done | omega)) (by first | omega | (simp only []; omega)) dX11_isKindOrUnder_34 ?_
            refine wp_istore_n rfl dX11_isKindOrUnder_35 rfl (Nat.le_of_ble_eq_true rfl) rfl ?_
            try simp only [List.set_cons_zero, List.set_cons_succ]
            refine wp_iinc rfl rfl dX11_isKindOrUnder_36 rfl rfl ?_
            try simp only [List.set_cons_zero, List.set_cons_succ]
            refine wp_goto (tgt := 4) dX11_isKindOrUnder_39 (by decide) ?_
            first
              | (rw [if_pos (by omega), if_neg (by assumption)] at hQ; have hi := ih _ above_in hQ; rw [show 6 - ((n + 1 : Nat) : Int) + 1 = 6 - (n : Int) by omega]; exact hi)
              | (exfalso; omega)
          · refine wp_iconst dX11_isKindOrUnder_28 ?_
            refine wp_zret (by first | exact Or.inl rfl | exact Or.inr rfl | omega) dX11_isKindOrUnder_29 rfl ?_
            first
              | exact hQ
              | (exfalso; omega)
              | (rw [if_pos (by omega), if_pos (by assumption)] at hQ; exact hQ)
              | (rw [if_neg (by omega)] at hQ; exact hQ)
    | succ n ih =>
      intro hn x hx hQ
      have ih := ih (by omega)
      unfold kuF at hQ
      refine wp_iload_n rfl rfl dX11_isKindOrUnder_4 ?_
      refine wp_iconst dX11_isKindOrUnder_5 ?_
      refine wp_icmp_gt (tgt := 42) (by first | assumption | exact bI_in _ | exact ⟨by omega, by omega⟩ | exact iAnd_in | exact iOr_in | exact iShr_in | exact iShl_in | exact iXor_in | exact hxs _) (by first | assumption | exact bI_in _ | exact ⟨by omega, by omega⟩ | exact iAnd_in | exact iOr_in | exact iShr_in | exact iShl_in | exact iXor_in | exact hxs _) dX11_isKindOrUnder_6 (by decide) (fun c4 => ?_) (fun c4 => ?_)
      · refine wp_iconst dX11_isKindOrUnder_42 ?_
        refine wp_zret (by first | exact Or.inl rfl | exact Or.inr rfl | omega) dX11_isKindOrUnder_43 rfl ?_
        first
          | exact hQ
          | (exfalso; omega)
          | (rw [if_pos (by omega), if_pos (by assumption)] at hQ; exact hQ)
          | (rw [if_neg (by omega)] at hQ; exact hQ)
      · refine wp_iload_n rfl rfl dX11_isKindOrUnder_9 ?_
        refine wp_iconst dX11_isKindOrUnder_10 ?_
        refine wp_gets (v := (2, -11)) (List.mem_of_getElem? (i := 0) rfl) sfX11_380 (Or.inr ⟨rfl, Or.inl (by decide)⟩) dX11_isKindOrUnder_11 ?_
        refine wp_alenR rfl (by first | assumption | decide) dX11_isKindOrUnder_14 ?_
        refine wp_iconst dX11_isKindOrUnder_15 ?_
        refine wp_isub dX11_isKindOrUnder_16 ?_
        refine wp_cS3 okX11_isWithin wX11_98 dX11_isKindOrUnder_17 rfl (Nat.le_of_ble_eq_true rfl) (Nat.le_of_ble_eq_true rfl) (s_X11_isWithin (by first | assumption | exact ⟨by omega, by omega⟩) In0 ⟨by decide, by decide⟩) (Nat.zero_le _) ?_
        try simp (disch := omega) only [up2_ne, up2_eq]
        refine wp_ifB_eq (tgt := 42) dX11_isKindOrUnder_20 (by decide) (fun c5 => ?_) (fun c5 => ?_)
        · refine wp_iconst dX11_isKindOrUnder_42 ?_
          refine wp_zret (by first | exact Or.inl rfl | exact Or.inr rfl | omega) dX11_isKindOrUnder_43 rfl ?_
          first
            | exact hQ
            | (exfalso; omega)
            | (rw [if_pos (by omega), if_pos (by assumption)] at hQ; exact hQ)
            | (rw [if_neg (by omega)] at hQ; exact hQ)
        · refine wp_iload_n rfl rfl dX11_isKindOrUnder_23 ?_
          refine wp_iload_n rfl rfl dX11_isKindOrUnder_24 ?_
          refine wp_icmp_ne (tgt := 30) (by first | assumption | exact bI_in _ | exact ⟨by omega, by omega⟩ | exact iAnd_in | exact iOr_in | exact iShr_in | exact iShl_in | exact iXor_in | exact hxs _) (by first | assumption | exact bI_in _ | exact ⟨by omega, by omega⟩ | exact iAnd_in | exact iOr_in | exact iShr_in | exact iShl_in | exact iXor_in | exact hxs _) dX11_isKindOrUnder_25 (by decide) (fun c6 => ?_) (fun c6 => ?_)
          · refine wp_gets (v := (2, -11)) (List.mem_of_getElem? (i := 0) rfl) sfX11_380 (Or.inr ⟨rfl, Or.inl (by decide)⟩) dX11_isKindOrUnder_30 ?_
            refine wp_iload_n rfl rfl dX11_isKindOrUnder_33 ?_
            refine wp_ialoadR rfl (by first | assumption | decide) (by first | omega | (simp (disch := omega) only [up2_ne, up2_eq]; first | done | omega)) (by first | omega | (simp only []; omega)) dX11_isKindOrUnder_34 ?_
            refine wp_istore_n rfl dX11_isKindOrUnder_35 rfl (Nat.le_of_ble_eq_true rfl) rfl ?_
            try simp only [List.set_cons_zero, List.set_cons_succ]
            refine wp_iinc rfl rfl dX11_isKindOrUnder_36 rfl rfl ?_
            try simp only [List.set_cons_zero, List.set_cons_succ]
            refine wp_goto (tgt := 4) dX11_isKindOrUnder_39 (by decide) ?_
            first
              | (rw [if_pos (by omega), if_neg (by assumption)] at hQ; have hi := ih _ above_in hQ; rw [show 6 - ((n + 1 : Nat) : Int) + 1 = 6 - (n : Int) by omega]; exact hi)
              | (exfalso; omega)
          · refine wp_iconst dX11_isKindOrUnder_28 ?_
            refine wp_zret (by first | exact Or.inl rfl | exact Or.inr rfl | omega) dX11_isKindOrUnder_29 rfl ?_
            first
              | exact hQ
              | (exfalso; omega)
              | (rw [if_pos (by omega), if_pos (by assumption)] at hQ; exact hQ)
              | (rw [if_neg (by omega)] at hQ; exact hQ)
  show WP (gX (gq u)) MX11_isKindOrUnder (d + 1) b Q 0 [(0, k), (0, ab), (9, 0), (9, 0)] [] h
  refine wp_iload_n rfl rfl dX11_isKindOrUnder_0 ?_
  refine wp_istore_n rfl dX11_isKindOrUnder_1 rfl (Nat.le_of_ble_eq_true rfl) rfl ?_
  try simp only [List.set_cons_zero, List.set_cons_succ]
  refine wp_iconst dX11_isKindOrUnder_2 ?_
  refine wp_istore_n rfl dX11_isKindOrUnder_3 rfl (Nat.le_of_ble_eq_true rfl) rfl ?_
  try simp only [List.set_cons_zero, List.set_cons_succ]
  exact loop 6 (by omega) k i1 hQ
theorem kuF_eq {o k : Int} (o0 : 0 ≤ o) (o1 : o ≤ 5) (k0 : 0 ≤ k) (k1 : k ≤ 5) : kuF 6 o k = bI (k = 0 ∨ k = o ∨ (k = 1 ∧ o = 5) ∨ (k = 2 ∧ (o = 3 ∨ o = 4))) := by
  rcases (show o = 0 ∨ o = 1 ∨ o = 2 ∨ o = 3 ∨ o = 4 ∨ o = 5 by omega) with rfl | rfl | rfl | rfl | rfl | rfl <;> rcases (show k = 0 ∨ k = 1 ∨ k = 2 ∨ k = 3 ∨ k = 4 ∨ k = 5 by omega) with rfl | rfl | rfl | rfl | rfl | rfl <;> decide +kernel
