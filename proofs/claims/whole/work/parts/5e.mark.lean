/-! ===== mark: class, reference, pair ===== -/
theorem Cl.up {h m : mH} (e : Cl h m) (a k v : Int) : Cl (up2 h a k v) (up2 m a k v) := by
  intro x y q
  unfold up2
  split
  · rfl
  · exact e x y q
theorem Cl.upr {h m : mH} (e : Cl h m) {a : Int} (k v : Int) (ha : 200 ≤ a) : Cl h (up2 m a k v) := by
  intro x y q
  rw [up2_ne (Or.inl (by omega))]
  exact e x y q
theorem Cr.up {h m : mH} (e : Cr h m) (a k v : Int) : Cr (up2 h a k v) (up2 m a k v) := by
  intro x y q
  unfold up2
  split
  · rfl
  · exact e x y q
theorem Cr.upl {h m : mH} (e : Cr h m) {a : Int} (k v : Int) (ha : a < 200) : Cr h (up2 m a k v) := by
  intro x y q
  rw [up2_ne (Or.inl (by omega))]
  exact e x y q
theorem Cr.uph {h m : mH} (e : Cr h m) {a : Int} (k v : Int) (ha : a < 200) : Cr (up2 h a k v) m := by
  intro x y q
  rw [up2_ne (Or.inl (by omega))]
  exact e x y q
theorem Ce.up {h : mH} {a : Int} (k v : Int) (ha : 200 ≤ a) : Ce h (up2 h a k v) := by
  intro x y q
  rw [up2_ne (Or.inl (by omega))]
def mkH (m : mH) (r a v : Int) : mH := up2 (up2 (up2 m (140 + a) r v) (120 + a) 8 (iOr (m (120 + a) 8) (iShl 1 r))) 220 (8 * a + r) v
theorem Inv_mark {j : Nat} {m : mH} (H : Inv j m) {r a v : Int} (r0 : 0 ≤ r) (r1 : r < m 200 6) (a0 : 0 ≤ a) (a1 : a < m 200 10) (v0 : 0 ≤ v) (v1 : v ≤ 100) (hd : bt (m 218 a) r = 1) : Inv j (mkH m r a v) := by
  obtain ⟨hS, aN, aF, aR, aA, aB, aG, aS, aP, aT⟩ := id H
  have n := aN
  unfold iN at n
  have hb0 := (aB a r a0 (by omega) r0 (by omega)).1
  have hx : 0 ≤ m (120 + a) 8 ∧ m (120 + a) 8 < 256 := by rcases hb0 with q | q <;> omega
  clear hb0
  have ho := or_bit hx.1 hx.2 r0 (by omega)
  unfold mkH
  generalize iOr (m (120 + a) 8) (iShl 1 r) = w at ho ⊢
  refine ⟨((hS.upD (by omega)).upD (by omega)).upA (by decide +kernel) (by omega), (by unfold iN at aN ⊢; simp (disch := omega) only [up2_ne, up2_eq, nw_ne, nw_m1, nw_m2, true_and, and_true]; exact aN), iF_cg (by simp (disch := omega) only [up2_ne, up2_eq, nw_ne, nw_m1, nw_m2, true_and, and_true]) (fun x k q => by simp (disch := omega) only [up2_ne, up2_eq, nw_ne, nw_m1, nw_m2, true_and, and_true]) aF, iR_cg (by simp (disch := omega) only [up2_ne, up2_eq, nw_ne, nw_m1, nw_m2, true_and, and_true]) (by simp (disch := omega) only [up2_ne, up2_eq, nw_ne, nw_m1, nw_m2, true_and, and_true]) (fun x k q => by simp (disch := omega) only [up2_ne, up2_eq, nw_ne, nw_m1, nw_m2, true_and, and_true]) aR, iA_cg (by simp (disch := omega) only [up2_ne, up2_eq, nw_ne, nw_m1, nw_m2, true_and, and_true]) (by simp (disch := omega) only [up2_ne, up2_eq, nw_ne, nw_m1, nw_m2, true_and, and_true]; omega) (fun x k q => by simp (disch := omega) only [up2_ne, up2_eq, nw_ne, nw_m1, nw_m2, true_and, and_true]) aA, ?_, iG_cg (by simp (disch := omega) only [up2_ne, up2_eq, nw_ne, nw_m1, nw_m2, true_and, and_true]) (by simp (disch := omega) only [up2_ne, up2_eq, nw_ne, nw_m1, nw_m2, true_and, and_true]; omega) (fun x k q => by simp (disch := omega) only [up2_ne, up2_eq, nw_ne, nw_m1, nw_m2, true_and, and_true]) aG, iS_cg (fun x k q => by simp (disch := omega) only [up2_ne, up2_eq, nw_ne, nw_m1, nw_m2, true_and, and_true]) aS, iP_cg (by simp (disch := omega) only [up2_ne, up2_eq, nw_ne, nw_m1, nw_m2, true_and, and_true]) (fun x k q => by simp (disch := omega) only [up2_ne, up2_eq, nw_ne, nw_m1, nw_m2, true_and, and_true]) aP, iT_cg (by simp (disch := omega) only [up2_ne, up2_eq, nw_ne, nw_m1, nw_m2, true_and, and_true]) (by omega) (fun x k q => by simp (disch := omega) only [up2_ne, up2_eq, nw_ne, nw_m1, nw_m2, true_and, and_true]) aT⟩
  intro a' s a0' a1' s0 s1
  have hb := aB a' s a0' a1' s0 s1
  have hz := ho.2.2 s s0 s1
  clear aB aF aR aA aG aS aP aT H
  by_cases e1 : a' = a
  · subst e1
    by_cases e2 : s = r
    · subst e2
      rw [if_pos rfl] at hz
      simp (disch := omega) only [up2_ne, up2_eq, nw_ne, nw_m1, nw_m2, true_and, and_true]
      rcases hb with ⟨⟨b1, b2, b3, b4, b5, b6, b7, b8⟩ | ⟨b1, b2⟩, b9⟩
      · exact ⟨Or.inl ⟨b1, b2, b3, ho.1, ho.2.1, b6, b7, Or.inr (by first | exact ⟨hz, v0, hd⟩ | exact ⟨hz, rfl, v0, hd⟩)⟩, by omega⟩
      · exfalso; omega
    · rw [if_neg e2] at hz
      simp (disch := omega) only [up2_ne, up2_eq, nw_ne, nw_m1, nw_m2, true_and, and_true]
      rcases hb with ⟨⟨b1, b2, b3, b4, b5, b6, b7, b8⟩ | ⟨b1, b2⟩, b9⟩
      · rw [hz]
        exact ⟨Or.inl ⟨b1, b2, b3, ho.1, ho.2.1, b6, b7, b8⟩, b9⟩
      · exfalso; omega
  · simp (disch := omega) only [up2_ne, up2_eq, nw_ne, nw_m1, nw_m2, true_and, and_true]
    exact hb
theorem mkH_n {m : mH} {r a v k : Int} (a0 : 0 ≤ a) (a1 : a < 14) : mkH m r a v 200 k = m 200 k := by
  unfold mkH
  simp (disch := omega) only [up2_ne, up2_eq, nw_ne, nw_m1, nw_m2, true_and, and_true]
theorem mark_f1 {u : gT} {j : Nat} {h m : mH} {d b : Nat} (H : Inv j m) (e : Cl h m) (hS : St h) {r a v : Int} (ir : InI r) (ia : InI a) (q : ¬ (0 ≤ r ∧ r < m 200 6)) : Det (gX (gq u)) MX11_mark (d + 5) b [(2, 1), (0, r), (0, a), (0, v)] h (0, -2) h := by
  intro Q hQ
  have hn := H.ns
  have e12 := H.n12
  have e13 := H.n13
  have e11 := H.n11
  show WP (gX (gq u)) MX11_mark (d + 5) b Q 0 [(2, 1), (0, r), (0, a), (0, v), (9, 0), (9, 0)] [] h
  refine wp_aload_n rfl rfl dX11_mark_0 ?_
  refine wp_iload_n rfl rfl dX11_mark_1 ?_
  refine wp_cV1 (ci := 11) okX11_findReader rfl rfl wX11_138 dX11_mark_2 rfl (Nat.le_of_ble_eq_true rfl) (Nat.le_of_ble_eq_true rfl) (by first | omega | (simp (disch := omega) only [up2_ne, up2_eq, e, e11, e12, e13, H.a4, H.az, H.r3, H.rz, st_1_m1 hS, st_1_m1 H.1]; first | done | omega)) (by first | assumption | (simp (disch := omega) only [up2_ne, up2_eq, e, e11, e12, e13, H.a4, H.az, H.r3, H.rz, st_1_m1 hS, st_1_m1 H.1]; first | done | rfl | omega)) (ndR_f H e hS ir q) (Nat.zero_le _) ?_
  try simp (disch := omega) only [up2_ne, up2_eq, e, e11, e12, e13, H.a4, H.az, H.r3, H.rz, st_1_m1 hS, st_1_m1 H.1]
  refine wp_astore dX11_mark_5 rfl (Nat.le_of_ble_eq_true rfl) rfl ?_
  try simp only [List.set_cons_zero, List.set_cons_succ]
  refine wp_aload_n rfl rfl dX11_mark_7 ?_
  refine wp_iload_n rfl rfl dX11_mark_8 ?_
  refine wp_cV1 (ci := 11) okX11_findAsking rfl rfl wX11_200 dX11_mark_9 rfl (Nat.le_of_ble_eq_true rfl) (Nat.le_of_ble_eq_true rfl) (by first | omega | (simp (disch := omega) only [up2_ne, up2_eq, e, e11, e12, e13, H.a4, H.az, H.r3, H.rz, st_1_m1 hS, st_1_m1 H.1]; first | done | omega)) (by first | assumption | (simp (disch := omega) only [up2_ne, up2_eq, e, e11, e12, e13, H.a4, H.az, H.r3, H.rz, st_1_m1 hS, st_1_m1 H.1]; first | done | rfl | omega)) (ndA_g H e hS ia) (Nat.zero_le _) ?_
  try simp (disch := omega) only [up2_ne, up2_eq, e, e11, e12, e13, H.a4, H.az, H.r3, H.rz, st_1_m1 hS, st_1_m1 H.1]
  refine wp_astore dX11_mark_12 rfl (Nat.le_of_ble_eq_true rfl) rfl ?_
  try simp only [List.set_cons_zero, List.set_cons_succ]
  refine wp_aload rfl dX11_mark_14 ?_
  refine wp_ifnull (tgt := 34) dX11_mark_16 (by decide) (fun hx => ?_) (fun hx => absurd rfl hx)
  refine wp_bipush (by decide) dX11_mark_34 ?_
  refine wp_iret dX11_mark_36 rfl ?_
  exact hQ
theorem mark_f2 {u : gT} {j : Nat} {h m : mH} {d b : Nat} (H : Inv j m) (e : Cl h m) (hS : St h) {r : Int} (r0 : 0 ≤ r) (r1 : r < m 200 6) {a v : Int} (ia : InI a) (q : ¬ (0 ≤ a ∧ a < m 200 10)) : Det (gX (gq u)) MX11_mark (d + 5) b [(2, 1), (0, r), (0, a), (0, v)] h (0, -2) h := by
  intro Q hQ
  have hn := H.ns
  have e12 := H.n12
  have e13 := H.n13
  have e11 := H.n11
  show WP (gX (gq u)) MX11_mark (d + 5) b Q 0 [(2, 1), (0, r), (0, a), (0, v), (9, 0), (9, 0)] [] h
  refine wp_aload_n rfl rfl dX11_mark_0 ?_
  refine wp_iload_n rfl rfl dX11_mark_1 ?_
  refine wp_cV1 (ci := 11) okX11_findReader rfl rfl wX11_138 dX11_mark_2 rfl (Nat.le_of_ble_eq_true rfl) (Nat.le_of_ble_eq_true rfl) (by first | omega | (simp (disch := omega) only [up2_ne, up2_eq, e, e11, e12, e13, H.a4, H.az, H.r3, H.rz, st_1_m1 hS, st_1_m1 H.1]; first | done | omega)) (by first | assumption | (simp (disch := omega) only [up2_ne, up2_eq, e, e11, e12, e13, H.a4, H.az, H.r3, H.rz, st_1_m1 hS, st_1_m1 H.1]; first | done | rfl | omega)) (ndR_t H e hS r0 r1) (Nat.zero_le _) ?_
  try simp (disch := omega) only [up2_ne, up2_eq, e, e11, e12, e13, H.a4, H.az, H.r3, H.rz, st_1_m1 hS, st_1_m1 H.1]
  refine wp_astore dX11_mark_5 rfl (Nat.le_of_ble_eq_true rfl) rfl ?_
  try simp only [List.set_cons_zero, List.set_cons_succ]
  refine wp_aload_n rfl rfl dX11_mark_7 ?_
  refine wp_iload_n rfl rfl dX11_mark_8 ?_
  refine wp_cV1 (ci := 11) okX11_findAsking rfl rfl wX11_200 dX11_mark_9 rfl (Nat.le_of_ble_eq_true rfl) (Nat.le_of_ble_eq_true rfl) (by first | omega | (simp (disch := omega) only [up2_ne, up2_eq, e, e11, e12, e13, H.a4, H.az, H.r3, H.rz, st_1_m1 hS, st_1_m1 H.1]; first | done | omega)) (by first | assumption | (simp (disch := omega) only [up2_ne, up2_eq, e, e11, e12, e13, H.a4, H.az, H.r3, H.rz, st_1_m1 hS, st_1_m1 H.1]; first | done | rfl | omega)) (ndA_f H e hS ia q) (Nat.zero_le _) ?_
  try simp (disch := omega) only [up2_ne, up2_eq, e, e11, e12, e13, H.a4, H.az, H.r3, H.rz, st_1_m1 hS, st_1_m1 H.1]
  refine wp_astore dX11_mark_12 rfl (Nat.le_of_ble_eq_true rfl) rfl ?_
  try simp only [List.set_cons_zero, List.set_cons_succ]
  refine wp_aload rfl dX11_mark_14 ?_
  refine wp_ifnull (tgt := 34) dX11_mark_16 (by decide) (fun hx => absurd hx (by omega)) (fun hx => ?_)
  refine wp_aload rfl dX11_mark_19 ?_
  refine wp_ifnull (tgt := 34) dX11_mark_21 (by decide) (fun hx => ?_) (fun hx => absurd rfl hx)
  refine wp_bipush (by decide) dX11_mark_34 ?_
  refine wp_iret dX11_mark_36 rfl ?_
  exact hQ
theorem mark_t {u : gT} {j : Nat} {h m : mH} {d b : Nat} (H : Inv j m) (e : Cl h m) (hS : St h) {r : Int} (r0 : 0 ≤ r) (r1 : r < m 200 6) {a : Int} (a0 : 0 ≤ a) (a1 : a < m 200 10) {v : Int} (iv : InI v) : Rlt (gX (gq u)) MX11_mark (d + 5) b [(2, 1), (0, r), (0, a), (0, v)] h (fun x h1 => (¬ (0 ≤ v ∧ v ≤ 100) ∧ x = (0, -2) ∧ h1 = h) ∨ ((0 ≤ v ∧ v ≤ 100) ∧ (bt (m 218 a) r = 0 ∨ kb m r a) ∧ x = (0, -3) ∧ h1 = h) ∨ ((0 ≤ v ∧ v ≤ 100) ∧ bt (m 218 a) r ≠ 0 ∧ ¬ kb m r a ∧ x = (0, tA (mkH m r a v) w1 a) ∧ h1 = up2 (up2 h (140 + a) r v) (120 + a) 8 (iOr (m (120 + a) 8) (iShl 1 r)))) := by
  refine Rlt.of ?_
  have hn := H.ns
  have e12 := H.n12
  have e13 := H.n13
  have e11 := H.n11
  have hra := H.ra a0 (by omega)
  have hb01 := bt_01 (x := m 218 a) (i := r) (by omega) (by omega) r0 (by omega)
  show WP (gX (gq u)) MX11_mark (d + 5) b _ 0 [(2, 1), (0, r), (0, a), (0, v), (9, 0), (9, 0)] [] h
  refine wp_aload_n rfl rfl dX11_mark_0 ?_
  refine wp_iload_n rfl rfl dX11_mark_1 ?_
  refine wp_cV1 (ci := 11) okX11_findReader rfl rfl wX11_138 dX11_mark_2 rfl (Nat.le_of_ble_eq_true rfl) (Nat.le_of_ble_eq_true rfl) (by first | omega | (simp (disch := omega) only [up2_ne, up2_eq, e, e11, e12, e13, H.a4, H.az, H.r3, H.rz, H.a9, H.ri, H.a7, H.amz, H.aml, st_1_m1 hS, st_1_m1 H.1]; first | done | omega)) (by first | assumption | (simp (disch := omega) only [up2_ne, up2_eq, e, e11, e12, e13, H.a4, H.az, H.r3, H.rz, H.a9, H.ri, H.a7, H.amz, H.aml, st_1_m1 hS, st_1_m1 H.1]; first | done | rfl | omega)) (ndR_t H e hS r0 r1) (Nat.zero_le _) ?_
  try simp (disch := omega) only [up2_ne, up2_eq, e, e11, e12, e13, H.a4, H.az, H.r3, H.rz, H.a9, H.ri, H.a7, H.amz, H.aml, st_1_m1 hS, st_1_m1 H.1]
  refine wp_astore dX11_mark_5 rfl (Nat.le_of_ble_eq_true rfl) rfl ?_
  try simp only [List.set_cons_zero, List.set_cons_succ]
  refine wp_aload_n rfl rfl dX11_mark_7 ?_
  refine wp_iload_n rfl rfl dX11_mark_8 ?_
  refine wp_cV1 (ci := 11) okX11_findAsking rfl rfl wX11_200 dX11_mark_9 rfl (Nat.le_of_ble_eq_true rfl) (Nat.le_of_ble_eq_true rfl) (by first | omega | (simp (disch := omega) only [up2_ne, up2_eq, e, e11, e12, e13, H.a4, H.az, H.r3, H.rz, H.a9, H.ri, H.a7, H.amz, H.aml, st_1_m1 hS, st_1_m1 H.1]; first | done | omega)) (by first | assumption | (simp (disch := omega) only [up2_ne, up2_eq, e, e11, e12, e13, H.a4, H.az, H.r3, H.rz, H.a9, H.ri, H.a7, H.amz, H.aml, st_1_m1 hS, st_1_m1 H.1]; first | done | rfl | omega)) (ndA_t H e hS a0 a1) (Nat.zero_le _) ?_
  try simp (disch := omega) only [up2_ne, up2_eq, e, e11, e12, e13, H.a4, H.az, H.r3, H.rz, H.a9, H.ri, H.a7, H.amz, H.aml, st_1_m1 hS, st_1_m1 H.1]
  refine wp_astore dX11_mark_12 rfl (Nat.le_of_ble_eq_true rfl) rfl ?_
  try simp only [List.set_cons_zero, List.set_cons_succ]
  refine wp_aload rfl dX11_mark_14 ?_
  refine wp_ifnull (tgt := 34) dX11_mark_16 (by decide) (fun hx => absurd hx (by omega)) (fun hx => ?_)
  refine wp_aload rfl dX11_mark_19 ?_
  refine wp_ifnull (tgt := 34) dX11_mark_21 (by decide) (fun hx => absurd hx (by omega)) (fun hx => ?_)
  refine wp_iload_n rfl rfl dX11_mark_24 ?_
  refine wp_iconst dX11_mark_25 ?_
  refine wp_bipush (by decide) dX11_mark_26 ?_
  refine wp_cS3 okX11_isWithin wX11_98 dX11_mark_28 rfl (Nat.le_of_ble_eq_true rfl) (Nat.le_of_ble_eq_true rfl) (s_X11_isWithin (by first | assumption | exact ⟨by omega, by omega⟩) (by exact ⟨by omega, by omega⟩) (by exact ⟨by omega, by omega⟩)) (Nat.zero_le _) ?_
  try simp (disch := omega) only [up2_ne, up2_eq, e, e11, e12, e13, H.a4, H.az, H.r3, H.rz, H.a9, H.ri, H.a7, H.amz, H.aml, st_1_m1 hS, st_1_m1 H.1]
  refine wp_ifB_ne (tgt := 37) dX11_mark_31 (by decide) (fun c3 => ?_) (fun c3 => ?_)
  · refine wp_aload rfl dX11_mark_37 ?_
    refine wp_getfield1 (z := 1) (kI := 9) fX11_223 dX11_mark_39 (by first | omega | (simp (disch := omega) only [up2_ne, up2_eq, e, e11, e12, e13, H.a4, H.az, H.r3, H.rz, H.a9, H.ri, H.a7, H.amz, H.aml, st_1_m1 hS, st_1_m1 H.1]; first | done | omega)) (by first | assumption | (simp (disch := omega) only [up2_ne, up2_eq, e, e11, e12, e13, H.a4, H.az, H.r3, H.rz, H.a9, H.ri, H.a7, H.amz, H.aml, st_1_m1 hS, st_1_m1 H.1]; first | done | rfl | omega)) rfl rfl ?_
    try simp (disch := omega) only [up2_ne, up2_eq, e, e11, e12, e13, H.a4, H.az, H.r3, H.rz, H.a9, H.ri, H.a7, H.amz, H.aml, st_1_m1 hS, st_1_m1 H.1]
    refine wp_aload rfl dX11_mark_42 ?_
    refine wp_getfield1 (z := 7) (kI := 0) fX11_267 dX11_mark_44 (by first | omega | (simp (disch := omega) only [up2_ne, up2_eq, e, e11, e12, e13, H.a4, H.az, H.r3, H.rz, H.a9, H.ri, H.a7, H.amz, H.aml, st_1_m1 hS, st_1_m1 H.1]; first | done | omega)) (by first | assumption | (simp (disch := omega) only [up2_ne, up2_eq, e, e11, e12, e13, H.a4, H.az, H.r3, H.rz, H.a9, H.ri, H.a7, H.amz, H.aml, st_1_m1 hS, st_1_m1 H.1]; first | done | rfl | omega)) rfl rfl ?_
    try simp (disch := omega) only [up2_ne, up2_eq, e, e11, e12, e13, H.a4, H.az, H.r3, H.rz, H.a9, H.ri, H.a7, H.amz, H.aml, st_1_m1 hS, st_1_m1 H.1]
    refine wp_cS2 okX11_hasBit wX11_270 dX11_mark_47 rfl (Nat.le_of_ble_eq_true rfl) (Nat.le_of_ble_eq_true rfl) (s_X11_hasBit) (Nat.zero_le _) ?_
    try simp (disch := omega) only [up2_ne, up2_eq, e, e11, e12, e13, H.a4, H.az, H.r3, H.rz, H.a9, H.ri, H.a7, H.amz, H.aml, st_1_m1 hS, st_1_m1 H.1]
    refine wp_ifB_eq (tgt := 63) dX11_mark_50 (by decide) (fun c4 => ?_) (fun c4 => ?_)
    · refine wp_bipush (by decide) dX11_mark_63 ?_
      refine wp_iret dX11_mark_65 rfl ?_
      first | exact Or.inl ⟨by omega, rfl, rfl⟩ | exact Or.inr (Or.inl ⟨by omega, Or.inl (by omega), rfl, rfl⟩) | exact Or.inr (Or.inl ⟨by omega, Or.inr (by assumption), rfl, rfl⟩) | exact Or.inr (Or.inr ⟨by omega, by omega, by assumption, rfl, rfl⟩)
    · refine wp_aload rfl dX11_mark_53 ?_
      refine wp_aload rfl dX11_mark_55 ?_
      refine wp_cV1 (ci := 0) okX0_isBarredTo rfl rfl wX11_274 dX11_mark_57 rfl (Nat.le_of_ble_eq_true rfl) (Nat.le_of_ble_eq_true rfl) (by first | omega | (simp (disch := omega) only [up2_ne, up2_eq, e, e11, e12, e13, H.a4, H.az, H.r3, H.rz, H.a9, H.ri, H.a7, H.amz, H.aml, st_1_m1 hS, st_1_m1 H.1]; first | done | omega)) (by first | assumption | (simp (disch := omega) only [up2_ne, up2_eq, e, e11, e12, e13, H.a4, H.az, H.r3, H.rz, H.a9, H.ri, H.a7, H.amz, H.aml, st_1_m1 hS, st_1_m1 H.1]; first | done | rfl | omega)) (ib_row H e a0 a1 r0 r1) (Nat.zero_le _) ?_
      try simp (disch := omega) only [up2_ne, up2_eq, e, e11, e12, e13, H.a4, H.az, H.r3, H.rz, H.a9, H.ri, H.a7, H.amz, H.aml, st_1_m1 hS, st_1_m1 H.1]
      refine wp_ifB_eq (tgt := 66) dX11_mark_60 (by decide) (fun c5 => ?_) (fun c5 => ?_)
      · refine wp_aload rfl dX11_mark_66 ?_
        refine wp_aload rfl dX11_mark_68 ?_
        refine wp_iload_n rfl rfl dX11_mark_70 ?_
        refine wp_cV2v (ci := 0) okX0_setMark rfl rfl wX11_301 dX11_mark_71 (Nat.le_of_ble_eq_true rfl) (Nat.le_of_ble_eq_true rfl) (by first | omega | (simp (disch := omega) only [up2_ne, up2_eq, e, e11, e12, e13, H.a4, H.az, H.r3, H.rz, H.a9, H.ri, H.a7, H.amz, H.aml, st_1_m1 hS, st_1_m1 H.1]; first | done | omega)) (by first | assumption | (simp (disch := omega) only [up2_ne, up2_eq, e, e11, e12, e13, H.a4, H.az, H.r3, H.rz, H.a9, H.ri, H.a7, H.amz, H.aml, st_1_m1 hS, st_1_m1 H.1]; first | done | rfl | omega)) (s_X0_setMark (mk := 140 + a) (by omega) (by rw [e _ _ (by omega)]; exact H.az a0 a1) (by omega) (by rw [e _ _ (by omega)]; exact H.rz r0 r1) (by rw [e _ _ (by omega)]; exact H.a7 a0 a1) (by omega) (by rw [e _ _ (by omega)]; exact H.amz a0 a1) (by rw [e _ _ (by omega)]; exact H.aml a0 a1) (by rw [e _ _ (by omega), H.ri r0 r1]; omega) (by rw [e _ _ (by omega), H.ri r0 r1]; omega) (by omega) (by omega)) (Nat.zero_le _) ?_
        try simp (disch := omega) only [up2_ne, up2_eq, e, e11, e12, e13, H.a4, H.az, H.r3, H.rz, H.a9, H.ri, H.a7, H.amz, H.aml, st_1_m1 hS, st_1_m1 H.1]
        refine wp_aload_n rfl rfl dX11_mark_74 ?_
        refine wp_aload rfl dX11_mark_75 ?_
        refine wp_cV1 (ci := 11) okX11_marksThatCount rfl rfl wX11_226 dX11_mark_77 rfl (Nat.le_of_ble_eq_true rfl) (Nat.le_of_ble_eq_true rfl) (by first | omega | (simp (disch := omega) only [up2_ne, up2_eq, e, e11, e12, e13, H.a4, H.az, H.r3, H.rz, H.a9, H.ri, H.a7, H.amz, H.aml, st_1_m1 hS, st_1_m1 H.1]; first | done | omega)) (by first | assumption | (simp (disch := omega) only [up2_ne, up2_eq, e, e11, e12, e13, H.a4, H.az, H.r3, H.rz, H.a9, H.ri, H.a7, H.amz, H.aml, st_1_m1 hS, st_1_m1 H.1]; first | done | rfl | omega)) (s_X11_marksThatCount (Inv_mark H r0 r1 a0 a1 (v := v) (by omega) (by omega) (by omega)) (((e.up _ _ _).up _ _ _).upr _ _ (by omega)) ((hS.upD (by omega)).upD (by omega)) a0 (by rw [mkH_n a0 (by omega)]; exact a1)) (Nat.zero_le _) ?_
        try simp (disch := omega) only [up2_ne, up2_eq, e, e11, e12, e13, H.a4, H.az, H.r3, H.rz, H.a9, H.ri, H.a7, H.amz, H.aml, st_1_m1 hS, st_1_m1 H.1]
        refine wp_iret dX11_mark_80 rfl ?_
        first | exact Or.inl ⟨by omega, rfl, rfl⟩ | exact Or.inr (Or.inl ⟨by omega, Or.inl (by omega), rfl, rfl⟩) | exact Or.inr (Or.inl ⟨by omega, Or.inr (by assumption), rfl, rfl⟩) | exact Or.inr (Or.inr ⟨by omega, by omega, by assumption, rfl, rfl⟩)
      · refine wp_bipush (by decide) dX11_mark_63 ?_
        refine wp_iret dX11_mark_65 rfl ?_
        first | exact Or.inl ⟨by omega, rfl, rfl⟩ | exact Or.inr (Or.inl ⟨by omega, Or.inl (by omega), rfl, rfl⟩) | exact Or.inr (Or.inl ⟨by omega, Or.inr (by assumption), rfl, rfl⟩) | exact Or.inr (Or.inr ⟨by omega, by omega, by assumption, rfl, rfl⟩)
  · refine wp_bipush (by decide) dX11_mark_34 ?_
    refine wp_iret dX11_mark_36 rfl ?_
    first | exact Or.inl ⟨by omega, rfl, rfl⟩ | exact Or.inr (Or.inl ⟨by omega, Or.inl (by omega), rfl, rfl⟩) | exact Or.inr (Or.inl ⟨by omega, Or.inr (by assumption), rfl, rfl⟩) | exact Or.inr (Or.inr ⟨by omega, by omega, by assumption, rfl, rfl⟩)
theorem s_X12_mark {u : gT} {j : Nat} {h m : mH} {d b : Nat} (H : Inv j m) (e : Cr h m) (hS : St h) {r a v : Int} (ir : InI r) (ia : InI a) (iv : InI v) : Rlt (gX (gq u)) MX12_mark (d + 4) b [(2, 200), (0, r), (0, a), (0, v)] h (fun x h1 => (¬ ((0 ≤ r ∧ r < m 200 6) ∧ (0 ≤ a ∧ a < m 200 10) ∧ (0 ≤ v ∧ v ≤ 100)) ∧ x = (0, -2) ∧ h1 = h) ∨ (((0 ≤ r ∧ r < m 200 6) ∧ (0 ≤ a ∧ a < m 200 10) ∧ (0 ≤ v ∧ v ≤ 100)) ∧ (bt (m 218 a) r = 0 ∨ kb m r a) ∧ x = (0, -3) ∧ h1 = h) ∨ (((0 ≤ r ∧ r < m 200 6) ∧ (0 ≤ a ∧ a < m 200 10) ∧ (0 ≤ v ∧ v ≤ 100)) ∧ bt (m 218 a) r ≠ 0 ∧ ¬ kb m r a ∧ x = (0, tA (mkH m r a v) w1 a) ∧ h1 = up2 h 220 (8 * a + r) v)) := by
  refine Rlt.of ?_
  have hn := H.ns
  have hra := fun (z : 0 ≤ a ∧ a < m 200 10) => H.ra z.1 (by omega)
  have hb01 := fun (z : (0 ≤ r ∧ r < m 200 6) ∧ (0 ≤ a ∧ a < m 200 10)) => bt_01 (x := m 218 a) (i := r) (by have := hra z.2; omega) (by have := hra z.2; omega) z.1.1 (by omega)
  show WP (gX (gq u)) MX12_mark (d + 4) b _ 0 [(2, 200), (0, r), (0, a), (0, v)] [] h
  refine wp_aload_n rfl rfl dX12_mark_0 ?_
  refine wp_iload_n rfl rfl dX12_mark_1 ?_
  refine wp_cV1 (ci := 12) okX12_isReader rfl rfl wX12_58 dX12_mark_2 rfl (Nat.le_of_ble_eq_true rfl) (Nat.le_of_ble_eq_true rfl) (by first | omega | (simp (disch := omega) only [up2_ne, up2_eq, e, st_200_m1 hS, st_200_m1 H.1, st_200_18 hS, st_200_18 H.1, st_200_20 hS, st_200_20 H.1, st_218_m2 hS, st_218_m2 H.1, st_218_m1 hS, st_218_m1 H.1, st_220_m2 hS, st_220_m2 H.1, st_220_m1 hS, st_220_m1 H.1]; first | done | omega)) (by first | assumption | (simp (disch := omega) only [up2_ne, up2_eq, e, st_200_m1 hS, st_200_m1 H.1, st_200_18 hS, st_200_18 H.1, st_200_20 hS, st_200_20 H.1, st_218_m2 hS, st_218_m2 H.1, st_218_m1 hS, st_218_m1 H.1, st_220_m2 hS, st_220_m2 H.1, st_220_m1 hS, st_220_m1 H.1]; first | done | rfl | omega)) (risReader H e hS (by assumption)) (Nat.zero_le _) ?_
  try simp (disch := omega) only [up2_ne, up2_eq, e, st_200_m1 hS, st_200_m1 H.1, st_200_18 hS, st_200_18 H.1, st_200_20 hS, st_200_20 H.1, st_218_m2 hS, st_218_m2 H.1, st_218_m1 hS, st_218_m1 H.1, st_220_m2 hS, st_220_m2 H.1, st_220_m1 hS, st_220_m1 H.1]
  refine wp_ifB_eq (tgt := 28) dX12_mark_5 (by decide) (fun c1 => ?_) (fun c1 => ?_)
  · refine wp_bipush (by decide) dX12_mark_28 ?_
    refine wp_iret dX12_mark_30 rfl ?_
    first | exact Or.inl ⟨by omega, rfl, rfl⟩ | exact Or.inr (Or.inl ⟨by omega, Or.inl (by assumption), rfl, rfl⟩) | exact Or.inr (Or.inl ⟨by omega, Or.inr (by assumption), rfl, rfl⟩) | exact Or.inr (Or.inr ⟨by omega, by assumption, by assumption, rfl, rfl⟩)
  · refine wp_aload_n rfl rfl dX12_mark_8 ?_
    refine wp_iload_n rfl rfl dX12_mark_9 ?_
    refine wp_cV1 (ci := 12) okX12_isAsking rfl rfl wX12_126 dX12_mark_10 rfl (Nat.le_of_ble_eq_true rfl) (Nat.le_of_ble_eq_true rfl) (by first | omega | (simp (disch := omega) only [up2_ne, up2_eq, e, st_200_m1 hS, st_200_m1 H.1, st_200_18 hS, st_200_18 H.1, st_200_20 hS, st_200_20 H.1, st_218_m2 hS, st_218_m2 H.1, st_218_m1 hS, st_218_m1 H.1, st_220_m2 hS, st_220_m2 H.1, st_220_m1 hS, st_220_m1 H.1]; first | done | omega)) (by first | assumption | (simp (disch := omega) only [up2_ne, up2_eq, e, st_200_m1 hS, st_200_m1 H.1, st_200_18 hS, st_200_18 H.1, st_200_20 hS, st_200_20 H.1, st_218_m2 hS, st_218_m2 H.1, st_218_m1 hS, st_218_m1 H.1, st_220_m2 hS, st_220_m2 H.1, st_220_m1 hS, st_220_m1 H.1]; first | done | rfl | omega)) (risAsking H e hS (by assumption)) (Nat.zero_le _) ?_
    try simp (disch := omega) only [up2_ne, up2_eq, e, st_200_m1 hS, st_200_m1 H.1, st_200_18 hS, st_200_18 H.1, st_200_20 hS, st_200_20 H.1, st_218_m2 hS, st_218_m2 H.1, st_218_m1 hS, st_218_m1 H.1, st_220_m2 hS, st_220_m2 H.1, st_220_m1 hS, st_220_m1 H.1]
    refine wp_ifB_eq (tgt := 28) dX12_mark_13 (by decide) (fun c2 => ?_) (fun c2 => ?_)
    · refine wp_bipush (by decide) dX12_mark_28 ?_
      refine wp_iret dX12_mark_30 rfl ?_
      first | exact Or.inl ⟨by omega, rfl, rfl⟩ | exact Or.inr (Or.inl ⟨by omega, Or.inl (by assumption), rfl, rfl⟩) | exact Or.inr (Or.inl ⟨by omega, Or.inr (by assumption), rfl, rfl⟩) | exact Or.inr (Or.inr ⟨by omega, by assumption, by assumption, rfl, rfl⟩)
    · refine wp_iload_n rfl rfl dX12_mark_16 ?_
      refine wp_i2l (by first | assumption | exact bI_in _ | exact ⟨by omega, by omega⟩ | exact iAnd_in | exact iOr_in | exact iShr_in | exact iShl_in | exact iXor_in | exact hxs _) dX12_mark_17 ?_
      refine wp_lconst (v := 0) rfl dX12_mark_18 ?_
      refine wp_ldc2 kX12_307 dX12_mark_19 ?_
      refine wp_cS3 okX12_isIn wX12_15 dX12_mark_22 rfl (Nat.le_of_ble_eq_true rfl) (Nat.le_of_ble_eq_true rfl) (s_X12_isIn (by exact ⟨by have := iv.1; omega, by have := iv.2; omega⟩) (by exact ⟨by omega, by omega⟩) (by exact ⟨by omega, by omega⟩)) (Nat.zero_le _) ?_
      try simp (disch := omega) only [up2_ne, up2_eq, e, st_200_m1 hS, st_200_m1 H.1, st_200_18 hS, st_200_18 H.1, st_200_20 hS, st_200_20 H.1, st_218_m2 hS, st_218_m2 H.1, st_218_m1 hS, st_218_m1 H.1, st_220_m2 hS, st_220_m2 H.1, st_220_m1 hS, st_220_m1 H.1]
      refine wp_ifB_ne (tgt := 31) dX12_mark_25 (by decide) (fun c3 => ?_) (fun c3 => ?_)
      · refine wp_aload_n rfl rfl dX12_mark_31 ?_
        refine wp_getfield1 (z := 13) (kI := 18) fX12_55 dX12_mark_32 (by first | omega | (simp (disch := omega) only [up2_ne, up2_eq, e, st_200_m1 hS, st_200_m1 H.1, st_200_18 hS, st_200_18 H.1, st_200_20 hS, st_200_20 H.1, st_218_m2 hS, st_218_m2 H.1, st_218_m1 hS, st_218_m1 H.1, st_220_m2 hS, st_220_m2 H.1, st_220_m1 hS, st_220_m1 H.1]; first | done | omega)) (by first | assumption | (simp (disch := omega) only [up2_ne, up2_eq, e, st_200_m1 hS, st_200_m1 H.1, st_200_18 hS, st_200_18 H.1, st_200_20 hS, st_200_20 H.1, st_218_m2 hS, st_218_m2 H.1, st_218_m1 hS, st_218_m1 H.1, st_220_m2 hS, st_220_m2 H.1, st_220_m1 hS, st_220_m1 H.1]; first | done | rfl | omega)) rfl rfl ?_
        try simp (disch := omega) only [up2_ne, up2_eq, e, st_200_m1 hS, st_200_m1 H.1, st_200_18 hS, st_200_18 H.1, st_200_20 hS, st_200_20 H.1, st_218_m2 hS, st_218_m2 H.1, st_218_m1 hS, st_218_m1 H.1, st_220_m2 hS, st_220_m2 H.1, st_220_m1 hS, st_220_m1 H.1]
        refine wp_iload_n rfl rfl dX12_mark_35 ?_
        refine wp_iaload1 dX12_mark_36 (by first | omega | (simp (disch := omega) only [up2_ne, up2_eq, e, st_200_m1 hS, st_200_m1 H.1, st_200_18 hS, st_200_18 H.1, st_200_20 hS, st_200_20 H.1, st_218_m2 hS, st_218_m2 H.1, st_218_m1 hS, st_218_m1 H.1, st_220_m2 hS, st_220_m2 H.1, st_220_m1 hS, st_220_m1 H.1]; first | done | omega)) (by first | assumption | (simp (disch := omega) only [up2_ne, up2_eq, e, st_200_m1 hS, st_200_m1 H.1, st_200_18 hS, st_200_18 H.1, st_200_20 hS, st_200_20 H.1, st_218_m2 hS, st_218_m2 H.1, st_218_m1 hS, st_218_m1 H.1, st_220_m2 hS, st_220_m2 H.1, st_220_m1 hS, st_220_m1 H.1]; first | done | rfl | omega)) (by first | omega | (simp (disch := omega) only [up2_ne, up2_eq, e, st_200_m1 hS, st_200_m1 H.1, st_200_18 hS, st_200_18 H.1, st_200_20 hS, st_200_20 H.1, st_218_m2 hS, st_218_m2 H.1, st_218_m1 hS, st_218_m1 H.1, st_220_m2 hS, st_220_m2 H.1, st_220_m1 hS, st_220_m1 H.1]; first | done | omega)) (by first | omega | (simp (disch := omega) only [up2_ne, up2_eq, e, st_200_m1 hS, st_200_m1 H.1, st_200_18 hS, st_200_18 H.1, st_200_20 hS, st_200_20 H.1, st_218_m2 hS, st_218_m2 H.1, st_218_m1 hS, st_218_m1 H.1, st_220_m2 hS, st_220_m2 H.1, st_220_m1 hS, st_220_m1 H.1]; first | done | omega)) ?_
        try simp (disch := omega) only [up2_ne, up2_eq, e, st_200_m1 hS, st_200_m1 H.1, st_200_18 hS, st_200_18 H.1, st_200_20 hS, st_200_20 H.1, st_218_m2 hS, st_218_m2 H.1, st_218_m1 hS, st_218_m1 H.1, st_220_m2 hS, st_220_m2 H.1, st_220_m1 hS, st_220_m1 H.1]
        refine wp_iload_n rfl rfl dX12_mark_37 ?_
        refine wp_ishr dX12_mark_38 ?_
        refine wp_iconst dX12_mark_39 ?_
        refine wp_iand dX12_mark_40 ?_
        refine wp_if_eq (tgt := 53) (by first | assumption | exact bI_in _ | exact ⟨by omega, by omega⟩ | exact iAnd_in | exact iOr_in | exact iShr_in | exact iShl_in | exact iXor_in | exact hxs _) dX12_mark_41 (by decide) (fun c4 => ?_) (fun c4 => ?_)
        · refine wp_bipush (by decide) dX12_mark_53 ?_
          refine wp_iret dX12_mark_55 rfl ?_
          first | exact Or.inl ⟨by omega, rfl, rfl⟩ | exact Or.inr (Or.inl ⟨by omega, Or.inl (by assumption), rfl, rfl⟩) | exact Or.inr (Or.inl ⟨by omega, Or.inr (by assumption), rfl, rfl⟩) | exact Or.inr (Or.inr ⟨by omega, by assumption, by assumption, rfl, rfl⟩)
        · refine wp_aload_n rfl rfl dX12_mark_44 ?_
          refine wp_iload_n rfl rfl dX12_mark_45 ?_
          refine wp_iload_n rfl rfl dX12_mark_46 ?_
          refine wp_cV2 (ci := 12) okX12_isBarred rfl rfl wX12_288 dX12_mark_47 rfl (Nat.le_of_ble_eq_true rfl) (Nat.le_of_ble_eq_true rfl) (by first | omega | (simp (disch := omega) only [up2_ne, up2_eq, e, st_200_m1 hS, st_200_m1 H.1, st_200_18 hS, st_200_18 H.1, st_200_20 hS, st_200_20 H.1, st_218_m2 hS, st_218_m2 H.1, st_218_m1 hS, st_218_m1 H.1, st_220_m2 hS, st_220_m2 H.1, st_220_m1 hS, st_220_m1 H.1]; first | done | omega)) (by first | assumption | (simp (disch := omega) only [up2_ne, up2_eq, e, st_200_m1 hS, st_200_m1 H.1, st_200_18 hS, st_200_18 H.1, st_200_20 hS, st_200_20 H.1, st_218_m2 hS, st_218_m2 H.1, st_218_m1 hS, st_218_m1 H.1, st_220_m2 hS, st_220_m2 H.1, st_220_m1 hS, st_220_m1 H.1]; first | done | rfl | omega)) (rbar H e hS (by omega) (by omega) (by omega) (by omega)) (Nat.zero_le _) ?_
          try simp (disch := omega) only [up2_ne, up2_eq, e, st_200_m1 hS, st_200_m1 H.1, st_200_18 hS, st_200_18 H.1, st_200_20 hS, st_200_20 H.1, st_218_m2 hS, st_218_m2 H.1, st_218_m1 hS, st_218_m1 H.1, st_220_m2 hS, st_220_m2 H.1, st_220_m1 hS, st_220_m1 H.1]
          refine wp_ifB_eq (tgt := 56) dX12_mark_50 (by decide) (fun c5 => ?_) (fun c5 => ?_)
          · refine wp_aload_n rfl rfl dX12_mark_56 ?_
            refine wp_getfield1 (z := 13) (kI := 20) fX12_106 dX12_mark_57 (by first | omega | (simp (disch := omega) only [up2_ne, up2_eq, e, st_200_m1 hS, st_200_m1 H.1, st_200_18 hS, st_200_18 H.1, st_200_20 hS, st_200_20 H.1, st_218_m2 hS, st_218_m2 H.1, st_218_m1 hS, st_218_m1 H.1, st_220_m2 hS, st_220_m2 H.1, st_220_m1 hS, st_220_m1 H.1]; first | done | omega)) (by first | assumption | (simp (disch := omega) only [up2_ne, up2_eq, e, st_200_m1 hS, st_200_m1 H.1, st_200_18 hS, st_200_18 H.1, st_200_20 hS, st_200_20 H.1, st_218_m2 hS, st_218_m2 H.1, st_218_m1 hS, st_218_m1 H.1, st_220_m2 hS, st_220_m2 H.1, st_220_m1 hS, st_220_m1 H.1]; first | done | rfl | omega)) rfl rfl ?_
            try simp (disch := omega) only [up2_ne, up2_eq, e, st_200_m1 hS, st_200_m1 H.1, st_200_18 hS, st_200_18 H.1, st_200_20 hS, st_200_20 H.1, st_218_m2 hS, st_218_m2 H.1, st_218_m1 hS, st_218_m1 H.1, st_220_m2 hS, st_220_m2 H.1, st_220_m1 hS, st_220_m1 H.1]
            refine wp_bipush (by decide) dX12_mark_60 ?_
            refine wp_iload_n rfl rfl dX12_mark_62 ?_
            refine wp_imul dX12_mark_63 ?_
            refine wp_iload_n rfl rfl dX12_mark_64 ?_
            refine wp_iadd dX12_mark_65 ?_
            refine wp_iload_n rfl rfl dX12_mark_66 ?_
            refine wp_iastore1 dX12_mark_67 (by first | omega | (simp (disch := omega) only [up2_ne, up2_eq, e, st_200_m1 hS, st_200_m1 H.1, st_200_18 hS, st_200_18 H.1, st_200_20 hS, st_200_20 H.1, st_218_m2 hS, st_218_m2 H.1, st_218_m1 hS, st_218_m1 H.1, st_220_m2 hS, st_220_m2 H.1, st_220_m1 hS, st_220_m1 H.1]; first | done | omega)) (by first | assumption | (simp (disch := omega) only [up2_ne, up2_eq, e, st_200_m1 hS, st_200_m1 H.1, st_200_18 hS, st_200_18 H.1, st_200_20 hS, st_200_20 H.1, st_218_m2 hS, st_218_m2 H.1, st_218_m1 hS, st_218_m1 H.1, st_220_m2 hS, st_220_m2 H.1, st_220_m1 hS, st_220_m1 H.1]; first | done | rfl | omega)) (by first | omega | (simp (disch := omega) only [up2_ne, up2_eq, e, st_200_m1 hS, st_200_m1 H.1, st_200_18 hS, st_200_18 H.1, st_200_20 hS, st_200_20 H.1, st_218_m2 hS, st_218_m2 H.1, st_218_m1 hS, st_218_m1 H.1, st_220_m2 hS, st_220_m2 H.1, st_220_m1 hS, st_220_m1 H.1]; first | done | omega)) (by first | omega | (simp (disch := omega) only [up2_ne, up2_eq, e, st_200_m1 hS, st_200_m1 H.1, st_200_18 hS, st_200_18 H.1, st_200_20 hS, st_200_20 H.1, st_218_m2 hS, st_218_m2 H.1, st_218_m1 hS, st_218_m1 H.1, st_220_m2 hS, st_220_m2 H.1, st_220_m1 hS, st_220_m1 H.1]; first | done | omega)) ?_
            refine wp_aload_n rfl rfl dX12_mark_68 ?_
            refine wp_iconst dX12_mark_69 ?_
            refine wp_iload_n rfl rfl dX12_mark_70 ?_
            refine wp_cV2 (ci := 12) okX12_countOf rfl rfl wX12_65 dX12_mark_71 rfl (Nat.le_of_ble_eq_true rfl) (Nat.le_of_ble_eq_true rfl) (by first | omega | (simp (disch := omega) only [up2_ne, up2_eq, e, st_200_m1 hS, st_200_m1 H.1, st_200_18 hS, st_200_18 H.1, st_200_20 hS, st_200_20 H.1, st_218_m2 hS, st_218_m2 H.1, st_218_m1 hS, st_218_m1 H.1, st_220_m2 hS, st_220_m2 H.1, st_220_m1 hS, st_220_m1 H.1]; first | done | omega)) (by first | assumption | (simp (disch := omega) only [up2_ne, up2_eq, e, st_200_m1 hS, st_200_m1 H.1, st_200_18 hS, st_200_18 H.1, st_200_20 hS, st_200_20 H.1, st_218_m2 hS, st_218_m2 H.1, st_218_m1 hS, st_218_m1 H.1, st_220_m2 hS, st_220_m2 H.1, st_220_m1 hS, st_220_m1 H.1]; first | done | rfl | omega)) (rcnt_A (Inv_mark H (by omega) (by omega) (by omega) (by omega) (v := v) (by omega) (by omega) (by have q := hb01 ⟨by omega, by omega⟩; unfold bt at q ⊢; omega)) (((e.upl _ _ (by omega)).upl _ _ (by omega)).up _ _ _) (hS.upA (by decide +kernel) (by omega)) (by omega) (by rw [mkH_n (by omega) (by omega)]; omega)) (Nat.zero_le _) ?_
            try simp (disch := omega) only [up2_ne, up2_eq, e, st_200_m1 hS, st_200_m1 H.1, st_200_18 hS, st_200_18 H.1, st_200_20 hS, st_200_20 H.1, st_218_m2 hS, st_218_m2 H.1, st_218_m1 hS, st_218_m1 H.1, st_220_m2 hS, st_220_m2 H.1, st_220_m1 hS, st_220_m1 H.1]
            refine wp_iret dX12_mark_74 rfl ?_
            first | exact Or.inl ⟨by omega, rfl, rfl⟩ | exact Or.inr (Or.inl ⟨by omega, Or.inl (by assumption), rfl, rfl⟩) | exact Or.inr (Or.inl ⟨by omega, Or.inr (by assumption), rfl, rfl⟩) | exact Or.inr (Or.inr ⟨by omega, by assumption, by assumption, rfl, rfl⟩)
          · refine wp_bipush (by decide) dX12_mark_53 ?_
            refine wp_iret dX12_mark_55 rfl ?_
            first | exact Or.inl ⟨by omega, rfl, rfl⟩ | exact Or.inr (Or.inl ⟨by omega, Or.inl (by assumption), rfl, rfl⟩) | exact Or.inr (Or.inl ⟨by omega, Or.inr (by assumption), rfl, rfl⟩) | exact Or.inr (Or.inr ⟨by omega, by assumption, by assumption, rfl, rfl⟩)
      · refine wp_bipush (by decide) dX12_mark_28 ?_
        refine wp_iret dX12_mark_30 rfl ?_
        first | exact Or.inl ⟨by omega, rfl, rfl⟩ | exact Or.inr (Or.inl ⟨by omega, Or.inl (by assumption), rfl, rfl⟩) | exact Or.inr (Or.inl ⟨by omega, Or.inr (by assumption), rfl, rfl⟩) | exact Or.inr (Or.inr ⟨by omega, by assumption, by assumption, rfl, rfl⟩)
