/-! ===== due, proof: class and reference ===== -/
abbrev dueP (m : mH) (a : Int) : Prop := m 221 a ≠ -1 ∧ m 252 a = 0 ∧ m 225 a < m 222 a
def pN (m : mH) (a : Int) : Int := if m 225 a + 1 < m 222 a then (m 215 a).tdiv (m 222 a) else m 215 a - (m 215 a).tdiv (m 222 a) * (m 222 a - 1)
def lt0 (m : mH) (a d : Int) : Int := if 0 < d - (m 224 a + m 225 a * m 223 a) then d - (m 224 a + m 225 a * m 223 a) else 0
def ls0 (m : mH) (a d : Int) : Int := if 0 < txV m (m 217 a) 2 (fA m a (lt0 m a d)) then txV m (m 217 a) 2 (fA m a (lt0 m a d)) else 0
def lsV (m : mH) (a d : Int) : Int := if pN m a < ls0 m a d then pN m a else ls0 m a d
theorem imax_in {x : Int} (h : InI x) : InI (if 0 < x then x else 0) := by
  split
  · exact h
  · exact In0
/-- a grant's cells, and what binds them -/
theorem gg {j : Nat} {m : mH} (H : Inv j m) {a : Int} (a0 : 0 ≤ a) (a1 : a < m 200 10) (q : m 221 a ≠ -1) : m (120 + a) 11 = 160 + a ∧ (0 ≤ m 221 a ∧ m 221 a < m 200 0) ∧ m (160 + a) (-1) = 4 ∧ m (160 + a) 0 = 100 + m 221 a ∧ m (160 + a) 2 = (m 215 a).tdiv (m 222 a) ∧ m (160 + a) 3 = m 222 a ∧ m (160 + a) 4 = m 223 a ∧ m (160 + a) 5 = m 224 a ∧ m (160 + a) 6 = m 225 a ∧ m (160 + a) 7 = m 227 a ∧ m (160 + a) 8 = m 226 a := by
  have hn := H.ns
  have := H.2.2.2.2.2.2.1 a a0 (by omega)
  rcases this with w | w | w
  · exact absurd w.2.1 q
  · obtain ⟨w1, w2, w3, w4, w5, w6, w7, w8, w9, w10, w11, w12, w13, w14, -⟩ := w
    exact ⟨w4, ⟨w2, w3⟩, w5, w6, w8, w9, w10, w11, w12, w13, w14⟩
  · exfalso; omega
theorem gr2 {j : Nat} {m : mH} (H : Inv j m) {a : Int} (a0 : 0 ≤ a) (a1 : a < m 200 10) (q : m 221 a ≠ -1) : (1 ≤ m 222 a ∧ m 222 a ≤ 4) ∧ (1 ≤ m 223 a ∧ m 223 a ≤ 100) ∧ (0 ≤ m 224 a ∧ m 224 a ≤ 999) ∧ (0 ≤ m 225 a ∧ m 225 a ≤ m 222 a) ∧ 0 ≤ m 226 a ∧ 0 ≤ m 227 a ∧ m 226 a + m 227 a ≤ m 215 a ∧ (1 ≤ m 215 a) ∧ ((m 252 a = 1 ∧ m 227 a = 0) ∨ (m 252 a = 0 ∧ m 225 a < m 222 a ∧ m 227 a = m 215 a - m 225 a * (m 215 a).tdiv (m 222 a)) ∨ (m 252 a = 0 ∧ m 225 a = m 222 a ∧ m 227 a = 0)) := by
  have hn := H.ns
  have h1 : 1 ≤ m 215 a := by
    rcases (H.2.2.2.2.1 a a0 (by omega)).1 with w | w
    · omega
    · exfalso; omega
  have := H.2.2.2.2.2.2.1 a a0 (by omega)
  rcases this with w | w | w
  · exact absurd w.2.1 q
  · obtain ⟨w1, w2, w3, w4, w5, w6, w7, w8, w9, w10, w11, w12, w13, w14, w15, w16, w17, w18, w19, w20, w21, w22, w23, w24, w25, w26⟩ := w
    exact ⟨⟨w15, w16⟩, ⟨w17, w18⟩, ⟨w19, w20⟩, ⟨w21, w22⟩, w23, w24, w25, h1, w26⟩
  · exfalso; omega
theorem tdv {s p : Int} (s1 : 1 ≤ s) (p1 : 1 ≤ p) : 0 ≤ s.tdiv p ∧ p * s.tdiv p ≤ s ∧ s < p * s.tdiv p + p := by
  rw [Int.tdiv_eq_ediv_of_nonneg (by omega)]
  have h1 := Int.mul_ediv_add_emod s p
  have h2 := Int.emod_nonneg s (show p ≠ 0 by omega)
  have h3 := Int.emod_lt_of_pos s (show 0 < p by omega)
  refine ⟨Int.ediv_nonneg (by omega) (by omega), by omega, by omega⟩
/-- an open grant's next part -/
theorem pN_b {j : Nat} {m : mH} (H : Inv j m) {a : Int} (a0 : 0 ≤ a) (a1 : a < m 200 10) (D : dueP m a) : 0 ≤ pN m a ∧ pN m a ≤ m 227 a ∧ 0 < m 227 a ∧ m 227 a = m 215 a - m 225 a * (m 215 a).tdiv (m 222 a) ∧ (m 225 a + 1 < m 222 a → m 227 a - pN m a = m 215 a - (m 225 a + 1) * (m 215 a).tdiv (m 222 a)) ∧ (m 225 a + 1 = m 222 a → pN m a = m 227 a) := by
  have h1 := gr2 H a0 a1 D.1
  have h2 := tdv (s := m 215 a) (p := m 222 a) h1.2.2.2.2.2.2.2.1 h1.1.1
  obtain ⟨d1, d2, d3⟩ := D
  have h3 : m 227 a = m 215 a - m 225 a * (m 215 a).tdiv (m 222 a) := by
    rcases h1.2.2.2.2.2.2.2.2 with z | z | z
    · exfalso; omega
    · exact z.2.2
    · exfalso; omega
  have h4 := h1.1
  have h5 := h1.2.2.2.1
  have h6 := h1.2.2.2.2.2.2.2.1
  clear h1
  unfold pN
  generalize (m 215 a).tdiv (m 222 a) = t at *
  generalize m 225 a = x at *
  generalize m 222 a = p at *
  generalize m 215 a = s at *
  rcases (show p = 1 ∨ p = 2 ∨ p = 3 ∨ p = 4 by omega) with rfl | rfl | rfl | rfl <;> rcases (show x = 0 ∨ x = 1 ∨ x = 2 ∨ x = 3 by omega) with rfl | rfl | rfl | rfl <;> (try (exfalso; omega)) <;> (first | rw [if_pos (by decide)] | rw [if_neg (by decide)]) <;> refine ⟨?_, ?_, ?_, ?_, ?_, ?_⟩ <;> omega
theorem npart_eq {j : Nat} {h m : mH} (H : Inv j m) (e : Cl h m) {a : Int} (a0 : 0 ≤ a) (a1 : a < m 200 10) (D : dueP m a) : npart h (160 + a) = pN m a := by
  have hn := H.ns
  have h1 := gg H a0 a1 D.1
  have h2 := pN_b H a0 a1 D
  have h3 := gr2 H a0 a1 D.1
  have D3 := D.2.2
  unfold npart
  rw [e _ _ (by omega), e _ _ (by omega), e _ _ (by omega), e _ _ (by omega), h1.2.2.2.2.2.1, h1.2.2.2.2.2.2.2.2.1, h1.2.2.2.2.2.2.2.2.2.1, h1.2.2.2.2.1]
  by_cases c : m 225 a + 1 < m 222 a
  · rw [if_neg (by omega)]
    unfold pN
    rw [if_pos c]
  · rw [if_pos (by omega)]
    exact (h2.2.2.2.2.2 (by omega)).symm
theorem lsV_b {j : Nat} {m : mH} (H : Inv j m) {a d : Int} (a0 : 0 ≤ a) (a1 : a < m 200 10) (D : dueP m a) : 0 ≤ lsV m a d ∧ lsV m a d ≤ pN m a := by
  have h2 := pN_b H a0 a1 D
  unfold lsV ls0
  split
  · omega
  · split <;> omega
theorem d_in {j : Nat} {m : mH} (H : Inv j m) {a d : Int} (a0 : 0 ≤ a) (a1 : a < m 200 10) (q : m 221 a ≠ -1) (d0 : 0 ≤ d) (d1 : d ≤ 999) : -1400 ≤ d - (m 224 a + m 225 a * m 223 a) ∧ d - (m 224 a + m 225 a * m 223 a) ≤ 999 := by
  have h3 := gr2 H a0 a1 q
  have h4 := mb (x := m 225 a) (X := 4) (y := m 223 a) (Y := 100) (by omega) (by omega) (by omega) (by omega)
  have h5 : 0 ≤ m 225 a * m 223 a := Int.mul_nonneg (by omega) (by omega)
  omega
theorem s_X11_lossOf {u : gT} {j : Nat} {h m : mH} {d b : Nat} (H : Inv j m) (e : Cl h m) (hS : St h) {a : Int} (a0 : 0 ≤ a) (a1 : a < m 200 10) {dd : Int} (d0 : 0 ≤ dd) (d1 : dd ≤ 999) (D : dueP m a) : Rlt (gX (gq u)) MX11_lossOf (d + 6) b [(2, 1), (2, 120 + a), (2, 160 + a), (0, dd)] h (fun r h1 => r = (0, lsV m a dd) ∧ St h1 ∧ Kz h h1) := by
  refine Rlt.of ?_
  have hn := H.ns
  have e12 := H.n12
  have e13 := H.n13
  have e11 := H.n11
  have hra := H.ra a0 (by omega)
  have hD := D.1
  have hdi := d_in H a0 a1 hD d0 d1
  have hpb := pN_b H a0 a1 D
  obtain ⟨g1, g2, g4, g5, gx2, gx3, gx4, gx5, gx6, gx7, gx8⟩ := gg H a0 a1 (by assumption)
  have hr2 := gr2 H a0 a1 (by assumption)
  show WP (gX (gq u)) MX11_lossOf (d + 6) b _ 0 [(2, 1), (2, 120 + a), (2, 160 + a), (0, dd), (9, 0), (9, 0)] [] h
  refine wp_iconst dX11_lossOf_0 ?_
  refine wp_iload_n rfl rfl dX11_lossOf_1 ?_
  refine wp_aload_n rfl rfl dX11_lossOf_2 ?_
  refine wp_cV0 (ci := 3) okX3_nextDue rfl rfl wX11_405 dX11_lossOf_3 rfl (Nat.le_of_ble_eq_true rfl) (Nat.le_of_ble_eq_true rfl) (by first | omega | (simp (disch := omega) only [up2_ne, up2_eq, e, e11, e12, e13, H.a4, H.az, H.r3, H.rz, g1, g4, g5, gx2, gx3, gx4, gx5, gx6, gx7, gx8, st_1_m1 hS, st_1_m1 H.1]; first | done | omega)) (by first | assumption | (simp (disch := omega) only [up2_ne, up2_eq, e, e11, e12, e13, H.a4, H.az, H.r3, H.rz, g1, g4, g5, gx2, gx3, gx4, gx5, gx6, gx7, gx8, st_1_m1 hS, st_1_m1 H.1]; first | done | rfl | omega)) (s_X3_nextDue (by omega) (by rw [e _ _ (by omega)]; exact g4)) (Nat.zero_le _) ?_
  try simp (disch := omega) only [up2_ne, up2_eq, e, e11, e12, e13, H.a4, H.az, H.r3, H.rz, g1, g4, g5, gx2, gx3, gx4, gx5, gx6, gx7, gx8, st_1_m1 hS, st_1_m1 H.1]
  refine wp_isub dX11_lossOf_6 ?_
  refine wp_max (by first | assumption | exact bI_in _ | exact ⟨by omega, by omega⟩ | exact iAnd_in | exact iOr_in | exact iShr_in | exact iShl_in | exact iXor_in | exact hxs _) (by first | assumption | exact bI_in _ | exact ⟨by omega, by omega⟩ | exact iAnd_in | exact iOr_in | exact iShr_in | exact iShl_in | exact iXor_in | exact hxs _) wX11_408 dX11_lossOf_7 (Nat.le_of_ble_eq_true rfl) ?_
  refine wp_istore dX11_lossOf_10 rfl (Nat.le_of_ble_eq_true rfl) rfl ?_
  try simp only [List.set_cons_zero, List.set_cons_succ]
  refine wp_aload_n rfl rfl dX11_lossOf_12 ?_
  refine wp_aload_n rfl rfl dX11_lossOf_13 ?_
  refine wp_iconst dX11_lossOf_14 ?_
  refine wp_iload rfl dX11_lossOf_15 ?_
  refine wp_cV3r (ci := 11) okX11_reckonFor rfl rfl wX11_260 dX11_lossOf_17 (Nat.le_of_ble_eq_true rfl) (Nat.le_of_ble_eq_true rfl) (by first | omega | (simp (disch := omega) only [up2_ne, up2_eq, e, e11, e12, e13, H.a4, H.az, H.r3, H.rz, g1, g4, g5, gx2, gx3, gx4, gx5, gx6, gx7, gx8, st_1_m1 hS, st_1_m1 H.1]; first | done | omega)) (by first | assumption | (simp (disch := omega) only [up2_ne, up2_eq, e, e11, e12, e13, H.a4, H.az, H.r3, H.rz, g1, g4, g5, gx2, gx3, gx4, gx5, gx6, gx7, gx8, st_1_m1 hS, st_1_m1 H.1]; first | done | rfl | omega)) (s_X11_reckonFor H e hS a0 a1 (by decide) (by decide) (l := lt0 m a dd) (imax_in (by exact ⟨by omega, by omega⟩))) (Nat.zero_le _) ?_
  rintro r g ⟨rfl, z1, z2, z3⟩ -
  show WP _ _ _ _ _ _ _ ((0, _) :: _) _
  have ge : Cl g m := fun x k z => by rw [z3 x k (by omega)]; exact e x k z
  have hnp := npart_eq H ge a0 a1 D
  have zmx := imax_in z1
  refine wp_istore dX11_lossOf_20 rfl (Nat.le_of_ble_eq_true rfl) rfl ?_
  try simp only [List.set_cons_zero, List.set_cons_succ]
  refine wp_iconst dX11_lossOf_22 ?_
  refine wp_iload rfl dX11_lossOf_23 ?_
  refine wp_max (by first | assumption | exact bI_in _ | exact ⟨by omega, by omega⟩ | exact iAnd_in | exact iOr_in | exact iShr_in | exact iShl_in | exact iXor_in | exact hxs _) (by first | assumption | exact bI_in _ | exact ⟨by omega, by omega⟩ | exact iAnd_in | exact iOr_in | exact iShr_in | exact iShl_in | exact iXor_in | exact hxs _) wX11_408 dX11_lossOf_25 (Nat.le_of_ble_eq_true rfl) ?_
  refine wp_aload_n rfl rfl dX11_lossOf_28 ?_
  refine wp_cV0 (ci := 3) okX3_nextPart rfl rfl wX11_343 dX11_lossOf_29 rfl (Nat.le_of_ble_eq_true rfl) (Nat.le_of_ble_eq_true rfl) (by first | omega | (simp (disch := omega) only [up2_ne, up2_eq, ge, e, e11, e12, e13, H.a4, H.az, H.r3, H.rz, g1, g4, g5, gx2, gx3, gx4, gx5, gx6, gx7, gx8, hnp, st_1_m1 z2, st_1_m1 hS, st_1_m1 H.1]; first | done | omega)) (by first | assumption | (simp (disch := omega) only [up2_ne, up2_eq, ge, e, e11, e12, e13, H.a4, H.az, H.r3, H.rz, g1, g4, g5, gx2, gx3, gx4, gx5, gx6, gx7, gx8, hnp, st_1_m1 z2, st_1_m1 hS, st_1_m1 H.1]; first | done | rfl | omega)) (s_X3_nextPart (by omega) (by rw [ge _ _ (by omega)]; exact g4) (by rw [ge _ _ (by omega)]; omega) (by rw [ge _ _ (by omega)]; omega) (by rw [ge _ _ (by omega), gx6]; exact ⟨by omega, by omega⟩)) (Nat.zero_le _) ?_
  try simp (disch := omega) only [up2_ne, up2_eq, ge, e, e11, e12, e13, H.a4, H.az, H.r3, H.rz, g1, g4, g5, gx2, gx3, gx4, gx5, gx6, gx7, gx8, hnp, st_1_m1 z2, st_1_m1 hS, st_1_m1 H.1]
  refine wp_min (by first | assumption | exact bI_in _ | exact ⟨by omega, by omega⟩ | exact iAnd_in | exact iOr_in | exact iShr_in | exact iShl_in | exact iXor_in | exact hxs _) (by first | assumption | exact bI_in _ | exact ⟨by omega, by omega⟩ | exact iAnd_in | exact iOr_in | exact iShr_in | exact iShl_in | exact iXor_in | exact hxs _) wX11_413 dX11_lossOf_32 (Nat.le_of_ble_eq_true rfl) ?_
  refine wp_iret dX11_lossOf_35 rfl ?_
  exact ⟨rfl, z2, z3⟩
theorem due_iff {j : Nat} {m : mH} (H : Inv j m) {a : Int} (a0 : 0 ≤ a) (a1 : a < m 200 10) (q : m 221 a ≠ -1) : 0 < m 227 a ↔ dueP m a := by
  have h3 := gr2 H a0 a1 q
  constructor
  · intro z
    rcases h3.2.2.2.2.2.2.2.2 with w | w | w
    · exfalso; omega
    · exact ⟨q, w.1, w.2.1⟩
    · exfalso; omega
  · intro D
    exact (pN_b H a0 a1 D).2.2.1
theorem due_f {u : gT} {j : Nat} {h m : mH} {d b : Nat} (H : Inv j m) (e : Cl h m) (hS : St h) {a dd : Int} (ia : InI a) (q : ¬ (0 ≤ a ∧ a < m 200 10)) (id : InI dd) : Det (gX (gq u)) MX11_due (d + 7) b [(2, 1), (0, a), (0, dd)] h (0, -2) h := by
  intro Q hQ
  have hn := H.ns
  have e12 := H.n12
  have e13 := H.n13
  have e11 := H.n11
  show WP (gX (gq u)) MX11_due (d + 7) b Q 0 [(2, 1), (0, a), (0, dd), (9, 0), (9, 0)] [] h
  refine wp_aload_n rfl rfl dX11_due_0 ?_
  refine wp_iload_n rfl rfl dX11_due_1 ?_
  refine wp_cV1 (ci := 11) okX11_findAsking rfl rfl wX11_200 dX11_due_2 rfl (Nat.le_of_ble_eq_true rfl) (Nat.le_of_ble_eq_true rfl) (by first | omega | (simp (disch := omega) only [up2_ne, up2_eq, e, e11, e12, e13, H.a4, H.az, H.r3, H.rz, st_1_m1 hS, st_1_m1 H.1]; first | done | omega)) (by first | assumption | (simp (disch := omega) only [up2_ne, up2_eq, e, e11, e12, e13, H.a4, H.az, H.r3, H.rz, st_1_m1 hS, st_1_m1 H.1]; first | done | rfl | omega)) (ndA_f H e hS ia q) (Nat.zero_le _) ?_
  try simp (disch := omega) only [up2_ne, up2_eq, e, e11, e12, e13, H.a4, H.az, H.r3, H.rz, st_1_m1 hS, st_1_m1 H.1]
  refine wp_astore_n rfl dX11_due_5 rfl (Nat.le_of_ble_eq_true rfl) rfl ?_
  try simp only [List.set_cons_zero, List.set_cons_succ]
  refine wp_aload_n rfl rfl dX11_due_6 ?_
  refine wp_ifnull (tgt := 21) dX11_due_7 (by decide) (fun hx => ?_) (fun hx => absurd rfl hx)
  refine wp_bipush (by decide) dX11_due_21 ?_
  refine wp_iret dX11_due_23 rfl ?_
  exact hQ
theorem due_n {u : gT} {j : Nat} {h m : mH} {d b : Nat} (H : Inv j m) (e : Cl h m) (hS : St h) {a : Int} (a0 : 0 ≤ a) (a1 : a < m 200 10) {dd : Int} (id : InI dd) (g1 : m (120 + a) 11 = -1) : Det (gX (gq u)) MX11_due (d + 7) b [(2, 1), (0, a), (0, dd)] h (0, if ¬ (0 ≤ dd ∧ dd ≤ 999) then -2 else -3) h := by
  intro Q hQ
  have hn := H.ns
  have e12 := H.n12
  have e13 := H.n13
  have e11 := H.n11
  show WP (gX (gq u)) MX11_due (d + 7) b Q 0 [(2, 1), (0, a), (0, dd), (9, 0), (9, 0)] [] h
  refine wp_aload_n rfl rfl dX11_due_0 ?_
  refine wp_iload_n rfl rfl dX11_due_1 ?_
  refine wp_cV1 (ci := 11) okX11_findAsking rfl rfl wX11_200 dX11_due_2 rfl (Nat.le_of_ble_eq_true rfl) (Nat.le_of_ble_eq_true rfl) (by first | omega | (simp (disch := omega) only [up2_ne, up2_eq, e, e11, e12, e13, H.a4, H.az, H.r3, H.rz, g1, st_1_m1 hS, st_1_m1 H.1]; first | done | omega)) (by first | assumption | (simp (disch := omega) only [up2_ne, up2_eq, e, e11, e12, e13, H.a4, H.az, H.r3, H.rz, g1, st_1_m1 hS, st_1_m1 H.1]; first | done | rfl | omega)) (ndA_t H e hS a0 a1) (Nat.zero_le _) ?_
  try simp (disch := omega) only [up2_ne, up2_eq, e, e11, e12, e13, H.a4, H.az, H.r3, H.rz, g1, st_1_m1 hS, st_1_m1 H.1]
  refine wp_astore_n rfl dX11_due_5 rfl (Nat.le_of_ble_eq_true rfl) rfl ?_
  try simp only [List.set_cons_zero, List.set_cons_succ]
  refine wp_aload_n rfl rfl dX11_due_6 ?_
  refine wp_ifnull (tgt := 21) dX11_due_7 (by decide) (fun hx => absurd hx (by omega)) (fun hx => ?_)
  refine wp_iload_n rfl rfl dX11_due_10 ?_
  refine wp_iconst dX11_due_11 ?_
  refine wp_sipush (by decide) dX11_due_12 ?_
  refine wp_cS3 okX11_isWithin wX11_98 dX11_due_15 rfl (Nat.le_of_ble_eq_true rfl) (Nat.le_of_ble_eq_true rfl) (s_X11_isWithin (by first | assumption | exact ⟨by omega, by omega⟩) (by exact ⟨by decide, by decide⟩) (by exact ⟨by decide, by decide⟩)) (Nat.zero_le _) ?_
  try simp (disch := omega) only [up2_ne, up2_eq, e, e11, e12, e13, H.a4, H.az, H.r3, H.rz, g1, st_1_m1 hS, st_1_m1 H.1]
  refine wp_ifB_ne (tgt := 24) dX11_due_18 (by decide) (fun c2 => ?_) (fun c2 => ?_)
  · refine wp_aload_n rfl rfl dX11_due_24 ?_
    refine wp_getfield1 (z := 1) (kI := 11) fX11_230 dX11_due_25 (by first | omega | (simp (disch := omega) only [up2_ne, up2_eq, e, e11, e12, e13, H.a4, H.az, H.r3, H.rz, g1, st_1_m1 hS, st_1_m1 H.1]; first | done | omega)) (by first | assumption | (simp (disch := omega) only [up2_ne, up2_eq, e, e11, e12, e13, H.a4, H.az, H.r3, H.rz, g1, st_1_m1 hS, st_1_m1 H.1]; first | done | rfl | omega)) rfl rfl ?_
    try simp (disch := omega) only [up2_ne, up2_eq, e, e11, e12, e13, H.a4, H.az, H.r3, H.rz, g1, st_1_m1 hS, st_1_m1 H.1]
    refine wp_astore dX11_due_28 rfl (Nat.le_of_ble_eq_true rfl) rfl ?_
    try simp only [List.set_cons_zero, List.set_cons_succ]
    refine wp_aload rfl dX11_due_30 ?_
    refine wp_ifnull (tgt := 43) dX11_due_32 (by decide) (fun c3 => ?_) (fun c3 => ?_)
    · refine wp_bipush (by decide) dX11_due_43 ?_
      refine wp_iret dX11_due_45 rfl ?_
      first | (exfalso; omega) | (rw [if_pos (by omega)] at hQ; exact hQ) | (rw [if_neg (by omega)] at hQ; exact hQ)
    · exfalso
      omega
  · refine wp_bipush (by decide) dX11_due_21 ?_
    refine wp_iret dX11_due_23 rfl ?_
    first | (exfalso; omega) | (rw [if_pos (by omega)] at hQ; exact hQ) | (rw [if_neg (by omega)] at hQ; exact hQ)
theorem proof_f {u : gT} {j : Nat} {h m : mH} {d b : Nat} (H : Inv j m) (e : Cl h m) (hS : St h) {a dd : Int} (ia : InI a) (q : ¬ (0 ≤ a ∧ a < m 200 10)) (id : InI dd) : Det (gX (gq u)) MX11_proof (d + 7) b [(2, 1), (0, a), (0, dd)] h (0, -2) h := by
  intro Q hQ
  have hn := H.ns
  have e12 := H.n12
  have e13 := H.n13
  have e11 := H.n11
  show WP (gX (gq u)) MX11_proof (d + 7) b Q 0 [(2, 1), (0, a), (0, dd), (9, 0), (9, 0), (9, 0), (9, 0)] [] h
  refine wp_aload_n rfl rfl dX11_proof_0 ?_
  refine wp_iload_n rfl rfl dX11_proof_1 ?_
  refine wp_cV1 (ci := 11) okX11_findAsking rfl rfl wX11_200 dX11_proof_2 rfl (Nat.le_of_ble_eq_true rfl) (Nat.le_of_ble_eq_true rfl) (by first | omega | (simp (disch := omega) only [up2_ne, up2_eq, e, e11, e12, e13, H.a4, H.az, H.r3, H.rz, st_1_m1 hS, st_1_m1 H.1]; first | done | omega)) (by first | assumption | (simp (disch := omega) only [up2_ne, up2_eq, e, e11, e12, e13, H.a4, H.az, H.r3, H.rz, st_1_m1 hS, st_1_m1 H.1]; first | done | rfl | omega)) (ndA_f H e hS ia q) (Nat.zero_le _) ?_
  try simp (disch := omega) only [up2_ne, up2_eq, e, e11, e12, e13, H.a4, H.az, H.r3, H.rz, st_1_m1 hS, st_1_m1 H.1]
  refine wp_astore_n rfl dX11_proof_5 rfl (Nat.le_of_ble_eq_true rfl) rfl ?_
  try simp only [List.set_cons_zero, List.set_cons_succ]
  refine wp_aload_n rfl rfl dX11_proof_6 ?_
  refine wp_ifnull (tgt := 21) dX11_proof_7 (by decide) (fun hx => ?_) (fun hx => absurd rfl hx)
  refine wp_bipush (by decide) dX11_proof_21 ?_
  refine wp_iret dX11_proof_23 rfl ?_
  exact hQ
theorem proof_n {u : gT} {j : Nat} {h m : mH} {d b : Nat} (H : Inv j m) (e : Cl h m) (hS : St h) {a : Int} (a0 : 0 ≤ a) (a1 : a < m 200 10) {dd : Int} (id : InI dd) (g1 : m (120 + a) 11 = -1) : Det (gX (gq u)) MX11_proof (d + 7) b [(2, 1), (0, a), (0, dd)] h (0, if ¬ (0 ≤ dd ∧ dd ≤ 999) then -2 else -3) h := by
  intro Q hQ
  have hn := H.ns
  have e12 := H.n12
  have e13 := H.n13
  have e11 := H.n11
  show WP (gX (gq u)) MX11_proof (d + 7) b Q 0 [(2, 1), (0, a), (0, dd), (9, 0), (9, 0), (9, 0), (9, 0)] [] h
  refine wp_aload_n rfl rfl dX11_proof_0 ?_
  refine wp_iload_n rfl rfl dX11_proof_1 ?_
  refine wp_cV1 (ci := 11) okX11_findAsking rfl rfl wX11_200 dX11_proof_2 rfl (Nat.le_of_ble_eq_true rfl) (Nat.le_of_ble_eq_true rfl) (by first | omega | (simp (disch := omega) only [up2_ne, up2_eq, e, e11, e12, e13, H.a4, H.az, H.r3, H.rz, g1, st_1_m1 hS, st_1_m1 H.1]; first | done | omega)) (by first | assumption | (simp (disch := omega) only [up2_ne, up2_eq, e, e11, e12, e13, H.a4, H.az, H.r3, H.rz, g1, st_1_m1 hS, st_1_m1 H.1]; first | done | rfl | omega)) (ndA_t H e hS a0 a1) (Nat.zero_le _) ?_
  try simp (disch := omega) only [up2_ne, up2_eq, e, e11, e12, e13, H.a4, H.az, H.r3, H.rz, g1, st_1_m1 hS, st_1_m1 H.1]
  refine wp_astore_n rfl dX11_proof_5 rfl (Nat.le_of_ble_eq_true rfl) rfl ?_
  try simp only [List.set_cons_zero, List.set_cons_succ]
  refine wp_aload_n rfl rfl dX11_proof_6 ?_
  refine wp_ifnull (tgt := 21) dX11_proof_7 (by decide) (fun hx => absurd hx (by omega)) (fun hx => ?_)
  refine wp_iload_n rfl rfl dX11_proof_10 ?_
  refine wp_iconst dX11_proof_11 ?_
  refine wp_sipush (by decide) dX11_proof_12 ?_
  refine wp_cS3 okX11_isWithin wX11_98 dX11_proof_15 rfl (Nat.le_of_ble_eq_true rfl) (Nat.le_of_ble_eq_true rfl) (s_X11_isWithin (by first | assumption | exact ⟨by omega, by omega⟩) (by exact ⟨by decide, by decide⟩) (by exact ⟨by decide, by decide⟩)) (Nat.zero_le _) ?_
  try simp (disch := omega) only [up2_ne, up2_eq, e, e11, e12, e13, H.a4, H.az, H.r3, H.rz, g1, st_1_m1 hS, st_1_m1 H.1]
  refine wp_ifB_ne (tgt := 24) dX11_proof_18 (by decide) (fun c2 => ?_) (fun c2 => ?_)
  · refine wp_aload_n rfl rfl dX11_proof_24 ?_
    refine wp_getfield1 (z := 1) (kI := 11) fX11_230 dX11_proof_25 (by first | omega | (simp (disch := omega) only [up2_ne, up2_eq, e, e11, e12, e13, H.a4, H.az, H.r3, H.rz, g1, st_1_m1 hS, st_1_m1 H.1]; first | done | omega)) (by first | assumption | (simp (disch := omega) only [up2_ne, up2_eq, e, e11, e12, e13, H.a4, H.az, H.r3, H.rz, g1, st_1_m1 hS, st_1_m1 H.1]; first | done | rfl | omega)) rfl rfl ?_
    try simp (disch := omega) only [up2_ne, up2_eq, e, e11, e12, e13, H.a4, H.az, H.r3, H.rz, g1, st_1_m1 hS, st_1_m1 H.1]
    refine wp_astore dX11_proof_28 rfl (Nat.le_of_ble_eq_true rfl) rfl ?_
    try simp only [List.set_cons_zero, List.set_cons_succ]
    refine wp_aload rfl dX11_proof_30 ?_
    refine wp_ifnull (tgt := 43) dX11_proof_32 (by decide) (fun c3 => ?_) (fun c3 => ?_)
    · refine wp_bipush (by decide) dX11_proof_43 ?_
      refine wp_iret dX11_proof_45 rfl ?_
      first | (exfalso; omega) | (rw [if_pos (by omega)] at hQ; exact hQ) | (rw [if_neg (by omega)] at hQ; exact hQ)
    · exfalso
      omega
  · refine wp_bipush (by decide) dX11_proof_21 ?_
    refine wp_iret dX11_proof_23 rfl ?_
    first | (exfalso; omega) | (rw [if_pos (by omega)] at hQ; exact hQ) | (rw [if_neg (by omega)] at hQ; exact hQ)
theorem due_g {u : gT} {j : Nat} {h m : mH} {d b : Nat} (H : Inv j m) (e : Cl h m) (hS : St h) {a : Int} (a0 : 0 ≤ a) (a1 : a < m 200 10) {dd : Int} (id : InI dd) (hq : m 221 a ≠ -1) : Rlt (gX (gq u)) MX11_due (d + 7) b [(2, 1), (0, a), (0, dd)] h (fun r h1 => r = (0, (if ¬ (0 ≤ dd ∧ dd ≤ 999) then -2 else if ¬ dueP m a then -3 else pN m a - lsV m a dd)) ∧ St h1 ∧ Kz h h1) := by
  refine Rlt.of ?_
  have hn := H.ns
  have e12 := H.n12
  have e13 := H.n13
  have e11 := H.n11
  have hdi := due_iff H a0 a1 hq
  have hgb := H.gb a0 a1
  obtain ⟨g1, g2, g4, g5, gx2, gx3, gx4, gx5, gx6, gx7, gx8⟩ := gg H a0 a1 hq
  have hr2 := gr2 H a0 a1 hq
  show WP (gX (gq u)) MX11_due (d + 7) b _ 0 [(2, 1), (0, a), (0, dd), (9, 0), (9, 0)] [] h
  refine wp_aload_n rfl rfl dX11_due_0 ?_
  refine wp_iload_n rfl rfl dX11_due_1 ?_
  refine wp_cV1 (ci := 11) okX11_findAsking rfl rfl wX11_200 dX11_due_2 rfl (Nat.le_of_ble_eq_true rfl) (Nat.le_of_ble_eq_true rfl) (by first | omega | (simp (disch := omega) only [up2_ne, up2_eq, e, e11, e12, e13, H.a4, H.az, H.r3, H.rz, g1, g4, g5, gx2, gx3, gx4, gx5, gx6, gx7, gx8, st_1_m1 hS, st_1_m1 H.1]; first | done | omega)) (by first | assumption | (simp (disch := omega) only [up2_ne, up2_eq, e, e11, e12, e13, H.a4, H.az, H.r3, H.rz, g1, g4, g5, gx2, gx3, gx4, gx5, gx6, gx7, gx8, st_1_m1 hS, st_1_m1 H.1]; first | done | rfl | omega)) (ndA_t H e hS a0 a1) (Nat.zero_le _) ?_
  try simp (disch := omega) only [up2_ne, up2_eq, e, e11, e12, e13, H.a4, H.az, H.r3, H.rz, g1, g4, g5, gx2, gx3, gx4, gx5, gx6, gx7, gx8, st_1_m1 hS, st_1_m1 H.1]
  refine wp_astore_n rfl dX11_due_5 rfl (Nat.le_of_ble_eq_true rfl) rfl ?_
  try simp only [List.set_cons_zero, List.set_cons_succ]
  refine wp_aload_n rfl rfl dX11_due_6 ?_
  refine wp_ifnull (tgt := 21) dX11_due_7 (by decide) (fun hx => absurd hx (by omega)) (fun hx => ?_)
  refine wp_iload_n rfl rfl dX11_due_10 ?_
  refine wp_iconst dX11_due_11 ?_
  refine wp_sipush (by decide) dX11_due_12 ?_
  refine wp_cS3 okX11_isWithin wX11_98 dX11_due_15 rfl (Nat.le_of_ble_eq_true rfl) (Nat.le_of_ble_eq_true rfl) (s_X11_isWithin (by first | assumption | exact ⟨by omega, by omega⟩) (by exact ⟨by decide, by decide⟩) (by exact ⟨by decide, by decide⟩)) (Nat.zero_le _) ?_
  try simp (disch := omega) only [up2_ne, up2_eq, e, e11, e12, e13, H.a4, H.az, H.r3, H.rz, g1, g4, g5, gx2, gx3, gx4, gx5, gx6, gx7, gx8, st_1_m1 hS, st_1_m1 H.1]
  refine wp_ifB_ne (tgt := 24) dX11_due_18 (by decide) (fun c2 => ?_) (fun c2 => ?_)
  · refine wp_aload_n rfl rfl dX11_due_24 ?_
    refine wp_getfield1 (z := 1) (kI := 11) fX11_230 dX11_due_25 (by first | omega | (simp (disch := omega) only [up2_ne, up2_eq, e, e11, e12, e13, H.a4, H.az, H.r3, H.rz, g1, g4, g5, gx2, gx3, gx4, gx5, gx6, gx7, gx8, st_1_m1 hS, st_1_m1 H.1]; first | done | omega)) (by first | assumption | (simp (disch := omega) only [up2_ne, up2_eq, e, e11, e12, e13, H.a4, H.az, H.r3, H.rz, g1, g4, g5, gx2, gx3, gx4, gx5, gx6, gx7, gx8, st_1_m1 hS, st_1_m1 H.1]; first | done | rfl | omega)) rfl rfl ?_
    try simp (disch := omega) only [up2_ne, up2_eq, e, e11, e12, e13, H.a4, H.az, H.r3, H.rz, g1, g4, g5, gx2, gx3, gx4, gx5, gx6, gx7, gx8, st_1_m1 hS, st_1_m1 H.1]
    refine wp_astore dX11_due_28 rfl (Nat.le_of_ble_eq_true rfl) rfl ?_
    try simp only [List.set_cons_zero, List.set_cons_succ]
    refine wp_aload rfl dX11_due_30 ?_
    refine wp_ifnull (tgt := 43) dX11_due_32 (by decide) (fun c3 => ?_) (fun c3 => ?_)
    · refine wp_bipush (by decide) dX11_due_43 ?_
      refine wp_iret dX11_due_45 rfl ?_
      first
        | (exfalso; omega)
        | (refine ⟨?_, hS, fun _ _ _ => rfl⟩
           congr 1
           rw [if_pos (by omega)])
        | (refine ⟨?_, hS, fun _ _ _ => rfl⟩
           congr 1
           rw [if_neg (by omega), if_pos (fun z => by have := hdi.mpr z; omega)])
        | (refine ⟨?_, z2, z3⟩
           congr 1
           rw [if_neg (by omega), if_neg (fun z => z (hdi.mp (by omega))), npart_eq H e a0 a1 (hdi.mp (by omega))])
        | (exfalso; omega)
    · refine wp_aload rfl dX11_due_35 ?_
      refine wp_cV0 (ci := 3) okX3_isOpen rfl rfl wX11_340 dX11_due_37 rfl (Nat.le_of_ble_eq_true rfl) (Nat.le_of_ble_eq_true rfl) (by first | omega | (simp (disch := omega) only [up2_ne, up2_eq, e, e11, e12, e13, H.a4, H.az, H.r3, H.rz, g1, g4, g5, gx2, gx3, gx4, gx5, gx6, gx7, gx8, st_1_m1 hS, st_1_m1 H.1]; first | done | omega)) (by first | assumption | (simp (disch := omega) only [up2_ne, up2_eq, e, e11, e12, e13, H.a4, H.az, H.r3, H.rz, g1, g4, g5, gx2, gx3, gx4, gx5, gx6, gx7, gx8, st_1_m1 hS, st_1_m1 H.1]; first | done | rfl | omega)) (s_X3_isOpen (by omega) (by rw [e _ _ (by omega)]; exact g4) (by rw [e _ _ (by omega), gx7]; exact ⟨by omega, by omega⟩)) (Nat.zero_le _) ?_
      try simp (disch := omega) only [up2_ne, up2_eq, e, e11, e12, e13, H.a4, H.az, H.r3, H.rz, g1, g4, g5, gx2, gx3, gx4, gx5, gx6, gx7, gx8, st_1_m1 hS, st_1_m1 H.1]
      refine wp_ifB_ne (tgt := 46) dX11_due_40 (by decide) (fun c4 => ?_) (fun c4 => ?_)
      · refine wp_aload rfl dX11_due_46 ?_
        refine wp_cV0 (ci := 3) okX3_nextPart rfl rfl wX11_343 dX11_due_48 rfl (Nat.le_of_ble_eq_true rfl) (Nat.le_of_ble_eq_true rfl) (by first | omega | (simp (disch := omega) only [up2_ne, up2_eq, e, e11, e12, e13, H.a4, H.az, H.r3, H.rz, g1, g4, g5, gx2, gx3, gx4, gx5, gx6, gx7, gx8, st_1_m1 hS, st_1_m1 H.1]; first | done | omega)) (by first | assumption | (simp (disch := omega) only [up2_ne, up2_eq, e, e11, e12, e13, H.a4, H.az, H.r3, H.rz, g1, g4, g5, gx2, gx3, gx4, gx5, gx6, gx7, gx8, st_1_m1 hS, st_1_m1 H.1]; first | done | rfl | omega)) (s_X3_nextPart (by omega) (by rw [e _ _ (by omega)]; exact g4) (by rw [e _ _ (by omega)]; omega) (by rw [e _ _ (by omega)]; omega) (by rw [e _ _ (by omega), gx6]; exact ⟨by omega, by omega⟩)) (Nat.zero_le _) ?_
        try simp (disch := omega) only [up2_ne, up2_eq, e, e11, e12, e13, H.a4, H.az, H.r3, H.rz, g1, g4, g5, gx2, gx3, gx4, gx5, gx6, gx7, gx8, st_1_m1 hS, st_1_m1 H.1]
        refine wp_aload_n rfl rfl dX11_due_51 ?_
        refine wp_aload_n rfl rfl dX11_due_52 ?_
        refine wp_aload rfl dX11_due_53 ?_
        refine wp_iload_n rfl rfl dX11_due_55 ?_
        refine wp_cV3r (ci := 11) okX11_lossOf rfl rfl wX11_346 dX11_due_56 (Nat.le_of_ble_eq_true rfl) (Nat.le_of_ble_eq_true rfl) (by first | omega | (simp (disch := omega) only [up2_ne, up2_eq, e, e11, e12, e13, H.a4, H.az, H.r3, H.rz, g1, g4, g5, gx2, gx3, gx4, gx5, gx6, gx7, gx8, st_1_m1 hS, st_1_m1 H.1]; first | done | omega)) (by first | assumption | (simp (disch := omega) only [up2_ne, up2_eq, e, e11, e12, e13, H.a4, H.az, H.r3, H.rz, g1, g4, g5, gx2, gx3, gx4, gx5, gx6, gx7, gx8, st_1_m1 hS, st_1_m1 H.1]; first | done | rfl | omega)) (s_X11_lossOf H e hS a0 a1 (by omega) (by omega) ((due_iff H a0 a1 hq).mp (by omega))) (Nat.zero_le _) ?_
        rintro r g ⟨rfl, z2, z3⟩ -
        show WP _ _ _ _ _ _ _ ((0, _) :: _) _
        have ge : Cl g m := fun x k z => by rw [z3 x k (by omega)]; exact e x k z
        refine wp_isub dX11_due_59 ?_
        refine wp_iret dX11_due_60 rfl ?_
        first
          | (exfalso; omega)
          | (refine ⟨?_, hS, fun _ _ _ => rfl⟩
             congr 1
             rw [if_pos (by omega)])
          | (refine ⟨?_, hS, fun _ _ _ => rfl⟩
             congr 1
             rw [if_neg (by omega), if_pos (fun z => by have := hdi.mpr z; omega)])
          | (refine ⟨?_, z2, z3⟩
             congr 1
             rw [if_neg (by omega), if_neg (fun z => z (hdi.mp (by omega))), npart_eq H e a0 a1 (hdi.mp (by omega))])
          | (exfalso; omega)
      · refine wp_bipush (by decide) dX11_due_43 ?_
        refine wp_iret dX11_due_45 rfl ?_
        first
          | (exfalso; omega)
          | (refine ⟨?_, hS, fun _ _ _ => rfl⟩
             congr 1
             rw [if_pos (by omega)])
          | (refine ⟨?_, hS, fun _ _ _ => rfl⟩
             congr 1
             rw [if_neg (by omega), if_pos (fun z => by have := hdi.mpr z; omega)])
          | (refine ⟨?_, z2, z3⟩
             congr 1
             rw [if_neg (by omega), if_neg (fun z => z (hdi.mp (by omega))), npart_eq H e a0 a1 (hdi.mp (by omega))])
          | (exfalso; omega)
  · refine wp_bipush (by decide) dX11_due_21 ?_
    refine wp_iret dX11_due_23 rfl ?_
    first
      | (exfalso; omega)
      | (refine ⟨?_, hS, fun _ _ _ => rfl⟩
         congr 1
         rw [if_pos (by omega)])
      | (refine ⟨?_, hS, fun _ _ _ => rfl⟩
         congr 1
         rw [if_neg (by omega), if_pos (fun z => by have := hdi.mpr z; omega)])
      | (refine ⟨?_, z2, z3⟩
         congr 1
         rw [if_neg (by omega), if_neg (fun z => z (hdi.mp (by omega))), npart_eq H e a0 a1 (hdi.mp (by omega))])
      | (exfalso; omega)
theorem proof_g {u : gT} {j : Nat} {h m : mH} {d b : Nat} (H : Inv j m) (e : Cl h m) (hS : St h) {a : Int} (a0 : 0 ≤ a) (a1 : a < m 200 10) {dd : Int} (id : InI dd) (hq : m 221 a ≠ -1) : Rlt (gX (gq u)) MX11_proof (d + 7) b [(2, 1), (0, a), (0, dd)] h (fun r h1 => (¬ (0 ≤ dd ∧ dd ≤ 999) ∧ r = (0, -2) ∧ h1 = h) ∨ ((0 ≤ dd ∧ dd ≤ 999) ∧ ¬ dueP m a ∧ r = (0, -3) ∧ h1 = h) ∨ ((0 ≤ dd ∧ dd ≤ 999) ∧ dueP m a ∧ r = (0, pN m a - lsV m a dd) ∧ St h1 ∧ (∀ x k : Int, ¬ (0 ≤ k ∧ (x = 9 ∨ x = 10 ∨ x = 17 ∨ x = 18 ∨ (70 ≤ x ∧ x ≤ 75) ∨ (40 ≤ x ∧ x ≤ 45 ∧ k = 4))) → ¬ (x = 100 + m 221 a ∧ 2 ≤ k ∧ k ≤ 4) → ¬ (x = 160 + a ∧ 6 ≤ k ∧ k ≤ 8) → h1 x k = h x k) ∧ h1 (100 + m 221 a) 3 = m 204 (m 221 a) - pN m a ∧ h1 (100 + m 221 a) 4 = m 205 (m 221 a) + (pN m a - lsV m a dd) ∧ h1 (100 + m 221 a) 2 = m 203 (m 221 a) + lsV m a dd ∧ h1 (160 + a) 7 = m 227 a - pN m a ∧ h1 (160 + a) 8 = m 226 a + (pN m a - lsV m a dd) ∧ h1 (160 + a) 6 = m 225 a + 1)) := by
  refine Rlt.of ?_
  have hn := H.ns
  have e12 := H.n12
  have e13 := H.n13
  have e11 := H.n11
  have hdi := due_iff H a0 a1 hq
  have hgb := H.gb a0 a1
  obtain ⟨g1, g2, g4, g5, gx2, gx3, gx4, gx5, gx6, gx7, gx8⟩ := gg H a0 a1 hq
  have hr2 := gr2 H a0 a1 hq
  show WP (gX (gq u)) MX11_proof (d + 7) b _ 0 [(2, 1), (0, a), (0, dd), (9, 0), (9, 0), (9, 0), (9, 0)] [] h
  refine wp_aload_n rfl rfl dX11_proof_0 ?_
  refine wp_iload_n rfl rfl dX11_proof_1 ?_
  refine wp_cV1 (ci := 11) okX11_findAsking rfl rfl wX11_200 dX11_proof_2 rfl (Nat.le_of_ble_eq_true rfl) (Nat.le_of_ble_eq_true rfl) (by first | omega | (simp (disch := omega) only [up2_ne, up2_eq, e, e11, e12, e13, H.a4, H.az, H.r3, H.rz, g1, g4, g5, gx2, gx3, gx4, gx5, gx6, gx7, gx8, st_1_m1 hS, st_1_m1 H.1]; first | done | omega)) (by first | assumption | (simp (disch := omega) only [up2_ne, up2_eq, e, e11, e12, e13, H.a4, H.az, H.r3, H.rz, g1, g4, g5, gx2, gx3, gx4, gx5, gx6, gx7, gx8, st_1_m1 hS, st_1_m1 H.1]; first | done | rfl | omega)) (ndA_t H e hS a0 a1) (Nat.zero_le _) ?_
  try simp (disch := omega) only [up2_ne, up2_eq, e, e11, e12, e13, H.a4, H.az, H.r3, H.rz, g1, g4, g5, gx2, gx3, gx4, gx5, gx6, gx7, gx8, st_1_m1 hS, st_1_m1 H.1]
  refine wp_astore_n rfl dX11_proof_5 rfl (Nat.le_of_ble_eq_true rfl) rfl ?_
  try simp only [List.set_cons_zero, List.set_cons_succ]
  refine wp_aload_n rfl rfl dX11_proof_6 ?_
  refine wp_ifnull (tgt := 21) dX11_proof_7 (by decide) (fun hx => absurd hx (by omega)) (fun hx => ?_)
  refine wp_iload_n rfl rfl dX11_proof_10 ?_
  refine wp_iconst dX11_proof_11 ?_
  refine wp_sipush (by decide) dX11_proof_12 ?_
  refine wp_cS3 okX11_isWithin wX11_98 dX11_proof_15 rfl (Nat.le_of_ble_eq_true rfl) (Nat.le_of_ble_eq_true rfl) (s_X11_isWithin (by first | assumption | exact ⟨by omega, by omega⟩) (by exact ⟨by decide, by decide⟩) (by exact ⟨by decide, by decide⟩)) (Nat.zero_le _) ?_
  try simp (disch := omega) only [up2_ne, up2_eq, e, e11, e12, e13, H.a4, H.az, H.r3, H.rz, g1, g4, g5, gx2, gx3, gx4, gx5, gx6, gx7, gx8, st_1_m1 hS, st_1_m1 H.1]
  refine wp_ifB_ne (tgt := 24) dX11_proof_18 (by decide) (fun c2 => ?_) (fun c2 => ?_)
  · refine wp_aload_n rfl rfl dX11_proof_24 ?_
    refine wp_getfield1 (z := 1) (kI := 11) fX11_230 dX11_proof_25 (by first | omega | (simp (disch := omega) only [up2_ne, up2_eq, e, e11, e12, e13, H.a4, H.az, H.r3, H.rz, g1, g4, g5, gx2, gx3, gx4, gx5, gx6, gx7, gx8, st_1_m1 hS, st_1_m1 H.1]; first | done | omega)) (by first | assumption | (simp (disch := omega) only [up2_ne, up2_eq, e, e11, e12, e13, H.a4, H.az, H.r3, H.rz, g1, g4, g5, gx2, gx3, gx4, gx5, gx6, gx7, gx8, st_1_m1 hS, st_1_m1 H.1]; first | done | rfl | omega)) rfl rfl ?_
    try simp (disch := omega) only [up2_ne, up2_eq, e, e11, e12, e13, H.a4, H.az, H.r3, H.rz, g1, g4, g5, gx2, gx3, gx4, gx5, gx6, gx7, gx8, st_1_m1 hS, st_1_m1 H.1]
    refine wp_astore dX11_proof_28 rfl (Nat.le_of_ble_eq_true rfl) rfl ?_
    try simp only [List.set_cons_zero, List.set_cons_succ]
    refine wp_aload rfl dX11_proof_30 ?_
    refine wp_ifnull (tgt := 43) dX11_proof_32 (by decide) (fun c3 => ?_) (fun c3 => ?_)
    · refine wp_bipush (by decide) dX11_proof_43 ?_
      refine wp_iret dX11_proof_45 rfl ?_
      first
        | (exfalso; omega)
        | exact Or.inl ⟨by omega, rfl, rfl⟩
        | exact Or.inr (Or.inl ⟨by omega, fun z => by have := hdi.mpr z; omega, rfl, rfl⟩)
        | (have D := hdi.mp (by omega)
           have hnp := npart_eq H ge a0 a1 D
           have hnh := npart_eq H e a0 a1 D
           refine Or.inr (Or.inr ⟨by omega, D, by rw [hnh], ?_, fun x k y1 y2 y3 => ?_, ?_, ?_, ?_, ?_, ?_, ?_⟩)
           · exact (((((z2.upD (by omega)).upD (by omega)).upD (by omega)).upD (by omega)).upD (by omega)).upD (by omega)
           · simp (disch := omega) only [up2_ne]
             exact z3 x k y1
           all_goals (simp (disch := omega) only [up2_ne, up2_eq, hnp, ge, gx6, gx7, gx8, H.fp, H.fd, H.fl]))
        | (exfalso; omega)
    · refine wp_aload rfl dX11_proof_35 ?_
      refine wp_cV0 (ci := 3) okX3_isOpen rfl rfl wX11_340 dX11_proof_37 rfl (Nat.le_of_ble_eq_true rfl) (Nat.le_of_ble_eq_true rfl) (by first | omega | (simp (disch := omega) only [up2_ne, up2_eq, e, e11, e12, e13, H.a4, H.az, H.r3, H.rz, g1, g4, g5, gx2, gx3, gx4, gx5, gx6, gx7, gx8, st_1_m1 hS, st_1_m1 H.1]; first | done | omega)) (by first | assumption | (simp (disch := omega) only [up2_ne, up2_eq, e, e11, e12, e13, H.a4, H.az, H.r3, H.rz, g1, g4, g5, gx2, gx3, gx4, gx5, gx6, gx7, gx8, st_1_m1 hS, st_1_m1 H.1]; first | done | rfl | omega)) (s_X3_isOpen (by omega) (by rw [e _ _ (by omega)]; exact g4) (by rw [e _ _ (by omega), gx7]; exact ⟨by omega, by omega⟩)) (Nat.zero_le _) ?_
      try simp (disch := omega) only [up2_ne, up2_eq, e, e11, e12, e13, H.a4, H.az, H.r3, H.rz, g1, g4, g5, gx2, gx3, gx4, gx5, gx6, gx7, gx8, st_1_m1 hS, st_1_m1 H.1]
      refine wp_ifB_ne (tgt := 46) dX11_proof_40 (by decide) (fun c4 => ?_) (fun c4 => ?_)
      · refine wp_aload rfl dX11_proof_46 ?_
        refine wp_cV0 (ci := 3) okX3_nextPart rfl rfl wX11_343 dX11_proof_48 rfl (Nat.le_of_ble_eq_true rfl) (Nat.le_of_ble_eq_true rfl) (by first | omega | (simp (disch := omega) only [up2_ne, up2_eq, e, e11, e12, e13, H.a4, H.az, H.r3, H.rz, g1, g4, g5, gx2, gx3, gx4, gx5, gx6, gx7, gx8, st_1_m1 hS, st_1_m1 H.1]; first | done | omega)) (by first | assumption | (simp (disch := omega) only [up2_ne, up2_eq, e, e11, e12, e13, H.a4, H.az, H.r3, H.rz, g1, g4, g5, gx2, gx3, gx4, gx5, gx6, gx7, gx8, st_1_m1 hS, st_1_m1 H.1]; first | done | rfl | omega)) (s_X3_nextPart (by omega) (by rw [e _ _ (by omega)]; exact g4) (by rw [e _ _ (by omega)]; omega) (by rw [e _ _ (by omega)]; omega) (by rw [e _ _ (by omega), gx6]; exact ⟨by omega, by omega⟩)) (Nat.zero_le _) ?_
        try simp (disch := omega) only [up2_ne, up2_eq, e, e11, e12, e13, H.a4, H.az, H.r3, H.rz, g1, g4, g5, gx2, gx3, gx4, gx5, gx6, gx7, gx8, st_1_m1 hS, st_1_m1 H.1]
        refine wp_istore dX11_proof_51 rfl (Nat.le_of_ble_eq_true rfl) rfl ?_
        try simp only [List.set_cons_zero, List.set_cons_succ]
        refine wp_aload_n rfl rfl dX11_proof_53 ?_
        refine wp_aload_n rfl rfl dX11_proof_54 ?_
        refine wp_aload rfl dX11_proof_55 ?_
        refine wp_iload_n rfl rfl dX11_proof_57 ?_
        refine wp_cV3r (ci := 11) okX11_lossOf rfl rfl wX11_346 dX11_proof_58 (Nat.le_of_ble_eq_true rfl) (Nat.le_of_ble_eq_true rfl) (by first | omega | (simp (disch := omega) only [up2_ne, up2_eq, e, e11, e12, e13, H.a4, H.az, H.r3, H.rz, g1, g4, g5, gx2, gx3, gx4, gx5, gx6, gx7, gx8, st_1_m1 hS, st_1_m1 H.1]; first | done | omega)) (by first | assumption | (simp (disch := omega) only [up2_ne, up2_eq, e, e11, e12, e13, H.a4, H.az, H.r3, H.rz, g1, g4, g5, gx2, gx3, gx4, gx5, gx6, gx7, gx8, st_1_m1 hS, st_1_m1 H.1]; first | done | rfl | omega)) (s_X11_lossOf H e hS a0 a1 (by omega) (by omega) ((due_iff H a0 a1 hq).mp (by omega))) (Nat.zero_le _) ?_
        rintro r g ⟨rfl, z2, z3⟩ -
        show WP _ _ _ _ _ _ _ ((0, _) :: _) _
        have ge : Cl g m := fun x k z => by rw [z3 x k (by omega)]; exact e x k z
        refine wp_istore dX11_proof_61 rfl (Nat.le_of_ble_eq_true rfl) rfl ?_
        try simp only [List.set_cons_zero, List.set_cons_succ]
        refine wp_aload rfl dX11_proof_63 ?_
        refine wp_iload rfl dX11_proof_65 ?_
        refine wp_cV1v (ci := 3) okX3_payNextPart rfl rfl wX11_350 dX11_proof_67 (Nat.le_of_ble_eq_true rfl) (Nat.le_of_ble_eq_true rfl) (by first | omega | (simp (disch := omega) only [up2_ne, up2_eq, ge, e, e11, e12, e13, H.a4, H.az, H.r3, H.rz, g1, g4, g5, gx2, gx3, gx4, gx5, gx6, gx7, gx8, H.fp, H.fd, H.fl, H.fz, st_1_m1 z2, st_1_m1 hS, st_1_m1 H.1]; first | done | omega)) (by first | assumption | (simp (disch := omega) only [up2_ne, up2_eq, ge, e, e11, e12, e13, H.a4, H.az, H.r3, H.rz, g1, g4, g5, gx2, gx3, gx4, gx5, gx6, gx7, gx8, H.fp, H.fd, H.fl, H.fz, st_1_m1 z2, st_1_m1 hS, st_1_m1 H.1]; first | done | rfl | omega)) (s_X3_payNextPart (f := 100 + m 221 a) (by omega) (by rw [ge _ _ (by omega)]; exact g4) (by rw [ge _ _ (by omega)]; exact g5) (by omega) (by rw [ge _ _ (by omega)]; exact H.fz g2.1 g2.2) (by omega) (by rw [ge _ _ (by omega)]; omega) (by rw [ge _ _ (by omega)]; omega) (by rw [ge _ _ (by omega), gx6]; exact ⟨by omega, by omega⟩)) (Nat.zero_le _) ?_
        try simp (disch := omega) only [up2_ne, up2_eq, ge, e, e11, e12, e13, H.a4, H.az, H.r3, H.rz, g1, g4, g5, gx2, gx3, gx4, gx5, gx6, gx7, gx8, H.fp, H.fd, H.fl, H.fz, st_1_m1 z2, st_1_m1 hS, st_1_m1 H.1]
        refine wp_iload rfl dX11_proof_70 ?_
        refine wp_iload rfl dX11_proof_72 ?_
        refine wp_isub dX11_proof_74 ?_
        refine wp_iret dX11_proof_75 rfl ?_
        first
          | (exfalso; omega)
          | exact Or.inl ⟨by omega, rfl, rfl⟩
          | exact Or.inr (Or.inl ⟨by omega, fun z => by have := hdi.mpr z; omega, rfl, rfl⟩)
          | (have D := hdi.mp (by omega)
             have hnp := npart_eq H ge a0 a1 D
             have hnh := npart_eq H e a0 a1 D
             refine Or.inr (Or.inr ⟨by omega, D, by rw [hnh], ?_, fun x k y1 y2 y3 => ?_, ?_, ?_, ?_, ?_, ?_, ?_⟩)
             · exact (((((z2.upD (by omega)).upD (by omega)).upD (by omega)).upD (by omega)).upD (by omega)).upD (by omega)
             · simp (disch := omega) only [up2_ne]
               exact z3 x k y1
             all_goals (simp (disch := omega) only [up2_ne, up2_eq, hnp, ge, gx6, gx7, gx8, H.fp, H.fd, H.fl]))
          | (exfalso; omega)
      · refine wp_bipush (by decide) dX11_proof_43 ?_
        refine wp_iret dX11_proof_45 rfl ?_
        first
          | (exfalso; omega)
          | exact Or.inl ⟨by omega, rfl, rfl⟩
          | exact Or.inr (Or.inl ⟨by omega, fun z => by have := hdi.mpr z; omega, rfl, rfl⟩)
          | (have D := hdi.mp (by omega)
             have hnp := npart_eq H ge a0 a1 D
             have hnh := npart_eq H e a0 a1 D
             refine Or.inr (Or.inr ⟨by omega, D, by rw [hnh], ?_, fun x k y1 y2 y3 => ?_, ?_, ?_, ?_, ?_, ?_, ?_⟩)
             · exact (((((z2.upD (by omega)).upD (by omega)).upD (by omega)).upD (by omega)).upD (by omega)).upD (by omega)
             · simp (disch := omega) only [up2_ne]
               exact z3 x k y1
             all_goals (simp (disch := omega) only [up2_ne, up2_eq, hnp, ge, gx6, gx7, gx8, H.fp, H.fd, H.fl]))
          | (exfalso; omega)
  · refine wp_bipush (by decide) dX11_proof_21 ?_
    refine wp_iret dX11_proof_23 rfl ?_
    first
      | (exfalso; omega)
      | exact Or.inl ⟨by omega, rfl, rfl⟩
      | exact Or.inr (Or.inl ⟨by omega, fun z => by have := hdi.mpr z; omega, rfl, rfl⟩)
      | (have D := hdi.mp (by omega)
         have hnp := npart_eq H ge a0 a1 D
         have hnh := npart_eq H e a0 a1 D
         refine Or.inr (Or.inr ⟨by omega, D, by rw [hnh], ?_, fun x k y1 y2 y3 => ?_, ?_, ?_, ?_, ?_, ?_, ?_⟩)
         · exact (((((z2.upD (by omega)).upD (by omega)).upD (by omega)).upD (by omega)).upD (by omega)).upD (by omega)
         · simp (disch := omega) only [up2_ne]
           exact z3 x k y1
         all_goals (simp (disch := omega) only [up2_ne, up2_eq, hnp, ge, gx6, gx7, gx8, H.fp, H.fd, H.fl]))
      | (exfalso; omega)
