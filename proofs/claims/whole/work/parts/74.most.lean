/-! ===== places: the class ===== -/
theorem pG_feas {m g : mH} (R8 : m 200 6 ≤ 8) (G : pG m g) {c : Int → Int} (h : ∀ a : Int, 0 ≤ a → a < m 200 10 → degP m (MH g) a = c a) : Feas m c := ⟨MH g, pG_vld R8 G, pG_lok G, h⟩
theorem clo_cut {m g h1 : mH} {x : Int} {X : Int → Bool} (R8 : m 200 6 ≤ 8) (G : pG m g) (x0 : 0 ≤ x) (x1 : x < m 200 10) (z : g 12 7 = 0) (xa : X x = true) (c : clo m (MH g) g h1 X) : ¬ Feas m (inc (degP m (MH g)) x) := by
  have ns : ∀ r : Int, 0 ≤ r → r < 8 → ¬ sn g r := fun r r0 r1 q => by
    have q2 : bt (g 12 7) r = 1 := q
    rw [z, bt_z r0 (by omega)] at q2
    omega
  refine cut X (fun r => decide (sn h1 r)) (pG_vld R8 G) x0 x1 xa (fun y r y0 y1 r0 r1 q1 q2 o => ?_) (fun r r0 r1 q => ?_) (fun y r y0 y1 r0 r1 q1 q2 => ?_)
  · rcases c.1 y r y0 y1 r0 r1 q1 o with w | w
    · exact absurd w (of_decide_eq_false q2)
    · exact w
  · exact (c.2 r r0 r1 (of_decide_eq_true q) (ns r r0 (by omega))).1
  · exact (c.2 r r0 r1 (of_decide_eq_true q1) (ns r r0 (by omega))).2 y y0 y1 q2
def mI (m g : mH) (c : Int → Int) : Prop := pG m g ∧ (∀ a : Int, 0 ≤ a → a < m 200 10 → g 27 a = needM (m 211 a)) ∧ (∀ a : Int, 0 ≤ a → a < m 200 10 → degP m (MH g) a = c a)
theorem inc_cg {c c' : Int → Int} {x : Int} {N : Int} (e : ∀ a : Int, 0 ≤ a → a < N → c a = c' a) : ∀ a : Int, 0 ≤ a → a < N → inc c x a = inc c' x a := fun a a0 a1 => by
  unfold inc
  rw [e a a0 a1]
set_option maxHeartbeats 1000000 in
theorem s_X4_mostPairs {u : gT} {m g : mH} {d b : Nat} (R0 : 0 ≤ m 200 6 ∧ m 200 6 ≤ 8) (A0 : 0 ≤ m 200 10 ∧ m 200 10 ≤ 14) (L6 : ∀ r : Int, 0 ≤ r → r < m 200 6 → 1 ≤ m 209 r ∧ m 209 r ≤ 6) (I : mI m g (gPr m 0)) : Rlt (gX (gq u)) MX4_mostPairs (d + 20) b [(2, 12)] g (fun r h1 => r = (0, sm (gPr m (m 200 10).toNat) (m 200 10).toNat) ∧ St h1 ∧ Kp g h1) := by
  refine Rlt.of ?_
  have loop : ∀ n : Nat, n ≤ (m 200 10).toNat → ∀ g1, Kp g g1 → mI m g1 (gPr m n) → WP (gX (gq u)) MX4_mostPairs (d + 20) b (fun r h1 => r = (0, sm (gPr m (m 200 10).toNat) (m 200 10).toNat) ∧ St h1 ∧ Kp g h1) 4 [(2, 12), (0, sm (gPr m n) (m 200 10).toNat), (0, (n : Int)), (9, 0)] [] g1 := by
    refine loop_w (m 200 10).toNat (fun n hn2 ih => ?_)
    have hst : gPr m (n + 1) = gTr m (gPr m n) n (needM (m 211 n)).toNat := rfl
    rw [hst] at ih
    have hnb := needM_b (k := m 211 n)
    have inner : (n : Int) < m 200 10 → ∀ k : Nat, k ≤ (needM (m 211 n)).toNat → ∀ g1, Kp g g1 → mI m g1 (gTr m (gPr m n) n k) → WP (gX (gq u)) MX4_mostPairs (d + 20) b (fun r h1 => r = (0, sm (gPr m (m 200 10).toNat) (m 200 10).toNat) ∧ St h1 ∧ Kp g h1) 14 [(2, 12), (0, sm (gTr m (gPr m n) n k) (m 200 10).toNat), (0, (n : Int)), (0, (k : Int))] [] g1 := by
      intro hnA
      refine loop_w (needM (m 211 n)).toNat (fun k hk2 ihk => ?_)
      intro g1 K1 I
      have G1 := I.1
      have gS := G1.1
      have g6 := G1.2.2.1
      have g27 := I.2.1 n (by omega) (by omega)
      have G2 : pG m (up2 g1 12 7 0) := pG_sn G1 (gS.up (by decide +kernel)) (fun y z q => up2_ne (by omega)) (by rw [up2_eq]; decide) (by rw [up2_eq]; decide) (fun r r0 r1 q => by rw [up2_eq, bt_z r0 (by omega)] at q; omega)
      have hM2 : MH (up2 g1 12 7 0) = MH g1 := MH_Ks (fun y z q => up2_ne (by omega))
      have hN2 := snN_8 G2.2.2.2.2.2.1 G2.2.2.2.2.2.2.1
      refine wp_iload_n rfl rfl dX4_mostPairs_14 ?_
      refine wp_aload_n rfl rfl dX4_mostPairs_15 ?_
      refine wp_getfield1 (z := 5) (kI := 2) fX4_18 dX4_mostPairs_16 (by first | omega | (simp (disch := omega) only [up2_ne, up2_eq, g6, g27, st_12_m1 gS, st_12_2 gS, st_27_m2 gS, st_27_m1 gS]; first | done | omega)) (by first | assumption | (simp (disch := omega) only [up2_ne, up2_eq, g6, g27, st_12_m1 gS, st_12_2 gS, st_27_m2 gS, st_27_m1 gS]; first | done | rfl | omega)) rfl rfl ?_
      try simp (disch := omega) only [up2_ne, up2_eq, g6, g27, st_12_m1 gS, st_12_2 gS, st_27_m2 gS, st_27_m1 gS]
      refine wp_iload_n rfl rfl dX4_mostPairs_19 ?_
      refine wp_iaload1 dX4_mostPairs_20 (by first | omega | (simp (disch := omega) only [up2_ne, up2_eq, g6, g27, st_12_m1 gS, st_12_2 gS, st_27_m2 gS, st_27_m1 gS]; first | done | omega)) (by first | assumption | (simp (disch := omega) only [up2_ne, up2_eq, g6, g27, st_12_m1 gS, st_12_2 gS, st_27_m2 gS, st_27_m1 gS]; first | done | rfl | omega)) (by first | omega | (simp (disch := omega) only [up2_ne, up2_eq, g6, g27, st_12_m1 gS, st_12_2 gS, st_27_m2 gS, st_27_m1 gS]; first | done | omega)) (by first | omega | (simp (disch := omega) only [up2_ne, up2_eq, g6, g27, st_12_m1 gS, st_12_2 gS, st_27_m2 gS, st_27_m1 gS]; first | done | omega)) ?_
      try simp (disch := omega) only [up2_ne, up2_eq, g6, g27, st_12_m1 gS, st_12_2 gS, st_27_m2 gS, st_27_m1 gS]
      refine wp_icmp_ge (tgt := 47) (by first | assumption | exact bI_in _ | exact ⟨by omega, by omega⟩ | exact iAnd_in | exact iOr_in | exact iShr_in | exact iShl_in | exact iXor_in | exact hxs _) (by first | assumption | exact bI_in _ | exact ⟨by omega, by omega⟩ | exact iAnd_in | exact iOr_in | exact iShr_in | exact iShl_in | exact iXor_in | exact hxs _) dX4_mostPairs_21 (by decide) (fun c1 => ?_) (fun c1 => ?_)
      · refine wp_iinc rfl rfl dX4_mostPairs_47 rfl rfl ?_
        try simp only [List.set_cons_zero, List.set_cons_succ]
        refine wp_goto (tgt := 4) dX4_mostPairs_50 (by decide) ?_
        have ek : k = (needM (m 211 n)).toNat := by omega
        subst ek
        refine wp_dropAt 3 rfl ?_
        exact ih (by omega) g1 K1 I
      · refine wp_aload_n rfl rfl dX4_mostPairs_24 ?_
        refine wp_iconst dX4_mostPairs_25 ?_
        refine wp_putfield1 (z := 5) (kI := 7) fX4_34 dX4_mostPairs_26 (by first | omega | (simp (disch := omega) only [up2_ne, up2_eq, g6, g27, st_12_m1 gS, st_12_2 gS, st_27_m2 gS, st_27_m1 gS]; first | done | omega)) (by first | assumption | (simp (disch := omega) only [up2_ne, up2_eq, g6, g27, st_12_m1 gS, st_12_2 gS, st_27_m2 gS, st_27_m1 gS]; first | done | rfl | omega)) rfl rfl ?_
        refine wp_aload_n rfl rfl dX4_mostPairs_29 ?_
        refine wp_iload_n rfl rfl dX4_mostPairs_30 ?_
        refine wp_iconst dX4_mostPairs_31 ?_
        refine wp_cV2r (ci := 4) okX4_gains rfl rfl wX4_37 dX4_mostPairs_32 (Nat.le_of_ble_eq_true rfl) (Nat.le_of_ble_eq_true rfl) (by first | omega | (simp (disch := omega) only [up2_ne, up2_eq, g6, g27, st_12_m1 gS, st_12_2 gS, st_27_m2 gS, st_27_m1 gS]; first | done | omega)) (by first | assumption | (simp (disch := omega) only [up2_ne, up2_eq, g6, g27, st_12_m1 gS, st_12_2 gS, st_27_m2 gS, st_27_m1 gS]; first | done | rfl | omega)) (gains_all (d := d) R0 A0 L6 9 0 (by decide) (by decide) 0 (up2 g1 12 7 0) n G2 (by omega) (by omega) hN2.1) (Nat.zero_le _) ?_
        rintro r h1 ⟨H1, KP, M3, (⟨rfl, dg, cl⟩ | ⟨rfl, KS, Y, yn, yc⟩)⟩ -
        · show WP _ _ _ _ _ _ _ ((0, 1) :: _) _
          refine wp_if_eq (tgt := 41) (by first | assumption | exact bI_in _ | exact ⟨by omega, by omega⟩ | exact iAnd_in | exact iOr_in | exact iShr_in | exact iShl_in | exact iXor_in | exact hxs _) dX4_mostPairs_35 (by decide) (fun hx => absurd hx (by decide)) (fun hx => ?_)
          refine wp_iinc rfl rfl dX4_mostPairs_38 rfl rfl ?_
          try simp only [List.set_cons_zero, List.set_cons_succ]
          refine wp_iinc rfl rfl dX4_mostPairs_41 rfl rfl ?_
          try simp only [List.set_cons_zero, List.set_cons_succ]
          refine wp_goto (tgt := 14) dX4_mostPairs_44 (by decide) ?_
          have hcd : ∀ a : Int, 0 ≤ a → a < m 200 10 → degP m (MH (up2 g1 12 7 0)) a = gTr m (gPr m n) n k a := fun a a0 a1 => by rw [hM2]; exact I.2.2 a a0 a1
          have K3 : Kp g h1 := fun y z q1 q2 => by rw [KP y z q1 q2, up2_ne (by omega)]; exact K1 y z q1 q2
          have n27 : ∀ a : Int, 0 ≤ a → a < m 200 10 → h1 27 a = needM (m 211 a) := fun a a0 a1 => by rw [KP _ _ (by omega) (by omega), up2_ne (by omega)]; exact I.2.1 a a0 a1
          first
            | (have hde : ∀ a : Int, 0 ≤ a → a < m 200 10 → degP m (MH h1) a = inc (gTr m (gPr m n) n k) n a := fun a a0 a1 => by rw [dg a a0 a1]; exact inc_cg hcd a a0 a1
               have hf : Feas m (inc (gTr m (gPr m n) n k) n) := pG_feas (by omega) H1 hde
               have z := ihk (by omega) h1 K3 ⟨H1, n27, fun a a0 a1 => by rw [gTr_t hf]; exact hde a a0 a1⟩
               rw [gTr_t hf, sm_inc (by omega) (by omega)] at z
               exact z)
            | (have hf : ¬ Feas m (inc (gTr m (gPr m n) n k) n) := fun q => clo_cut (by omega) G2 (by omega) (by omega) up2_eq yn yc (Feas_cg (inc_cg (fun a a0 a1 => (hcd a a0 a1).symm)) q)
               have z := ihk (by omega) h1 K3 ⟨H1, n27, fun a a0 a1 => by rw [gTr_f hf, MH_Ks KS]; exact hcd a a0 a1⟩
               rw [gTr_f hf] at z
               exact z)
        · show WP _ _ _ _ _ _ _ ((0, 0) :: _) _
          refine wp_if_eq (tgt := 41) (by first | assumption | exact bI_in _ | exact ⟨by omega, by omega⟩ | exact iAnd_in | exact iOr_in | exact iShr_in | exact iShl_in | exact iXor_in | exact hxs _) dX4_mostPairs_35 (by decide) (fun hx => ?_) (fun hx => absurd hx (by decide))
          refine wp_iinc rfl rfl dX4_mostPairs_41 rfl rfl ?_
          try simp only [List.set_cons_zero, List.set_cons_succ]
          refine wp_goto (tgt := 14) dX4_mostPairs_44 (by decide) ?_
          have hcd : ∀ a : Int, 0 ≤ a → a < m 200 10 → degP m (MH (up2 g1 12 7 0)) a = gTr m (gPr m n) n k a := fun a a0 a1 => by rw [hM2]; exact I.2.2 a a0 a1
          have K3 : Kp g h1 := fun y z q1 q2 => by rw [KP y z q1 q2, up2_ne (by omega)]; exact K1 y z q1 q2
          have n27 : ∀ a : Int, 0 ≤ a → a < m 200 10 → h1 27 a = needM (m 211 a) := fun a a0 a1 => by rw [KP _ _ (by omega) (by omega), up2_ne (by omega)]; exact I.2.1 a a0 a1
          first
            | (have hde : ∀ a : Int, 0 ≤ a → a < m 200 10 → degP m (MH h1) a = inc (gTr m (gPr m n) n k) n a := fun a a0 a1 => by rw [dg a a0 a1]; exact inc_cg hcd a a0 a1
               have hf : Feas m (inc (gTr m (gPr m n) n k) n) := pG_feas (by omega) H1 hde
               have z := ihk (by omega) h1 K3 ⟨H1, n27, fun a a0 a1 => by rw [gTr_t hf]; exact hde a a0 a1⟩
               rw [gTr_t hf, sm_inc (by omega) (by omega)] at z
               exact z)
            | (have hf : ¬ Feas m (inc (gTr m (gPr m n) n k) n) := fun q => clo_cut (by omega) G2 (by omega) (by omega) up2_eq yn yc (Feas_cg (inc_cg (fun a a0 a1 => (hcd a a0 a1).symm)) q)
               have z := ihk (by omega) h1 K3 ⟨H1, n27, fun a a0 a1 => by rw [gTr_f hf, MH_Ks KS]; exact hcd a a0 a1⟩
               rw [gTr_f hf] at z
               exact z)
    intro g1 K1 I
    have G1 := I.1
    have gS := G1.1
    have g6 := G1.2.2.1
    refine wp_iload_n rfl rfl dX4_mostPairs_4 ?_
    refine wp_aload_n rfl rfl dX4_mostPairs_5 ?_
    refine wp_getfield1 (z := 5) (kI := 6) fX4_31 dX4_mostPairs_6 (by first | omega | (simp (disch := omega) only [up2_ne, up2_eq, g6, st_12_m1 gS, st_12_2 gS, st_27_m2 gS, st_27_m1 gS]; first | done | omega)) (by first | assumption | (simp (disch := omega) only [up2_ne, up2_eq, g6, st_12_m1 gS, st_12_2 gS, st_27_m2 gS, st_27_m1 gS]; first | done | rfl | omega)) rfl rfl ?_
    try simp (disch := omega) only [up2_ne, up2_eq, g6, st_12_m1 gS, st_12_2 gS, st_27_m2 gS, st_27_m1 gS]
    refine wp_icmp_ge (tgt := 53) (by first | assumption | exact bI_in _ | exact ⟨by omega, by omega⟩ | exact iAnd_in | exact iOr_in | exact iShr_in | exact iShl_in | exact iXor_in | exact hxs _) (by first | assumption | exact bI_in _ | exact ⟨by omega, by omega⟩ | exact iAnd_in | exact iOr_in | exact iShr_in | exact iShl_in | exact iXor_in | exact hxs _) dX4_mostPairs_9 (by decide) (fun c2 => ?_) (fun c2 => ?_)
    · refine wp_iload_n rfl rfl dX4_mostPairs_53 ?_
      refine wp_iret dX4_mostPairs_54 rfl ?_
      have en : n = (m 200 10).toNat := by omega
      rw [← en]
      exact ⟨rfl, gS, K1⟩
    · refine wp_iconst dX4_mostPairs_12 ?_
      refine wp_istore_n rfl dX4_mostPairs_13 rfl (Nat.le_of_ble_eq_true rfl) rfl ?_
      try simp only [List.set_cons_zero, List.set_cons_succ]
      exact inner (by omega) 0 (by omega) g1 K1 I
  show WP (gX (gq u)) MX4_mostPairs (d + 20) b _ 0 [(2, 12), (9, 0), (9, 0), (9, 0)] [] g
  refine wp_iconst dX4_mostPairs_0 ?_
  refine wp_istore_n rfl dX4_mostPairs_1 rfl (Nat.le_of_ble_eq_true rfl) rfl ?_
  try simp only [List.set_cons_zero, List.set_cons_succ]
  refine wp_iconst dX4_mostPairs_2 ?_
  refine wp_istore_n rfl dX4_mostPairs_3 rfl (Nat.le_of_ble_eq_true rfl) rfl ?_
  try simp only [List.set_cons_zero, List.set_cons_succ]
  have l0 := loop 0 (by omega) g (fun _ _ _ _ => rfl) I
  rw [show sm (gPr m 0) (m 200 10).toNat = 0 from sm_zero _ (fun _ _ => rfl)] at l0
  exact l0
theorem s_X4_clear {u : gT} {g : mH} {d b : Nat} (gS : St g) : Det (gX (gq u)) MX4_clear d b [(2, 12)] g (9, 0) (up2 (up2 g 12 5 0) 12 6 0) := by
  intro Q hQ
  show WP (gX (gq u)) MX4_clear d b Q 0 [(2, 12)] [] g
  refine wp_aload_n rfl rfl dX4_clear_0 ?_
  refine wp_iconst dX4_clear_1 ?_
  refine wp_putfield1 (z := 5) (kI := 5) fX4_27 dX4_clear_2 (by first | omega | (simp (disch := omega) only [up2_ne, up2_eq, st_12_m1 gS]; first | done | omega)) (by first | assumption | (simp (disch := omega) only [up2_ne, up2_eq, st_12_m1 gS]; first | done | rfl | omega)) rfl rfl ?_
  refine wp_aload_n rfl rfl dX4_clear_5 ?_
  refine wp_iconst dX4_clear_6 ?_
  refine wp_putfield1 (z := 5) (kI := 6) fX4_31 dX4_clear_7 (by first | omega | (simp (disch := omega) only [up2_ne, up2_eq, st_12_m1 gS]; first | done | omega)) (by first | assumption | (simp (disch := omega) only [up2_ne, up2_eq, st_12_m1 gS]; first | done | rfl | omega)) rfl rfl ?_
  refine wp_vret dX4_clear_10 rfl ?_
  exact hQ
theorem s_X4_addReader {u : gT} {g : mH} {d b : Nat} {n l : Int} (gS : St g) (h5 : g 12 5 = n) (n0 : 0 ≤ n) (n1 : n < 8) : Det (gX (gq u)) MX4_addReader d b [(2, 12), (0, l)] g (9, 0) (up2 (up2 (up2 g 25 n l) 26 n 0) 12 5 (n + 1)) := by
  intro Q hQ
  show WP (gX (gq u)) MX4_addReader d b Q 0 [(2, 12), (0, l)] [] g
  refine wp_aload_n rfl rfl dX4_addReader_0 ?_
  refine wp_getfield1 (z := 5) (kI := 5) fX4_27 dX4_addReader_1 (by first | omega | (simp (disch := omega) only [up2_ne, up2_eq, h5, st_12_m1 gS, st_12_0 gS, st_12_1 gS, st_25_m2 gS, st_25_m1 gS, st_26_m2 gS, st_26_m1 gS]; first | done | omega)) (by first | assumption | (simp (disch := omega) only [up2_ne, up2_eq, h5, st_12_m1 gS, st_12_0 gS, st_12_1 gS, st_25_m2 gS, st_25_m1 gS, st_26_m2 gS, st_26_m1 gS]; first | done | rfl | omega)) rfl rfl ?_
  try simp (disch := omega) only [up2_ne, up2_eq, h5, st_12_m1 gS, st_12_0 gS, st_12_1 gS, st_25_m2 gS, st_25_m1 gS, st_26_m2 gS, st_26_m1 gS]
  refine wp_bipush (by decide) dX4_addReader_4 ?_
  refine wp_icmp_ge (tgt := 39) (by first | assumption | exact bI_in _ | exact ⟨by omega, by omega⟩ | exact iAnd_in | exact iOr_in | exact iShr_in | exact iShl_in | exact iXor_in | exact hxs _) (by first | assumption | exact bI_in _ | exact ⟨by omega, by omega⟩ | exact iAnd_in | exact iOr_in | exact iShr_in | exact iShl_in | exact iXor_in | exact hxs _) dX4_addReader_6 (by decide) (fun c1 => ?_) (fun c1 => ?_)
  · refine wp_vret dX4_addReader_39 rfl ?_
    first | exact hQ | (exfalso; omega)
  · refine wp_aload_n rfl rfl dX4_addReader_9 ?_
    refine wp_getfield1 (z := 5) (kI := 0) fX4_9 dX4_addReader_10 (by first | omega | (simp (disch := omega) only [up2_ne, up2_eq, h5, st_12_m1 gS, st_12_0 gS, st_12_1 gS, st_25_m2 gS, st_25_m1 gS, st_26_m2 gS, st_26_m1 gS]; first | done | omega)) (by first | assumption | (simp (disch := omega) only [up2_ne, up2_eq, h5, st_12_m1 gS, st_12_0 gS, st_12_1 gS, st_25_m2 gS, st_25_m1 gS, st_26_m2 gS, st_26_m1 gS]; first | done | rfl | omega)) rfl rfl ?_
    try simp (disch := omega) only [up2_ne, up2_eq, h5, st_12_m1 gS, st_12_0 gS, st_12_1 gS, st_25_m2 gS, st_25_m1 gS, st_26_m2 gS, st_26_m1 gS]
    refine wp_aload_n rfl rfl dX4_addReader_13 ?_
    refine wp_getfield1 (z := 5) (kI := 5) fX4_27 dX4_addReader_14 (by first | omega | (simp (disch := omega) only [up2_ne, up2_eq, h5, st_12_m1 gS, st_12_0 gS, st_12_1 gS, st_25_m2 gS, st_25_m1 gS, st_26_m2 gS, st_26_m1 gS]; first | done | omega)) (by first | assumption | (simp (disch := omega) only [up2_ne, up2_eq, h5, st_12_m1 gS, st_12_0 gS, st_12_1 gS, st_25_m2 gS, st_25_m1 gS, st_26_m2 gS, st_26_m1 gS]; first | done | rfl | omega)) rfl rfl ?_
    try simp (disch := omega) only [up2_ne, up2_eq, h5, st_12_m1 gS, st_12_0 gS, st_12_1 gS, st_25_m2 gS, st_25_m1 gS, st_26_m2 gS, st_26_m1 gS]
    refine wp_iload_n rfl rfl dX4_addReader_17 ?_
    refine wp_iastore1 dX4_addReader_18 (by first | omega | (simp (disch := omega) only [up2_ne, up2_eq, h5, st_12_m1 gS, st_12_0 gS, st_12_1 gS, st_25_m2 gS, st_25_m1 gS, st_26_m2 gS, st_26_m1 gS]; first | done | omega)) (by first | assumption | (simp (disch := omega) only [up2_ne, up2_eq, h5, st_12_m1 gS, st_12_0 gS, st_12_1 gS, st_25_m2 gS, st_25_m1 gS, st_26_m2 gS, st_26_m1 gS]; first | done | rfl | omega)) (by first | omega | (simp (disch := omega) only [up2_ne, up2_eq, h5, st_12_m1 gS, st_12_0 gS, st_12_1 gS, st_25_m2 gS, st_25_m1 gS, st_26_m2 gS, st_26_m1 gS]; first | done | omega)) (by first | omega | (simp (disch := omega) only [up2_ne, up2_eq, h5, st_12_m1 gS, st_12_0 gS, st_12_1 gS, st_25_m2 gS, st_25_m1 gS, st_26_m2 gS, st_26_m1 gS]; first | done | omega)) ?_
    refine wp_aload_n rfl rfl dX4_addReader_19 ?_
    refine wp_getfield1 (z := 5) (kI := 1) fX4_15 dX4_addReader_20 (by first | omega | (simp (disch := omega) only [up2_ne, up2_eq, h5, st_12_m1 gS, st_12_0 gS, st_12_1 gS, st_25_m2 gS, st_25_m1 gS, st_26_m2 gS, st_26_m1 gS]; first | done | omega)) (by first | assumption | (simp (disch := omega) only [up2_ne, up2_eq, h5, st_12_m1 gS, st_12_0 gS, st_12_1 gS, st_25_m2 gS, st_25_m1 gS, st_26_m2 gS, st_26_m1 gS]; first | done | rfl | omega)) rfl rfl ?_
    try simp (disch := omega) only [up2_ne, up2_eq, h5, st_12_m1 gS, st_12_0 gS, st_12_1 gS, st_25_m2 gS, st_25_m1 gS, st_26_m2 gS, st_26_m1 gS]
    refine wp_aload_n rfl rfl dX4_addReader_23 ?_
    refine wp_getfield1 (z := 5) (kI := 5) fX4_27 dX4_addReader_24 (by first | omega | (simp (disch := omega) only [up2_ne, up2_eq, h5, st_12_m1 gS, st_12_0 gS, st_12_1 gS, st_25_m2 gS, st_25_m1 gS, st_26_m2 gS, st_26_m1 gS]; first | done | omega)) (by first | assumption | (simp (disch := omega) only [up2_ne, up2_eq, h5, st_12_m1 gS, st_12_0 gS, st_12_1 gS, st_25_m2 gS, st_25_m1 gS, st_26_m2 gS, st_26_m1 gS]; first | done | rfl | omega)) rfl rfl ?_
    try simp (disch := omega) only [up2_ne, up2_eq, h5, st_12_m1 gS, st_12_0 gS, st_12_1 gS, st_25_m2 gS, st_25_m1 gS, st_26_m2 gS, st_26_m1 gS]
    refine wp_iconst dX4_addReader_27 ?_
    refine wp_iastore1 dX4_addReader_28 (by first | omega | (simp (disch := omega) only [up2_ne, up2_eq, h5, st_12_m1 gS, st_12_0 gS, st_12_1 gS, st_25_m2 gS, st_25_m1 gS, st_26_m2 gS, st_26_m1 gS]; first | done | omega)) (by first | assumption | (simp (disch := omega) only [up2_ne, up2_eq, h5, st_12_m1 gS, st_12_0 gS, st_12_1 gS, st_25_m2 gS, st_25_m1 gS, st_26_m2 gS, st_26_m1 gS]; first | done | rfl | omega)) (by first | omega | (simp (disch := omega) only [up2_ne, up2_eq, h5, st_12_m1 gS, st_12_0 gS, st_12_1 gS, st_25_m2 gS, st_25_m1 gS, st_26_m2 gS, st_26_m1 gS]; first | done | omega)) (by first | omega | (simp (disch := omega) only [up2_ne, up2_eq, h5, st_12_m1 gS, st_12_0 gS, st_12_1 gS, st_25_m2 gS, st_25_m1 gS, st_26_m2 gS, st_26_m1 gS]; first | done | omega)) ?_
    refine wp_aload_n rfl rfl dX4_addReader_29 ?_
    refine wp_dup (by decide) dX4_addReader_30 ?_
    refine wp_getfield1 (z := 5) (kI := 5) fX4_27 dX4_addReader_31 (by first | omega | (simp (disch := omega) only [up2_ne, up2_eq, h5, st_12_m1 gS, st_12_0 gS, st_12_1 gS, st_25_m2 gS, st_25_m1 gS, st_26_m2 gS, st_26_m1 gS]; first | done | omega)) (by first | assumption | (simp (disch := omega) only [up2_ne, up2_eq, h5, st_12_m1 gS, st_12_0 gS, st_12_1 gS, st_25_m2 gS, st_25_m1 gS, st_26_m2 gS, st_26_m1 gS]; first | done | rfl | omega)) rfl rfl ?_
    try simp (disch := omega) only [up2_ne, up2_eq, h5, st_12_m1 gS, st_12_0 gS, st_12_1 gS, st_25_m2 gS, st_25_m1 gS, st_26_m2 gS, st_26_m1 gS]
    refine wp_iconst dX4_addReader_34 ?_
    refine wp_iadd dX4_addReader_35 ?_
    refine wp_putfield1 (z := 5) (kI := 5) fX4_27 dX4_addReader_36 (by first | omega | (simp (disch := omega) only [up2_ne, up2_eq, h5, st_12_m1 gS, st_12_0 gS, st_12_1 gS, st_25_m2 gS, st_25_m1 gS, st_26_m2 gS, st_26_m1 gS]; first | done | omega)) (by first | assumption | (simp (disch := omega) only [up2_ne, up2_eq, h5, st_12_m1 gS, st_12_0 gS, st_12_1 gS, st_25_m2 gS, st_25_m1 gS, st_26_m2 gS, st_26_m1 gS]; first | done | rfl | omega)) rfl rfl ?_
    refine wp_vret dX4_addReader_39 rfl ?_
    first | exact hQ | (exfalso; omega)
theorem s_X4_addAsking {u : gT} {g : mH} {d b : Nat} {n k ob : Int} (gS : St g) (h6 : g 12 6 = n) (n0 : 0 ≤ n) (n1 : n < 14) : Det (gX (gq u)) MX4_addAsking d b [(2, 12), (0, k), (0, ob)] g (9, 0) (up2 (up2 (up2 (up2 g 27 n k) 28 n ob) 29 n 0) 12 6 (n + 1)) := by
  intro Q hQ
  show WP (gX (gq u)) MX4_addAsking d b Q 0 [(2, 12), (0, k), (0, ob)] [] g
  refine wp_aload_n rfl rfl dX4_addAsking_0 ?_
  refine wp_getfield1 (z := 5) (kI := 6) fX4_31 dX4_addAsking_1 (by first | omega | (simp (disch := omega) only [up2_ne, up2_eq, h6, st_12_m1 gS, st_12_2 gS, st_12_3 gS, st_12_4 gS, st_27_m2 gS, st_27_m1 gS, st_28_m2 gS, st_28_m1 gS, st_29_m2 gS, st_29_m1 gS]; first | done | omega)) (by first | assumption | (simp (disch := omega) only [up2_ne, up2_eq, h6, st_12_m1 gS, st_12_2 gS, st_12_3 gS, st_12_4 gS, st_27_m2 gS, st_27_m1 gS, st_28_m2 gS, st_28_m1 gS, st_29_m2 gS, st_29_m1 gS]; first | done | rfl | omega)) rfl rfl ?_
  try simp (disch := omega) only [up2_ne, up2_eq, h6, st_12_m1 gS, st_12_2 gS, st_12_3 gS, st_12_4 gS, st_27_m2 gS, st_27_m1 gS, st_28_m2 gS, st_28_m1 gS, st_29_m2 gS, st_29_m1 gS]
  refine wp_bipush (by decide) dX4_addAsking_4 ?_
  refine wp_icmp_ge (tgt := 49) (by first | assumption | exact bI_in _ | exact ⟨by omega, by omega⟩ | exact iAnd_in | exact iOr_in | exact iShr_in | exact iShl_in | exact iXor_in | exact hxs _) (by first | assumption | exact bI_in _ | exact ⟨by omega, by omega⟩ | exact iAnd_in | exact iOr_in | exact iShr_in | exact iShl_in | exact iXor_in | exact hxs _) dX4_addAsking_6 (by decide) (fun c1 => ?_) (fun c1 => ?_)
  · refine wp_vret dX4_addAsking_49 rfl ?_
    first | exact hQ | (exfalso; omega)
  · refine wp_aload_n rfl rfl dX4_addAsking_9 ?_
    refine wp_getfield1 (z := 5) (kI := 2) fX4_18 dX4_addAsking_10 (by first | omega | (simp (disch := omega) only [up2_ne, up2_eq, h6, st_12_m1 gS, st_12_2 gS, st_12_3 gS, st_12_4 gS, st_27_m2 gS, st_27_m1 gS, st_28_m2 gS, st_28_m1 gS, st_29_m2 gS, st_29_m1 gS]; first | done | omega)) (by first | assumption | (simp (disch := omega) only [up2_ne, up2_eq, h6, st_12_m1 gS, st_12_2 gS, st_12_3 gS, st_12_4 gS, st_27_m2 gS, st_27_m1 gS, st_28_m2 gS, st_28_m1 gS, st_29_m2 gS, st_29_m1 gS]; first | done | rfl | omega)) rfl rfl ?_
    try simp (disch := omega) only [up2_ne, up2_eq, h6, st_12_m1 gS, st_12_2 gS, st_12_3 gS, st_12_4 gS, st_27_m2 gS, st_27_m1 gS, st_28_m2 gS, st_28_m1 gS, st_29_m2 gS, st_29_m1 gS]
    refine wp_aload_n rfl rfl dX4_addAsking_13 ?_
    refine wp_getfield1 (z := 5) (kI := 6) fX4_31 dX4_addAsking_14 (by first | omega | (simp (disch := omega) only [up2_ne, up2_eq, h6, st_12_m1 gS, st_12_2 gS, st_12_3 gS, st_12_4 gS, st_27_m2 gS, st_27_m1 gS, st_28_m2 gS, st_28_m1 gS, st_29_m2 gS, st_29_m1 gS]; first | done | omega)) (by first | assumption | (simp (disch := omega) only [up2_ne, up2_eq, h6, st_12_m1 gS, st_12_2 gS, st_12_3 gS, st_12_4 gS, st_27_m2 gS, st_27_m1 gS, st_28_m2 gS, st_28_m1 gS, st_29_m2 gS, st_29_m1 gS]; first | done | rfl | omega)) rfl rfl ?_
    try simp (disch := omega) only [up2_ne, up2_eq, h6, st_12_m1 gS, st_12_2 gS, st_12_3 gS, st_12_4 gS, st_27_m2 gS, st_27_m1 gS, st_28_m2 gS, st_28_m1 gS, st_29_m2 gS, st_29_m1 gS]
    refine wp_iload_n rfl rfl dX4_addAsking_17 ?_
    refine wp_iastore1 dX4_addAsking_18 (by first | omega | (simp (disch := omega) only [up2_ne, up2_eq, h6, st_12_m1 gS, st_12_2 gS, st_12_3 gS, st_12_4 gS, st_27_m2 gS, st_27_m1 gS, st_28_m2 gS, st_28_m1 gS, st_29_m2 gS, st_29_m1 gS]; first | done | omega)) (by first | assumption | (simp (disch := omega) only [up2_ne, up2_eq, h6, st_12_m1 gS, st_12_2 gS, st_12_3 gS, st_12_4 gS, st_27_m2 gS, st_27_m1 gS, st_28_m2 gS, st_28_m1 gS, st_29_m2 gS, st_29_m1 gS]; first | done | rfl | omega)) (by first | omega | (simp (disch := omega) only [up2_ne, up2_eq, h6, st_12_m1 gS, st_12_2 gS, st_12_3 gS, st_12_4 gS, st_27_m2 gS, st_27_m1 gS, st_28_m2 gS, st_28_m1 gS, st_29_m2 gS, st_29_m1 gS]; first | done | omega)) (by first | omega | (simp (disch := omega) only [up2_ne, up2_eq, h6, st_12_m1 gS, st_12_2 gS, st_12_3 gS, st_12_4 gS, st_27_m2 gS, st_27_m1 gS, st_28_m2 gS, st_28_m1 gS, st_29_m2 gS, st_29_m1 gS]; first | done | omega)) ?_
    refine wp_aload_n rfl rfl dX4_addAsking_19 ?_
    refine wp_getfield1 (z := 5) (kI := 3) fX4_21 dX4_addAsking_20 (by first | omega | (simp (disch := omega) only [up2_ne, up2_eq, h6, st_12_m1 gS, st_12_2 gS, st_12_3 gS, st_12_4 gS, st_27_m2 gS, st_27_m1 gS, st_28_m2 gS, st_28_m1 gS, st_29_m2 gS, st_29_m1 gS]; first | done | omega)) (by first | assumption | (simp (disch := omega) only [up2_ne, up2_eq, h6, st_12_m1 gS, st_12_2 gS, st_12_3 gS, st_12_4 gS, st_27_m2 gS, st_27_m1 gS, st_28_m2 gS, st_28_m1 gS, st_29_m2 gS, st_29_m1 gS]; first | done | rfl | omega)) rfl rfl ?_
    try simp (disch := omega) only [up2_ne, up2_eq, h6, st_12_m1 gS, st_12_2 gS, st_12_3 gS, st_12_4 gS, st_27_m2 gS, st_27_m1 gS, st_28_m2 gS, st_28_m1 gS, st_29_m2 gS, st_29_m1 gS]
    refine wp_aload_n rfl rfl dX4_addAsking_23 ?_
    refine wp_getfield1 (z := 5) (kI := 6) fX4_31 dX4_addAsking_24 (by first | omega | (simp (disch := omega) only [up2_ne, up2_eq, h6, st_12_m1 gS, st_12_2 gS, st_12_3 gS, st_12_4 gS, st_27_m2 gS, st_27_m1 gS, st_28_m2 gS, st_28_m1 gS, st_29_m2 gS, st_29_m1 gS]; first | done | omega)) (by first | assumption | (simp (disch := omega) only [up2_ne, up2_eq, h6, st_12_m1 gS, st_12_2 gS, st_12_3 gS, st_12_4 gS, st_27_m2 gS, st_27_m1 gS, st_28_m2 gS, st_28_m1 gS, st_29_m2 gS, st_29_m1 gS]; first | done | rfl | omega)) rfl rfl ?_
    try simp (disch := omega) only [up2_ne, up2_eq, h6, st_12_m1 gS, st_12_2 gS, st_12_3 gS, st_12_4 gS, st_27_m2 gS, st_27_m1 gS, st_28_m2 gS, st_28_m1 gS, st_29_m2 gS, st_29_m1 gS]
    refine wp_iload_n rfl rfl dX4_addAsking_27 ?_
    refine wp_iastore1 dX4_addAsking_28 (by first | omega | (simp (disch := omega) only [up2_ne, up2_eq, h6, st_12_m1 gS, st_12_2 gS, st_12_3 gS, st_12_4 gS, st_27_m2 gS, st_27_m1 gS, st_28_m2 gS, st_28_m1 gS, st_29_m2 gS, st_29_m1 gS]; first | done | omega)) (by first | assumption | (simp (disch := omega) only [up2_ne, up2_eq, h6, st_12_m1 gS, st_12_2 gS, st_12_3 gS, st_12_4 gS, st_27_m2 gS, st_27_m1 gS, st_28_m2 gS, st_28_m1 gS, st_29_m2 gS, st_29_m1 gS]; first | done | rfl | omega)) (by first | omega | (simp (disch := omega) only [up2_ne, up2_eq, h6, st_12_m1 gS, st_12_2 gS, st_12_3 gS, st_12_4 gS, st_27_m2 gS, st_27_m1 gS, st_28_m2 gS, st_28_m1 gS, st_29_m2 gS, st_29_m1 gS]; first | done | omega)) (by first | omega | (simp (disch := omega) only [up2_ne, up2_eq, h6, st_12_m1 gS, st_12_2 gS, st_12_3 gS, st_12_4 gS, st_27_m2 gS, st_27_m1 gS, st_28_m2 gS, st_28_m1 gS, st_29_m2 gS, st_29_m1 gS]; first | done | omega)) ?_
    refine wp_aload_n rfl rfl dX4_addAsking_29 ?_
    refine wp_getfield1 (z := 5) (kI := 4) fX4_24 dX4_addAsking_30 (by first | omega | (simp (disch := omega) only [up2_ne, up2_eq, h6, st_12_m1 gS, st_12_2 gS, st_12_3 gS, st_12_4 gS, st_27_m2 gS, st_27_m1 gS, st_28_m2 gS, st_28_m1 gS, st_29_m2 gS, st_29_m1 gS]; first | done | omega)) (by first | assumption | (simp (disch := omega) only [up2_ne, up2_eq, h6, st_12_m1 gS, st_12_2 gS, st_12_3 gS, st_12_4 gS, st_27_m2 gS, st_27_m1 gS, st_28_m2 gS, st_28_m1 gS, st_29_m2 gS, st_29_m1 gS]; first | done | rfl | omega)) rfl rfl ?_
    try simp (disch := omega) only [up2_ne, up2_eq, h6, st_12_m1 gS, st_12_2 gS, st_12_3 gS, st_12_4 gS, st_27_m2 gS, st_27_m1 gS, st_28_m2 gS, st_28_m1 gS, st_29_m2 gS, st_29_m1 gS]
    refine wp_aload_n rfl rfl dX4_addAsking_33 ?_
    refine wp_getfield1 (z := 5) (kI := 6) fX4_31 dX4_addAsking_34 (by first | omega | (simp (disch := omega) only [up2_ne, up2_eq, h6, st_12_m1 gS, st_12_2 gS, st_12_3 gS, st_12_4 gS, st_27_m2 gS, st_27_m1 gS, st_28_m2 gS, st_28_m1 gS, st_29_m2 gS, st_29_m1 gS]; first | done | omega)) (by first | assumption | (simp (disch := omega) only [up2_ne, up2_eq, h6, st_12_m1 gS, st_12_2 gS, st_12_3 gS, st_12_4 gS, st_27_m2 gS, st_27_m1 gS, st_28_m2 gS, st_28_m1 gS, st_29_m2 gS, st_29_m1 gS]; first | done | rfl | omega)) rfl rfl ?_
    try simp (disch := omega) only [up2_ne, up2_eq, h6, st_12_m1 gS, st_12_2 gS, st_12_3 gS, st_12_4 gS, st_27_m2 gS, st_27_m1 gS, st_28_m2 gS, st_28_m1 gS, st_29_m2 gS, st_29_m1 gS]
    refine wp_iconst dX4_addAsking_37 ?_
    refine wp_iastore1 dX4_addAsking_38 (by first | omega | (simp (disch := omega) only [up2_ne, up2_eq, h6, st_12_m1 gS, st_12_2 gS, st_12_3 gS, st_12_4 gS, st_27_m2 gS, st_27_m1 gS, st_28_m2 gS, st_28_m1 gS, st_29_m2 gS, st_29_m1 gS]; first | done | omega)) (by first | assumption | (simp (disch := omega) only [up2_ne, up2_eq, h6, st_12_m1 gS, st_12_2 gS, st_12_3 gS, st_12_4 gS, st_27_m2 gS, st_27_m1 gS, st_28_m2 gS, st_28_m1 gS, st_29_m2 gS, st_29_m1 gS]; first | done | rfl | omega)) (by first | omega | (simp (disch := omega) only [up2_ne, up2_eq, h6, st_12_m1 gS, st_12_2 gS, st_12_3 gS, st_12_4 gS, st_27_m2 gS, st_27_m1 gS, st_28_m2 gS, st_28_m1 gS, st_29_m2 gS, st_29_m1 gS]; first | done | omega)) (by first | omega | (simp (disch := omega) only [up2_ne, up2_eq, h6, st_12_m1 gS, st_12_2 gS, st_12_3 gS, st_12_4 gS, st_27_m2 gS, st_27_m1 gS, st_28_m2 gS, st_28_m1 gS, st_29_m2 gS, st_29_m1 gS]; first | done | omega)) ?_
    refine wp_aload_n rfl rfl dX4_addAsking_39 ?_
    refine wp_dup (by decide) dX4_addAsking_40 ?_
    refine wp_getfield1 (z := 5) (kI := 6) fX4_31 dX4_addAsking_41 (by first | omega | (simp (disch := omega) only [up2_ne, up2_eq, h6, st_12_m1 gS, st_12_2 gS, st_12_3 gS, st_12_4 gS, st_27_m2 gS, st_27_m1 gS, st_28_m2 gS, st_28_m1 gS, st_29_m2 gS, st_29_m1 gS]; first | done | omega)) (by first | assumption | (simp (disch := omega) only [up2_ne, up2_eq, h6, st_12_m1 gS, st_12_2 gS, st_12_3 gS, st_12_4 gS, st_27_m2 gS, st_27_m1 gS, st_28_m2 gS, st_28_m1 gS, st_29_m2 gS, st_29_m1 gS]; first | done | rfl | omega)) rfl rfl ?_
    try simp (disch := omega) only [up2_ne, up2_eq, h6, st_12_m1 gS, st_12_2 gS, st_12_3 gS, st_12_4 gS, st_27_m2 gS, st_27_m1 gS, st_28_m2 gS, st_28_m1 gS, st_29_m2 gS, st_29_m1 gS]
    refine wp_iconst dX4_addAsking_44 ?_
    refine wp_iadd dX4_addAsking_45 ?_
    refine wp_putfield1 (z := 5) (kI := 6) fX4_31 dX4_addAsking_46 (by first | omega | (simp (disch := omega) only [up2_ne, up2_eq, h6, st_12_m1 gS, st_12_2 gS, st_12_3 gS, st_12_4 gS, st_27_m2 gS, st_27_m1 gS, st_28_m2 gS, st_28_m1 gS, st_29_m2 gS, st_29_m1 gS]; first | done | omega)) (by first | assumption | (simp (disch := omega) only [up2_ne, up2_eq, h6, st_12_m1 gS, st_12_2 gS, st_12_3 gS, st_12_4 gS, st_27_m2 gS, st_27_m1 gS, st_28_m2 gS, st_28_m1 gS, st_29_m2 gS, st_29_m1 gS]; first | done | rfl | omega)) rfl rfl ?_
    refine wp_vret dX4_addAsking_49 rfl ?_
    first | exact hQ | (exfalso; omega)
