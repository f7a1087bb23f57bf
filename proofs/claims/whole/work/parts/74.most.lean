/-! ===== places: the class ===== -/
theorem pG_feas {m g : mH} (R8 : m 200 6 ≤ 8) (G : pG m g) {c : Int → Int} (h : ∀ a : Int, 0 ≤ a → a < m 200 10 → degP m (MH g) a = c a) : Feas m c := ⟨MH g, pG_vld R8 G, pG_lok G, h⟩
theorem clo_cut {m g h1 : mH} {x : Int} {X : Int → Bool} (R8 : m 200 6 ≤ 8) (G : pG m g) (x0 : 0 ≤ x) (x1 : x < m 200 10) (z : g 12 7 = 0) (xa : X x = true) (c : clo m (MH g) g h1 X) : ¬ Feas m (inc (degP m (MH g)) x) := by
  have ns : ∀ r : Int, 0 ≤ r → r < 8 → ¬ sn g r := fun r r0 r1 q => by
    have q2 : bt (g 12 7) r = 1 := q
    rw [z, bt_z r0 (by omega)] at q2
    omega
  refine cut X (fun r => decide (sn h1 r)) (pG_vld R8 G) x0 x1 xa (fun y r y0 y1 r0 r1 q1 q2 o => ?_) (fun r r0 r1 q => ?_) (fun y r y0 y1 r0 r1 q1 q2 => ?_)
  · rcases c.1 y r y0 y1 r0 r1 q1 o with w | w
    · exact absurd w (of_decide_eq_false q2)
    · exact w
  · exact (c.2 r r0 r1 (of_decide_eq_true q) (ns r r0 (by omega))).1
  · exact (c.2 r r0 r1 (of_decide_eq_true q1) (ns r r0 (by omega))).2 y y0 y1 q2
def mI (m g : mH) (c : Int → Int) : Prop := pG m g ∧ (∀ a : Int, 0 ≤ a → a < m 200 10 → g 27 a = needM (m 211 a)) ∧ (∀ a : Int, 0 ≤ a → a < m 200 10 → degP m (MH g) a = c a)
def mJ (m g : mH) (c : Int → Int) : Prop := St g ∧ mI m (up2 g 12 7 0) c
theorem mJ_of {m g : mH} {c : Int → Int} (I : mI m g c) : mJ m g c := by
  have G := I.1
  have K : Ks g (up2 g 12 7 0) := fun y z q => up2_ne (by omega)
  refine ⟨G.1, pG_sn G (G.1.up (by decide +kernel)) K (by rw [up2_eq]; decide) (by rw [up2_eq]; decide) (fun r r0 r1 q => by rw [up2_eq, bt_z r0 (by omega)] at q; omega), fun a a0 a1 => ?_, fun a a0 a1 => ?_⟩
  · rw [up2_ne (by omega)]
    exact I.2.1 a a0 a1
  · rw [MH_Ks K]
    exact I.2.2 a a0 a1
theorem inc_cg {c c' : Int → Int} {x : Int} {N : Int} (e : ∀ a : Int, 0 ≤ a → a < N → c a = c' a) : ∀ a : Int, 0 ≤ a → a < N → inc c x a = inc c' x a := fun a a0 a1 => by
  unfold inc
  rw [e a a0 a1]
set_option maxHeartbeats 1000000 in
theorem s_X4_mostPairs {u : gT} {m g : mH} {d b : Nat} (R0 : 0 ≤ m 200 6 ∧ m 200 6 ≤ 8) (A0 : 0 ≤ m 200 10 ∧ m 200 10 ≤ 14) (L6 : ∀ r : Int, 0 ≤ r → r < m 200 6 → 1 ≤ m 209 r ∧ m 209 r ≤ 6) (I : mJ m g (gPr m 0)) : Rlt (gX (gq u)) MX4_mostPairs (d + 20) b [(2, 12)] g (fun r h1 => r = (0, sm (gPr m (m 200 10).toNat) (m 200 10).toNat) ∧ St h1 ∧ Kp g h1) := by
  refine Rlt.of ?_
  have loop : ∀ n : Nat, n ≤ (m 200 10).toNat → ∀ g1, Kp g g1 → mJ m g1 (gPr m n) → WP (gX (gq u)) MX4_mostPairs (d + 20) b (fun r h1 => r = (0, sm (gPr m (m 200 10).toNat) (m 200 10).toNat) ∧ St h1 ∧ Kp g h1) 4 [(2, 12), (0, sm (gPr m n) (m 200 10).toNat), (0, (n : Int)), (9, 0)] [] g1 := by
    refine loop_w (m 200 10).toNat (fun n hn2 ih => ?_)
    have hst : gPr m (n + 1) = gTr m (gPr m n) n (needM (m 211 n)).toNat := rfl
    rw [hst] at ih
    have hnb := needM_b (k := m 211 n)
    have inner : (n : Int) < m 200 10 → ∀ k : Nat, k ≤ (needM (m 211 n)).toNat → ∀ g1, Kp g g1 → mJ m g1 (gTr m (gPr m n) n k) → WP (gX (gq u)) MX4_mostPairs (d + 20) b (fun r h1 => r = (0, sm (gPr m (m 200 10).toNat) (m 200 10).toNat) ∧ St h1 ∧ Kp g h1) 14 [(2, 12), (0, sm (gTr m (gPr m n) n k) (m 200 10).toNat), (0, (n : Int)), (0, (k : Int))] [] g1 := by
      intro hnA
      refine loop_w (needM (m 211 n)).toNat (fun k hk2 ihk => ?_)
      intro g1 K1 I
      have gS := I.1
      have G2 := I.2.1
      have g6 : g1 12 6 = m 200 10 := by have := G2.2.2.1; rw [up2_ne (by omega)] at this; exact this
      have g27 : g1 27 n = needM (m 211 n) := by have := I.2.2.1 n (by omega) (by omega); rw [up2_ne (by omega)] at this; exact this
      have hN2 := snN_8 G2.2.2.2.2.2.1 G2.2.2.2.2.2.2.1
      refine wp_iload_n rfl rfl dX4_mostPairs_14 ?_
      refine wp_aload_n rfl rfl dX4_mostPairs_15 ?_
      refine wp_getfield1 (z := 5) (kI := 2) fX4_18 dX4_mostPairs_16 (by first | omega | (simp (disch := omega) only [up2_ne, up2_eq, g6, g27, st_12_m1 gS, st_12_2 gS, st_27_m2 gS, st_27_m1 gS]; first | done | omega)) (by first | assumption | (simp (disch := omega) only [up2_ne, up2_eq, g6, g27, st_12_m1 gS, st_12_2 gS, st_27_m2 gS, st_27_m1 gS]; first | done | rfl | omega)) rfl rfl ?_
      try simp (disch := omega) only [up2_ne, up2_eq, g6, g27, st_12_m1 gS, st_12_2 gS, st_27_m2 gS, st_27_m1 gS]
      refine wp_iload_n rfl rfl dX4_mostPairs_19 ?_
      refine wp_iaload1 dX4_mostPairs_20 (by first | omega | (simp (disch := omega) only [up2_ne, up2_eq, g6, g27, st_12_m1 gS, st_12_2 gS, st_27_m2 gS, st_27_m1 gS]; first | done | omega)) (by first | assumption | (simp (disch := omega) only [up2_ne, up2_eq, g6, g27, st_12_m1 gS, st_12_2 gS, st_27_m2 gS, st_27_m1 gS]; first | done | rfl | omega)) (by first | omega | (simp (disch := omega) only [up2_ne, up2_eq, g6, g27, st_12_m1 gS, st_12_2 gS, st_27_m2 gS, st_27_m1 gS]; first | done | omega)) (by first | omega | (simp (disch := omega) only [up2_ne, up2_eq, g6, g27, st_12_m1 gS, st_12_2 gS, st_27_m2 gS, st_27_m1 gS]; first | done | omega)) ?_
      try simp (disch := omega) only [up2_ne, up2_eq, g6, g27, st_12_m1 gS, st_12_2 gS, st_27_m2 gS, st_27_m1 gS]
      refine wp_icmp_ge (tgt := 47) (by first | assumption | exact bI_in _ | exact ⟨by omega, by omega⟩ | exact iAnd_in | exact iOr_in | exact iShr_in | exact iShl_in | exact iXor_in | exact hxs _) (by first | assumption | exact bI_in _ | exact ⟨by omega, by omega⟩ | exact iAnd_in | exact iOr_in | exact iShr_in | exact iShl_in | exact iXor_in | exact hxs _) dX4_mostPairs_21 (by decide) (fun c1 => ?_) (fun c1 => ?_)
      · refine wp_iinc rfl rfl dX4_mostPairs_47 rfl rfl ?_
        try simp only [List.set_cons_zero, List.set_cons_succ]
        refine wp_goto (tgt := 4) dX4_mostPairs_50 (by decide) ?_
        have ek : k = (needM (m 211 n)).toNat := by omega
        subst ek
        refine wp_dropAt 3 rfl ?_
        exact ih (by omega) g1 K1 I
      · refine wp_aload_n rfl rfl dX4_mostPairs_24 ?_
        refine wp_iconst dX4_mostPairs_25 ?_
        refine wp_putfield1 (z := 5) (kI := 7) fX4_34 dX4_mostPairs_26 (by first | omega | (simp (disch := omega) only [up2_ne, up2_eq, g6, g27, st_12_m1 gS, st_12_2 gS, st_27_m2 gS, st_27_m1 gS]; first | done | omega)) (by first | assumption | (simp (disch := omega) only [up2_ne, up2_eq, g6, g27, st_12_m1 gS, st_12_2 gS, st_27_m2 gS, st_27_m1 gS]; first | done | rfl | omega)) rfl rfl ?_
        refine wp_aload_n rfl rfl dX4_mostPairs_29 ?_
        refine wp_iload_n rfl rfl dX4_mostPairs_30 ?_
        refine wp_iconst dX4_mostPairs_31 ?_
        refine wp_cV2r (ci := 4) okX4_gains rfl rfl wX4_37 dX4_mostPairs_32 (Nat.le_of_ble_eq_true rfl) (Nat.le_of_ble_eq_true rfl) (by first | omega | (simp (disch := omega) only [up2_ne, up2_eq, g6, g27, st_12_m1 gS, st_12_2 gS, st_27_m2 gS, st_27_m1 gS]; first | done | omega)) (by first | assumption | (simp (disch := omega) only [up2_ne, up2_eq, g6, g27, st_12_m1 gS, st_12_2 gS, st_27_m2 gS, st_27_m1 gS]; first | done | rfl | omega)) (gains_all (d := d) R0 A0 L6 9 0 (by decide) (by decide) 0 (up2 g1 12 7 0) n G2 (by omega) (by omega) hN2.1) (Nat.zero_le _) ?_
        rintro r h1 ⟨H1, KP, M3, (⟨rfl, dg, cl⟩ | ⟨rfl, KS, Y, yn, yc⟩)⟩ -
        · show WP _ _ _ _ _ _ _ ((0, 1) :: _) _
          refine wp_if_eq (tgt := 41) (by first | assumption | exact bI_in _ | exact ⟨by omega, by omega⟩ | exact iAnd_in | exact iOr_in | exact iShr_in | exact iShl_in | exact iXor_in | exact hxs _) dX4_mostPairs_35 (by decide) (fun hx => absurd hx (by decide)) (fun hx => ?_)
          refine wp_iinc rfl rfl dX4_mostPairs_38 rfl rfl ?_
          try simp only [List.set_cons_zero, List.set_cons_succ]
          refine wp_iinc rfl rfl dX4_mostPairs_41 rfl rfl ?_
          try simp only [List.set_cons_zero, List.set_cons_succ]
          refine wp_goto (tgt := 14) dX4_mostPairs_44 (by decide) ?_
          have hcd : ∀ a : Int, 0 ≤ a → a < m 200 10 → degP m (MH (up2 g1 12 7 0)) a = gTr m (gPr m n) n k a := I.2.2.2
          have K3 : Kp g h1 := fun y z q1 q2 => by rw [KP y z q1 q2, up2_ne (by omega)]; exact K1 y z q1 q2
          have n27 : ∀ a : Int, 0 ≤ a → a < m 200 10 → h1 27 a = needM (m 211 a) := fun a a0 a1 => by rw [KP _ _ (by omega) (by omega)]; exact I.2.2.1 a a0 a1
          first
            | (have hde : ∀ a : Int, 0 ≤ a → a < m 200 10 → degP m (MH h1) a = inc (gTr m (gPr m n) n k) n a := fun a a0 a1 => by rw [dg a a0 a1]; exact inc_cg hcd a a0 a1
               have hf : Feas m (inc (gTr m (gPr m n) n k) n) := pG_feas (by omega) H1 hde
               have z := ihk (by omega) h1 K3 (mJ_of ⟨H1, n27, fun a a0 a1 => by rw [gTr_t hf]; exact hde a a0 a1⟩)
               rw [gTr_t hf, sm_inc (by omega) (by omega)] at z
               exact z)
            | (have hf : ¬ Feas m (inc (gTr m (gPr m n) n k) n) := fun q => clo_cut (by omega) G2 (by omega) (by omega) up2_eq yn yc (Feas_cg (inc_cg (fun a a0 a1 => (hcd a a0 a1).symm)) q)
               have z := ihk (by omega) h1 K3 (mJ_of ⟨H1, n27, fun a a0 a1 => by rw [gTr_f hf, MH_Ks KS]; exact hcd a a0 a1⟩)
               rw [gTr_f hf] at z
               exact z)
        · show WP _ _ _ _ _ _ _ ((0, 0) :: _) _
          refine wp_if_eq (tgt := 41) (by first | assumption | exact bI_in _ | exact ⟨by omega, by omega⟩ | exact iAnd_in | exact iOr_in | exact iShr_in | exact iShl_in | exact iXor_in | exact hxs _) dX4_mostPairs_35 (by decide) (fun hx => ?_) (fun hx => absurd hx (by decide))
          refine wp_iinc rfl rfl dX4_mostPairs_41 rfl rfl ?_
          try simp only [List.set_cons_zero, List.set_cons_succ]
          refine wp_goto (tgt := 14) dX4_mostPairs_44 (by decide) ?_
          have hcd : ∀ a : Int, 0 ≤ a → a < m 200 10 → degP m (MH (up2 g1 12 7 0)) a = gTr m (gPr m n) n k a := I.2.2.2
          have K3 : Kp g h1 := fun y z q1 q2 => by rw [KP y z q1 q2, up2_ne (by omega)]; exact K1 y z q1 q2
          have n27 : ∀ a : Int, 0 ≤ a → a < m 200 10 → h1 27 a = needM (m 211 a) := fun a a0 a1 => by rw [KP _ _ (by omega) (by omega)]; exact I.2.2.1 a a0 a1
          first
            | (have hde : ∀ a : Int, 0 ≤ a → a < m 200 10 → degP m (MH h1) a = inc (gTr m (gPr m n) n k) n a := fun a a0 a1 => by rw [dg a a0 a1]; exact inc_cg hcd a a0 a1
               have hf : Feas m (inc (gTr m (gPr m n) n k) n) := pG_feas (by omega) H1 hde
               have z := ihk (by omega) h1 K3 (mJ_of ⟨H1, n27, fun a a0 a1 => by rw [gTr_t hf]; exact hde a a0 a1⟩)
               rw [gTr_t hf, sm_inc (by omega) (by omega)] at z
               exact z)
            | (have hf : ¬ Feas m (inc (gTr m (gPr m n) n k) n) := fun q => clo_cut (by omega) G2 (by omega) (by omega) up2_eq yn yc (Feas_cg (inc_cg (fun a a0 a1 => (hcd a a0 a1).symm)) q)
               have z := ihk (by omega) h1 K3 (mJ_of ⟨H1, n27, fun a a0 a1 => by rw [gTr_f hf, MH_Ks KS]; exact hcd a a0 a1⟩)
               rw [gTr_f hf] at z
               exact z)
    intro g1 K1 I
    have gS := I.1
    have g6 : g1 12 6 = m 200 10 := by have := I.2.1.2.2.1; rw [up2_ne (by omega)] at this; exact this
    refine wp_iload_n rfl rfl dX4_mostPairs_4 ?_
    refine wp_aload_n rfl rfl dX4_mostPairs_5 ?_
    refine wp_getfield1 (z := 5) (kI := 6) fX4_31 dX4_mostPairs_6 (by first | omega | (simp (disch := omega) only [up2_ne, up2_eq, g6, st_12_m1 gS, st_12_2 gS, st_27_m2 gS, st_27_m1 gS]; first | done | omega)) (by first | assumption | (simp (disch := omega) only [up2_ne, up2_eq, g6, st_12_m1 gS, st_12_2 gS, st_27_m2 gS, st_27_m1 gS]; first | done | rfl | omega)) rfl rfl ?_
    try simp (disch := omega) only [up2_ne, up2_eq, g6, st_12_m1 gS, st_12_2 gS, st_27_m2 gS, st_27_m1 gS]
    refine wp_icmp_ge (tgt := 53) (by first | assumption | exact bI_in _ | exact ⟨by omega, by omega⟩ | exact iAnd_in | exact iOr_in | exact iShr_in | exact iShl_in | exact iXor_in | exact hxs _) (by first | assumption | exact bI_in _ | exact ⟨by omega, by omega⟩ | exact iAnd_in | exact iOr_in | exact iShr_in | exact iShl_in | exact iXor_in | exact hxs _) dX4_mostPairs_9 (by decide) (fun c2 => ?_) (fun c2 => ?_)
    · refine wp_iload_n rfl rfl dX4_mostPairs_53 ?_
      refine wp_iret dX4_mostPairs_54 rfl ?_
      have en : n = (m 200 10).toNat := by omega
      rw [← en]
      exact ⟨rfl, gS, K1⟩
    · refine wp_iconst dX4_mostPairs_12 ?_
      refine wp_istore_n rfl dX4_mostPairs_13 rfl (Nat.le_of_ble_eq_true rfl) rfl ?_
      try simp only [List.set_cons_zero, List.set_cons_succ]
      exact inner (by omega) 0 (by omega) g1 K1 I
  show WP (gX (gq u)) MX4_mostPairs (d + 20) b _ 0 [(2, 12), (9, 0), (9, 0), (9, 0)] [] g
  refine wp_iconst dX4_mostPairs_0 ?_
  refine wp_istore_n rfl dX4_mostPairs_1 rfl (Nat.le_of_ble_eq_true rfl) rfl ?_
  try simp only [List.set_cons_zero, List.set_cons_succ]
  refine wp_iconst dX4_mostPairs_2 ?_
  refine wp_istore_n rfl dX4_mostPairs_3 rfl (Nat.le_of_ble_eq_true rfl) rfl ?_
  try simp only [List.set_cons_zero, List.set_cons_succ]
  have l0 := loop 0 (by omega) g (fun _ _ _ _ => rfl) I
  rw [show sm (gPr m 0) (m 200 10).toNat = 0 from sm_zero _ (fun _ _ => rfl)] at l0
  exact l0
theorem s_X4_clear {u : gT} {g : mH} {d b : Nat} (gS : St g) : Det (gX (gq u)) MX4_clear d b [(2, 12)] g (9, 0) (up2 (up2 g 12 5 0) 12 6 0) := by
  intro Q hQ
  show WP (gX (gq u)) MX4_clear d b Q 0 [(2, 12)] [] g
  refine wp_aload_n rfl rfl dX4_clear_0 ?_
  refine wp_iconst dX4_clear_1 ?_
  refine wp_putfield1 (z := 5) (kI := 5) fX4_27 dX4_clear_2 (by first | omega | (simp (disch := omega) only [up2_ne, up2_eq, st_12_m1 gS]; first | done | omega)) (by first | assumption | (simp (disch := omega) only [up2_ne, up2_eq, st_12_m1 gS]; first | done | rfl | omega)) rfl rfl ?_
  refine wp_aload_n rfl rfl dX4_clear_5 ?_
  refine wp_iconst dX4_clear_6 ?_
  refine wp_putfield1 (z := 5) (kI := 6) fX4_31 dX4_clear_7 (by first | omega | (simp (disch := omega) only [up2_ne, up2_eq, st_12_m1 gS]; first | done | omega)) (by first | assumption | (simp (disch := omega) only [up2_ne, up2_eq, st_12_m1 gS]; first | done | rfl | omega)) rfl rfl ?_
  refine wp_vret dX4_clear_10 rfl ?_
  exact hQ
theorem s_X4_addReader {u : gT} {g : mH} {d b : Nat} {n l : Int} (gS : St g) (h5 : g 12 5 = n) (n0 : 0 ≤ n) (n1 : n < 8) : Det (gX (gq u)) MX4_addReader d b [(2, 12), (0, l)] g (9, 0) (up2 (up2 (up2 g 25 n l) 26 n 0) 12 5 (n + 1)) := by
  intro Q hQ
  show WP (gX (gq u)) MX4_addReader d b Q 0 [(2, 12), (0, l)] [] g
  refine wp_aload_n rfl rfl dX4_addReader_0 ?_
  refine wp_getfield1 (z := 5) (kI := 5) fX4_27 dX4_addReader_1 (by first | omega | (simp (disch := omega) only [up2_ne, up2_eq, h5, st_12_m1 gS, st_12_0 gS, st_12_1 gS, st_25_m2 gS, st_25_m1 gS, st_26_m2 gS, st_26_m1 gS]; first | done | omega)) (by first | assumption | (simp (disch := omega) only [up2_ne, up2_eq, h5, st_12_m1 gS, st_12_0 gS, st_12_1 gS, st_25_m2 gS, st_25_m1 gS, st_26_m2 gS, st_26_m1 gS]; first | done | rfl | omega)) rfl rfl ?_
  try simp (disch := omega) only [up2_ne, up2_eq, h5, st_12_m1 gS, st_12_0 gS, st_12_1 gS, st_25_m2 gS, st_25_m1 gS, st_26_m2 gS, st_26_m1 gS]
  refine wp_bipush (by decide) dX4_addReader_4 ?_
  refine wp_icmp_ge (tgt := 39) (by first | assumption | exact bI_in _ | exact ⟨by omega, by omega⟩ | exact iAnd_in | exact iOr_in | exact iShr_in | exact iShl_in | exact iXor_in | exact hxs _) (by first | assumption | exact bI_in _ | exact ⟨by omega, by omega⟩ | exact iAnd_in | exact iOr_in | exact iShr_in | exact iShl_in | exact iXor_in | exact hxs _) dX4_addReader_6 (by decide) (fun c1 => ?_) (fun c1 => ?_)
  · refine wp_vret dX4_addReader_39 rfl ?_
    first | exact hQ | (exfalso; omega)
  · refine wp_aload_n rfl rfl dX4_addReader_9 ?_
    refine wp_getfield1 (z := 5) (kI := 0) fX4_9 dX4_addReader_10 (by first | omega | (simp (disch := omega) only [up2_ne, up2_eq, h5, st_12_m1 gS, st_12_0 gS, st_12_1 gS, st_25_m2 gS, st_25_m1 gS, st_26_m2 gS, st_26_m1 gS]; first | done | omega)) (by first | assumption | (simp (disch := omega) only [up2_ne, up2_eq, h5, st_12_m1 gS, st_12_0 gS, st_12_1 gS, st_25_m2 gS, st_25_m1 gS, st_26_m2 gS, st_26_m1 gS]; first | done | rfl | omega)) rfl rfl ?_
    try simp (disch := omega) only [up2_ne, up2_eq, h5, st_12_m1 gS, st_12_0 gS, st_12_1 gS, st_25_m2 gS, st_25_m1 gS, st_26_m2 gS, st_26_m1 gS]
    refine wp_aload_n rfl rfl dX4_addReader_13 ?_
    refine wp_getfield1 (z := 5) (kI := 5) fX4_27 dX4_addReader_14 (by first | omega | (simp (disch := omega) only [up2_ne, up2_eq, h5, st_12_m1 gS, st_12_0 gS, st_12_1 gS, st_25_m2 gS, st_25_m1 gS, st_26_m2 gS, st_26_m1 gS]; first | done | omega)) (by first | assumption | (simp (disch := omega) only [up2_ne, up2_eq, h5, st_12_m1 gS, st_12_0 gS, st_12_1 gS, st_25_m2 gS, st_25_m1 gS, st_26_m2 gS, st_26_m1 gS]; first | done | rfl | omega)) rfl rfl ?_
    try simp (disch := omega) only [up2_ne, up2_eq, h5, st_12_m1 gS, st_12_0 gS, st_12_1 gS, st_25_m2 gS, st_25_m1 gS, st_26_m2 gS, st_26_m1 gS]
    refine wp_iload_n rfl rfl dX4_addReader_17 ?_
    refine wp_iastore1 dX4_addReader_18 (by first | omega | (simp (disch := omega) only [up2_ne, up2_eq, h5, st_12_m1 gS, st_12_0 gS, st_12_1 gS, st_25_m2 gS, st_25_m1 gS, st_26_m2 gS, st_26_m1 gS]; first | done | omega)) (by first | assumption | (simp (disch := omega) only [up2_ne, up2_eq, h5, st_12_m1 gS, st_12_0 gS, st_12_1 gS, st_25_m2 gS, st_25_m1 gS, st_26_m2 gS, st_26_m1 gS]; first | done | rfl | omega)) (by first | omega | (simp (disch := omega) only [up2_ne, up2_eq, h5, st_12_m1 gS, st_12_0 gS, st_12_1 gS, st_25_m2 gS, st_25_m1 gS, st_26_m2 gS, st_26_m1 gS]; first | done | omega)) (by first | omega | (simp (disch := omega) only [up2_ne, up2_eq, h5, st_12_m1 gS, st_12_0 gS, st_12_1 gS, st_25_m2 gS, st_25_m1 gS, st_26_m2 gS, st_26_m1 gS]; first | done | omega)) ?_
    refine wp_aload_n rfl rfl dX4_addReader_19 ?_
    refine wp_getfield1 (z := 5) (kI := 1) fX4_15 dX4_addReader_20 (by first | omega | (simp (disch := omega) only [up2_ne, up2_eq, h5, st_12_m1 gS, st_12_0 gS, st_12_1 gS, st_25_m2 gS, st_25_m1 gS, st_26_m2 gS, st_26_m1 gS]; first | done | omega)) (by first | assumption | (simp (disch := omega) only [up2_ne, up2_eq, h5, st_12_m1 gS, st_12_0 gS, st_12_1 gS, st_25_m2 gS, st_25_m1 gS, st_26_m2 gS, st_26_m1 gS]; first | done | rfl | omega)) rfl rfl ?_
    try simp (disch := omega) only [up2_ne, up2_eq, h5, st_12_m1 gS, st_12_0 gS, st_12_1 gS, st_25_m2 gS, st_25_m1 gS, st_26_m2 gS, st_26_m1 gS]
    refine wp_aload_n rfl rfl dX4_addReader_23 ?_
    refine wp_getfield1 (z := 5) (kI := 5) fX4_27 dX4_addReader_24 (by first | omega | (simp (disch := omega) only [up2_ne, up2_eq, h5, st_12_m1 gS, st_12_0 gS, st_12_1 gS, st_25_m2 gS, st_25_m1 gS, st_26_m2 gS, st_26_m1 gS]; first | done | omega)) (by first | assumption | (simp (disch := omega) only [up2_ne, up2_eq, h5, st_12_m1 gS, st_12_0 gS, st_12_1 gS, st_25_m2 gS, st_25_m1 gS, st_26_m2 gS, st_26_m1 gS]; first | done | rfl | omega)) rfl rfl ?_
    try simp (disch := omega) only [up2_ne, up2_eq, h5, st_12_m1 gS, st_12_0 gS, st_12_1 gS, st_25_m2 gS, st_25_m1 gS, st_26_m2 gS, st_26_m1 gS]
    refine wp_iconst dX4_addReader_27 ?_
    refine wp_iastore1 dX4_addReader_28 (by first | omega | (simp (disch := omega) only [up2_ne, up2_eq, h5, st_12_m1 gS, st_12_0 gS, st_12_1 gS, st_25_m2 gS, st_25_m1 gS, st_26_m2 gS, st_26_m1 gS]; first | done | omega)) (by first | assumption | (simp (disch := omega) only [up2_ne, up2_eq, h5, st_12_m1 gS, st_12_0 gS, st_12_1 gS, st_25_m2 gS, st_25_m1 gS, st_26_m2 gS, st_26_m1 gS]; first | done | rfl | omega)) (by first | omega | (simp (disch := omega) only [up2_ne, up2_eq, h5, st_12_m1 gS, st_12_0 gS, st_12_1 gS, st_25_m2 gS, st_25_m1 gS, st_26_m2 gS, st_26_m1 gS]; first | done | omega)) (by first | omega | (simp (disch := omega) only [up2_ne, up2_eq, h5, st_12_m1 gS, st_12_0 gS, st_12_1 gS, st_25_m2 gS, st_25_m1 gS, st_26_m2 gS, st_26_m1 gS]; first | done | omega)) ?_
    refine wp_aload_n rfl rfl dX4_addReader_29 ?_
    refine wp_dup (by decide) dX4_addReader_30 ?_
    refine wp_getfield1 (z := 5) (kI := 5) fX4_27 dX4_addReader_31 (by first | omega | (simp (disch := omega) only [up2_ne, up2_eq, h5, st_12_m1 gS, st_12_0 gS, st_12_1 gS, st_25_m2 gS, st_25_m1 gS, st_26_m2 gS, st_26_m1 gS]; first | done | omega)) (by first | assumption | (simp (disch := omega) only [up2_ne, up2_eq, h5, st_12_m1 gS, st_12_0 gS, st_12_1 gS, st_25_m2 gS, st_25_m1 gS, st_26_m2 gS, st_26_m1 gS]; first | done | rfl | omega)) rfl rfl ?_
    try simp (disch := omega) only [up2_ne, up2_eq, h5, st_12_m1 gS, st_12_0 gS, st_12_1 gS, st_25_m2 gS, st_25_m1 gS, st_26_m2 gS, st_26_m1 gS]
    refine wp_iconst dX4_addReader_34 ?_
    refine wp_iadd dX4_addReader_35 ?_
    refine wp_putfield1 (z := 5) (kI := 5) fX4_27 dX4_addReader_36 (by first | omega | (simp (disch := omega) only [up2_ne, up2_eq, h5, st_12_m1 gS, st_12_0 gS, st_12_1 gS, st_25_m2 gS, st_25_m1 gS, st_26_m2 gS, st_26_m1 gS]; first | done | omega)) (by first | assumption | (simp (disch := omega) only [up2_ne, up2_eq, h5, st_12_m1 gS, st_12_0 gS, st_12_1 gS, st_25_m2 gS, st_25_m1 gS, st_26_m2 gS, st_26_m1 gS]; first | done | rfl | omega)) rfl rfl ?_
    refine wp_vret dX4_addReader_39 rfl ?_
    first | exact hQ | (exfalso; omega)
theorem s_X4_addAsking {u : gT} {g : mH} {d b : Nat} {n k ob : Int} (gS : St g) (h6 : g 12 6 = n) (n0 : 0 ≤ n) (n1 : n < 14) : Det (gX (gq u)) MX4_addAsking d b [(2, 12), (0, k), (0, ob)] g (9, 0) (up2 (up2 (up2 (up2 g 27 n k) 28 n ob) 29 n 0) 12 6 (n + 1)) := by
  intro Q hQ
  show WP (gX (gq u)) MX4_addAsking d b Q 0 [(2, 12), (0, k), (0, ob)] [] g
  refine wp_aload_n rfl rfl dX4_addAsking_0 ?_
  refine wp_getfield1 (z := 5) (kI := 6) fX4_31 dX4_addAsking_1 (by first | omega | (simp (disch := omega) only [up2_ne, up2_eq, h6, st_12_m1 gS, st_12_2 gS, st_12_3 gS, st_12_4 gS, st_27_m2 gS, st_27_m1 gS, st_28_m2 gS, st_28_m1 gS, st_29_m2 gS, st_29_m1 gS]; first | done | omega)) (by first | assumption | (simp (disch := omega) only [up2_ne, up2_eq, h6, st_12_m1 gS, st_12_2 gS, st_12_3 gS, st_12_4 gS, st_27_m2 gS, st_27_m1 gS, st_28_m2 gS, st_28_m1 gS, st_29_m2 gS, st_29_m1 gS]; first | done | rfl | omega)) rfl rfl ?_
  try simp (disch := omega) only [up2_ne, up2_eq, h6, st_12_m1 gS, st_12_2 gS, st_12_3 gS, st_12_4 gS, st_27_m2 gS, st_27_m1 gS, st_28_m2 gS, st_28_m1 gS, st_29_m2 gS, st_29_m1 gS]
  refine wp_bipush (by decide) dX4_addAsking_4 ?_
  refine wp_icmp_ge (tgt := 49) (by first | assumption | exact bI_in _ | exact ⟨by omega, by omega⟩ | exact iAnd_in | exact iOr_in | exact iShr_in | exact iShl_in | exact iXor_in | exact hxs _) (by first | assumption | exact bI_in _ | exact ⟨by omega, by omega⟩ | exact iAnd_in | exact iOr_in | exact iShr_in | exact iShl_in | exact iXor_in | exact hxs _) dX4_addAsking_6 (by decide) (fun c1 => ?_) (fun c1 => ?_)
  · refine wp_vret dX4_addAsking_49 rfl ?_
    first | exact hQ | (exfalso; omega)
  · refine wp_aload_n rfl rfl dX4_addAsking_9 ?_
    refine wp_getfield1 (z := 5) (kI := 2) fX4_18 dX4_addAsking_10 (by first | omega | (simp (disch := omega) only [up2_ne, up2_eq, h6, st_12_m1 gS, st_12_2 gS, st_12_3 gS, st_12_4 gS, st_27_m2 gS, st_27_m1 gS, st_28_m2 gS, st_28_m1 gS, st_29_m2 gS, st_29_m1 gS]; first | done | omega)) (by first | assumption | (simp (disch := omega) only [up2_ne, up2_eq, h6, st_12_m1 gS, st_12_2 gS, st_12_3 gS, st_12_4 gS, st_27_m2 gS, st_27_m1 gS, st_28_m2 gS, st_28_m1 gS, st_29_m2 gS, st_29_m1 gS]; first | done | rfl | omega)) rfl rfl ?_
    try simp (disch := omega) only [up2_ne, up2_eq, h6, st_12_m1 gS, st_12_2 gS, st_12_3 gS, st_12_4 gS, st_27_m2 gS, st_27_m1 gS, st_28_m2 gS, st_28_m1 gS, st_29_m2 gS, st_29_m1 gS]
    refine wp_aload_n rfl rfl dX4_addAsking_13 ?_
    refine wp_getfield1 (z := 5) (kI := 6) fX4_31 dX4_addAsking_14 (by first | omega | (simp (disch := omega) only [up2_ne, up2_eq, h6, st_12_m1 gS, st_12_2 gS, st_12_3 gS, st_12_4 gS, st_27_m2 gS, st_27_m1 gS, st_28_m2 gS, st_28_m1 gS, st_29_m2 gS, st_29_m1 gS]; first | done | omega)) (by first | assumption | (simp (disch := omega) only [up2_ne, up2_eq, h6, st_12_m1 gS, st_12_2 gS, st_12_3 gS, st_12_4 gS, st_27_m2 gS, st_27_m1 gS, st_28_m2 gS, st_28_m1 gS, st_29_m2 gS, st_29_m1 gS]; first | done | rfl | omega)) rfl rfl ?_
    try simp (disch := omega) only [up2_ne, up2_eq, h6, st_12_m1 gS, st_12_2 gS, st_12_3 gS, st_12_4 gS, st_27_m2 gS, st_27_m1 gS, st_28_m2 gS, st_28_m1 gS, st_29_m2 gS, st_29_m1 gS]
    refine wp_iload_n rfl rfl dX4_addAsking_17 ?_
    refine wp_iastore1 dX4_addAsking_18 (by first | omega | (simp (disch := omega) only [up2_ne, up2_eq, h6, st_12_m1 gS, st_12_2 gS, st_12_3 gS, st_12_4 gS, st_27_m2 gS, st_27_m1 gS, st_28_m2 gS, st_28_m1 gS, st_29_m2 gS, st_29_m1 gS]; first | done | omega)) (by first | assumption | (simp (disch := omega) only [up2_ne, up2_eq, h6, st_12_m1 gS, st_12_2 gS, st_12_3 gS, st_12_4 gS, st_27_m2 gS, st_27_m1 gS, st_28_m2 gS, st_28_m1 gS, st_29_m2 gS, st_29_m1 gS]; first | done | rfl | omega)) (by first | omega | (simp (disch := omega) only [up2_ne, up2_eq, h6, st_12_m1 gS, st_12_2 gS, st_12_3 gS, st_12_4 gS, st_27_m2 gS, st_27_m1 gS, st_28_m2 gS, st_28_m1 gS, st_29_m2 gS, st_29_m1 gS]; first | done | omega)) (by first | omega | (simp (disch := omega) only [up2_ne, up2_eq, h6, st_12_m1 gS, st_12_2 gS, st_12_3 gS, st_12_4 gS, st_27_m2 gS, st_27_m1 gS, st_28_m2 gS, st_28_m1 gS, st_29_m2 gS, st_29_m1 gS]; first | done | omega)) ?_
    refine wp_aload_n rfl rfl dX4_addAsking_19 ?_
    refine wp_getfield1 (z := 5) (kI := 3) fX4_21 dX4_addAsking_20 (by first | omega | (simp (disch := omega) only [up2_ne, up2_eq, h6, st_12_m1 gS, st_12_2 gS, st_12_3 gS, st_12_4 gS, st_27_m2 gS, st_27_m1 gS, st_28_m2 gS, st_28_m1 gS, st_29_m2 gS, st_29_m1 gS]; first | done | omega)) (by first | assumption | (simp (disch := omega) only [up2_ne, up2_eq, h6, st_12_m1 gS, st_12_2 gS, st_12_3 gS, st_12_4 gS, st_27_m2 gS, st_27_m1 gS, st_28_m2 gS, st_28_m1 gS, st_29_m2 gS, st_29_m1 gS]; first | done | rfl | omega)) rfl rfl ?_
    try simp (disch := omega) only [up2_ne, up2_eq, h6, st_12_m1 gS, st_12_2 gS, st_12_3 gS, st_12_4 gS, st_27_m2 gS, st_27_m1 gS, st_28_m2 gS, st_28_m1 gS, st_29_m2 gS, st_29_m1 gS]
    refine wp_aload_n rfl rfl dX4_addAsking_23 ?_
    refine wp_getfield1 (z := 5) (kI := 6) fX4_31 dX4_addAsking_24 (by first | omega | (simp (disch := omega) only [up2_ne, up2_eq, h6, st_12_m1 gS, st_12_2 gS, st_12_3 gS, st_12_4 gS, st_27_m2 gS, st_27_m1 gS, st_28_m2 gS, st_28_m1 gS, st_29_m2 gS, st_29_m1 gS]; first | done | omega)) (by first | assumption | (simp (disch := omega) only [up2_ne, up2_eq, h6, st_12_m1 gS, st_12_2 gS, st_12_3 gS, st_12_4 gS, st_27_m2 gS, st_27_m1 gS, st_28_m2 gS, st_28_m1 gS, st_29_m2 gS, st_29_m1 gS]; first | done | rfl | omega)) rfl rfl ?_
    try simp (disch := omega) only [up2_ne, up2_eq, h6, st_12_m1 gS, st_12_2 gS, st_12_3 gS, st_12_4 gS, st_27_m2 gS, st_27_m1 gS, st_28_m2 gS, st_28_m1 gS, st_29_m2 gS, st_29_m1 gS]
    refine wp_iload_n rfl rfl dX4_addAsking_27 ?_
    refine wp_iastore1 dX4_addAsking_28 (by first | omega | (simp (disch := omega) only [up2_ne, up2_eq, h6, st_12_m1 gS, st_12_2 gS, st_12_3 gS, st_12_4 gS, st_27_m2 gS, st_27_m1 gS, st_28_m2 gS, st_28_m1 gS, st_29_m2 gS, st_29_m1 gS]; first | done | omega)) (by first | assumption | (simp (disch := omega) only [up2_ne, up2_eq, h6, st_12_m1 gS, st_12_2 gS, st_12_3 gS, st_12_4 gS, st_27_m2 gS, st_27_m1 gS, st_28_m2 gS, st_28_m1 gS, st_29_m2 gS, st_29_m1 gS]; first | done | rfl | omega)) (by first | omega | (simp (disch := omega) only [up2_ne, up2_eq, h6, st_12_m1 gS, st_12_2 gS, st_12_3 gS, st_12_4 gS, st_27_m2 gS, st_27_m1 gS, st_28_m2 gS, st_28_m1 gS, st_29_m2 gS, st_29_m1 gS]; first | done | omega)) (by first | omega | (simp (disch := omega) only [up2_ne, up2_eq, h6, st_12_m1 gS, st_12_2 gS, st_12_3 gS, st_12_4 gS, st_27_m2 gS, st_27_m1 gS, st_28_m2 gS, st_28_m1 gS, st_29_m2 gS, st_29_m1 gS]; first | done | omega)) ?_
    refine wp_aload_n rfl rfl dX4_addAsking_29 ?_
    refine wp_getfield1 (z := 5) (kI := 4) fX4_24 dX4_addAsking_30 (by first | omega | (simp (disch := omega) only [up2_ne, up2_eq, h6, st_12_m1 gS, st_12_2 gS, st_12_3 gS, st_12_4 gS, st_27_m2 gS, st_27_m1 gS, st_28_m2 gS, st_28_m1 gS, st_29_m2 gS, st_29_m1 gS]; first | done | omega)) (by first | assumption | (simp (disch := omega) only [up2_ne, up2_eq, h6, st_12_m1 gS, st_12_2 gS, st_12_3 gS, st_12_4 gS, st_27_m2 gS, st_27_m1 gS, st_28_m2 gS, st_28_m1 gS, st_29_m2 gS, st_29_m1 gS]; first | done | rfl | omega)) rfl rfl ?_
    try simp (disch := omega) only [up2_ne, up2_eq, h6, st_12_m1 gS, st_12_2 gS, st_12_3 gS, st_12_4 gS, st_27_m2 gS, st_27_m1 gS, st_28_m2 gS, st_28_m1 gS, st_29_m2 gS, st_29_m1 gS]
    refine wp_aload_n rfl rfl dX4_addAsking_33 ?_
    refine wp_getfield1 (z := 5) (kI := 6) fX4_31 dX4_addAsking_34 (by first | omega | (simp (disch := omega) only [up2_ne, up2_eq, h6, st_12_m1 gS, st_12_2 gS, st_12_3 gS, st_12_4 gS, st_27_m2 gS, st_27_m1 gS, st_28_m2 gS, st_28_m1 gS, st_29_m2 gS, st_29_m1 gS]; first | done | omega)) (by first | assumption | (simp (disch := omega) only [up2_ne, up2_eq, h6, st_12_m1 gS, st_12_2 gS, st_12_3 gS, st_12_4 gS, st_27_m2 gS, st_27_m1 gS, st_28_m2 gS, st_28_m1 gS, st_29_m2 gS, st_29_m1 gS]; first | done | rfl | omega)) rfl rfl ?_
    try simp (disch := omega) only [up2_ne, up2_eq, h6, st_12_m1 gS, st_12_2 gS, st_12_3 gS, st_12_4 gS, st_27_m2 gS, st_27_m1 gS, st_28_m2 gS, st_28_m1 gS, st_29_m2 gS, st_29_m1 gS]
    refine wp_iconst dX4_addAsking_37 ?_
    refine wp_iastore1 dX4_addAsking_38 (by first | omega | (simp (disch := omega) only [up2_ne, up2_eq, h6, st_12_m1 gS, st_12_2 gS, st_12_3 gS, st_12_4 gS, st_27_m2 gS, st_27_m1 gS, st_28_m2 gS, st_28_m1 gS, st_29_m2 gS, st_29_m1 gS]; first | done | omega)) (by first | assumption | (simp (disch := omega) only [up2_ne, up2_eq, h6, st_12_m1 gS, st_12_2 gS, st_12_3 gS, st_12_4 gS, st_27_m2 gS, st_27_m1 gS, st_28_m2 gS, st_28_m1 gS, st_29_m2 gS, st_29_m1 gS]; first | done | rfl | omega)) (by first | omega | (simp (disch := omega) only [up2_ne, up2_eq, h6, st_12_m1 gS, st_12_2 gS, st_12_3 gS, st_12_4 gS, st_27_m2 gS, st_27_m1 gS, st_28_m2 gS, st_28_m1 gS, st_29_m2 gS, st_29_m1 gS]; first | done | omega)) (by first | omega | (simp (disch := omega) only [up2_ne, up2_eq, h6, st_12_m1 gS, st_12_2 gS, st_12_3 gS, st_12_4 gS, st_27_m2 gS, st_27_m1 gS, st_28_m2 gS, st_28_m1 gS, st_29_m2 gS, st_29_m1 gS]; first | done | omega)) ?_
    refine wp_aload_n rfl rfl dX4_addAsking_39 ?_
    refine wp_dup (by decide) dX4_addAsking_40 ?_
    refine wp_getfield1 (z := 5) (kI := 6) fX4_31 dX4_addAsking_41 (by first | omega | (simp (disch := omega) only [up2_ne, up2_eq, h6, st_12_m1 gS, st_12_2 gS, st_12_3 gS, st_12_4 gS, st_27_m2 gS, st_27_m1 gS, st_28_m2 gS, st_28_m1 gS, st_29_m2 gS, st_29_m1 gS]; first | done | omega)) (by first | assumption | (simp (disch := omega) only [up2_ne, up2_eq, h6, st_12_m1 gS, st_12_2 gS, st_12_3 gS, st_12_4 gS, st_27_m2 gS, st_27_m1 gS, st_28_m2 gS, st_28_m1 gS, st_29_m2 gS, st_29_m1 gS]; first | done | rfl | omega)) rfl rfl ?_
    try simp (disch := omega) only [up2_ne, up2_eq, h6, st_12_m1 gS, st_12_2 gS, st_12_3 gS, st_12_4 gS, st_27_m2 gS, st_27_m1 gS, st_28_m2 gS, st_28_m1 gS, st_29_m2 gS, st_29_m1 gS]
    refine wp_iconst dX4_addAsking_44 ?_
    refine wp_iadd dX4_addAsking_45 ?_
    refine wp_putfield1 (z := 5) (kI := 6) fX4_31 dX4_addAsking_46 (by first | omega | (simp (disch := omega) only [up2_ne, up2_eq, h6, st_12_m1 gS, st_12_2 gS, st_12_3 gS, st_12_4 gS, st_27_m2 gS, st_27_m1 gS, st_28_m2 gS, st_28_m1 gS, st_29_m2 gS, st_29_m1 gS]; first | done | omega)) (by first | assumption | (simp (disch := omega) only [up2_ne, up2_eq, h6, st_12_m1 gS, st_12_2 gS, st_12_3 gS, st_12_4 gS, st_27_m2 gS, st_27_m1 gS, st_28_m2 gS, st_28_m1 gS, st_29_m2 gS, st_29_m1 gS]; first | done | rfl | omega)) rfl rfl ?_
    refine wp_vret dX4_addAsking_49 rfl ?_
    first | exact hQ | (exfalso; omega)
abbrev Kpl (h g : mH) : Prop := ∀ x k : Int, ¬ (0 ≤ k ∧ (x = 12 ∨ (25 ≤ x ∧ x ≤ 29))) → g x k = h x k
def rI (m g : mH) (n : Int) : Prop := St g ∧ g 12 5 = n ∧ g 12 6 = 0 ∧ ∀ r : Int, 0 ≤ r → r < n → g 25 r = m 209 r ∧ g 26 r = 0
def obI (m : mH) (a ob : Int) (n : Int) : Prop := 0 ≤ ob ∧ ob < 256 ∧ ∀ r : Int, 0 ≤ r → r < 8 → (bt ob r = 1 ↔ (r < n ∧ ¬ kb m r a))
def qI (m g : mH) (n : Int) : Prop := St g ∧ g 12 5 = m 200 6 ∧ g 12 6 = n ∧ (∀ r : Int, 0 ≤ r → r < m 200 6 → g 25 r = m 209 r ∧ g 26 r = 0) ∧ ∀ a : Int, 0 ≤ a → a < n → g 27 a = needM (m 211 a) ∧ obI m a (g 28 a) (m 200 6) ∧ g 29 a = 0
theorem qI_mJ {j : Nat} {m g : mH} (H : Inv j m) (I : qI m g (m 200 10)) : mJ m g (gPr m 0) := by
  have hn := H.ns
  obtain ⟨i1, i2, i3, i4, i5⟩ := I
  have hM : ∀ a r : Int, 0 ≤ a → a < m 200 10 → 0 ≤ r → r < 8 → MH (up2 g 12 7 0) a r = 0 := fun a r a0 a1 r0 r1 => by
    show bt (up2 g 12 7 0 29 a) r = 0
    rw [up2_ne (by omega), (i5 a a0 a1).2.2, bt_z r0 (by omega)]
  refine ⟨i1, ⟨i1.up (by decide +kernel), by rw [up2_ne (by omega)]; exact i2, by rw [up2_ne (by omega)]; exact i3, fun r r0 r1 => ?_, fun a a0 a1 => ?_, by rw [up2_eq]; decide, by rw [up2_eq]; decide, fun r r0 r1 q => by rw [up2_eq, bt_z r0 (by omega)] at q; omega⟩, fun a a0 a1 => by rw [up2_ne (by omega)]; exact (i5 a a0 a1).1, fun a a0 a1 => ?_⟩
  · have hu : useP m (MH (up2 g 12 7 0)) r = 0 := sm_zero _ (fun i hi => hM i r (by omega) (by omega) r0 (by omega))
    have hl := H.rld r0 r1
    rw [hu, up2_ne (by omega), up2_ne (by omega), (i4 r r0 r1).1, (i4 r r0 r1).2]
    exact ⟨rfl, rfl, by omega⟩
  · rw [up2_ne (by omega), up2_ne (by omega), (i5 a a0 a1).2.2]
    refine ⟨(i5 a a0 a1).2.1, by decide, by decide, fun r r0 r1 q => ?_⟩
    rw [bt_z r0 (by omega)] at q
    omega
  · exact sm_zero _ (fun i hi => hM a i a0 a1 (by omega) (by omega))
theorem obI_0 {m : mH} {a : Int} : obI m a 0 0 := ⟨by decide, by decide, fun r r0 r1 => ⟨fun q => by rw [bt_z r0 (by omega)] at q; omega, fun q => by exfalso; omega⟩⟩
theorem obI_t {m : mH} {a ob : Int} {n : Int} (I : obI m a ob n) (n0 : 0 ≤ n) (n8 : n < 8) (q : ¬ kb m n a) : obI m a (iOr ob (iShl 1 n)) (n + 1) := by
  have ho := or_bit I.1 I.2.1 n0 n8
  refine ⟨ho.1, ho.2.1, fun r r0 r1 => ?_⟩
  rw [ho.2.2 r r0 r1]
  by_cases c : r = n
  · rw [if_pos c, c]
    exact ⟨fun _ => ⟨by omega, q⟩, fun _ => rfl⟩
  · rw [if_neg c, I.2.2 r r0 r1]
    constructor
    · intro z
      exact ⟨by omega, z.2⟩
    · intro z
      exact ⟨by omega, z.2⟩
theorem obI_f {m : mH} {a ob : Int} {n : Int} (I : obI m a ob n) (q : kb m n a) : obI m a ob (n + 1) := by
  refine ⟨I.1, I.2.1, fun r r0 r1 => ?_⟩
  rw [I.2.2 r r0 r1]
  constructor
  · intro z
    exact ⟨by omega, z.2⟩
  · intro z
    refine ⟨?_, z.2⟩
    by_cases c : r = n
    · rw [c] at z
      exact absurd q z.2
    · omega
set_option maxHeartbeats 1000000 in
theorem s_X11_places {u : gT} {j : Nat} {h m : mH} {d b : Nat} (H : Inv j m) (e : Cl h m) (hS : St h) : Rlt (gX (gq u)) MX11_places (d + 21) b [(2, 1)] h (fun r h1 => r = (0, sm (gPr m (m 200 10).toNat) (m 200 10).toNat) ∧ St h1 ∧ Kpl h h1) := by
  refine Rlt.of ?_
  have hn := H.ns
  have e12 := H.n12
  have e13 := H.n13
  have e11 := H.n11
  have loop2 : ∀ n : Nat, n ≤ (m 200 10).toNat → ∀ g, qI m g n → Kpl h g → WP (gX (gq u)) MX11_places (d + 21) b (fun r h1 => r = (0, sm (gPr m (m 200 10).toNat) (m 200 10).toNat) ∧ St h1 ∧ Kpl h h1) 41 [(2, 1), (0, (n : Int)), (9, 0), (9, 0)] [] g := by
    refine loop_w (m 200 10).toNat (fun n hn2 ih => ?_)
    intro g I K
    have gS := I.1
    have ge : Cl g m := fun x k q => by rw [K x k (by omega)]; exact e x k q
    have hra := fun z : (n : Int) < m 200 10 => H.ra (a := (n : Int)) (by omega) (by omega)
    have hnk := fun z : (n : Int) < m 200 10 => needKM (hra z).1.1 (hra z).1.2
    have inner : (n : Int) < m 200 10 → ∀ r : Nat, r ≤ (m 200 6).toNat → ∀ ob : Int, obI m n ob r → WP (gX (gq u)) MX11_places (d + 21) b (fun r h1 => r = (0, sm (gPr m (m 200 10).toNat) (m 200 10).toNat) ∧ St h1 ∧ Kpl h h1) 53 [(2, 1), (0, (n : Int)), (0, ob), (0, (r : Int))] [] g := by
      intro hnA
      refine loop_w (m 200 6).toNat (fun r hr2 ihr => ?_)
      intro ob O
      have hra := hra hnA
      have hnk := hnk hnA
      refine wp_iload_n rfl rfl dX11_places_53 ?_
      refine wp_aload_n rfl rfl dX11_places_54 ?_
      refine wp_getfield1 (z := 12) (kI := 12) fX11_132 dX11_places_55 (by first | omega | (simp (disch := omega) only [up2_ne, up2_eq, ge, hnk, e11, e12, e13, H.a4, H.az, H.a0, H.r3, H.rz, st_1_m1 gS, st_1_m1 H.1, st_1_1 gS, st_1_1 H.1, st_1_2 gS, st_1_2 H.1, st_1_10 gS, st_1_10 H.1, st_3_m2 gS, st_3_m2 H.1, st_3_m1 gS, st_3_m1 H.1, st_4_m2 gS, st_4_m2 H.1, st_4_m1 gS, st_4_m1 H.1, st_12_m1 gS, st_12_m1 H.1]; first | done | omega)) (by first | assumption | (simp (disch := omega) only [up2_ne, up2_eq, ge, hnk, e11, e12, e13, H.a4, H.az, H.a0, H.r3, H.rz, st_1_m1 gS, st_1_m1 H.1, st_1_1 gS, st_1_1 H.1, st_1_2 gS, st_1_2 H.1, st_1_10 gS, st_1_10 H.1, st_3_m2 gS, st_3_m2 H.1, st_3_m1 gS, st_3_m1 H.1, st_4_m2 gS, st_4_m2 H.1, st_4_m1 gS, st_4_m1 H.1, st_12_m1 gS, st_12_m1 H.1]; first | done | rfl | omega)) rfl rfl ?_
      try simp (disch := omega) only [up2_ne, up2_eq, ge, hnk, e11, e12, e13, H.a4, H.az, H.a0, H.r3, H.rz, st_1_m1 gS, st_1_m1 H.1, st_1_1 gS, st_1_1 H.1, st_1_2 gS, st_1_2 H.1, st_1_10 gS, st_1_10 H.1, st_3_m2 gS, st_3_m2 H.1, st_3_m1 gS, st_3_m1 H.1, st_4_m2 gS, st_4_m2 H.1, st_4_m1 gS, st_4_m1 H.1, st_12_m1 gS, st_12_m1 H.1]
      refine wp_icmp_ge (tgt := 91) (by first | assumption | exact bI_in _ | exact ⟨by omega, by omega⟩ | exact iAnd_in | exact iOr_in | exact iShr_in | exact iShl_in | exact iXor_in | exact hxs _) (by first | assumption | exact bI_in _ | exact ⟨by omega, by omega⟩ | exact iAnd_in | exact iOr_in | exact iShr_in | exact iShl_in | exact iXor_in | exact hxs _) dX11_places_58 (by decide) (fun c1 => ?_) (fun c1 => ?_)
      · refine wp_aload_n rfl rfl dX11_places_91 ?_
        refine wp_getfield1 (z := 12) (kI := 10) fX11_74 dX11_places_92 (by first | omega | (simp (disch := omega) only [up2_ne, up2_eq, ge, hnk, e11, e12, e13, H.a4, H.az, H.a0, H.r3, H.rz, st_1_m1 gS, st_1_m1 H.1, st_1_1 gS, st_1_1 H.1, st_1_2 gS, st_1_2 H.1, st_1_10 gS, st_1_10 H.1, st_3_m2 gS, st_3_m2 H.1, st_3_m1 gS, st_3_m1 H.1, st_4_m2 gS, st_4_m2 H.1, st_4_m1 gS, st_4_m1 H.1, st_12_m1 gS, st_12_m1 H.1]; first | done | omega)) (by first | assumption | (simp (disch := omega) only [up2_ne, up2_eq, ge, hnk, e11, e12, e13, H.a4, H.az, H.a0, H.r3, H.rz, st_1_m1 gS, st_1_m1 H.1, st_1_1 gS, st_1_1 H.1, st_1_2 gS, st_1_2 H.1, st_1_10 gS, st_1_10 H.1, st_3_m2 gS, st_3_m2 H.1, st_3_m1 gS, st_3_m1 H.1, st_4_m2 gS, st_4_m2 H.1, st_4_m1 gS, st_4_m1 H.1, st_12_m1 gS, st_12_m1 H.1]; first | done | rfl | omega)) rfl rfl ?_
        try simp (disch := omega) only [up2_ne, up2_eq, ge, hnk, e11, e12, e13, H.a4, H.az, H.a0, H.r3, H.rz, st_1_m1 gS, st_1_m1 H.1, st_1_1 gS, st_1_1 H.1, st_1_2 gS, st_1_2 H.1, st_1_10 gS, st_1_10 H.1, st_3_m2 gS, st_3_m2 H.1, st_3_m1 gS, st_3_m1 H.1, st_4_m2 gS, st_4_m2 H.1, st_4_m1 gS, st_4_m1 H.1, st_12_m1 gS, st_12_m1 H.1]
        refine wp_aload_n rfl rfl dX11_places_95 ?_
        refine wp_getfield1 (z := 12) (kI := 2) fX11_23 dX11_places_96 (by first | omega | (simp (disch := omega) only [up2_ne, up2_eq, ge, hnk, e11, e12, e13, H.a4, H.az, H.a0, H.r3, H.rz, st_1_m1 gS, st_1_m1 H.1, st_1_1 gS, st_1_1 H.1, st_1_2 gS, st_1_2 H.1, st_1_10 gS, st_1_10 H.1, st_3_m2 gS, st_3_m2 H.1, st_3_m1 gS, st_3_m1 H.1, st_4_m2 gS, st_4_m2 H.1, st_4_m1 gS, st_4_m1 H.1, st_12_m1 gS, st_12_m1 H.1]; first | done | omega)) (by first | assumption | (simp (disch := omega) only [up2_ne, up2_eq, ge, hnk, e11, e12, e13, H.a4, H.az, H.a0, H.r3, H.rz, st_1_m1 gS, st_1_m1 H.1, st_1_1 gS, st_1_1 H.1, st_1_2 gS, st_1_2 H.1, st_1_10 gS, st_1_10 H.1, st_3_m2 gS, st_3_m2 H.1, st_3_m1 gS, st_3_m1 H.1, st_4_m2 gS, st_4_m2 H.1, st_4_m1 gS, st_4_m1 H.1, st_12_m1 gS, st_12_m1 H.1]; first | done | rfl | omega)) rfl rfl ?_
        try simp (disch := omega) only [up2_ne, up2_eq, ge, hnk, e11, e12, e13, H.a4, H.az, H.a0, H.r3, H.rz, st_1_m1 gS, st_1_m1 H.1, st_1_1 gS, st_1_1 H.1, st_1_2 gS, st_1_2 H.1, st_1_10 gS, st_1_10 H.1, st_3_m2 gS, st_3_m2 H.1, st_3_m1 gS, st_3_m1 H.1, st_4_m2 gS, st_4_m2 H.1, st_4_m1 gS, st_4_m1 H.1, st_12_m1 gS, st_12_m1 H.1]
        refine wp_iload_n rfl rfl dX11_places_99 ?_
        refine wp_aaload1 dX11_places_100 (by first | omega | (simp (disch := omega) only [up2_ne, up2_eq, ge, hnk, e11, e12, e13, H.a4, H.az, H.a0, H.r3, H.rz, st_1_m1 gS, st_1_m1 H.1, st_1_1 gS, st_1_1 H.1, st_1_2 gS, st_1_2 H.1, st_1_10 gS, st_1_10 H.1, st_3_m2 gS, st_3_m2 H.1, st_3_m1 gS, st_3_m1 H.1, st_4_m2 gS, st_4_m2 H.1, st_4_m1 gS, st_4_m1 H.1, st_12_m1 gS, st_12_m1 H.1]; first | done | omega)) (by first | omega | (simp (disch := omega) only [up2_ne, up2_eq, ge, hnk, e11, e12, e13, H.a4, H.az, H.a0, H.r3, H.rz, st_1_m1 gS, st_1_m1 H.1, st_1_1 gS, st_1_1 H.1, st_1_2 gS, st_1_2 H.1, st_1_10 gS, st_1_10 H.1, st_3_m2 gS, st_3_m2 H.1, st_3_m1 gS, st_3_m1 H.1, st_4_m2 gS, st_4_m2 H.1, st_4_m1 gS, st_4_m1 H.1, st_12_m1 gS, st_12_m1 H.1]; first | done | omega)) (by first | omega | (simp (disch := omega) only [up2_ne, up2_eq, ge, hnk, e11, e12, e13, H.a4, H.az, H.a0, H.r3, H.rz, st_1_m1 gS, st_1_m1 H.1, st_1_1 gS, st_1_1 H.1, st_1_2 gS, st_1_2 H.1, st_1_10 gS, st_1_10 H.1, st_3_m2 gS, st_3_m2 H.1, st_3_m1 gS, st_3_m1 H.1, st_4_m2 gS, st_4_m2 H.1, st_4_m1 gS, st_4_m1 H.1, st_12_m1 gS, st_12_m1 H.1]; first | done | omega)) (by first | omega | (simp (disch := omega) only [up2_ne, up2_eq, ge, hnk, e11, e12, e13, H.a4, H.az, H.a0, H.r3, H.rz, st_1_m1 gS, st_1_m1 H.1, st_1_1 gS, st_1_1 H.1, st_1_2 gS, st_1_2 H.1, st_1_10 gS, st_1_10 H.1, st_3_m2 gS, st_3_m2 H.1, st_3_m1 gS, st_3_m1 H.1, st_4_m2 gS, st_4_m2 H.1, st_4_m1 gS, st_4_m1 H.1, st_12_m1 gS, st_12_m1 H.1]; first | done | omega)) ?_
        try simp (disch := omega) only [up2_ne, up2_eq, ge, hnk, e11, e12, e13, H.a4, H.az, H.a0, H.r3, H.rz, st_1_m1 gS, st_1_m1 H.1, st_1_1 gS, st_1_1 H.1, st_1_2 gS, st_1_2 H.1, st_1_10 gS, st_1_10 H.1, st_3_m2 gS, st_3_m2 H.1, st_3_m1 gS, st_3_m1 H.1, st_4_m2 gS, st_4_m2 H.1, st_4_m1 gS, st_4_m1 H.1, st_12_m1 gS, st_12_m1 H.1]
        refine wp_getfield1 (z := 1) (kI := 0) fX11_204 dX11_places_101 (by first | omega | (simp (disch := omega) only [up2_ne, up2_eq, ge, hnk, e11, e12, e13, H.a4, H.az, H.a0, H.r3, H.rz, st_1_m1 gS, st_1_m1 H.1, st_1_1 gS, st_1_1 H.1, st_1_2 gS, st_1_2 H.1, st_1_10 gS, st_1_10 H.1, st_3_m2 gS, st_3_m2 H.1, st_3_m1 gS, st_3_m1 H.1, st_4_m2 gS, st_4_m2 H.1, st_4_m1 gS, st_4_m1 H.1, st_12_m1 gS, st_12_m1 H.1]; first | done | omega)) (by first | assumption | (simp (disch := omega) only [up2_ne, up2_eq, ge, hnk, e11, e12, e13, H.a4, H.az, H.a0, H.r3, H.rz, st_1_m1 gS, st_1_m1 H.1, st_1_1 gS, st_1_1 H.1, st_1_2 gS, st_1_2 H.1, st_1_10 gS, st_1_10 H.1, st_3_m2 gS, st_3_m2 H.1, st_3_m1 gS, st_3_m1 H.1, st_4_m2 gS, st_4_m2 H.1, st_4_m1 gS, st_4_m1 H.1, st_12_m1 gS, st_12_m1 H.1]; first | done | rfl | omega)) rfl rfl ?_
        try simp (disch := omega) only [up2_ne, up2_eq, ge, hnk, e11, e12, e13, H.a4, H.az, H.a0, H.r3, H.rz, st_1_m1 gS, st_1_m1 H.1, st_1_1 gS, st_1_1 H.1, st_1_2 gS, st_1_2 H.1, st_1_10 gS, st_1_10 H.1, st_3_m2 gS, st_3_m2 H.1, st_3_m1 gS, st_3_m1 H.1, st_4_m2 gS, st_4_m2 H.1, st_4_m1 gS, st_4_m1 H.1, st_12_m1 gS, st_12_m1 H.1]
        refine wp_cS1 okX11_needOf wX11_220 dX11_places_104 rfl (Nat.le_of_ble_eq_true rfl) (Nat.le_of_ble_eq_true rfl) (s_X11_needOf (by exact ⟨by omega, by omega⟩)) (Nat.zero_le _) ?_
        try simp (disch := omega) only [up2_ne, up2_eq, ge, hnk, e11, e12, e13, H.a4, H.az, H.a0, H.r3, H.rz, st_1_m1 gS, st_1_m1 H.1, st_1_1 gS, st_1_1 H.1, st_1_2 gS, st_1_2 H.1, st_1_10 gS, st_1_10 H.1, st_3_m2 gS, st_3_m2 H.1, st_3_m1 gS, st_3_m1 H.1, st_4_m2 gS, st_4_m2 H.1, st_4_m1 gS, st_4_m1 H.1, st_12_m1 gS, st_12_m1 H.1]
        refine wp_iload_n rfl rfl dX11_places_107 ?_
        refine wp_cV2v (ci := 4) okX4_addAsking rfl rfl wX11_293 dX11_places_108 (Nat.le_of_ble_eq_true rfl) (Nat.le_of_ble_eq_true rfl) (by first | omega | (simp (disch := omega) only [up2_ne, up2_eq, ge, hnk, e11, e12, e13, H.a4, H.az, H.a0, H.r3, H.rz, st_1_m1 gS, st_1_m1 H.1, st_1_1 gS, st_1_1 H.1, st_1_2 gS, st_1_2 H.1, st_1_10 gS, st_1_10 H.1, st_3_m2 gS, st_3_m2 H.1, st_3_m1 gS, st_3_m1 H.1, st_4_m2 gS, st_4_m2 H.1, st_4_m1 gS, st_4_m1 H.1, st_12_m1 gS, st_12_m1 H.1]; first | done | omega)) (by first | assumption | (simp (disch := omega) only [up2_ne, up2_eq, ge, hnk, e11, e12, e13, H.a4, H.az, H.a0, H.r3, H.rz, st_1_m1 gS, st_1_m1 H.1, st_1_1 gS, st_1_1 H.1, st_1_2 gS, st_1_2 H.1, st_1_10 gS, st_1_10 H.1, st_3_m2 gS, st_3_m2 H.1, st_3_m1 gS, st_3_m1 H.1, st_4_m2 gS, st_4_m2 H.1, st_4_m1 gS, st_4_m1 H.1, st_12_m1 gS, st_12_m1 H.1]; first | done | rfl | omega)) (s_X4_addAsking gS I.2.2.1 (by omega) (by omega)) (Nat.zero_le _) ?_
        try simp (disch := omega) only [up2_ne, up2_eq, ge, hnk, e11, e12, e13, H.a4, H.az, H.a0, H.r3, H.rz, st_1_m1 gS, st_1_m1 H.1, st_1_1 gS, st_1_1 H.1, st_1_2 gS, st_1_2 H.1, st_1_10 gS, st_1_10 H.1, st_3_m2 gS, st_3_m2 H.1, st_3_m1 gS, st_3_m1 H.1, st_4_m2 gS, st_4_m2 H.1, st_4_m1 gS, st_4_m1 H.1, st_12_m1 gS, st_12_m1 H.1]
        refine wp_iinc rfl rfl dX11_places_111 rfl rfl ?_
        try simp only [List.set_cons_zero, List.set_cons_succ]
        refine wp_goto (tgt := 41) dX11_places_114 (by decide) ?_
        have er : r = (m 200 6).toNat := by omega
        subst er
        refine wp_dropAt 2 rfl (wp_dropAt 3 rfl ?_)
        rw [show (n : Int) + 1 = ((n + 1 : Nat) : Int) by omega]
        refine ih (by omega) _ ⟨(((gS.upA (by decide +kernel) (by omega)).upA (by decide +kernel) (by omega)).upA (by decide +kernel) (by omega)).up (by decide +kernel), by simp (disch := omega) only [up2_ne]; exact I.2.1, by rw [up2_eq], fun r r0 r1 => by simp (disch := omega) only [up2_ne]; exact I.2.2.2.1 r r0 r1, fun a a0 a1 => ?_⟩ (fun x k q => by simp (disch := omega) only [up2_ne]; exact K x k q)
        by_cases c : a = n
        · subst c
          simp (disch := omega) only [up2_ne, up2_eq]
          exact ⟨trivial, by rw [show m 200 6 = (((m 200 6).toNat : Nat) : Int) by omega]; exact O, trivial⟩
        · simp (disch := omega) only [up2_ne]
          exact I.2.2.2.2 a a0 (by omega)
      · refine wp_aload_n rfl rfl dX11_places_61 ?_
        refine wp_getfield1 (z := 12) (kI := 2) fX11_23 dX11_places_62 (by first | omega | (simp (disch := omega) only [up2_ne, up2_eq, ge, hnk, e11, e12, e13, H.a4, H.az, H.a0, H.r3, H.rz, st_1_m1 gS, st_1_m1 H.1, st_1_1 gS, st_1_1 H.1, st_1_2 gS, st_1_2 H.1, st_1_10 gS, st_1_10 H.1, st_3_m2 gS, st_3_m2 H.1, st_3_m1 gS, st_3_m1 H.1, st_4_m2 gS, st_4_m2 H.1, st_4_m1 gS, st_4_m1 H.1, st_12_m1 gS, st_12_m1 H.1]; first | done | omega)) (by first | assumption | (simp (disch := omega) only [up2_ne, up2_eq, ge, hnk, e11, e12, e13, H.a4, H.az, H.a0, H.r3, H.rz, st_1_m1 gS, st_1_m1 H.1, st_1_1 gS, st_1_1 H.1, st_1_2 gS, st_1_2 H.1, st_1_10 gS, st_1_10 H.1, st_3_m2 gS, st_3_m2 H.1, st_3_m1 gS, st_3_m1 H.1, st_4_m2 gS, st_4_m2 H.1, st_4_m1 gS, st_4_m1 H.1, st_12_m1 gS, st_12_m1 H.1]; first | done | rfl | omega)) rfl rfl ?_
        try simp (disch := omega) only [up2_ne, up2_eq, ge, hnk, e11, e12, e13, H.a4, H.az, H.a0, H.r3, H.rz, st_1_m1 gS, st_1_m1 H.1, st_1_1 gS, st_1_1 H.1, st_1_2 gS, st_1_2 H.1, st_1_10 gS, st_1_10 H.1, st_3_m2 gS, st_3_m2 H.1, st_3_m1 gS, st_3_m1 H.1, st_4_m2 gS, st_4_m2 H.1, st_4_m1 gS, st_4_m1 H.1, st_12_m1 gS, st_12_m1 H.1]
        refine wp_iload_n rfl rfl dX11_places_65 ?_
        refine wp_aaload1 dX11_places_66 (by first | omega | (simp (disch := omega) only [up2_ne, up2_eq, ge, hnk, e11, e12, e13, H.a4, H.az, H.a0, H.r3, H.rz, st_1_m1 gS, st_1_m1 H.1, st_1_1 gS, st_1_1 H.1, st_1_2 gS, st_1_2 H.1, st_1_10 gS, st_1_10 H.1, st_3_m2 gS, st_3_m2 H.1, st_3_m1 gS, st_3_m1 H.1, st_4_m2 gS, st_4_m2 H.1, st_4_m1 gS, st_4_m1 H.1, st_12_m1 gS, st_12_m1 H.1]; first | done | omega)) (by first | omega | (simp (disch := omega) only [up2_ne, up2_eq, ge, hnk, e11, e12, e13, H.a4, H.az, H.a0, H.r3, H.rz, st_1_m1 gS, st_1_m1 H.1, st_1_1 gS, st_1_1 H.1, st_1_2 gS, st_1_2 H.1, st_1_10 gS, st_1_10 H.1, st_3_m2 gS, st_3_m2 H.1, st_3_m1 gS, st_3_m1 H.1, st_4_m2 gS, st_4_m2 H.1, st_4_m1 gS, st_4_m1 H.1, st_12_m1 gS, st_12_m1 H.1]; first | done | omega)) (by first | omega | (simp (disch := omega) only [up2_ne, up2_eq, ge, hnk, e11, e12, e13, H.a4, H.az, H.a0, H.r3, H.rz, st_1_m1 gS, st_1_m1 H.1, st_1_1 gS, st_1_1 H.1, st_1_2 gS, st_1_2 H.1, st_1_10 gS, st_1_10 H.1, st_3_m2 gS, st_3_m2 H.1, st_3_m1 gS, st_3_m1 H.1, st_4_m2 gS, st_4_m2 H.1, st_4_m1 gS, st_4_m1 H.1, st_12_m1 gS, st_12_m1 H.1]; first | done | omega)) (by first | omega | (simp (disch := omega) only [up2_ne, up2_eq, ge, hnk, e11, e12, e13, H.a4, H.az, H.a0, H.r3, H.rz, st_1_m1 gS, st_1_m1 H.1, st_1_1 gS, st_1_1 H.1, st_1_2 gS, st_1_2 H.1, st_1_10 gS, st_1_10 H.1, st_3_m2 gS, st_3_m2 H.1, st_3_m1 gS, st_3_m1 H.1, st_4_m2 gS, st_4_m2 H.1, st_4_m1 gS, st_4_m1 H.1, st_12_m1 gS, st_12_m1 H.1]; first | done | omega)) ?_
        try simp (disch := omega) only [up2_ne, up2_eq, ge, hnk, e11, e12, e13, H.a4, H.az, H.a0, H.r3, H.rz, st_1_m1 gS, st_1_m1 H.1, st_1_1 gS, st_1_1 H.1, st_1_2 gS, st_1_2 H.1, st_1_10 gS, st_1_10 H.1, st_3_m2 gS, st_3_m2 H.1, st_3_m1 gS, st_3_m1 H.1, st_4_m2 gS, st_4_m2 H.1, st_4_m1 gS, st_4_m1 H.1, st_12_m1 gS, st_12_m1 H.1]
        refine wp_aload_n rfl rfl dX11_places_67 ?_
        refine wp_getfield1 (z := 12) (kI := 1) fX11_17 dX11_places_68 (by first | omega | (simp (disch := omega) only [up2_ne, up2_eq, ge, hnk, e11, e12, e13, H.a4, H.az, H.a0, H.r3, H.rz, st_1_m1 gS, st_1_m1 H.1, st_1_1 gS, st_1_1 H.1, st_1_2 gS, st_1_2 H.1, st_1_10 gS, st_1_10 H.1, st_3_m2 gS, st_3_m2 H.1, st_3_m1 gS, st_3_m1 H.1, st_4_m2 gS, st_4_m2 H.1, st_4_m1 gS, st_4_m1 H.1, st_12_m1 gS, st_12_m1 H.1]; first | done | omega)) (by first | assumption | (simp (disch := omega) only [up2_ne, up2_eq, ge, hnk, e11, e12, e13, H.a4, H.az, H.a0, H.r3, H.rz, st_1_m1 gS, st_1_m1 H.1, st_1_1 gS, st_1_1 H.1, st_1_2 gS, st_1_2 H.1, st_1_10 gS, st_1_10 H.1, st_3_m2 gS, st_3_m2 H.1, st_3_m1 gS, st_3_m1 H.1, st_4_m2 gS, st_4_m2 H.1, st_4_m1 gS, st_4_m1 H.1, st_12_m1 gS, st_12_m1 H.1]; first | done | rfl | omega)) rfl rfl ?_
        try simp (disch := omega) only [up2_ne, up2_eq, ge, hnk, e11, e12, e13, H.a4, H.az, H.a0, H.r3, H.rz, st_1_m1 gS, st_1_m1 H.1, st_1_1 gS, st_1_1 H.1, st_1_2 gS, st_1_2 H.1, st_1_10 gS, st_1_10 H.1, st_3_m2 gS, st_3_m2 H.1, st_3_m1 gS, st_3_m1 H.1, st_4_m2 gS, st_4_m2 H.1, st_4_m1 gS, st_4_m1 H.1, st_12_m1 gS, st_12_m1 H.1]
        refine wp_iload_n rfl rfl dX11_places_71 ?_
        refine wp_aaload1 dX11_places_72 (by first | omega | (simp (disch := omega) only [up2_ne, up2_eq, ge, hnk, e11, e12, e13, H.a4, H.az, H.a0, H.r3, H.rz, st_1_m1 gS, st_1_m1 H.1, st_1_1 gS, st_1_1 H.1, st_1_2 gS, st_1_2 H.1, st_1_10 gS, st_1_10 H.1, st_3_m2 gS, st_3_m2 H.1, st_3_m1 gS, st_3_m1 H.1, st_4_m2 gS, st_4_m2 H.1, st_4_m1 gS, st_4_m1 H.1, st_12_m1 gS, st_12_m1 H.1]; first | done | omega)) (by first | omega | (simp (disch := omega) only [up2_ne, up2_eq, ge, hnk, e11, e12, e13, H.a4, H.az, H.a0, H.r3, H.rz, st_1_m1 gS, st_1_m1 H.1, st_1_1 gS, st_1_1 H.1, st_1_2 gS, st_1_2 H.1, st_1_10 gS, st_1_10 H.1, st_3_m2 gS, st_3_m2 H.1, st_3_m1 gS, st_3_m1 H.1, st_4_m2 gS, st_4_m2 H.1, st_4_m1 gS, st_4_m1 H.1, st_12_m1 gS, st_12_m1 H.1]; first | done | omega)) (by first | omega | (simp (disch := omega) only [up2_ne, up2_eq, ge, hnk, e11, e12, e13, H.a4, H.az, H.a0, H.r3, H.rz, st_1_m1 gS, st_1_m1 H.1, st_1_1 gS, st_1_1 H.1, st_1_2 gS, st_1_2 H.1, st_1_10 gS, st_1_10 H.1, st_3_m2 gS, st_3_m2 H.1, st_3_m1 gS, st_3_m1 H.1, st_4_m2 gS, st_4_m2 H.1, st_4_m1 gS, st_4_m1 H.1, st_12_m1 gS, st_12_m1 H.1]; first | done | omega)) (by first | omega | (simp (disch := omega) only [up2_ne, up2_eq, ge, hnk, e11, e12, e13, H.a4, H.az, H.a0, H.r3, H.rz, st_1_m1 gS, st_1_m1 H.1, st_1_1 gS, st_1_1 H.1, st_1_2 gS, st_1_2 H.1, st_1_10 gS, st_1_10 H.1, st_3_m2 gS, st_3_m2 H.1, st_3_m1 gS, st_3_m1 H.1, st_4_m2 gS, st_4_m2 H.1, st_4_m1 gS, st_4_m1 H.1, st_12_m1 gS, st_12_m1 H.1]; first | done | omega)) ?_
        try simp (disch := omega) only [up2_ne, up2_eq, ge, hnk, e11, e12, e13, H.a4, H.az, H.a0, H.r3, H.rz, st_1_m1 gS, st_1_m1 H.1, st_1_1 gS, st_1_1 H.1, st_1_2 gS, st_1_2 H.1, st_1_10 gS, st_1_10 H.1, st_3_m2 gS, st_3_m2 H.1, st_3_m1 gS, st_3_m1 H.1, st_4_m2 gS, st_4_m2 H.1, st_4_m1 gS, st_4_m1 H.1, st_12_m1 gS, st_12_m1 H.1]
        refine wp_cV1 (ci := 0) okX0_isBarredTo rfl rfl wX11_274 dX11_places_73 rfl (Nat.le_of_ble_eq_true rfl) (Nat.le_of_ble_eq_true rfl) (by first | omega | (simp (disch := omega) only [up2_ne, up2_eq, ge, hnk, e11, e12, e13, H.a4, H.az, H.a0, H.r3, H.rz, st_1_m1 gS, st_1_m1 H.1, st_1_1 gS, st_1_1 H.1, st_1_2 gS, st_1_2 H.1, st_1_10 gS, st_1_10 H.1, st_3_m2 gS, st_3_m2 H.1, st_3_m1 gS, st_3_m1 H.1, st_4_m2 gS, st_4_m2 H.1, st_4_m1 gS, st_4_m1 H.1, st_12_m1 gS, st_12_m1 H.1]; first | done | omega)) (by first | assumption | (simp (disch := omega) only [up2_ne, up2_eq, ge, hnk, e11, e12, e13, H.a4, H.az, H.a0, H.r3, H.rz, st_1_m1 gS, st_1_m1 H.1, st_1_1 gS, st_1_1 H.1, st_1_2 gS, st_1_2 H.1, st_1_10 gS, st_1_10 H.1, st_3_m2 gS, st_3_m2 H.1, st_3_m1 gS, st_3_m1 H.1, st_4_m2 gS, st_4_m2 H.1, st_4_m1 gS, st_4_m1 H.1, st_12_m1 gS, st_12_m1 H.1]; first | done | rfl | omega)) (ib_row H ge (a := (n : Int)) (r := (r : Int)) (by omega) (by omega) (by omega) (by omega)) (Nat.zero_le _) ?_
        try simp (disch := omega) only [up2_ne, up2_eq, ge, hnk, e11, e12, e13, H.a4, H.az, H.a0, H.r3, H.rz, st_1_m1 gS, st_1_m1 H.1, st_1_1 gS, st_1_1 H.1, st_1_2 gS, st_1_2 H.1, st_1_10 gS, st_1_10 H.1, st_3_m2 gS, st_3_m2 H.1, st_3_m1 gS, st_3_m1 H.1, st_4_m2 gS, st_4_m2 H.1, st_4_m1 gS, st_4_m1 H.1, st_12_m1 gS, st_12_m1 H.1]
        refine wp_ifB_ne (tgt := 85) dX11_places_76 (by decide) (fun c2 => ?_) (fun c2 => ?_)
        · refine wp_iinc rfl rfl dX11_places_85 rfl rfl ?_
          try simp only [List.set_cons_zero, List.set_cons_succ]
          refine wp_goto (tgt := 53) dX11_places_88 (by decide) ?_
          rw [show (r : Int) + 1 = ((r + 1 : Nat) : Int) by omega]
          first
            | exact ihr (by omega) _ (by have z := obI_t O (by omega) (by omega) (by assumption); rw [show (r : Int) + 1 = ((r + 1 : Nat) : Int) by omega] at z; exact z)
            | exact ihr (by omega) _ (by have z := obI_f O (by assumption); rw [show (r : Int) + 1 = ((r + 1 : Nat) : Int) by omega] at z; exact z)
        · refine wp_iload_n rfl rfl dX11_places_79 ?_
          refine wp_iconst dX11_places_80 ?_
          refine wp_iload_n rfl rfl dX11_places_81 ?_
          refine wp_ishl dX11_places_82 ?_
          refine wp_ior dX11_places_83 ?_
          refine wp_istore_n rfl dX11_places_84 rfl (Nat.le_of_ble_eq_true rfl) rfl ?_
          try simp only [List.set_cons_zero, List.set_cons_succ]
          refine wp_iinc rfl rfl dX11_places_85 rfl rfl ?_
          try simp only [List.set_cons_zero, List.set_cons_succ]
          refine wp_goto (tgt := 53) dX11_places_88 (by decide) ?_
          rw [show (r : Int) + 1 = ((r + 1 : Nat) : Int) by omega]
          first
            | exact ihr (by omega) _ (by have z := obI_t O (by omega) (by omega) (by assumption); rw [show (r : Int) + 1 = ((r + 1 : Nat) : Int) by omega] at z; exact z)
            | exact ihr (by omega) _ (by have z := obI_f O (by assumption); rw [show (r : Int) + 1 = ((r + 1 : Nat) : Int) by omega] at z; exact z)
    refine wp_iload_n rfl rfl dX11_places_41 ?_
    refine wp_aload_n rfl rfl dX11_places_42 ?_
    refine wp_getfield1 (z := 12) (kI := 13) fX11_172 dX11_places_43 (by first | omega | (simp (disch := omega) only [up2_ne, up2_eq, ge, e11, e12, e13, H.a4, H.az, H.a0, H.r3, H.rz, st_1_m1 gS, st_1_m1 H.1, st_1_1 gS, st_1_1 H.1, st_1_2 gS, st_1_2 H.1, st_1_10 gS, st_1_10 H.1, st_3_m2 gS, st_3_m2 H.1, st_3_m1 gS, st_3_m1 H.1, st_4_m2 gS, st_4_m2 H.1, st_4_m1 gS, st_4_m1 H.1, st_12_m1 gS, st_12_m1 H.1]; first | done | omega)) (by first | assumption | (simp (disch := omega) only [up2_ne, up2_eq, ge, e11, e12, e13, H.a4, H.az, H.a0, H.r3, H.rz, st_1_m1 gS, st_1_m1 H.1, st_1_1 gS, st_1_1 H.1, st_1_2 gS, st_1_2 H.1, st_1_10 gS, st_1_10 H.1, st_3_m2 gS, st_3_m2 H.1, st_3_m1 gS, st_3_m1 H.1, st_4_m2 gS, st_4_m2 H.1, st_4_m1 gS, st_4_m1 H.1, st_12_m1 gS, st_12_m1 H.1]; first | done | rfl | omega)) rfl rfl ?_
    try simp (disch := omega) only [up2_ne, up2_eq, ge, e11, e12, e13, H.a4, H.az, H.a0, H.r3, H.rz, st_1_m1 gS, st_1_m1 H.1, st_1_1 gS, st_1_1 H.1, st_1_2 gS, st_1_2 H.1, st_1_10 gS, st_1_10 H.1, st_3_m2 gS, st_3_m2 H.1, st_3_m1 gS, st_3_m1 H.1, st_4_m2 gS, st_4_m2 H.1, st_4_m1 gS, st_4_m1 H.1, st_12_m1 gS, st_12_m1 H.1]
    refine wp_icmp_ge (tgt := 117) (by first | assumption | exact bI_in _ | exact ⟨by omega, by omega⟩ | exact iAnd_in | exact iOr_in | exact iShr_in | exact iShl_in | exact iXor_in | exact hxs _) (by first | assumption | exact bI_in _ | exact ⟨by omega, by omega⟩ | exact iAnd_in | exact iOr_in | exact iShr_in | exact iShl_in | exact iXor_in | exact hxs _) dX11_places_46 (by decide) (fun c3 => ?_) (fun c3 => ?_)
    · refine wp_aload_n rfl rfl dX11_places_117 ?_
      refine wp_getfield1 (z := 12) (kI := 10) fX11_74 dX11_places_118 (by first | omega | (simp (disch := omega) only [up2_ne, up2_eq, ge, e11, e12, e13, H.a4, H.az, H.a0, H.r3, H.rz, st_1_m1 gS, st_1_m1 H.1, st_1_1 gS, st_1_1 H.1, st_1_2 gS, st_1_2 H.1, st_1_10 gS, st_1_10 H.1, st_3_m2 gS, st_3_m2 H.1, st_3_m1 gS, st_3_m1 H.1, st_4_m2 gS, st_4_m2 H.1, st_4_m1 gS, st_4_m1 H.1, st_12_m1 gS, st_12_m1 H.1]; first | done | omega)) (by first | assumption | (simp (disch := omega) only [up2_ne, up2_eq, ge, e11, e12, e13, H.a4, H.az, H.a0, H.r3, H.rz, st_1_m1 gS, st_1_m1 H.1, st_1_1 gS, st_1_1 H.1, st_1_2 gS, st_1_2 H.1, st_1_10 gS, st_1_10 H.1, st_3_m2 gS, st_3_m2 H.1, st_3_m1 gS, st_3_m1 H.1, st_4_m2 gS, st_4_m2 H.1, st_4_m1 gS, st_4_m1 H.1, st_12_m1 gS, st_12_m1 H.1]; first | done | rfl | omega)) rfl rfl ?_
      try simp (disch := omega) only [up2_ne, up2_eq, ge, e11, e12, e13, H.a4, H.az, H.a0, H.r3, H.rz, st_1_m1 gS, st_1_m1 H.1, st_1_1 gS, st_1_1 H.1, st_1_2 gS, st_1_2 H.1, st_1_10 gS, st_1_10 H.1, st_3_m2 gS, st_3_m2 H.1, st_3_m1 gS, st_3_m1 H.1, st_4_m2 gS, st_4_m2 H.1, st_4_m1 gS, st_4_m1 H.1, st_12_m1 gS, st_12_m1 H.1]
      refine wp_cV0r (ci := 4) okX4_mostPairs rfl rfl wX11_297 dX11_places_121 (Nat.le_of_ble_eq_true rfl) (Nat.le_of_ble_eq_true rfl) (by first | omega | (simp (disch := omega) only [up2_ne, up2_eq, ge, e11, e12, e13, H.a4, H.az, H.a0, H.r3, H.rz, st_1_m1 gS, st_1_m1 H.1, st_1_1 gS, st_1_1 H.1, st_1_2 gS, st_1_2 H.1, st_1_10 gS, st_1_10 H.1, st_3_m2 gS, st_3_m2 H.1, st_3_m1 gS, st_3_m1 H.1, st_4_m2 gS, st_4_m2 H.1, st_4_m1 gS, st_4_m1 H.1, st_12_m1 gS, st_12_m1 H.1]; first | done | omega)) (by first | assumption | (simp (disch := omega) only [up2_ne, up2_eq, ge, e11, e12, e13, H.a4, H.az, H.a0, H.r3, H.rz, st_1_m1 gS, st_1_m1 H.1, st_1_1 gS, st_1_1 H.1, st_1_2 gS, st_1_2 H.1, st_1_10 gS, st_1_10 H.1, st_3_m2 gS, st_3_m2 H.1, st_3_m1 gS, st_3_m1 H.1, st_4_m2 gS, st_4_m2 H.1, st_4_m1 gS, st_4_m1 H.1, st_12_m1 gS, st_12_m1 H.1]; first | done | rfl | omega)) (s_X4_mostPairs (d := d) (b := 0) (by omega) (by omega) (fun r r0 r1 => by have := H.rld r0 r1; omega) (qI_mJ H (by rw [show m 200 10 = (n : Int) by omega]; exact I))) (Nat.zero_le _) ?_
      rintro r g2 ⟨rfl, S2, K2⟩ -
      show WP _ _ _ _ _ _ _ ((0, _) :: _) _
      refine wp_iret dX11_places_124 rfl ?_
      exact ⟨rfl, S2, fun x k q => by rw [K2 x k (by omega) (by omega)]; exact K x k q⟩
    · refine wp_iconst dX11_places_49 ?_
      refine wp_istore_n rfl dX11_places_50 rfl (Nat.le_of_ble_eq_true rfl) rfl ?_
      try simp only [List.set_cons_zero, List.set_cons_succ]
      refine wp_iconst dX11_places_51 ?_
      refine wp_istore_n rfl dX11_places_52 rfl (Nat.le_of_ble_eq_true rfl) rfl ?_
      try simp only [List.set_cons_zero, List.set_cons_succ]
      exact inner (by omega) 0 (by omega) 0 obI_0
  have loop1 : ∀ n : Nat, n ≤ (m 200 6).toNat → ∀ g, rI m g n → Kpl h g → WP (gX (gq u)) MX11_places (d + 21) b (fun r h1 => r = (0, sm (gPr m (m 200 10).toNat) (m 200 10).toNat) ∧ St h1 ∧ Kpl h h1) 9 [(2, 1), (0, (n : Int)), (9, 0), (9, 0)] [] g := by
    refine loop_w (m 200 6).toNat (fun n hn2 ih => ?_)
    intro g I K
    have gS := I.1
    have ge : Cl g m := fun x k q => by rw [K x k (by omega)]; exact e x k q
    refine wp_iload_n rfl rfl dX11_places_9 ?_
    refine wp_aload_n rfl rfl dX11_places_10 ?_
    refine wp_getfield1 (z := 12) (kI := 12) fX11_132 dX11_places_11 (by first | omega | (simp (disch := omega) only [up2_ne, up2_eq, ge, e11, e12, e13, H.r3, H.rz, H.rl, st_1_m1 gS, st_1_m1 H.1, st_1_1 gS, st_1_1 H.1, st_1_2 gS, st_1_2 H.1, st_1_10 gS, st_1_10 H.1, st_3_m2 gS, st_3_m2 H.1, st_3_m1 gS, st_3_m1 H.1, st_4_m2 gS, st_4_m2 H.1, st_4_m1 gS, st_4_m1 H.1, st_12_m1 gS, st_12_m1 H.1]; first | done | omega)) (by first | assumption | (simp (disch := omega) only [up2_ne, up2_eq, ge, e11, e12, e13, H.r3, H.rz, H.rl, st_1_m1 gS, st_1_m1 H.1, st_1_1 gS, st_1_1 H.1, st_1_2 gS, st_1_2 H.1, st_1_10 gS, st_1_10 H.1, st_3_m2 gS, st_3_m2 H.1, st_3_m1 gS, st_3_m1 H.1, st_4_m2 gS, st_4_m2 H.1, st_4_m1 gS, st_4_m1 H.1, st_12_m1 gS, st_12_m1 H.1]; first | done | rfl | omega)) rfl rfl ?_
    try simp (disch := omega) only [up2_ne, up2_eq, ge, e11, e12, e13, H.r3, H.rz, H.rl, st_1_m1 gS, st_1_m1 H.1, st_1_1 gS, st_1_1 H.1, st_1_2 gS, st_1_2 H.1, st_1_10 gS, st_1_10 H.1, st_3_m2 gS, st_3_m2 H.1, st_3_m1 gS, st_3_m1 H.1, st_4_m2 gS, st_4_m2 H.1, st_4_m1 gS, st_4_m1 H.1, st_12_m1 gS, st_12_m1 H.1]
    refine wp_icmp_ge (tgt := 39) (by first | assumption | exact bI_in _ | exact ⟨by omega, by omega⟩ | exact iAnd_in | exact iOr_in | exact iShr_in | exact iShl_in | exact iXor_in | exact hxs _) (by first | assumption | exact bI_in _ | exact ⟨by omega, by omega⟩ | exact iAnd_in | exact iOr_in | exact iShr_in | exact iShl_in | exact iXor_in | exact hxs _) dX11_places_14 (by decide) (fun c4 => ?_) (fun c4 => ?_)
    · refine wp_iconst dX11_places_39 ?_
      refine wp_istore_n rfl dX11_places_40 rfl (Nat.le_of_ble_eq_true rfl) rfl ?_
      try simp only [List.set_cons_zero, List.set_cons_succ]
      have en : n = (m 200 6).toNat := by omega
      subst en
      exact loop2 0 (by omega) g ⟨gS, by rw [I.2.1]; omega, I.2.2.1, fun r r0 r1 => I.2.2.2 r r0 (by omega), fun a a0 a1 => by exfalso; omega⟩ K
    · refine wp_aload_n rfl rfl dX11_places_17 ?_
      refine wp_getfield1 (z := 12) (kI := 10) fX11_74 dX11_places_18 (by first | omega | (simp (disch := omega) only [up2_ne, up2_eq, ge, e11, e12, e13, H.r3, H.rz, H.rl, st_1_m1 gS, st_1_m1 H.1, st_1_1 gS, st_1_1 H.1, st_1_2 gS, st_1_2 H.1, st_1_10 gS, st_1_10 H.1, st_3_m2 gS, st_3_m2 H.1, st_3_m1 gS, st_3_m1 H.1, st_4_m2 gS, st_4_m2 H.1, st_4_m1 gS, st_4_m1 H.1, st_12_m1 gS, st_12_m1 H.1]; first | done | omega)) (by first | assumption | (simp (disch := omega) only [up2_ne, up2_eq, ge, e11, e12, e13, H.r3, H.rz, H.rl, st_1_m1 gS, st_1_m1 H.1, st_1_1 gS, st_1_1 H.1, st_1_2 gS, st_1_2 H.1, st_1_10 gS, st_1_10 H.1, st_3_m2 gS, st_3_m2 H.1, st_3_m1 gS, st_3_m1 H.1, st_4_m2 gS, st_4_m2 H.1, st_4_m1 gS, st_4_m1 H.1, st_12_m1 gS, st_12_m1 H.1]; first | done | rfl | omega)) rfl rfl ?_
      try simp (disch := omega) only [up2_ne, up2_eq, ge, e11, e12, e13, H.r3, H.rz, H.rl, st_1_m1 gS, st_1_m1 H.1, st_1_1 gS, st_1_1 H.1, st_1_2 gS, st_1_2 H.1, st_1_10 gS, st_1_10 H.1, st_3_m2 gS, st_3_m2 H.1, st_3_m1 gS, st_3_m1 H.1, st_4_m2 gS, st_4_m2 H.1, st_4_m1 gS, st_4_m1 H.1, st_12_m1 gS, st_12_m1 H.1]
      refine wp_aload_n rfl rfl dX11_places_21 ?_
      refine wp_getfield1 (z := 12) (kI := 1) fX11_17 dX11_places_22 (by first | omega | (simp (disch := omega) only [up2_ne, up2_eq, ge, e11, e12, e13, H.r3, H.rz, H.rl, st_1_m1 gS, st_1_m1 H.1, st_1_1 gS, st_1_1 H.1, st_1_2 gS, st_1_2 H.1, st_1_10 gS, st_1_10 H.1, st_3_m2 gS, st_3_m2 H.1, st_3_m1 gS, st_3_m1 H.1, st_4_m2 gS, st_4_m2 H.1, st_4_m1 gS, st_4_m1 H.1, st_12_m1 gS, st_12_m1 H.1]; first | done | omega)) (by first | assumption | (simp (disch := omega) only [up2_ne, up2_eq, ge, e11, e12, e13, H.r3, H.rz, H.rl, st_1_m1 gS, st_1_m1 H.1, st_1_1 gS, st_1_1 H.1, st_1_2 gS, st_1_2 H.1, st_1_10 gS, st_1_10 H.1, st_3_m2 gS, st_3_m2 H.1, st_3_m1 gS, st_3_m1 H.1, st_4_m2 gS, st_4_m2 H.1, st_4_m1 gS, st_4_m1 H.1, st_12_m1 gS, st_12_m1 H.1]; first | done | rfl | omega)) rfl rfl ?_
      try simp (disch := omega) only [up2_ne, up2_eq, ge, e11, e12, e13, H.r3, H.rz, H.rl, st_1_m1 gS, st_1_m1 H.1, st_1_1 gS, st_1_1 H.1, st_1_2 gS, st_1_2 H.1, st_1_10 gS, st_1_10 H.1, st_3_m2 gS, st_3_m2 H.1, st_3_m1 gS, st_3_m1 H.1, st_4_m2 gS, st_4_m2 H.1, st_4_m1 gS, st_4_m1 H.1, st_12_m1 gS, st_12_m1 H.1]
      refine wp_iload_n rfl rfl dX11_places_25 ?_
      refine wp_aaload1 dX11_places_26 (by first | omega | (simp (disch := omega) only [up2_ne, up2_eq, ge, e11, e12, e13, H.r3, H.rz, H.rl, st_1_m1 gS, st_1_m1 H.1, st_1_1 gS, st_1_1 H.1, st_1_2 gS, st_1_2 H.1, st_1_10 gS, st_1_10 H.1, st_3_m2 gS, st_3_m2 H.1, st_3_m1 gS, st_3_m1 H.1, st_4_m2 gS, st_4_m2 H.1, st_4_m1 gS, st_4_m1 H.1, st_12_m1 gS, st_12_m1 H.1]; first | done | omega)) (by first | omega | (simp (disch := omega) only [up2_ne, up2_eq, ge, e11, e12, e13, H.r3, H.rz, H.rl, st_1_m1 gS, st_1_m1 H.1, st_1_1 gS, st_1_1 H.1, st_1_2 gS, st_1_2 H.1, st_1_10 gS, st_1_10 H.1, st_3_m2 gS, st_3_m2 H.1, st_3_m1 gS, st_3_m1 H.1, st_4_m2 gS, st_4_m2 H.1, st_4_m1 gS, st_4_m1 H.1, st_12_m1 gS, st_12_m1 H.1]; first | done | omega)) (by first | omega | (simp (disch := omega) only [up2_ne, up2_eq, ge, e11, e12, e13, H.r3, H.rz, H.rl, st_1_m1 gS, st_1_m1 H.1, st_1_1 gS, st_1_1 H.1, st_1_2 gS, st_1_2 H.1, st_1_10 gS, st_1_10 H.1, st_3_m2 gS, st_3_m2 H.1, st_3_m1 gS, st_3_m1 H.1, st_4_m2 gS, st_4_m2 H.1, st_4_m1 gS, st_4_m1 H.1, st_12_m1 gS, st_12_m1 H.1]; first | done | omega)) (by first | omega | (simp (disch := omega) only [up2_ne, up2_eq, ge, e11, e12, e13, H.r3, H.rz, H.rl, st_1_m1 gS, st_1_m1 H.1, st_1_1 gS, st_1_1 H.1, st_1_2 gS, st_1_2 H.1, st_1_10 gS, st_1_10 H.1, st_3_m2 gS, st_3_m2 H.1, st_3_m1 gS, st_3_m1 H.1, st_4_m2 gS, st_4_m2 H.1, st_4_m1 gS, st_4_m1 H.1, st_12_m1 gS, st_12_m1 H.1]; first | done | omega)) ?_
      try simp (disch := omega) only [up2_ne, up2_eq, ge, e11, e12, e13, H.r3, H.rz, H.rl, st_1_m1 gS, st_1_m1 H.1, st_1_1 gS, st_1_1 H.1, st_1_2 gS, st_1_2 H.1, st_1_10 gS, st_1_10 H.1, st_3_m2 gS, st_3_m2 H.1, st_3_m1 gS, st_3_m1 H.1, st_4_m2 gS, st_4_m2 H.1, st_4_m1 gS, st_4_m1 H.1, st_12_m1 gS, st_12_m1 H.1]
      refine wp_getfield1 (z := 7) (kI := 3) fX11_148 dX11_places_27 (by first | omega | (simp (disch := omega) only [up2_ne, up2_eq, ge, e11, e12, e13, H.r3, H.rz, H.rl, st_1_m1 gS, st_1_m1 H.1, st_1_1 gS, st_1_1 H.1, st_1_2 gS, st_1_2 H.1, st_1_10 gS, st_1_10 H.1, st_3_m2 gS, st_3_m2 H.1, st_3_m1 gS, st_3_m1 H.1, st_4_m2 gS, st_4_m2 H.1, st_4_m1 gS, st_4_m1 H.1, st_12_m1 gS, st_12_m1 H.1]; first | done | omega)) (by first | assumption | (simp (disch := omega) only [up2_ne, up2_eq, ge, e11, e12, e13, H.r3, H.rz, H.rl, st_1_m1 gS, st_1_m1 H.1, st_1_1 gS, st_1_1 H.1, st_1_2 gS, st_1_2 H.1, st_1_10 gS, st_1_10 H.1, st_3_m2 gS, st_3_m2 H.1, st_3_m1 gS, st_3_m1 H.1, st_4_m2 gS, st_4_m2 H.1, st_4_m1 gS, st_4_m1 H.1, st_12_m1 gS, st_12_m1 H.1]; first | done | rfl | omega)) rfl rfl ?_
      try simp (disch := omega) only [up2_ne, up2_eq, ge, e11, e12, e13, H.r3, H.rz, H.rl, st_1_m1 gS, st_1_m1 H.1, st_1_1 gS, st_1_1 H.1, st_1_2 gS, st_1_2 H.1, st_1_10 gS, st_1_10 H.1, st_3_m2 gS, st_3_m2 H.1, st_3_m1 gS, st_3_m1 H.1, st_4_m2 gS, st_4_m2 H.1, st_4_m1 gS, st_4_m1 H.1, st_12_m1 gS, st_12_m1 H.1]
      refine wp_cV1v (ci := 4) okX4_addReader rfl rfl wX11_290 dX11_places_30 (Nat.le_of_ble_eq_true rfl) (Nat.le_of_ble_eq_true rfl) (by first | omega | (simp (disch := omega) only [up2_ne, up2_eq, ge, e11, e12, e13, H.r3, H.rz, H.rl, st_1_m1 gS, st_1_m1 H.1, st_1_1 gS, st_1_1 H.1, st_1_2 gS, st_1_2 H.1, st_1_10 gS, st_1_10 H.1, st_3_m2 gS, st_3_m2 H.1, st_3_m1 gS, st_3_m1 H.1, st_4_m2 gS, st_4_m2 H.1, st_4_m1 gS, st_4_m1 H.1, st_12_m1 gS, st_12_m1 H.1]; first | done | omega)) (by first | assumption | (simp (disch := omega) only [up2_ne, up2_eq, ge, e11, e12, e13, H.r3, H.rz, H.rl, st_1_m1 gS, st_1_m1 H.1, st_1_1 gS, st_1_1 H.1, st_1_2 gS, st_1_2 H.1, st_1_10 gS, st_1_10 H.1, st_3_m2 gS, st_3_m2 H.1, st_3_m1 gS, st_3_m1 H.1, st_4_m2 gS, st_4_m2 H.1, st_4_m1 gS, st_4_m1 H.1, st_12_m1 gS, st_12_m1 H.1]; first | done | rfl | omega)) (s_X4_addReader gS I.2.1 (by omega) (by omega)) (Nat.zero_le _) ?_
      try simp (disch := omega) only [up2_ne, up2_eq, ge, e11, e12, e13, H.r3, H.rz, H.rl, st_1_m1 gS, st_1_m1 H.1, st_1_1 gS, st_1_1 H.1, st_1_2 gS, st_1_2 H.1, st_1_10 gS, st_1_10 H.1, st_3_m2 gS, st_3_m2 H.1, st_3_m1 gS, st_3_m1 H.1, st_4_m2 gS, st_4_m2 H.1, st_4_m1 gS, st_4_m1 H.1, st_12_m1 gS, st_12_m1 H.1]
      refine wp_iinc rfl rfl dX11_places_33 rfl rfl ?_
      try simp only [List.set_cons_zero, List.set_cons_succ]
      refine wp_goto (tgt := 9) dX11_places_36 (by decide) ?_
      rw [show (n : Int) + 1 = ((n + 1 : Nat) : Int) by omega]
      refine ih (by omega) _ ⟨((gS.upA (by decide +kernel) (by omega)).upA (by decide +kernel) (by omega)).up (by decide +kernel), by rw [up2_eq], by simp (disch := omega) only [up2_ne]; exact I.2.2.1, fun r r0 r1 => ?_⟩ (fun x k q => by simp (disch := omega) only [up2_ne]; exact K x k q)
      by_cases c : r = n
      · subst c
        simp (disch := omega) only [up2_ne, up2_eq]
        exact ⟨trivial, trivial⟩
      · simp (disch := omega) only [up2_ne]
        exact I.2.2.2 r r0 (by omega)
  show WP (gX (gq u)) MX11_places (d + 21) b _ 0 [(2, 1), (9, 0), (9, 0), (9, 0)] [] h
  refine wp_aload_n rfl rfl dX11_places_0 ?_
  refine wp_getfield1 (z := 12) (kI := 10) fX11_74 dX11_places_1 (by first | omega | (simp (disch := omega) only [up2_ne, up2_eq, e, e11, e12, e13, st_1_m1 hS, st_1_m1 H.1, st_1_1 hS, st_1_1 H.1, st_1_2 hS, st_1_2 H.1, st_1_10 hS, st_1_10 H.1, st_3_m2 hS, st_3_m2 H.1, st_3_m1 hS, st_3_m1 H.1, st_4_m2 hS, st_4_m2 H.1, st_4_m1 hS, st_4_m1 H.1, st_12_m1 hS, st_12_m1 H.1]; first | done | omega)) (by first | assumption | (simp (disch := omega) only [up2_ne, up2_eq, e, e11, e12, e13, st_1_m1 hS, st_1_m1 H.1, st_1_1 hS, st_1_1 H.1, st_1_2 hS, st_1_2 H.1, st_1_10 hS, st_1_10 H.1, st_3_m2 hS, st_3_m2 H.1, st_3_m1 hS, st_3_m1 H.1, st_4_m2 hS, st_4_m2 H.1, st_4_m1 hS, st_4_m1 H.1, st_12_m1 hS, st_12_m1 H.1]; first | done | rfl | omega)) rfl rfl ?_
  try simp (disch := omega) only [up2_ne, up2_eq, e, e11, e12, e13, st_1_m1 hS, st_1_m1 H.1, st_1_1 hS, st_1_1 H.1, st_1_2 hS, st_1_2 H.1, st_1_10 hS, st_1_10 H.1, st_3_m2 hS, st_3_m2 H.1, st_3_m1 hS, st_3_m1 H.1, st_4_m2 hS, st_4_m2 H.1, st_4_m1 hS, st_4_m1 H.1, st_12_m1 hS, st_12_m1 H.1]
  refine wp_cV0v (ci := 4) okX4_clear rfl rfl wX11_289 dX11_places_4 (Nat.le_of_ble_eq_true rfl) (Nat.le_of_ble_eq_true rfl) (by first | omega | (simp (disch := omega) only [up2_ne, up2_eq, e, e11, e12, e13, st_1_m1 hS, st_1_m1 H.1, st_1_1 hS, st_1_1 H.1, st_1_2 hS, st_1_2 H.1, st_1_10 hS, st_1_10 H.1, st_3_m2 hS, st_3_m2 H.1, st_3_m1 hS, st_3_m1 H.1, st_4_m2 hS, st_4_m2 H.1, st_4_m1 hS, st_4_m1 H.1, st_12_m1 hS, st_12_m1 H.1]; first | done | omega)) (by first | assumption | (simp (disch := omega) only [up2_ne, up2_eq, e, e11, e12, e13, st_1_m1 hS, st_1_m1 H.1, st_1_1 hS, st_1_1 H.1, st_1_2 hS, st_1_2 H.1, st_1_10 hS, st_1_10 H.1, st_3_m2 hS, st_3_m2 H.1, st_3_m1 hS, st_3_m1 H.1, st_4_m2 hS, st_4_m2 H.1, st_4_m1 hS, st_4_m1 H.1, st_12_m1 hS, st_12_m1 H.1]; first | done | rfl | omega)) (s_X4_clear hS) (Nat.zero_le _) ?_
  try simp (disch := omega) only [up2_ne, up2_eq, e, e11, e12, e13, st_1_m1 hS, st_1_m1 H.1, st_1_1 hS, st_1_1 H.1, st_1_2 hS, st_1_2 H.1, st_1_10 hS, st_1_10 H.1, st_3_m2 hS, st_3_m2 H.1, st_3_m1 hS, st_3_m1 H.1, st_4_m2 hS, st_4_m2 H.1, st_4_m1 hS, st_4_m1 H.1, st_12_m1 hS, st_12_m1 H.1]
  refine wp_iconst dX11_places_7 ?_
  refine wp_istore_n rfl dX11_places_8 rfl (Nat.le_of_ble_eq_true rfl) rfl ?_
  try simp only [List.set_cons_zero, List.set_cons_succ]
  exact loop1 0 (by omega) _ ⟨(hS.up (by decide +kernel)).up (by decide +kernel), by rw [up2_ne (by omega), up2_eq]; rfl, up2_eq, fun r r0 r1 => by exfalso; omega⟩ (fun x k q => by rw [up2_ne (by omega), up2_ne (by omega)])
