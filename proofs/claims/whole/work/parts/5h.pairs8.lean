/-! ===== feed: reference, pair ===== -/
theorem s_X12_feed {u : gT} {j : Nat} {h m : mH} {d b : Nat} (H : Inv j m) (e : Cr h m) (hS : St h) {n w : Int} (i1 : InI n) : Rlt (gX (gq u)) MX12_feed (d + 2) b [(2, 200), (0, n), (1, w)] h (fun x h1 => (¬ (1 ≤ n ∧ n ≤ 8) ∧ x = (0, -2) ∧ h1 = h) ∨ ((1 ≤ n ∧ n ≤ 8) ∧ 160 < m 200 29 + n ∧ x = (0, -4) ∧ h1 = h) ∨ ((1 ≤ n ∧ n ≤ 8) ∧ m 200 29 + n ≤ 160 ∧ x = (0, m 200 29 + n) ∧ h1 = up2 (hfs h 228 (m 200 29) n (bv w)) 200 29 (m 200 29 + n))) := by
  refine Rlt.of ?_
  have hn := H.ns
  have e29 := e 200 29 (by omega)
  have loop : (1 ≤ n ∧ n ≤ 8) → m 200 29 + n ≤ 160 → ∀ i : Nat, i ≤ n.toNat → WP (gX (gq u)) MX12_feed (d + 2) b (fun x h1 => (¬ (1 ≤ n ∧ n ≤ 8) ∧ x = (0, -2) ∧ h1 = h) ∨ ((1 ≤ n ∧ n ≤ 8) ∧ 160 < m 200 29 + n ∧ x = (0, -4) ∧ h1 = h) ∨ ((1 ≤ n ∧ n ≤ 8) ∧ m 200 29 + n ≤ 160 ∧ x = (0, m 200 29 + n) ∧ h1 = up2 (hfs h 228 (m 200 29) n (bv w)) 200 29 (m 200 29 + n))) 33 [(2, 200), (0, n), (1, w), (9, 0), (0, (i : Int))] [] (up2 (hfs h 228 (m 200 29) (i : Int) (bv w)) 200 29 (m 200 29 + (i : Int))) := by
    intro n1 n2
    refine loop_w n.toNat (fun i hi ih => ?_)
    refine wp_iload rfl dX12_feed_33 ?_
    refine wp_iload_n rfl rfl dX12_feed_35 ?_
    refine wp_icmp_ge (tgt := 73) (by first | assumption | exact bI_in _ | exact ⟨by omega, by omega⟩ | exact iAnd_in | exact iOr_in | exact iShr_in | exact iShl_in | exact iXor_in | exact hxs _) (by first | assumption | exact bI_in _ | exact ⟨by omega, by omega⟩ | exact iAnd_in | exact iOr_in | exact iShr_in | exact iShl_in | exact iXor_in | exact hxs _) dX12_feed_36 (by decide) (fun c1 => ?_) (fun c1 => ?_)
    · refine wp_aload_n rfl rfl dX12_feed_73 ?_
      refine wp_getfield1 (z := 13) (kI := 29) fX12_214 dX12_feed_74 (by first | omega | (simp (disch := omega) only [up2_ne, up2_eq, e29, hfs_ne, st_200_m1 hS, st_200_28 hS, st_228_m2 hS, st_228_m1 hS]; first | done | omega)) (by first | assumption | (simp (disch := omega) only [up2_ne, up2_eq, e29, hfs_ne, st_200_m1 hS, st_200_28 hS, st_228_m2 hS, st_228_m1 hS]; first | done | rfl | omega)) rfl rfl ?_
      try simp (disch := omega) only [up2_ne, up2_eq, e29, hfs_ne, st_200_m1 hS, st_200_28 hS, st_228_m2 hS, st_228_m1 hS]
      refine wp_iret dX12_feed_77 rfl ?_
      have en : n = (i : Int) := by omega
      subst en
      exact Or.inr (Or.inr ⟨n1, n2, by first | rfl | (congr 1; omega), rfl⟩)
    · refine wp_aload_n rfl rfl dX12_feed_39 ?_
      refine wp_getfield1 (z := 13) (kI := 28) fX12_160 dX12_feed_40 (by first | omega | (simp (disch := omega) only [up2_ne, up2_eq, e29, hfs_ne, st_200_m1 hS, st_200_28 hS, st_228_m2 hS, st_228_m1 hS]; first | done | omega)) (by first | assumption | (simp (disch := omega) only [up2_ne, up2_eq, e29, hfs_ne, st_200_m1 hS, st_200_28 hS, st_228_m2 hS, st_228_m1 hS]; first | done | rfl | omega)) rfl rfl ?_
      try simp (disch := omega) only [up2_ne, up2_eq, e29, hfs_ne, st_200_m1 hS, st_200_28 hS, st_228_m2 hS, st_228_m1 hS]
      refine wp_aload_n rfl rfl dX12_feed_43 ?_
      refine wp_getfield1 (z := 13) (kI := 29) fX12_214 dX12_feed_44 (by first | omega | (simp (disch := omega) only [up2_ne, up2_eq, e29, hfs_ne, st_200_m1 hS, st_200_28 hS, st_228_m2 hS, st_228_m1 hS]; first | done | omega)) (by first | assumption | (simp (disch := omega) only [up2_ne, up2_eq, e29, hfs_ne, st_200_m1 hS, st_200_28 hS, st_228_m2 hS, st_228_m1 hS]; first | done | rfl | omega)) rfl rfl ?_
      try simp (disch := omega) only [up2_ne, up2_eq, e29, hfs_ne, st_200_m1 hS, st_200_28 hS, st_228_m2 hS, st_228_m1 hS]
      refine wp_lload_n rfl rfl dX12_feed_47 ?_
      refine wp_bipush (by decide) dX12_feed_48 ?_
      refine wp_iload rfl dX12_feed_50 ?_
      refine wp_imul dX12_feed_52 ?_
      refine wp_lshr dX12_feed_53 ?_
      refine wp_l2i dX12_feed_54 ?_
      refine wp_i2b dX12_feed_55 ?_
      refine wp_bastore1 dX12_feed_56 (by first | omega | (simp (disch := omega) only [up2_ne, up2_eq, e29, hfs_ne, st_200_m1 hS, st_200_28 hS, st_228_m2 hS, st_228_m1 hS]; first | done | omega)) (by first | assumption | (simp (disch := omega) only [up2_ne, up2_eq, e29, hfs_ne, st_200_m1 hS, st_200_28 hS, st_228_m2 hS, st_228_m1 hS]; first | done | rfl | omega)) (by first | omega | (simp (disch := omega) only [up2_ne, up2_eq, e29, hfs_ne, st_200_m1 hS, st_200_28 hS, st_228_m2 hS, st_228_m1 hS]; first | done | omega)) (by first | omega | (simp (disch := omega) only [up2_ne, up2_eq, e29, hfs_ne, st_200_m1 hS, st_200_28 hS, st_228_m2 hS, st_228_m1 hS]; first | done | omega)) ?_
      refine wp_aload_n rfl rfl dX12_feed_57 ?_
      refine wp_dup (by decide) dX12_feed_58 ?_
      refine wp_getfield1 (z := 13) (kI := 29) fX12_214 dX12_feed_59 (by first | omega | (simp (disch := omega) only [up2_ne, up2_eq, e29, hfs_ne, st_200_m1 hS, st_200_28 hS, st_228_m2 hS, st_228_m1 hS]; first | done | omega)) (by first | assumption | (simp (disch := omega) only [up2_ne, up2_eq, e29, hfs_ne, st_200_m1 hS, st_200_28 hS, st_228_m2 hS, st_228_m1 hS]; first | done | rfl | omega)) rfl rfl ?_
      try simp (disch := omega) only [up2_ne, up2_eq, e29, hfs_ne, st_200_m1 hS, st_200_28 hS, st_228_m2 hS, st_228_m1 hS]
      refine wp_iconst dX12_feed_62 ?_
      refine wp_iadd dX12_feed_63 ?_
      refine wp_putfield1 (z := 13) (kI := 29) fX12_214 dX12_feed_64 (by first | omega | (simp (disch := omega) only [up2_ne, up2_eq, e29, hfs_ne, st_200_m1 hS, st_200_28 hS, st_228_m2 hS, st_228_m1 hS]; first | done | omega)) (by first | assumption | (simp (disch := omega) only [up2_ne, up2_eq, e29, hfs_ne, st_200_m1 hS, st_200_28 hS, st_228_m2 hS, st_228_m1 hS]; first | done | rfl | omega)) rfl rfl ?_
      refine wp_iinc rfl rfl dX12_feed_67 rfl rfl ?_
      try simp only [List.set_cons_zero, List.set_cons_succ]
      refine wp_goto (tgt := 33) dX12_feed_70 (by decide) ?_
      have hq := ih (by omega)
      rw [up_feed (by decide)]
      have es := hfs_s (h := h) (a := 228) (lo := m 200 29) (n := (i : Int)) (f := bv w) (by omega)
      rw [show ((i + 1 : Nat) : Int) = (i : Int) + 1 by omega, ← es, show m 200 29 + ((i : Int) + 1) = m 200 29 + (i : Int) + 1 by omega] at hq
      exact hq
  show WP (gX (gq u)) MX12_feed (d + 2) b _ 0 [(2, 200), (0, n), (1, w), (9, 0), (9, 0)] [] h
  refine wp_iload_n rfl rfl dX12_feed_0 ?_
  refine wp_i2l (by first | assumption | exact bI_in _ | exact ⟨by omega, by omega⟩ | exact iAnd_in | exact iOr_in | exact iShr_in | exact iShl_in | exact iXor_in | exact hxs _) dX12_feed_1 ?_
  refine wp_lconst (v := 1) rfl dX12_feed_2 ?_
  refine wp_ldc2 kX12_271 dX12_feed_3 ?_
  refine wp_cS3 okX12_isIn wX12_15 dX12_feed_6 rfl (Nat.le_of_ble_eq_true rfl) (Nat.le_of_ble_eq_true rfl) (s_X12_isIn (by exact ⟨by have := i1.1; omega, by have := i1.2; omega⟩) (by exact ⟨by omega, by omega⟩) (by exact ⟨by omega, by omega⟩)) (Nat.zero_le _) ?_
  try simp (disch := omega) only [up2_ne, up2_eq, e29, hfs_ne, st_200_m1 hS, st_200_28 hS, st_228_m2 hS, st_228_m1 hS]
  refine wp_ifB_ne (tgt := 15) dX12_feed_9 (by decide) (fun c2 => ?_) (fun c2 => ?_)
  · refine wp_aload_n rfl rfl dX12_feed_15 ?_
    refine wp_getfield1 (z := 13) (kI := 29) fX12_214 dX12_feed_16 (by first | omega | (simp (disch := omega) only [up2_ne, up2_eq, e29, hfs_ne, st_200_m1 hS, st_200_28 hS, st_228_m2 hS, st_228_m1 hS]; first | done | omega)) (by first | assumption | (simp (disch := omega) only [up2_ne, up2_eq, e29, hfs_ne, st_200_m1 hS, st_200_28 hS, st_228_m2 hS, st_228_m1 hS]; first | done | rfl | omega)) rfl rfl ?_
    try simp (disch := omega) only [up2_ne, up2_eq, e29, hfs_ne, st_200_m1 hS, st_200_28 hS, st_228_m2 hS, st_228_m1 hS]
    refine wp_iload_n rfl rfl dX12_feed_19 ?_
    refine wp_iadd dX12_feed_20 ?_
    refine wp_sipush (by decide) dX12_feed_21 ?_
    refine wp_icmp_le (tgt := 30) (by first | assumption | exact bI_in _ | exact ⟨by omega, by omega⟩ | exact iAnd_in | exact iOr_in | exact iShr_in | exact iShl_in | exact iXor_in | exact hxs _) (by first | assumption | exact bI_in _ | exact ⟨by omega, by omega⟩ | exact iAnd_in | exact iOr_in | exact iShr_in | exact iShl_in | exact iXor_in | exact hxs _) dX12_feed_24 (by decide) (fun c3 => ?_) (fun c3 => ?_)
    · refine wp_iconst dX12_feed_30 ?_
      refine wp_istore dX12_feed_31 rfl (Nat.le_of_ble_eq_true rfl) rfl ?_
      try simp only [List.set_cons_zero, List.set_cons_succ]
      have l0 := loop (by omega) (by omega) 0 (by omega)
      have es : up2 h 200 29 (m 200 29) = h := up2_same (by omega)
      rw [show (((0 : Nat) : Int)) = 0 from rfl, hfs_0, Int.add_zero, es] at l0
      exact l0
    · refine wp_bipush (by decide) dX12_feed_27 ?_
      refine wp_iret dX12_feed_29 rfl ?_
      first | exact Or.inl ⟨by omega, rfl, rfl⟩ | exact Or.inr (Or.inl ⟨by omega, by omega, rfl, rfl⟩)
  · refine wp_bipush (by decide) dX12_feed_12 ?_
    refine wp_iret dX12_feed_14 rfl ?_
    first | exact Or.inl ⟨by omega, rfl, rfl⟩ | exact Or.inr (Or.inl ⟨by omega, by omega, rfl, rfl⟩)
theorem p_feed {u : gT} (j : Nat) (h : mH) (hj : j < 512) (hI : Inv j h) (n w : Int) (i1 : InI n) (i2 : InL w) : PairI u Inv MX11_feed MX12_feed [(0, n), (1, w)] j h := by
  have hS := hI.1
  have hn := hI.ns
  have hr := s_X12_feed (u := u) (d := 2045) (b := 0) (w := w) hI Cr_rfl hS i1
  refine (s_X11_feed (d := 2045) (b := 300) (w := w) hI Cl_rfl hS i1).mono ?_
  rintro r h1 (⟨y1, rfl, rfl⟩ | ⟨y1, y2, rfl, rfl⟩ | ⟨y1, y2, rfl, rfl⟩) -
  · refine ⟨_, rfl, ⟨by decide, by decide⟩, hr.mono ?_⟩
    rintro r h2 (⟨z1, rfl, rfl⟩ | ⟨z1, z2, rfl, rfl⟩ | ⟨z1, z2, rfl, rfl⟩) -
    · exact ⟨rfl, Inv_same hI⟩
    · exact absurd z1 y1
    · exact absurd z1 y1
  · refine ⟨_, rfl, ⟨by decide, by decide⟩, hr.mono ?_⟩
    rintro r h2 (⟨z1, rfl, rfl⟩ | ⟨z1, z2, rfl, rfl⟩ | ⟨z1, z2, rfl, rfl⟩) -
    · exact absurd y1 z1
    · exact ⟨rfl, Inv_same hI⟩
    · exfalso; omega
  · have hS1 : St (up2 (hfs h 13 (h 200 29) n (bv w)) 7 1 (h 200 29 + n)) := (hS.hfs (by decide +kernel) (by omega)).up (by decide +kernel)
    have eR : Cr (up2 (hfs h 13 (h 200 29) n (bv w)) 7 1 (h 200 29 + n)) h := fun p k q => by simp (disch := omega) only [hfs_ne, up2_ne, up2_eq, nw_ne, nw_m1, nw_m2, true_and, and_true]
    refine ⟨_, rfl, ⟨by omega, by omega⟩, (s_X12_feed (u := u) (d := 2045) (b := 0) (w := w) hI eR hS1 i1).mono ?_⟩
    rintro r h2 (⟨z1, rfl, rfl⟩ | ⟨z1, z2, rfl, rfl⟩ | ⟨z1, z2, rfl, rfl⟩) -
    · exact absurd y1 z1
    · exfalso; omega
    obtain ⟨-, aN, aF, aR, aA, aB, aG, aS, aP, aT⟩ := id hI
    have n_ := aN
    unfold iN at n_
    refine ⟨rfl, (hS1.hfs (by decide +kernel) (by omega)).up (by decide +kernel), ?_, iF_up (iF_cg (by simp (disch := omega) only [hfs_ne, up2_ne, up2_eq, nw_ne, nw_m1, nw_m2, true_and, and_true]) (fun x k q => by simp (disch := omega) only [hfs_ne, up2_ne, up2_eq, nw_ne, nw_m1, nw_m2, true_and, and_true]) aF), iR_cg (by simp (disch := omega) only [hfs_ne, up2_ne, up2_eq, nw_ne, nw_m1, nw_m2, true_and, and_true]) (by simp (disch := omega) only [hfs_ne, up2_ne, up2_eq, nw_ne, nw_m1, nw_m2, true_and, and_true]) (fun x k q => by simp (disch := omega) only [hfs_ne, up2_ne, up2_eq, nw_ne, nw_m1, nw_m2, true_and, and_true]) aR, iA_cg (by simp (disch := omega) only [hfs_ne, up2_ne, up2_eq, nw_ne, nw_m1, nw_m2, true_and, and_true]) (by simp (disch := omega) only [hfs_ne, up2_ne, up2_eq, nw_ne, nw_m1, nw_m2, true_and, and_true]; omega) (fun x k q => by simp (disch := omega) only [hfs_ne, up2_ne, up2_eq, nw_ne, nw_m1, nw_m2, true_and, and_true]) aA, iB_cg (by simp (disch := omega) only [hfs_ne, up2_ne, up2_eq, nw_ne, nw_m1, nw_m2, true_and, and_true]) (by simp (disch := omega) only [hfs_ne, up2_ne, up2_eq, nw_ne, nw_m1, nw_m2, true_and, and_true]) (fun x k q => by simp (disch := omega) only [hfs_ne, up2_ne, up2_eq, nw_ne, nw_m1, nw_m2, true_and, and_true]) aB, iG_cg (by simp (disch := omega) only [hfs_ne, up2_ne, up2_eq, nw_ne, nw_m1, nw_m2, true_and, and_true]) (by simp (disch := omega) only [hfs_ne, up2_ne, up2_eq, nw_ne, nw_m1, nw_m2, true_and, and_true]; omega) (fun x k q => by simp (disch := omega) only [hfs_ne, up2_ne, up2_eq, nw_ne, nw_m1, nw_m2, true_and, and_true]) aG, iS_cg (fun x k q => by simp (disch := omega) only [hfs_ne, up2_ne, up2_eq, nw_ne, nw_m1, nw_m2, true_and, and_true]) aS, ?_, iT_cg (by simp (disch := omega) only [hfs_ne, up2_ne, up2_eq, nw_ne, nw_m1, nw_m2, true_and, and_true]) (by omega) (fun x k q => by simp (disch := omega) only [hfs_ne, up2_ne, up2_eq, nw_ne, nw_m1, nw_m2, true_and, and_true]) aT⟩
    · unfold iN
      simp (disch := omega) only [hfs_ne, up2_ne, up2_eq, nw_ne, nw_m1, nw_m2, true_and, and_true]
      omega
    · intro k k0 k1
      have hp := aP k k0 k1
      have hb := bv_in (w := w) (i := k - h 200 29)
      by_cases c : h 200 29 ≤ k ∧ k < h 200 29 + n
      · have ec := c.1
        have ed := c.2
        simp (disch := omega) only [hfs_ne, hfs_eq, up2_ne, up2_eq, nw_ne, nw_m1, nw_m2, true_and, and_true]
        first | exact ⟨fun _ => rfl, hb.1, hb.2, hb.1, hb.2⟩ | exact ⟨fun _ => trivial, hb.1, hb.2, hb.1, hb.2⟩ | omega
      · have ec : k < h 200 29 ∨ h 200 29 + n ≤ k := by omega
        simp (disch := omega) only [hfs_ne, up2_ne, up2_eq, nw_ne, nw_m1, nw_m2, true_and, and_true]
        exact ⟨fun q => hp.1 (by omega), hp.2⟩
