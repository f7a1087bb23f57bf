/-! ===== pairs: fund, give, fundTold ===== -/
theorem St_fundH {g : gG} {h : mH} {e : Int} (H : St h) (h0 : 0 ≤ h 1 11) (h5 : h 1 11 < 5) : St (fundH g h e) := (((H.nwD (by omega)).upD (by omega)).upA (by decide +kernel) h0).up (by decide +kernel)
set_option maxHeartbeats 1000000 in
theorem p_fund {u : gT} (j : Nat) (h : mH) (hj : j < 512) (hI : Inv j h) (a1 : Int) (i1 : InI a1) : PairI u Inv MX11_fund MX12_fund [(0, a1)] j h := by
  obtain ⟨hS, aN, aF, aR, aA, aB, aG, aS, aP, aT⟩ := id hI
  have n := aN
  unfold iN at n
  have hF := aF (h 200 0) (by omega)
  refine (s_X11_fund (d := 2045) hS i1 (by omega) (by omega) (fun q => by rw [show h 1 11 = h 200 0 by omega]; omega)).mono ?_
  rintro r h1 (⟨q, rfl, rfl⟩ | ⟨q1, q2, rfl, rfl⟩ | ⟨q1, q2, rfl, rfl⟩) -
  · refine ⟨-2, rfl, ⟨by decide, by decide⟩, (s_X12_fund (d := 2045) (b := 0) hS i1 (by omega) (by omega)).mono ?_⟩
    rintro r h2 (⟨z, rfl, rfl⟩ | ⟨z1, z2, rfl, rfl⟩ | ⟨z1, z2, rfl, rfl⟩) -
    · exact ⟨rfl, Inv_same hI⟩
    · exfalso; omega
    · exfalso; omega
  · refine ⟨-4, rfl, ⟨by decide, by decide⟩, (s_X12_fund (d := 2045) (b := 0) hS i1 (by omega) (by omega)).mono ?_⟩
    rintro r h2 (⟨z, rfl, rfl⟩ | ⟨z1, z2, rfl, rfl⟩ | ⟨z1, z2, rfl, rfl⟩) -
    · exfalso; omega
    · exact ⟨rfl, Inv_same hI⟩
    · exfalso; omega
  · have hS1 : St (fundH (gq u) h a1) := St_fundH hS (by omega) q2
    have e0 : fundH (gq u) h a1 200 0 = h 200 0 := by simp (disch := omega) only [fundH, up2_ne, up2_eq, nw_ne, nw_m1, nw_m2, true_and, and_true, nf_3_1, nf_3_2, nf_3_3, nf_3_4]
    refine ⟨_, rfl, ⟨by omega, by omega⟩, (s_X12_fund (d := 2045) (b := 0) hS1 i1 (by omega) (by omega)).mono ?_⟩
    rintro r h2 (⟨z, rfl, rfl⟩ | ⟨z1, z2, rfl, rfl⟩ | ⟨z1, z2, rfl, rfl⟩) -
    · exfalso; omega
    · exfalso; omega
    rw [e0]
    have e11 : h 1 11 = h 200 0 := by omega
    refine ⟨by rw [e11], (hS1.upA (by decide +kernel) (by omega)).up (by decide +kernel), ?_, ?_, iR_cg (by simp (disch := omega) only [fundH, up2_ne, up2_eq, nw_ne, nw_m1, nw_m2, true_and, and_true, nf_3_1, nf_3_2, nf_3_3, nf_3_4]) (by simp (disch := omega) only [fundH, up2_ne, up2_eq, nw_ne, nw_m1, nw_m2, true_and, and_true, nf_3_1, nf_3_2, nf_3_3, nf_3_4]) (fun x k q => by simp (disch := omega) only [fundH, up2_ne, up2_eq, nw_ne, nw_m1, nw_m2, true_and, and_true, nf_3_1, nf_3_2, nf_3_3, nf_3_4]) aR, iA_cg (by simp (disch := omega) only [fundH, up2_ne, up2_eq, nw_ne, nw_m1, nw_m2, true_and, and_true, nf_3_1, nf_3_2, nf_3_3, nf_3_4]) (by simp (disch := omega) only [fundH, up2_ne, up2_eq, nw_ne, nw_m1, nw_m2, true_and, and_true, nf_3_1, nf_3_2, nf_3_3, nf_3_4]; omega) (fun x k q => by simp (disch := omega) only [fundH, up2_ne, up2_eq, nw_ne, nw_m1, nw_m2, true_and, and_true, nf_3_1, nf_3_2, nf_3_3, nf_3_4]) aA, iB_cg (by simp (disch := omega) only [fundH, up2_ne, up2_eq, nw_ne, nw_m1, nw_m2, true_and, and_true, nf_3_1, nf_3_2, nf_3_3, nf_3_4]) (by simp (disch := omega) only [fundH, up2_ne, up2_eq, nw_ne, nw_m1, nw_m2, true_and, and_true, nf_3_1, nf_3_2, nf_3_3, nf_3_4]) (fun x k q => by simp (disch := omega) only [fundH, up2_ne, up2_eq, nw_ne, nw_m1, nw_m2, true_and, and_true, nf_3_1, nf_3_2, nf_3_3, nf_3_4]) aB, iG_cg (by simp (disch := omega) only [fundH, up2_ne, up2_eq, nw_ne, nw_m1, nw_m2, true_and, and_true, nf_3_1, nf_3_2, nf_3_3, nf_3_4]) (by simp (disch := omega) only [fundH, up2_ne, up2_eq, nw_ne, nw_m1, nw_m2, true_and, and_true, nf_3_1, nf_3_2, nf_3_3, nf_3_4]; omega) (fun x k q => by simp (disch := omega) only [fundH, up2_ne, up2_eq, nw_ne, nw_m1, nw_m2, true_and, and_true, nf_3_1, nf_3_2, nf_3_3, nf_3_4]) aG, iS_cg (fun x k q => by simp (disch := omega) only [fundH, up2_ne, up2_eq, nw_ne, nw_m1, nw_m2, true_and, and_true, nf_3_1, nf_3_2, nf_3_3, nf_3_4]) aS, iP_cg (by simp (disch := omega) only [fundH, up2_ne, up2_eq, nw_ne, nw_m1, nw_m2, true_and, and_true, nf_3_1, nf_3_2, nf_3_3, nf_3_4]) (fun x k q => by simp (disch := omega) only [fundH, up2_ne, up2_eq, nw_ne, nw_m1, nw_m2, true_and, and_true, nf_3_1, nf_3_2, nf_3_3, nf_3_4]) aP, iT_cg (by simp (disch := omega) only [fundH, up2_ne, up2_eq, nw_ne, nw_m1, nw_m2, true_and, and_true, nf_3_1, nf_3_2, nf_3_3, nf_3_4]) (by omega) (fun x k q => by simp (disch := omega) only [fundH, up2_ne, up2_eq, nw_ne, nw_m1, nw_m2, true_and, and_true, nf_3_1, nf_3_2, nf_3_3, nf_3_4]) aT⟩
    · unfold iN
      simp (disch := omega) only [fundH, up2_ne, up2_eq, nw_ne, nw_m1, nw_m2, true_and, and_true, nf_3_1, nf_3_2, nf_3_3, nf_3_4]
      omega
    · intro i i0 i1
      have := aF i i0 i1
      have ej : ((j + 1 : Nat) : Int) = (j : Int) + 1 := by omega
      rw [ej]
      unfold fundH
      rw [e11]
      rcases Int.lt_trichotomy i (h 200 0) with c | c | c
      · simp (disch := omega) only [up2_ne, up2_eq, nw_ne, nw_m1, nw_m2, true_and, and_true, nf_3_1, nf_3_2, nf_3_3, nf_3_4]
        omega
      · subst c
        simp (disch := omega) only [up2_ne, up2_eq, nw_ne, nw_m1, nw_m2, true_and, and_true, nf_3_1, nf_3_2, nf_3_3, nf_3_4]
        omega
      · simp (disch := omega) only [up2_ne, up2_eq, nw_ne, nw_m1, nw_m2, true_and, and_true, nf_3_1, nf_3_2, nf_3_3, nf_3_4]
        omega

