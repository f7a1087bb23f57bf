/-! ===== pairs: give, fundTold ===== -/
set_option maxHeartbeats 1000000 in
theorem p_give {u : gT} (j : Nat) (h : mH) (hj : j < 512) (hI : Inv j h) (f m : Int) (i1 : InI f) (i2 : InI m) : PairI u Inv MX11_give MX12_give [(0, f), (0, m)] j h := by
  obtain ⟨hS, aN, aF, aR, aA, aB, aG, aS, aP, aT⟩ := id hI
  have n := aN
  unfold iN at n
  have e2 : ∀ i, 0 ≤ i → i < 5 → 0 ≤ h 202 i ∧ h 202 i ≤ 10000000 := fun i i0 i1 => ⟨(aF i i0 i1).2.2.2.1, (aF i i0 i1).2.2.2.2.1⟩
  by_cases q : 0 ≤ f ∧ f < h 1 11
  · have hf := aF f q.1 (by omega)
    obtain ⟨⟨f1, f2, f3, f4, f5, f6, f7, f8⟩ | ⟨f1, -⟩, fr⟩ := hf
    rotate_left
    · exfalso; omega
    refine (give_t (d := 2045) (b := 300) hS i1 i2 (by omega) (by omega) q.1 q.2 f2 f3 (by omega) (by omega)).mono ?_
    rintro r h1 (⟨z, rfl, rfl⟩ | ⟨z1, z2, rfl, rfl⟩ | ⟨z1, z2, rfl, rfl⟩) -
    · refine ⟨_, rfl, ⟨by decide, by decide⟩, (s_X12_give (d := 2045) (b := 0) hS i1 i2 (by omega) (by omega) e2).mono ?_⟩
      rintro r h2 (⟨z, rfl, rfl⟩ | ⟨y1, y2, rfl, rfl⟩ | ⟨y1, y2, rfl, rfl⟩) -
      · exact ⟨rfl, Inv_same hI⟩
      · exfalso; omega
      · exfalso; omega
    · refine ⟨_, rfl, ⟨by decide, by decide⟩, (s_X12_give (d := 2045) (b := 0) hS i1 i2 (by omega) (by omega) e2).mono ?_⟩
      rintro r h2 (⟨z, rfl, rfl⟩ | ⟨y1, y2, rfl, rfl⟩ | ⟨y1, y2, rfl, rfl⟩) -
      · exfalso; omega
      · exact ⟨rfl, Inv_same hI⟩
      · exfalso; omega
    · have hS1 : St (up2 (up2 h (100 + f) 1 (h (100 + f) 1 + m)) (100 + f) 2 (h (100 + f) 2 + m)) := (hS.upD (by omega)).upD (by omega)
      have e0 : ∀ x k, ¬ (100 ≤ x ∧ x < 105) → up2 (up2 h (100 + f) 1 (h (100 + f) 1 + m)) (100 + f) 2 (h (100 + f) 2 + m) x k = h x k := fun x k z => by simp (disch := omega) only [up2_ne, up2_eq, nw_ne, nw_m1, nw_m2, true_and, and_true]
      have e3 : ∀ i, 0 ≤ i → i < 5 → 0 ≤ up2 (up2 h (100 + f) 1 (h (100 + f) 1 + m)) (100 + f) 2 (h (100 + f) 2 + m) 202 i ∧ up2 (up2 h (100 + f) 1 (h (100 + f) 1 + m)) (100 + f) 2 (h (100 + f) 2 + m) 202 i ≤ 10000000 := fun i i0 i1 => by rw [e0 202 i (by omega)]; exact e2 i i0 i1
      refine ⟨_, rfl, ⟨by omega, by omega⟩, (s_X12_give (d := 2045) (b := 0) hS1 i1 i2 (by rw [e0 _ _ (by omega)]; omega) (by rw [e0 _ _ (by omega)]; omega) e3).mono ?_⟩
      rw [e0 200 0 (by omega), e0 202 f (by omega), e0 203 f (by omega)]
      rintro r h2 (⟨z, rfl, rfl⟩ | ⟨y1, y2, rfl, rfl⟩ | ⟨y1, y2, rfl, rfl⟩) -
      · exfalso; omega
      · exfalso; omega
      refine ⟨by rw [f6], (hS1.upA (by decide +kernel) q.1).upA (by decide +kernel) q.1, ?_, ?_, iR_cg (by simp (disch := omega) only [up2_ne, up2_eq, nw_ne, nw_m1, nw_m2, true_and, and_true]) (by simp (disch := omega) only [up2_ne, up2_eq, nw_ne, nw_m1, nw_m2, true_and, and_true]) (fun x k q => by simp (disch := omega) only [up2_ne, up2_eq, nw_ne, nw_m1, nw_m2, true_and, and_true]) aR, iA_cg (by simp (disch := omega) only [up2_ne, up2_eq, nw_ne, nw_m1, nw_m2, true_and, and_true]) (by simp (disch := omega) only [up2_ne, up2_eq, nw_ne, nw_m1, nw_m2, true_and, and_true]; omega) (fun x k q => by simp (disch := omega) only [up2_ne, up2_eq, nw_ne, nw_m1, nw_m2, true_and, and_true]) aA, iB_cg (by simp (disch := omega) only [up2_ne, up2_eq, nw_ne, nw_m1, nw_m2, true_and, and_true]) (by simp (disch := omega) only [up2_ne, up2_eq, nw_ne, nw_m1, nw_m2, true_and, and_true]) (fun x k q => by simp (disch := omega) only [up2_ne, up2_eq, nw_ne, nw_m1, nw_m2, true_and, and_true]) aB, iG_cg (by simp (disch := omega) only [up2_ne, up2_eq, nw_ne, nw_m1, nw_m2, true_and, and_true]) (by simp (disch := omega) only [up2_ne, up2_eq, nw_ne, nw_m1, nw_m2, true_and, and_true]; omega) (fun x k q => by simp (disch := omega) only [up2_ne, up2_eq, nw_ne, nw_m1, nw_m2, true_and, and_true]) aG, iS_cg (fun x k q => by simp (disch := omega) only [up2_ne, up2_eq, nw_ne, nw_m1, nw_m2, true_and, and_true]) aS, iP_cg (by simp (disch := omega) only [up2_ne, up2_eq, nw_ne, nw_m1, nw_m2, true_and, and_true]) (fun x k q => by simp (disch := omega) only [up2_ne, up2_eq, nw_ne, nw_m1, nw_m2, true_and, and_true]) aP, iT_cg (by simp (disch := omega) only [up2_ne, up2_eq, nw_ne, nw_m1, nw_m2, true_and, and_true]) (by omega) (fun x k q => by simp (disch := omega) only [up2_ne, up2_eq, nw_ne, nw_m1, nw_m2, true_and, and_true]) aT⟩
      · unfold iN
        simp (disch := omega) only [up2_ne, up2_eq, nw_ne, nw_m1, nw_m2, true_and, and_true]
        omega
      · intro i i0 i1
        have := aF i i0 i1
        have ej : ((j + 1 : Nat) : Int) = (j : Int) + 1 := by omega
        rw [ej]
        by_cases c : i = f
        · subst c
          simp (disch := omega) only [up2_ne, up2_eq, nw_ne, nw_m1, nw_m2, true_and, and_true]
          omega
        · simp (disch := omega) only [up2_ne, up2_eq, nw_ne, nw_m1, nw_m2, true_and, and_true]
          omega
  · refine (give_f (d := 2045) (b := 300) hS i1 i2 (by omega) (by omega) q).rlt.mono ?_
    rintro r h1 ⟨rfl, rfl⟩ -
    refine ⟨_, rfl, ⟨by decide, by decide⟩, (s_X12_give (d := 2045) (b := 0) hS i1 i2 (by omega) (by omega) e2).mono ?_⟩
    rintro r h2 (⟨z, rfl, rfl⟩ | ⟨y1, y2, rfl, rfl⟩ | ⟨y1, y2, rfl, rfl⟩) -
    · exact ⟨rfl, Inv_same hI⟩
    · exfalso; omega
    · exfalso; omega
theorem p_fundTold {u : gT} (j : Nat) (h : mH) (hj : j < 512) (hI : Inv j h) (f w : Int) (i1 : InI f) (i2 : InI w) : PairI u Inv MX11_fundTold MX12_fundTold [(0, f), (0, w)] j h := by
  obtain ⟨hS, aN, aF, aR, aA, aB, aG, aS, aP, aT⟩ := id hI
  have n := aN
  unfold iN at n
  by_cases q : 0 ≤ f ∧ f < h 1 11
  · have hf := aF f q.1 (by omega)
    obtain ⟨⟨f1, f2, f3, f4, f5, f6, f7, f8⟩ | ⟨f1, -⟩, fr⟩ := hf
    rotate_left
    · exfalso; omega
    refine (fundTold_t (d := 2045) (b := 300) hS i1 i2 (by omega) (by omega) q.1 q.2 f2 f3).rlt.mono ?_
    rintro r h1 ⟨rfl, rfl⟩ -
    refine ⟨_, rfl, ?_, (s_X12_fundTold (d := 2046) (b := 0) hS i1 i2 (by omega) (by omega)).rlt.mono ?_⟩
    · repeat' split
      all_goals exact ⟨by omega, by omega⟩
    · rintro r h2 ⟨rfl, rfl⟩ -
      rw [if_pos ⟨q.1, by omega⟩, f4, f5, f6, f7, f8]
      exact ⟨rfl, Inv_same hI⟩
  · refine (fundTold_f (d := 2045) (b := 300) hS i1 i2 (by omega) (by omega) q).rlt.mono ?_
    rintro r h1 ⟨rfl, rfl⟩ -
    refine ⟨_, rfl, ⟨by decide, by decide⟩, (s_X12_fundTold (d := 2046) (b := 0) hS i1 i2 (by omega) (by omega)).rlt.mono ?_⟩
    rintro r h2 ⟨rfl, rfl⟩ -
    rw [if_neg (fun z => q ⟨z.1, by omega⟩)]
    exact ⟨rfl, Inv_same hI⟩
