/-! ===== pairs: back, stop ===== -/
set_option maxHeartbeats 4000000 in
theorem p_back {u : gT} (j : Nat) (h : mH) (hj : j < 512) (hI : Inv j h) (x n : Int) (i1 : InI x) (i2 : InI n) : PairI u Inv MX11_back MX12_back [(0, x), (0, n)] j h := by
  have hS := hI.1
  have hn := hI.ns
  have hr := s_X12_back (u := u) (d := 2045) (b := 0) hI Cr_rfl hS i1 i2
  by_cases q : 0 ≤ x ∧ x < h 200 10
  · have hgb := hI.gb q.1 q.2
    rcases hI.gr q.1 q.2 with g | g
    · refine (back_n (d := 2044) (b := 300) hI Cl_rfl hS q.1 q.2 i2 g.1).rlt.mono ?_
      rintro r h1 ⟨rfl, rfl⟩ -
      refine ⟨_, rfl, ?_, hr.mono ?_⟩
      · split <;> exact ⟨by omega, by omega⟩
      · rintro r h2 (⟨z1, rfl, rfl⟩ | ⟨z1, z2, z3, rfl, rfl⟩ | ⟨z1, z2, z3, z4, rfl, rfl⟩ | ⟨z1, z2, z3, z4, rfl, rfl⟩) -
        · rw [if_pos (by omega)]
          exact ⟨rfl, Inv_same hI⟩
        · rw [if_neg (by omega)]
          exact ⟨rfl, Inv_same hI⟩
        · exfalso; omega
        · exfalso; omega
    · refine (back_g (d := 2044) (b := 300) hI Cl_rfl hS q.1 q.2 i2 g.1).mono ?_
      rintro r h1 (⟨y1, rfl, rfl⟩ | ⟨y1, y2, rfl, rfl⟩ | ⟨y1, y2, rfl, rfl⟩) -
      · refine ⟨_, rfl, ⟨by decide, by decide⟩, hr.mono ?_⟩
        rintro r h2 (⟨z1, rfl, rfl⟩ | ⟨z1, z2, z3, rfl, rfl⟩ | ⟨z1, z2, z3, z4, rfl, rfl⟩ | ⟨z1, z2, z3, z4, rfl, rfl⟩) -
        · exact ⟨rfl, Inv_same hI⟩
        · exfalso; omega
        · exact ⟨rfl, Inv_same hI⟩
        · exfalso; omega
      · refine ⟨_, rfl, ⟨by decide, by decide⟩, hr.mono ?_⟩
        rintro r h2 (⟨z1, rfl, rfl⟩ | ⟨z1, z2, z3, rfl, rfl⟩ | ⟨z1, z2, z3, z4, rfl, rfl⟩ | ⟨z1, z2, z3, z4, rfl, rfl⟩) -
        · exact ⟨rfl, Inv_same hI⟩
        · exfalso; omega
        · exact ⟨rfl, Inv_same hI⟩
        · exfalso; omega
      · have hS1 : St (up2 (up2 (up2 h (100 + h 221 x) 4 (h 205 (h 221 x) - n)) (100 + h 221 x) 2 (h 203 (h 221 x) + n)) (160 + x) 8 (h 226 x - n)) := ((hS.upD (by omega)).upD (by omega)).upD (by omega)
        have eR : Cr (up2 (up2 (up2 h (100 + h 221 x) 4 (h 205 (h 221 x) - n)) (100 + h 221 x) 2 (h 203 (h 221 x) + n)) (160 + x) 8 (h 226 x - n)) h := fun p k q => by simp (disch := omega) only [up2_ne, up2_eq, nw_ne, nw_m1, nw_m2, true_and, and_true]
        refine ⟨_, rfl, ⟨by omega, by omega⟩, (s_X12_back (u := u) (d := 2045) (b := 0) hI eR hS1 i1 i2).mono ?_⟩
        rintro r h2 (⟨z1, rfl, rfl⟩ | ⟨z1, z2, z3, rfl, rfl⟩ | ⟨z1, z2, z3, z4, rfl, rfl⟩ | ⟨z1, z2, z3, z4, rfl, rfl⟩) -
        · exfalso; omega
        · exfalso; omega
        · exfalso; omega
        obtain ⟨-, aN, aF, aR, aA, aB, aG, aS, aP, aT⟩ := id hI
        have n_ := aN
        unfold iN at n_
        have hra := hI.ra q.1 (by omega)
        generalize hfe : h 221 x = f at g hgb hS1 eR ⊢
        refine ⟨rfl, ((hS1.upA (by decide +kernel) (by omega)).upA (by decide +kernel) (by omega)).upA (by decide +kernel) (by omega), (by unfold iN at aN ⊢; simp (disch := omega) only [up2_ne, up2_eq, nw_ne, nw_m1, nw_m2, true_and, and_true]; exact aN), ?_, iR_cg (by simp (disch := omega) only [up2_ne, up2_eq, nw_ne, nw_m1, nw_m2, true_and, and_true]) (by simp (disch := omega) only [up2_ne, up2_eq, nw_ne, nw_m1, nw_m2, true_and, and_true]) (fun x k q => by simp (disch := omega) only [up2_ne, up2_eq, nw_ne, nw_m1, nw_m2, true_and, and_true]) aR, iA_cg (by simp (disch := omega) only [up2_ne, up2_eq, nw_ne, nw_m1, nw_m2, true_and, and_true]) (by simp (disch := omega) only [up2_ne, up2_eq, nw_ne, nw_m1, nw_m2, true_and, and_true]; omega) (fun x k q => by simp (disch := omega) only [up2_ne, up2_eq, nw_ne, nw_m1, nw_m2, true_and, and_true]) aA, iB_cg (by simp (disch := omega) only [up2_ne, up2_eq, nw_ne, nw_m1, nw_m2, true_and, and_true]) (by simp (disch := omega) only [up2_ne, up2_eq, nw_ne, nw_m1, nw_m2, true_and, and_true]) (fun x k q => by simp (disch := omega) only [up2_ne, up2_eq, nw_ne, nw_m1, nw_m2, true_and, and_true]) aB, ?_, iS_cg (fun x k q => by simp (disch := omega) only [up2_ne, up2_eq, nw_ne, nw_m1, nw_m2, true_and, and_true]) aS, iP_cg (by simp (disch := omega) only [up2_ne, up2_eq, nw_ne, nw_m1, nw_m2, true_and, and_true]) (fun x k q => by simp (disch := omega) only [up2_ne, up2_eq, nw_ne, nw_m1, nw_m2, true_and, and_true]) aP, iT_cg (by simp (disch := omega) only [up2_ne, up2_eq, nw_ne, nw_m1, nw_m2, true_and, and_true]) (by omega) (fun x k q => by simp (disch := omega) only [up2_ne, up2_eq, nw_ne, nw_m1, nw_m2, true_and, and_true]) aT⟩
        · intro i i0 i1
          have hf := aF i i0 i1
          have ej : ((j + 1 : Nat) : Int) = (j : Int) + 1 := by omega
          rw [ej]
          clear aN aR aA aB aG aS aP aT hr hI
          by_cases c : i = f
          · subst c
            rcases hf with ⟨w1 | w1, w2⟩
            · refine ⟨Or.inl ⟨?_, ?_, ?_, ?_, ?_, ?_, ?_, ?_⟩, ?_, ?_, ?_, ?_, ?_, ?_, ?_, ?_, ?_, ?_⟩ <;> first | omega | (simp (disch := omega) only [up2_ne, up2_eq, nw_ne, nw_m1, nw_m2, true_and, and_true]; done) | (simp (disch := omega) only [up2_ne, up2_eq, nw_ne, nw_m1, nw_m2, true_and, and_true]; omega)
            · exfalso; omega
          · rcases hf with ⟨w1 | w1, w2⟩
            · refine ⟨Or.inl ⟨?_, ?_, ?_, ?_, ?_, ?_, ?_, ?_⟩, ?_, ?_, ?_, ?_, ?_, ?_, ?_, ?_, ?_, ?_⟩ <;> first | omega | (simp (disch := omega) only [up2_ne, up2_eq, nw_ne, nw_m1, nw_m2, true_and, and_true]; done) | (simp (disch := omega) only [up2_ne, up2_eq, nw_ne, nw_m1, nw_m2, true_and, and_true]; omega)
            · refine ⟨Or.inr ⟨?_, ?_, ?_, ?_, ?_, ?_⟩, ?_, ?_, ?_, ?_, ?_, ?_, ?_, ?_, ?_, ?_⟩ <;> first | omega | (simp (disch := omega) only [up2_ne, up2_eq, nw_ne, nw_m1, nw_m2, true_and, and_true]; done) | (simp (disch := omega) only [up2_ne, up2_eq, nw_ne, nw_m1, nw_m2, true_and, and_true]; omega)
        · intro a a0 a1
          have hg := aG a a0 a1
          clear aN aF aR aA aB aG aS aP aT hr hI
          by_cases c : a = x
          · subst c
            rcases hg with w | w | w
            · exfalso; omega
            · obtain ⟨w1, w2, w3, w4, w5, w6, w7, w8, w9, w10, w11, w12, w13, w14, w15, w16, w17, w18, w19, w20, w21, w22, w23, w24, w25, w26⟩ := w
              refine Or.inr (Or.inl ⟨?_, ?_, ?_, ?_, ?_, ?_, ?_, ?_, ?_, ?_, ?_, ?_, ?_, ?_, ?_, ?_, ?_, ?_, ?_, ?_, ?_, ?_, ?_, ?_, ?_, ?_⟩)
              rotate_right
              · simp (disch := omega) only [up2_ne, up2_eq, nw_ne, nw_m1, nw_m2, true_and, and_true]
                exact w26
              all_goals first | omega | (simp (disch := omega) only [up2_ne, up2_eq, nw_ne, nw_m1, nw_m2, true_and, and_true]; done) | (simp (disch := omega) only [up2_ne, up2_eq, nw_ne, nw_m1, nw_m2, true_and, and_true]; omega)
            · exfalso; omega
          · simp (disch := omega) only [up2_ne, up2_eq, nw_ne, nw_m1, nw_m2, true_and, and_true]
            exact hg
  · refine (back_f (d := 2044) (b := 300) hI Cl_rfl hS i1 i2 q).rlt.mono ?_
    rintro r h1 ⟨rfl, rfl⟩ -
    refine ⟨_, rfl, ⟨by decide, by decide⟩, hr.mono ?_⟩
    rintro r h2 (⟨z1, rfl, rfl⟩ | ⟨z1, z2, z3, rfl, rfl⟩ | ⟨z1, z2, z3, z4, rfl, rfl⟩ | ⟨z1, z2, z3, z4, rfl, rfl⟩) -
    · exact ⟨rfl, Inv_same hI⟩
    · exact absurd z1 q
    · exact absurd z1 q
    · exact absurd z1 q
set_option maxHeartbeats 4000000 in
theorem p_stop {u : gT} (j : Nat) (h : mH) (hj : j < 512) (hI : Inv j h) (x : Int) (i1 : InI x) : PairI u Inv MX11_stop MX12_stop [(0, x)] j h := by
  have hS := hI.1
  have hn := hI.ns
  have hr := s_X12_stop (u := u) (d := 2045) (b := 0) hI Cr_rfl hS i1
  by_cases q : 0 ≤ x ∧ x < h 200 10
  · have hgb := hI.gb q.1 q.2
    rcases hI.gr q.1 q.2 with g | g
    · refine (stop_n (d := 2044) (b := 300) hI Cl_rfl hS q.1 q.2 g.1).rlt.mono ?_
      rintro r h1 ⟨rfl, rfl⟩ -
      refine ⟨_, rfl, ⟨by decide, by decide⟩, hr.mono ?_⟩
      rintro r h2 (⟨z1, rfl, rfl⟩ | ⟨z1, z2, rfl, rfl⟩ | ⟨z1, z2, z3, rfl, rfl⟩) -
      · exact absurd q z1
      · exact ⟨rfl, Inv_same hI⟩
      · exfalso; omega
    · refine (stop_g (d := 2044) (b := 300) hI Cl_rfl hS q.1 q.2 g.1).mono ?_
      rintro r h1 (⟨y1, rfl, rfl⟩ | ⟨y1, rfl, rfl⟩) -
      · refine ⟨_, rfl, ⟨by decide, by decide⟩, hr.mono ?_⟩
        rintro r h2 (⟨z1, rfl, rfl⟩ | ⟨z1, z2, rfl, rfl⟩ | ⟨z1, z2, z3, rfl, rfl⟩) -
        · exact absurd q z1
        · exact ⟨rfl, Inv_same hI⟩
        · exfalso; omega
      · have hS1 : St (up2 (up2 (up2 h (100 + h 221 x) 3 (h 204 (h 221 x) - h 227 x)) (100 + h 221 x) 2 (h 203 (h 221 x) + h 227 x)) (160 + x) 7 0) := ((hS.upD (by omega)).upD (by omega)).upD (by omega)
        have eR : Cr (up2 (up2 (up2 h (100 + h 221 x) 3 (h 204 (h 221 x) - h 227 x)) (100 + h 221 x) 2 (h 203 (h 221 x) + h 227 x)) (160 + x) 7 0) h := fun p k q => by simp (disch := omega) only [up2_ne, up2_eq, nw_ne, nw_m1, nw_m2, true_and, and_true]
        refine ⟨_, rfl, ⟨by omega, by omega⟩, (s_X12_stop (u := u) (d := 2045) (b := 0) hI eR hS1 i1).mono ?_⟩
        rintro r h2 (⟨z1, rfl, rfl⟩ | ⟨z1, z2, rfl, rfl⟩ | ⟨z1, z2, z3, rfl, rfl⟩) -
        · exact absurd q z1
        · exfalso; omega
        obtain ⟨-, aN, aF, aR, aA, aB, aG, aS, aP, aT⟩ := id hI
        have n_ := aN
        unfold iN at n_
        have hra := hI.ra q.1 (by omega)
        generalize hfe : h 221 x = f at g hgb hS1 eR ⊢
        refine ⟨rfl, (((hS1.upA (by decide +kernel) (by omega)).upA (by decide +kernel) (by omega)).upA (by decide +kernel) (by omega)).upA (by decide +kernel) (by omega), (by unfold iN at aN ⊢; simp (disch := omega) only [up2_ne, up2_eq, nw_ne, nw_m1, nw_m2, true_and, and_true]; exact aN), ?_, iR_cg (by simp (disch := omega) only [up2_ne, up2_eq, nw_ne, nw_m1, nw_m2, true_and, and_true]) (by simp (disch := omega) only [up2_ne, up2_eq, nw_ne, nw_m1, nw_m2, true_and, and_true]) (fun x k q => by simp (disch := omega) only [up2_ne, up2_eq, nw_ne, nw_m1, nw_m2, true_and, and_true]) aR, iA_cg (by simp (disch := omega) only [up2_ne, up2_eq, nw_ne, nw_m1, nw_m2, true_and, and_true]) (by simp (disch := omega) only [up2_ne, up2_eq, nw_ne, nw_m1, nw_m2, true_and, and_true]; omega) (fun x k q => by simp (disch := omega) only [up2_ne, up2_eq, nw_ne, nw_m1, nw_m2, true_and, and_true]) aA, iB_cg (by simp (disch := omega) only [up2_ne, up2_eq, nw_ne, nw_m1, nw_m2, true_and, and_true]) (by simp (disch := omega) only [up2_ne, up2_eq, nw_ne, nw_m1, nw_m2, true_and, and_true]) (fun x k q => by simp (disch := omega) only [up2_ne, up2_eq, nw_ne, nw_m1, nw_m2, true_and, and_true]) aB, ?_, iS_cg (fun x k q => by simp (disch := omega) only [up2_ne, up2_eq, nw_ne, nw_m1, nw_m2, true_and, and_true]) aS, iP_cg (by simp (disch := omega) only [up2_ne, up2_eq, nw_ne, nw_m1, nw_m2, true_and, and_true]) (fun x k q => by simp (disch := omega) only [up2_ne, up2_eq, nw_ne, nw_m1, nw_m2, true_and, and_true]) aP, iT_cg (by simp (disch := omega) only [up2_ne, up2_eq, nw_ne, nw_m1, nw_m2, true_and, and_true]) (by omega) (fun x k q => by simp (disch := omega) only [up2_ne, up2_eq, nw_ne, nw_m1, nw_m2, true_and, and_true]) aT⟩
        · intro i i0 i1
          have hf := aF i i0 i1
          have ej : ((j + 1 : Nat) : Int) = (j : Int) + 1 := by omega
          rw [ej]
          clear aN aR aA aB aG aS aP aT hr hI
          by_cases c : i = f
          · subst c
            rcases hf with ⟨w1 | w1, w2⟩
            · refine ⟨Or.inl ⟨?_, ?_, ?_, ?_, ?_, ?_, ?_, ?_⟩, ?_, ?_, ?_, ?_, ?_, ?_, ?_, ?_, ?_, ?_⟩ <;> first | omega | (simp (disch := omega) only [up2_ne, up2_eq, nw_ne, nw_m1, nw_m2, true_and, and_true]; done) | (simp (disch := omega) only [up2_ne, up2_eq, nw_ne, nw_m1, nw_m2, true_and, and_true]; omega)
            · exfalso; omega
          · rcases hf with ⟨w1 | w1, w2⟩
            · refine ⟨Or.inl ⟨?_, ?_, ?_, ?_, ?_, ?_, ?_, ?_⟩, ?_, ?_, ?_, ?_, ?_, ?_, ?_, ?_, ?_, ?_⟩ <;> first | omega | (simp (disch := omega) only [up2_ne, up2_eq, nw_ne, nw_m1, nw_m2, true_and, and_true]; done) | (simp (disch := omega) only [up2_ne, up2_eq, nw_ne, nw_m1, nw_m2, true_and, and_true]; omega)
            · refine ⟨Or.inr ⟨?_, ?_, ?_, ?_, ?_, ?_⟩, ?_, ?_, ?_, ?_, ?_, ?_, ?_, ?_, ?_, ?_⟩ <;> first | omega | (simp (disch := omega) only [up2_ne, up2_eq, nw_ne, nw_m1, nw_m2, true_and, and_true]; done) | (simp (disch := omega) only [up2_ne, up2_eq, nw_ne, nw_m1, nw_m2, true_and, and_true]; omega)
        · intro a a0 a1
          have hg := aG a a0 a1
          clear aN aF aR aA aB aG aS aP aT hr hI
          by_cases c : a = x
          · subst c
            rcases hg with w | w | w
            · exfalso; omega
            · obtain ⟨w1, w2, w3, w4, w5, w6, w7, w8, w9, w10, w11, w12, w13, w14, w15, w16, w17, w18, w19, w20, w21, w22, w23, w24, w25, w26⟩ := w
              refine Or.inr (Or.inl ⟨?_, ?_, ?_, ?_, ?_, ?_, ?_, ?_, ?_, ?_, ?_, ?_, ?_, ?_, ?_, ?_, ?_, ?_, ?_, ?_, ?_, ?_, ?_, ?_, ?_, ?_⟩)
              rotate_right
              · refine Or.inl ⟨?_, ?_⟩ <;> first | omega | (simp (disch := omega) only [up2_ne, up2_eq, nw_ne, nw_m1, nw_m2, true_and, and_true]; done) | (simp (disch := omega) only [up2_ne, up2_eq, nw_ne, nw_m1, nw_m2, true_and, and_true]; omega)
              all_goals first | omega | (simp (disch := omega) only [up2_ne, up2_eq, nw_ne, nw_m1, nw_m2, true_and, and_true]; done) | (simp (disch := omega) only [up2_ne, up2_eq, nw_ne, nw_m1, nw_m2, true_and, and_true]; omega)
            · exfalso; omega
          · simp (disch := omega) only [up2_ne, up2_eq, nw_ne, nw_m1, nw_m2, true_and, and_true]
            exact hg
  · refine (stop_f (d := 2044) (b := 300) hI Cl_rfl hS i1 q).rlt.mono ?_
    rintro r h1 ⟨rfl, rfl⟩ -
    refine ⟨_, rfl, ⟨by decide, by decide⟩, hr.mono ?_⟩
    rintro r h2 (⟨z1, rfl, rfl⟩ | ⟨z1, z2, rfl, rfl⟩ | ⟨z1, z2, z3, rfl, rfl⟩) -
    · exact ⟨rfl, Inv_same hI⟩
    · exact absurd z1 q
    · exact absurd z1 q
