/-! ===== pair: mark ===== -/
theorem p_mark {u : gT} (j : Nat) (h : mH) (hj : j < 512) (hI : Inv j h) (x y v : Int) (i1 : InI x) (i2 : InI y) (i3 : InI v) : PairI u Inv MX11_mark MX12_mark [(0, x), (0, y), (0, v)] j h := by
  have hS := hI.1
  have hn := hI.ns
  have hr := s_X12_mark (u := u) (d := 2043) (b := 0) hI Cr_rfl hS i1 i2 i3
  by_cases q1 : 0 ≤ x ∧ x < h 200 6
  · by_cases q2 : 0 ≤ y ∧ y < h 200 10
    · refine (mark_t (d := 2042) (b := 300) hI Cl_rfl hS q1.1 q1.2 q2.1 q2.2 i3).mono ?_
      rintro r h1 (⟨z1, rfl, rfl⟩ | ⟨z1, z2, rfl, rfl⟩ | ⟨z1, z2, z3, rfl, rfl⟩) -
      · refine ⟨_, rfl, ⟨by decide, by decide⟩, hr.mono ?_⟩
        rintro r h2 (⟨w1, rfl, rfl⟩ | ⟨w1, w2, rfl, rfl⟩ | ⟨w1, w2, w3, rfl, rfl⟩) -
        · exact ⟨rfl, Inv_same hI⟩
        · exact absurd w1.2.2 z1
        · exact absurd w1.2.2 z1
      · refine ⟨_, rfl, ⟨by decide, by decide⟩, hr.mono ?_⟩
        rintro r h2 (⟨w1, rfl, rfl⟩ | ⟨w1, w2, rfl, rfl⟩ | ⟨w1, w2, w3, rfl, rfl⟩) -
        · exact absurd ⟨q1, q2, z1⟩ w1
        · exact ⟨rfl, Inv_same hI⟩
        · exact absurd z2 (fun q => q.elim w2 w3)
      · have hra := hI.ra q2.1 (by omega)
        have hb01 := bt_01 (x := h 218 y) (i := x) (by omega) (by omega) q1.1 (by omega)
        have hM := Inv_mark hI q1.1 q1.2 q2.1 q2.2 (v := v) z1.1 z1.2 (by omega)
        have hS1 : St (up2 (up2 h (140 + y) x v) (120 + y) 8 (iOr (h (120 + y) 8) (iShl 1 x))) := (hS.upD (by omega)).upD (by omega)
        have eR : Cr (up2 (up2 h (140 + y) x v) (120 + y) 8 (iOr (h (120 + y) 8) (iShl 1 x))) h := (Cr_rfl.uph _ _ (by omega)).uph _ _ (by omega)
        have eL : Cl (up2 (up2 h (140 + y) x v) (120 + y) 8 (iOr (h (120 + y) 8) (iShl 1 x))) (mkH h x y v) := (Cl_rfl (h := up2 (up2 h (140 + y) x v) (120 + y) 8 (iOr (h (120 + y) 8) (iShl 1 x)))).upr _ _ (by omega)
        have hb := tA_b (h := mkH h x y v) (a := y) (by rw [mkH_n q2.1 (by omega)]; omega) (by rw [mkH_n q2.1 (by omega)]; omega)
        refine ⟨_, rfl, ⟨by omega, by omega⟩, (s_X12_mark (u := u) (d := 2043) (b := 0) hI eR hS1 i1 i2 i3).mono ?_⟩
        rintro r h2 (⟨w1, rfl, rfl⟩ | ⟨w1, w2, rfl, rfl⟩ | ⟨w1, w2, w3, rfl, rfl⟩) -
        · exact absurd ⟨q1, q2, z1⟩ w1
        · exact absurd w2 (fun q => q.elim z2 z3)
        · exact ⟨rfl, Inv_step hM (hS1.upA (by decide +kernel) (by omega)) eL (Ce.up _ _ (by omega)) (fun p k _ => rfl)⟩
    · refine (mark_f2 (d := 2042) (b := 300) hI Cl_rfl hS q1.1 q1.2 i2 q2).rlt.mono ?_
      rintro r h1 ⟨rfl, rfl⟩ -
      refine ⟨_, rfl, ⟨by decide, by decide⟩, hr.mono ?_⟩
      rintro r h2 (⟨w1, rfl, rfl⟩ | ⟨w1, w2, rfl, rfl⟩ | ⟨w1, w2, w3, rfl, rfl⟩) -
      · exact ⟨rfl, Inv_same hI⟩
      · exact absurd w1.2.1 q2
      · exact absurd w1.2.1 q2
  · refine (mark_f1 (d := 2042) (b := 300) hI Cl_rfl hS i1 i2 q1).rlt.mono ?_
    rintro r h1 ⟨rfl, rfl⟩ -
    refine ⟨_, rfl, ⟨by decide, by decide⟩, hr.mono ?_⟩
    rintro r h2 (⟨w1, rfl, rfl⟩ | ⟨w1, w2, rfl, rfl⟩ | ⟨w1, w2, w3, rfl, rfl⟩) -
    · exact ⟨rfl, Inv_same hI⟩
    · exact absurd w1.1 q1
    · exact absurd w1.1 q1
