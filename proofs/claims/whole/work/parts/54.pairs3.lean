/-! ===== pairs: reader, force, sheet, cell ===== -/
theorem St_readerH {g : gG} {h : mH} {t ho l : Int} (H : St h) (h0 : 0 ≤ h 1 12) (h5 : h 1 12 < 8) : St (readerH g h t ho l) := ((((((H.nwD (by omega)).upD (by omega)).upD (by omega)).upD (by omega)).upD (by omega)).upA (by decide +kernel) h0).up (by decide +kernel)
set_option maxHeartbeats 1000000 in
theorem p_reader {u : gT} (j : Nat) (h : mH) (hj : j < 512) (hI : Inv j h) (t ho l : Int) (i1 : InI t) (i2 : InI ho) (i3 : InI l): PairI u Inv MX11_reader MX12_reader [(0, t), (0, ho), (0, l)] j h := by
  obtain ⟨hS, aN, aF, aR, aA, aB, aG, aS, aP, aT⟩ := id hI
  have n := aN
  unfold iN at n
  refine (s_X11_reader (d := 2045) hS i1 i2 i3 (by omega) (by omega) (fun q => by have := aR (h 200 6) (by omega) (by omega); rw [show h 1 12 = h 200 6 by omega]; omega)).mono ?_
  rintro r h1 (⟨y1, rfl, rfl⟩ | ⟨y1, y2, rfl, rfl⟩ | ⟨y1, y2, rfl, rfl⟩) -
  · refine ⟨_, rfl, by first | exact ⟨by omega, by omega⟩ | exact ⟨by decide, by decide⟩, (s_X12_reader (d := 2045) (b := 0) hS i1 i2 i3 (by omega) (by omega)).mono ?_⟩
    rintro r h2 (⟨z1, rfl, rfl⟩ | ⟨z1, z2, rfl, rfl⟩ | ⟨z1, z2, rfl, rfl⟩) -
    · exact ⟨rfl, Inv_same hI⟩
    · exfalso; omega
    · exfalso; omega
  · refine ⟨_, rfl, by first | exact ⟨by omega, by omega⟩ | exact ⟨by decide, by decide⟩, (s_X12_reader (d := 2045) (b := 0) hS i1 i2 i3 (by omega) (by omega)).mono ?_⟩
    rintro r h2 (⟨z1, rfl, rfl⟩ | ⟨z1, z2, rfl, rfl⟩ | ⟨z1, z2, rfl, rfl⟩) -
    · exfalso; omega
    · exact ⟨rfl, Inv_same hI⟩
    · exfalso; omega
  · have hS1 : St (readerH (gq u) h t ho l) := St_readerH hS (by omega) y2
    have e0 : readerH (gq u) h t ho l 200 6 = h 200 6 := by simp (disch := omega) only [readerH, up2_ne, up2_eq, nw_ne, nw_m1, nw_m2, true_and, and_true]
    refine ⟨_, rfl, ⟨by omega, by omega⟩, (s_X12_reader (d := 2045) (b := 0) hS1 i1 i2 i3 (by omega) (by omega)).mono ?_⟩
    rintro r h2 (⟨z1, rfl, rfl⟩ | ⟨z1, z2, rfl, rfl⟩ | ⟨z1, z2, rfl, rfl⟩) -
    · exfalso; omega
    · exfalso; omega
    rw [e0]
    have e11 : h 1 12 = h 200 6 := by omega
    refine ⟨by rw [e11], (((hS1.upA (by decide +kernel) (by omega)).upA (by decide +kernel) (by omega)).upA (by decide +kernel) (by omega)).up (by decide +kernel), ?_, iF_up (iF_cg (by simp (disch := omega) only [readerH, up2_ne, up2_eq, nw_ne, nw_m1, nw_m2, true_and, and_true]) (fun x k q => by simp (disch := omega) only [readerH, up2_ne, up2_eq, nw_ne, nw_m1, nw_m2, true_and, and_true]) aF), ?_, iA_cg (by simp (disch := omega) only [readerH, up2_ne, up2_eq, nw_ne, nw_m1, nw_m2, true_and, and_true]) (by simp (disch := omega) only [readerH, up2_ne, up2_eq, nw_ne, nw_m1, nw_m2, true_and, and_true]; omega) (fun x k q => by simp (disch := omega) only [readerH, up2_ne, up2_eq, nw_ne, nw_m1, nw_m2, true_and, and_true]) aA, ?_, iG_cg (by simp (disch := omega) only [readerH, up2_ne, up2_eq, nw_ne, nw_m1, nw_m2, true_and, and_true]) (by simp (disch := omega) only [readerH, up2_ne, up2_eq, nw_ne, nw_m1, nw_m2, true_and, and_true]; omega) (fun x k q => by simp (disch := omega) only [readerH, up2_ne, up2_eq, nw_ne, nw_m1, nw_m2, true_and, and_true]) aG, iS_cg (fun x k q => by simp (disch := omega) only [readerH, up2_ne, up2_eq, nw_ne, nw_m1, nw_m2, true_and, and_true]) aS, iP_cg (by simp (disch := omega) only [readerH, up2_ne, up2_eq, nw_ne, nw_m1, nw_m2, true_and, and_true]) (fun x k q => by simp (disch := omega) only [readerH, up2_ne, up2_eq, nw_ne, nw_m1, nw_m2, true_and, and_true]) aP, iT_cg (by simp (disch := omega) only [readerH, up2_ne, up2_eq, nw_ne, nw_m1, nw_m2, true_and, and_true]) (by omega) (fun x k q => by simp (disch := omega) only [readerH, up2_ne, up2_eq, nw_ne, nw_m1, nw_m2, true_and, and_true]) aT⟩
    · unfold iN
      simp (disch := omega) only [readerH, up2_ne, up2_eq, nw_ne, nw_m1, nw_m2, true_and, and_true]
      omega
    · intro i i0 i1
      have := aR i i0 i1
      have er : rds (up2 (up2 (up2 (up2 (readerH (gq u) h t ho l) 207 (h 200 6) t) 208 (h 200 6) ho) 209 (h 200 6) l) 200 6 (h 200 6 + 1)) i = rds h i := rds_cg (by simp (disch := omega) only [readerH, up2_ne, up2_eq, nw_ne, nw_m1, nw_m2, true_and, and_true]) (fun k => by simp (disch := omega) only [readerH, up2_ne, up2_eq, nw_ne, nw_m1, nw_m2, true_and, and_true])
      rw [er]
      unfold readerH
      rw [e11]
      rcases Int.lt_trichotomy i (h 200 6) with c | c | c
      · simp (disch := omega) only [nf_7_4, up2_ne, up2_eq, nw_ne, nw_m1, nw_m2, true_and, and_true]
        omega
      · subst c
        simp (disch := omega) only [nf_7_4, up2_ne, up2_eq, nw_ne, nw_m1, nw_m2, true_and, and_true]
        omega
      · simp (disch := omega) only [nf_7_4, up2_ne, up2_eq, nw_ne, nw_m1, nw_m2, true_and, and_true]
        omega
    · intro a r a0 a1 r0 r1
      have hb := aB a r a0 a1 r0 r1
      simp (disch := omega) only [readerH, up2_ne, up2_eq, nw_ne, nw_m1, nw_m2, true_and, and_true]
      rcases hb with ⟨⟨b1, b2, b3, b4, b5, b6, b7, b8⟩ | ⟨b1, b2⟩, b9⟩
      · exact ⟨Or.inl ⟨b1, b2, b3, b4, b5, b6, fun q => by have := b7 q; omega, b8⟩, b9⟩
      · exact ⟨Or.inr ⟨b1, b2⟩, b9⟩
theorem p_force {u : gT} (j : Nat) (h : mH) (hj : j < 512) (hI : Inv j h) (t : Int) (i1 : InI t): PairI u Inv MX11_force MX12_force [(0, t)] j h := by
  obtain ⟨hS, aN, aF, aR, aA, aB, aG, aS, aP, aT⟩ := id hI
  have n := aN
  unfold iN at n
  refine (s_X11_force (d := 2045) (b := 300) hS i1 (by omega) (by omega)).mono ?_
  rintro r h1 (⟨y1, rfl, rfl⟩ | ⟨y1, rfl, rfl⟩) -
  · refine ⟨_, rfl, by first | exact ⟨by omega, by omega⟩ | exact ⟨by decide, by decide⟩, (s_X12_force (d := 2047) (b := 0) hS i1 (by omega) (by omega)).mono ?_⟩
    rintro r h2 (⟨z1, rfl, rfl⟩ | ⟨z1, rfl, rfl⟩) -
    · exact ⟨rfl, Inv_same hI⟩
    · exfalso; omega
  · have hS1 : St (up2 h 1 15 t) := hS.up (by decide +kernel)
    have e0 : up2 h 1 15 t 200 30 = h 200 30 := by simp (disch := omega) only [up2_ne, up2_eq, nw_ne, nw_m1, nw_m2, true_and, and_true]
    have e3 : up2 h 1 15 t 200 31 = h 200 31 := by simp (disch := omega) only [up2_ne, up2_eq, nw_ne, nw_m1, nw_m2, true_and, and_true]
    refine ⟨_, rfl, ⟨by omega, by omega⟩, (s_X12_force (d := 2047) (b := 0) hS1 i1 (by omega) (by omega)).mono ?_⟩
    rintro r h2 (⟨z1, rfl, rfl⟩ | ⟨z1, rfl, rfl⟩) -
    · exfalso; omega
    refine ⟨by rw [e3]; congr 1; omega, hS1.up (by decide +kernel), ?_, iF_up (iF_cg (by simp (disch := omega) only [up2_ne, up2_eq, nw_ne, nw_m1, nw_m2, true_and, and_true]) (fun x k q => by simp (disch := omega) only [up2_ne, up2_eq, nw_ne, nw_m1, nw_m2, true_and, and_true]) aF), iR_cg (by simp (disch := omega) only [up2_ne, up2_eq, nw_ne, nw_m1, nw_m2, true_and, and_true]) (by simp (disch := omega) only [up2_ne, up2_eq, nw_ne, nw_m1, nw_m2, true_and, and_true]) (fun x k q => by simp (disch := omega) only [up2_ne, up2_eq, nw_ne, nw_m1, nw_m2, true_and, and_true]) aR, iA_cg (by simp (disch := omega) only [up2_ne, up2_eq, nw_ne, nw_m1, nw_m2, true_and, and_true]) (by simp (disch := omega) only [up2_ne, up2_eq, nw_ne, nw_m1, nw_m2, true_and, and_true]; omega) (fun x k q => by simp (disch := omega) only [up2_ne, up2_eq, nw_ne, nw_m1, nw_m2, true_and, and_true]) aA, iB_cg (by simp (disch := omega) only [up2_ne, up2_eq, nw_ne, nw_m1, nw_m2, true_and, and_true]) (by simp (disch := omega) only [up2_ne, up2_eq, nw_ne, nw_m1, nw_m2, true_and, and_true]) (fun x k q => by simp (disch := omega) only [up2_ne, up2_eq, nw_ne, nw_m1, nw_m2, true_and, and_true]) aB, iG_cg (by simp (disch := omega) only [up2_ne, up2_eq, nw_ne, nw_m1, nw_m2, true_and, and_true]) (by simp (disch := omega) only [up2_ne, up2_eq, nw_ne, nw_m1, nw_m2, true_and, and_true]; omega) (fun x k q => by simp (disch := omega) only [up2_ne, up2_eq, nw_ne, nw_m1, nw_m2, true_and, and_true]) aG, iS_cg (fun x k q => by simp (disch := omega) only [up2_ne, up2_eq, nw_ne, nw_m1, nw_m2, true_and, and_true]) aS, iP_cg (by simp (disch := omega) only [up2_ne, up2_eq, nw_ne, nw_m1, nw_m2, true_and, and_true]) (fun x k q => by simp (disch := omega) only [up2_ne, up2_eq, nw_ne, nw_m1, nw_m2, true_and, and_true]) aP, iT_cg (by simp (disch := omega) only [up2_ne, up2_eq, nw_ne, nw_m1, nw_m2, true_and, and_true]) (by omega) (fun x k q => by simp (disch := omega) only [up2_ne, up2_eq, nw_ne, nw_m1, nw_m2, true_and, and_true]) aT⟩
    unfold iN
    simp (disch := omega) only [up2_ne, up2_eq, nw_ne, nw_m1, nw_m2, true_and, and_true]
    omega
theorem hset_up2 {h : mH} {a n v b k w : Int} (hb : b ≠ a) : hset (up2 h b k w) a n v = up2 (hset h a n v) b k w := by
  funext x y
  unfold hset up2
  by_cases c : x = b ∧ y = k
  · rw [if_pos c, if_neg (fun q => hb (c.1.symm.trans q.1)), if_pos c]
  · rw [if_neg c, if_neg c]
theorem St.hsr {h : mH} {a lo n v : Int} (H : St h) (hn : stA a = true) (hk : 0 ≤ lo) : St (hsr h a lo n v) := by
  intro q hq
  have h1 := List.all_eq_true.mp hn q hq
  rw [hsr_ne]
  · exact H q hq
  · by_cases e : q.1 = a
    · simp [e] at h1
      omega
    · exact Or.inl e
theorem St.upSh {h : mH} {x k v : Int} (H : St h) (x0 : 0 ≤ x) (x1 : x < 4) (hk : k = 1 ∨ k = 2) : St (up2 h (80 + x) k v) := by
  rcases (show x = 0 ∨ x = 1 ∨ x = 2 ∨ x = 3 by omega) with rfl | rfl | rfl | rfl <;> rcases hk with rfl | rfl <;> exact H.up (by decide +kernel)
theorem stA_sh {x : Int} (x0 : 0 ≤ x) (x1 : x < 4) : stA (90 + x) = true := by
  rcases (show x = 0 ∨ x = 1 ∨ x = 2 ∨ x = 3 by omega) with rfl | rfl | rfl | rfl <;> decide +kernel
theorem St.hset {h : mH} {a n v : Int} (H : St h) (hn : stA a = true) : St (hset h a n v) := by
  intro q hq
  have h1 := List.all_eq_true.mp hn q hq
  rw [hset_ne]
  · exact H q hq
  · by_cases e : q.1 = a
    · simp [e] at h1
      omega
    · exact Or.inl e
theorem scut_in {z v : Int} (hv : InI v) : InI (scut z v) := by
  unfold scut
  split
  · exact ⟨by have := Int.le_bmod (x := v) (m := 256) (by decide); omega, by have := Int.bmod_lt (x := v) (m := 256) (by decide); omega⟩
  · split
    · exact ⟨by have := Int.le_bmod (x := v) (m := 65536) (by decide); omega, by have := Int.bmod_lt (x := v) (m := 65536) (by decide); omega⟩
    · exact hv
theorem In00 : InI 0 := ⟨by decide, by decide⟩
set_option maxHeartbeats 1000000 in
theorem p_sheet {u : gT} (j : Nat) (h : mH) (hj : j < 512) (hI : Inv j h) (x z m : Int) (i1 : InI x) (i2 : InI z) (i3 : InI m): PairI u Inv MX11_sheet MX12_sheet [(0, x), (0, z), (0, m)] j h := by
  obtain ⟨hS, aN, aF, aR, aA, aB, aG, aS, aP, aT⟩ := id hI
  have n := aN
  unfold iN at n
  refine (s_X11_sheet (d := 2044) (b := 300) hS i1 i2 i3).mono ?_
  rintro r h1 (⟨y1, rfl, rfl⟩ | ⟨y1, y2, y3, rfl, rfl⟩ | ⟨y1, y2, rfl, rfl⟩ | ⟨y1, y2, y3, rfl, rfl⟩) -
  · refine ⟨_, rfl, by first | exact ⟨by omega, by omega⟩ | exact ⟨by decide, by decide⟩, (s_X12_sheet (d := 2046) (b := 0) hS i1 i2 i3).mono ?_⟩
    rintro r h2 (⟨z1, rfl, rfl⟩ | ⟨z1, z2, z3, rfl, rfl⟩ | ⟨z1, z2, rfl, rfl⟩ | ⟨z1, z2, z3, rfl, rfl⟩) -
    · exact ⟨rfl, Inv_same hI⟩
    · exfalso; omega
    · exfalso; omega
    · exfalso; omega
  · refine ⟨_, rfl, by first | exact ⟨by omega, by omega⟩ | exact ⟨by decide, by decide⟩, (s_X12_sheet (d := 2046) (b := 0) hS i1 i2 i3).mono ?_⟩
    rintro r h2 (⟨z1, rfl, rfl⟩ | ⟨z1, z2, z3, rfl, rfl⟩ | ⟨z1, z2, rfl, rfl⟩ | ⟨z1, z2, z3, rfl, rfl⟩) -
    · exfalso; omega
    · exact ⟨rfl, Inv_same hI⟩
    · exfalso; omega
    · exfalso; omega
  · obtain ⟨x0, x1, yz⟩ := y1
    have hS1 : St (up2 (up2 h (80 + x) 2 (-1)) (80 + x) 1 0) := (hS.upSh x0 (by omega) (Or.inr rfl)).upSh x0 (by omega) (Or.inl rfl)
    refine ⟨_, rfl, ⟨by decide, by decide⟩, (s_X12_sheet (d := 2046) (b := 0) hS1 i1 i2 i3).mono ?_⟩
    rintro r h2 (⟨z1, rfl, rfl⟩ | ⟨z1, z2, z3, rfl, rfl⟩ | ⟨z1, z2, rfl, rfl⟩ | ⟨z1, z2, z3, rfl, rfl⟩) -
    · exfalso; omega
    · exfalso; omega
    · skip
      refine ⟨rfl, ((hS1.upA (by decide +kernel) x0).upA (by decide +kernel) x0).hsr (by decide +kernel) (by omega), (by unfold iN at aN ⊢; simp (disch := omega) only [hsr_ne, hset_ne, up2_ne, up2_eq, nw_ne, nw_m1, nw_m2, true_and, and_true]; exact aN), iF_up (iF_cg (by simp (disch := omega) only [hsr_ne, hset_ne, up2_ne, up2_eq, nw_ne, nw_m1, nw_m2, true_and, and_true]) (fun x k q => by simp (disch := omega) only [hsr_ne, hset_ne, up2_ne, up2_eq, nw_ne, nw_m1, nw_m2, true_and, and_true]) aF), iR_cg (by simp (disch := omega) only [hsr_ne, hset_ne, up2_ne, up2_eq, nw_ne, nw_m1, nw_m2, true_and, and_true]) (by simp (disch := omega) only [hsr_ne, hset_ne, up2_ne, up2_eq, nw_ne, nw_m1, nw_m2, true_and, and_true]) (fun x k q => by simp (disch := omega) only [hsr_ne, hset_ne, up2_ne, up2_eq, nw_ne, nw_m1, nw_m2, true_and, and_true]) aR, iA_cg (by simp (disch := omega) only [hsr_ne, hset_ne, up2_ne, up2_eq, nw_ne, nw_m1, nw_m2, true_and, and_true]) (by simp (disch := omega) only [hsr_ne, hset_ne, up2_ne, up2_eq, nw_ne, nw_m1, nw_m2, true_and, and_true]; omega) (fun x k q => by simp (disch := omega) only [hsr_ne, hset_ne, up2_ne, up2_eq, nw_ne, nw_m1, nw_m2, true_and, and_true]) aA, iB_cg (by simp (disch := omega) only [hsr_ne, hset_ne, up2_ne, up2_eq, nw_ne, nw_m1, nw_m2, true_and, and_true]) (by simp (disch := omega) only [hsr_ne, hset_ne, up2_ne, up2_eq, nw_ne, nw_m1, nw_m2, true_and, and_true]) (fun x k q => by simp (disch := omega) only [hsr_ne, hset_ne, up2_ne, up2_eq, nw_ne, nw_m1, nw_m2, true_and, and_true]) aB, iG_cg (by simp (disch := omega) only [hsr_ne, hset_ne, up2_ne, up2_eq, nw_ne, nw_m1, nw_m2, true_and, and_true]) (by simp (disch := omega) only [hsr_ne, hset_ne, up2_ne, up2_eq, nw_ne, nw_m1, nw_m2, true_and, and_true]; omega) (fun x k q => by simp (disch := omega) only [hsr_ne, hset_ne, up2_ne, up2_eq, nw_ne, nw_m1, nw_m2, true_and, and_true]) aG, ?_, iP_cg (by simp (disch := omega) only [hsr_ne, hset_ne, up2_ne, up2_eq, nw_ne, nw_m1, nw_m2, true_and, and_true]) (fun x k q => by simp (disch := omega) only [hsr_ne, hset_ne, up2_ne, up2_eq, nw_ne, nw_m1, nw_m2, true_and, and_true]) aP, iT_cg (by simp (disch := omega) only [hsr_ne, hset_ne, up2_ne, up2_eq, nw_ne, nw_m1, nw_m2, true_and, and_true]) (by omega) (fun x k q => by simp (disch := omega) only [hsr_ne, hset_ne, up2_ne, up2_eq, nw_ne, nw_m1, nw_m2, true_and, and_true]) aT⟩
      intro y y0 y1
      have := aS y y0 y1
      by_cases c : y = x
      · subst c
        have hs := this.2.2.2.2.2.2
        refine ⟨by first | omega | (simp (disch := omega) only [hsr_ne, hset_ne, up2_ne, up2_eq, nw_ne, nw_m1, nw_m2, true_and, and_true]; done) | (simp (disch := omega) only [hsr_ne, hset_ne, up2_ne, up2_eq, nw_ne, nw_m1, nw_m2, true_and, and_true]; omega), by first | omega | (simp (disch := omega) only [hsr_ne, hset_ne, up2_ne, up2_eq, nw_ne, nw_m1, nw_m2, true_and, and_true]; done) | (simp (disch := omega) only [hsr_ne, hset_ne, up2_ne, up2_eq, nw_ne, nw_m1, nw_m2, true_and, and_true]; omega), by first | omega | (simp (disch := omega) only [hsr_ne, hset_ne, up2_ne, up2_eq, nw_ne, nw_m1, nw_m2, true_and, and_true]; done) | (simp (disch := omega) only [hsr_ne, hset_ne, up2_ne, up2_eq, nw_ne, nw_m1, nw_m2, true_and, and_true]; omega), by first | omega | (simp (disch := omega) only [hsr_ne, hset_ne, up2_ne, up2_eq, nw_ne, nw_m1, nw_m2, true_and, and_true]; done) | (simp (disch := omega) only [hsr_ne, hset_ne, up2_ne, up2_eq, nw_ne, nw_m1, nw_m2, true_and, and_true]; omega), by first | omega | (simp (disch := omega) only [hsr_ne, hset_ne, up2_ne, up2_eq, nw_ne, nw_m1, nw_m2, true_and, and_true]; done) | (simp (disch := omega) only [hsr_ne, hset_ne, up2_ne, up2_eq, nw_ne, nw_m1, nw_m2, true_and, and_true]; omega), by first | omega | (simp (disch := omega) only [hsr_ne, hset_ne, up2_ne, up2_eq, nw_ne, nw_m1, nw_m2, true_and, and_true]; done) | (simp (disch := omega) only [hsr_ne, hset_ne, up2_ne, up2_eq, nw_ne, nw_m1, nw_m2, true_and, and_true]; omega), fun i i0 i1 => ?_⟩
        have := hs i i0 i1
        simp (disch := omega) only [hsr_ne, hset_ne, hsr_eq, hset_eq, up2_ne, up2_eq, nw_ne, nw_m1, nw_m2, true_and, and_true]
        exact ⟨fun q => (by exfalso; omega), this.2.1, In00⟩
      · have hs := this.2.2.2.2.2.2
        refine ⟨by first | omega | (simp (disch := omega) only [hsr_ne, hset_ne, up2_ne, up2_eq, nw_ne, nw_m1, nw_m2, true_and, and_true]; done) | (simp (disch := omega) only [hsr_ne, hset_ne, up2_ne, up2_eq, nw_ne, nw_m1, nw_m2, true_and, and_true]; omega), by first | omega | (simp (disch := omega) only [hsr_ne, hset_ne, up2_ne, up2_eq, nw_ne, nw_m1, nw_m2, true_and, and_true]; done) | (simp (disch := omega) only [hsr_ne, hset_ne, up2_ne, up2_eq, nw_ne, nw_m1, nw_m2, true_and, and_true]; omega), by first | omega | (simp (disch := omega) only [hsr_ne, hset_ne, up2_ne, up2_eq, nw_ne, nw_m1, nw_m2, true_and, and_true]; done) | (simp (disch := omega) only [hsr_ne, hset_ne, up2_ne, up2_eq, nw_ne, nw_m1, nw_m2, true_and, and_true]; omega), by first | omega | (simp (disch := omega) only [hsr_ne, hset_ne, up2_ne, up2_eq, nw_ne, nw_m1, nw_m2, true_and, and_true]; done) | (simp (disch := omega) only [hsr_ne, hset_ne, up2_ne, up2_eq, nw_ne, nw_m1, nw_m2, true_and, and_true]; omega), by first | omega | (simp (disch := omega) only [hsr_ne, hset_ne, up2_ne, up2_eq, nw_ne, nw_m1, nw_m2, true_and, and_true]; done) | (simp (disch := omega) only [hsr_ne, hset_ne, up2_ne, up2_eq, nw_ne, nw_m1, nw_m2, true_and, and_true]; omega), by first | omega | (simp (disch := omega) only [hsr_ne, hset_ne, up2_ne, up2_eq, nw_ne, nw_m1, nw_m2, true_and, and_true]; done) | (simp (disch := omega) only [hsr_ne, hset_ne, up2_ne, up2_eq, nw_ne, nw_m1, nw_m2, true_and, and_true]; omega), fun i i0 i1 => ?_⟩
        simp (disch := omega) only [hsr_ne, hset_ne, up2_ne, up2_eq, nw_ne, nw_m1, nw_m2, true_and, and_true]
        exact hs i i0 i1
    · exfalso; omega
  · obtain ⟨x0, x1, yz⟩ := y1
    have hS1 : St (hset (up2 (up2 h (80 + x) 2 z) (80 + x) 1 m) (90 + x) 40 0) := ((hS.upSh x0 (by omega) (Or.inr rfl)).upSh x0 (by omega) (Or.inl rfl)).hset (stA_sh x0 (by omega))
    refine ⟨_, rfl, ⟨by decide, by decide⟩, (s_X12_sheet (d := 2046) (b := 0) hS1 i1 i2 i3).mono ?_⟩
    rintro r h2 (⟨z1, rfl, rfl⟩ | ⟨z1, z2, z3, rfl, rfl⟩ | ⟨z1, z2, rfl, rfl⟩ | ⟨z1, z2, z3, rfl, rfl⟩) -
    · exfalso; omega
    · exfalso; omega
    · exfalso; omega
    · refine ⟨rfl, ((hS1.upA (by decide +kernel) x0).upA (by decide +kernel) x0).hsr (by decide +kernel) (by omega), (by unfold iN at aN ⊢; simp (disch := omega) only [hsr_ne, hset_ne, up2_ne, up2_eq, nw_ne, nw_m1, nw_m2, true_and, and_true]; exact aN), iF_up (iF_cg (by simp (disch := omega) only [hsr_ne, hset_ne, up2_ne, up2_eq, nw_ne, nw_m1, nw_m2, true_and, and_true]) (fun x k q => by simp (disch := omega) only [hsr_ne, hset_ne, up2_ne, up2_eq, nw_ne, nw_m1, nw_m2, true_and, and_true]) aF), iR_cg (by simp (disch := omega) only [hsr_ne, hset_ne, up2_ne, up2_eq, nw_ne, nw_m1, nw_m2, true_and, and_true]) (by simp (disch := omega) only [hsr_ne, hset_ne, up2_ne, up2_eq, nw_ne, nw_m1, nw_m2, true_and, and_true]) (fun x k q => by simp (disch := omega) only [hsr_ne, hset_ne, up2_ne, up2_eq, nw_ne, nw_m1, nw_m2, true_and, and_true]) aR, iA_cg (by simp (disch := omega) only [hsr_ne, hset_ne, up2_ne, up2_eq, nw_ne, nw_m1, nw_m2, true_and, and_true]) (by simp (disch := omega) only [hsr_ne, hset_ne, up2_ne, up2_eq, nw_ne, nw_m1, nw_m2, true_and, and_true]; omega) (fun x k q => by simp (disch := omega) only [hsr_ne, hset_ne, up2_ne, up2_eq, nw_ne, nw_m1, nw_m2, true_and, and_true]) aA, iB_cg (by simp (disch := omega) only [hsr_ne, hset_ne, up2_ne, up2_eq, nw_ne, nw_m1, nw_m2, true_and, and_true]) (by simp (disch := omega) only [hsr_ne, hset_ne, up2_ne, up2_eq, nw_ne, nw_m1, nw_m2, true_and, and_true]) (fun x k q => by simp (disch := omega) only [hsr_ne, hset_ne, up2_ne, up2_eq, nw_ne, nw_m1, nw_m2, true_and, and_true]) aB, iG_cg (by simp (disch := omega) only [hsr_ne, hset_ne, up2_ne, up2_eq, nw_ne, nw_m1, nw_m2, true_and, and_true]) (by simp (disch := omega) only [hsr_ne, hset_ne, up2_ne, up2_eq, nw_ne, nw_m1, nw_m2, true_and, and_true]; omega) (fun x k q => by simp (disch := omega) only [hsr_ne, hset_ne, up2_ne, up2_eq, nw_ne, nw_m1, nw_m2, true_and, and_true]) aG, ?_, iP_cg (by simp (disch := omega) only [hsr_ne, hset_ne, up2_ne, up2_eq, nw_ne, nw_m1, nw_m2, true_and, and_true]) (fun x k q => by simp (disch := omega) only [hsr_ne, hset_ne, up2_ne, up2_eq, nw_ne, nw_m1, nw_m2, true_and, and_true]) aP, iT_cg (by simp (disch := omega) only [hsr_ne, hset_ne, up2_ne, up2_eq, nw_ne, nw_m1, nw_m2, true_and, and_true]) (by omega) (fun x k q => by simp (disch := omega) only [hsr_ne, hset_ne, up2_ne, up2_eq, nw_ne, nw_m1, nw_m2, true_and, and_true]) aT⟩
      intro y y0 y1
      have := aS y y0 y1
      by_cases c : y = x
      · subst c
        have hs := this.2.2.2.2.2.2
        refine ⟨by first | omega | (simp (disch := omega) only [hsr_ne, hset_ne, up2_ne, up2_eq, nw_ne, nw_m1, nw_m2, true_and, and_true]; done) | (simp (disch := omega) only [hsr_ne, hset_ne, up2_ne, up2_eq, nw_ne, nw_m1, nw_m2, true_and, and_true]; omega), by first | omega | (simp (disch := omega) only [hsr_ne, hset_ne, up2_ne, up2_eq, nw_ne, nw_m1, nw_m2, true_and, and_true]; done) | (simp (disch := omega) only [hsr_ne, hset_ne, up2_ne, up2_eq, nw_ne, nw_m1, nw_m2, true_and, and_true]; omega), by first | omega | (simp (disch := omega) only [hsr_ne, hset_ne, up2_ne, up2_eq, nw_ne, nw_m1, nw_m2, true_and, and_true]; done) | (simp (disch := omega) only [hsr_ne, hset_ne, up2_ne, up2_eq, nw_ne, nw_m1, nw_m2, true_and, and_true]; omega), by first | omega | (simp (disch := omega) only [hsr_ne, hset_ne, up2_ne, up2_eq, nw_ne, nw_m1, nw_m2, true_and, and_true]; done) | (simp (disch := omega) only [hsr_ne, hset_ne, up2_ne, up2_eq, nw_ne, nw_m1, nw_m2, true_and, and_true]; omega), by first | omega | (simp (disch := omega) only [hsr_ne, hset_ne, up2_ne, up2_eq, nw_ne, nw_m1, nw_m2, true_and, and_true]; done) | (simp (disch := omega) only [hsr_ne, hset_ne, up2_ne, up2_eq, nw_ne, nw_m1, nw_m2, true_and, and_true]; omega), by first | omega | (simp (disch := omega) only [hsr_ne, hset_ne, up2_ne, up2_eq, nw_ne, nw_m1, nw_m2, true_and, and_true]; done) | (simp (disch := omega) only [hsr_ne, hset_ne, up2_ne, up2_eq, nw_ne, nw_m1, nw_m2, true_and, and_true]; omega), fun i i0 i1 => ?_⟩
        have := hs i i0 i1
        simp (disch := omega) only [hsr_ne, hset_ne, hsr_eq, hset_eq, up2_ne, up2_eq, nw_ne, nw_m1, nw_m2, true_and, and_true]
        exact ⟨by first | exact fun _ => rfl | exact fun _ => trivial, In00, In00⟩
      · have hs := this.2.2.2.2.2.2
        refine ⟨by first | omega | (simp (disch := omega) only [hsr_ne, hset_ne, up2_ne, up2_eq, nw_ne, nw_m1, nw_m2, true_and, and_true]; done) | (simp (disch := omega) only [hsr_ne, hset_ne, up2_ne, up2_eq, nw_ne, nw_m1, nw_m2, true_and, and_true]; omega), by first | omega | (simp (disch := omega) only [hsr_ne, hset_ne, up2_ne, up2_eq, nw_ne, nw_m1, nw_m2, true_and, and_true]; done) | (simp (disch := omega) only [hsr_ne, hset_ne, up2_ne, up2_eq, nw_ne, nw_m1, nw_m2, true_and, and_true]; omega), by first | omega | (simp (disch := omega) only [hsr_ne, hset_ne, up2_ne, up2_eq, nw_ne, nw_m1, nw_m2, true_and, and_true]; done) | (simp (disch := omega) only [hsr_ne, hset_ne, up2_ne, up2_eq, nw_ne, nw_m1, nw_m2, true_and, and_true]; omega), by first | omega | (simp (disch := omega) only [hsr_ne, hset_ne, up2_ne, up2_eq, nw_ne, nw_m1, nw_m2, true_and, and_true]; done) | (simp (disch := omega) only [hsr_ne, hset_ne, up2_ne, up2_eq, nw_ne, nw_m1, nw_m2, true_and, and_true]; omega), by first | omega | (simp (disch := omega) only [hsr_ne, hset_ne, up2_ne, up2_eq, nw_ne, nw_m1, nw_m2, true_and, and_true]; done) | (simp (disch := omega) only [hsr_ne, hset_ne, up2_ne, up2_eq, nw_ne, nw_m1, nw_m2, true_and, and_true]; omega), by first | omega | (simp (disch := omega) only [hsr_ne, hset_ne, up2_ne, up2_eq, nw_ne, nw_m1, nw_m2, true_and, and_true]; done) | (simp (disch := omega) only [hsr_ne, hset_ne, up2_ne, up2_eq, nw_ne, nw_m1, nw_m2, true_and, and_true]; omega), fun i i0 i1 => ?_⟩
        simp (disch := omega) only [hsr_ne, hset_ne, up2_ne, up2_eq, nw_ne, nw_m1, nw_m2, true_and, and_true]
        exact hs i i0 i1
set_option maxHeartbeats 1000000 in
theorem p_cell {u : gT} (j : Nat) (h : mH) (hj : j < 512) (hI : Inv j h) (x i v : Int) (i1 : InI x) (i2 : InI i) (i3 : InI v): PairI u Inv MX11_cell MX12_cell [(0, x), (0, i), (0, v)] j h := by
  obtain ⟨hS, aN, aF, aR, aA, aB, aG, aS, aP, aT⟩ := id hI
  have n := aN
  unfold iN at n
  have hsx := aS x
  refine (s_X11_cell (d := 2044) (b := 300) hS i1 i2 (fun y y0 y1 => by have := aS y y0 y1; omega)).mono ?_
  rintro r h1 (⟨y1, rfl, rfl⟩ | ⟨y1, y2, rfl, rfl⟩ | ⟨y1, y2, y3, rfl, rfl⟩ | ⟨y1, y2, y3, rfl, rfl⟩) -
  · refine ⟨_, rfl, by first | exact ⟨by omega, by omega⟩ | exact ⟨by decide, by decide⟩, (s_X12_cell (d := 2046) (b := 0) hS i1 i2 (fun y y0 y1 => by have := aS y y0 y1; omega)).mono ?_⟩
    rintro r h2 (⟨z1, rfl, rfl⟩ | ⟨z1, z2, rfl, rfl⟩ | ⟨z1, z2, z3, rfl, rfl⟩ | ⟨z1, z2, z3, rfl, rfl⟩) -
    · exact ⟨rfl, Inv_same hI⟩
    · exfalso; omega
    · exfalso; omega
    · exfalso; omega
  · refine ⟨_, rfl, by first | exact ⟨by omega, by omega⟩ | exact ⟨by decide, by decide⟩, (s_X12_cell (d := 2046) (b := 0) hS i1 i2 (fun y y0 y1 => by have := aS y y0 y1; omega)).mono ?_⟩
    rintro r h2 (⟨z1, rfl, rfl⟩ | ⟨z1, z2, rfl, rfl⟩ | ⟨z1, z2, z3, rfl, rfl⟩ | ⟨z1, z2, z3, rfl, rfl⟩) -
    · exfalso; omega
    · exact ⟨rfl, Inv_same hI⟩
    · exfalso; omega
    · exfalso; omega
  · refine ⟨_, rfl, by first | exact ⟨by omega, by omega⟩ | exact ⟨by decide, by decide⟩, (s_X12_cell (d := 2046) (b := 0) hS i1 i2 (fun y y0 y1 => by have := aS y y0 y1; omega)).mono ?_⟩
    rintro r h2 (⟨z1, rfl, rfl⟩ | ⟨z1, z2, rfl, rfl⟩ | ⟨z1, z2, z3, rfl, rfl⟩ | ⟨z1, z2, z3, rfl, rfl⟩) -
    · exfalso; omega
    · exfalso; omega
    · exact ⟨rfl, Inv_same hI⟩
    · exfalso; omega
  · have hsx := aS x y1.1 y1.2
    have hS1 : St (up2 h (90 + x) i (scut (h (80 + x) 2) v)) := hS.upA (stA_sh y1.1 y1.2) y3.1
    have e0 : up2 h (90 + x) i (scut (h (80 + x) 2) v) 253 x = h 253 x := by simp (disch := omega) only [up2_ne, up2_eq, nw_ne, nw_m1, nw_m2, true_and, and_true]
    have e1 : up2 h (90 + x) i (scut (h (80 + x) 2) v) 254 x = h 254 x := by simp (disch := omega) only [up2_ne, up2_eq, nw_ne, nw_m1, nw_m2, true_and, and_true]
    refine ⟨_, rfl, ⟨by decide, by decide⟩, (s_X12_cell (d := 2046) (b := 0) hS1 i1 i2 (fun y y0 y1 => by have := aS y y0 y1; simp (disch := omega) only [up2_ne, up2_eq, nw_ne, nw_m1, nw_m2, true_and, and_true]; omega)).mono ?_⟩
    rw [e0, e1]
    rintro r h2 (⟨z1, rfl, rfl⟩ | ⟨z1, z2, rfl, rfl⟩ | ⟨z1, z2, z3, rfl, rfl⟩ | ⟨z1, z2, z3, rfl, rfl⟩) -
    · exfalso; omega
    · exfalso; omega
    · exfalso; omega
    have hc := scut_in (z := h 253 x) i3
    rw [hsx.1]
    refine ⟨rfl, St.upA (by rw [hsx.1] at hS1; exact hS1) (by decide +kernel) (by omega), (by unfold iN at aN ⊢; simp (disch := omega) only [up2_ne, up2_eq, nw_ne, nw_m1, nw_m2, true_and, and_true]; exact aN), iF_up (iF_cg (by simp (disch := omega) only [up2_ne, up2_eq, nw_ne, nw_m1, nw_m2, true_and, and_true]) (fun x k q => by simp (disch := omega) only [up2_ne, up2_eq, nw_ne, nw_m1, nw_m2, true_and, and_true]) aF), iR_cg (by simp (disch := omega) only [up2_ne, up2_eq, nw_ne, nw_m1, nw_m2, true_and, and_true]) (by simp (disch := omega) only [up2_ne, up2_eq, nw_ne, nw_m1, nw_m2, true_and, and_true]) (fun x k q => by simp (disch := omega) only [up2_ne, up2_eq, nw_ne, nw_m1, nw_m2, true_and, and_true]) aR, iA_cg (by simp (disch := omega) only [up2_ne, up2_eq, nw_ne, nw_m1, nw_m2, true_and, and_true]) (by simp (disch := omega) only [up2_ne, up2_eq, nw_ne, nw_m1, nw_m2, true_and, and_true]; omega) (fun x k q => by simp (disch := omega) only [up2_ne, up2_eq, nw_ne, nw_m1, nw_m2, true_and, and_true]) aA, iB_cg (by simp (disch := omega) only [up2_ne, up2_eq, nw_ne, nw_m1, nw_m2, true_and, and_true]) (by simp (disch := omega) only [up2_ne, up2_eq, nw_ne, nw_m1, nw_m2, true_and, and_true]) (fun x k q => by simp (disch := omega) only [up2_ne, up2_eq, nw_ne, nw_m1, nw_m2, true_and, and_true]) aB, iG_cg (by simp (disch := omega) only [up2_ne, up2_eq, nw_ne, nw_m1, nw_m2, true_and, and_true]) (by simp (disch := omega) only [up2_ne, up2_eq, nw_ne, nw_m1, nw_m2, true_and, and_true]; omega) (fun x k q => by simp (disch := omega) only [up2_ne, up2_eq, nw_ne, nw_m1, nw_m2, true_and, and_true]) aG, ?_, iP_cg (by simp (disch := omega) only [up2_ne, up2_eq, nw_ne, nw_m1, nw_m2, true_and, and_true]) (fun x k q => by simp (disch := omega) only [up2_ne, up2_eq, nw_ne, nw_m1, nw_m2, true_and, and_true]) aP, iT_cg (by simp (disch := omega) only [up2_ne, up2_eq, nw_ne, nw_m1, nw_m2, true_and, and_true]) (by omega) (fun x k q => by simp (disch := omega) only [up2_ne, up2_eq, nw_ne, nw_m1, nw_m2, true_and, and_true]) aT⟩
    intro y y0 y1
    have := aS y y0 y1
    have hs := this.2.2.2.2.2.2
    simp (disch := omega) only [up2_ne, up2_eq, nw_ne, nw_m1, nw_m2, true_and, and_true]
    refine ⟨by omega, by omega, by omega, by omega, by omega, by omega, fun k k0 k1 => ?_⟩
    have hk := hs k k0 k1
    by_cases c : y = x
    · subst c
      by_cases c2 : k = i
      · subst c2
        simp (disch := omega) only [up2_ne, up2_eq, nw_ne, nw_m1, nw_m2, true_and, and_true]
        exact ⟨by first | exact fun _ => rfl | exact fun _ => trivial, hc, hc⟩
      · simp (disch := omega) only [up2_ne, up2_eq, nw_ne, nw_m1, nw_m2, true_and, and_true]
        exact hk
    · simp (disch := omega) only [up2_ne, up2_eq, nw_ne, nw_m1, nw_m2, true_and, and_true]
      exact hk
