/-! ===== sheet, cell, taken, bar, barred ===== -/
theorem sh6a {h : mH} (H : St h) {x : Int} (x0 : 0 ≤ x) (x1 : x < 4) : h 6 x = 80 + x := by
  rcases (show x = 0 ∨ x = 1 ∨ x = 2 ∨ x = 3 by omega) with rfl | rfl | rfl | rfl
  · exact st_6_0 H
  · exact st_6_1 H
  · exact st_6_2 H
  · exact st_6_3 H
theorem sh6b {h : mH} (H : St h) {x : Int} (x0 : 0 ≤ x) (x1 : x < 4) : h (80 + x) (-1) = 9 := by
  rcases (show x = 0 ∨ x = 1 ∨ x = 2 ∨ x = 3 by omega) with rfl | rfl | rfl | rfl
  · exact st_80_m1 H
  · exact st_81_m1 H
  · exact st_82_m1 H
  · exact st_83_m1 H
theorem sh6c {h : mH} (H : St h) {x : Int} (x0 : 0 ≤ x) (x1 : x < 4) : h (80 + x) 0 = 90 + x := by
  rcases (show x = 0 ∨ x = 1 ∨ x = 2 ∨ x = 3 by omega) with rfl | rfl | rfl | rfl
  · exact st_80_0 H
  · exact st_81_0 H
  · exact st_82_0 H
  · exact st_83_0 H
theorem sh6d {h : mH} (H : St h) {x : Int} (x0 : 0 ≤ x) (x1 : x < 4) : h (90 + x) (-1) = 20 := by
  rcases (show x = 0 ∨ x = 1 ∨ x = 2 ∨ x = 3 by omega) with rfl | rfl | rfl | rfl
  · exact st_90_m1 H
  · exact st_91_m1 H
  · exact st_92_m1 H
  · exact st_93_m1 H
theorem sh6e {h : mH} (H : St h) {x : Int} (x0 : 0 ≤ x) (x1 : x < 4) : h (90 + x) (-2) = 40 := by
  rcases (show x = 0 ∨ x = 1 ∨ x = 2 ∨ x = 3 by omega) with rfl | rfl | rfl | rfl
  · exact st_90_m2 H
  · exact st_91_m2 H
  · exact st_92_m2 H
  · exact st_93_m2 H
theorem s_X11_sheet {u : gT} {h : mH} {d b : Nat} {x z n : Int} (hS : St h) (i1 : InI x) (i2 : InI z) (i3 : InI n) : Rlt (gX (gq u)) MX11_sheet (d + 3) b [(2, 1), (0, x), (0, z), (0, n)] h (fun r h1 => (¬ (0 ≤ x ∧ x ≤ 3 ∧ (z = -1 ∨ (0 ≤ z ∧ z ≤ 2 ∧ n ≤ 40))) ∧ r = (0, -2) ∧ h1 = h) ∨ ((0 ≤ x ∧ x ≤ 3 ∧ (z = -1 ∨ (0 ≤ z ∧ z ≤ 2 ∧ n ≤ 40))) ∧ z ≠ -1 ∧ n < 0 ∧ r = (0, -14) ∧ h1 = h) ∨ ((0 ≤ x ∧ x ≤ 3 ∧ (z = -1 ∨ (0 ≤ z ∧ z ≤ 2 ∧ n ≤ 40))) ∧ z = -1 ∧ r = (0, 1) ∧ h1 = up2 (up2 h (80 + x) 2 (-1)) (80 + x) 1 0) ∨ ((0 ≤ x ∧ x ≤ 3 ∧ (z = -1 ∨ (0 ≤ z ∧ z ≤ 2 ∧ n ≤ 40))) ∧ z ≠ -1 ∧ 0 ≤ n ∧ r = (0, 1) ∧ h1 = hset (up2 (up2 h (80 + x) 2 z) (80 + x) 1 n) (90 + x) 40 0)) := by
  refine Rlt.of ?_
  show WP (gX (gq u)) MX11_sheet (d + 3) b _ 0 [(2, 1), (0, x), (0, z), (0, n)] [] h
  refine wp_iload_n rfl rfl dX11_sheet_0 ?_
  refine wp_iconst dX11_sheet_1 ?_
  refine wp_iconst dX11_sheet_2 ?_
  refine wp_cS3 okX11_isWithin wX11_98 dX11_sheet_3 rfl (Nat.le_of_ble_eq_true rfl) (Nat.le_of_ble_eq_true rfl) (s_X11_isWithin (by first | assumption | exact ⟨by omega, by omega⟩) (by exact ⟨by omega, by omega⟩) (by exact ⟨by omega, by omega⟩)) (Nat.zero_le _) ?_
  try simp (disch := omega) only [up2_ne, up2_eq, sh6a hS, sh6b hS, sh6c hS, sh6d hS, sh6e hS, st_1_m1 hS, st_1_4 hS, st_6_m2 hS, st_6_m1 hS]
  refine wp_ifB_eq (tgt := 21) dX11_sheet_6 (by decide) (fun c1 => ?_) (fun c1 => ?_)
  · refine wp_bipush (by decide) dX11_sheet_21 ?_
    refine wp_iret dX11_sheet_23 rfl ?_
    first | exact Or.inl ⟨by omega, rfl, rfl⟩ | exact Or.inr (Or.inl ⟨by omega, by omega, by omega, rfl, rfl⟩) | exact Or.inr (Or.inr (Or.inl ⟨by omega, by omega, rfl, rfl⟩)) | exact Or.inr (Or.inr (Or.inr ⟨by omega, by omega, by omega, rfl, rfl⟩)) | (exfalso; omega)
  · refine wp_iload_n rfl rfl dX11_sheet_9 ?_
    refine wp_iconst dX11_sheet_10 ?_
    refine wp_icmp_eq (tgt := 24) (by first | assumption | exact bI_in _ | exact ⟨by omega, by omega⟩ | exact iAnd_in | exact iOr_in | exact iShr_in | exact iShl_in | exact iXor_in | exact hxs _) (by first | assumption | exact bI_in _ | exact ⟨by omega, by omega⟩ | exact iAnd_in | exact iOr_in | exact iShr_in | exact iShl_in | exact iXor_in | exact hxs _) dX11_sheet_11 (by decide) (fun c2 => ?_) (fun c2 => ?_)
    · refine wp_iload_n rfl rfl dX11_sheet_24 ?_
      refine wp_iconst dX11_sheet_25 ?_
      refine wp_icmp_ne (tgt := 40) (by first | assumption | exact bI_in _ | exact ⟨by omega, by omega⟩ | exact iAnd_in | exact iOr_in | exact iShr_in | exact iShl_in | exact iXor_in | exact hxs _) (by first | assumption | exact bI_in _ | exact ⟨by omega, by omega⟩ | exact iAnd_in | exact iOr_in | exact iShr_in | exact iShl_in | exact iXor_in | exact hxs _) dX11_sheet_26 (by decide) (fun c3 => ?_) (fun c3 => ?_)
      · refine wp_iload_n rfl rfl dX11_sheet_40 ?_
        refine wp_bipush (by decide) dX11_sheet_41 ?_
        refine wp_icmp_le (tgt := 49) (by first | assumption | exact bI_in _ | exact ⟨by omega, by omega⟩ | exact iAnd_in | exact iOr_in | exact iShr_in | exact iShl_in | exact iXor_in | exact hxs _) (by first | assumption | exact bI_in _ | exact ⟨by omega, by omega⟩ | exact iAnd_in | exact iOr_in | exact iShr_in | exact iShl_in | exact iXor_in | exact hxs _) dX11_sheet_43 (by decide) (fun c4 => ?_) (fun c4 => ?_)
        · refine wp_iload_n rfl rfl dX11_sheet_49 ?_
          refine wp_if_ge (tgt := 56) (by first | assumption | exact bI_in _ | exact ⟨by omega, by omega⟩ | exact iAnd_in | exact iOr_in | exact iShr_in | exact iShl_in | exact iXor_in | exact hxs _) dX11_sheet_50 (by decide) (fun c5 => ?_) (fun c5 => ?_)
          · refine wp_aload_n rfl rfl dX11_sheet_56 ?_
            refine wp_getfield1 (z := 12) (kI := 4) fX11_35 dX11_sheet_57 (by first | omega | (simp (disch := omega) only [up2_ne, up2_eq, sh6a hS, sh6b hS, sh6c hS, sh6d hS, sh6e hS, st_1_m1 hS, st_1_4 hS, st_6_m2 hS, st_6_m1 hS]; first | done | omega)) (by first | assumption | (simp (disch := omega) only [up2_ne, up2_eq, sh6a hS, sh6b hS, sh6c hS, sh6d hS, sh6e hS, st_1_m1 hS, st_1_4 hS, st_6_m2 hS, st_6_m1 hS]; first | done | rfl | omega)) rfl rfl ?_
            try simp (disch := omega) only [up2_ne, up2_eq, sh6a hS, sh6b hS, sh6c hS, sh6d hS, sh6e hS, st_1_m1 hS, st_1_4 hS, st_6_m2 hS, st_6_m1 hS]
            refine wp_iload_n rfl rfl dX11_sheet_60 ?_
            refine wp_aaload1 dX11_sheet_61 (by first | omega | (simp (disch := omega) only [up2_ne, up2_eq, sh6a hS, sh6b hS, sh6c hS, sh6d hS, sh6e hS, st_1_m1 hS, st_1_4 hS, st_6_m2 hS, st_6_m1 hS]; first | done | omega)) (by first | omega | (simp (disch := omega) only [up2_ne, up2_eq, sh6a hS, sh6b hS, sh6c hS, sh6d hS, sh6e hS, st_1_m1 hS, st_1_4 hS, st_6_m2 hS, st_6_m1 hS]; first | done | omega)) (by first | omega | (simp (disch := omega) only [up2_ne, up2_eq, sh6a hS, sh6b hS, sh6c hS, sh6d hS, sh6e hS, st_1_m1 hS, st_1_4 hS, st_6_m2 hS, st_6_m1 hS]; first | done | omega)) (by first | omega | (simp (disch := omega) only [up2_ne, up2_eq, sh6a hS, sh6b hS, sh6c hS, sh6d hS, sh6e hS, st_1_m1 hS, st_1_4 hS, st_6_m2 hS, st_6_m1 hS]; first | done | omega)) ?_
            try simp (disch := omega) only [up2_ne, up2_eq, sh6a hS, sh6b hS, sh6c hS, sh6d hS, sh6e hS, st_1_m1 hS, st_1_4 hS, st_6_m2 hS, st_6_m1 hS]
            refine wp_iload_n rfl rfl dX11_sheet_62 ?_
            refine wp_iload_n rfl rfl dX11_sheet_63 ?_
            refine wp_cV2v (ci := 8) okX8_become rfl rfl wX11_368 dX11_sheet_64 (Nat.le_of_ble_eq_true rfl) (Nat.le_of_ble_eq_true rfl) (by first | omega | (simp (disch := omega) only [up2_ne, up2_eq, sh6a hS, sh6b hS, sh6c hS, sh6d hS, sh6e hS, st_1_m1 hS, st_1_4 hS, st_6_m2 hS, st_6_m1 hS]; first | done | omega)) (by first | assumption | (simp (disch := omega) only [up2_ne, up2_eq, sh6a hS, sh6b hS, sh6c hS, sh6d hS, sh6e hS, st_1_m1 hS, st_1_4 hS, st_6_m2 hS, st_6_m1 hS]; first | done | rfl | omega)) (s_X8_become (by omega) (sh6b hS (by omega) (by omega)) (sh6c hS (by omega) (by omega)) (by omega) (sh6d hS (by omega) (by omega)) (sh6e hS (by omega) (by omega)) (by omega)) (Nat.zero_le _) ?_
            try simp (disch := omega) only [up2_ne, up2_eq, sh6a hS, sh6b hS, sh6c hS, sh6d hS, sh6e hS, st_1_m1 hS, st_1_4 hS, st_6_m2 hS, st_6_m1 hS]
            refine wp_iconst dX11_sheet_67 ?_
            refine wp_iret dX11_sheet_68 rfl ?_
            first | exact Or.inl ⟨by omega, rfl, rfl⟩ | exact Or.inr (Or.inl ⟨by omega, by omega, by omega, rfl, rfl⟩) | exact Or.inr (Or.inr (Or.inl ⟨by omega, by omega, rfl, rfl⟩)) | exact Or.inr (Or.inr (Or.inr ⟨by omega, by omega, by omega, rfl, rfl⟩)) | (exfalso; omega)
          · refine wp_bipush (by decide) dX11_sheet_53 ?_
            refine wp_iret dX11_sheet_55 rfl ?_
            first | exact Or.inl ⟨by omega, rfl, rfl⟩ | exact Or.inr (Or.inl ⟨by omega, by omega, by omega, rfl, rfl⟩) | exact Or.inr (Or.inr (Or.inl ⟨by omega, by omega, rfl, rfl⟩)) | exact Or.inr (Or.inr (Or.inr ⟨by omega, by omega, by omega, rfl, rfl⟩)) | (exfalso; omega)
        · refine wp_bipush (by decide) dX11_sheet_46 ?_
          refine wp_iret dX11_sheet_48 rfl ?_
          first | exact Or.inl ⟨by omega, rfl, rfl⟩ | exact Or.inr (Or.inl ⟨by omega, by omega, by omega, rfl, rfl⟩) | exact Or.inr (Or.inr (Or.inl ⟨by omega, by omega, rfl, rfl⟩)) | exact Or.inr (Or.inr (Or.inr ⟨by omega, by omega, by omega, rfl, rfl⟩)) | (exfalso; omega)
      · refine wp_aload_n rfl rfl dX11_sheet_29 ?_
        refine wp_getfield1 (z := 12) (kI := 4) fX11_35 dX11_sheet_30 (by first | omega | (simp (disch := omega) only [up2_ne, up2_eq, sh6a hS, sh6b hS, sh6c hS, sh6d hS, sh6e hS, st_1_m1 hS, st_1_4 hS, st_6_m2 hS, st_6_m1 hS]; first | done | omega)) (by first | assumption | (simp (disch := omega) only [up2_ne, up2_eq, sh6a hS, sh6b hS, sh6c hS, sh6d hS, sh6e hS, st_1_m1 hS, st_1_4 hS, st_6_m2 hS, st_6_m1 hS]; first | done | rfl | omega)) rfl rfl ?_
        try simp (disch := omega) only [up2_ne, up2_eq, sh6a hS, sh6b hS, sh6c hS, sh6d hS, sh6e hS, st_1_m1 hS, st_1_4 hS, st_6_m2 hS, st_6_m1 hS]
        refine wp_iload_n rfl rfl dX11_sheet_33 ?_
        refine wp_aaload1 dX11_sheet_34 (by first | omega | (simp (disch := omega) only [up2_ne, up2_eq, sh6a hS, sh6b hS, sh6c hS, sh6d hS, sh6e hS, st_1_m1 hS, st_1_4 hS, st_6_m2 hS, st_6_m1 hS]; first | done | omega)) (by first | omega | (simp (disch := omega) only [up2_ne, up2_eq, sh6a hS, sh6b hS, sh6c hS, sh6d hS, sh6e hS, st_1_m1 hS, st_1_4 hS, st_6_m2 hS, st_6_m1 hS]; first | done | omega)) (by first | omega | (simp (disch := omega) only [up2_ne, up2_eq, sh6a hS, sh6b hS, sh6c hS, sh6d hS, sh6e hS, st_1_m1 hS, st_1_4 hS, st_6_m2 hS, st_6_m1 hS]; first | done | omega)) (by first | omega | (simp (disch := omega) only [up2_ne, up2_eq, sh6a hS, sh6b hS, sh6c hS, sh6d hS, sh6e hS, st_1_m1 hS, st_1_4 hS, st_6_m2 hS, st_6_m1 hS]; first | done | omega)) ?_
        try simp (disch := omega) only [up2_ne, up2_eq, sh6a hS, sh6b hS, sh6c hS, sh6d hS, sh6e hS, st_1_m1 hS, st_1_4 hS, st_6_m2 hS, st_6_m1 hS]
        refine wp_cV0v (ci := 8) okX8_vanish rfl rfl wX11_365 dX11_sheet_35 (Nat.le_of_ble_eq_true rfl) (Nat.le_of_ble_eq_true rfl) (by first | omega | (simp (disch := omega) only [up2_ne, up2_eq, sh6a hS, sh6b hS, sh6c hS, sh6d hS, sh6e hS, st_1_m1 hS, st_1_4 hS, st_6_m2 hS, st_6_m1 hS]; first | done | omega)) (by first | assumption | (simp (disch := omega) only [up2_ne, up2_eq, sh6a hS, sh6b hS, sh6c hS, sh6d hS, sh6e hS, st_1_m1 hS, st_1_4 hS, st_6_m2 hS, st_6_m1 hS]; first | done | rfl | omega)) (s_X8_vanish (by omega) (sh6b hS (by omega) (by omega))) (Nat.zero_le _) ?_
        try simp (disch := omega) only [up2_ne, up2_eq, sh6a hS, sh6b hS, sh6c hS, sh6d hS, sh6e hS, st_1_m1 hS, st_1_4 hS, st_6_m2 hS, st_6_m1 hS]
        refine wp_iconst dX11_sheet_38 ?_
        refine wp_iret dX11_sheet_39 rfl ?_
        first | exact Or.inl ⟨by omega, rfl, rfl⟩ | exact Or.inr (Or.inl ⟨by omega, by omega, by omega, rfl, rfl⟩) | exact Or.inr (Or.inr (Or.inl ⟨by omega, by omega, rfl, rfl⟩)) | exact Or.inr (Or.inr (Or.inr ⟨by omega, by omega, by omega, rfl, rfl⟩)) | (exfalso; omega)
    · refine wp_iload_n rfl rfl dX11_sheet_14 ?_
      refine wp_cS1 okX8_isSort wX11_178 dX11_sheet_15 rfl (Nat.le_of_ble_eq_true rfl) (Nat.le_of_ble_eq_true rfl) (s_X8_isSort i2) (Nat.zero_le _) ?_
      try simp (disch := omega) only [up2_ne, up2_eq, sh6a hS, sh6b hS, sh6c hS, sh6d hS, sh6e hS, st_1_m1 hS, st_1_4 hS, st_6_m2 hS, st_6_m1 hS]
      refine wp_ifB_ne (tgt := 24) dX11_sheet_18 (by decide) (fun c6 => ?_) (fun c6 => ?_)
      · refine wp_iload_n rfl rfl dX11_sheet_24 ?_
        refine wp_iconst dX11_sheet_25 ?_
        refine wp_icmp_ne (tgt := 40) (by first | assumption | exact bI_in _ | exact ⟨by omega, by omega⟩ | exact iAnd_in | exact iOr_in | exact iShr_in | exact iShl_in | exact iXor_in | exact hxs _) (by first | assumption | exact bI_in _ | exact ⟨by omega, by omega⟩ | exact iAnd_in | exact iOr_in | exact iShr_in | exact iShl_in | exact iXor_in | exact hxs _) dX11_sheet_26 (by decide) (fun c7 => ?_) (fun c7 => ?_)
        · refine wp_iload_n rfl rfl dX11_sheet_40 ?_
          refine wp_bipush (by decide) dX11_sheet_41 ?_
          refine wp_icmp_le (tgt := 49) (by first | assumption | exact bI_in _ | exact ⟨by omega, by omega⟩ | exact iAnd_in | exact iOr_in | exact iShr_in | exact iShl_in | exact iXor_in | exact hxs _) (by first | assumption | exact bI_in _ | exact ⟨by omega, by omega⟩ | exact iAnd_in | exact iOr_in | exact iShr_in | exact iShl_in | exact iXor_in | exact hxs _) dX11_sheet_43 (by decide) (fun c8 => ?_) (fun c8 => ?_)
          · refine wp_iload_n rfl rfl dX11_sheet_49 ?_
            refine wp_if_ge (tgt := 56) (by first | assumption | exact bI_in _ | exact ⟨by omega, by omega⟩ | exact iAnd_in | exact iOr_in | exact iShr_in | exact iShl_in | exact iXor_in | exact hxs _) dX11_sheet_50 (by decide) (fun c9 => ?_) (fun c9 => ?_)
            · refine wp_aload_n rfl rfl dX11_sheet_56 ?_
              refine wp_getfield1 (z := 12) (kI := 4) fX11_35 dX11_sheet_57 (by first | omega | (simp (disch := omega) only [up2_ne, up2_eq, sh6a hS, sh6b hS, sh6c hS, sh6d hS, sh6e hS, st_1_m1 hS, st_1_4 hS, st_6_m2 hS, st_6_m1 hS]; first | done | omega)) (by first | assumption | (simp (disch := omega) only [up2_ne, up2_eq, sh6a hS, sh6b hS, sh6c hS, sh6d hS, sh6e hS, st_1_m1 hS, st_1_4 hS, st_6_m2 hS, st_6_m1 hS]; first | done | rfl | omega)) rfl rfl ?_
              try simp (disch := omega) only [up2_ne, up2_eq, sh6a hS, sh6b hS, sh6c hS, sh6d hS, sh6e hS, st_1_m1 hS, st_1_4 hS, st_6_m2 hS, st_6_m1 hS]
              refine wp_iload_n rfl rfl dX11_sheet_60 ?_
              refine wp_aaload1 dX11_sheet_61 (by first | omega | (simp (disch := omega) only [up2_ne, up2_eq, sh6a hS, sh6b hS, sh6c hS, sh6d hS, sh6e hS, st_1_m1 hS, st_1_4 hS, st_6_m2 hS, st_6_m1 hS]; first | done | omega)) (by first | omega | (simp (disch := omega) only [up2_ne, up2_eq, sh6a hS, sh6b hS, sh6c hS, sh6d hS, sh6e hS, st_1_m1 hS, st_1_4 hS, st_6_m2 hS, st_6_m1 hS]; first | done | omega)) (by first | omega | (simp (disch := omega) only [up2_ne, up2_eq, sh6a hS, sh6b hS, sh6c hS, sh6d hS, sh6e hS, st_1_m1 hS, st_1_4 hS, st_6_m2 hS, st_6_m1 hS]; first | done | omega)) (by first | omega | (simp (disch := omega) only [up2_ne, up2_eq, sh6a hS, sh6b hS, sh6c hS, sh6d hS, sh6e hS, st_1_m1 hS, st_1_4 hS, st_6_m2 hS, st_6_m1 hS]; first | done | omega)) ?_
              try simp (disch := omega) only [up2_ne, up2_eq, sh6a hS, sh6b hS, sh6c hS, sh6d hS, sh6e hS, st_1_m1 hS, st_1_4 hS, st_6_m2 hS, st_6_m1 hS]
              refine wp_iload_n rfl rfl dX11_sheet_62 ?_
              refine wp_iload_n rfl rfl dX11_sheet_63 ?_
              refine wp_cV2v (ci := 8) okX8_become rfl rfl wX11_368 dX11_sheet_64 (Nat.le_of_ble_eq_true rfl) (Nat.le_of_ble_eq_true rfl) (by first | omega | (simp (disch := omega) only [up2_ne, up2_eq, sh6a hS, sh6b hS, sh6c hS, sh6d hS, sh6e hS, st_1_m1 hS, st_1_4 hS, st_6_m2 hS, st_6_m1 hS]; first | done | omega)) (by first | assumption | (simp (disch := omega) only [up2_ne, up2_eq, sh6a hS, sh6b hS, sh6c hS, sh6d hS, sh6e hS, st_1_m1 hS, st_1_4 hS, st_6_m2 hS, st_6_m1 hS]; first | done | rfl | omega)) (s_X8_become (by omega) (sh6b hS (by omega) (by omega)) (sh6c hS (by omega) (by omega)) (by omega) (sh6d hS (by omega) (by omega)) (sh6e hS (by omega) (by omega)) (by omega)) (Nat.zero_le _) ?_
              try simp (disch := omega) only [up2_ne, up2_eq, sh6a hS, sh6b hS, sh6c hS, sh6d hS, sh6e hS, st_1_m1 hS, st_1_4 hS, st_6_m2 hS, st_6_m1 hS]
              refine wp_iconst dX11_sheet_67 ?_
              refine wp_iret dX11_sheet_68 rfl ?_
              first | exact Or.inl ⟨by omega, rfl, rfl⟩ | exact Or.inr (Or.inl ⟨by omega, by omega, by omega, rfl, rfl⟩) | exact Or.inr (Or.inr (Or.inl ⟨by omega, by omega, rfl, rfl⟩)) | exact Or.inr (Or.inr (Or.inr ⟨by omega, by omega, by omega, rfl, rfl⟩)) | (exfalso; omega)
            · refine wp_bipush (by decide) dX11_sheet_53 ?_
              refine wp_iret dX11_sheet_55 rfl ?_
              first | exact Or.inl ⟨by omega, rfl, rfl⟩ | exact Or.inr (Or.inl ⟨by omega, by omega, by omega, rfl, rfl⟩) | exact Or.inr (Or.inr (Or.inl ⟨by omega, by omega, rfl, rfl⟩)) | exact Or.inr (Or.inr (Or.inr ⟨by omega, by omega, by omega, rfl, rfl⟩)) | (exfalso; omega)
          · refine wp_bipush (by decide) dX11_sheet_46 ?_
            refine wp_iret dX11_sheet_48 rfl ?_
            first | exact Or.inl ⟨by omega, rfl, rfl⟩ | exact Or.inr (Or.inl ⟨by omega, by omega, by omega, rfl, rfl⟩) | exact Or.inr (Or.inr (Or.inl ⟨by omega, by omega, rfl, rfl⟩)) | exact Or.inr (Or.inr (Or.inr ⟨by omega, by omega, by omega, rfl, rfl⟩)) | (exfalso; omega)
        · refine wp_aload_n rfl rfl dX11_sheet_29 ?_
          refine wp_getfield1 (z := 12) (kI := 4) fX11_35 dX11_sheet_30 (by first | omega | (simp (disch := omega) only [up2_ne, up2_eq, sh6a hS, sh6b hS, sh6c hS, sh6d hS, sh6e hS, st_1_m1 hS, st_1_4 hS, st_6_m2 hS, st_6_m1 hS]; first | done | omega)) (by first | assumption | (simp (disch := omega) only [up2_ne, up2_eq, sh6a hS, sh6b hS, sh6c hS, sh6d hS, sh6e hS, st_1_m1 hS, st_1_4 hS, st_6_m2 hS, st_6_m1 hS]; first | done | rfl | omega)) rfl rfl ?_
          try simp (disch := omega) only [up2_ne, up2_eq, sh6a hS, sh6b hS, sh6c hS, sh6d hS, sh6e hS, st_1_m1 hS, st_1_4 hS, st_6_m2 hS, st_6_m1 hS]
          refine wp_iload_n rfl rfl dX11_sheet_33 ?_
          refine wp_aaload1 dX11_sheet_34 (by first | omega | (simp (disch := omega) only [up2_ne, up2_eq, sh6a hS, sh6b hS, sh6c hS, sh6d hS, sh6e hS, st_1_m1 hS, st_1_4 hS, st_6_m2 hS, st_6_m1 hS]; first | done | omega)) (by first | omega | (simp (disch := omega) only [up2_ne, up2_eq, sh6a hS, sh6b hS, sh6c hS, sh6d hS, sh6e hS, st_1_m1 hS, st_1_4 hS, st_6_m2 hS, st_6_m1 hS]; first | done | omega)) (by first | omega | (simp (disch := omega) only [up2_ne, up2_eq, sh6a hS, sh6b hS, sh6c hS, sh6d hS, sh6e hS, st_1_m1 hS, st_1_4 hS, st_6_m2 hS, st_6_m1 hS]; first | done | omega)) (by first | omega | (simp (disch := omega) only [up2_ne, up2_eq, sh6a hS, sh6b hS, sh6c hS, sh6d hS, sh6e hS, st_1_m1 hS, st_1_4 hS, st_6_m2 hS, st_6_m1 hS]; first | done | omega)) ?_
          try simp (disch := omega) only [up2_ne, up2_eq, sh6a hS, sh6b hS, sh6c hS, sh6d hS, sh6e hS, st_1_m1 hS, st_1_4 hS, st_6_m2 hS, st_6_m1 hS]
          refine wp_cV0v (ci := 8) okX8_vanish rfl rfl wX11_365 dX11_sheet_35 (Nat.le_of_ble_eq_true rfl) (Nat.le_of_ble_eq_true rfl) (by first | omega | (simp (disch := omega) only [up2_ne, up2_eq, sh6a hS, sh6b hS, sh6c hS, sh6d hS, sh6e hS, st_1_m1 hS, st_1_4 hS, st_6_m2 hS, st_6_m1 hS]; first | done | omega)) (by first | assumption | (simp (disch := omega) only [up2_ne, up2_eq, sh6a hS, sh6b hS, sh6c hS, sh6d hS, sh6e hS, st_1_m1 hS, st_1_4 hS, st_6_m2 hS, st_6_m1 hS]; first | done | rfl | omega)) (s_X8_vanish (by omega) (sh6b hS (by omega) (by omega))) (Nat.zero_le _) ?_
          try simp (disch := omega) only [up2_ne, up2_eq, sh6a hS, sh6b hS, sh6c hS, sh6d hS, sh6e hS, st_1_m1 hS, st_1_4 hS, st_6_m2 hS, st_6_m1 hS]
          refine wp_iconst dX11_sheet_38 ?_
          refine wp_iret dX11_sheet_39 rfl ?_
          first | exact Or.inl ⟨by omega, rfl, rfl⟩ | exact Or.inr (Or.inl ⟨by omega, by omega, by omega, rfl, rfl⟩) | exact Or.inr (Or.inr (Or.inl ⟨by omega, by omega, rfl, rfl⟩)) | exact Or.inr (Or.inr (Or.inr ⟨by omega, by omega, by omega, rfl, rfl⟩)) | (exfalso; omega)
      · refine wp_bipush (by decide) dX11_sheet_21 ?_
        refine wp_iret dX11_sheet_23 rfl ?_
        first | exact Or.inl ⟨by omega, rfl, rfl⟩ | exact Or.inr (Or.inl ⟨by omega, by omega, by omega, rfl, rfl⟩) | exact Or.inr (Or.inr (Or.inl ⟨by omega, by omega, rfl, rfl⟩)) | exact Or.inr (Or.inr (Or.inr ⟨by omega, by omega, by omega, rfl, rfl⟩)) | (exfalso; omega)
def hsr (h : mH) (a lo n v : Int) : mH := fun x k => if x = a ∧ lo ≤ k ∧ k < n then v else h x k
theorem hsr_0 {h : mH} {a lo v : Int} : hsr h a lo lo v = h := by
  funext x k
  exact if_neg (fun q => by omega)
theorem hsr_s {h : mH} {a lo v n : Int} (hn : lo ≤ n) : up2 (hsr h a lo n v) a n v = hsr h a lo (n + 1) v := by
  funext x k
  unfold up2 hsr
  by_cases h1 : x = a ∧ k = n
  · rw [if_pos h1, if_pos ⟨h1.1, by omega, by omega⟩]
  · rw [if_neg h1]
    by_cases h2 : x = a ∧ lo ≤ k ∧ k < n
    · rw [if_pos h2, if_pos ⟨h2.1, h2.2.1, by omega⟩]
    · rw [if_neg h2, if_neg (fun q => h2 ⟨q.1, q.2.1, by have : k ≠ n := fun w => h1 ⟨q.1, w⟩; omega⟩)]
theorem hsr_ne {h : mH} {a lo n v x k : Int} (hn : x ≠ a ∨ k < lo ∨ n ≤ k) : hsr h a lo n v x k = h x k := if_neg (fun q => by omega)
theorem hsr_eq {h : mH} {a lo n v k : Int} (h0 : lo ≤ k) (h1 : k < n) : hsr h a lo n v a k = v := if_pos ⟨rfl, h0, h1⟩
theorem s_X12_sheet {u : gT} {h : mH} {d b : Nat} {x z n : Int} (hS : St h) (i1 : InI x) (i2 : InI z) (i3 : InI n) : Rlt (gX (gq u)) MX12_sheet (d + 1) b [(2, 200), (0, x), (0, z), (0, n)] h (fun r h1 => (¬ (0 ≤ x ∧ x ≤ 3 ∧ (z = -1 ∨ (0 ≤ z ∧ z ≤ 2 ∧ n ≤ 40))) ∧ r = (0, -2) ∧ h1 = h) ∨ ((0 ≤ x ∧ x ≤ 3 ∧ (z = -1 ∨ (0 ≤ z ∧ z ≤ 2 ∧ n ≤ 40))) ∧ z ≠ -1 ∧ n < 0 ∧ r = (0, -14) ∧ h1 = h) ∨ ((0 ≤ x ∧ x ≤ 3 ∧ (z = -1 ∨ (0 ≤ z ∧ z ≤ 2 ∧ n ≤ 40))) ∧ z = -1 ∧ r = (0, 1) ∧ h1 = hsr (up2 (up2 h 253 x z) 254 x 0) 255 (40 * x) (40 * x + 40) 0) ∨ ((0 ≤ x ∧ x ≤ 3 ∧ (z = -1 ∨ (0 ≤ z ∧ z ≤ 2 ∧ n ≤ 40))) ∧ z ≠ -1 ∧ 0 ≤ n ∧ r = (0, 1) ∧ h1 = hsr (up2 (up2 h 253 x z) 254 x n) 255 (40 * x) (40 * x + 40) 0)) := by
  refine Rlt.of ?_
  have loop : ∀ s : Int, 0 ≤ x → x ≤ 3 → ((0 ≤ x ∧ x ≤ 3 ∧ (z = -1 ∨ (0 ≤ z ∧ z ≤ 2 ∧ n ≤ 40))) ∧ ((z = -1 ∧ s = 0) ∨ (z ≠ -1 ∧ 0 ≤ n ∧ s = n))) → ∀ m : Nat, m ≤ 40 → WP (gX (gq u)) MX12_sheet (d + 1) b (fun r h1 => (¬ (0 ≤ x ∧ x ≤ 3 ∧ (z = -1 ∨ (0 ≤ z ∧ z ≤ 2 ∧ n ≤ 40))) ∧ r = (0, -2) ∧ h1 = h) ∨ ((0 ≤ x ∧ x ≤ 3 ∧ (z = -1 ∨ (0 ≤ z ∧ z ≤ 2 ∧ n ≤ 40))) ∧ z ≠ -1 ∧ n < 0 ∧ r = (0, -14) ∧ h1 = h) ∨ ((0 ≤ x ∧ x ≤ 3 ∧ (z = -1 ∨ (0 ≤ z ∧ z ≤ 2 ∧ n ≤ 40))) ∧ z = -1 ∧ r = (0, 1) ∧ h1 = hsr (up2 (up2 h 253 x z) 254 x 0) 255 (40 * x) (40 * x + 40) 0) ∨ ((0 ≤ x ∧ x ≤ 3 ∧ (z = -1 ∨ (0 ≤ z ∧ z ≤ 2 ∧ n ≤ 40))) ∧ z ≠ -1 ∧ 0 ≤ n ∧ r = (0, 1) ∧ h1 = hsr (up2 (up2 h 253 x z) 254 x n) 255 (40 * x) (40 * x + 40) 0)) 78 [(2, 200), (0, x), (0, z), (0, n), (0, 40 * x + (m : Int))] [] (hsr (up2 (up2 h 253 x z) 254 x s) 255 (40 * x) (40 * x + (m : Int)) 0) := by
    intro s x0 x3 hs
    refine loop_w 40 (fun m hm ih => ?_)
    refine wp_iload rfl dX12_sheet_78 ?_
    refine wp_bipush (by decide) dX12_sheet_80 ?_
    refine wp_iload_n rfl rfl dX12_sheet_82 ?_
    refine wp_imul dX12_sheet_83 ?_
    refine wp_bipush (by decide) dX12_sheet_84 ?_
    refine wp_iadd dX12_sheet_86 ?_
    refine wp_icmp_ge (tgt := 104) (by first | assumption | exact bI_in _ | exact ⟨by omega, by omega⟩ | exact iAnd_in | exact iOr_in | exact iShr_in | exact iShl_in | exact iXor_in | exact hxs _) (by first | assumption | exact bI_in _ | exact ⟨by omega, by omega⟩ | exact iAnd_in | exact iOr_in | exact iShr_in | exact iShl_in | exact iXor_in | exact hxs _) dX12_sheet_87 (by decide) (fun c1 => ?_) (fun c1 => ?_)
    · refine wp_iconst dX12_sheet_104 ?_
      refine wp_iret dX12_sheet_105 rfl ?_
      have em : m = 40 := by omega
      subst em
      rcases hs with ⟨w1, ⟨w2, rfl⟩ | ⟨w2, w3, rfl⟩⟩
      · exact Or.inr (Or.inr (Or.inl ⟨w1, w2, rfl, rfl⟩))
      · exact Or.inr (Or.inr (Or.inr ⟨w1, w2, w3, rfl, rfl⟩))
    · refine wp_aload_n rfl rfl dX12_sheet_90 ?_
      refine wp_getfield1 (z := 13) (kI := 55) fX12_119 dX12_sheet_91 (by first | omega | (simp (disch := omega) only [up2_ne, up2_eq, hsr_ne, st_200_m1 hS, st_200_53 hS, st_200_54 hS, st_200_55 hS, st_253_m2 hS, st_253_m1 hS, st_254_m2 hS, st_254_m1 hS, st_255_m2 hS, st_255_m1 hS]; first | done | omega)) (by first | assumption | (simp (disch := omega) only [up2_ne, up2_eq, hsr_ne, st_200_m1 hS, st_200_53 hS, st_200_54 hS, st_200_55 hS, st_253_m2 hS, st_253_m1 hS, st_254_m2 hS, st_254_m1 hS, st_255_m2 hS, st_255_m1 hS]; first | done | rfl | omega)) rfl rfl ?_
      try simp (disch := omega) only [up2_ne, up2_eq, hsr_ne, st_200_m1 hS, st_200_53 hS, st_200_54 hS, st_200_55 hS, st_253_m2 hS, st_253_m1 hS, st_254_m2 hS, st_254_m1 hS, st_255_m2 hS, st_255_m1 hS]
      refine wp_iload rfl dX12_sheet_94 ?_
      refine wp_iconst dX12_sheet_96 ?_
      refine wp_iastore1 dX12_sheet_97 (by first | omega | (simp (disch := omega) only [up2_ne, up2_eq, hsr_ne, st_200_m1 hS, st_200_53 hS, st_200_54 hS, st_200_55 hS, st_253_m2 hS, st_253_m1 hS, st_254_m2 hS, st_254_m1 hS, st_255_m2 hS, st_255_m1 hS]; first | done | omega)) (by first | assumption | (simp (disch := omega) only [up2_ne, up2_eq, hsr_ne, st_200_m1 hS, st_200_53 hS, st_200_54 hS, st_200_55 hS, st_253_m2 hS, st_253_m1 hS, st_254_m2 hS, st_254_m1 hS, st_255_m2 hS, st_255_m1 hS]; first | done | rfl | omega)) (by first | omega | (simp (disch := omega) only [up2_ne, up2_eq, hsr_ne, st_200_m1 hS, st_200_53 hS, st_200_54 hS, st_200_55 hS, st_253_m2 hS, st_253_m1 hS, st_254_m2 hS, st_254_m1 hS, st_255_m2 hS, st_255_m1 hS]; first | done | omega)) (by first | omega | (simp (disch := omega) only [up2_ne, up2_eq, hsr_ne, st_200_m1 hS, st_200_53 hS, st_200_54 hS, st_200_55 hS, st_253_m2 hS, st_253_m1 hS, st_254_m2 hS, st_254_m1 hS, st_255_m2 hS, st_255_m1 hS]; first | done | omega)) ?_
      refine wp_iinc rfl rfl dX12_sheet_98 rfl rfl ?_
      try simp only [List.set_cons_zero, List.set_cons_succ]
      refine wp_goto (tgt := 78) dX12_sheet_101 (by decide) ?_
      rw [hsr_s (by omega)]
      have hi := ih (by omega)
      rw [show 40 * x + ((m + 1 : Nat) : Int) = 40 * x + (m : Int) + 1 by omega] at hi
      exact hi
  show WP (gX (gq u)) MX12_sheet (d + 1) b _ 0 [(2, 200), (0, x), (0, z), (0, n), (9, 0)] [] h
  refine wp_iload_n rfl rfl dX12_sheet_0 ?_
  refine wp_i2l (by first | assumption | exact bI_in _ | exact ⟨by omega, by omega⟩ | exact iAnd_in | exact iOr_in | exact iShr_in | exact iShl_in | exact iXor_in | exact hxs _) dX12_sheet_1 ?_
  refine wp_lconst (v := 0) rfl dX12_sheet_2 ?_
  refine wp_ldc2 kX12_109 dX12_sheet_3 ?_
  refine wp_cS3 okX12_isIn wX12_15 dX12_sheet_6 rfl (Nat.le_of_ble_eq_true rfl) (Nat.le_of_ble_eq_true rfl) (s_X12_isIn (by exact ⟨by have := i1.1; have := i2.1; omega, by have := i1.2; have := i2.2; omega⟩) (by exact ⟨by omega, by omega⟩) (by exact ⟨by omega, by omega⟩)) (Nat.zero_le _) ?_
  try simp (disch := omega) only [up2_ne, up2_eq, hsr_ne, st_200_m1 hS, st_200_53 hS, st_200_54 hS, st_200_55 hS, st_253_m2 hS, st_253_m1 hS, st_254_m2 hS, st_254_m1 hS, st_255_m2 hS, st_255_m1 hS]
  refine wp_ifB_eq (tgt := 36) dX12_sheet_9 (by decide) (fun c2 => ?_) (fun c2 => ?_)
  · refine wp_bipush (by decide) dX12_sheet_36 ?_
    refine wp_iret dX12_sheet_38 rfl ?_
    first | exact Or.inl ⟨by omega, rfl, rfl⟩ | exact Or.inr (Or.inl ⟨by omega, by omega, by omega, rfl, rfl⟩) | (exfalso; omega)
  · refine wp_iload_n rfl rfl dX12_sheet_12 ?_
    refine wp_i2l (by first | assumption | exact bI_in _ | exact ⟨by omega, by omega⟩ | exact iAnd_in | exact iOr_in | exact iShr_in | exact iShl_in | exact iXor_in | exact hxs _) dX12_sheet_13 ?_
    refine wp_ldc2 kX12_344 dX12_sheet_14 ?_
    refine wp_ldc2 kX12_111 dX12_sheet_17 ?_
    refine wp_cS3 okX12_isIn wX12_15 dX12_sheet_20 rfl (Nat.le_of_ble_eq_true rfl) (Nat.le_of_ble_eq_true rfl) (s_X12_isIn (by exact ⟨by have := i1.1; have := i2.1; omega, by have := i1.2; have := i2.2; omega⟩) (by exact ⟨by omega, by omega⟩) (by exact ⟨by omega, by omega⟩)) (Nat.zero_le _) ?_
    try simp (disch := omega) only [up2_ne, up2_eq, hsr_ne, st_200_m1 hS, st_200_53 hS, st_200_54 hS, st_200_55 hS, st_253_m2 hS, st_253_m1 hS, st_254_m2 hS, st_254_m1 hS, st_255_m2 hS, st_255_m1 hS]
    refine wp_ifB_eq (tgt := 36) dX12_sheet_23 (by decide) (fun c3 => ?_) (fun c3 => ?_)
    · refine wp_bipush (by decide) dX12_sheet_36 ?_
      refine wp_iret dX12_sheet_38 rfl ?_
      first | exact Or.inl ⟨by omega, rfl, rfl⟩ | exact Or.inr (Or.inl ⟨by omega, by omega, by omega, rfl, rfl⟩) | (exfalso; omega)
    · refine wp_iload_n rfl rfl dX12_sheet_26 ?_
      refine wp_if_lt (tgt := 39) (by first | assumption | exact bI_in _ | exact ⟨by omega, by omega⟩ | exact iAnd_in | exact iOr_in | exact iShr_in | exact iShl_in | exact iXor_in | exact hxs _) dX12_sheet_27 (by decide) (fun c4 => ?_) (fun c4 => ?_)
      · refine wp_iload_n rfl rfl dX12_sheet_39 ?_
        refine wp_if_lt (tgt := 50) (by first | assumption | exact bI_in _ | exact ⟨by omega, by omega⟩ | exact iAnd_in | exact iOr_in | exact iShr_in | exact iShl_in | exact iXor_in | exact hxs _) dX12_sheet_40 (by decide) (fun c5 => ?_) (fun c5 => ?_)
        · refine wp_aload_n rfl rfl dX12_sheet_50 ?_
          refine wp_getfield1 (z := 13) (kI := 53) fX12_113 dX12_sheet_51 (by first | omega | (simp (disch := omega) only [up2_ne, up2_eq, hsr_ne, st_200_m1 hS, st_200_53 hS, st_200_54 hS, st_200_55 hS, st_253_m2 hS, st_253_m1 hS, st_254_m2 hS, st_254_m1 hS, st_255_m2 hS, st_255_m1 hS]; first | done | omega)) (by first | assumption | (simp (disch := omega) only [up2_ne, up2_eq, hsr_ne, st_200_m1 hS, st_200_53 hS, st_200_54 hS, st_200_55 hS, st_253_m2 hS, st_253_m1 hS, st_254_m2 hS, st_254_m1 hS, st_255_m2 hS, st_255_m1 hS]; first | done | rfl | omega)) rfl rfl ?_
          try simp (disch := omega) only [up2_ne, up2_eq, hsr_ne, st_200_m1 hS, st_200_53 hS, st_200_54 hS, st_200_55 hS, st_253_m2 hS, st_253_m1 hS, st_254_m2 hS, st_254_m1 hS, st_255_m2 hS, st_255_m1 hS]
          refine wp_iload_n rfl rfl dX12_sheet_54 ?_
          refine wp_iload_n rfl rfl dX12_sheet_55 ?_
          refine wp_iastore1 dX12_sheet_56 (by first | omega | (simp (disch := omega) only [up2_ne, up2_eq, hsr_ne, st_200_m1 hS, st_200_53 hS, st_200_54 hS, st_200_55 hS, st_253_m2 hS, st_253_m1 hS, st_254_m2 hS, st_254_m1 hS, st_255_m2 hS, st_255_m1 hS]; first | done | omega)) (by first | assumption | (simp (disch := omega) only [up2_ne, up2_eq, hsr_ne, st_200_m1 hS, st_200_53 hS, st_200_54 hS, st_200_55 hS, st_253_m2 hS, st_253_m1 hS, st_254_m2 hS, st_254_m1 hS, st_255_m2 hS, st_255_m1 hS]; first | done | rfl | omega)) (by first | omega | (simp (disch := omega) only [up2_ne, up2_eq, hsr_ne, st_200_m1 hS, st_200_53 hS, st_200_54 hS, st_200_55 hS, st_253_m2 hS, st_253_m1 hS, st_254_m2 hS, st_254_m1 hS, st_255_m2 hS, st_255_m1 hS]; first | done | omega)) (by first | omega | (simp (disch := omega) only [up2_ne, up2_eq, hsr_ne, st_200_m1 hS, st_200_53 hS, st_200_54 hS, st_200_55 hS, st_253_m2 hS, st_253_m1 hS, st_254_m2 hS, st_254_m1 hS, st_255_m2 hS, st_255_m1 hS]; first | done | omega)) ?_
          refine wp_aload_n rfl rfl dX12_sheet_57 ?_
          refine wp_getfield1 (z := 13) (kI := 54) fX12_116 dX12_sheet_58 (by first | omega | (simp (disch := omega) only [up2_ne, up2_eq, hsr_ne, st_200_m1 hS, st_200_53 hS, st_200_54 hS, st_200_55 hS, st_253_m2 hS, st_253_m1 hS, st_254_m2 hS, st_254_m1 hS, st_255_m2 hS, st_255_m1 hS]; first | done | omega)) (by first | assumption | (simp (disch := omega) only [up2_ne, up2_eq, hsr_ne, st_200_m1 hS, st_200_53 hS, st_200_54 hS, st_200_55 hS, st_253_m2 hS, st_253_m1 hS, st_254_m2 hS, st_254_m1 hS, st_255_m2 hS, st_255_m1 hS]; first | done | rfl | omega)) rfl rfl ?_
          try simp (disch := omega) only [up2_ne, up2_eq, hsr_ne, st_200_m1 hS, st_200_53 hS, st_200_54 hS, st_200_55 hS, st_253_m2 hS, st_253_m1 hS, st_254_m2 hS, st_254_m1 hS, st_255_m2 hS, st_255_m1 hS]
          refine wp_iload_n rfl rfl dX12_sheet_61 ?_
          refine wp_iload_n rfl rfl dX12_sheet_62 ?_
          refine wp_if_ge (tgt := 70) (by first | assumption | exact bI_in _ | exact ⟨by omega, by omega⟩ | exact iAnd_in | exact iOr_in | exact iShr_in | exact iShl_in | exact iXor_in | exact hxs _) dX12_sheet_63 (by decide) (fun c6 => ?_) (fun c6 => ?_)
          · refine wp_iload_n rfl rfl dX12_sheet_70 ?_
            refine wp_iastore1 dX12_sheet_71 (by first | omega | (simp (disch := omega) only [up2_ne, up2_eq, hsr_ne, st_200_m1 hS, st_200_53 hS, st_200_54 hS, st_200_55 hS, st_253_m2 hS, st_253_m1 hS, st_254_m2 hS, st_254_m1 hS, st_255_m2 hS, st_255_m1 hS]; first | done | omega)) (by first | assumption | (simp (disch := omega) only [up2_ne, up2_eq, hsr_ne, st_200_m1 hS, st_200_53 hS, st_200_54 hS, st_200_55 hS, st_253_m2 hS, st_253_m1 hS, st_254_m2 hS, st_254_m1 hS, st_255_m2 hS, st_255_m1 hS]; first | done | rfl | omega)) (by first | omega | (simp (disch := omega) only [up2_ne, up2_eq, hsr_ne, st_200_m1 hS, st_200_53 hS, st_200_54 hS, st_200_55 hS, st_253_m2 hS, st_253_m1 hS, st_254_m2 hS, st_254_m1 hS, st_255_m2 hS, st_255_m1 hS]; first | done | omega)) (by first | omega | (simp (disch := omega) only [up2_ne, up2_eq, hsr_ne, st_200_m1 hS, st_200_53 hS, st_200_54 hS, st_200_55 hS, st_253_m2 hS, st_253_m1 hS, st_254_m2 hS, st_254_m1 hS, st_255_m2 hS, st_255_m1 hS]; first | done | omega)) ?_
            refine wp_bipush (by decide) dX12_sheet_72 ?_
            refine wp_iload_n rfl rfl dX12_sheet_74 ?_
            refine wp_imul dX12_sheet_75 ?_
            refine wp_istore dX12_sheet_76 rfl (Nat.le_of_ble_eq_true rfl) rfl ?_
            try simp only [List.set_cons_zero, List.set_cons_succ]
            have ez : 40 * x + ((0 : Nat) : Int) = 40 * x := by omega
            first | (have l0 := loop 0 (by omega) (by omega) ⟨by omega, Or.inl ⟨by omega, rfl⟩⟩ 0 (by omega); rw [ez, hsr_0] at l0; exact l0) | (have l0 := loop n (by omega) (by omega) ⟨by omega, Or.inr ⟨by omega, by omega, rfl⟩⟩ 0 (by omega); rw [ez, hsr_0] at l0; exact l0)
          · refine wp_iconst dX12_sheet_66 ?_
            refine wp_goto (tgt := 71) dX12_sheet_67 (by decide) ?_
            refine wp_iastore1 dX12_sheet_71 (by first | omega | (simp (disch := omega) only [up2_ne, up2_eq, hsr_ne, st_200_m1 hS, st_200_53 hS, st_200_54 hS, st_200_55 hS, st_253_m2 hS, st_253_m1 hS, st_254_m2 hS, st_254_m1 hS, st_255_m2 hS, st_255_m1 hS]; first | done | omega)) (by first | assumption | (simp (disch := omega) only [up2_ne, up2_eq, hsr_ne, st_200_m1 hS, st_200_53 hS, st_200_54 hS, st_200_55 hS, st_253_m2 hS, st_253_m1 hS, st_254_m2 hS, st_254_m1 hS, st_255_m2 hS, st_255_m1 hS]; first | done | rfl | omega)) (by first | omega | (simp (disch := omega) only [up2_ne, up2_eq, hsr_ne, st_200_m1 hS, st_200_53 hS, st_200_54 hS, st_200_55 hS, st_253_m2 hS, st_253_m1 hS, st_254_m2 hS, st_254_m1 hS, st_255_m2 hS, st_255_m1 hS]; first | done | omega)) (by first | omega | (simp (disch := omega) only [up2_ne, up2_eq, hsr_ne, st_200_m1 hS, st_200_53 hS, st_200_54 hS, st_200_55 hS, st_253_m2 hS, st_253_m1 hS, st_254_m2 hS, st_254_m1 hS, st_255_m2 hS, st_255_m1 hS]; first | done | omega)) ?_
            refine wp_bipush (by decide) dX12_sheet_72 ?_
            refine wp_iload_n rfl rfl dX12_sheet_74 ?_
            refine wp_imul dX12_sheet_75 ?_
            refine wp_istore dX12_sheet_76 rfl (Nat.le_of_ble_eq_true rfl) rfl ?_
            try simp only [List.set_cons_zero, List.set_cons_succ]
            have ez : 40 * x + ((0 : Nat) : Int) = 40 * x := by omega
            first | (have l0 := loop 0 (by omega) (by omega) ⟨by omega, Or.inl ⟨by omega, rfl⟩⟩ 0 (by omega); rw [ez, hsr_0] at l0; exact l0) | (have l0 := loop n (by omega) (by omega) ⟨by omega, Or.inr ⟨by omega, by omega, rfl⟩⟩ 0 (by omega); rw [ez, hsr_0] at l0; exact l0)
        · refine wp_iload_n rfl rfl dX12_sheet_43 ?_
          refine wp_if_ge (tgt := 50) (by first | assumption | exact bI_in _ | exact ⟨by omega, by omega⟩ | exact iAnd_in | exact iOr_in | exact iShr_in | exact iShl_in | exact iXor_in | exact hxs _) dX12_sheet_44 (by decide) (fun c7 => ?_) (fun c7 => ?_)
          · refine wp_aload_n rfl rfl dX12_sheet_50 ?_
            refine wp_getfield1 (z := 13) (kI := 53) fX12_113 dX12_sheet_51 (by first | omega | (simp (disch := omega) only [up2_ne, up2_eq, hsr_ne, st_200_m1 hS, st_200_53 hS, st_200_54 hS, st_200_55 hS, st_253_m2 hS, st_253_m1 hS, st_254_m2 hS, st_254_m1 hS, st_255_m2 hS, st_255_m1 hS]; first | done | omega)) (by first | assumption | (simp (disch := omega) only [up2_ne, up2_eq, hsr_ne, st_200_m1 hS, st_200_53 hS, st_200_54 hS, st_200_55 hS, st_253_m2 hS, st_253_m1 hS, st_254_m2 hS, st_254_m1 hS, st_255_m2 hS, st_255_m1 hS]; first | done | rfl | omega)) rfl rfl ?_
            try simp (disch := omega) only [up2_ne, up2_eq, hsr_ne, st_200_m1 hS, st_200_53 hS, st_200_54 hS, st_200_55 hS, st_253_m2 hS, st_253_m1 hS, st_254_m2 hS, st_254_m1 hS, st_255_m2 hS, st_255_m1 hS]
            refine wp_iload_n rfl rfl dX12_sheet_54 ?_
            refine wp_iload_n rfl rfl dX12_sheet_55 ?_
            refine wp_iastore1 dX12_sheet_56 (by first | omega | (simp (disch := omega) only [up2_ne, up2_eq, hsr_ne, st_200_m1 hS, st_200_53 hS, st_200_54 hS, st_200_55 hS, st_253_m2 hS, st_253_m1 hS, st_254_m2 hS, st_254_m1 hS, st_255_m2 hS, st_255_m1 hS]; first | done | omega)) (by first | assumption | (simp (disch := omega) only [up2_ne, up2_eq, hsr_ne, st_200_m1 hS, st_200_53 hS, st_200_54 hS, st_200_55 hS, st_253_m2 hS, st_253_m1 hS, st_254_m2 hS, st_254_m1 hS, st_255_m2 hS, st_255_m1 hS]; first | done | rfl | omega)) (by first | omega | (simp (disch := omega) only [up2_ne, up2_eq, hsr_ne, st_200_m1 hS, st_200_53 hS, st_200_54 hS, st_200_55 hS, st_253_m2 hS, st_253_m1 hS, st_254_m2 hS, st_254_m1 hS, st_255_m2 hS, st_255_m1 hS]; first | done | omega)) (by first | omega | (simp (disch := omega) only [up2_ne, up2_eq, hsr_ne, st_200_m1 hS, st_200_53 hS, st_200_54 hS, st_200_55 hS, st_253_m2 hS, st_253_m1 hS, st_254_m2 hS, st_254_m1 hS, st_255_m2 hS, st_255_m1 hS]; first | done | omega)) ?_
            refine wp_aload_n rfl rfl dX12_sheet_57 ?_
            refine wp_getfield1 (z := 13) (kI := 54) fX12_116 dX12_sheet_58 (by first | omega | (simp (disch := omega) only [up2_ne, up2_eq, hsr_ne, st_200_m1 hS, st_200_53 hS, st_200_54 hS, st_200_55 hS, st_253_m2 hS, st_253_m1 hS, st_254_m2 hS, st_254_m1 hS, st_255_m2 hS, st_255_m1 hS]; first | done | omega)) (by first | assumption | (simp (disch := omega) only [up2_ne, up2_eq, hsr_ne, st_200_m1 hS, st_200_53 hS, st_200_54 hS, st_200_55 hS, st_253_m2 hS, st_253_m1 hS, st_254_m2 hS, st_254_m1 hS, st_255_m2 hS, st_255_m1 hS]; first | done | rfl | omega)) rfl rfl ?_
            try simp (disch := omega) only [up2_ne, up2_eq, hsr_ne, st_200_m1 hS, st_200_53 hS, st_200_54 hS, st_200_55 hS, st_253_m2 hS, st_253_m1 hS, st_254_m2 hS, st_254_m1 hS, st_255_m2 hS, st_255_m1 hS]
            refine wp_iload_n rfl rfl dX12_sheet_61 ?_
            refine wp_iload_n rfl rfl dX12_sheet_62 ?_
            refine wp_if_ge (tgt := 70) (by first | assumption | exact bI_in _ | exact ⟨by omega, by omega⟩ | exact iAnd_in | exact iOr_in | exact iShr_in | exact iShl_in | exact iXor_in | exact hxs _) dX12_sheet_63 (by decide) (fun c8 => ?_) (fun c8 => ?_)
            · refine wp_iload_n rfl rfl dX12_sheet_70 ?_
              refine wp_iastore1 dX12_sheet_71 (by first | omega | (simp (disch := omega) only [up2_ne, up2_eq, hsr_ne, st_200_m1 hS, st_200_53 hS, st_200_54 hS, st_200_55 hS, st_253_m2 hS, st_253_m1 hS, st_254_m2 hS, st_254_m1 hS, st_255_m2 hS, st_255_m1 hS]; first | done | omega)) (by first | assumption | (simp (disch := omega) only [up2_ne, up2_eq, hsr_ne, st_200_m1 hS, st_200_53 hS, st_200_54 hS, st_200_55 hS, st_253_m2 hS, st_253_m1 hS, st_254_m2 hS, st_254_m1 hS, st_255_m2 hS, st_255_m1 hS]; first | done | rfl | omega)) (by first | omega | (simp (disch := omega) only [up2_ne, up2_eq, hsr_ne, st_200_m1 hS, st_200_53 hS, st_200_54 hS, st_200_55 hS, st_253_m2 hS, st_253_m1 hS, st_254_m2 hS, st_254_m1 hS, st_255_m2 hS, st_255_m1 hS]; first | done | omega)) (by first | omega | (simp (disch := omega) only [up2_ne, up2_eq, hsr_ne, st_200_m1 hS, st_200_53 hS, st_200_54 hS, st_200_55 hS, st_253_m2 hS, st_253_m1 hS, st_254_m2 hS, st_254_m1 hS, st_255_m2 hS, st_255_m1 hS]; first | done | omega)) ?_
              refine wp_bipush (by decide) dX12_sheet_72 ?_
              refine wp_iload_n rfl rfl dX12_sheet_74 ?_
              refine wp_imul dX12_sheet_75 ?_
              refine wp_istore dX12_sheet_76 rfl (Nat.le_of_ble_eq_true rfl) rfl ?_
              try simp only [List.set_cons_zero, List.set_cons_succ]
              have ez : 40 * x + ((0 : Nat) : Int) = 40 * x := by omega
              first | (have l0 := loop 0 (by omega) (by omega) ⟨by omega, Or.inl ⟨by omega, rfl⟩⟩ 0 (by omega); rw [ez, hsr_0] at l0; exact l0) | (have l0 := loop n (by omega) (by omega) ⟨by omega, Or.inr ⟨by omega, by omega, rfl⟩⟩ 0 (by omega); rw [ez, hsr_0] at l0; exact l0)
            · refine wp_iconst dX12_sheet_66 ?_
              refine wp_goto (tgt := 71) dX12_sheet_67 (by decide) ?_
              refine wp_iastore1 dX12_sheet_71 (by first | omega | (simp (disch := omega) only [up2_ne, up2_eq, hsr_ne, st_200_m1 hS, st_200_53 hS, st_200_54 hS, st_200_55 hS, st_253_m2 hS, st_253_m1 hS, st_254_m2 hS, st_254_m1 hS, st_255_m2 hS, st_255_m1 hS]; first | done | omega)) (by first | assumption | (simp (disch := omega) only [up2_ne, up2_eq, hsr_ne, st_200_m1 hS, st_200_53 hS, st_200_54 hS, st_200_55 hS, st_253_m2 hS, st_253_m1 hS, st_254_m2 hS, st_254_m1 hS, st_255_m2 hS, st_255_m1 hS]; first | done | rfl | omega)) (by first | omega | (simp (disch := omega) only [up2_ne, up2_eq, hsr_ne, st_200_m1 hS, st_200_53 hS, st_200_54 hS, st_200_55 hS, st_253_m2 hS, st_253_m1 hS, st_254_m2 hS, st_254_m1 hS, st_255_m2 hS, st_255_m1 hS]; first | done | omega)) (by first | omega | (simp (disch := omega) only [up2_ne, up2_eq, hsr_ne, st_200_m1 hS, st_200_53 hS, st_200_54 hS, st_200_55 hS, st_253_m2 hS, st_253_m1 hS, st_254_m2 hS, st_254_m1 hS, st_255_m2 hS, st_255_m1 hS]; first | done | omega)) ?_
              refine wp_bipush (by decide) dX12_sheet_72 ?_
              refine wp_iload_n rfl rfl dX12_sheet_74 ?_
              refine wp_imul dX12_sheet_75 ?_
              refine wp_istore dX12_sheet_76 rfl (Nat.le_of_ble_eq_true rfl) rfl ?_
              try simp only [List.set_cons_zero, List.set_cons_succ]
              have ez : 40 * x + ((0 : Nat) : Int) = 40 * x := by omega
              first | (have l0 := loop 0 (by omega) (by omega) ⟨by omega, Or.inl ⟨by omega, rfl⟩⟩ 0 (by omega); rw [ez, hsr_0] at l0; exact l0) | (have l0 := loop n (by omega) (by omega) ⟨by omega, Or.inr ⟨by omega, by omega, rfl⟩⟩ 0 (by omega); rw [ez, hsr_0] at l0; exact l0)
          · refine wp_bipush (by decide) dX12_sheet_47 ?_
            refine wp_iret dX12_sheet_49 rfl ?_
            first | exact Or.inl ⟨by omega, rfl, rfl⟩ | exact Or.inr (Or.inl ⟨by omega, by omega, by omega, rfl, rfl⟩) | (exfalso; omega)
      · refine wp_iload_n rfl rfl dX12_sheet_30 ?_
        refine wp_bipush (by decide) dX12_sheet_31 ?_
        refine wp_icmp_le (tgt := 39) (by first | assumption | exact bI_in _ | exact ⟨by omega, by omega⟩ | exact iAnd_in | exact iOr_in | exact iShr_in | exact iShl_in | exact iXor_in | exact hxs _) (by first | assumption | exact bI_in _ | exact ⟨by omega, by omega⟩ | exact iAnd_in | exact iOr_in | exact iShr_in | exact iShl_in | exact iXor_in | exact hxs _) dX12_sheet_33 (by decide) (fun c9 => ?_) (fun c9 => ?_)
        · refine wp_iload_n rfl rfl dX12_sheet_39 ?_
          refine wp_if_lt (tgt := 50) (by first | assumption | exact bI_in _ | exact ⟨by omega, by omega⟩ | exact iAnd_in | exact iOr_in | exact iShr_in | exact iShl_in | exact iXor_in | exact hxs _) dX12_sheet_40 (by decide) (fun c10 => ?_) (fun c10 => ?_)
          · refine wp_aload_n rfl rfl dX12_sheet_50 ?_
            refine wp_getfield1 (z := 13) (kI := 53) fX12_113 dX12_sheet_51 (by first | omega | (simp (disch := omega) only [up2_ne, up2_eq, hsr_ne, st_200_m1 hS, st_200_53 hS, st_200_54 hS, st_200_55 hS, st_253_m2 hS, st_253_m1 hS, st_254_m2 hS, st_254_m1 hS, st_255_m2 hS, st_255_m1 hS]; first | done | omega)) (by first | assumption | (simp (disch := omega) only [up2_ne, up2_eq, hsr_ne, st_200_m1 hS, st_200_53 hS, st_200_54 hS, st_200_55 hS, st_253_m2 hS, st_253_m1 hS, st_254_m2 hS, st_254_m1 hS, st_255_m2 hS, st_255_m1 hS]; first | done | rfl | omega)) rfl rfl ?_
            try simp (disch := omega) only [up2_ne, up2_eq, hsr_ne, st_200_m1 hS, st_200_53 hS, st_200_54 hS, st_200_55 hS, st_253_m2 hS, st_253_m1 hS, st_254_m2 hS, st_254_m1 hS, st_255_m2 hS, st_255_m1 hS]
            refine wp_iload_n rfl rfl dX12_sheet_54 ?_
            refine wp_iload_n rfl rfl dX12_sheet_55 ?_
            refine wp_iastore1 dX12_sheet_56 (by first | omega | (simp (disch := omega) only [up2_ne, up2_eq, hsr_ne, st_200_m1 hS, st_200_53 hS, st_200_54 hS, st_200_55 hS, st_253_m2 hS, st_253_m1 hS, st_254_m2 hS, st_254_m1 hS, st_255_m2 hS, st_255_m1 hS]; first | done | omega)) (by first | assumption | (simp (disch := omega) only [up2_ne, up2_eq, hsr_ne, st_200_m1 hS, st_200_53 hS, st_200_54 hS, st_200_55 hS, st_253_m2 hS, st_253_m1 hS, st_254_m2 hS, st_254_m1 hS, st_255_m2 hS, st_255_m1 hS]; first | done | rfl | omega)) (by first | omega | (simp (disch := omega) only [up2_ne, up2_eq, hsr_ne, st_200_m1 hS, st_200_53 hS, st_200_54 hS, st_200_55 hS, st_253_m2 hS, st_253_m1 hS, st_254_m2 hS, st_254_m1 hS, st_255_m2 hS, st_255_m1 hS]; first | done | omega)) (by first | omega | (simp (disch := omega) only [up2_ne, up2_eq, hsr_ne, st_200_m1 hS, st_200_53 hS, st_200_54 hS, st_200_55 hS, st_253_m2 hS, st_253_m1 hS, st_254_m2 hS, st_254_m1 hS, st_255_m2 hS, st_255_m1 hS]; first | done | omega)) ?_
            refine wp_aload_n rfl rfl dX12_sheet_57 ?_
            refine wp_getfield1 (z := 13) (kI := 54) fX12_116 dX12_sheet_58 (by first | omega | (simp (disch := omega) only [up2_ne, up2_eq, hsr_ne, st_200_m1 hS, st_200_53 hS, st_200_54 hS, st_200_55 hS, st_253_m2 hS, st_253_m1 hS, st_254_m2 hS, st_254_m1 hS, st_255_m2 hS, st_255_m1 hS]; first | done | omega)) (by first | assumption | (simp (disch := omega) only [up2_ne, up2_eq, hsr_ne, st_200_m1 hS, st_200_53 hS, st_200_54 hS, st_200_55 hS, st_253_m2 hS, st_253_m1 hS, st_254_m2 hS, st_254_m1 hS, st_255_m2 hS, st_255_m1 hS]; first | done | rfl | omega)) rfl rfl ?_
            try simp (disch := omega) only [up2_ne, up2_eq, hsr_ne, st_200_m1 hS, st_200_53 hS, st_200_54 hS, st_200_55 hS, st_253_m2 hS, st_253_m1 hS, st_254_m2 hS, st_254_m1 hS, st_255_m2 hS, st_255_m1 hS]
            refine wp_iload_n rfl rfl dX12_sheet_61 ?_
            refine wp_iload_n rfl rfl dX12_sheet_62 ?_
            refine wp_if_ge (tgt := 70) (by first | assumption | exact bI_in _ | exact ⟨by omega, by omega⟩ | exact iAnd_in | exact iOr_in | exact iShr_in | exact iShl_in | exact iXor_in | exact hxs _) dX12_sheet_63 (by decide) (fun c11 => ?_) (fun c11 => ?_)
            · refine wp_iload_n rfl rfl dX12_sheet_70 ?_
              refine wp_iastore1 dX12_sheet_71 (by first | omega | (simp (disch := omega) only [up2_ne, up2_eq, hsr_ne, st_200_m1 hS, st_200_53 hS, st_200_54 hS, st_200_55 hS, st_253_m2 hS, st_253_m1 hS, st_254_m2 hS, st_254_m1 hS, st_255_m2 hS, st_255_m1 hS]; first | done | omega)) (by first | assumption | (simp (disch := omega) only [up2_ne, up2_eq, hsr_ne, st_200_m1 hS, st_200_53 hS, st_200_54 hS, st_200_55 hS, st_253_m2 hS, st_253_m1 hS, st_254_m2 hS, st_254_m1 hS, st_255_m2 hS, st_255_m1 hS]; first | done | rfl | omega)) (by first | omega | (simp (disch := omega) only [up2_ne, up2_eq, hsr_ne, st_200_m1 hS, st_200_53 hS, st_200_54 hS, st_200_55 hS, st_253_m2 hS, st_253_m1 hS, st_254_m2 hS, st_254_m1 hS, st_255_m2 hS, st_255_m1 hS]; first | done | omega)) (by first | omega | (simp (disch := omega) only [up2_ne, up2_eq, hsr_ne, st_200_m1 hS, st_200_53 hS, st_200_54 hS, st_200_55 hS, st_253_m2 hS, st_253_m1 hS, st_254_m2 hS, st_254_m1 hS, st_255_m2 hS, st_255_m1 hS]; first | done | omega)) ?_
              refine wp_bipush (by decide) dX12_sheet_72 ?_
              refine wp_iload_n rfl rfl dX12_sheet_74 ?_
              refine wp_imul dX12_sheet_75 ?_
              refine wp_istore dX12_sheet_76 rfl (Nat.le_of_ble_eq_true rfl) rfl ?_
              try simp only [List.set_cons_zero, List.set_cons_succ]
              have ez : 40 * x + ((0 : Nat) : Int) = 40 * x := by omega
              first | (have l0 := loop 0 (by omega) (by omega) ⟨by omega, Or.inl ⟨by omega, rfl⟩⟩ 0 (by omega); rw [ez, hsr_0] at l0; exact l0) | (have l0 := loop n (by omega) (by omega) ⟨by omega, Or.inr ⟨by omega, by omega, rfl⟩⟩ 0 (by omega); rw [ez, hsr_0] at l0; exact l0)
            · refine wp_iconst dX12_sheet_66 ?_
              refine wp_goto (tgt := 71) dX12_sheet_67 (by decide) ?_
              refine wp_iastore1 dX12_sheet_71 (by first | omega | (simp (disch := omega) only [up2_ne, up2_eq, hsr_ne, st_200_m1 hS, st_200_53 hS, st_200_54 hS, st_200_55 hS, st_253_m2 hS, st_253_m1 hS, st_254_m2 hS, st_254_m1 hS, st_255_m2 hS, st_255_m1 hS]; first | done | omega)) (by first | assumption | (simp (disch := omega) only [up2_ne, up2_eq, hsr_ne, st_200_m1 hS, st_200_53 hS, st_200_54 hS, st_200_55 hS, st_253_m2 hS, st_253_m1 hS, st_254_m2 hS, st_254_m1 hS, st_255_m2 hS, st_255_m1 hS]; first | done | rfl | omega)) (by first | omega | (simp (disch := omega) only [up2_ne, up2_eq, hsr_ne, st_200_m1 hS, st_200_53 hS, st_200_54 hS, st_200_55 hS, st_253_m2 hS, st_253_m1 hS, st_254_m2 hS, st_254_m1 hS, st_255_m2 hS, st_255_m1 hS]; first | done | omega)) (by first | omega | (simp (disch := omega) only [up2_ne, up2_eq, hsr_ne, st_200_m1 hS, st_200_53 hS, st_200_54 hS, st_200_55 hS, st_253_m2 hS, st_253_m1 hS, st_254_m2 hS, st_254_m1 hS, st_255_m2 hS, st_255_m1 hS]; first | done | omega)) ?_
              refine wp_bipush (by decide) dX12_sheet_72 ?_
              refine wp_iload_n rfl rfl dX12_sheet_74 ?_
              refine wp_imul dX12_sheet_75 ?_
              refine wp_istore dX12_sheet_76 rfl (Nat.le_of_ble_eq_true rfl) rfl ?_
              try simp only [List.set_cons_zero, List.set_cons_succ]
              have ez : 40 * x + ((0 : Nat) : Int) = 40 * x := by omega
              first | (have l0 := loop 0 (by omega) (by omega) ⟨by omega, Or.inl ⟨by omega, rfl⟩⟩ 0 (by omega); rw [ez, hsr_0] at l0; exact l0) | (have l0 := loop n (by omega) (by omega) ⟨by omega, Or.inr ⟨by omega, by omega, rfl⟩⟩ 0 (by omega); rw [ez, hsr_0] at l0; exact l0)
          · refine wp_iload_n rfl rfl dX12_sheet_43 ?_
            refine wp_if_ge (tgt := 50) (by first | assumption | exact bI_in _ | exact ⟨by omega, by omega⟩ | exact iAnd_in | exact iOr_in | exact iShr_in | exact iShl_in | exact iXor_in | exact hxs _) dX12_sheet_44 (by decide) (fun c12 => ?_) (fun c12 => ?_)
            · refine wp_aload_n rfl rfl dX12_sheet_50 ?_
              refine wp_getfield1 (z := 13) (kI := 53) fX12_113 dX12_sheet_51 (by first | omega | (simp (disch := omega) only [up2_ne, up2_eq, hsr_ne, st_200_m1 hS, st_200_53 hS, st_200_54 hS, st_200_55 hS, st_253_m2 hS, st_253_m1 hS, st_254_m2 hS, st_254_m1 hS, st_255_m2 hS, st_255_m1 hS]; first | done | omega)) (by first | assumption | (simp (disch := omega) only [up2_ne, up2_eq, hsr_ne, st_200_m1 hS, st_200_53 hS, st_200_54 hS, st_200_55 hS, st_253_m2 hS, st_253_m1 hS, st_254_m2 hS, st_254_m1 hS, st_255_m2 hS, st_255_m1 hS]; first | done | rfl | omega)) rfl rfl ?_
              try simp (disch := omega) only [up2_ne, up2_eq, hsr_ne, st_200_m1 hS, st_200_53 hS, st_200_54 hS, st_200_55 hS, st_253_m2 hS, st_253_m1 hS, st_254_m2 hS, st_254_m1 hS, st_255_m2 hS, st_255_m1 hS]
              refine wp_iload_n rfl rfl dX12_sheet_54 ?_
              refine wp_iload_n rfl rfl dX12_sheet_55 ?_
              refine wp_iastore1 dX12_sheet_56 (by first | omega | (simp (disch := omega) only [up2_ne, up2_eq, hsr_ne, st_200_m1 hS, st_200_53 hS, st_200_54 hS, st_200_55 hS, st_253_m2 hS, st_253_m1 hS, st_254_m2 hS, st_254_m1 hS, st_255_m2 hS, st_255_m1 hS]; first | done | omega)) (by first | assumption | (simp (disch := omega) only [up2_ne, up2_eq, hsr_ne, st_200_m1 hS, st_200_53 hS, st_200_54 hS, st_200_55 hS, st_253_m2 hS, st_253_m1 hS, st_254_m2 hS, st_254_m1 hS, st_255_m2 hS, st_255_m1 hS]; first | done | rfl | omega)) (by first | omega | (simp (disch := omega) only [up2_ne, up2_eq, hsr_ne, st_200_m1 hS, st_200_53 hS, st_200_54 hS, st_200_55 hS, st_253_m2 hS, st_253_m1 hS, st_254_m2 hS, st_254_m1 hS, st_255_m2 hS, st_255_m1 hS]; first | done | omega)) (by first | omega | (simp (disch := omega) only [up2_ne, up2_eq, hsr_ne, st_200_m1 hS, st_200_53 hS, st_200_54 hS, st_200_55 hS, st_253_m2 hS, st_253_m1 hS, st_254_m2 hS, st_254_m1 hS, st_255_m2 hS, st_255_m1 hS]; first | done | omega)) ?_
              refine wp_aload_n rfl rfl dX12_sheet_57 ?_
              refine wp_getfield1 (z := 13) (kI := 54) fX12_116 dX12_sheet_58 (by first | omega | (simp (disch := omega) only [up2_ne, up2_eq, hsr_ne, st_200_m1 hS, st_200_53 hS, st_200_54 hS, st_200_55 hS, st_253_m2 hS, st_253_m1 hS, st_254_m2 hS, st_254_m1 hS, st_255_m2 hS, st_255_m1 hS]; first | done | omega)) (by first | assumption | (simp (disch := omega) only [up2_ne, up2_eq, hsr_ne, st_200_m1 hS, st_200_53 hS, st_200_54 hS, st_200_55 hS, st_253_m2 hS, st_253_m1 hS, st_254_m2 hS, st_254_m1 hS, st_255_m2 hS, st_255_m1 hS]; first | done | rfl | omega)) rfl rfl ?_
              try simp (disch := omega) only [up2_ne, up2_eq, hsr_ne, st_200_m1 hS, st_200_53 hS, st_200_54 hS, st_200_55 hS, st_253_m2 hS, st_253_m1 hS, st_254_m2 hS, st_254_m1 hS, st_255_m2 hS, st_255_m1 hS]
              refine wp_iload_n rfl rfl dX12_sheet_61 ?_
              refine wp_iload_n rfl rfl dX12_sheet_62 ?_
              refine wp_if_ge (tgt := 70) (by first | assumption | exact bI_in _ | exact ⟨by omega, by omega⟩ | exact iAnd_in | exact iOr_in | exact iShr_in | exact iShl_in | exact iXor_in | exact hxs _) dX12_sheet_63 (by decide) (fun c13 => ?_) (fun c13 => ?_)
              · refine wp_iload_n rfl rfl dX12_sheet_70 ?_
                refine wp_iastore1 dX12_sheet_71 (by first | omega | (simp (disch := omega) only [up2_ne, up2_eq, hsr_ne, st_200_m1 hS, st_200_53 hS, st_200_54 hS, st_200_55 hS, st_253_m2 hS, st_253_m1 hS, st_254_m2 hS, st_254_m1 hS, st_255_m2 hS, st_255_m1 hS]; first | done | omega)) (by first | assumption | (simp (disch := omega) only [up2_ne, up2_eq, hsr_ne, st_200_m1 hS, st_200_53 hS, st_200_54 hS, st_200_55 hS, st_253_m2 hS, st_253_m1 hS, st_254_m2 hS, st_254_m1 hS, st_255_m2 hS, st_255_m1 hS]; first | done | rfl | omega)) (by first | omega | (simp (disch := omega) only [up2_ne, up2_eq, hsr_ne, st_200_m1 hS, st_200_53 hS, st_200_54 hS, st_200_55 hS, st_253_m2 hS, st_253_m1 hS, st_254_m2 hS, st_254_m1 hS, st_255_m2 hS, st_255_m1 hS]; first | done | omega)) (by first | omega | (simp (disch := omega) only [up2_ne, up2_eq, hsr_ne, st_200_m1 hS, st_200_53 hS, st_200_54 hS, st_200_55 hS, st_253_m2 hS, st_253_m1 hS, st_254_m2 hS, st_254_m1 hS, st_255_m2 hS, st_255_m1 hS]; first | done | omega)) ?_
                refine wp_bipush (by decide) dX12_sheet_72 ?_
                refine wp_iload_n rfl rfl dX12_sheet_74 ?_
                refine wp_imul dX12_sheet_75 ?_
                refine wp_istore dX12_sheet_76 rfl (Nat.le_of_ble_eq_true rfl) rfl ?_
                try simp only [List.set_cons_zero, List.set_cons_succ]
                have ez : 40 * x + ((0 : Nat) : Int) = 40 * x := by omega
                first | (have l0 := loop 0 (by omega) (by omega) ⟨by omega, Or.inl ⟨by omega, rfl⟩⟩ 0 (by omega); rw [ez, hsr_0] at l0; exact l0) | (have l0 := loop n (by omega) (by omega) ⟨by omega, Or.inr ⟨by omega, by omega, rfl⟩⟩ 0 (by omega); rw [ez, hsr_0] at l0; exact l0)
              · refine wp_iconst dX12_sheet_66 ?_
                refine wp_goto (tgt := 71) dX12_sheet_67 (by decide) ?_
                refine wp_iastore1 dX12_sheet_71 (by first | omega | (simp (disch := omega) only [up2_ne, up2_eq, hsr_ne, st_200_m1 hS, st_200_53 hS, st_200_54 hS, st_200_55 hS, st_253_m2 hS, st_253_m1 hS, st_254_m2 hS, st_254_m1 hS, st_255_m2 hS, st_255_m1 hS]; first | done | omega)) (by first | assumption | (simp (disch := omega) only [up2_ne, up2_eq, hsr_ne, st_200_m1 hS, st_200_53 hS, st_200_54 hS, st_200_55 hS, st_253_m2 hS, st_253_m1 hS, st_254_m2 hS, st_254_m1 hS, st_255_m2 hS, st_255_m1 hS]; first | done | rfl | omega)) (by first | omega | (simp (disch := omega) only [up2_ne, up2_eq, hsr_ne, st_200_m1 hS, st_200_53 hS, st_200_54 hS, st_200_55 hS, st_253_m2 hS, st_253_m1 hS, st_254_m2 hS, st_254_m1 hS, st_255_m2 hS, st_255_m1 hS]; first | done | omega)) (by first | omega | (simp (disch := omega) only [up2_ne, up2_eq, hsr_ne, st_200_m1 hS, st_200_53 hS, st_200_54 hS, st_200_55 hS, st_253_m2 hS, st_253_m1 hS, st_254_m2 hS, st_254_m1 hS, st_255_m2 hS, st_255_m1 hS]; first | done | omega)) ?_
                refine wp_bipush (by decide) dX12_sheet_72 ?_
                refine wp_iload_n rfl rfl dX12_sheet_74 ?_
                refine wp_imul dX12_sheet_75 ?_
                refine wp_istore dX12_sheet_76 rfl (Nat.le_of_ble_eq_true rfl) rfl ?_
                try simp only [List.set_cons_zero, List.set_cons_succ]
                have ez : 40 * x + ((0 : Nat) : Int) = 40 * x := by omega
                first | (have l0 := loop 0 (by omega) (by omega) ⟨by omega, Or.inl ⟨by omega, rfl⟩⟩ 0 (by omega); rw [ez, hsr_0] at l0; exact l0) | (have l0 := loop n (by omega) (by omega) ⟨by omega, Or.inr ⟨by omega, by omega, rfl⟩⟩ 0 (by omega); rw [ez, hsr_0] at l0; exact l0)
            · refine wp_bipush (by decide) dX12_sheet_47 ?_
              refine wp_iret dX12_sheet_49 rfl ?_
              first | exact Or.inl ⟨by omega, rfl, rfl⟩ | exact Or.inr (Or.inl ⟨by omega, by omega, by omega, rfl, rfl⟩) | (exfalso; omega)
        · refine wp_bipush (by decide) dX12_sheet_36 ?_
          refine wp_iret dX12_sheet_38 rfl ?_
          first | exact Or.inl ⟨by omega, rfl, rfl⟩ | exact Or.inr (Or.inl ⟨by omega, by omega, by omega, rfl, rfl⟩) | (exfalso; omega)
theorem s_X11_cell {u : gT} {h : mH} {d b : Nat} {x i v : Int} (hS : St h) (i1 : InI x) (i2 : InI i) (hs : ∀ x, 0 ≤ x → x < 4 → -1 ≤ h (80 + x) 2 ∧ h (80 + x) 2 ≤ 2 ∧ 0 ≤ h (80 + x) 1 ∧ h (80 + x) 1 ≤ 40) : Rlt (gX (gq u)) MX11_cell (d + 3) b [(2, 1), (0, x), (0, i), (0, v)] h (fun r h1 => (¬ (0 ≤ x ∧ x < 4) ∧ r = (0, -2) ∧ h1 = h) ∨ ((0 ≤ x ∧ x < 4) ∧ h (80 + x) 2 = -1 ∧ r = (0, -11) ∧ h1 = h) ∨ ((0 ≤ x ∧ x < 4) ∧ h (80 + x) 2 ≠ -1 ∧ ¬ (0 ≤ i ∧ i < h (80 + x) 1) ∧ r = (0, -12) ∧ h1 = h) ∨ ((0 ≤ x ∧ x < 4) ∧ h (80 + x) 2 ≠ -1 ∧ (0 ≤ i ∧ i < h (80 + x) 1) ∧ r = (0, 1) ∧ h1 = up2 h (90 + x) i (scut (h (80 + x) 2) v))) := by
  refine Rlt.of ?_
  have hsx := hs x
  show WP (gX (gq u)) MX11_cell (d + 3) b _ 0 [(2, 1), (0, x), (0, i), (0, v), (9, 0)] [] h
  refine wp_iload_n rfl rfl dX11_cell_0 ?_
  refine wp_iconst dX11_cell_1 ?_
  refine wp_iconst dX11_cell_2 ?_
  refine wp_cS3 okX11_isWithin wX11_98 dX11_cell_3 rfl (Nat.le_of_ble_eq_true rfl) (Nat.le_of_ble_eq_true rfl) (s_X11_isWithin (by first | assumption | exact ⟨by omega, by omega⟩) (by exact ⟨by omega, by omega⟩) (by exact ⟨by omega, by omega⟩)) (Nat.zero_le _) ?_
  try simp (disch := omega) only [up2_ne, up2_eq, sh6a hS, sh6b hS, sh6c hS, sh6d hS, sh6e hS, st_1_m1 hS, st_1_4 hS, st_6_m2 hS, st_6_m1 hS]
  refine wp_ifB_ne (tgt := 12) dX11_cell_6 (by decide) (fun c1 => ?_) (fun c1 => ?_)
  · refine wp_aload_n rfl rfl dX11_cell_12 ?_
    refine wp_getfield1 (z := 12) (kI := 4) fX11_35 dX11_cell_13 (by first | omega | (simp (disch := omega) only [up2_ne, up2_eq, sh6a hS, sh6b hS, sh6c hS, sh6d hS, sh6e hS, st_1_m1 hS, st_1_4 hS, st_6_m2 hS, st_6_m1 hS]; first | done | omega)) (by first | assumption | (simp (disch := omega) only [up2_ne, up2_eq, sh6a hS, sh6b hS, sh6c hS, sh6d hS, sh6e hS, st_1_m1 hS, st_1_4 hS, st_6_m2 hS, st_6_m1 hS]; first | done | rfl | omega)) rfl rfl ?_
    try simp (disch := omega) only [up2_ne, up2_eq, sh6a hS, sh6b hS, sh6c hS, sh6d hS, sh6e hS, st_1_m1 hS, st_1_4 hS, st_6_m2 hS, st_6_m1 hS]
    refine wp_iload_n rfl rfl dX11_cell_16 ?_
    refine wp_aaload1 dX11_cell_17 (by first | omega | (simp (disch := omega) only [up2_ne, up2_eq, sh6a hS, sh6b hS, sh6c hS, sh6d hS, sh6e hS, st_1_m1 hS, st_1_4 hS, st_6_m2 hS, st_6_m1 hS]; first | done | omega)) (by first | omega | (simp (disch := omega) only [up2_ne, up2_eq, sh6a hS, sh6b hS, sh6c hS, sh6d hS, sh6e hS, st_1_m1 hS, st_1_4 hS, st_6_m2 hS, st_6_m1 hS]; first | done | omega)) (by first | omega | (simp (disch := omega) only [up2_ne, up2_eq, sh6a hS, sh6b hS, sh6c hS, sh6d hS, sh6e hS, st_1_m1 hS, st_1_4 hS, st_6_m2 hS, st_6_m1 hS]; first | done | omega)) (by first | omega | (simp (disch := omega) only [up2_ne, up2_eq, sh6a hS, sh6b hS, sh6c hS, sh6d hS, sh6e hS, st_1_m1 hS, st_1_4 hS, st_6_m2 hS, st_6_m1 hS]; first | done | omega)) ?_
    try simp (disch := omega) only [up2_ne, up2_eq, sh6a hS, sh6b hS, sh6c hS, sh6d hS, sh6e hS, st_1_m1 hS, st_1_4 hS, st_6_m2 hS, st_6_m1 hS]
    refine wp_astore dX11_cell_18 rfl (Nat.le_of_ble_eq_true rfl) rfl ?_
    try simp only [List.set_cons_zero, List.set_cons_succ]
    refine wp_aload rfl dX11_cell_20 ?_
    refine wp_cV0 (ci := 8) okX8_isMissing rfl rfl wX11_182 dX11_cell_22 rfl (Nat.le_of_ble_eq_true rfl) (Nat.le_of_ble_eq_true rfl) (by first | omega | (simp (disch := omega) only [up2_ne, up2_eq, sh6a hS, sh6b hS, sh6c hS, sh6d hS, sh6e hS, st_1_m1 hS, st_1_4 hS, st_6_m2 hS, st_6_m1 hS]; first | done | omega)) (by first | assumption | (simp (disch := omega) only [up2_ne, up2_eq, sh6a hS, sh6b hS, sh6c hS, sh6d hS, sh6e hS, st_1_m1 hS, st_1_4 hS, st_6_m2 hS, st_6_m1 hS]; first | done | rfl | omega)) (s_X8_isMissing (by omega) (sh6b hS (by omega) (by omega)) ⟨by omega, by omega⟩) (Nat.zero_le _) ?_
    try simp (disch := omega) only [up2_ne, up2_eq, sh6a hS, sh6b hS, sh6c hS, sh6d hS, sh6e hS, st_1_m1 hS, st_1_4 hS, st_6_m2 hS, st_6_m1 hS]
    refine wp_ifB_eq (tgt := 31) dX11_cell_25 (by decide) (fun c2 => ?_) (fun c2 => ?_)
    · refine wp_aload rfl dX11_cell_31 ?_
      refine wp_iload_n rfl rfl dX11_cell_33 ?_
      refine wp_cV1 (ci := 8) okX8_holds rfl rfl wX11_189 dX11_cell_34 rfl (Nat.le_of_ble_eq_true rfl) (Nat.le_of_ble_eq_true rfl) (by first | omega | (simp (disch := omega) only [up2_ne, up2_eq, sh6a hS, sh6b hS, sh6c hS, sh6d hS, sh6e hS, st_1_m1 hS, st_1_4 hS, st_6_m2 hS, st_6_m1 hS]; first | done | omega)) (by first | assumption | (simp (disch := omega) only [up2_ne, up2_eq, sh6a hS, sh6b hS, sh6c hS, sh6d hS, sh6e hS, st_1_m1 hS, st_1_4 hS, st_6_m2 hS, st_6_m1 hS]; first | done | rfl | omega)) (s_X8_holds (by omega) (sh6b hS (by omega) (by omega)) (sh6c hS (by omega) (by omega)) (by omega) (sh6d hS (by omega) (by omega)) (sh6e hS (by omega) (by omega)) (by omega) (by omega) i2) (Nat.zero_le _) ?_
      try simp (disch := omega) only [up2_ne, up2_eq, sh6a hS, sh6b hS, sh6c hS, sh6d hS, sh6e hS, st_1_m1 hS, st_1_4 hS, st_6_m2 hS, st_6_m1 hS]
      refine wp_ifB_ne (tgt := 43) dX11_cell_37 (by decide) (fun c3 => ?_) (fun c3 => ?_)
      · refine wp_aload rfl dX11_cell_43 ?_
        refine wp_iload_n rfl rfl dX11_cell_45 ?_
        refine wp_iload_n rfl rfl dX11_cell_46 ?_
        refine wp_cV2v (ci := 8) okX8_put rfl rfl wX11_371 dX11_cell_47 (Nat.le_of_ble_eq_true rfl) (Nat.le_of_ble_eq_true rfl) (by first | omega | (simp (disch := omega) only [up2_ne, up2_eq, sh6a hS, sh6b hS, sh6c hS, sh6d hS, sh6e hS, st_1_m1 hS, st_1_4 hS, st_6_m2 hS, st_6_m1 hS]; first | done | omega)) (by first | assumption | (simp (disch := omega) only [up2_ne, up2_eq, sh6a hS, sh6b hS, sh6c hS, sh6d hS, sh6e hS, st_1_m1 hS, st_1_4 hS, st_6_m2 hS, st_6_m1 hS]; first | done | rfl | omega)) (by have := s_X8_put (u := u) (b := 0) (d := d) (it := 90 + x) (s := 80 + x) (n := i) (v := v) (by omega) (sh6b hS (by omega) (by omega)) (sh6c hS (by omega) (by omega)) (by omega) (sh6d hS (by omega) (by omega)) (sh6e hS (by omega) (by omega)) (by omega) (by omega) i2 ⟨by omega, by omega⟩ (by omega); rw [if_pos (show 0 ≤ i ∧ i < h (80 + x) 1 from ⟨by omega, by omega⟩)] at this; exact this) (Nat.zero_le _) ?_
        try simp (disch := omega) only [up2_ne, up2_eq, sh6a hS, sh6b hS, sh6c hS, sh6d hS, sh6e hS, st_1_m1 hS, st_1_4 hS, st_6_m2 hS, st_6_m1 hS]
        refine wp_iconst dX11_cell_50 ?_
        refine wp_iret dX11_cell_51 rfl ?_
        first | exact Or.inl ⟨by omega, rfl, rfl⟩ | exact Or.inr (Or.inl ⟨by omega, by omega, rfl, rfl⟩) | exact Or.inr (Or.inr (Or.inl ⟨by omega, by omega, by omega, rfl, rfl⟩)) | exact Or.inr (Or.inr (Or.inr ⟨by omega, by omega, by omega, rfl, rfl⟩)) | (exfalso; omega)
      · refine wp_bipush (by decide) dX11_cell_40 ?_
        refine wp_iret dX11_cell_42 rfl ?_
        first | exact Or.inl ⟨by omega, rfl, rfl⟩ | exact Or.inr (Or.inl ⟨by omega, by omega, rfl, rfl⟩) | exact Or.inr (Or.inr (Or.inl ⟨by omega, by omega, by omega, rfl, rfl⟩)) | exact Or.inr (Or.inr (Or.inr ⟨by omega, by omega, by omega, rfl, rfl⟩)) | (exfalso; omega)
    · refine wp_bipush (by decide) dX11_cell_28 ?_
      refine wp_iret dX11_cell_30 rfl ?_
      first | exact Or.inl ⟨by omega, rfl, rfl⟩ | exact Or.inr (Or.inl ⟨by omega, by omega, rfl, rfl⟩) | exact Or.inr (Or.inr (Or.inl ⟨by omega, by omega, by omega, rfl, rfl⟩)) | exact Or.inr (Or.inr (Or.inr ⟨by omega, by omega, by omega, rfl, rfl⟩)) | (exfalso; omega)
  · refine wp_bipush (by decide) dX11_cell_9 ?_
    refine wp_iret dX11_cell_11 rfl ?_
    first | exact Or.inl ⟨by omega, rfl, rfl⟩ | exact Or.inr (Or.inl ⟨by omega, by omega, rfl, rfl⟩) | exact Or.inr (Or.inr (Or.inl ⟨by omega, by omega, by omega, rfl, rfl⟩)) | exact Or.inr (Or.inr (Or.inr ⟨by omega, by omega, by omega, rfl, rfl⟩)) | (exfalso; omega)
theorem s_X12_cell {u : gT} {h : mH} {d b : Nat} {x i v : Int} (hS : St h) (i1 : InI x) (i2 : InI i) (hs : ∀ x, 0 ≤ x → x < 4 → -1 ≤ h 253 x ∧ h 253 x ≤ 2 ∧ 0 ≤ h 254 x ∧ h 254 x ≤ 40) : Rlt (gX (gq u)) MX12_cell (d + 1) b [(2, 200), (0, x), (0, i), (0, v)] h (fun r h1 => (¬ (0 ≤ x ∧ x < 4) ∧ r = (0, -2) ∧ h1 = h) ∨ ((0 ≤ x ∧ x < 4) ∧ h 253 x = -1 ∧ r = (0, -11) ∧ h1 = h) ∨ ((0 ≤ x ∧ x < 4) ∧ h 253 x ≠ -1 ∧ ¬ (0 ≤ i ∧ i < h 254 x) ∧ r = (0, -12) ∧ h1 = h) ∨ ((0 ≤ x ∧ x < 4) ∧ h 253 x ≠ -1 ∧ (0 ≤ i ∧ i < h 254 x) ∧ r = (0, 1) ∧ h1 = up2 h 255 (40 * x + i) (scut (h 253 x) v))) := by
  refine Rlt.of ?_
  have hsx := hs x
  unfold scut
  show WP (gX (gq u)) MX12_cell (d + 1) b _ 0 [(2, 200), (0, x), (0, i), (0, v)] [] h
  refine wp_iload_n rfl rfl dX12_cell_0 ?_
  refine wp_i2l (by first | assumption | exact bI_in _ | exact ⟨by omega, by omega⟩ | exact iAnd_in | exact iOr_in | exact iShr_in | exact iShl_in | exact iXor_in | exact hxs _) dX12_cell_1 ?_
  refine wp_lconst (v := 0) rfl dX12_cell_2 ?_
  refine wp_ldc2 kX12_109 dX12_cell_3 ?_
  refine wp_cS3 okX12_isIn wX12_15 dX12_cell_6 rfl (Nat.le_of_ble_eq_true rfl) (Nat.le_of_ble_eq_true rfl) (s_X12_isIn (by exact ⟨by have := i1.1; omega, by have := i1.2; omega⟩) (by exact ⟨by omega, by omega⟩) (by exact ⟨by omega, by omega⟩)) (Nat.zero_le _) ?_
  try simp (disch := omega) only [up2_ne, up2_eq, st_200_m1 hS, st_200_53 hS, st_200_54 hS, st_200_55 hS, st_253_m2 hS, st_253_m1 hS, st_254_m2 hS, st_254_m1 hS, st_255_m2 hS, st_255_m1 hS]
  refine wp_ifB_ne (tgt := 15) dX12_cell_9 (by decide) (fun c1 => ?_) (fun c1 => ?_)
  · refine wp_aload_n rfl rfl dX12_cell_15 ?_
    refine wp_getfield1 (z := 13) (kI := 53) fX12_113 dX12_cell_16 (by first | omega | (simp (disch := omega) only [up2_ne, up2_eq, st_200_m1 hS, st_200_53 hS, st_200_54 hS, st_200_55 hS, st_253_m2 hS, st_253_m1 hS, st_254_m2 hS, st_254_m1 hS, st_255_m2 hS, st_255_m1 hS]; first | done | omega)) (by first | assumption | (simp (disch := omega) only [up2_ne, up2_eq, st_200_m1 hS, st_200_53 hS, st_200_54 hS, st_200_55 hS, st_253_m2 hS, st_253_m1 hS, st_254_m2 hS, st_254_m1 hS, st_255_m2 hS, st_255_m1 hS]; first | done | rfl | omega)) rfl rfl ?_
    try simp (disch := omega) only [up2_ne, up2_eq, st_200_m1 hS, st_200_53 hS, st_200_54 hS, st_200_55 hS, st_253_m2 hS, st_253_m1 hS, st_254_m2 hS, st_254_m1 hS, st_255_m2 hS, st_255_m1 hS]
    refine wp_iload_n rfl rfl dX12_cell_19 ?_
    refine wp_iaload1 dX12_cell_20 (by first | omega | (simp (disch := omega) only [up2_ne, up2_eq, st_200_m1 hS, st_200_53 hS, st_200_54 hS, st_200_55 hS, st_253_m2 hS, st_253_m1 hS, st_254_m2 hS, st_254_m1 hS, st_255_m2 hS, st_255_m1 hS]; first | done | omega)) (by first | assumption | (simp (disch := omega) only [up2_ne, up2_eq, st_200_m1 hS, st_200_53 hS, st_200_54 hS, st_200_55 hS, st_253_m2 hS, st_253_m1 hS, st_254_m2 hS, st_254_m1 hS, st_255_m2 hS, st_255_m1 hS]; first | done | rfl | omega)) (by first | omega | (simp (disch := omega) only [up2_ne, up2_eq, st_200_m1 hS, st_200_53 hS, st_200_54 hS, st_200_55 hS, st_253_m2 hS, st_253_m1 hS, st_254_m2 hS, st_254_m1 hS, st_255_m2 hS, st_255_m1 hS]; first | done | omega)) (by first | omega | (simp (disch := omega) only [up2_ne, up2_eq, st_200_m1 hS, st_200_53 hS, st_200_54 hS, st_200_55 hS, st_253_m2 hS, st_253_m1 hS, st_254_m2 hS, st_254_m1 hS, st_255_m2 hS, st_255_m1 hS]; first | done | omega)) ?_
    try simp (disch := omega) only [up2_ne, up2_eq, st_200_m1 hS, st_200_53 hS, st_200_54 hS, st_200_55 hS, st_253_m2 hS, st_253_m1 hS, st_254_m2 hS, st_254_m1 hS, st_255_m2 hS, st_255_m1 hS]
    refine wp_if_ge (tgt := 27) (by first | assumption | exact bI_in _ | exact ⟨by omega, by omega⟩ | exact iAnd_in | exact iOr_in | exact iShr_in | exact iShl_in | exact iXor_in | exact hxs _) dX12_cell_21 (by decide) (fun c2 => ?_) (fun c2 => ?_)
    · refine wp_iload_n rfl rfl dX12_cell_27 ?_
      refine wp_if_lt (tgt := 41) (by first | assumption | exact bI_in _ | exact ⟨by omega, by omega⟩ | exact iAnd_in | exact iOr_in | exact iShr_in | exact iShl_in | exact iXor_in | exact hxs _) dX12_cell_28 (by decide) (fun c3 => ?_) (fun c3 => ?_)
      · refine wp_bipush (by decide) dX12_cell_41 ?_
        refine wp_iret dX12_cell_43 rfl ?_
        first | exact Or.inl ⟨by omega, rfl, rfl⟩ | exact Or.inr (Or.inl ⟨by omega, by omega, rfl, rfl⟩) | exact Or.inr (Or.inr (Or.inl ⟨by omega, by omega, by omega, rfl, rfl⟩)) | exact Or.inr (Or.inr (Or.inr ⟨by omega, by omega, by omega, rfl, by rw [if_pos (by omega)]⟩)) | exact Or.inr (Or.inr (Or.inr ⟨by omega, by omega, by omega, rfl, by rw [if_neg (by omega), if_pos (by omega)]⟩)) | exact Or.inr (Or.inr (Or.inr ⟨by omega, by omega, by omega, rfl, by rw [if_neg (by omega), if_neg (by omega)]⟩)) | (exfalso; omega)
      · refine wp_iload_n rfl rfl dX12_cell_31 ?_
        refine wp_aload_n rfl rfl dX12_cell_32 ?_
        refine wp_getfield1 (z := 13) (kI := 54) fX12_116 dX12_cell_33 (by first | omega | (simp (disch := omega) only [up2_ne, up2_eq, st_200_m1 hS, st_200_53 hS, st_200_54 hS, st_200_55 hS, st_253_m2 hS, st_253_m1 hS, st_254_m2 hS, st_254_m1 hS, st_255_m2 hS, st_255_m1 hS]; first | done | omega)) (by first | assumption | (simp (disch := omega) only [up2_ne, up2_eq, st_200_m1 hS, st_200_53 hS, st_200_54 hS, st_200_55 hS, st_253_m2 hS, st_253_m1 hS, st_254_m2 hS, st_254_m1 hS, st_255_m2 hS, st_255_m1 hS]; first | done | rfl | omega)) rfl rfl ?_
        try simp (disch := omega) only [up2_ne, up2_eq, st_200_m1 hS, st_200_53 hS, st_200_54 hS, st_200_55 hS, st_253_m2 hS, st_253_m1 hS, st_254_m2 hS, st_254_m1 hS, st_255_m2 hS, st_255_m1 hS]
        refine wp_iload_n rfl rfl dX12_cell_36 ?_
        refine wp_iaload1 dX12_cell_37 (by first | omega | (simp (disch := omega) only [up2_ne, up2_eq, st_200_m1 hS, st_200_53 hS, st_200_54 hS, st_200_55 hS, st_253_m2 hS, st_253_m1 hS, st_254_m2 hS, st_254_m1 hS, st_255_m2 hS, st_255_m1 hS]; first | done | omega)) (by first | assumption | (simp (disch := omega) only [up2_ne, up2_eq, st_200_m1 hS, st_200_53 hS, st_200_54 hS, st_200_55 hS, st_253_m2 hS, st_253_m1 hS, st_254_m2 hS, st_254_m1 hS, st_255_m2 hS, st_255_m1 hS]; first | done | rfl | omega)) (by first | omega | (simp (disch := omega) only [up2_ne, up2_eq, st_200_m1 hS, st_200_53 hS, st_200_54 hS, st_200_55 hS, st_253_m2 hS, st_253_m1 hS, st_254_m2 hS, st_254_m1 hS, st_255_m2 hS, st_255_m1 hS]; first | done | omega)) (by first | omega | (simp (disch := omega) only [up2_ne, up2_eq, st_200_m1 hS, st_200_53 hS, st_200_54 hS, st_200_55 hS, st_253_m2 hS, st_253_m1 hS, st_254_m2 hS, st_254_m1 hS, st_255_m2 hS, st_255_m1 hS]; first | done | omega)) ?_
        try simp (disch := omega) only [up2_ne, up2_eq, st_200_m1 hS, st_200_53 hS, st_200_54 hS, st_200_55 hS, st_253_m2 hS, st_253_m1 hS, st_254_m2 hS, st_254_m1 hS, st_255_m2 hS, st_255_m1 hS]
        refine wp_icmp_lt (tgt := 44) (by first | assumption | exact bI_in _ | exact ⟨by omega, by omega⟩ | exact iAnd_in | exact iOr_in | exact iShr_in | exact iShl_in | exact iXor_in | exact hxs _) (by first | assumption | exact bI_in _ | exact ⟨by omega, by omega⟩ | exact iAnd_in | exact iOr_in | exact iShr_in | exact iShl_in | exact iXor_in | exact hxs _) dX12_cell_38 (by decide) (fun c4 => ?_) (fun c4 => ?_)
        · refine wp_aload_n rfl rfl dX12_cell_44 ?_
          refine wp_getfield1 (z := 13) (kI := 55) fX12_119 dX12_cell_45 (by first | omega | (simp (disch := omega) only [up2_ne, up2_eq, st_200_m1 hS, st_200_53 hS, st_200_54 hS, st_200_55 hS, st_253_m2 hS, st_253_m1 hS, st_254_m2 hS, st_254_m1 hS, st_255_m2 hS, st_255_m1 hS]; first | done | omega)) (by first | assumption | (simp (disch := omega) only [up2_ne, up2_eq, st_200_m1 hS, st_200_53 hS, st_200_54 hS, st_200_55 hS, st_253_m2 hS, st_253_m1 hS, st_254_m2 hS, st_254_m1 hS, st_255_m2 hS, st_255_m1 hS]; first | done | rfl | omega)) rfl rfl ?_
          try simp (disch := omega) only [up2_ne, up2_eq, st_200_m1 hS, st_200_53 hS, st_200_54 hS, st_200_55 hS, st_253_m2 hS, st_253_m1 hS, st_254_m2 hS, st_254_m1 hS, st_255_m2 hS, st_255_m1 hS]
          refine wp_bipush (by decide) dX12_cell_48 ?_
          refine wp_iload_n rfl rfl dX12_cell_50 ?_
          refine wp_imul dX12_cell_51 ?_
          refine wp_iload_n rfl rfl dX12_cell_52 ?_
          refine wp_iadd dX12_cell_53 ?_
          refine wp_aload_n rfl rfl dX12_cell_54 ?_
          refine wp_getfield1 (z := 13) (kI := 53) fX12_113 dX12_cell_55 (by first | omega | (simp (disch := omega) only [up2_ne, up2_eq, st_200_m1 hS, st_200_53 hS, st_200_54 hS, st_200_55 hS, st_253_m2 hS, st_253_m1 hS, st_254_m2 hS, st_254_m1 hS, st_255_m2 hS, st_255_m1 hS]; first | done | omega)) (by first | assumption | (simp (disch := omega) only [up2_ne, up2_eq, st_200_m1 hS, st_200_53 hS, st_200_54 hS, st_200_55 hS, st_253_m2 hS, st_253_m1 hS, st_254_m2 hS, st_254_m1 hS, st_255_m2 hS, st_255_m1 hS]; first | done | rfl | omega)) rfl rfl ?_
          try simp (disch := omega) only [up2_ne, up2_eq, st_200_m1 hS, st_200_53 hS, st_200_54 hS, st_200_55 hS, st_253_m2 hS, st_253_m1 hS, st_254_m2 hS, st_254_m1 hS, st_255_m2 hS, st_255_m1 hS]
          refine wp_iload_n rfl rfl dX12_cell_58 ?_
          refine wp_iaload1 dX12_cell_59 (by first | omega | (simp (disch := omega) only [up2_ne, up2_eq, st_200_m1 hS, st_200_53 hS, st_200_54 hS, st_200_55 hS, st_253_m2 hS, st_253_m1 hS, st_254_m2 hS, st_254_m1 hS, st_255_m2 hS, st_255_m1 hS]; first | done | omega)) (by first | assumption | (simp (disch := omega) only [up2_ne, up2_eq, st_200_m1 hS, st_200_53 hS, st_200_54 hS, st_200_55 hS, st_253_m2 hS, st_253_m1 hS, st_254_m2 hS, st_254_m1 hS, st_255_m2 hS, st_255_m1 hS]; first | done | rfl | omega)) (by first | omega | (simp (disch := omega) only [up2_ne, up2_eq, st_200_m1 hS, st_200_53 hS, st_200_54 hS, st_200_55 hS, st_253_m2 hS, st_253_m1 hS, st_254_m2 hS, st_254_m1 hS, st_255_m2 hS, st_255_m1 hS]; first | done | omega)) (by first | omega | (simp (disch := omega) only [up2_ne, up2_eq, st_200_m1 hS, st_200_53 hS, st_200_54 hS, st_200_55 hS, st_253_m2 hS, st_253_m1 hS, st_254_m2 hS, st_254_m1 hS, st_255_m2 hS, st_255_m1 hS]; first | done | omega)) ?_
          try simp (disch := omega) only [up2_ne, up2_eq, st_200_m1 hS, st_200_53 hS, st_200_54 hS, st_200_55 hS, st_253_m2 hS, st_253_m1 hS, st_254_m2 hS, st_254_m1 hS, st_255_m2 hS, st_255_m1 hS]
          refine wp_if_ne (tgt := 68) (by first | assumption | exact bI_in _ | exact ⟨by omega, by omega⟩ | exact iAnd_in | exact iOr_in | exact iShr_in | exact iShl_in | exact iXor_in | exact hxs _) dX12_cell_60 (by decide) (fun c5 => ?_) (fun c5 => ?_)
          · refine wp_aload_n rfl rfl dX12_cell_68 ?_
            refine wp_getfield1 (z := 13) (kI := 53) fX12_113 dX12_cell_69 (by first | omega | (simp (disch := omega) only [up2_ne, up2_eq, st_200_m1 hS, st_200_53 hS, st_200_54 hS, st_200_55 hS, st_253_m2 hS, st_253_m1 hS, st_254_m2 hS, st_254_m1 hS, st_255_m2 hS, st_255_m1 hS]; first | done | omega)) (by first | assumption | (simp (disch := omega) only [up2_ne, up2_eq, st_200_m1 hS, st_200_53 hS, st_200_54 hS, st_200_55 hS, st_253_m2 hS, st_253_m1 hS, st_254_m2 hS, st_254_m1 hS, st_255_m2 hS, st_255_m1 hS]; first | done | rfl | omega)) rfl rfl ?_
            try simp (disch := omega) only [up2_ne, up2_eq, st_200_m1 hS, st_200_53 hS, st_200_54 hS, st_200_55 hS, st_253_m2 hS, st_253_m1 hS, st_254_m2 hS, st_254_m1 hS, st_255_m2 hS, st_255_m1 hS]
            refine wp_iload_n rfl rfl dX12_cell_72 ?_
            refine wp_iaload1 dX12_cell_73 (by first | omega | (simp (disch := omega) only [up2_ne, up2_eq, st_200_m1 hS, st_200_53 hS, st_200_54 hS, st_200_55 hS, st_253_m2 hS, st_253_m1 hS, st_254_m2 hS, st_254_m1 hS, st_255_m2 hS, st_255_m1 hS]; first | done | omega)) (by first | assumption | (simp (disch := omega) only [up2_ne, up2_eq, st_200_m1 hS, st_200_53 hS, st_200_54 hS, st_200_55 hS, st_253_m2 hS, st_253_m1 hS, st_254_m2 hS, st_254_m1 hS, st_255_m2 hS, st_255_m1 hS]; first | done | rfl | omega)) (by first | omega | (simp (disch := omega) only [up2_ne, up2_eq, st_200_m1 hS, st_200_53 hS, st_200_54 hS, st_200_55 hS, st_253_m2 hS, st_253_m1 hS, st_254_m2 hS, st_254_m1 hS, st_255_m2 hS, st_255_m1 hS]; first | done | omega)) (by first | omega | (simp (disch := omega) only [up2_ne, up2_eq, st_200_m1 hS, st_200_53 hS, st_200_54 hS, st_200_55 hS, st_253_m2 hS, st_253_m1 hS, st_254_m2 hS, st_254_m1 hS, st_255_m2 hS, st_255_m1 hS]; first | done | omega)) ?_
            try simp (disch := omega) only [up2_ne, up2_eq, st_200_m1 hS, st_200_53 hS, st_200_54 hS, st_200_55 hS, st_253_m2 hS, st_253_m1 hS, st_254_m2 hS, st_254_m1 hS, st_255_m2 hS, st_255_m1 hS]
            refine wp_iconst dX12_cell_74 ?_
            refine wp_icmp_ne (tgt := 83) (by first | assumption | exact bI_in _ | exact ⟨by omega, by omega⟩ | exact iAnd_in | exact iOr_in | exact iShr_in | exact iShl_in | exact iXor_in | exact hxs _) (by first | assumption | exact bI_in _ | exact ⟨by omega, by omega⟩ | exact iAnd_in | exact iOr_in | exact iShr_in | exact iShl_in | exact iXor_in | exact hxs _) dX12_cell_75 (by decide) (fun c6 => ?_) (fun c6 => ?_)
            · refine wp_iload_n rfl rfl dX12_cell_83 ?_
              refine wp_iastore1 dX12_cell_84 (by first | omega | (simp (disch := omega) only [up2_ne, up2_eq, st_200_m1 hS, st_200_53 hS, st_200_54 hS, st_200_55 hS, st_253_m2 hS, st_253_m1 hS, st_254_m2 hS, st_254_m1 hS, st_255_m2 hS, st_255_m1 hS]; first | done | omega)) (by first | assumption | (simp (disch := omega) only [up2_ne, up2_eq, st_200_m1 hS, st_200_53 hS, st_200_54 hS, st_200_55 hS, st_253_m2 hS, st_253_m1 hS, st_254_m2 hS, st_254_m1 hS, st_255_m2 hS, st_255_m1 hS]; first | done | rfl | omega)) (by first | omega | (simp (disch := omega) only [up2_ne, up2_eq, st_200_m1 hS, st_200_53 hS, st_200_54 hS, st_200_55 hS, st_253_m2 hS, st_253_m1 hS, st_254_m2 hS, st_254_m1 hS, st_255_m2 hS, st_255_m1 hS]; first | done | omega)) (by first | omega | (simp (disch := omega) only [up2_ne, up2_eq, st_200_m1 hS, st_200_53 hS, st_200_54 hS, st_200_55 hS, st_253_m2 hS, st_253_m1 hS, st_254_m2 hS, st_254_m1 hS, st_255_m2 hS, st_255_m1 hS]; first | done | omega)) ?_
              refine wp_iconst dX12_cell_85 ?_
              refine wp_iret dX12_cell_86 rfl ?_
              first | exact Or.inl ⟨by omega, rfl, rfl⟩ | exact Or.inr (Or.inl ⟨by omega, by omega, rfl, rfl⟩) | exact Or.inr (Or.inr (Or.inl ⟨by omega, by omega, by omega, rfl, rfl⟩)) | exact Or.inr (Or.inr (Or.inr ⟨by omega, by omega, by omega, rfl, by rw [if_pos (by omega)]⟩)) | exact Or.inr (Or.inr (Or.inr ⟨by omega, by omega, by omega, rfl, by rw [if_neg (by omega), if_pos (by omega)]⟩)) | exact Or.inr (Or.inr (Or.inr ⟨by omega, by omega, by omega, rfl, by rw [if_neg (by omega), if_neg (by omega)]⟩)) | (exfalso; omega)
            · refine wp_iload_n rfl rfl dX12_cell_78 ?_
              refine wp_i2s dX12_cell_79 ?_
              refine wp_goto (tgt := 84) dX12_cell_80 (by decide) ?_
              refine wp_iastore1 dX12_cell_84 (by first | omega | (simp (disch := omega) only [up2_ne, up2_eq, st_200_m1 hS, st_200_53 hS, st_200_54 hS, st_200_55 hS, st_253_m2 hS, st_253_m1 hS, st_254_m2 hS, st_254_m1 hS, st_255_m2 hS, st_255_m1 hS]; first | done | omega)) (by first | assumption | (simp (disch := omega) only [up2_ne, up2_eq, st_200_m1 hS, st_200_53 hS, st_200_54 hS, st_200_55 hS, st_253_m2 hS, st_253_m1 hS, st_254_m2 hS, st_254_m1 hS, st_255_m2 hS, st_255_m1 hS]; first | done | rfl | omega)) (by first | omega | (simp (disch := omega) only [up2_ne, up2_eq, st_200_m1 hS, st_200_53 hS, st_200_54 hS, st_200_55 hS, st_253_m2 hS, st_253_m1 hS, st_254_m2 hS, st_254_m1 hS, st_255_m2 hS, st_255_m1 hS]; first | done | omega)) (by first | omega | (simp (disch := omega) only [up2_ne, up2_eq, st_200_m1 hS, st_200_53 hS, st_200_54 hS, st_200_55 hS, st_253_m2 hS, st_253_m1 hS, st_254_m2 hS, st_254_m1 hS, st_255_m2 hS, st_255_m1 hS]; first | done | omega)) ?_
              refine wp_iconst dX12_cell_85 ?_
              refine wp_iret dX12_cell_86 rfl ?_
              first | exact Or.inl ⟨by omega, rfl, rfl⟩ | exact Or.inr (Or.inl ⟨by omega, by omega, rfl, rfl⟩) | exact Or.inr (Or.inr (Or.inl ⟨by omega, by omega, by omega, rfl, rfl⟩)) | exact Or.inr (Or.inr (Or.inr ⟨by omega, by omega, by omega, rfl, by rw [if_pos (by omega)]⟩)) | exact Or.inr (Or.inr (Or.inr ⟨by omega, by omega, by omega, rfl, by rw [if_neg (by omega), if_pos (by omega)]⟩)) | exact Or.inr (Or.inr (Or.inr ⟨by omega, by omega, by omega, rfl, by rw [if_neg (by omega), if_neg (by omega)]⟩)) | (exfalso; omega)
          · refine wp_iload_n rfl rfl dX12_cell_63 ?_
            refine wp_i2b dX12_cell_64 ?_
            refine wp_goto (tgt := 84) dX12_cell_65 (by decide) ?_
            refine wp_iastore1 dX12_cell_84 (by first | omega | (simp (disch := omega) only [up2_ne, up2_eq, st_200_m1 hS, st_200_53 hS, st_200_54 hS, st_200_55 hS, st_253_m2 hS, st_253_m1 hS, st_254_m2 hS, st_254_m1 hS, st_255_m2 hS, st_255_m1 hS]; first | done | omega)) (by first | assumption | (simp (disch := omega) only [up2_ne, up2_eq, st_200_m1 hS, st_200_53 hS, st_200_54 hS, st_200_55 hS, st_253_m2 hS, st_253_m1 hS, st_254_m2 hS, st_254_m1 hS, st_255_m2 hS, st_255_m1 hS]; first | done | rfl | omega)) (by first | omega | (simp (disch := omega) only [up2_ne, up2_eq, st_200_m1 hS, st_200_53 hS, st_200_54 hS, st_200_55 hS, st_253_m2 hS, st_253_m1 hS, st_254_m2 hS, st_254_m1 hS, st_255_m2 hS, st_255_m1 hS]; first | done | omega)) (by first | omega | (simp (disch := omega) only [up2_ne, up2_eq, st_200_m1 hS, st_200_53 hS, st_200_54 hS, st_200_55 hS, st_253_m2 hS, st_253_m1 hS, st_254_m2 hS, st_254_m1 hS, st_255_m2 hS, st_255_m1 hS]; first | done | omega)) ?_
            refine wp_iconst dX12_cell_85 ?_
            refine wp_iret dX12_cell_86 rfl ?_
            first | exact Or.inl ⟨by omega, rfl, rfl⟩ | exact Or.inr (Or.inl ⟨by omega, by omega, rfl, rfl⟩) | exact Or.inr (Or.inr (Or.inl ⟨by omega, by omega, by omega, rfl, rfl⟩)) | exact Or.inr (Or.inr (Or.inr ⟨by omega, by omega, by omega, rfl, by rw [if_pos (by omega)]⟩)) | exact Or.inr (Or.inr (Or.inr ⟨by omega, by omega, by omega, rfl, by rw [if_neg (by omega), if_pos (by omega)]⟩)) | exact Or.inr (Or.inr (Or.inr ⟨by omega, by omega, by omega, rfl, by rw [if_neg (by omega), if_neg (by omega)]⟩)) | (exfalso; omega)
        · refine wp_bipush (by decide) dX12_cell_41 ?_
          refine wp_iret dX12_cell_43 rfl ?_
          first | exact Or.inl ⟨by omega, rfl, rfl⟩ | exact Or.inr (Or.inl ⟨by omega, by omega, rfl, rfl⟩) | exact Or.inr (Or.inr (Or.inl ⟨by omega, by omega, by omega, rfl, rfl⟩)) | exact Or.inr (Or.inr (Or.inr ⟨by omega, by omega, by omega, rfl, by rw [if_pos (by omega)]⟩)) | exact Or.inr (Or.inr (Or.inr ⟨by omega, by omega, by omega, rfl, by rw [if_neg (by omega), if_pos (by omega)]⟩)) | exact Or.inr (Or.inr (Or.inr ⟨by omega, by omega, by omega, rfl, by rw [if_neg (by omega), if_neg (by omega)]⟩)) | (exfalso; omega)
    · refine wp_bipush (by decide) dX12_cell_24 ?_
      refine wp_iret dX12_cell_26 rfl ?_
      first | exact Or.inl ⟨by omega, rfl, rfl⟩ | exact Or.inr (Or.inl ⟨by omega, by omega, rfl, rfl⟩) | exact Or.inr (Or.inr (Or.inl ⟨by omega, by omega, by omega, rfl, rfl⟩)) | exact Or.inr (Or.inr (Or.inr ⟨by omega, by omega, by omega, rfl, by rw [if_pos (by omega)]⟩)) | exact Or.inr (Or.inr (Or.inr ⟨by omega, by omega, by omega, rfl, by rw [if_neg (by omega), if_pos (by omega)]⟩)) | exact Or.inr (Or.inr (Or.inr ⟨by omega, by omega, by omega, rfl, by rw [if_neg (by omega), if_neg (by omega)]⟩)) | (exfalso; omega)
  · refine wp_bipush (by decide) dX12_cell_12 ?_
    refine wp_iret dX12_cell_14 rfl ?_
    first | exact Or.inl ⟨by omega, rfl, rfl⟩ | exact Or.inr (Or.inl ⟨by omega, by omega, rfl, rfl⟩) | exact Or.inr (Or.inr (Or.inl ⟨by omega, by omega, by omega, rfl, rfl⟩)) | exact Or.inr (Or.inr (Or.inr ⟨by omega, by omega, by omega, rfl, by rw [if_pos (by omega)]⟩)) | exact Or.inr (Or.inr (Or.inr ⟨by omega, by omega, by omega, rfl, by rw [if_neg (by omega), if_pos (by omega)]⟩)) | exact Or.inr (Or.inr (Or.inr ⟨by omega, by omega, by omega, rfl, by rw [if_neg (by omega), if_neg (by omega)]⟩)) | (exfalso; omega)
