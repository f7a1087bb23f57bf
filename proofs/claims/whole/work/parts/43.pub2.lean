/-! ===== reader, force, taken, sheet, cell, bar, barred, feed ===== -/
def readerH (g : gG) (h : mH) (t ho l : Int) : mH := up2 (up2 (up2 (up2 (up2 (up2 (nwh (gX g) h (110 + h 1 12) 7 0) (110 + h 1 12) 0 (h 1 12)) (110 + h 1 12) 1 t) (110 + h 1 12) 2 ho) (110 + h 1 12) 3 l) 3 (h 1 12) (110 + h 1 12)) 1 12 (h 1 12 + 1)
theorem s_X11_reader {u : gT} {h : mH} {d : Nat} {t ho l : Int} (hS : St h) (i1 : InI t) (i2 : InI ho) (i3 : InI l) (n0 : 0 ≤ h 1 12) (n1 : h 1 12 ≤ 8) (hfr : h 1 12 < 8 → h (110 + h 1 12) (-1) = 0) : Rlt (gX (gq u)) MX11_reader (d + 2) 300 [(2, 1), (0, t), (0, ho), (0, l)] h (fun r h1 => (¬ (0 ≤ t ∧ t ≤ 63 ∧ 0 ≤ ho ∧ ho ≤ 9 ∧ 1 ≤ l ∧ l ≤ 6) ∧ r = (0, -2) ∧ h1 = h) ∨ ((0 ≤ t ∧ t ≤ 63 ∧ 0 ≤ ho ∧ ho ≤ 9 ∧ 1 ≤ l ∧ l ≤ 6) ∧ 8 ≤ h 1 12 ∧ r = (0, -4) ∧ h1 = h) ∨ ((0 ≤ t ∧ t ≤ 63 ∧ 0 ≤ ho ∧ ho ≤ 9 ∧ 1 ≤ l ∧ l ≤ 6) ∧ h 1 12 < 8 ∧ r = (0, h 1 12 + 1 - 1) ∧ h1 = readerH (gq u) h t ho l)) := by
  refine Rlt.of ?_
  show WP (gX (gq u)) MX11_reader (d + 2) 300 _ 0 [(2, 1), (0, t), (0, ho), (0, l), (9, 0)] [] h
  refine wp_iload_n rfl rfl dX11_reader_0 ?_
  refine wp_iconst dX11_reader_1 ?_
  refine wp_bipush (by decide) dX11_reader_2 ?_
  refine wp_cS3 okX11_isWithin wX11_98 dX11_reader_4 rfl (Nat.le_of_ble_eq_true rfl) (Nat.le_of_ble_eq_true rfl) (s_X11_isWithin (by first | assumption | exact ⟨by omega, by omega⟩) (by exact ⟨by omega, by omega⟩) (by exact ⟨by omega, by omega⟩)) (Nat.zero_le _) ?_
  try simp (disch := omega) only [up2_ne, up2_eq, nw_ne, nw_m1, nw_m2, nw_i, nw_q, st_1_m1 hS, st_1_1 hS, st_3_m2 hS, st_3_m1 hS]
  refine wp_ifB_eq (tgt := 34) dX11_reader_7 (by decide) (fun c1 => ?_) (fun c1 => ?_)
  · refine wp_iconst dX11_reader_34 ?_
    refine wp_istore dX11_reader_35 rfl (Nat.le_of_ble_eq_true rfl) rfl ?_
    try simp only [List.set_cons_zero, List.set_cons_succ]
    refine wp_iload rfl dX11_reader_37 ?_
    refine wp_if_ne (tgt := 45) (by first | assumption | exact bI_in _ | exact ⟨by omega, by omega⟩ | exact iAnd_in | exact iOr_in | exact iShr_in | exact iShl_in | exact iXor_in | exact hxs _) dX11_reader_39 (by decide) (fun hx => absurd hx (by decide)) (fun hx => ?_)
    refine wp_bipush (by decide) dX11_reader_42 ?_
    refine wp_iret dX11_reader_44 rfl ?_
    first | exact Or.inl ⟨by omega, rfl, rfl⟩ | exact Or.inr (Or.inl ⟨by omega, by omega, rfl, rfl⟩) | exact Or.inr (Or.inr ⟨by omega, by omega, rfl, rfl⟩) | (exfalso; omega)
  · refine wp_iload_n rfl rfl dX11_reader_10 ?_
    refine wp_iconst dX11_reader_11 ?_
    refine wp_bipush (by decide) dX11_reader_12 ?_
    refine wp_cS3 okX11_isWithin wX11_98 dX11_reader_14 rfl (Nat.le_of_ble_eq_true rfl) (Nat.le_of_ble_eq_true rfl) (s_X11_isWithin (by first | assumption | exact ⟨by omega, by omega⟩) (by exact ⟨by omega, by omega⟩) (by exact ⟨by omega, by omega⟩)) (Nat.zero_le _) ?_
    try simp (disch := omega) only [up2_ne, up2_eq, nw_ne, nw_m1, nw_m2, nw_i, nw_q, st_1_m1 hS, st_1_1 hS, st_3_m2 hS, st_3_m1 hS]
    refine wp_ifB_eq (tgt := 34) dX11_reader_17 (by decide) (fun c2 => ?_) (fun c2 => ?_)
    · refine wp_iconst dX11_reader_34 ?_
      refine wp_istore dX11_reader_35 rfl (Nat.le_of_ble_eq_true rfl) rfl ?_
      try simp only [List.set_cons_zero, List.set_cons_succ]
      refine wp_iload rfl dX11_reader_37 ?_
      refine wp_if_ne (tgt := 45) (by first | assumption | exact bI_in _ | exact ⟨by omega, by omega⟩ | exact iAnd_in | exact iOr_in | exact iShr_in | exact iShl_in | exact iXor_in | exact hxs _) dX11_reader_39 (by decide) (fun hx => absurd hx (by decide)) (fun hx => ?_)
      refine wp_bipush (by decide) dX11_reader_42 ?_
      refine wp_iret dX11_reader_44 rfl ?_
      first | exact Or.inl ⟨by omega, rfl, rfl⟩ | exact Or.inr (Or.inl ⟨by omega, by omega, rfl, rfl⟩) | exact Or.inr (Or.inr ⟨by omega, by omega, rfl, rfl⟩) | (exfalso; omega)
    · refine wp_iload_n rfl rfl dX11_reader_20 ?_
      refine wp_iconst dX11_reader_21 ?_
      refine wp_bipush (by decide) dX11_reader_22 ?_
      refine wp_cS3 okX11_isWithin wX11_98 dX11_reader_24 rfl (Nat.le_of_ble_eq_true rfl) (Nat.le_of_ble_eq_true rfl) (s_X11_isWithin (by first | assumption | exact ⟨by omega, by omega⟩) (by exact ⟨by omega, by omega⟩) (by exact ⟨by omega, by omega⟩)) (Nat.zero_le _) ?_
      try simp (disch := omega) only [up2_ne, up2_eq, nw_ne, nw_m1, nw_m2, nw_i, nw_q, st_1_m1 hS, st_1_1 hS, st_3_m2 hS, st_3_m1 hS]
      refine wp_ifB_eq (tgt := 34) dX11_reader_27 (by decide) (fun c3 => ?_) (fun c3 => ?_)
      · refine wp_iconst dX11_reader_34 ?_
        refine wp_istore dX11_reader_35 rfl (Nat.le_of_ble_eq_true rfl) rfl ?_
        try simp only [List.set_cons_zero, List.set_cons_succ]
        refine wp_iload rfl dX11_reader_37 ?_
        refine wp_if_ne (tgt := 45) (by first | assumption | exact bI_in _ | exact ⟨by omega, by omega⟩ | exact iAnd_in | exact iOr_in | exact iShr_in | exact iShl_in | exact iXor_in | exact hxs _) dX11_reader_39 (by decide) (fun hx => absurd hx (by decide)) (fun hx => ?_)
        refine wp_bipush (by decide) dX11_reader_42 ?_
        refine wp_iret dX11_reader_44 rfl ?_
        first | exact Or.inl ⟨by omega, rfl, rfl⟩ | exact Or.inr (Or.inl ⟨by omega, by omega, rfl, rfl⟩) | exact Or.inr (Or.inr ⟨by omega, by omega, rfl, rfl⟩) | (exfalso; omega)
      · refine wp_iconst dX11_reader_30 ?_
        refine wp_goto (tgt := 35) dX11_reader_31 (by decide) ?_
        refine wp_istore dX11_reader_35 rfl (Nat.le_of_ble_eq_true rfl) rfl ?_
        try simp only [List.set_cons_zero, List.set_cons_succ]
        refine wp_iload rfl dX11_reader_37 ?_
        refine wp_if_ne (tgt := 45) (by first | assumption | exact bI_in _ | exact ⟨by omega, by omega⟩ | exact iAnd_in | exact iOr_in | exact iShr_in | exact iShl_in | exact iXor_in | exact hxs _) dX11_reader_39 (by decide) (fun hx => ?_) (fun hx => absurd hx (by decide))
        refine wp_aload_n rfl rfl dX11_reader_45 ?_
        refine wp_getfield1 (z := 12) (kI := 12) fX11_132 dX11_reader_46 (by first | omega | (simp (disch := omega) only [up2_ne, up2_eq, nw_ne, nw_m1, nw_m2, nw_i, nw_q, st_1_m1 hS, st_1_1 hS, st_3_m2 hS, st_3_m1 hS]; first | done | omega)) (by first | assumption | (simp (disch := omega) only [up2_ne, up2_eq, nw_ne, nw_m1, nw_m2, nw_i, nw_q, st_1_m1 hS, st_1_1 hS, st_3_m2 hS, st_3_m1 hS]; first | done | rfl | omega)) rfl rfl ?_
        try simp (disch := omega) only [up2_ne, up2_eq, nw_ne, nw_m1, nw_m2, nw_i, nw_q, st_1_m1 hS, st_1_1 hS, st_3_m2 hS, st_3_m1 hS]
        refine wp_aload_n rfl rfl dX11_reader_49 ?_
        refine wp_getfield1 (z := 12) (kI := 1) fX11_17 dX11_reader_50 (by first | omega | (simp (disch := omega) only [up2_ne, up2_eq, nw_ne, nw_m1, nw_m2, nw_i, nw_q, st_1_m1 hS, st_1_1 hS, st_3_m2 hS, st_3_m1 hS]; first | done | omega)) (by first | assumption | (simp (disch := omega) only [up2_ne, up2_eq, nw_ne, nw_m1, nw_m2, nw_i, nw_q, st_1_m1 hS, st_1_1 hS, st_3_m2 hS, st_3_m1 hS]; first | done | rfl | omega)) rfl rfl ?_
        try simp (disch := omega) only [up2_ne, up2_eq, nw_ne, nw_m1, nw_m2, nw_i, nw_q, st_1_m1 hS, st_1_1 hS, st_3_m2 hS, st_3_m1 hS]
        refine wp_alen1 dX11_reader_53 (by first | omega | (simp (disch := omega) only [up2_ne, up2_eq, nw_ne, nw_m1, nw_m2, nw_i, nw_q, st_1_m1 hS, st_1_1 hS, st_3_m2 hS, st_3_m1 hS]; first | done | omega)) (by first | omega | (simp (disch := omega) only [up2_ne, up2_eq, nw_ne, nw_m1, nw_m2, nw_i, nw_q, st_1_m1 hS, st_1_1 hS, st_3_m2 hS, st_3_m1 hS]; first | done | omega)) ?_
        try simp (disch := omega) only [up2_ne, up2_eq, nw_ne, nw_m1, nw_m2, nw_i, nw_q, st_1_m1 hS, st_1_1 hS, st_3_m2 hS, st_3_m1 hS]
        refine wp_icmp_lt (tgt := 60) (by first | assumption | exact bI_in _ | exact ⟨by omega, by omega⟩ | exact iAnd_in | exact iOr_in | exact iShr_in | exact iShl_in | exact iXor_in | exact hxs _) (by first | assumption | exact bI_in _ | exact ⟨by omega, by omega⟩ | exact iAnd_in | exact iOr_in | exact iShr_in | exact iShl_in | exact iXor_in | exact hxs _) dX11_reader_54 (by decide) (fun c4 => ?_) (fun c4 => ?_)
        · refine wp_aload_n rfl rfl dX11_reader_60 ?_
          refine wp_getfield1 (z := 12) (kI := 1) fX11_17 dX11_reader_61 (by first | omega | (simp (disch := omega) only [up2_ne, up2_eq, nw_ne, nw_m1, nw_m2, nw_i, nw_q, st_1_m1 hS, st_1_1 hS, st_3_m2 hS, st_3_m1 hS]; first | done | omega)) (by first | assumption | (simp (disch := omega) only [up2_ne, up2_eq, nw_ne, nw_m1, nw_m2, nw_i, nw_q, st_1_m1 hS, st_1_1 hS, st_3_m2 hS, st_3_m1 hS]; first | done | rfl | omega)) rfl rfl ?_
          try simp (disch := omega) only [up2_ne, up2_eq, nw_ne, nw_m1, nw_m2, nw_i, nw_q, st_1_m1 hS, st_1_1 hS, st_3_m2 hS, st_3_m1 hS]
          refine wp_aload_n rfl rfl dX11_reader_64 ?_
          refine wp_getfield1 (z := 12) (kI := 12) fX11_132 dX11_reader_65 (by first | omega | (simp (disch := omega) only [up2_ne, up2_eq, nw_ne, nw_m1, nw_m2, nw_i, nw_q, st_1_m1 hS, st_1_1 hS, st_3_m2 hS, st_3_m1 hS]; first | done | omega)) (by first | assumption | (simp (disch := omega) only [up2_ne, up2_eq, nw_ne, nw_m1, nw_m2, nw_i, nw_q, st_1_m1 hS, st_1_1 hS, st_3_m2 hS, st_3_m1 hS]; first | done | rfl | omega)) rfl rfl ?_
          try simp (disch := omega) only [up2_ne, up2_eq, nw_ne, nw_m1, nw_m2, nw_i, nw_q, st_1_m1 hS, st_1_1 hS, st_3_m2 hS, st_3_m1 hS]
          refine wp_new1 (a := (110 + h 1 12)) (ci := 6) (b' := 294) (z := 7) rfl clX11_15 inX6 iniX6 dX11_reader_68 rfl (by omega) (hfr (by omega)) (Nat.le_of_ble_eq_true rfl) ?_
          refine wp_dup (by decide) dX11_reader_71 ?_
          refine wp_aload_n rfl rfl dX11_reader_72 ?_
          refine wp_getfield1 (z := 12) (kI := 12) fX11_132 dX11_reader_73 (by first | omega | (simp (disch := omega) only [up2_ne, up2_eq, nw_ne, nw_m1, nw_m2, nw_i, nw_q, st_1_m1 hS, st_1_1 hS, st_3_m2 hS, st_3_m1 hS]; first | done | omega)) (by first | assumption | (simp (disch := omega) only [up2_ne, up2_eq, nw_ne, nw_m1, nw_m2, nw_i, nw_q, st_1_m1 hS, st_1_1 hS, st_3_m2 hS, st_3_m1 hS]; first | done | rfl | omega)) rfl rfl ?_
          try simp (disch := omega) only [up2_ne, up2_eq, nw_ne, nw_m1, nw_m2, nw_i, nw_q, st_1_m1 hS, st_1_1 hS, st_3_m2 hS, st_3_m1 hS]
          refine wp_iload_n rfl rfl dX11_reader_76 ?_
          refine wp_iload_n rfl rfl dX11_reader_77 ?_
          refine wp_iload_n rfl rfl dX11_reader_78 ?_
          refine wp_cI4v okX6_init ⟨rfl, rfl⟩ wX11_135 dX11_reader_79 (Nat.le_of_ble_eq_true rfl) (Nat.le_of_ble_eq_true rfl) (by first | omega | (simp (disch := omega) only [up2_ne, up2_eq, nw_ne, nw_m1, nw_m2, nw_i, nw_q, st_1_m1 hS, st_1_1 hS, st_3_m2 hS, st_3_m1 hS]; first | done | omega)) (s_X6_init (by omega) nw_m1) (Nat.zero_le _) ?_
          try simp (disch := omega) only [up2_ne, up2_eq, nw_ne, nw_m1, nw_m2, nw_i, nw_q, st_1_m1 hS, st_1_1 hS, st_3_m2 hS, st_3_m1 hS]
          refine wp_aastore1 (ci := 6) dX11_reader_82 (by first | omega | (simp (disch := omega) only [up2_ne, up2_eq, nw_ne, nw_m1, nw_m2, nw_i, nw_q, st_1_m1 hS, st_1_1 hS, st_3_m2 hS, st_3_m1 hS]; first | done | omega)) (by first | assumption | (simp (disch := omega) only [up2_ne, up2_eq, nw_ne, nw_m1, nw_m2, nw_i, nw_q, st_1_m1 hS, st_1_1 hS, st_3_m2 hS, st_3_m1 hS]; first | done | rfl | omega)) (by first | omega | (simp (disch := omega) only [up2_ne, up2_eq, nw_ne, nw_m1, nw_m2, nw_i, nw_q, st_1_m1 hS, st_1_1 hS, st_3_m2 hS, st_3_m1 hS]; first | done | omega)) (by first | omega | (simp (disch := omega) only [up2_ne, up2_eq, nw_ne, nw_m1, nw_m2, nw_i, nw_q, st_1_m1 hS, st_1_1 hS, st_3_m2 hS, st_3_m1 hS]; first | done | omega)) (by first | omega | (simp (disch := omega) only [up2_ne, up2_eq, nw_ne, nw_m1, nw_m2, nw_i, nw_q, st_1_m1 hS, st_1_1 hS, st_3_m2 hS, st_3_m1 hS]; first | done | omega)) (by first | assumption | (simp (disch := omega) only [up2_ne, up2_eq, nw_ne, nw_m1, nw_m2, nw_i, nw_q, st_1_m1 hS, st_1_1 hS, st_3_m2 hS, st_3_m1 hS]; first | done | rfl | omega)) (by decide) ?_
          refine wp_aload_n rfl rfl dX11_reader_83 ?_
          refine wp_dup (by decide) dX11_reader_84 ?_
          refine wp_getfield1 (z := 12) (kI := 12) fX11_132 dX11_reader_85 (by first | omega | (simp (disch := omega) only [up2_ne, up2_eq, nw_ne, nw_m1, nw_m2, nw_i, nw_q, st_1_m1 hS, st_1_1 hS, st_3_m2 hS, st_3_m1 hS]; first | done | omega)) (by first | assumption | (simp (disch := omega) only [up2_ne, up2_eq, nw_ne, nw_m1, nw_m2, nw_i, nw_q, st_1_m1 hS, st_1_1 hS, st_3_m2 hS, st_3_m1 hS]; first | done | rfl | omega)) rfl rfl ?_
          try simp (disch := omega) only [up2_ne, up2_eq, nw_ne, nw_m1, nw_m2, nw_i, nw_q, st_1_m1 hS, st_1_1 hS, st_3_m2 hS, st_3_m1 hS]
          refine wp_iconst dX11_reader_88 ?_
          refine wp_iadd dX11_reader_89 ?_
          refine wp_putfield1 (z := 12) (kI := 12) fX11_132 dX11_reader_90 (by first | omega | (simp (disch := omega) only [up2_ne, up2_eq, nw_ne, nw_m1, nw_m2, nw_i, nw_q, st_1_m1 hS, st_1_1 hS, st_3_m2 hS, st_3_m1 hS]; first | done | omega)) (by first | assumption | (simp (disch := omega) only [up2_ne, up2_eq, nw_ne, nw_m1, nw_m2, nw_i, nw_q, st_1_m1 hS, st_1_1 hS, st_3_m2 hS, st_3_m1 hS]; first | done | rfl | omega)) rfl rfl ?_
          refine wp_aload_n rfl rfl dX11_reader_93 ?_
          refine wp_getfield1 (z := 12) (kI := 12) fX11_132 dX11_reader_94 (by first | omega | (simp (disch := omega) only [up2_ne, up2_eq, nw_ne, nw_m1, nw_m2, nw_i, nw_q, st_1_m1 hS, st_1_1 hS, st_3_m2 hS, st_3_m1 hS]; first | done | omega)) (by first | assumption | (simp (disch := omega) only [up2_ne, up2_eq, nw_ne, nw_m1, nw_m2, nw_i, nw_q, st_1_m1 hS, st_1_1 hS, st_3_m2 hS, st_3_m1 hS]; first | done | rfl | omega)) rfl rfl ?_
          try simp (disch := omega) only [up2_ne, up2_eq, nw_ne, nw_m1, nw_m2, nw_i, nw_q, st_1_m1 hS, st_1_1 hS, st_3_m2 hS, st_3_m1 hS]
          refine wp_iconst dX11_reader_97 ?_
          refine wp_isub dX11_reader_98 ?_
          refine wp_iret dX11_reader_99 rfl ?_
          first | exact Or.inl ⟨by omega, rfl, rfl⟩ | exact Or.inr (Or.inl ⟨by omega, by omega, rfl, rfl⟩) | exact Or.inr (Or.inr ⟨by omega, by omega, rfl, rfl⟩) | (exfalso; omega)
        · refine wp_bipush (by decide) dX11_reader_57 ?_
          refine wp_iret dX11_reader_59 rfl ?_
          first | exact Or.inl ⟨by omega, rfl, rfl⟩ | exact Or.inr (Or.inl ⟨by omega, by omega, rfl, rfl⟩) | exact Or.inr (Or.inr ⟨by omega, by omega, rfl, rfl⟩) | (exfalso; omega)
theorem s_X12_reader {u : gT} {h : mH} {d b : Nat} {t ho l : Int} (hS : St h) (i1 : InI t) (i2 : InI ho) (i3 : InI l) (n0 : 0 ≤ h 200 6) (n1 : h 200 6 ≤ 8) : Rlt (gX (gq u)) MX12_reader (d + 2) b [(2, 200), (0, t), (0, ho), (0, l)] h (fun r h1 => (¬ (0 ≤ t ∧ t ≤ 63 ∧ 0 ≤ ho ∧ ho ≤ 9 ∧ 1 ≤ l ∧ l ≤ 6) ∧ r = (0, -2) ∧ h1 = h) ∨ ((0 ≤ t ∧ t ≤ 63 ∧ 0 ≤ ho ∧ ho ≤ 9 ∧ 1 ≤ l ∧ l ≤ 6) ∧ 8 ≤ h 200 6 ∧ r = (0, -4) ∧ h1 = h) ∨ ((0 ≤ t ∧ t ≤ 63 ∧ 0 ≤ ho ∧ ho ≤ 9 ∧ 1 ≤ l ∧ l ≤ 6) ∧ h 200 6 < 8 ∧ r = (0, h 200 6 + 1 - 1) ∧ h1 = up2 (up2 (up2 (up2 h 207 (h 200 6) t) 208 (h 200 6) ho) 209 (h 200 6) l) 200 6 (h 200 6 + 1))) := by
  refine Rlt.of ?_
  show WP (gX (gq u)) MX12_reader (d + 2) b _ 0 [(2, 200), (0, t), (0, ho), (0, l)] [] h
  refine wp_iload_n rfl rfl dX12_reader_0 ?_
  refine wp_i2l (by first | assumption | exact bI_in _ | exact ⟨by omega, by omega⟩ | exact iAnd_in | exact iOr_in | exact iShr_in | exact iShl_in | exact iXor_in | exact hxs _) dX12_reader_1 ?_
  refine wp_lconst (v := 0) rfl dX12_reader_2 ?_
  refine wp_ldc2 kX12_13 dX12_reader_3 ?_
  refine wp_cS3 okX12_isIn wX12_15 dX12_reader_6 rfl (Nat.le_of_ble_eq_true rfl) (Nat.le_of_ble_eq_true rfl) (s_X12_isIn (by exact ⟨by have := i1.1; omega, by have := i1.2; omega⟩) (by exact ⟨by omega, by omega⟩) (by exact ⟨by omega, by omega⟩)) (Nat.zero_le _) ?_
  try simp (disch := omega) only [up2_ne, up2_eq, st_200_m1 hS, st_200_7 hS, st_200_8 hS, st_200_9 hS, st_207_m2 hS, st_207_m1 hS, st_208_m2 hS, st_208_m1 hS, st_209_m2 hS, st_209_m1 hS]
  refine wp_ifB_eq (tgt := 36) dX12_reader_9 (by decide) (fun c1 => ?_) (fun c1 => ?_)
  · refine wp_bipush (by decide) dX12_reader_36 ?_
    refine wp_iret dX12_reader_38 rfl ?_
    first | exact Or.inl ⟨by omega, rfl, rfl⟩ | exact Or.inr (Or.inl ⟨by omega, by omega, rfl, rfl⟩) | exact Or.inr (Or.inr ⟨by omega, by omega, rfl, rfl⟩) | (exfalso; omega)
  · refine wp_iload_n rfl rfl dX12_reader_12 ?_
    refine wp_i2l (by first | assumption | exact bI_in _ | exact ⟨by omega, by omega⟩ | exact iAnd_in | exact iOr_in | exact iShr_in | exact iShl_in | exact iXor_in | exact hxs _) dX12_reader_13 ?_
    refine wp_lconst (v := 0) rfl dX12_reader_14 ?_
    refine wp_ldc2 kX12_42 dX12_reader_15 ?_
    refine wp_cS3 okX12_isIn wX12_15 dX12_reader_18 rfl (Nat.le_of_ble_eq_true rfl) (Nat.le_of_ble_eq_true rfl) (s_X12_isIn (by exact ⟨by have := i2.1; omega, by have := i2.2; omega⟩) (by exact ⟨by omega, by omega⟩) (by exact ⟨by omega, by omega⟩)) (Nat.zero_le _) ?_
    try simp (disch := omega) only [up2_ne, up2_eq, st_200_m1 hS, st_200_7 hS, st_200_8 hS, st_200_9 hS, st_207_m2 hS, st_207_m1 hS, st_208_m2 hS, st_208_m1 hS, st_209_m2 hS, st_209_m1 hS]
    refine wp_ifB_eq (tgt := 36) dX12_reader_21 (by decide) (fun c2 => ?_) (fun c2 => ?_)
    · refine wp_bipush (by decide) dX12_reader_36 ?_
      refine wp_iret dX12_reader_38 rfl ?_
      first | exact Or.inl ⟨by omega, rfl, rfl⟩ | exact Or.inr (Or.inl ⟨by omega, by omega, rfl, rfl⟩) | exact Or.inr (Or.inr ⟨by omega, by omega, rfl, rfl⟩) | (exfalso; omega)
    · refine wp_iload_n rfl rfl dX12_reader_24 ?_
      refine wp_i2l (by first | assumption | exact bI_in _ | exact ⟨by omega, by omega⟩ | exact iAnd_in | exact iOr_in | exact iShr_in | exact iShl_in | exact iXor_in | exact hxs _) dX12_reader_25 ?_
      refine wp_lconst (v := 1) rfl dX12_reader_26 ?_
      refine wp_ldc2 kX12_44 dX12_reader_27 ?_
      refine wp_cS3 okX12_isIn wX12_15 dX12_reader_30 rfl (Nat.le_of_ble_eq_true rfl) (Nat.le_of_ble_eq_true rfl) (s_X12_isIn (by exact ⟨by have := i3.1; omega, by have := i3.2; omega⟩) (by exact ⟨by omega, by omega⟩) (by exact ⟨by omega, by omega⟩)) (Nat.zero_le _) ?_
      try simp (disch := omega) only [up2_ne, up2_eq, st_200_m1 hS, st_200_7 hS, st_200_8 hS, st_200_9 hS, st_207_m2 hS, st_207_m1 hS, st_208_m2 hS, st_208_m1 hS, st_209_m2 hS, st_209_m1 hS]
      refine wp_ifB_ne (tgt := 39) dX12_reader_33 (by decide) (fun c3 => ?_) (fun c3 => ?_)
      · refine wp_aload_n rfl rfl dX12_reader_39 ?_
        refine wp_getfield1 (z := 13) (kI := 6) fX12_7 dX12_reader_40 (by first | omega | (simp (disch := omega) only [up2_ne, up2_eq, st_200_m1 hS, st_200_7 hS, st_200_8 hS, st_200_9 hS, st_207_m2 hS, st_207_m1 hS, st_208_m2 hS, st_208_m1 hS, st_209_m2 hS, st_209_m1 hS]; first | done | omega)) (by first | assumption | (simp (disch := omega) only [up2_ne, up2_eq, st_200_m1 hS, st_200_7 hS, st_200_8 hS, st_200_9 hS, st_207_m2 hS, st_207_m1 hS, st_208_m2 hS, st_208_m1 hS, st_209_m2 hS, st_209_m1 hS]; first | done | rfl | omega)) rfl rfl ?_
        try simp (disch := omega) only [up2_ne, up2_eq, st_200_m1 hS, st_200_7 hS, st_200_8 hS, st_200_9 hS, st_207_m2 hS, st_207_m1 hS, st_208_m2 hS, st_208_m1 hS, st_209_m2 hS, st_209_m1 hS]
        refine wp_bipush (by decide) dX12_reader_43 ?_
        refine wp_icmp_ne (tgt := 51) (by first | assumption | exact bI_in _ | exact ⟨by omega, by omega⟩ | exact iAnd_in | exact iOr_in | exact iShr_in | exact iShl_in | exact iXor_in | exact hxs _) (by first | assumption | exact bI_in _ | exact ⟨by omega, by omega⟩ | exact iAnd_in | exact iOr_in | exact iShr_in | exact iShl_in | exact iXor_in | exact hxs _) dX12_reader_45 (by decide) (fun c4 => ?_) (fun c4 => ?_)
        · refine wp_aload_n rfl rfl dX12_reader_51 ?_
          refine wp_getfield1 (z := 13) (kI := 7) fX12_46 dX12_reader_52 (by first | omega | (simp (disch := omega) only [up2_ne, up2_eq, st_200_m1 hS, st_200_7 hS, st_200_8 hS, st_200_9 hS, st_207_m2 hS, st_207_m1 hS, st_208_m2 hS, st_208_m1 hS, st_209_m2 hS, st_209_m1 hS]; first | done | omega)) (by first | assumption | (simp (disch := omega) only [up2_ne, up2_eq, st_200_m1 hS, st_200_7 hS, st_200_8 hS, st_200_9 hS, st_207_m2 hS, st_207_m1 hS, st_208_m2 hS, st_208_m1 hS, st_209_m2 hS, st_209_m1 hS]; first | done | rfl | omega)) rfl rfl ?_
          try simp (disch := omega) only [up2_ne, up2_eq, st_200_m1 hS, st_200_7 hS, st_200_8 hS, st_200_9 hS, st_207_m2 hS, st_207_m1 hS, st_208_m2 hS, st_208_m1 hS, st_209_m2 hS, st_209_m1 hS]
          refine wp_aload_n rfl rfl dX12_reader_55 ?_
          refine wp_getfield1 (z := 13) (kI := 6) fX12_7 dX12_reader_56 (by first | omega | (simp (disch := omega) only [up2_ne, up2_eq, st_200_m1 hS, st_200_7 hS, st_200_8 hS, st_200_9 hS, st_207_m2 hS, st_207_m1 hS, st_208_m2 hS, st_208_m1 hS, st_209_m2 hS, st_209_m1 hS]; first | done | omega)) (by first | assumption | (simp (disch := omega) only [up2_ne, up2_eq, st_200_m1 hS, st_200_7 hS, st_200_8 hS, st_200_9 hS, st_207_m2 hS, st_207_m1 hS, st_208_m2 hS, st_208_m1 hS, st_209_m2 hS, st_209_m1 hS]; first | done | rfl | omega)) rfl rfl ?_
          try simp (disch := omega) only [up2_ne, up2_eq, st_200_m1 hS, st_200_7 hS, st_200_8 hS, st_200_9 hS, st_207_m2 hS, st_207_m1 hS, st_208_m2 hS, st_208_m1 hS, st_209_m2 hS, st_209_m1 hS]
          refine wp_iload_n rfl rfl dX12_reader_59 ?_
          refine wp_iastore1 dX12_reader_60 (by first | omega | (simp (disch := omega) only [up2_ne, up2_eq, st_200_m1 hS, st_200_7 hS, st_200_8 hS, st_200_9 hS, st_207_m2 hS, st_207_m1 hS, st_208_m2 hS, st_208_m1 hS, st_209_m2 hS, st_209_m1 hS]; first | done | omega)) (by first | assumption | (simp (disch := omega) only [up2_ne, up2_eq, st_200_m1 hS, st_200_7 hS, st_200_8 hS, st_200_9 hS, st_207_m2 hS, st_207_m1 hS, st_208_m2 hS, st_208_m1 hS, st_209_m2 hS, st_209_m1 hS]; first | done | rfl | omega)) (by first | omega | (simp (disch := omega) only [up2_ne, up2_eq, st_200_m1 hS, st_200_7 hS, st_200_8 hS, st_200_9 hS, st_207_m2 hS, st_207_m1 hS, st_208_m2 hS, st_208_m1 hS, st_209_m2 hS, st_209_m1 hS]; first | done | omega)) (by first | omega | (simp (disch := omega) only [up2_ne, up2_eq, st_200_m1 hS, st_200_7 hS, st_200_8 hS, st_200_9 hS, st_207_m2 hS, st_207_m1 hS, st_208_m2 hS, st_208_m1 hS, st_209_m2 hS, st_209_m1 hS]; first | done | omega)) ?_
          refine wp_aload_n rfl rfl dX12_reader_61 ?_
          refine wp_getfield1 (z := 13) (kI := 8) fX12_49 dX12_reader_62 (by first | omega | (simp (disch := omega) only [up2_ne, up2_eq, st_200_m1 hS, st_200_7 hS, st_200_8 hS, st_200_9 hS, st_207_m2 hS, st_207_m1 hS, st_208_m2 hS, st_208_m1 hS, st_209_m2 hS, st_209_m1 hS]; first | done | omega)) (by first | assumption | (simp (disch := omega) only [up2_ne, up2_eq, st_200_m1 hS, st_200_7 hS, st_200_8 hS, st_200_9 hS, st_207_m2 hS, st_207_m1 hS, st_208_m2 hS, st_208_m1 hS, st_209_m2 hS, st_209_m1 hS]; first | done | rfl | omega)) rfl rfl ?_
          try simp (disch := omega) only [up2_ne, up2_eq, st_200_m1 hS, st_200_7 hS, st_200_8 hS, st_200_9 hS, st_207_m2 hS, st_207_m1 hS, st_208_m2 hS, st_208_m1 hS, st_209_m2 hS, st_209_m1 hS]
          refine wp_aload_n rfl rfl dX12_reader_65 ?_
          refine wp_getfield1 (z := 13) (kI := 6) fX12_7 dX12_reader_66 (by first | omega | (simp (disch := omega) only [up2_ne, up2_eq, st_200_m1 hS, st_200_7 hS, st_200_8 hS, st_200_9 hS, st_207_m2 hS, st_207_m1 hS, st_208_m2 hS, st_208_m1 hS, st_209_m2 hS, st_209_m1 hS]; first | done | omega)) (by first | assumption | (simp (disch := omega) only [up2_ne, up2_eq, st_200_m1 hS, st_200_7 hS, st_200_8 hS, st_200_9 hS, st_207_m2 hS, st_207_m1 hS, st_208_m2 hS, st_208_m1 hS, st_209_m2 hS, st_209_m1 hS]; first | done | rfl | omega)) rfl rfl ?_
          try simp (disch := omega) only [up2_ne, up2_eq, st_200_m1 hS, st_200_7 hS, st_200_8 hS, st_200_9 hS, st_207_m2 hS, st_207_m1 hS, st_208_m2 hS, st_208_m1 hS, st_209_m2 hS, st_209_m1 hS]
          refine wp_iload_n rfl rfl dX12_reader_69 ?_
          refine wp_iastore1 dX12_reader_70 (by first | omega | (simp (disch := omega) only [up2_ne, up2_eq, st_200_m1 hS, st_200_7 hS, st_200_8 hS, st_200_9 hS, st_207_m2 hS, st_207_m1 hS, st_208_m2 hS, st_208_m1 hS, st_209_m2 hS, st_209_m1 hS]; first | done | omega)) (by first | assumption | (simp (disch := omega) only [up2_ne, up2_eq, st_200_m1 hS, st_200_7 hS, st_200_8 hS, st_200_9 hS, st_207_m2 hS, st_207_m1 hS, st_208_m2 hS, st_208_m1 hS, st_209_m2 hS, st_209_m1 hS]; first | done | rfl | omega)) (by first | omega | (simp (disch := omega) only [up2_ne, up2_eq, st_200_m1 hS, st_200_7 hS, st_200_8 hS, st_200_9 hS, st_207_m2 hS, st_207_m1 hS, st_208_m2 hS, st_208_m1 hS, st_209_m2 hS, st_209_m1 hS]; first | done | omega)) (by first | omega | (simp (disch := omega) only [up2_ne, up2_eq, st_200_m1 hS, st_200_7 hS, st_200_8 hS, st_200_9 hS, st_207_m2 hS, st_207_m1 hS, st_208_m2 hS, st_208_m1 hS, st_209_m2 hS, st_209_m1 hS]; first | done | omega)) ?_
          refine wp_aload_n rfl rfl dX12_reader_71 ?_
          refine wp_getfield1 (z := 13) (kI := 9) fX12_52 dX12_reader_72 (by first | omega | (simp (disch := omega) only [up2_ne, up2_eq, st_200_m1 hS, st_200_7 hS, st_200_8 hS, st_200_9 hS, st_207_m2 hS, st_207_m1 hS, st_208_m2 hS, st_208_m1 hS, st_209_m2 hS, st_209_m1 hS]; first | done | omega)) (by first | assumption | (simp (disch := omega) only [up2_ne, up2_eq, st_200_m1 hS, st_200_7 hS, st_200_8 hS, st_200_9 hS, st_207_m2 hS, st_207_m1 hS, st_208_m2 hS, st_208_m1 hS, st_209_m2 hS, st_209_m1 hS]; first | done | rfl | omega)) rfl rfl ?_
          try simp (disch := omega) only [up2_ne, up2_eq, st_200_m1 hS, st_200_7 hS, st_200_8 hS, st_200_9 hS, st_207_m2 hS, st_207_m1 hS, st_208_m2 hS, st_208_m1 hS, st_209_m2 hS, st_209_m1 hS]
          refine wp_aload_n rfl rfl dX12_reader_75 ?_
          refine wp_getfield1 (z := 13) (kI := 6) fX12_7 dX12_reader_76 (by first | omega | (simp (disch := omega) only [up2_ne, up2_eq, st_200_m1 hS, st_200_7 hS, st_200_8 hS, st_200_9 hS, st_207_m2 hS, st_207_m1 hS, st_208_m2 hS, st_208_m1 hS, st_209_m2 hS, st_209_m1 hS]; first | done | omega)) (by first | assumption | (simp (disch := omega) only [up2_ne, up2_eq, st_200_m1 hS, st_200_7 hS, st_200_8 hS, st_200_9 hS, st_207_m2 hS, st_207_m1 hS, st_208_m2 hS, st_208_m1 hS, st_209_m2 hS, st_209_m1 hS]; first | done | rfl | omega)) rfl rfl ?_
          try simp (disch := omega) only [up2_ne, up2_eq, st_200_m1 hS, st_200_7 hS, st_200_8 hS, st_200_9 hS, st_207_m2 hS, st_207_m1 hS, st_208_m2 hS, st_208_m1 hS, st_209_m2 hS, st_209_m1 hS]
          refine wp_iload_n rfl rfl dX12_reader_79 ?_
          refine wp_iastore1 dX12_reader_80 (by first | omega | (simp (disch := omega) only [up2_ne, up2_eq, st_200_m1 hS, st_200_7 hS, st_200_8 hS, st_200_9 hS, st_207_m2 hS, st_207_m1 hS, st_208_m2 hS, st_208_m1 hS, st_209_m2 hS, st_209_m1 hS]; first | done | omega)) (by first | assumption | (simp (disch := omega) only [up2_ne, up2_eq, st_200_m1 hS, st_200_7 hS, st_200_8 hS, st_200_9 hS, st_207_m2 hS, st_207_m1 hS, st_208_m2 hS, st_208_m1 hS, st_209_m2 hS, st_209_m1 hS]; first | done | rfl | omega)) (by first | omega | (simp (disch := omega) only [up2_ne, up2_eq, st_200_m1 hS, st_200_7 hS, st_200_8 hS, st_200_9 hS, st_207_m2 hS, st_207_m1 hS, st_208_m2 hS, st_208_m1 hS, st_209_m2 hS, st_209_m1 hS]; first | done | omega)) (by first | omega | (simp (disch := omega) only [up2_ne, up2_eq, st_200_m1 hS, st_200_7 hS, st_200_8 hS, st_200_9 hS, st_207_m2 hS, st_207_m1 hS, st_208_m2 hS, st_208_m1 hS, st_209_m2 hS, st_209_m1 hS]; first | done | omega)) ?_
          refine wp_aload_n rfl rfl dX12_reader_81 ?_
          refine wp_dup (by decide) dX12_reader_82 ?_
          refine wp_getfield1 (z := 13) (kI := 6) fX12_7 dX12_reader_83 (by first | omega | (simp (disch := omega) only [up2_ne, up2_eq, st_200_m1 hS, st_200_7 hS, st_200_8 hS, st_200_9 hS, st_207_m2 hS, st_207_m1 hS, st_208_m2 hS, st_208_m1 hS, st_209_m2 hS, st_209_m1 hS]; first | done | omega)) (by first | assumption | (simp (disch := omega) only [up2_ne, up2_eq, st_200_m1 hS, st_200_7 hS, st_200_8 hS, st_200_9 hS, st_207_m2 hS, st_207_m1 hS, st_208_m2 hS, st_208_m1 hS, st_209_m2 hS, st_209_m1 hS]; first | done | rfl | omega)) rfl rfl ?_
          try simp (disch := omega) only [up2_ne, up2_eq, st_200_m1 hS, st_200_7 hS, st_200_8 hS, st_200_9 hS, st_207_m2 hS, st_207_m1 hS, st_208_m2 hS, st_208_m1 hS, st_209_m2 hS, st_209_m1 hS]
          refine wp_iconst dX12_reader_86 ?_
          refine wp_iadd dX12_reader_87 ?_
          refine wp_putfield1 (z := 13) (kI := 6) fX12_7 dX12_reader_88 (by first | omega | (simp (disch := omega) only [up2_ne, up2_eq, st_200_m1 hS, st_200_7 hS, st_200_8 hS, st_200_9 hS, st_207_m2 hS, st_207_m1 hS, st_208_m2 hS, st_208_m1 hS, st_209_m2 hS, st_209_m1 hS]; first | done | omega)) (by first | assumption | (simp (disch := omega) only [up2_ne, up2_eq, st_200_m1 hS, st_200_7 hS, st_200_8 hS, st_200_9 hS, st_207_m2 hS, st_207_m1 hS, st_208_m2 hS, st_208_m1 hS, st_209_m2 hS, st_209_m1 hS]; first | done | rfl | omega)) rfl rfl ?_
          refine wp_aload_n rfl rfl dX12_reader_91 ?_
          refine wp_getfield1 (z := 13) (kI := 6) fX12_7 dX12_reader_92 (by first | omega | (simp (disch := omega) only [up2_ne, up2_eq, st_200_m1 hS, st_200_7 hS, st_200_8 hS, st_200_9 hS, st_207_m2 hS, st_207_m1 hS, st_208_m2 hS, st_208_m1 hS, st_209_m2 hS, st_209_m1 hS]; first | done | omega)) (by first | assumption | (simp (disch := omega) only [up2_ne, up2_eq, st_200_m1 hS, st_200_7 hS, st_200_8 hS, st_200_9 hS, st_207_m2 hS, st_207_m1 hS, st_208_m2 hS, st_208_m1 hS, st_209_m2 hS, st_209_m1 hS]; first | done | rfl | omega)) rfl rfl ?_
          try simp (disch := omega) only [up2_ne, up2_eq, st_200_m1 hS, st_200_7 hS, st_200_8 hS, st_200_9 hS, st_207_m2 hS, st_207_m1 hS, st_208_m2 hS, st_208_m1 hS, st_209_m2 hS, st_209_m1 hS]
          refine wp_iconst dX12_reader_95 ?_
          refine wp_isub dX12_reader_96 ?_
          refine wp_iret dX12_reader_97 rfl ?_
          first | exact Or.inl ⟨by omega, rfl, rfl⟩ | exact Or.inr (Or.inl ⟨by omega, by omega, rfl, rfl⟩) | exact Or.inr (Or.inr ⟨by omega, by omega, rfl, rfl⟩) | (exfalso; omega)
        · refine wp_bipush (by decide) dX12_reader_48 ?_
          refine wp_iret dX12_reader_50 rfl ?_
          first | exact Or.inl ⟨by omega, rfl, rfl⟩ | exact Or.inr (Or.inl ⟨by omega, by omega, rfl, rfl⟩) | exact Or.inr (Or.inr ⟨by omega, by omega, rfl, rfl⟩) | (exfalso; omega)
      · refine wp_bipush (by decide) dX12_reader_36 ?_
        refine wp_iret dX12_reader_38 rfl ?_
        first | exact Or.inl ⟨by omega, rfl, rfl⟩ | exact Or.inr (Or.inl ⟨by omega, by omega, rfl, rfl⟩) | exact Or.inr (Or.inr ⟨by omega, by omega, rfl, rfl⟩) | (exfalso; omega)
theorem s_X11_force {u : gT} {h : mH} {d b : Nat} {t : Int} (hS : St h) (i1 : InI t) (n0 : 0 ≤ h 1 14) (n1 : h 1 14 ≤ 6) : Rlt (gX (gq u)) MX11_force (d + 2) b [(2, 1), (0, t)] h (fun r h1 => (¬ (0 ≤ t ∧ t < h 1 14) ∧ r = (0, -2) ∧ h1 = h) ∨ ((0 ≤ t ∧ t < h 1 14) ∧ r = (0, h 1 15) ∧ h1 = up2 h 1 15 t)) := by
  refine Rlt.of ?_
  show WP (gX (gq u)) MX11_force (d + 2) b _ 0 [(2, 1), (0, t), (9, 0)] [] h
  refine wp_iload_n rfl rfl dX11_force_0 ?_
  refine wp_iconst dX11_force_1 ?_
  refine wp_aload_n rfl rfl dX11_force_2 ?_
  refine wp_getfield1 (z := 12) (kI := 14) fX11_82 dX11_force_3 (by first | omega | (simp (disch := omega) only [up2_ne, up2_eq, st_1_m1 hS]; first | done | omega)) (by first | assumption | (simp (disch := omega) only [up2_ne, up2_eq, st_1_m1 hS]; first | done | rfl | omega)) rfl rfl ?_
  try simp (disch := omega) only [up2_ne, up2_eq, st_1_m1 hS]
  refine wp_iconst dX11_force_6 ?_
  refine wp_isub dX11_force_7 ?_
  refine wp_cS3 okX11_isWithin wX11_98 dX11_force_8 rfl (Nat.le_of_ble_eq_true rfl) (Nat.le_of_ble_eq_true rfl) (s_X11_isWithin (by first | assumption | exact ⟨by omega, by omega⟩) (by exact ⟨by omega, by omega⟩) (by exact ⟨by omega, by omega⟩)) (Nat.zero_le _) ?_
  try simp (disch := omega) only [up2_ne, up2_eq, st_1_m1 hS]
  refine wp_ifB_ne (tgt := 17) dX11_force_11 (by decide) (fun c1 => ?_) (fun c1 => ?_)
  · refine wp_aload_n rfl rfl dX11_force_17 ?_
    refine wp_getfield1 (z := 12) (kI := 15) fX11_165 dX11_force_18 (by first | omega | (simp (disch := omega) only [up2_ne, up2_eq, st_1_m1 hS]; first | done | omega)) (by first | assumption | (simp (disch := omega) only [up2_ne, up2_eq, st_1_m1 hS]; first | done | rfl | omega)) rfl rfl ?_
    try simp (disch := omega) only [up2_ne, up2_eq, st_1_m1 hS]
    refine wp_istore_n rfl dX11_force_21 rfl (Nat.le_of_ble_eq_true rfl) rfl ?_
    try simp only [List.set_cons_zero, List.set_cons_succ]
    refine wp_aload_n rfl rfl dX11_force_22 ?_
    refine wp_iload_n rfl rfl dX11_force_23 ?_
    refine wp_putfield1 (z := 12) (kI := 15) fX11_165 dX11_force_24 (by first | omega | (simp (disch := omega) only [up2_ne, up2_eq, st_1_m1 hS]; first | done | omega)) (by first | assumption | (simp (disch := omega) only [up2_ne, up2_eq, st_1_m1 hS]; first | done | rfl | omega)) rfl rfl ?_
    refine wp_iload_n rfl rfl dX11_force_27 ?_
    refine wp_iret dX11_force_28 rfl ?_
    first | exact Or.inl ⟨by omega, rfl, rfl⟩ | exact Or.inr ⟨by omega, rfl, rfl⟩
  · refine wp_bipush (by decide) dX11_force_14 ?_
    refine wp_iret dX11_force_16 rfl ?_
    first | exact Or.inl ⟨by omega, rfl, rfl⟩ | exact Or.inr ⟨by omega, rfl, rfl⟩
theorem s_X12_force {u : gT} {h : mH} {d b : Nat} {t : Int} (hS : St h) (i1 : InI t) (n0 : 0 ≤ h 200 30) (n1 : h 200 30 ≤ 6) : Rlt (gX (gq u)) MX12_force d b [(2, 200), (0, t)] h (fun r h1 => (¬ (0 ≤ t ∧ t < h 200 30) ∧ r = (0, -2) ∧ h1 = h) ∨ ((0 ≤ t ∧ t < h 200 30) ∧ r = (0, h 200 31) ∧ h1 = up2 h 200 31 t)) := by
  refine Rlt.of ?_
  show WP (gX (gq u)) MX12_force d b _ 0 [(2, 200), (0, t), (9, 0)] [] h
  refine wp_iload_n rfl rfl dX12_force_0 ?_
  refine wp_if_lt (tgt := 12) (by first | assumption | exact bI_in _ | exact ⟨by omega, by omega⟩ | exact iAnd_in | exact iOr_in | exact iShr_in | exact iShl_in | exact iXor_in | exact hxs _) dX12_force_1 (by decide) (fun c1 => ?_) (fun c1 => ?_)
  · refine wp_bipush (by decide) dX12_force_12 ?_
    refine wp_iret dX12_force_14 rfl ?_
    first | exact Or.inl ⟨by omega, rfl, rfl⟩ | exact Or.inr ⟨by omega, rfl, rfl⟩
  · refine wp_iload_n rfl rfl dX12_force_4 ?_
    refine wp_aload_n rfl rfl dX12_force_5 ?_
    refine wp_getfield1 (z := 13) (kI := 30) fX12_211 dX12_force_6 (by first | omega | (simp (disch := omega) only [up2_ne, up2_eq, st_200_m1 hS]; first | done | omega)) (by first | assumption | (simp (disch := omega) only [up2_ne, up2_eq, st_200_m1 hS]; first | done | rfl | omega)) rfl rfl ?_
    try simp (disch := omega) only [up2_ne, up2_eq, st_200_m1 hS]
    refine wp_icmp_lt (tgt := 15) (by first | assumption | exact bI_in _ | exact ⟨by omega, by omega⟩ | exact iAnd_in | exact iOr_in | exact iShr_in | exact iShl_in | exact iXor_in | exact hxs _) (by first | assumption | exact bI_in _ | exact ⟨by omega, by omega⟩ | exact iAnd_in | exact iOr_in | exact iShr_in | exact iShl_in | exact iXor_in | exact hxs _) dX12_force_9 (by decide) (fun c2 => ?_) (fun c2 => ?_)
    · refine wp_aload_n rfl rfl dX12_force_15 ?_
      refine wp_getfield1 (z := 13) (kI := 31) fX12_75 dX12_force_16 (by first | omega | (simp (disch := omega) only [up2_ne, up2_eq, st_200_m1 hS]; first | done | omega)) (by first | assumption | (simp (disch := omega) only [up2_ne, up2_eq, st_200_m1 hS]; first | done | rfl | omega)) rfl rfl ?_
      try simp (disch := omega) only [up2_ne, up2_eq, st_200_m1 hS]
      refine wp_istore_n rfl dX12_force_19 rfl (Nat.le_of_ble_eq_true rfl) rfl ?_
      try simp only [List.set_cons_zero, List.set_cons_succ]
      refine wp_aload_n rfl rfl dX12_force_20 ?_
      refine wp_iload_n rfl rfl dX12_force_21 ?_
      refine wp_putfield1 (z := 13) (kI := 31) fX12_75 dX12_force_22 (by first | omega | (simp (disch := omega) only [up2_ne, up2_eq, st_200_m1 hS]; first | done | omega)) (by first | assumption | (simp (disch := omega) only [up2_ne, up2_eq, st_200_m1 hS]; first | done | rfl | omega)) rfl rfl ?_
      refine wp_iload_n rfl rfl dX12_force_25 ?_
      refine wp_iret dX12_force_26 rfl ?_
      first | exact Or.inl ⟨by omega, rfl, rfl⟩ | exact Or.inr ⟨by omega, rfl, rfl⟩
    · refine wp_bipush (by decide) dX12_force_12 ?_
      refine wp_iret dX12_force_14 rfl ?_
      first | exact Or.inl ⟨by omega, rfl, rfl⟩ | exact Or.inr ⟨by omega, rfl, rfl⟩
