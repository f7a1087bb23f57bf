/-! ===== choose: the class ===== -/
theorem s_X1_start {u : gT} {g : mH} {d b : Nat} {L : Int} (gS : St g) : Det (gX (gq u)) MX1_start d b [(2, 11), (0, L)] g (9, 0) (up2 (up2 (up2 (up2 (up2 g 11 7 L) 11 6 0) 11 8 0) 11 9 0) 11 10 0) := by
  intro Q hQ
  show WP (gX (gq u)) MX1_start d b Q 0 [(2, 11), (0, L)] [] g
  refine wp_aload_n rfl rfl dX1_start_0 ?_
  refine wp_iload_n rfl rfl dX1_start_1 ?_
  refine wp_putfield1 (z := 2) (kI := 7) fX1_30 dX1_start_2 (by first | omega | (simp (disch := omega) only [up2_ne, up2_eq, st_11_m1 gS]; first | done | omega)) (by first | assumption | (simp (disch := omega) only [up2_ne, up2_eq, st_11_m1 gS]; first | done | rfl | omega)) rfl rfl ?_
  refine wp_aload_n rfl rfl dX1_start_5 ?_
  refine wp_iconst dX1_start_6 ?_
  refine wp_putfield1 (z := 2) (kI := 6) fX1_34 dX1_start_7 (by first | omega | (simp (disch := omega) only [up2_ne, up2_eq, st_11_m1 gS]; first | done | omega)) (by first | assumption | (simp (disch := omega) only [up2_ne, up2_eq, st_11_m1 gS]; first | done | rfl | omega)) rfl rfl ?_
  refine wp_aload_n rfl rfl dX1_start_10 ?_
  refine wp_iconst dX1_start_11 ?_
  refine wp_putfield1 (z := 2) (kI := 8) fX1_37 dX1_start_12 (by first | omega | (simp (disch := omega) only [up2_ne, up2_eq, st_11_m1 gS]; first | done | omega)) (by first | assumption | (simp (disch := omega) only [up2_ne, up2_eq, st_11_m1 gS]; first | done | rfl | omega)) rfl rfl ?_
  refine wp_aload_n rfl rfl dX1_start_15 ?_
  refine wp_iconst dX1_start_16 ?_
  refine wp_putfield1 (z := 2) (kI := 9) fX1_40 dX1_start_17 (by first | omega | (simp (disch := omega) only [up2_ne, up2_eq, st_11_m1 gS]; first | done | omega)) (by first | assumption | (simp (disch := omega) only [up2_ne, up2_eq, st_11_m1 gS]; first | done | rfl | omega)) rfl rfl ?_
  refine wp_aload_n rfl rfl dX1_start_20 ?_
  refine wp_iconst dX1_start_21 ?_
  refine wp_putfield1 (z := 2) (kI := 10) fX1_43 dX1_start_22 (by first | omega | (simp (disch := omega) only [up2_ne, up2_eq, st_11_m1 gS]; first | done | omega)) (by first | assumption | (simp (disch := omega) only [up2_ne, up2_eq, st_11_m1 gS]; first | done | rfl | omega)) rfl rfl ?_
  refine wp_vret dX1_start_25 rfl ?_
  exact hQ
theorem s_X1_add {u : gT} {g : mH} {d b : Nat} {L n a s w : Int} (gS : St g) (h6 : g 11 6 = n) (h7 : g 11 7 = L) (n0 : 0 ≤ n) (n1 : n < 14) (iL : InI L) (is : InI s) (iw : InI w) : Rlt (gX (gq u)) MX1_add d b [(2, 11), (0, a), (0, s), (0, w)] g (fun r h1 => r = (9, 0) ∧ (((0 < w ∧ s ≤ L) ∧ h1 = up2 (up2 (up2 (up2 g 19 n a) 20 n s) 21 n w) 11 6 (n + 1)) ∨ (¬ (0 < w ∧ s ≤ L) ∧ h1 = g))) := by
  refine Rlt.of ?_
  show WP (gX (gq u)) MX1_add d b _ 0 [(2, 11), (0, a), (0, s), (0, w)] [] g
  refine wp_iload_n rfl rfl dX1_add_0 ?_
  refine wp_if_le (tgt := 61) (by first | assumption | exact bI_in _ | exact ⟨by omega, by omega⟩ | exact iAnd_in | exact iOr_in | exact iShr_in | exact iShl_in | exact iXor_in | exact hxs _) dX1_add_1 (by decide) (fun c1 => ?_) (fun c1 => ?_)
  · refine wp_vret dX1_add_61 rfl ?_
    first
      | (exfalso; omega)
      | exact ⟨rfl, Or.inl ⟨by omega, rfl⟩⟩
      | exact ⟨rfl, Or.inr ⟨by omega, rfl⟩⟩
  · refine wp_iload_n rfl rfl dX1_add_4 ?_
    refine wp_aload_n rfl rfl dX1_add_5 ?_
    refine wp_getfield1 (z := 2) (kI := 7) fX1_30 dX1_add_6 (by first | omega | (simp (disch := omega) only [up2_ne, up2_eq, h6, h7, st_11_m1 gS, st_11_0 gS, st_11_1 gS, st_11_2 gS, st_19_m2 gS, st_19_m1 gS, st_20_m2 gS, st_20_m1 gS, st_21_m2 gS, st_21_m1 gS]; first | done | omega)) (by first | assumption | (simp (disch := omega) only [up2_ne, up2_eq, h6, h7, st_11_m1 gS, st_11_0 gS, st_11_1 gS, st_11_2 gS, st_19_m2 gS, st_19_m1 gS, st_20_m2 gS, st_20_m1 gS, st_21_m2 gS, st_21_m1 gS]; first | done | rfl | omega)) rfl rfl ?_
    try simp (disch := omega) only [up2_ne, up2_eq, h6, h7, st_11_m1 gS, st_11_0 gS, st_11_1 gS, st_11_2 gS, st_19_m2 gS, st_19_m1 gS, st_20_m2 gS, st_20_m1 gS, st_21_m2 gS, st_21_m1 gS]
    refine wp_icmp_gt (tgt := 61) (by first | assumption | exact bI_in _ | exact ⟨by omega, by omega⟩ | exact iAnd_in | exact iOr_in | exact iShr_in | exact iShl_in | exact iXor_in | exact hxs _) (by first | assumption | exact bI_in _ | exact ⟨by omega, by omega⟩ | exact iAnd_in | exact iOr_in | exact iShr_in | exact iShl_in | exact iXor_in | exact hxs _) dX1_add_9 (by decide) (fun c2 => ?_) (fun c2 => ?_)
    · refine wp_vret dX1_add_61 rfl ?_
      first
        | (exfalso; omega)
        | exact ⟨rfl, Or.inl ⟨by omega, rfl⟩⟩
        | exact ⟨rfl, Or.inr ⟨by omega, rfl⟩⟩
    · refine wp_aload_n rfl rfl dX1_add_12 ?_
      refine wp_getfield1 (z := 2) (kI := 6) fX1_34 dX1_add_13 (by first | omega | (simp (disch := omega) only [up2_ne, up2_eq, h6, h7, st_11_m1 gS, st_11_0 gS, st_11_1 gS, st_11_2 gS, st_19_m2 gS, st_19_m1 gS, st_20_m2 gS, st_20_m1 gS, st_21_m2 gS, st_21_m1 gS]; first | done | omega)) (by first | assumption | (simp (disch := omega) only [up2_ne, up2_eq, h6, h7, st_11_m1 gS, st_11_0 gS, st_11_1 gS, st_11_2 gS, st_19_m2 gS, st_19_m1 gS, st_20_m2 gS, st_20_m1 gS, st_21_m2 gS, st_21_m1 gS]; first | done | rfl | omega)) rfl rfl ?_
      try simp (disch := omega) only [up2_ne, up2_eq, h6, h7, st_11_m1 gS, st_11_0 gS, st_11_1 gS, st_11_2 gS, st_19_m2 gS, st_19_m1 gS, st_20_m2 gS, st_20_m1 gS, st_21_m2 gS, st_21_m1 gS]
      refine wp_bipush (by decide) dX1_add_16 ?_
      refine wp_icmp_ge (tgt := 61) (by first | assumption | exact bI_in _ | exact ⟨by omega, by omega⟩ | exact iAnd_in | exact iOr_in | exact iShr_in | exact iShl_in | exact iXor_in | exact hxs _) (by first | assumption | exact bI_in _ | exact ⟨by omega, by omega⟩ | exact iAnd_in | exact iOr_in | exact iShr_in | exact iShl_in | exact iXor_in | exact hxs _) dX1_add_18 (by decide) (fun c3 => ?_) (fun c3 => ?_)
      · refine wp_vret dX1_add_61 rfl ?_
        first
          | (exfalso; omega)
          | exact ⟨rfl, Or.inl ⟨by omega, rfl⟩⟩
          | exact ⟨rfl, Or.inr ⟨by omega, rfl⟩⟩
      · refine wp_aload_n rfl rfl dX1_add_21 ?_
        refine wp_getfield1 (z := 2) (kI := 0) fX1_9 dX1_add_22 (by first | omega | (simp (disch := omega) only [up2_ne, up2_eq, h6, h7, st_11_m1 gS, st_11_0 gS, st_11_1 gS, st_11_2 gS, st_19_m2 gS, st_19_m1 gS, st_20_m2 gS, st_20_m1 gS, st_21_m2 gS, st_21_m1 gS]; first | done | omega)) (by first | assumption | (simp (disch := omega) only [up2_ne, up2_eq, h6, h7, st_11_m1 gS, st_11_0 gS, st_11_1 gS, st_11_2 gS, st_19_m2 gS, st_19_m1 gS, st_20_m2 gS, st_20_m1 gS, st_21_m2 gS, st_21_m1 gS]; first | done | rfl | omega)) rfl rfl ?_
        try simp (disch := omega) only [up2_ne, up2_eq, h6, h7, st_11_m1 gS, st_11_0 gS, st_11_1 gS, st_11_2 gS, st_19_m2 gS, st_19_m1 gS, st_20_m2 gS, st_20_m1 gS, st_21_m2 gS, st_21_m1 gS]
        refine wp_aload_n rfl rfl dX1_add_25 ?_
        refine wp_getfield1 (z := 2) (kI := 6) fX1_34 dX1_add_26 (by first | omega | (simp (disch := omega) only [up2_ne, up2_eq, h6, h7, st_11_m1 gS, st_11_0 gS, st_11_1 gS, st_11_2 gS, st_19_m2 gS, st_19_m1 gS, st_20_m2 gS, st_20_m1 gS, st_21_m2 gS, st_21_m1 gS]; first | done | omega)) (by first | assumption | (simp (disch := omega) only [up2_ne, up2_eq, h6, h7, st_11_m1 gS, st_11_0 gS, st_11_1 gS, st_11_2 gS, st_19_m2 gS, st_19_m1 gS, st_20_m2 gS, st_20_m1 gS, st_21_m2 gS, st_21_m1 gS]; first | done | rfl | omega)) rfl rfl ?_
        try simp (disch := omega) only [up2_ne, up2_eq, h6, h7, st_11_m1 gS, st_11_0 gS, st_11_1 gS, st_11_2 gS, st_19_m2 gS, st_19_m1 gS, st_20_m2 gS, st_20_m1 gS, st_21_m2 gS, st_21_m1 gS]
        refine wp_iload_n rfl rfl dX1_add_29 ?_
        refine wp_iastore1 dX1_add_30 (by first | omega | (simp (disch := omega) only [up2_ne, up2_eq, h6, h7, st_11_m1 gS, st_11_0 gS, st_11_1 gS, st_11_2 gS, st_19_m2 gS, st_19_m1 gS, st_20_m2 gS, st_20_m1 gS, st_21_m2 gS, st_21_m1 gS]; first | done | omega)) (by first | assumption | (simp (disch := omega) only [up2_ne, up2_eq, h6, h7, st_11_m1 gS, st_11_0 gS, st_11_1 gS, st_11_2 gS, st_19_m2 gS, st_19_m1 gS, st_20_m2 gS, st_20_m1 gS, st_21_m2 gS, st_21_m1 gS]; first | done | rfl | omega)) (by first | omega | (simp (disch := omega) only [up2_ne, up2_eq, h6, h7, st_11_m1 gS, st_11_0 gS, st_11_1 gS, st_11_2 gS, st_19_m2 gS, st_19_m1 gS, st_20_m2 gS, st_20_m1 gS, st_21_m2 gS, st_21_m1 gS]; first | done | omega)) (by first | omega | (simp (disch := omega) only [up2_ne, up2_eq, h6, h7, st_11_m1 gS, st_11_0 gS, st_11_1 gS, st_11_2 gS, st_19_m2 gS, st_19_m1 gS, st_20_m2 gS, st_20_m1 gS, st_21_m2 gS, st_21_m1 gS]; first | done | omega)) ?_
        refine wp_aload_n rfl rfl dX1_add_31 ?_
        refine wp_getfield1 (z := 2) (kI := 1) fX1_15 dX1_add_32 (by first | omega | (simp (disch := omega) only [up2_ne, up2_eq, h6, h7, st_11_m1 gS, st_11_0 gS, st_11_1 gS, st_11_2 gS, st_19_m2 gS, st_19_m1 gS, st_20_m2 gS, st_20_m1 gS, st_21_m2 gS, st_21_m1 gS]; first | done | omega)) (by first | assumption | (simp (disch := omega) only [up2_ne, up2_eq, h6, h7, st_11_m1 gS, st_11_0 gS, st_11_1 gS, st_11_2 gS, st_19_m2 gS, st_19_m1 gS, st_20_m2 gS, st_20_m1 gS, st_21_m2 gS, st_21_m1 gS]; first | done | rfl | omega)) rfl rfl ?_
        try simp (disch := omega) only [up2_ne, up2_eq, h6, h7, st_11_m1 gS, st_11_0 gS, st_11_1 gS, st_11_2 gS, st_19_m2 gS, st_19_m1 gS, st_20_m2 gS, st_20_m1 gS, st_21_m2 gS, st_21_m1 gS]
        refine wp_aload_n rfl rfl dX1_add_35 ?_
        refine wp_getfield1 (z := 2) (kI := 6) fX1_34 dX1_add_36 (by first | omega | (simp (disch := omega) only [up2_ne, up2_eq, h6, h7, st_11_m1 gS, st_11_0 gS, st_11_1 gS, st_11_2 gS, st_19_m2 gS, st_19_m1 gS, st_20_m2 gS, st_20_m1 gS, st_21_m2 gS, st_21_m1 gS]; first | done | omega)) (by first | assumption | (simp (disch := omega) only [up2_ne, up2_eq, h6, h7, st_11_m1 gS, st_11_0 gS, st_11_1 gS, st_11_2 gS, st_19_m2 gS, st_19_m1 gS, st_20_m2 gS, st_20_m1 gS, st_21_m2 gS, st_21_m1 gS]; first | done | rfl | omega)) rfl rfl ?_
        try simp (disch := omega) only [up2_ne, up2_eq, h6, h7, st_11_m1 gS, st_11_0 gS, st_11_1 gS, st_11_2 gS, st_19_m2 gS, st_19_m1 gS, st_20_m2 gS, st_20_m1 gS, st_21_m2 gS, st_21_m1 gS]
        refine wp_iload_n rfl rfl dX1_add_39 ?_
        refine wp_iastore1 dX1_add_40 (by first | omega | (simp (disch := omega) only [up2_ne, up2_eq, h6, h7, st_11_m1 gS, st_11_0 gS, st_11_1 gS, st_11_2 gS, st_19_m2 gS, st_19_m1 gS, st_20_m2 gS, st_20_m1 gS, st_21_m2 gS, st_21_m1 gS]; first | done | omega)) (by first | assumption | (simp (disch := omega) only [up2_ne, up2_eq, h6, h7, st_11_m1 gS, st_11_0 gS, st_11_1 gS, st_11_2 gS, st_19_m2 gS, st_19_m1 gS, st_20_m2 gS, st_20_m1 gS, st_21_m2 gS, st_21_m1 gS]; first | done | rfl | omega)) (by first | omega | (simp (disch := omega) only [up2_ne, up2_eq, h6, h7, st_11_m1 gS, st_11_0 gS, st_11_1 gS, st_11_2 gS, st_19_m2 gS, st_19_m1 gS, st_20_m2 gS, st_20_m1 gS, st_21_m2 gS, st_21_m1 gS]; first | done | omega)) (by first | omega | (simp (disch := omega) only [up2_ne, up2_eq, h6, h7, st_11_m1 gS, st_11_0 gS, st_11_1 gS, st_11_2 gS, st_19_m2 gS, st_19_m1 gS, st_20_m2 gS, st_20_m1 gS, st_21_m2 gS, st_21_m1 gS]; first | done | omega)) ?_
        refine wp_aload_n rfl rfl dX1_add_41 ?_
        refine wp_getfield1 (z := 2) (kI := 2) fX1_18 dX1_add_42 (by first | omega | (simp (disch := omega) only [up2_ne, up2_eq, h6, h7, st_11_m1 gS, st_11_0 gS, st_11_1 gS, st_11_2 gS, st_19_m2 gS, st_19_m1 gS, st_20_m2 gS, st_20_m1 gS, st_21_m2 gS, st_21_m1 gS]; first | done | omega)) (by first | assumption | (simp (disch := omega) only [up2_ne, up2_eq, h6, h7, st_11_m1 gS, st_11_0 gS, st_11_1 gS, st_11_2 gS, st_19_m2 gS, st_19_m1 gS, st_20_m2 gS, st_20_m1 gS, st_21_m2 gS, st_21_m1 gS]; first | done | rfl | omega)) rfl rfl ?_
        try simp (disch := omega) only [up2_ne, up2_eq, h6, h7, st_11_m1 gS, st_11_0 gS, st_11_1 gS, st_11_2 gS, st_19_m2 gS, st_19_m1 gS, st_20_m2 gS, st_20_m1 gS, st_21_m2 gS, st_21_m1 gS]
        refine wp_aload_n rfl rfl dX1_add_45 ?_
        refine wp_getfield1 (z := 2) (kI := 6) fX1_34 dX1_add_46 (by first | omega | (simp (disch := omega) only [up2_ne, up2_eq, h6, h7, st_11_m1 gS, st_11_0 gS, st_11_1 gS, st_11_2 gS, st_19_m2 gS, st_19_m1 gS, st_20_m2 gS, st_20_m1 gS, st_21_m2 gS, st_21_m1 gS]; first | done | omega)) (by first | assumption | (simp (disch := omega) only [up2_ne, up2_eq, h6, h7, st_11_m1 gS, st_11_0 gS, st_11_1 gS, st_11_2 gS, st_19_m2 gS, st_19_m1 gS, st_20_m2 gS, st_20_m1 gS, st_21_m2 gS, st_21_m1 gS]; first | done | rfl | omega)) rfl rfl ?_
        try simp (disch := omega) only [up2_ne, up2_eq, h6, h7, st_11_m1 gS, st_11_0 gS, st_11_1 gS, st_11_2 gS, st_19_m2 gS, st_19_m1 gS, st_20_m2 gS, st_20_m1 gS, st_21_m2 gS, st_21_m1 gS]
        refine wp_iload_n rfl rfl dX1_add_49 ?_
        refine wp_iastore1 dX1_add_50 (by first | omega | (simp (disch := omega) only [up2_ne, up2_eq, h6, h7, st_11_m1 gS, st_11_0 gS, st_11_1 gS, st_11_2 gS, st_19_m2 gS, st_19_m1 gS, st_20_m2 gS, st_20_m1 gS, st_21_m2 gS, st_21_m1 gS]; first | done | omega)) (by first | assumption | (simp (disch := omega) only [up2_ne, up2_eq, h6, h7, st_11_m1 gS, st_11_0 gS, st_11_1 gS, st_11_2 gS, st_19_m2 gS, st_19_m1 gS, st_20_m2 gS, st_20_m1 gS, st_21_m2 gS, st_21_m1 gS]; first | done | rfl | omega)) (by first | omega | (simp (disch := omega) only [up2_ne, up2_eq, h6, h7, st_11_m1 gS, st_11_0 gS, st_11_1 gS, st_11_2 gS, st_19_m2 gS, st_19_m1 gS, st_20_m2 gS, st_20_m1 gS, st_21_m2 gS, st_21_m1 gS]; first | done | omega)) (by first | omega | (simp (disch := omega) only [up2_ne, up2_eq, h6, h7, st_11_m1 gS, st_11_0 gS, st_11_1 gS, st_11_2 gS, st_19_m2 gS, st_19_m1 gS, st_20_m2 gS, st_20_m1 gS, st_21_m2 gS, st_21_m1 gS]; first | done | omega)) ?_
        refine wp_aload_n rfl rfl dX1_add_51 ?_
        refine wp_dup (by decide) dX1_add_52 ?_
        refine wp_getfield1 (z := 2) (kI := 6) fX1_34 dX1_add_53 (by first | omega | (simp (disch := omega) only [up2_ne, up2_eq, h6, h7, st_11_m1 gS, st_11_0 gS, st_11_1 gS, st_11_2 gS, st_19_m2 gS, st_19_m1 gS, st_20_m2 gS, st_20_m1 gS, st_21_m2 gS, st_21_m1 gS]; first | done | omega)) (by first | assumption | (simp (disch := omega) only [up2_ne, up2_eq, h6, h7, st_11_m1 gS, st_11_0 gS, st_11_1 gS, st_11_2 gS, st_19_m2 gS, st_19_m1 gS, st_20_m2 gS, st_20_m1 gS, st_21_m2 gS, st_21_m1 gS]; first | done | rfl | omega)) rfl rfl ?_
        try simp (disch := omega) only [up2_ne, up2_eq, h6, h7, st_11_m1 gS, st_11_0 gS, st_11_1 gS, st_11_2 gS, st_19_m2 gS, st_19_m1 gS, st_20_m2 gS, st_20_m1 gS, st_21_m2 gS, st_21_m1 gS]
        refine wp_iconst dX1_add_56 ?_
        refine wp_iadd dX1_add_57 ?_
        refine wp_putfield1 (z := 2) (kI := 6) fX1_34 dX1_add_58 (by first | omega | (simp (disch := omega) only [up2_ne, up2_eq, h6, h7, st_11_m1 gS, st_11_0 gS, st_11_1 gS, st_11_2 gS, st_19_m2 gS, st_19_m1 gS, st_20_m2 gS, st_20_m1 gS, st_21_m2 gS, st_21_m1 gS]; first | done | omega)) (by first | assumption | (simp (disch := omega) only [up2_ne, up2_eq, h6, h7, st_11_m1 gS, st_11_0 gS, st_11_1 gS, st_11_2 gS, st_19_m2 gS, st_19_m1 gS, st_20_m2 gS, st_20_m1 gS, st_21_m2 gS, st_21_m1 gS]; first | done | rfl | omega)) rfl rfl ?_
        refine wp_vret dX1_add_61 rfl ?_
        first
          | (exfalso; omega)
          | exact ⟨rfl, Or.inl ⟨by omega, rfl⟩⟩
          | exact ⟨rfl, Or.inr ⟨by omega, rfl⟩⟩
def itI (m g : mH) (L : Int) (l : List Int) : Prop := St g ∧ g 11 6 = (l.length : Int) ∧ (∀ (k : Nat) (a : Int), l[k]? = some a → g 19 k = a ∧ g 20 k = m 215 a ∧ g 21 k = wC m a) ∧ g 11 7 = L ∧ g 11 8 = 0 ∧ g 11 9 = 0 ∧ g 11 10 = 0
theorem itI_add {m g : mH} {L : Int} {l : List Int} {a : Int} (I : itI m g L l) : itI m (up2 (up2 (up2 (up2 g 19 l.length a) 20 l.length (m 215 a)) 21 l.length (wC m a)) 11 6 (l.length + 1)) L (l ++ [a]) := by
  obtain ⟨i1, i2, i3, i4, i5, i6, i7⟩ := I
  refine ⟨(((i1.upA (by decide +kernel) (by omega)).upA (by decide +kernel) (by omega)).upA (by decide +kernel) (by omega)).up (by decide +kernel), ?_, fun k b hk => ?_, ?_, ?_, ?_, ?_⟩
  · rw [up2_eq, List.length_append, List.length_singleton]
    omega
  · by_cases c : k < l.length
    · rw [List.getElem?_append_left c] at hk
      have := i3 k b hk
      simp (disch := omega) only [up2_ne]
      exact this
    · rw [List.getElem?_append_right (by omega)] at hk
      by_cases c2 : k = l.length
      · subst c2
        rw [Nat.sub_self] at hk
        have hb : a = b := by simpa using hk
        subst hb
        refine ⟨?_, ?_, ?_⟩ <;> simp (disch := omega) only [up2_ne, up2_eq]
      · rw [List.getElem?_eq_none (by rw [List.length_singleton]; omega)] at hk
        cases hk
  · simp (disch := omega) only [up2_ne]
    exact i4
  · simp (disch := omega) only [up2_ne]
    exact i5
  · simp (disch := omega) only [up2_ne]
    exact i6
  · simp (disch := omega) only [up2_ne]
    exact i7
theorem itI_cg {m g g' : mH} {L : Int} {l : List Int} (I : itI m g L l) (S : St g') (e : ∀ x k : Int, (x = 11 ∧ 6 ≤ k) ∨ (19 ≤ x ∧ x ≤ 21 ∧ 0 ≤ k) → g' x k = g x k) : itI m g' L l := by
  obtain ⟨i1, i2, i3, i4, i5, i6, i7⟩ := I
  refine ⟨S, ?_, fun k a hk => ?_, ?_, ?_, ?_, ?_⟩
  · rw [e _ _ (by omega)]; exact i2
  · rw [e 19 _ (by omega), e 20 _ (by omega), e 21 _ (by omega)]; exact i3 k a hk
  · rw [e _ _ (by omega)]; exact i4
  · rw [e _ _ (by omega)]; exact i5
  · rw [e _ _ (by omega)]; exact i6
  · rw [e _ _ (by omega)]; exact i7
theorem asc_app : ∀ (p : List Int) {lo a : Int} {t : List Int}, 0 ≤ lo → asc lo (p ++ a :: t) → 0 ≤ a ∧ a < 14 ∧ asc (a + 1) t
  | [], lo, a, t, h0, h => ⟨by have := h.1; omega, h.2.1, h.2.2⟩
  | x :: p, lo, a, t, h0, h => asc_app p (by have := h.1; omega) h.2.2
theorem iOr_cm {x y : Int} : iOr x y = iOr y x := by
  unfold iOr
  rw [Int32.or_comm]
abbrev Kx (g h1 : mH) : Prop := ∀ x k : Int, ¬ ((x = 11 ∧ 8 ≤ k ∧ k ≤ 10) ∨ (22 ≤ x ∧ x ≤ 24 ∧ 0 ≤ k)) → h1 x k = g x k
theorem sfx_hd {m g : mH} {t : List Int} {i : Int} (h : sfx m g i t) : g 22 i = (tl m t).2.1 ∧ g 23 i = (tl m t).1 ∧ g 24 i = (tl m t).2.2 := by
  cases t with
  | nil => exact h.2
  | cons a t => exact h.1.2.2.2.2
set_option maxHeartbeats 1000000 in
theorem s_X1_bestSet {u : gT} {m g : mH} {d b : Nat} {L : Int} {l : List Int} (L0 : -600000000 ≤ L) (L1 : L ≤ 600000000) (I : itI m g L l) (hlen : l.length ≤ 14) (hasc : asc 0 l) (hit : ∀ a ∈ l, itm m a) : Rlt (gX (gq u)) MX1_bestSet (d + l.length + 2) b [(2, 11)] g (fun r h1 => r = (0, (sch L (l.map (ti m)) (0, 0, 0) (0, 0, 0)).2.2) ∧ St h1 ∧ Kx g h1) := by
  have hl6 := I.2.1
  refine Rlt.of ?_
  have loop : ∀ (p t : List Int) (g1 : mH), l = p.reverse ++ t → sfx m g1 (p.length : Int) t → itI m g1 L l → Kx g g1 → WP (gX (gq u)) MX1_bestSet (d + l.length + 2) b (fun r h1 => r = (0, (sch L (l.map (ti m)) (0, 0, 0) (0, 0, 0)).2.2) ∧ St h1 ∧ Kx g h1) 37 [(2, 11), (0, (p.length : Int) - 1)] [] g1 := by
    intro p
    induction p with
    | nil =>
      intro t g1 hl hf I hK
      rw [List.reverse_nil, List.nil_append] at hl
      subst hl
      rw [List.length_nil] at hf ⊢
      refine wp_iload_n rfl rfl dX1_bestSet_37 ?_
      refine wp_if_lt (tgt := 112) (by first | assumption | exact bI_in _ | exact ⟨by omega, by omega⟩ | exact iAnd_in | exact iOr_in | exact iShr_in | exact iShl_in | exact iXor_in | exact hxs _) dX1_bestSet_38 (by decide) (fun c1 => ?_) (fun c1 => by exfalso; omega)
      refine wp_aload_n rfl rfl dX1_bestSet_112 ?_
      refine wp_iconst dX1_bestSet_113 ?_
      refine wp_iconst dX1_bestSet_114 ?_
      refine wp_iconst dX1_bestSet_115 ?_
      refine wp_iconst dX1_bestSet_116 ?_
      refine wp_cS5r okX1_search wX1_46 dX1_bestSet_117 (Nat.le_of_ble_eq_true rfl) (Nat.le_of_ble_eq_true rfl) (search_row L0 L1 l (d := d) (b := 0) (g := g1) (i := 0) (lo := 0) (c := (0, 0, 0)) I.1 hf (by decide) (by omega) I.2.2.2.1 (by decide) (by decide) hasc hit ⟨by decide, by decide⟩ ⟨by decide, by decide⟩ ⟨by decide, by decide⟩ (by unfold tbI; rw [I.2.2.2.2.1, I.2.2.2.2.2.1, I.2.2.2.2.2.2]; exact ⟨⟨by decide, by decide⟩, ⟨by decide, by decide⟩, by decide, by decide⟩)) (Nat.zero_le _) ?_
      rintro r g2 ⟨rfl, S2, K2, T2, B2⟩ -
      show WP _ _ _ _ _ _ _ [] _
      refine wp_aload_n rfl rfl dX1_bestSet_120 ?_
      refine wp_getfield1 (z := 2) (kI := 10) fX1_43 dX1_bestSet_121 (by first | omega | (simp (disch := omega) only [up2_ne, up2_eq, st_11_m1 S2, st_11_m1 I.1]; first | done | omega)) (by first | assumption | (simp (disch := omega) only [up2_ne, up2_eq, st_11_m1 S2, st_11_m1 I.1]; first | done | rfl | omega)) rfl rfl ?_
      try simp (disch := omega) only [up2_ne, up2_eq, st_11_m1 S2, st_11_m1 I.1]
      refine wp_iret dX1_bestSet_124 rfl ?_
      have e8 : tr3 g1 = (0, 0, 0) := by
        show (g1 11 8, g1 11 9, g1 11 10) = _
        rw [I.2.2.2.2.1, I.2.2.2.2.2.1, I.2.2.2.2.2.2]
      rw [e8] at T2
      refine ⟨?_, S2, fun x k z => (K2 x k (by omega)).trans (hK x k z)⟩
      rw [← T2]
    | cons a p ih =>
      intro t g1 hl hf I hK
      have hl2 : l = p.reverse ++ (a :: t) := by rw [hl, List.reverse_cons, List.append_assoc, List.singleton_append]
      have hla := congrArg List.length hl2
      rw [List.length_append, List.length_reverse, List.length_cons] at hla
      have hal : a ∈ l := by rw [hl2]; exact List.mem_append_right _ List.mem_cons_self
      have htl : ∀ x ∈ t, itm m x := fun x hx => hit x (by rw [hl2]; exact List.mem_append_right _ (List.mem_cons_of_mem _ hx))
      have hta := hit a hal
      have ha := asc_app p.reverse (by decide) (hl2 ▸ hasc)
      have it1 := I.2.2.1 p.length a (by rw [hl2, List.getElem?_append_right (by rw [List.length_reverse]; omega), List.length_reverse, Nat.sub_self]; rfl)
      rw [List.length_cons] at hf ⊢
      rw [show ((p.length + 1 : Nat) : Int) = (p.length : Int) + 1 by omega] at hf ⊢
      rw [show (p.length : Int) + 1 - 1 = (p.length : Int) by omega]
      obtain ⟨r22, r23, r24⟩ := sfx_hd hf
      have hgl := I.2.1
      obtain ⟨q, q0, q1, q2⟩ := tl_bits (m := m) t (lo := a + 1) (by omega) (by omega) ha.2.2
      have hp1 : (2 : Int) ^ (a + 1).toNat = 2 ^ a.toNat * 2 := by rw [show (a + 1).toNat = a.toNat + 1 by omega, Int.pow_succ]
      have hp0 := p2_pos (k := a.toNat)
      have hor : iOr (tl m t).2.2 (iShl 1 a) = (tl m t).2.2 + 2 ^ a.toNat := by
        rw [iOr_cm, shl_1 ha.1 ha.2.1, Int.add_comm]
        exact or_sum (k := (a + 1).toNat) (q := q) (by omega) (by omega) q0 q1 (by omega) (by omega)
      clear q1 q2 hp1
      refine wp_iload_n rfl rfl dX1_bestSet_37 ?_
      refine wp_if_lt (tgt := 112) (by first | assumption | exact bI_in _ | exact ⟨by omega, by omega⟩ | exact iAnd_in | exact iOr_in | exact iShr_in | exact iShl_in | exact iXor_in | exact hxs _) dX1_bestSet_38 (by decide) (fun c1 => by exfalso; omega) (fun c1 => ?_)
      refine wp_aload_n rfl rfl dX1_bestSet_41 ?_
      refine wp_getfield1 (z := 2) (kI := 3) fX1_21 dX1_bestSet_42 (by first | omega | (simp (disch := omega) only [up2_ne, up2_eq, it1.1, it1.2.1, it1.2.2, r22, r23, r24, st_11_m1 I.1, st_11_0 I.1, st_11_1 I.1, st_11_2 I.1, st_11_3 I.1, st_11_4 I.1, st_11_5 I.1, st_19_m2 I.1, st_19_m1 I.1, st_20_m2 I.1, st_20_m1 I.1, st_21_m2 I.1, st_21_m1 I.1, st_22_m2 I.1, st_22_m1 I.1, st_23_m2 I.1, st_23_m1 I.1, st_24_m2 I.1, st_24_m1 I.1]; first | done | omega)) (by first | assumption | (simp (disch := omega) only [up2_ne, up2_eq, it1.1, it1.2.1, it1.2.2, r22, r23, r24, st_11_m1 I.1, st_11_0 I.1, st_11_1 I.1, st_11_2 I.1, st_11_3 I.1, st_11_4 I.1, st_11_5 I.1, st_19_m2 I.1, st_19_m1 I.1, st_20_m2 I.1, st_20_m1 I.1, st_21_m2 I.1, st_21_m1 I.1, st_22_m2 I.1, st_22_m1 I.1, st_23_m2 I.1, st_23_m1 I.1, st_24_m2 I.1, st_24_m1 I.1]; first | done | rfl | omega)) rfl rfl ?_
      try simp (disch := omega) only [up2_ne, up2_eq, it1.1, it1.2.1, it1.2.2, r22, r23, r24, st_11_m1 I.1, st_11_0 I.1, st_11_1 I.1, st_11_2 I.1, st_11_3 I.1, st_11_4 I.1, st_11_5 I.1, st_19_m2 I.1, st_19_m1 I.1, st_20_m2 I.1, st_20_m1 I.1, st_21_m2 I.1, st_21_m1 I.1, st_22_m2 I.1, st_22_m1 I.1, st_23_m2 I.1, st_23_m1 I.1, st_24_m2 I.1, st_24_m1 I.1]
      refine wp_iload_n rfl rfl dX1_bestSet_45 ?_
      refine wp_aload_n rfl rfl dX1_bestSet_46 ?_
      refine wp_getfield1 (z := 2) (kI := 3) fX1_21 dX1_bestSet_47 (by first | omega | (simp (disch := omega) only [up2_ne, up2_eq, it1.1, it1.2.1, it1.2.2, r22, r23, r24, st_11_m1 I.1, st_11_0 I.1, st_11_1 I.1, st_11_2 I.1, st_11_3 I.1, st_11_4 I.1, st_11_5 I.1, st_19_m2 I.1, st_19_m1 I.1, st_20_m2 I.1, st_20_m1 I.1, st_21_m2 I.1, st_21_m1 I.1, st_22_m2 I.1, st_22_m1 I.1, st_23_m2 I.1, st_23_m1 I.1, st_24_m2 I.1, st_24_m1 I.1]; first | done | omega)) (by first | assumption | (simp (disch := omega) only [up2_ne, up2_eq, it1.1, it1.2.1, it1.2.2, r22, r23, r24, st_11_m1 I.1, st_11_0 I.1, st_11_1 I.1, st_11_2 I.1, st_11_3 I.1, st_11_4 I.1, st_11_5 I.1, st_19_m2 I.1, st_19_m1 I.1, st_20_m2 I.1, st_20_m1 I.1, st_21_m2 I.1, st_21_m1 I.1, st_22_m2 I.1, st_22_m1 I.1, st_23_m2 I.1, st_23_m1 I.1, st_24_m2 I.1, st_24_m1 I.1]; first | done | rfl | omega)) rfl rfl ?_
      try simp (disch := omega) only [up2_ne, up2_eq, it1.1, it1.2.1, it1.2.2, r22, r23, r24, st_11_m1 I.1, st_11_0 I.1, st_11_1 I.1, st_11_2 I.1, st_11_3 I.1, st_11_4 I.1, st_11_5 I.1, st_19_m2 I.1, st_19_m1 I.1, st_20_m2 I.1, st_20_m1 I.1, st_21_m2 I.1, st_21_m1 I.1, st_22_m2 I.1, st_22_m1 I.1, st_23_m2 I.1, st_23_m1 I.1, st_24_m2 I.1, st_24_m1 I.1]
      refine wp_iload_n rfl rfl dX1_bestSet_50 ?_
      refine wp_iconst dX1_bestSet_51 ?_
      refine wp_iadd dX1_bestSet_52 ?_
      refine wp_iaload1 dX1_bestSet_53 (by first | omega | (simp (disch := omega) only [up2_ne, up2_eq, it1.1, it1.2.1, it1.2.2, r22, r23, r24, st_11_m1 I.1, st_11_0 I.1, st_11_1 I.1, st_11_2 I.1, st_11_3 I.1, st_11_4 I.1, st_11_5 I.1, st_19_m2 I.1, st_19_m1 I.1, st_20_m2 I.1, st_20_m1 I.1, st_21_m2 I.1, st_21_m1 I.1, st_22_m2 I.1, st_22_m1 I.1, st_23_m2 I.1, st_23_m1 I.1, st_24_m2 I.1, st_24_m1 I.1]; first | done | omega)) (by first | assumption | (simp (disch := omega) only [up2_ne, up2_eq, it1.1, it1.2.1, it1.2.2, r22, r23, r24, st_11_m1 I.1, st_11_0 I.1, st_11_1 I.1, st_11_2 I.1, st_11_3 I.1, st_11_4 I.1, st_11_5 I.1, st_19_m2 I.1, st_19_m1 I.1, st_20_m2 I.1, st_20_m1 I.1, st_21_m2 I.1, st_21_m1 I.1, st_22_m2 I.1, st_22_m1 I.1, st_23_m2 I.1, st_23_m1 I.1, st_24_m2 I.1, st_24_m1 I.1]; first | done | rfl | omega)) (by first | omega | (simp (disch := omega) only [up2_ne, up2_eq, it1.1, it1.2.1, it1.2.2, r22, r23, r24, st_11_m1 I.1, st_11_0 I.1, st_11_1 I.1, st_11_2 I.1, st_11_3 I.1, st_11_4 I.1, st_11_5 I.1, st_19_m2 I.1, st_19_m1 I.1, st_20_m2 I.1, st_20_m1 I.1, st_21_m2 I.1, st_21_m1 I.1, st_22_m2 I.1, st_22_m1 I.1, st_23_m2 I.1, st_23_m1 I.1, st_24_m2 I.1, st_24_m1 I.1]; first | done | omega)) (by first | omega | (simp (disch := omega) only [up2_ne, up2_eq, it1.1, it1.2.1, it1.2.2, r22, r23, r24, st_11_m1 I.1, st_11_0 I.1, st_11_1 I.1, st_11_2 I.1, st_11_3 I.1, st_11_4 I.1, st_11_5 I.1, st_19_m2 I.1, st_19_m1 I.1, st_20_m2 I.1, st_20_m1 I.1, st_21_m2 I.1, st_21_m1 I.1, st_22_m2 I.1, st_22_m1 I.1, st_23_m2 I.1, st_23_m1 I.1, st_24_m2 I.1, st_24_m1 I.1]; first | done | omega)) ?_
      try simp (disch := omega) only [up2_ne, up2_eq, it1.1, it1.2.1, it1.2.2, r22, r23, r24, st_11_m1 I.1, st_11_0 I.1, st_11_1 I.1, st_11_2 I.1, st_11_3 I.1, st_11_4 I.1, st_11_5 I.1, st_19_m2 I.1, st_19_m1 I.1, st_20_m2 I.1, st_20_m1 I.1, st_21_m2 I.1, st_21_m1 I.1, st_22_m2 I.1, st_22_m1 I.1, st_23_m2 I.1, st_23_m1 I.1, st_24_m2 I.1, st_24_m1 I.1]
      refine wp_aload_n rfl rfl dX1_bestSet_54 ?_
      refine wp_getfield1 (z := 2) (kI := 1) fX1_15 dX1_bestSet_55 (by first | omega | (simp (disch := omega) only [up2_ne, up2_eq, it1.1, it1.2.1, it1.2.2, r22, r23, r24, st_11_m1 I.1, st_11_0 I.1, st_11_1 I.1, st_11_2 I.1, st_11_3 I.1, st_11_4 I.1, st_11_5 I.1, st_19_m2 I.1, st_19_m1 I.1, st_20_m2 I.1, st_20_m1 I.1, st_21_m2 I.1, st_21_m1 I.1, st_22_m2 I.1, st_22_m1 I.1, st_23_m2 I.1, st_23_m1 I.1, st_24_m2 I.1, st_24_m1 I.1]; first | done | omega)) (by first | assumption | (simp (disch := omega) only [up2_ne, up2_eq, it1.1, it1.2.1, it1.2.2, r22, r23, r24, st_11_m1 I.1, st_11_0 I.1, st_11_1 I.1, st_11_2 I.1, st_11_3 I.1, st_11_4 I.1, st_11_5 I.1, st_19_m2 I.1, st_19_m1 I.1, st_20_m2 I.1, st_20_m1 I.1, st_21_m2 I.1, st_21_m1 I.1, st_22_m2 I.1, st_22_m1 I.1, st_23_m2 I.1, st_23_m1 I.1, st_24_m2 I.1, st_24_m1 I.1]; first | done | rfl | omega)) rfl rfl ?_
      try simp (disch := omega) only [up2_ne, up2_eq, it1.1, it1.2.1, it1.2.2, r22, r23, r24, st_11_m1 I.1, st_11_0 I.1, st_11_1 I.1, st_11_2 I.1, st_11_3 I.1, st_11_4 I.1, st_11_5 I.1, st_19_m2 I.1, st_19_m1 I.1, st_20_m2 I.1, st_20_m1 I.1, st_21_m2 I.1, st_21_m1 I.1, st_22_m2 I.1, st_22_m1 I.1, st_23_m2 I.1, st_23_m1 I.1, st_24_m2 I.1, st_24_m1 I.1]
      refine wp_iload_n rfl rfl dX1_bestSet_58 ?_
      refine wp_iaload1 dX1_bestSet_59 (by first | omega | (simp (disch := omega) only [up2_ne, up2_eq, it1.1, it1.2.1, it1.2.2, r22, r23, r24, st_11_m1 I.1, st_11_0 I.1, st_11_1 I.1, st_11_2 I.1, st_11_3 I.1, st_11_4 I.1, st_11_5 I.1, st_19_m2 I.1, st_19_m1 I.1, st_20_m2 I.1, st_20_m1 I.1, st_21_m2 I.1, st_21_m1 I.1, st_22_m2 I.1, st_22_m1 I.1, st_23_m2 I.1, st_23_m1 I.1, st_24_m2 I.1, st_24_m1 I.1]; first | done | omega)) (by first | assumption | (simp (disch := omega) only [up2_ne, up2_eq, it1.1, it1.2.1, it1.2.2, r22, r23, r24, st_11_m1 I.1, st_11_0 I.1, st_11_1 I.1, st_11_2 I.1, st_11_3 I.1, st_11_4 I.1, st_11_5 I.1, st_19_m2 I.1, st_19_m1 I.1, st_20_m2 I.1, st_20_m1 I.1, st_21_m2 I.1, st_21_m1 I.1, st_22_m2 I.1, st_22_m1 I.1, st_23_m2 I.1, st_23_m1 I.1, st_24_m2 I.1, st_24_m1 I.1]; first | done | rfl | omega)) (by first | omega | (simp (disch := omega) only [up2_ne, up2_eq, it1.1, it1.2.1, it1.2.2, r22, r23, r24, st_11_m1 I.1, st_11_0 I.1, st_11_1 I.1, st_11_2 I.1, st_11_3 I.1, st_11_4 I.1, st_11_5 I.1, st_19_m2 I.1, st_19_m1 I.1, st_20_m2 I.1, st_20_m1 I.1, st_21_m2 I.1, st_21_m1 I.1, st_22_m2 I.1, st_22_m1 I.1, st_23_m2 I.1, st_23_m1 I.1, st_24_m2 I.1, st_24_m1 I.1]; first | done | omega)) (by first | omega | (simp (disch := omega) only [up2_ne, up2_eq, it1.1, it1.2.1, it1.2.2, r22, r23, r24, st_11_m1 I.1, st_11_0 I.1, st_11_1 I.1, st_11_2 I.1, st_11_3 I.1, st_11_4 I.1, st_11_5 I.1, st_19_m2 I.1, st_19_m1 I.1, st_20_m2 I.1, st_20_m1 I.1, st_21_m2 I.1, st_21_m1 I.1, st_22_m2 I.1, st_22_m1 I.1, st_23_m2 I.1, st_23_m1 I.1, st_24_m2 I.1, st_24_m1 I.1]; first | done | omega)) ?_
      try simp (disch := omega) only [up2_ne, up2_eq, it1.1, it1.2.1, it1.2.2, r22, r23, r24, st_11_m1 I.1, st_11_0 I.1, st_11_1 I.1, st_11_2 I.1, st_11_3 I.1, st_11_4 I.1, st_11_5 I.1, st_19_m2 I.1, st_19_m1 I.1, st_20_m2 I.1, st_20_m1 I.1, st_21_m2 I.1, st_21_m1 I.1, st_22_m2 I.1, st_22_m1 I.1, st_23_m2 I.1, st_23_m1 I.1, st_24_m2 I.1, st_24_m1 I.1]
      refine wp_iadd dX1_bestSet_60 ?_
      refine wp_iastore1 dX1_bestSet_61 (by first | omega | (simp (disch := omega) only [up2_ne, up2_eq, it1.1, it1.2.1, it1.2.2, r22, r23, r24, st_11_m1 I.1, st_11_0 I.1, st_11_1 I.1, st_11_2 I.1, st_11_3 I.1, st_11_4 I.1, st_11_5 I.1, st_19_m2 I.1, st_19_m1 I.1, st_20_m2 I.1, st_20_m1 I.1, st_21_m2 I.1, st_21_m1 I.1, st_22_m2 I.1, st_22_m1 I.1, st_23_m2 I.1, st_23_m1 I.1, st_24_m2 I.1, st_24_m1 I.1]; first | done | omega)) (by first | assumption | (simp (disch := omega) only [up2_ne, up2_eq, it1.1, it1.2.1, it1.2.2, r22, r23, r24, st_11_m1 I.1, st_11_0 I.1, st_11_1 I.1, st_11_2 I.1, st_11_3 I.1, st_11_4 I.1, st_11_5 I.1, st_19_m2 I.1, st_19_m1 I.1, st_20_m2 I.1, st_20_m1 I.1, st_21_m2 I.1, st_21_m1 I.1, st_22_m2 I.1, st_22_m1 I.1, st_23_m2 I.1, st_23_m1 I.1, st_24_m2 I.1, st_24_m1 I.1]; first | done | rfl | omega)) (by first | omega | (simp (disch := omega) only [up2_ne, up2_eq, it1.1, it1.2.1, it1.2.2, r22, r23, r24, st_11_m1 I.1, st_11_0 I.1, st_11_1 I.1, st_11_2 I.1, st_11_3 I.1, st_11_4 I.1, st_11_5 I.1, st_19_m2 I.1, st_19_m1 I.1, st_20_m2 I.1, st_20_m1 I.1, st_21_m2 I.1, st_21_m1 I.1, st_22_m2 I.1, st_22_m1 I.1, st_23_m2 I.1, st_23_m1 I.1, st_24_m2 I.1, st_24_m1 I.1]; first | done | omega)) (by first | omega | (simp (disch := omega) only [up2_ne, up2_eq, it1.1, it1.2.1, it1.2.2, r22, r23, r24, st_11_m1 I.1, st_11_0 I.1, st_11_1 I.1, st_11_2 I.1, st_11_3 I.1, st_11_4 I.1, st_11_5 I.1, st_19_m2 I.1, st_19_m1 I.1, st_20_m2 I.1, st_20_m1 I.1, st_21_m2 I.1, st_21_m1 I.1, st_22_m2 I.1, st_22_m1 I.1, st_23_m2 I.1, st_23_m1 I.1, st_24_m2 I.1, st_24_m1 I.1]; first | done | omega)) ?_
      refine wp_aload_n rfl rfl dX1_bestSet_62 ?_
      refine wp_getfield1 (z := 2) (kI := 4) fX1_24 dX1_bestSet_63 (by first | omega | (simp (disch := omega) only [up2_ne, up2_eq, it1.1, it1.2.1, it1.2.2, r22, r23, r24, st_11_m1 I.1, st_11_0 I.1, st_11_1 I.1, st_11_2 I.1, st_11_3 I.1, st_11_4 I.1, st_11_5 I.1, st_19_m2 I.1, st_19_m1 I.1, st_20_m2 I.1, st_20_m1 I.1, st_21_m2 I.1, st_21_m1 I.1, st_22_m2 I.1, st_22_m1 I.1, st_23_m2 I.1, st_23_m1 I.1, st_24_m2 I.1, st_24_m1 I.1]; first | done | omega)) (by first | assumption | (simp (disch := omega) only [up2_ne, up2_eq, it1.1, it1.2.1, it1.2.2, r22, r23, r24, st_11_m1 I.1, st_11_0 I.1, st_11_1 I.1, st_11_2 I.1, st_11_3 I.1, st_11_4 I.1, st_11_5 I.1, st_19_m2 I.1, st_19_m1 I.1, st_20_m2 I.1, st_20_m1 I.1, st_21_m2 I.1, st_21_m1 I.1, st_22_m2 I.1, st_22_m1 I.1, st_23_m2 I.1, st_23_m1 I.1, st_24_m2 I.1, st_24_m1 I.1]; first | done | rfl | omega)) rfl rfl ?_
      try simp (disch := omega) only [up2_ne, up2_eq, it1.1, it1.2.1, it1.2.2, r22, r23, r24, st_11_m1 I.1, st_11_0 I.1, st_11_1 I.1, st_11_2 I.1, st_11_3 I.1, st_11_4 I.1, st_11_5 I.1, st_19_m2 I.1, st_19_m1 I.1, st_20_m2 I.1, st_20_m1 I.1, st_21_m2 I.1, st_21_m1 I.1, st_22_m2 I.1, st_22_m1 I.1, st_23_m2 I.1, st_23_m1 I.1, st_24_m2 I.1, st_24_m1 I.1]
      refine wp_iload_n rfl rfl dX1_bestSet_66 ?_
      refine wp_aload_n rfl rfl dX1_bestSet_67 ?_
      refine wp_getfield1 (z := 2) (kI := 4) fX1_24 dX1_bestSet_68 (by first | omega | (simp (disch := omega) only [up2_ne, up2_eq, it1.1, it1.2.1, it1.2.2, r22, r23, r24, st_11_m1 I.1, st_11_0 I.1, st_11_1 I.1, st_11_2 I.1, st_11_3 I.1, st_11_4 I.1, st_11_5 I.1, st_19_m2 I.1, st_19_m1 I.1, st_20_m2 I.1, st_20_m1 I.1, st_21_m2 I.1, st_21_m1 I.1, st_22_m2 I.1, st_22_m1 I.1, st_23_m2 I.1, st_23_m1 I.1, st_24_m2 I.1, st_24_m1 I.1]; first | done | omega)) (by first | assumption | (simp (disch := omega) only [up2_ne, up2_eq, it1.1, it1.2.1, it1.2.2, r22, r23, r24, st_11_m1 I.1, st_11_0 I.1, st_11_1 I.1, st_11_2 I.1, st_11_3 I.1, st_11_4 I.1, st_11_5 I.1, st_19_m2 I.1, st_19_m1 I.1, st_20_m2 I.1, st_20_m1 I.1, st_21_m2 I.1, st_21_m1 I.1, st_22_m2 I.1, st_22_m1 I.1, st_23_m2 I.1, st_23_m1 I.1, st_24_m2 I.1, st_24_m1 I.1]; first | done | rfl | omega)) rfl rfl ?_
      try simp (disch := omega) only [up2_ne, up2_eq, it1.1, it1.2.1, it1.2.2, r22, r23, r24, st_11_m1 I.1, st_11_0 I.1, st_11_1 I.1, st_11_2 I.1, st_11_3 I.1, st_11_4 I.1, st_11_5 I.1, st_19_m2 I.1, st_19_m1 I.1, st_20_m2 I.1, st_20_m1 I.1, st_21_m2 I.1, st_21_m1 I.1, st_22_m2 I.1, st_22_m1 I.1, st_23_m2 I.1, st_23_m1 I.1, st_24_m2 I.1, st_24_m1 I.1]
      refine wp_iload_n rfl rfl dX1_bestSet_71 ?_
      refine wp_iconst dX1_bestSet_72 ?_
      refine wp_iadd dX1_bestSet_73 ?_
      refine wp_iaload1 dX1_bestSet_74 (by first | omega | (simp (disch := omega) only [up2_ne, up2_eq, it1.1, it1.2.1, it1.2.2, r22, r23, r24, st_11_m1 I.1, st_11_0 I.1, st_11_1 I.1, st_11_2 I.1, st_11_3 I.1, st_11_4 I.1, st_11_5 I.1, st_19_m2 I.1, st_19_m1 I.1, st_20_m2 I.1, st_20_m1 I.1, st_21_m2 I.1, st_21_m1 I.1, st_22_m2 I.1, st_22_m1 I.1, st_23_m2 I.1, st_23_m1 I.1, st_24_m2 I.1, st_24_m1 I.1]; first | done | omega)) (by first | assumption | (simp (disch := omega) only [up2_ne, up2_eq, it1.1, it1.2.1, it1.2.2, r22, r23, r24, st_11_m1 I.1, st_11_0 I.1, st_11_1 I.1, st_11_2 I.1, st_11_3 I.1, st_11_4 I.1, st_11_5 I.1, st_19_m2 I.1, st_19_m1 I.1, st_20_m2 I.1, st_20_m1 I.1, st_21_m2 I.1, st_21_m1 I.1, st_22_m2 I.1, st_22_m1 I.1, st_23_m2 I.1, st_23_m1 I.1, st_24_m2 I.1, st_24_m1 I.1]; first | done | rfl | omega)) (by first | omega | (simp (disch := omega) only [up2_ne, up2_eq, it1.1, it1.2.1, it1.2.2, r22, r23, r24, st_11_m1 I.1, st_11_0 I.1, st_11_1 I.1, st_11_2 I.1, st_11_3 I.1, st_11_4 I.1, st_11_5 I.1, st_19_m2 I.1, st_19_m1 I.1, st_20_m2 I.1, st_20_m1 I.1, st_21_m2 I.1, st_21_m1 I.1, st_22_m2 I.1, st_22_m1 I.1, st_23_m2 I.1, st_23_m1 I.1, st_24_m2 I.1, st_24_m1 I.1]; first | done | omega)) (by first | omega | (simp (disch := omega) only [up2_ne, up2_eq, it1.1, it1.2.1, it1.2.2, r22, r23, r24, st_11_m1 I.1, st_11_0 I.1, st_11_1 I.1, st_11_2 I.1, st_11_3 I.1, st_11_4 I.1, st_11_5 I.1, st_19_m2 I.1, st_19_m1 I.1, st_20_m2 I.1, st_20_m1 I.1, st_21_m2 I.1, st_21_m1 I.1, st_22_m2 I.1, st_22_m1 I.1, st_23_m2 I.1, st_23_m1 I.1, st_24_m2 I.1, st_24_m1 I.1]; first | done | omega)) ?_
      try simp (disch := omega) only [up2_ne, up2_eq, it1.1, it1.2.1, it1.2.2, r22, r23, r24, st_11_m1 I.1, st_11_0 I.1, st_11_1 I.1, st_11_2 I.1, st_11_3 I.1, st_11_4 I.1, st_11_5 I.1, st_19_m2 I.1, st_19_m1 I.1, st_20_m2 I.1, st_20_m1 I.1, st_21_m2 I.1, st_21_m1 I.1, st_22_m2 I.1, st_22_m1 I.1, st_23_m2 I.1, st_23_m1 I.1, st_24_m2 I.1, st_24_m1 I.1]
      refine wp_aload_n rfl rfl dX1_bestSet_75 ?_
      refine wp_getfield1 (z := 2) (kI := 2) fX1_18 dX1_bestSet_76 (by first | omega | (simp (disch := omega) only [up2_ne, up2_eq, it1.1, it1.2.1, it1.2.2, r22, r23, r24, st_11_m1 I.1, st_11_0 I.1, st_11_1 I.1, st_11_2 I.1, st_11_3 I.1, st_11_4 I.1, st_11_5 I.1, st_19_m2 I.1, st_19_m1 I.1, st_20_m2 I.1, st_20_m1 I.1, st_21_m2 I.1, st_21_m1 I.1, st_22_m2 I.1, st_22_m1 I.1, st_23_m2 I.1, st_23_m1 I.1, st_24_m2 I.1, st_24_m1 I.1]; first | done | omega)) (by first | assumption | (simp (disch := omega) only [up2_ne, up2_eq, it1.1, it1.2.1, it1.2.2, r22, r23, r24, st_11_m1 I.1, st_11_0 I.1, st_11_1 I.1, st_11_2 I.1, st_11_3 I.1, st_11_4 I.1, st_11_5 I.1, st_19_m2 I.1, st_19_m1 I.1, st_20_m2 I.1, st_20_m1 I.1, st_21_m2 I.1, st_21_m1 I.1, st_22_m2 I.1, st_22_m1 I.1, st_23_m2 I.1, st_23_m1 I.1, st_24_m2 I.1, st_24_m1 I.1]; first | done | rfl | omega)) rfl rfl ?_
      try simp (disch := omega) only [up2_ne, up2_eq, it1.1, it1.2.1, it1.2.2, r22, r23, r24, st_11_m1 I.1, st_11_0 I.1, st_11_1 I.1, st_11_2 I.1, st_11_3 I.1, st_11_4 I.1, st_11_5 I.1, st_19_m2 I.1, st_19_m1 I.1, st_20_m2 I.1, st_20_m1 I.1, st_21_m2 I.1, st_21_m1 I.1, st_22_m2 I.1, st_22_m1 I.1, st_23_m2 I.1, st_23_m1 I.1, st_24_m2 I.1, st_24_m1 I.1]
      refine wp_iload_n rfl rfl dX1_bestSet_79 ?_
      refine wp_iaload1 dX1_bestSet_80 (by first | omega | (simp (disch := omega) only [up2_ne, up2_eq, it1.1, it1.2.1, it1.2.2, r22, r23, r24, st_11_m1 I.1, st_11_0 I.1, st_11_1 I.1, st_11_2 I.1, st_11_3 I.1, st_11_4 I.1, st_11_5 I.1, st_19_m2 I.1, st_19_m1 I.1, st_20_m2 I.1, st_20_m1 I.1, st_21_m2 I.1, st_21_m1 I.1, st_22_m2 I.1, st_22_m1 I.1, st_23_m2 I.1, st_23_m1 I.1, st_24_m2 I.1, st_24_m1 I.1]; first | done | omega)) (by first | assumption | (simp (disch := omega) only [up2_ne, up2_eq, it1.1, it1.2.1, it1.2.2, r22, r23, r24, st_11_m1 I.1, st_11_0 I.1, st_11_1 I.1, st_11_2 I.1, st_11_3 I.1, st_11_4 I.1, st_11_5 I.1, st_19_m2 I.1, st_19_m1 I.1, st_20_m2 I.1, st_20_m1 I.1, st_21_m2 I.1, st_21_m1 I.1, st_22_m2 I.1, st_22_m1 I.1, st_23_m2 I.1, st_23_m1 I.1, st_24_m2 I.1, st_24_m1 I.1]; first | done | rfl | omega)) (by first | omega | (simp (disch := omega) only [up2_ne, up2_eq, it1.1, it1.2.1, it1.2.2, r22, r23, r24, st_11_m1 I.1, st_11_0 I.1, st_11_1 I.1, st_11_2 I.1, st_11_3 I.1, st_11_4 I.1, st_11_5 I.1, st_19_m2 I.1, st_19_m1 I.1, st_20_m2 I.1, st_20_m1 I.1, st_21_m2 I.1, st_21_m1 I.1, st_22_m2 I.1, st_22_m1 I.1, st_23_m2 I.1, st_23_m1 I.1, st_24_m2 I.1, st_24_m1 I.1]; first | done | omega)) (by first | omega | (simp (disch := omega) only [up2_ne, up2_eq, it1.1, it1.2.1, it1.2.2, r22, r23, r24, st_11_m1 I.1, st_11_0 I.1, st_11_1 I.1, st_11_2 I.1, st_11_3 I.1, st_11_4 I.1, st_11_5 I.1, st_19_m2 I.1, st_19_m1 I.1, st_20_m2 I.1, st_20_m1 I.1, st_21_m2 I.1, st_21_m1 I.1, st_22_m2 I.1, st_22_m1 I.1, st_23_m2 I.1, st_23_m1 I.1, st_24_m2 I.1, st_24_m1 I.1]; first | done | omega)) ?_
      try simp (disch := omega) only [up2_ne, up2_eq, it1.1, it1.2.1, it1.2.2, r22, r23, r24, st_11_m1 I.1, st_11_0 I.1, st_11_1 I.1, st_11_2 I.1, st_11_3 I.1, st_11_4 I.1, st_11_5 I.1, st_19_m2 I.1, st_19_m1 I.1, st_20_m2 I.1, st_20_m1 I.1, st_21_m2 I.1, st_21_m1 I.1, st_22_m2 I.1, st_22_m1 I.1, st_23_m2 I.1, st_23_m1 I.1, st_24_m2 I.1, st_24_m1 I.1]
      refine wp_iadd dX1_bestSet_81 ?_
      refine wp_iastore1 dX1_bestSet_82 (by first | omega | (simp (disch := omega) only [up2_ne, up2_eq, it1.1, it1.2.1, it1.2.2, r22, r23, r24, st_11_m1 I.1, st_11_0 I.1, st_11_1 I.1, st_11_2 I.1, st_11_3 I.1, st_11_4 I.1, st_11_5 I.1, st_19_m2 I.1, st_19_m1 I.1, st_20_m2 I.1, st_20_m1 I.1, st_21_m2 I.1, st_21_m1 I.1, st_22_m2 I.1, st_22_m1 I.1, st_23_m2 I.1, st_23_m1 I.1, st_24_m2 I.1, st_24_m1 I.1]; first | done | omega)) (by first | assumption | (simp (disch := omega) only [up2_ne, up2_eq, it1.1, it1.2.1, it1.2.2, r22, r23, r24, st_11_m1 I.1, st_11_0 I.1, st_11_1 I.1, st_11_2 I.1, st_11_3 I.1, st_11_4 I.1, st_11_5 I.1, st_19_m2 I.1, st_19_m1 I.1, st_20_m2 I.1, st_20_m1 I.1, st_21_m2 I.1, st_21_m1 I.1, st_22_m2 I.1, st_22_m1 I.1, st_23_m2 I.1, st_23_m1 I.1, st_24_m2 I.1, st_24_m1 I.1]; first | done | rfl | omega)) (by first | omega | (simp (disch := omega) only [up2_ne, up2_eq, it1.1, it1.2.1, it1.2.2, r22, r23, r24, st_11_m1 I.1, st_11_0 I.1, st_11_1 I.1, st_11_2 I.1, st_11_3 I.1, st_11_4 I.1, st_11_5 I.1, st_19_m2 I.1, st_19_m1 I.1, st_20_m2 I.1, st_20_m1 I.1, st_21_m2 I.1, st_21_m1 I.1, st_22_m2 I.1, st_22_m1 I.1, st_23_m2 I.1, st_23_m1 I.1, st_24_m2 I.1, st_24_m1 I.1]; first | done | omega)) (by first | omega | (simp (disch := omega) only [up2_ne, up2_eq, it1.1, it1.2.1, it1.2.2, r22, r23, r24, st_11_m1 I.1, st_11_0 I.1, st_11_1 I.1, st_11_2 I.1, st_11_3 I.1, st_11_4 I.1, st_11_5 I.1, st_19_m2 I.1, st_19_m1 I.1, st_20_m2 I.1, st_20_m1 I.1, st_21_m2 I.1, st_21_m1 I.1, st_22_m2 I.1, st_22_m1 I.1, st_23_m2 I.1, st_23_m1 I.1, st_24_m2 I.1, st_24_m1 I.1]; first | done | omega)) ?_
      refine wp_aload_n rfl rfl dX1_bestSet_83 ?_
      refine wp_getfield1 (z := 2) (kI := 5) fX1_27 dX1_bestSet_84 (by first | omega | (simp (disch := omega) only [up2_ne, up2_eq, it1.1, it1.2.1, it1.2.2, r22, r23, r24, st_11_m1 I.1, st_11_0 I.1, st_11_1 I.1, st_11_2 I.1, st_11_3 I.1, st_11_4 I.1, st_11_5 I.1, st_19_m2 I.1, st_19_m1 I.1, st_20_m2 I.1, st_20_m1 I.1, st_21_m2 I.1, st_21_m1 I.1, st_22_m2 I.1, st_22_m1 I.1, st_23_m2 I.1, st_23_m1 I.1, st_24_m2 I.1, st_24_m1 I.1]; first | done | omega)) (by first | assumption | (simp (disch := omega) only [up2_ne, up2_eq, it1.1, it1.2.1, it1.2.2, r22, r23, r24, st_11_m1 I.1, st_11_0 I.1, st_11_1 I.1, st_11_2 I.1, st_11_3 I.1, st_11_4 I.1, st_11_5 I.1, st_19_m2 I.1, st_19_m1 I.1, st_20_m2 I.1, st_20_m1 I.1, st_21_m2 I.1, st_21_m1 I.1, st_22_m2 I.1, st_22_m1 I.1, st_23_m2 I.1, st_23_m1 I.1, st_24_m2 I.1, st_24_m1 I.1]; first | done | rfl | omega)) rfl rfl ?_
      try simp (disch := omega) only [up2_ne, up2_eq, it1.1, it1.2.1, it1.2.2, r22, r23, r24, st_11_m1 I.1, st_11_0 I.1, st_11_1 I.1, st_11_2 I.1, st_11_3 I.1, st_11_4 I.1, st_11_5 I.1, st_19_m2 I.1, st_19_m1 I.1, st_20_m2 I.1, st_20_m1 I.1, st_21_m2 I.1, st_21_m1 I.1, st_22_m2 I.1, st_22_m1 I.1, st_23_m2 I.1, st_23_m1 I.1, st_24_m2 I.1, st_24_m1 I.1]
      refine wp_iload_n rfl rfl dX1_bestSet_87 ?_
      refine wp_aload_n rfl rfl dX1_bestSet_88 ?_
      refine wp_getfield1 (z := 2) (kI := 5) fX1_27 dX1_bestSet_89 (by first | omega | (simp (disch := omega) only [up2_ne, up2_eq, it1.1, it1.2.1, it1.2.2, r22, r23, r24, st_11_m1 I.1, st_11_0 I.1, st_11_1 I.1, st_11_2 I.1, st_11_3 I.1, st_11_4 I.1, st_11_5 I.1, st_19_m2 I.1, st_19_m1 I.1, st_20_m2 I.1, st_20_m1 I.1, st_21_m2 I.1, st_21_m1 I.1, st_22_m2 I.1, st_22_m1 I.1, st_23_m2 I.1, st_23_m1 I.1, st_24_m2 I.1, st_24_m1 I.1]; first | done | omega)) (by first | assumption | (simp (disch := omega) only [up2_ne, up2_eq, it1.1, it1.2.1, it1.2.2, r22, r23, r24, st_11_m1 I.1, st_11_0 I.1, st_11_1 I.1, st_11_2 I.1, st_11_3 I.1, st_11_4 I.1, st_11_5 I.1, st_19_m2 I.1, st_19_m1 I.1, st_20_m2 I.1, st_20_m1 I.1, st_21_m2 I.1, st_21_m1 I.1, st_22_m2 I.1, st_22_m1 I.1, st_23_m2 I.1, st_23_m1 I.1, st_24_m2 I.1, st_24_m1 I.1]; first | done | rfl | omega)) rfl rfl ?_
      try simp (disch := omega) only [up2_ne, up2_eq, it1.1, it1.2.1, it1.2.2, r22, r23, r24, st_11_m1 I.1, st_11_0 I.1, st_11_1 I.1, st_11_2 I.1, st_11_3 I.1, st_11_4 I.1, st_11_5 I.1, st_19_m2 I.1, st_19_m1 I.1, st_20_m2 I.1, st_20_m1 I.1, st_21_m2 I.1, st_21_m1 I.1, st_22_m2 I.1, st_22_m1 I.1, st_23_m2 I.1, st_23_m1 I.1, st_24_m2 I.1, st_24_m1 I.1]
      refine wp_iload_n rfl rfl dX1_bestSet_92 ?_
      refine wp_iconst dX1_bestSet_93 ?_
      refine wp_iadd dX1_bestSet_94 ?_
      refine wp_iaload1 dX1_bestSet_95 (by first | omega | (simp (disch := omega) only [up2_ne, up2_eq, it1.1, it1.2.1, it1.2.2, r22, r23, r24, st_11_m1 I.1, st_11_0 I.1, st_11_1 I.1, st_11_2 I.1, st_11_3 I.1, st_11_4 I.1, st_11_5 I.1, st_19_m2 I.1, st_19_m1 I.1, st_20_m2 I.1, st_20_m1 I.1, st_21_m2 I.1, st_21_m1 I.1, st_22_m2 I.1, st_22_m1 I.1, st_23_m2 I.1, st_23_m1 I.1, st_24_m2 I.1, st_24_m1 I.1]; first | done | omega)) (by first | assumption | (simp (disch := omega) only [up2_ne, up2_eq, it1.1, it1.2.1, it1.2.2, r22, r23, r24, st_11_m1 I.1, st_11_0 I.1, st_11_1 I.1, st_11_2 I.1, st_11_3 I.1, st_11_4 I.1, st_11_5 I.1, st_19_m2 I.1, st_19_m1 I.1, st_20_m2 I.1, st_20_m1 I.1, st_21_m2 I.1, st_21_m1 I.1, st_22_m2 I.1, st_22_m1 I.1, st_23_m2 I.1, st_23_m1 I.1, st_24_m2 I.1, st_24_m1 I.1]; first | done | rfl | omega)) (by first | omega | (simp (disch := omega) only [up2_ne, up2_eq, it1.1, it1.2.1, it1.2.2, r22, r23, r24, st_11_m1 I.1, st_11_0 I.1, st_11_1 I.1, st_11_2 I.1, st_11_3 I.1, st_11_4 I.1, st_11_5 I.1, st_19_m2 I.1, st_19_m1 I.1, st_20_m2 I.1, st_20_m1 I.1, st_21_m2 I.1, st_21_m1 I.1, st_22_m2 I.1, st_22_m1 I.1, st_23_m2 I.1, st_23_m1 I.1, st_24_m2 I.1, st_24_m1 I.1]; first | done | omega)) (by first | omega | (simp (disch := omega) only [up2_ne, up2_eq, it1.1, it1.2.1, it1.2.2, r22, r23, r24, st_11_m1 I.1, st_11_0 I.1, st_11_1 I.1, st_11_2 I.1, st_11_3 I.1, st_11_4 I.1, st_11_5 I.1, st_19_m2 I.1, st_19_m1 I.1, st_20_m2 I.1, st_20_m1 I.1, st_21_m2 I.1, st_21_m1 I.1, st_22_m2 I.1, st_22_m1 I.1, st_23_m2 I.1, st_23_m1 I.1, st_24_m2 I.1, st_24_m1 I.1]; first | done | omega)) ?_
      try simp (disch := omega) only [up2_ne, up2_eq, it1.1, it1.2.1, it1.2.2, r22, r23, r24, st_11_m1 I.1, st_11_0 I.1, st_11_1 I.1, st_11_2 I.1, st_11_3 I.1, st_11_4 I.1, st_11_5 I.1, st_19_m2 I.1, st_19_m1 I.1, st_20_m2 I.1, st_20_m1 I.1, st_21_m2 I.1, st_21_m1 I.1, st_22_m2 I.1, st_22_m1 I.1, st_23_m2 I.1, st_23_m1 I.1, st_24_m2 I.1, st_24_m1 I.1]
      refine wp_iconst dX1_bestSet_96 ?_
      refine wp_aload_n rfl rfl dX1_bestSet_97 ?_
      refine wp_getfield1 (z := 2) (kI := 0) fX1_9 dX1_bestSet_98 (by first | omega | (simp (disch := omega) only [up2_ne, up2_eq, it1.1, it1.2.1, it1.2.2, r22, r23, r24, st_11_m1 I.1, st_11_0 I.1, st_11_1 I.1, st_11_2 I.1, st_11_3 I.1, st_11_4 I.1, st_11_5 I.1, st_19_m2 I.1, st_19_m1 I.1, st_20_m2 I.1, st_20_m1 I.1, st_21_m2 I.1, st_21_m1 I.1, st_22_m2 I.1, st_22_m1 I.1, st_23_m2 I.1, st_23_m1 I.1, st_24_m2 I.1, st_24_m1 I.1]; first | done | omega)) (by first | assumption | (simp (disch := omega) only [up2_ne, up2_eq, it1.1, it1.2.1, it1.2.2, r22, r23, r24, st_11_m1 I.1, st_11_0 I.1, st_11_1 I.1, st_11_2 I.1, st_11_3 I.1, st_11_4 I.1, st_11_5 I.1, st_19_m2 I.1, st_19_m1 I.1, st_20_m2 I.1, st_20_m1 I.1, st_21_m2 I.1, st_21_m1 I.1, st_22_m2 I.1, st_22_m1 I.1, st_23_m2 I.1, st_23_m1 I.1, st_24_m2 I.1, st_24_m1 I.1]; first | done | rfl | omega)) rfl rfl ?_
      try simp (disch := omega) only [up2_ne, up2_eq, it1.1, it1.2.1, it1.2.2, r22, r23, r24, st_11_m1 I.1, st_11_0 I.1, st_11_1 I.1, st_11_2 I.1, st_11_3 I.1, st_11_4 I.1, st_11_5 I.1, st_19_m2 I.1, st_19_m1 I.1, st_20_m2 I.1, st_20_m1 I.1, st_21_m2 I.1, st_21_m1 I.1, st_22_m2 I.1, st_22_m1 I.1, st_23_m2 I.1, st_23_m1 I.1, st_24_m2 I.1, st_24_m1 I.1]
      refine wp_iload_n rfl rfl dX1_bestSet_101 ?_
      refine wp_iaload1 dX1_bestSet_102 (by first | omega | (simp (disch := omega) only [up2_ne, up2_eq, it1.1, it1.2.1, it1.2.2, r22, r23, r24, st_11_m1 I.1, st_11_0 I.1, st_11_1 I.1, st_11_2 I.1, st_11_3 I.1, st_11_4 I.1, st_11_5 I.1, st_19_m2 I.1, st_19_m1 I.1, st_20_m2 I.1, st_20_m1 I.1, st_21_m2 I.1, st_21_m1 I.1, st_22_m2 I.1, st_22_m1 I.1, st_23_m2 I.1, st_23_m1 I.1, st_24_m2 I.1, st_24_m1 I.1]; first | done | omega)) (by first | assumption | (simp (disch := omega) only [up2_ne, up2_eq, it1.1, it1.2.1, it1.2.2, r22, r23, r24, st_11_m1 I.1, st_11_0 I.1, st_11_1 I.1, st_11_2 I.1, st_11_3 I.1, st_11_4 I.1, st_11_5 I.1, st_19_m2 I.1, st_19_m1 I.1, st_20_m2 I.1, st_20_m1 I.1, st_21_m2 I.1, st_21_m1 I.1, st_22_m2 I.1, st_22_m1 I.1, st_23_m2 I.1, st_23_m1 I.1, st_24_m2 I.1, st_24_m1 I.1]; first | done | rfl | omega)) (by first | omega | (simp (disch := omega) only [up2_ne, up2_eq, it1.1, it1.2.1, it1.2.2, r22, r23, r24, st_11_m1 I.1, st_11_0 I.1, st_11_1 I.1, st_11_2 I.1, st_11_3 I.1, st_11_4 I.1, st_11_5 I.1, st_19_m2 I.1, st_19_m1 I.1, st_20_m2 I.1, st_20_m1 I.1, st_21_m2 I.1, st_21_m1 I.1, st_22_m2 I.1, st_22_m1 I.1, st_23_m2 I.1, st_23_m1 I.1, st_24_m2 I.1, st_24_m1 I.1]; first | done | omega)) (by first | omega | (simp (disch := omega) only [up2_ne, up2_eq, it1.1, it1.2.1, it1.2.2, r22, r23, r24, st_11_m1 I.1, st_11_0 I.1, st_11_1 I.1, st_11_2 I.1, st_11_3 I.1, st_11_4 I.1, st_11_5 I.1, st_19_m2 I.1, st_19_m1 I.1, st_20_m2 I.1, st_20_m1 I.1, st_21_m2 I.1, st_21_m1 I.1, st_22_m2 I.1, st_22_m1 I.1, st_23_m2 I.1, st_23_m1 I.1, st_24_m2 I.1, st_24_m1 I.1]; first | done | omega)) ?_
      try simp (disch := omega) only [up2_ne, up2_eq, it1.1, it1.2.1, it1.2.2, r22, r23, r24, st_11_m1 I.1, st_11_0 I.1, st_11_1 I.1, st_11_2 I.1, st_11_3 I.1, st_11_4 I.1, st_11_5 I.1, st_19_m2 I.1, st_19_m1 I.1, st_20_m2 I.1, st_20_m1 I.1, st_21_m2 I.1, st_21_m1 I.1, st_22_m2 I.1, st_22_m1 I.1, st_23_m2 I.1, st_23_m1 I.1, st_24_m2 I.1, st_24_m1 I.1]
      refine wp_ishl dX1_bestSet_103 ?_
      refine wp_ior dX1_bestSet_104 ?_
      rw [hor]
      refine wp_iastore1 dX1_bestSet_105 (by first | omega | (simp (disch := omega) only [up2_ne, up2_eq, it1.1, it1.2.1, it1.2.2, r22, r23, r24, st_11_m1 I.1, st_11_0 I.1, st_11_1 I.1, st_11_2 I.1, st_11_3 I.1, st_11_4 I.1, st_11_5 I.1, st_19_m2 I.1, st_19_m1 I.1, st_20_m2 I.1, st_20_m1 I.1, st_21_m2 I.1, st_21_m1 I.1, st_22_m2 I.1, st_22_m1 I.1, st_23_m2 I.1, st_23_m1 I.1, st_24_m2 I.1, st_24_m1 I.1]; first | done | omega)) (by first | assumption | (simp (disch := omega) only [up2_ne, up2_eq, it1.1, it1.2.1, it1.2.2, r22, r23, r24, st_11_m1 I.1, st_11_0 I.1, st_11_1 I.1, st_11_2 I.1, st_11_3 I.1, st_11_4 I.1, st_11_5 I.1, st_19_m2 I.1, st_19_m1 I.1, st_20_m2 I.1, st_20_m1 I.1, st_21_m2 I.1, st_21_m1 I.1, st_22_m2 I.1, st_22_m1 I.1, st_23_m2 I.1, st_23_m1 I.1, st_24_m2 I.1, st_24_m1 I.1]; first | done | rfl | omega)) (by first | omega | (simp (disch := omega) only [up2_ne, up2_eq, it1.1, it1.2.1, it1.2.2, r22, r23, r24, st_11_m1 I.1, st_11_0 I.1, st_11_1 I.1, st_11_2 I.1, st_11_3 I.1, st_11_4 I.1, st_11_5 I.1, st_19_m2 I.1, st_19_m1 I.1, st_20_m2 I.1, st_20_m1 I.1, st_21_m2 I.1, st_21_m1 I.1, st_22_m2 I.1, st_22_m1 I.1, st_23_m2 I.1, st_23_m1 I.1, st_24_m2 I.1, st_24_m1 I.1]; first | done | omega)) (by first | omega | (simp (disch := omega) only [up2_ne, up2_eq, it1.1, it1.2.1, it1.2.2, r22, r23, r24, st_11_m1 I.1, st_11_0 I.1, st_11_1 I.1, st_11_2 I.1, st_11_3 I.1, st_11_4 I.1, st_11_5 I.1, st_19_m2 I.1, st_19_m1 I.1, st_20_m2 I.1, st_20_m1 I.1, st_21_m2 I.1, st_21_m1 I.1, st_22_m2 I.1, st_22_m1 I.1, st_23_m2 I.1, st_23_m1 I.1, st_24_m2 I.1, st_24_m1 I.1]; first | done | omega)) ?_
      refine wp_iinc rfl rfl dX1_bestSet_106 rfl rfl ?_
      try simp only [List.set_cons_zero, List.set_cons_succ]
      refine wp_goto (tgt := 37) dX1_bestSet_109 (by decide) ?_
      rw [show ((p.length : Nat) : Int) + -1 = ((p.length : Nat) : Int) - 1 by omega]
      refine ih (a :: t) _ hl2 ?_ ?_ ?_
      · refine ⟨⟨by simp (disch := omega) only [up2_ne]; omega, ?_⟩, sfx_up t hf (fun x k z => by simp (disch := omega) only [up2_ne])⟩
        simp (disch := omega) only [up2_ne, up2_eq]
        refine ⟨it1.1, it1.2.1, it1.2.2, ?_, ?_, ?_⟩
        · show (tl m t).2.1 + m 215 a = m 215 a + (tl m t).2.1
          omega
        · show (tl m t).1 + wC m a = wC m a + (tl m t).1
          omega
        · show (tl m t).2.2 + 2 ^ a.toNat = 2 ^ a.toNat + (tl m t).2.2
          omega
      · exact itI_cg I (((I.1.upA (by decide +kernel) (by omega)).upA (by decide +kernel) (by omega)).upA (by decide +kernel) (by omega)) (fun x k z => by simp (disch := omega) only [up2_ne])
      · intro x k z
        simp (disch := omega) only [up2_ne]
        exact hK x k z
  show WP (gX (gq u)) MX1_bestSet (d + l.length + 2) b (fun r h1 => r = (0, (sch L (l.map (ti m)) (0, 0, 0) (0, 0, 0)).2.2) ∧ St h1 ∧ Kx g h1) 0 [(2, 11), (9, 0)] [] g
  refine wp_aload_n rfl rfl dX1_bestSet_0 ?_
  refine wp_getfield1 (z := 2) (kI := 3) fX1_21 dX1_bestSet_1 (by first | omega | (simp (disch := omega) only [up2_ne, up2_eq, hl6, st_11_m1 I.1, st_11_3 I.1, st_11_4 I.1, st_11_5 I.1, st_22_m2 I.1, st_22_m1 I.1, st_23_m2 I.1, st_23_m1 I.1, st_24_m2 I.1, st_24_m1 I.1]; first | done | omega)) (by first | assumption | (simp (disch := omega) only [up2_ne, up2_eq, hl6, st_11_m1 I.1, st_11_3 I.1, st_11_4 I.1, st_11_5 I.1, st_22_m2 I.1, st_22_m1 I.1, st_23_m2 I.1, st_23_m1 I.1, st_24_m2 I.1, st_24_m1 I.1]; first | done | rfl | omega)) rfl rfl ?_
  try simp (disch := omega) only [up2_ne, up2_eq, hl6, st_11_m1 I.1, st_11_3 I.1, st_11_4 I.1, st_11_5 I.1, st_22_m2 I.1, st_22_m1 I.1, st_23_m2 I.1, st_23_m1 I.1, st_24_m2 I.1, st_24_m1 I.1]
  refine wp_aload_n rfl rfl dX1_bestSet_4 ?_
  refine wp_getfield1 (z := 2) (kI := 6) fX1_34 dX1_bestSet_5 (by first | omega | (simp (disch := omega) only [up2_ne, up2_eq, hl6, st_11_m1 I.1, st_11_3 I.1, st_11_4 I.1, st_11_5 I.1, st_22_m2 I.1, st_22_m1 I.1, st_23_m2 I.1, st_23_m1 I.1, st_24_m2 I.1, st_24_m1 I.1]; first | done | omega)) (by first | assumption | (simp (disch := omega) only [up2_ne, up2_eq, hl6, st_11_m1 I.1, st_11_3 I.1, st_11_4 I.1, st_11_5 I.1, st_22_m2 I.1, st_22_m1 I.1, st_23_m2 I.1, st_23_m1 I.1, st_24_m2 I.1, st_24_m1 I.1]; first | done | rfl | omega)) rfl rfl ?_
  try simp (disch := omega) only [up2_ne, up2_eq, hl6, st_11_m1 I.1, st_11_3 I.1, st_11_4 I.1, st_11_5 I.1, st_22_m2 I.1, st_22_m1 I.1, st_23_m2 I.1, st_23_m1 I.1, st_24_m2 I.1, st_24_m1 I.1]
  refine wp_iconst dX1_bestSet_8 ?_
  refine wp_iastore1 dX1_bestSet_9 (by first | omega | (simp (disch := omega) only [up2_ne, up2_eq, hl6, st_11_m1 I.1, st_11_3 I.1, st_11_4 I.1, st_11_5 I.1, st_22_m2 I.1, st_22_m1 I.1, st_23_m2 I.1, st_23_m1 I.1, st_24_m2 I.1, st_24_m1 I.1]; first | done | omega)) (by first | assumption | (simp (disch := omega) only [up2_ne, up2_eq, hl6, st_11_m1 I.1, st_11_3 I.1, st_11_4 I.1, st_11_5 I.1, st_22_m2 I.1, st_22_m1 I.1, st_23_m2 I.1, st_23_m1 I.1, st_24_m2 I.1, st_24_m1 I.1]; first | done | rfl | omega)) (by first | omega | (simp (disch := omega) only [up2_ne, up2_eq, hl6, st_11_m1 I.1, st_11_3 I.1, st_11_4 I.1, st_11_5 I.1, st_22_m2 I.1, st_22_m1 I.1, st_23_m2 I.1, st_23_m1 I.1, st_24_m2 I.1, st_24_m1 I.1]; first | done | omega)) (by first | omega | (simp (disch := omega) only [up2_ne, up2_eq, hl6, st_11_m1 I.1, st_11_3 I.1, st_11_4 I.1, st_11_5 I.1, st_22_m2 I.1, st_22_m1 I.1, st_23_m2 I.1, st_23_m1 I.1, st_24_m2 I.1, st_24_m1 I.1]; first | done | omega)) ?_
  refine wp_aload_n rfl rfl dX1_bestSet_10 ?_
  refine wp_getfield1 (z := 2) (kI := 4) fX1_24 dX1_bestSet_11 (by first | omega | (simp (disch := omega) only [up2_ne, up2_eq, hl6, st_11_m1 I.1, st_11_3 I.1, st_11_4 I.1, st_11_5 I.1, st_22_m2 I.1, st_22_m1 I.1, st_23_m2 I.1, st_23_m1 I.1, st_24_m2 I.1, st_24_m1 I.1]; first | done | omega)) (by first | assumption | (simp (disch := omega) only [up2_ne, up2_eq, hl6, st_11_m1 I.1, st_11_3 I.1, st_11_4 I.1, st_11_5 I.1, st_22_m2 I.1, st_22_m1 I.1, st_23_m2 I.1, st_23_m1 I.1, st_24_m2 I.1, st_24_m1 I.1]; first | done | rfl | omega)) rfl rfl ?_
  try simp (disch := omega) only [up2_ne, up2_eq, hl6, st_11_m1 I.1, st_11_3 I.1, st_11_4 I.1, st_11_5 I.1, st_22_m2 I.1, st_22_m1 I.1, st_23_m2 I.1, st_23_m1 I.1, st_24_m2 I.1, st_24_m1 I.1]
  refine wp_aload_n rfl rfl dX1_bestSet_14 ?_
  refine wp_getfield1 (z := 2) (kI := 6) fX1_34 dX1_bestSet_15 (by first | omega | (simp (disch := omega) only [up2_ne, up2_eq, hl6, st_11_m1 I.1, st_11_3 I.1, st_11_4 I.1, st_11_5 I.1, st_22_m2 I.1, st_22_m1 I.1, st_23_m2 I.1, st_23_m1 I.1, st_24_m2 I.1, st_24_m1 I.1]; first | done | omega)) (by first | assumption | (simp (disch := omega) only [up2_ne, up2_eq, hl6, st_11_m1 I.1, st_11_3 I.1, st_11_4 I.1, st_11_5 I.1, st_22_m2 I.1, st_22_m1 I.1, st_23_m2 I.1, st_23_m1 I.1, st_24_m2 I.1, st_24_m1 I.1]; first | done | rfl | omega)) rfl rfl ?_
  try simp (disch := omega) only [up2_ne, up2_eq, hl6, st_11_m1 I.1, st_11_3 I.1, st_11_4 I.1, st_11_5 I.1, st_22_m2 I.1, st_22_m1 I.1, st_23_m2 I.1, st_23_m1 I.1, st_24_m2 I.1, st_24_m1 I.1]
  refine wp_iconst dX1_bestSet_18 ?_
  refine wp_iastore1 dX1_bestSet_19 (by first | omega | (simp (disch := omega) only [up2_ne, up2_eq, hl6, st_11_m1 I.1, st_11_3 I.1, st_11_4 I.1, st_11_5 I.1, st_22_m2 I.1, st_22_m1 I.1, st_23_m2 I.1, st_23_m1 I.1, st_24_m2 I.1, st_24_m1 I.1]; first | done | omega)) (by first | assumption | (simp (disch := omega) only [up2_ne, up2_eq, hl6, st_11_m1 I.1, st_11_3 I.1, st_11_4 I.1, st_11_5 I.1, st_22_m2 I.1, st_22_m1 I.1, st_23_m2 I.1, st_23_m1 I.1, st_24_m2 I.1, st_24_m1 I.1]; first | done | rfl | omega)) (by first | omega | (simp (disch := omega) only [up2_ne, up2_eq, hl6, st_11_m1 I.1, st_11_3 I.1, st_11_4 I.1, st_11_5 I.1, st_22_m2 I.1, st_22_m1 I.1, st_23_m2 I.1, st_23_m1 I.1, st_24_m2 I.1, st_24_m1 I.1]; first | done | omega)) (by first | omega | (simp (disch := omega) only [up2_ne, up2_eq, hl6, st_11_m1 I.1, st_11_3 I.1, st_11_4 I.1, st_11_5 I.1, st_22_m2 I.1, st_22_m1 I.1, st_23_m2 I.1, st_23_m1 I.1, st_24_m2 I.1, st_24_m1 I.1]; first | done | omega)) ?_
  refine wp_aload_n rfl rfl dX1_bestSet_20 ?_
  refine wp_getfield1 (z := 2) (kI := 5) fX1_27 dX1_bestSet_21 (by first | omega | (simp (disch := omega) only [up2_ne, up2_eq, hl6, st_11_m1 I.1, st_11_3 I.1, st_11_4 I.1, st_11_5 I.1, st_22_m2 I.1, st_22_m1 I.1, st_23_m2 I.1, st_23_m1 I.1, st_24_m2 I.1, st_24_m1 I.1]; first | done | omega)) (by first | assumption | (simp (disch := omega) only [up2_ne, up2_eq, hl6, st_11_m1 I.1, st_11_3 I.1, st_11_4 I.1, st_11_5 I.1, st_22_m2 I.1, st_22_m1 I.1, st_23_m2 I.1, st_23_m1 I.1, st_24_m2 I.1, st_24_m1 I.1]; first | done | rfl | omega)) rfl rfl ?_
  try simp (disch := omega) only [up2_ne, up2_eq, hl6, st_11_m1 I.1, st_11_3 I.1, st_11_4 I.1, st_11_5 I.1, st_22_m2 I.1, st_22_m1 I.1, st_23_m2 I.1, st_23_m1 I.1, st_24_m2 I.1, st_24_m1 I.1]
  refine wp_aload_n rfl rfl dX1_bestSet_24 ?_
  refine wp_getfield1 (z := 2) (kI := 6) fX1_34 dX1_bestSet_25 (by first | omega | (simp (disch := omega) only [up2_ne, up2_eq, hl6, st_11_m1 I.1, st_11_3 I.1, st_11_4 I.1, st_11_5 I.1, st_22_m2 I.1, st_22_m1 I.1, st_23_m2 I.1, st_23_m1 I.1, st_24_m2 I.1, st_24_m1 I.1]; first | done | omega)) (by first | assumption | (simp (disch := omega) only [up2_ne, up2_eq, hl6, st_11_m1 I.1, st_11_3 I.1, st_11_4 I.1, st_11_5 I.1, st_22_m2 I.1, st_22_m1 I.1, st_23_m2 I.1, st_23_m1 I.1, st_24_m2 I.1, st_24_m1 I.1]; first | done | rfl | omega)) rfl rfl ?_
  try simp (disch := omega) only [up2_ne, up2_eq, hl6, st_11_m1 I.1, st_11_3 I.1, st_11_4 I.1, st_11_5 I.1, st_22_m2 I.1, st_22_m1 I.1, st_23_m2 I.1, st_23_m1 I.1, st_24_m2 I.1, st_24_m1 I.1]
  refine wp_iconst dX1_bestSet_28 ?_
  refine wp_iastore1 dX1_bestSet_29 (by first | omega | (simp (disch := omega) only [up2_ne, up2_eq, hl6, st_11_m1 I.1, st_11_3 I.1, st_11_4 I.1, st_11_5 I.1, st_22_m2 I.1, st_22_m1 I.1, st_23_m2 I.1, st_23_m1 I.1, st_24_m2 I.1, st_24_m1 I.1]; first | done | omega)) (by first | assumption | (simp (disch := omega) only [up2_ne, up2_eq, hl6, st_11_m1 I.1, st_11_3 I.1, st_11_4 I.1, st_11_5 I.1, st_22_m2 I.1, st_22_m1 I.1, st_23_m2 I.1, st_23_m1 I.1, st_24_m2 I.1, st_24_m1 I.1]; first | done | rfl | omega)) (by first | omega | (simp (disch := omega) only [up2_ne, up2_eq, hl6, st_11_m1 I.1, st_11_3 I.1, st_11_4 I.1, st_11_5 I.1, st_22_m2 I.1, st_22_m1 I.1, st_23_m2 I.1, st_23_m1 I.1, st_24_m2 I.1, st_24_m1 I.1]; first | done | omega)) (by first | omega | (simp (disch := omega) only [up2_ne, up2_eq, hl6, st_11_m1 I.1, st_11_3 I.1, st_11_4 I.1, st_11_5 I.1, st_22_m2 I.1, st_22_m1 I.1, st_23_m2 I.1, st_23_m1 I.1, st_24_m2 I.1, st_24_m1 I.1]; first | done | omega)) ?_
  refine wp_aload_n rfl rfl dX1_bestSet_30 ?_
  refine wp_getfield1 (z := 2) (kI := 6) fX1_34 dX1_bestSet_31 (by first | omega | (simp (disch := omega) only [up2_ne, up2_eq, hl6, st_11_m1 I.1, st_11_3 I.1, st_11_4 I.1, st_11_5 I.1, st_22_m2 I.1, st_22_m1 I.1, st_23_m2 I.1, st_23_m1 I.1, st_24_m2 I.1, st_24_m1 I.1]; first | done | omega)) (by first | assumption | (simp (disch := omega) only [up2_ne, up2_eq, hl6, st_11_m1 I.1, st_11_3 I.1, st_11_4 I.1, st_11_5 I.1, st_22_m2 I.1, st_22_m1 I.1, st_23_m2 I.1, st_23_m1 I.1, st_24_m2 I.1, st_24_m1 I.1]; first | done | rfl | omega)) rfl rfl ?_
  try simp (disch := omega) only [up2_ne, up2_eq, hl6, st_11_m1 I.1, st_11_3 I.1, st_11_4 I.1, st_11_5 I.1, st_22_m2 I.1, st_22_m1 I.1, st_23_m2 I.1, st_23_m1 I.1, st_24_m2 I.1, st_24_m1 I.1]
  refine wp_iconst dX1_bestSet_34 ?_
  refine wp_isub dX1_bestSet_35 ?_
  refine wp_istore_n rfl dX1_bestSet_36 rfl (Nat.le_of_ble_eq_true rfl) rfl ?_
  try simp only [List.set_cons_zero, List.set_cons_succ]
  have l0 := fun g1 => loop l.reverse [] g1 (by rw [List.reverse_reverse, List.append_nil])
  rw [List.length_reverse] at l0
  refine l0 _ ?_ ?_ ?_
  · unfold sfx
    refine ⟨?_, ?_, ?_, ?_⟩
    · simp (disch := omega) only [up2_ne]
      exact hl6
    all_goals simp (disch := omega) only [up2_ne, up2_eq]
  · exact itI_cg I (((I.1.upA (by decide +kernel) (by omega)).upA (by decide +kernel) (by omega)).upA (by decide +kernel) (by omega)) (fun x k z => by simp (disch := omega) only [up2_ne])
  · intro x k z
    simp (disch := omega) only [up2_ne]
