/-! ===== constructors of what comes and goes; the first public methods, class and reference ===== -/
theorem s_X2_init {u : gT} {h : mH} {d b : Nat} {a e : Int} (ha : 0 ≤ a) (hz : h a (-1) = 3) : Det (gX (gq u)) MX2_init (d + 1) b [(2, a), (0, e)] h (9, 0) (up2 h a 0 e) := by
  intro Q hQ
  show WP (gX (gq u)) MX2_init (d + 1) b Q 0 [(2, a), (0, e)] [] h
  refine wp_aload_n rfl rfl dX2_init_0 ?_
  refine wp_objInit wX2_1.1 wX2_1.2.1 wX2_1.2.2 dX2_init_1 (by first | omega | (simp (disch := omega) only [up2_ne, up2_eq, hz]; first | done | omega)) (by decide) ?_
  refine wp_aload_n rfl rfl dX2_init_4 ?_
  refine wp_iload_n rfl rfl dX2_init_5 ?_
  refine wp_putfinal1 (z := 3) (kI := 0) fX2_7 rfl (fun _ q => by cases q; rfl) dX2_init_6 (by first | omega | (simp (disch := omega) only [up2_ne, up2_eq, hz]; first | done | omega)) (by first | assumption | (simp (disch := omega) only [up2_ne, up2_eq, hz]; first | done | rfl | omega)) rfl rfl ?_
  refine wp_vret dX2_init_9 rfl ?_
  exact hQ
theorem s_X6_init {u : gT} {h : mH} {d b : Nat} {a n t ho l : Int} (ha : 0 ≤ a) (hz : h a (-1) = 7) : Det (gX (gq u)) MX6_init (d + 1) b [(2, a), (0, n), (0, t), (0, ho), (0, l)] h (9, 0) (up2 (up2 (up2 (up2 h a 0 n) a 1 t) a 2 ho) a 3 l) := by
  intro Q hQ
  show WP (gX (gq u)) MX6_init (d + 1) b Q 0 [(2, a), (0, n), (0, t), (0, ho), (0, l)] [] h
  refine wp_aload_n rfl rfl dX6_init_0 ?_
  refine wp_objInit wX6_1.1 wX6_1.2.1 wX6_1.2.2 dX6_init_1 (by first | omega | (simp (disch := omega) only [up2_ne, up2_eq, hz]; first | done | omega)) (by decide) ?_
  refine wp_aload_n rfl rfl dX6_init_4 ?_
  refine wp_iload_n rfl rfl dX6_init_5 ?_
  refine wp_putfinal1 (z := 7) (kI := 0) fX6_7 rfl (fun _ q => by cases q; rfl) dX6_init_6 (by first | omega | (simp (disch := omega) only [up2_ne, up2_eq, hz]; first | done | omega)) (by first | assumption | (simp (disch := omega) only [up2_ne, up2_eq, hz]; first | done | rfl | omega)) rfl rfl ?_
  refine wp_aload_n rfl rfl dX6_init_9 ?_
  refine wp_iload_n rfl rfl dX6_init_10 ?_
  refine wp_putfinal1 (z := 7) (kI := 1) fX6_13 rfl (fun _ q => by cases q; rfl) dX6_init_11 (by first | omega | (simp (disch := omega) only [up2_ne, up2_eq, hz]; first | done | omega)) (by first | assumption | (simp (disch := omega) only [up2_ne, up2_eq, hz]; first | done | rfl | omega)) rfl rfl ?_
  refine wp_aload_n rfl rfl dX6_init_14 ?_
  refine wp_iload_n rfl rfl dX6_init_15 ?_
  refine wp_putfinal1 (z := 7) (kI := 2) fX6_16 rfl (fun _ q => by cases q; rfl) dX6_init_16 (by first | omega | (simp (disch := omega) only [up2_ne, up2_eq, hz]; first | done | omega)) (by first | assumption | (simp (disch := omega) only [up2_ne, up2_eq, hz]; first | done | rfl | omega)) rfl rfl ?_
  refine wp_aload_n rfl rfl dX6_init_19 ?_
  refine wp_iload rfl dX6_init_20 ?_
  refine wp_putfinal1 (z := 7) (kI := 3) fX6_19 rfl (fun _ q => by cases q; rfl) dX6_init_22 (by first | omega | (simp (disch := omega) only [up2_ne, up2_eq, hz]; first | done | omega)) (by first | assumption | (simp (disch := omega) only [up2_ne, up2_eq, hz]; first | done | rfl | omega)) rfl rfl ?_
  refine wp_vret dX6_init_25 rfl ?_
  exact hQ
def fundH (g : gG) (h : mH) (e : Int) : mH := up2 (up2 (up2 (nwh (gX g) h (100 + h 1 11) 3 0) (100 + h 1 11) 0 e) 2 (h 1 11) (100 + h 1 11)) 1 11 (h 1 11 + 1)
theorem s_X11_fund {u : gT} {h : mH} {d : Nat} {e : Int} (hS : St h) (i1 : InI e) (n0 : 0 ≤ h 1 11) (n1 : h 1 11 ≤ 5) (hfr : h 1 11 < 5 → h (100 + h 1 11) (-1) = 0) : Rlt (gX (gq u)) MX11_fund (d + 2) 300 [(2, 1), (0, e)] h (fun r h1 => (¬ (0 ≤ e ∧ e ≤ 63) ∧ r = (0, -2) ∧ h1 = h) ∨ ((0 ≤ e ∧ e ≤ 63) ∧ 5 ≤ h 1 11 ∧ r = (0, -4) ∧ h1 = h) ∨ ((0 ≤ e ∧ e ≤ 63) ∧ h 1 11 < 5 ∧ r = (0, h 1 11 + 1 - 1) ∧ h1 = fundH (gq u) h e)) := by
  refine Rlt.of ?_
  show WP (gX (gq u)) MX11_fund (d + 2) 300 _ 0 [(2, 1), (0, e)] [] h
  refine wp_iload_n rfl rfl dX11_fund_0 ?_
  refine wp_iconst dX11_fund_1 ?_
  refine wp_bipush (by decide) dX11_fund_2 ?_
  refine wp_cS3 okX11_isWithin wX11_98 dX11_fund_4 rfl (Nat.le_of_ble_eq_true rfl) (Nat.le_of_ble_eq_true rfl) (s_X11_isWithin i1 In0 ⟨by decide, by decide⟩) (Nat.zero_le _) ?_
  try simp (disch := omega) only [up2_ne, up2_eq, nw_ne, nw_m1, nw_m2, nw_i, nw_q, st_1_m1 hS, st_1_0 hS, st_2_m2 hS, st_2_m1 hS]
  refine wp_ifB_ne (tgt := 13) dX11_fund_7 (by decide) (fun c1 => ?_) (fun c1 => ?_)
  · refine wp_aload_n rfl rfl dX11_fund_13 ?_
    refine wp_getfield1 (z := 12) (kI := 11) fX11_102 dX11_fund_14 (by first | omega | (simp (disch := omega) only [up2_ne, up2_eq, nw_ne, nw_m1, nw_m2, nw_i, nw_q, st_1_m1 hS, st_1_0 hS, st_2_m2 hS, st_2_m1 hS]; first | done | omega)) (by first | assumption | (simp (disch := omega) only [up2_ne, up2_eq, nw_ne, nw_m1, nw_m2, nw_i, nw_q, st_1_m1 hS, st_1_0 hS, st_2_m2 hS, st_2_m1 hS]; first | done | rfl | omega)) rfl rfl ?_
    try simp (disch := omega) only [up2_ne, up2_eq, nw_ne, nw_m1, nw_m2, nw_i, nw_q, st_1_m1 hS, st_1_0 hS, st_2_m2 hS, st_2_m1 hS]
    refine wp_aload_n rfl rfl dX11_fund_17 ?_
    refine wp_getfield1 (z := 12) (kI := 0) fX11_11 dX11_fund_18 (by first | omega | (simp (disch := omega) only [up2_ne, up2_eq, nw_ne, nw_m1, nw_m2, nw_i, nw_q, st_1_m1 hS, st_1_0 hS, st_2_m2 hS, st_2_m1 hS]; first | done | omega)) (by first | assumption | (simp (disch := omega) only [up2_ne, up2_eq, nw_ne, nw_m1, nw_m2, nw_i, nw_q, st_1_m1 hS, st_1_0 hS, st_2_m2 hS, st_2_m1 hS]; first | done | rfl | omega)) rfl rfl ?_
    try simp (disch := omega) only [up2_ne, up2_eq, nw_ne, nw_m1, nw_m2, nw_i, nw_q, st_1_m1 hS, st_1_0 hS, st_2_m2 hS, st_2_m1 hS]
    refine wp_alen1 dX11_fund_21 (by first | omega | (simp (disch := omega) only [up2_ne, up2_eq, nw_ne, nw_m1, nw_m2, nw_i, nw_q, st_1_m1 hS, st_1_0 hS, st_2_m2 hS, st_2_m1 hS]; first | done | omega)) (by first | omega | (simp (disch := omega) only [up2_ne, up2_eq, nw_ne, nw_m1, nw_m2, nw_i, nw_q, st_1_m1 hS, st_1_0 hS, st_2_m2 hS, st_2_m1 hS]; first | done | omega)) ?_
    try simp (disch := omega) only [up2_ne, up2_eq, nw_ne, nw_m1, nw_m2, nw_i, nw_q, st_1_m1 hS, st_1_0 hS, st_2_m2 hS, st_2_m1 hS]
    refine wp_icmp_lt (tgt := 28) (by first | assumption | exact bI_in _ | exact ⟨by omega, by omega⟩ | exact iAnd_in | exact iOr_in | exact iShr_in | exact iShl_in | exact iXor_in | exact hxs _) (by first | assumption | exact bI_in _ | exact ⟨by omega, by omega⟩ | exact iAnd_in | exact iOr_in | exact iShr_in | exact iShl_in | exact iXor_in | exact hxs _) dX11_fund_22 (by decide) (fun c2 => ?_) (fun c2 => ?_)
    · refine wp_aload_n rfl rfl dX11_fund_28 ?_
      refine wp_getfield1 (z := 12) (kI := 0) fX11_11 dX11_fund_29 (by first | omega | (simp (disch := omega) only [up2_ne, up2_eq, nw_ne, nw_m1, nw_m2, nw_i, nw_q, st_1_m1 hS, st_1_0 hS, st_2_m2 hS, st_2_m1 hS]; first | done | omega)) (by first | assumption | (simp (disch := omega) only [up2_ne, up2_eq, nw_ne, nw_m1, nw_m2, nw_i, nw_q, st_1_m1 hS, st_1_0 hS, st_2_m2 hS, st_2_m1 hS]; first | done | rfl | omega)) rfl rfl ?_
      try simp (disch := omega) only [up2_ne, up2_eq, nw_ne, nw_m1, nw_m2, nw_i, nw_q, st_1_m1 hS, st_1_0 hS, st_2_m2 hS, st_2_m1 hS]
      refine wp_aload_n rfl rfl dX11_fund_32 ?_
      refine wp_getfield1 (z := 12) (kI := 11) fX11_102 dX11_fund_33 (by first | omega | (simp (disch := omega) only [up2_ne, up2_eq, nw_ne, nw_m1, nw_m2, nw_i, nw_q, st_1_m1 hS, st_1_0 hS, st_2_m2 hS, st_2_m1 hS]; first | done | omega)) (by first | assumption | (simp (disch := omega) only [up2_ne, up2_eq, nw_ne, nw_m1, nw_m2, nw_i, nw_q, st_1_m1 hS, st_1_0 hS, st_2_m2 hS, st_2_m1 hS]; first | done | rfl | omega)) rfl rfl ?_
      try simp (disch := omega) only [up2_ne, up2_eq, nw_ne, nw_m1, nw_m2, nw_i, nw_q, st_1_m1 hS, st_1_0 hS, st_2_m2 hS, st_2_m1 hS]
      refine wp_new1 (a := (100 + h 1 11)) (ci := 2) (b' := 294) (z := 3) rfl clX11_9 inX2 iniX2 dX11_fund_36 rfl (by omega) (hfr (by omega)) (Nat.le_of_ble_eq_true rfl) ?_
      refine wp_dup (by decide) dX11_fund_39 ?_
      refine wp_iload_n rfl rfl dX11_fund_40 ?_
      refine wp_cI1v okX2_init ⟨rfl, rfl⟩ wX11_105 dX11_fund_41 (Nat.le_of_ble_eq_true rfl) (Nat.le_of_ble_eq_true rfl) (by first | omega | (simp (disch := omega) only [up2_ne, up2_eq, nw_ne, nw_m1, nw_m2, nw_i, nw_q, st_1_m1 hS, st_1_0 hS, st_2_m2 hS, st_2_m1 hS]; first | done | omega)) (s_X2_init (by omega) nw_m1) (Nat.zero_le _) ?_
      try simp (disch := omega) only [up2_ne, up2_eq, nw_ne, nw_m1, nw_m2, nw_i, nw_q, st_1_m1 hS, st_1_0 hS, st_2_m2 hS, st_2_m1 hS]
      refine wp_aastore1 (ci := 2) dX11_fund_44 (by first | omega | (simp (disch := omega) only [up2_ne, up2_eq, nw_ne, nw_m1, nw_m2, nw_i, nw_q, st_1_m1 hS, st_1_0 hS, st_2_m2 hS, st_2_m1 hS]; first | done | omega)) (by first | assumption | (simp (disch := omega) only [up2_ne, up2_eq, nw_ne, nw_m1, nw_m2, nw_i, nw_q, st_1_m1 hS, st_1_0 hS, st_2_m2 hS, st_2_m1 hS]; first | done | rfl | omega)) (by first | omega | (simp (disch := omega) only [up2_ne, up2_eq, nw_ne, nw_m1, nw_m2, nw_i, nw_q, st_1_m1 hS, st_1_0 hS, st_2_m2 hS, st_2_m1 hS]; first | done | omega)) (by first | omega | (simp (disch := omega) only [up2_ne, up2_eq, nw_ne, nw_m1, nw_m2, nw_i, nw_q, st_1_m1 hS, st_1_0 hS, st_2_m2 hS, st_2_m1 hS]; first | done | omega)) (by first | omega | (simp (disch := omega) only [up2_ne, up2_eq, nw_ne, nw_m1, nw_m2, nw_i, nw_q, st_1_m1 hS, st_1_0 hS, st_2_m2 hS, st_2_m1 hS]; first | done | omega)) (by first | assumption | (simp (disch := omega) only [up2_ne, up2_eq, nw_ne, nw_m1, nw_m2, nw_i, nw_q, st_1_m1 hS, st_1_0 hS, st_2_m2 hS, st_2_m1 hS]; first | done | rfl | omega)) (by decide) ?_
      refine wp_aload_n rfl rfl dX11_fund_45 ?_
      refine wp_dup (by decide) dX11_fund_46 ?_
      refine wp_getfield1 (z := 12) (kI := 11) fX11_102 dX11_fund_47 (by first | omega | (simp (disch := omega) only [up2_ne, up2_eq, nw_ne, nw_m1, nw_m2, nw_i, nw_q, st_1_m1 hS, st_1_0 hS, st_2_m2 hS, st_2_m1 hS]; first | done | omega)) (by first | assumption | (simp (disch := omega) only [up2_ne, up2_eq, nw_ne, nw_m1, nw_m2, nw_i, nw_q, st_1_m1 hS, st_1_0 hS, st_2_m2 hS, st_2_m1 hS]; first | done | rfl | omega)) rfl rfl ?_
      try simp (disch := omega) only [up2_ne, up2_eq, nw_ne, nw_m1, nw_m2, nw_i, nw_q, st_1_m1 hS, st_1_0 hS, st_2_m2 hS, st_2_m1 hS]
      refine wp_iconst dX11_fund_50 ?_
      refine wp_iadd dX11_fund_51 ?_
      refine wp_putfield1 (z := 12) (kI := 11) fX11_102 dX11_fund_52 (by first | omega | (simp (disch := omega) only [up2_ne, up2_eq, nw_ne, nw_m1, nw_m2, nw_i, nw_q, st_1_m1 hS, st_1_0 hS, st_2_m2 hS, st_2_m1 hS]; first | done | omega)) (by first | assumption | (simp (disch := omega) only [up2_ne, up2_eq, nw_ne, nw_m1, nw_m2, nw_i, nw_q, st_1_m1 hS, st_1_0 hS, st_2_m2 hS, st_2_m1 hS]; first | done | rfl | omega)) rfl rfl ?_
      refine wp_aload_n rfl rfl dX11_fund_55 ?_
      refine wp_getfield1 (z := 12) (kI := 11) fX11_102 dX11_fund_56 (by first | omega | (simp (disch := omega) only [up2_ne, up2_eq, nw_ne, nw_m1, nw_m2, nw_i, nw_q, st_1_m1 hS, st_1_0 hS, st_2_m2 hS, st_2_m1 hS]; first | done | omega)) (by first | assumption | (simp (disch := omega) only [up2_ne, up2_eq, nw_ne, nw_m1, nw_m2, nw_i, nw_q, st_1_m1 hS, st_1_0 hS, st_2_m2 hS, st_2_m1 hS]; first | done | rfl | omega)) rfl rfl ?_
      try simp (disch := omega) only [up2_ne, up2_eq, nw_ne, nw_m1, nw_m2, nw_i, nw_q, st_1_m1 hS, st_1_0 hS, st_2_m2 hS, st_2_m1 hS]
      refine wp_iconst dX11_fund_59 ?_
      refine wp_isub dX11_fund_60 ?_
      refine wp_iret dX11_fund_61 rfl ?_
      first | exact Or.inl ⟨by omega, rfl, rfl⟩ | exact Or.inr (Or.inl ⟨by omega, by omega, rfl, rfl⟩) | exact Or.inr (Or.inr ⟨by omega, by omega, rfl, rfl⟩)
    · refine wp_bipush (by decide) dX11_fund_25 ?_
      refine wp_iret dX11_fund_27 rfl ?_
      first | exact Or.inl ⟨by omega, rfl, rfl⟩ | exact Or.inr (Or.inl ⟨by omega, by omega, rfl, rfl⟩) | exact Or.inr (Or.inr ⟨by omega, by omega, rfl, rfl⟩)
  · refine wp_bipush (by decide) dX11_fund_10 ?_
    refine wp_iret dX11_fund_12 rfl ?_
    first | exact Or.inl ⟨by omega, rfl, rfl⟩ | exact Or.inr (Or.inl ⟨by omega, by omega, rfl, rfl⟩) | exact Or.inr (Or.inr ⟨by omega, by omega, rfl, rfl⟩)
theorem s_X12_fund {u : gT} {h : mH} {d b : Nat} {e : Int} (hS : St h) (i1 : InI e) (n0 : 0 ≤ h 200 0) (n1 : h 200 0 ≤ 5) : Rlt (gX (gq u)) MX12_fund (d + 2) b [(2, 200), (0, e)] h (fun r h1 => (¬ (0 ≤ e ∧ e ≤ 63) ∧ r = (0, -2) ∧ h1 = h) ∨ ((0 ≤ e ∧ e ≤ 63) ∧ 5 ≤ h 200 0 ∧ r = (0, -4) ∧ h1 = h) ∨ ((0 ≤ e ∧ e ≤ 63) ∧ h 200 0 < 5 ∧ r = (0, h 200 0 + 1 - 1) ∧ h1 = up2 (up2 h 201 (h 200 0) e) 200 0 (h 200 0 + 1))) := by
  refine Rlt.of ?_
  show WP (gX (gq u)) MX12_fund (d + 2) b _ 0 [(2, 200), (0, e)] [] h
  refine wp_iload_n rfl rfl dX12_fund_0 ?_
  refine wp_i2l (by first | assumption | exact bI_in _ | exact ⟨by omega, by omega⟩ | exact iAnd_in | exact iOr_in | exact iShr_in | exact iShl_in | exact iXor_in | exact hxs _) dX12_fund_1 ?_
  refine wp_lconst (v := 0) rfl dX12_fund_2 ?_
  refine wp_ldc2 kX12_13 dX12_fund_3 ?_
  refine wp_cS3 okX12_isIn wX12_15 dX12_fund_6 rfl (Nat.le_of_ble_eq_true rfl) (Nat.le_of_ble_eq_true rfl) (s_X12_isIn (by exact ⟨by have := i1.1; omega, by have := i1.2; omega⟩) (by exact ⟨by omega, by omega⟩) (by exact ⟨by omega, by omega⟩)) (Nat.zero_le _) ?_
  try simp (disch := omega) only [up2_ne, up2_eq, st_200_m1 hS, st_200_1 hS, st_201_m2 hS, st_201_m1 hS]
  refine wp_ifB_ne (tgt := 15) dX12_fund_9 (by decide) (fun c1 => ?_) (fun c1 => ?_)
  · refine wp_aload_n rfl rfl dX12_fund_15 ?_
    refine wp_getfield1 (z := 13) (kI := 0) fX12_1 dX12_fund_16 (by first | omega | (simp (disch := omega) only [up2_ne, up2_eq, st_200_m1 hS, st_200_1 hS, st_201_m2 hS, st_201_m1 hS]; first | done | omega)) (by first | assumption | (simp (disch := omega) only [up2_ne, up2_eq, st_200_m1 hS, st_200_1 hS, st_201_m2 hS, st_201_m1 hS]; first | done | rfl | omega)) rfl rfl ?_
    try simp (disch := omega) only [up2_ne, up2_eq, st_200_m1 hS, st_200_1 hS, st_201_m2 hS, st_201_m1 hS]
    refine wp_iconst dX12_fund_19 ?_
    refine wp_icmp_ne (tgt := 26) (by first | assumption | exact bI_in _ | exact ⟨by omega, by omega⟩ | exact iAnd_in | exact iOr_in | exact iShr_in | exact iShl_in | exact iXor_in | exact hxs _) (by first | assumption | exact bI_in _ | exact ⟨by omega, by omega⟩ | exact iAnd_in | exact iOr_in | exact iShr_in | exact iShl_in | exact iXor_in | exact hxs _) dX12_fund_20 (by decide) (fun c2 => ?_) (fun c2 => ?_)
    · refine wp_aload_n rfl rfl dX12_fund_26 ?_
      refine wp_getfield1 (z := 13) (kI := 1) fX12_19 dX12_fund_27 (by first | omega | (simp (disch := omega) only [up2_ne, up2_eq, st_200_m1 hS, st_200_1 hS, st_201_m2 hS, st_201_m1 hS]; first | done | omega)) (by first | assumption | (simp (disch := omega) only [up2_ne, up2_eq, st_200_m1 hS, st_200_1 hS, st_201_m2 hS, st_201_m1 hS]; first | done | rfl | omega)) rfl rfl ?_
      try simp (disch := omega) only [up2_ne, up2_eq, st_200_m1 hS, st_200_1 hS, st_201_m2 hS, st_201_m1 hS]
      refine wp_aload_n rfl rfl dX12_fund_30 ?_
      refine wp_getfield1 (z := 13) (kI := 0) fX12_1 dX12_fund_31 (by first | omega | (simp (disch := omega) only [up2_ne, up2_eq, st_200_m1 hS, st_200_1 hS, st_201_m2 hS, st_201_m1 hS]; first | done | omega)) (by first | assumption | (simp (disch := omega) only [up2_ne, up2_eq, st_200_m1 hS, st_200_1 hS, st_201_m2 hS, st_201_m1 hS]; first | done | rfl | omega)) rfl rfl ?_
      try simp (disch := omega) only [up2_ne, up2_eq, st_200_m1 hS, st_200_1 hS, st_201_m2 hS, st_201_m1 hS]
      refine wp_iload_n rfl rfl dX12_fund_34 ?_
      refine wp_iastore1 dX12_fund_35 (by first | omega | (simp (disch := omega) only [up2_ne, up2_eq, st_200_m1 hS, st_200_1 hS, st_201_m2 hS, st_201_m1 hS]; first | done | omega)) (by first | assumption | (simp (disch := omega) only [up2_ne, up2_eq, st_200_m1 hS, st_200_1 hS, st_201_m2 hS, st_201_m1 hS]; first | done | rfl | omega)) (by first | omega | (simp (disch := omega) only [up2_ne, up2_eq, st_200_m1 hS, st_200_1 hS, st_201_m2 hS, st_201_m1 hS]; first | done | omega)) (by first | omega | (simp (disch := omega) only [up2_ne, up2_eq, st_200_m1 hS, st_200_1 hS, st_201_m2 hS, st_201_m1 hS]; first | done | omega)) ?_
      refine wp_aload_n rfl rfl dX12_fund_36 ?_
      refine wp_dup (by decide) dX12_fund_37 ?_
      refine wp_getfield1 (z := 13) (kI := 0) fX12_1 dX12_fund_38 (by first | omega | (simp (disch := omega) only [up2_ne, up2_eq, st_200_m1 hS, st_200_1 hS, st_201_m2 hS, st_201_m1 hS]; first | done | omega)) (by first | assumption | (simp (disch := omega) only [up2_ne, up2_eq, st_200_m1 hS, st_200_1 hS, st_201_m2 hS, st_201_m1 hS]; first | done | rfl | omega)) rfl rfl ?_
      try simp (disch := omega) only [up2_ne, up2_eq, st_200_m1 hS, st_200_1 hS, st_201_m2 hS, st_201_m1 hS]
      refine wp_iconst dX12_fund_41 ?_
      refine wp_iadd dX12_fund_42 ?_
      refine wp_putfield1 (z := 13) (kI := 0) fX12_1 dX12_fund_43 (by first | omega | (simp (disch := omega) only [up2_ne, up2_eq, st_200_m1 hS, st_200_1 hS, st_201_m2 hS, st_201_m1 hS]; first | done | omega)) (by first | assumption | (simp (disch := omega) only [up2_ne, up2_eq, st_200_m1 hS, st_200_1 hS, st_201_m2 hS, st_201_m1 hS]; first | done | rfl | omega)) rfl rfl ?_
      refine wp_aload_n rfl rfl dX12_fund_46 ?_
      refine wp_getfield1 (z := 13) (kI := 0) fX12_1 dX12_fund_47 (by first | omega | (simp (disch := omega) only [up2_ne, up2_eq, st_200_m1 hS, st_200_1 hS, st_201_m2 hS, st_201_m1 hS]; first | done | omega)) (by first | assumption | (simp (disch := omega) only [up2_ne, up2_eq, st_200_m1 hS, st_200_1 hS, st_201_m2 hS, st_201_m1 hS]; first | done | rfl | omega)) rfl rfl ?_
      try simp (disch := omega) only [up2_ne, up2_eq, st_200_m1 hS, st_200_1 hS, st_201_m2 hS, st_201_m1 hS]
      refine wp_iconst dX12_fund_50 ?_
      refine wp_isub dX12_fund_51 ?_
      refine wp_iret dX12_fund_52 rfl ?_
      first | exact Or.inl ⟨by omega, rfl, rfl⟩ | exact Or.inr (Or.inl ⟨by omega, by omega, rfl, rfl⟩) | exact Or.inr (Or.inr ⟨by omega, by omega, rfl, rfl⟩)
    · refine wp_bipush (by decide) dX12_fund_23 ?_
      refine wp_iret dX12_fund_25 rfl ?_
      first | exact Or.inl ⟨by omega, rfl, rfl⟩ | exact Or.inr (Or.inl ⟨by omega, by omega, rfl, rfl⟩) | exact Or.inr (Or.inr ⟨by omega, by omega, rfl, rfl⟩)
  · refine wp_bipush (by decide) dX12_fund_12 ?_
    refine wp_iret dX12_fund_14 rfl ?_
    first | exact Or.inl ⟨by omega, rfl, rfl⟩ | exact Or.inr (Or.inl ⟨by omega, by omega, rfl, rfl⟩) | exact Or.inr (Or.inr ⟨by omega, by omega, rfl, rfl⟩)
theorem fF_t {u : gT} {h : mH} {d b : Nat} {n : Int} (hS : St h) (hn : InI n) (h4 : 0 ≤ h 1 11) (h5 : h 1 11 ≤ 5) (q0 : 0 ≤ n) (q1 : n < h 1 11) (hid : h 2 n = 100 + n) : Det (gX (gq u)) MX11_findFund (d + 1) b [(2, 1), (0, n)] h (2, 100 + n) h := by
  have := s_X11_findFund (u := u) (d := d) (b := b) hS hn h4 h5
  rw [if_pos ⟨q0, by omega⟩, hid] at this
  exact this
theorem fF_f {u : gT} {h : mH} {d b : Nat} {n : Int} (hS : St h) (hn : InI n) (h4 : 0 ≤ h 1 11) (h5 : h 1 11 ≤ 5) (q : ¬ (0 ≤ n ∧ n < h 1 11)) : Det (gX (gq u)) MX11_findFund (d + 1) b [(2, 1), (0, n)] h (2, -1) h := by
  have := s_X11_findFund (u := u) (d := d) (b := b) hS hn h4 h5
  rw [if_neg (fun z => q ⟨z.1, by omega⟩)] at this
  exact this
theorem fR_t {u : gT} {h : mH} {d b : Nat} {n : Int} (hS : St h) (hn : InI n) (h4 : 0 ≤ h 1 12) (h5 : h 1 12 ≤ 8) (q0 : 0 ≤ n) (q1 : n < h 1 12) (hid : h 3 n = 110 + n) : Det (gX (gq u)) MX11_findReader (d + 1) b [(2, 1), (0, n)] h (2, 110 + n) h := by
  have := s_X11_findReader (u := u) (d := d) (b := b) hS hn h4 h5
  rw [if_pos ⟨q0, by omega⟩, hid] at this
  exact this
theorem fR_f {u : gT} {h : mH} {d b : Nat} {n : Int} (hS : St h) (hn : InI n) (h4 : 0 ≤ h 1 12) (h5 : h 1 12 ≤ 8) (q : ¬ (0 ≤ n ∧ n < h 1 12)) : Det (gX (gq u)) MX11_findReader (d + 1) b [(2, 1), (0, n)] h (2, -1) h := by
  have := s_X11_findReader (u := u) (d := d) (b := b) hS hn h4 h5
  rw [if_neg (fun z => q ⟨z.1, by omega⟩)] at this
  exact this
theorem fA_t {u : gT} {h : mH} {d b : Nat} {n : Int} (hS : St h) (hn : InI n) (h4 : 0 ≤ h 1 13) (h5 : h 1 13 ≤ 14) (q0 : 0 ≤ n) (q1 : n < h 1 13) (hid : h 4 n = 120 + n) : Det (gX (gq u)) MX11_findAsking (d + 1) b [(2, 1), (0, n)] h (2, 120 + n) h := by
  have := s_X11_findAsking (u := u) (d := d) (b := b) hS hn h4 h5
  rw [if_pos ⟨q0, by omega⟩, hid] at this
  exact this
theorem fA_f {u : gT} {h : mH} {d b : Nat} {n : Int} (hS : St h) (hn : InI n) (h4 : 0 ≤ h 1 13) (h5 : h 1 13 ≤ 14) (q : ¬ (0 ≤ n ∧ n < h 1 13)) : Det (gX (gq u)) MX11_findAsking (d + 1) b [(2, 1), (0, n)] h (2, -1) h := by
  have := s_X11_findAsking (u := u) (d := d) (b := b) hS hn h4 h5
  rw [if_neg (fun z => q ⟨z.1, by omega⟩)] at this
  exact this
theorem give_f {u : gT} {h : mH} {d b : Nat} {f n : Int} (hS : St h) (i1 : InI f) (i2 : InI n) (n0 : 0 ≤ h 1 11) (n1 : h 1 11 ≤ 5) (q : ¬ (0 ≤ f ∧ f < h 1 11)) : Det (gX (gq u)) MX11_give (d + 2) b [(2, 1), (0, f), (0, n)] h (0, -2) h := by
  intro Q hQ
  show WP (gX (gq u)) MX11_give (d + 2) b Q 0 [(2, 1), (0, f), (0, n), (9, 0)] [] h
  refine wp_aload_n rfl rfl dX11_give_0 ?_
  refine wp_iload_n rfl rfl dX11_give_1 ?_
  refine wp_cV1 (ci := 11) okX11_findFund rfl rfl wX11_108 dX11_give_2 rfl (Nat.le_of_ble_eq_true rfl) (Nat.le_of_ble_eq_true rfl) (by first | omega | (simp (disch := omega) only [up2_ne, up2_eq, st_1_m1 hS]; first | done | omega)) (by first | assumption | (simp (disch := omega) only [up2_ne, up2_eq, st_1_m1 hS]; first | done | rfl | omega)) (fF_f hS i1 n0 n1 q) (Nat.zero_le _) ?_
  try simp (disch := omega) only [up2_ne, up2_eq, st_1_m1 hS]
  refine wp_astore_n rfl dX11_give_5 rfl (Nat.le_of_ble_eq_true rfl) rfl ?_
  try simp only [List.set_cons_zero, List.set_cons_succ]
  refine wp_aload_n rfl rfl dX11_give_6 ?_
  refine wp_ifnull (tgt := 20) dX11_give_7 (by decide) (fun hx => ?_) (fun hx => absurd rfl hx)
  refine wp_bipush (by decide) dX11_give_20 ?_
  refine wp_iret dX11_give_22 rfl ?_
  exact hQ
theorem give_t {u : gT} {h : mH} {d b : Nat} {f n : Int} (hS : St h) (i1 : InI f) (i2 : InI n) (n0 : 0 ≤ h 1 11) (n1 : h 1 11 ≤ 5) (q0 : 0 ≤ f) (q1 : f < h 1 11) (e0 : h 2 f = 100 + f) (e1 : h (100 + f) (-1) = 3) (e2 : 0 ≤ h (100 + f) 1) (e3 : h (100 + f) 1 ≤ 10000000) : Rlt (gX (gq u)) MX11_give (d + 2) b [(2, 1), (0, f), (0, n)] h (fun r h1 => (¬ (1 ≤ n ∧ n ≤ 1000000) ∧ r = (0, -2) ∧ h1 = h) ∨ ((1 ≤ n ∧ n ≤ 1000000) ∧ 10000000 < h (100 + f) 1 + n ∧ r = (0, -4) ∧ h1 = h) ∨ ((1 ≤ n ∧ n ≤ 1000000) ∧ h (100 + f) 1 + n ≤ 10000000 ∧ r = (0, h (100 + f) 2 + n) ∧ h1 = up2 (up2 h (100 + f) 1 (h (100 + f) 1 + n)) (100 + f) 2 (h (100 + f) 2 + n))) := by
  refine Rlt.of ?_
  show WP (gX (gq u)) MX11_give (d + 2) b _ 0 [(2, 1), (0, f), (0, n), (9, 0)] [] h
  refine wp_aload_n rfl rfl dX11_give_0 ?_
  refine wp_iload_n rfl rfl dX11_give_1 ?_
  refine wp_cV1 (ci := 11) okX11_findFund rfl rfl wX11_108 dX11_give_2 rfl (Nat.le_of_ble_eq_true rfl) (Nat.le_of_ble_eq_true rfl) (by first | omega | (simp (disch := omega) only [up2_ne, up2_eq, e1, st_1_m1 hS]; first | done | omega)) (by first | assumption | (simp (disch := omega) only [up2_ne, up2_eq, e1, st_1_m1 hS]; first | done | rfl | omega)) (fF_t hS i1 n0 n1 q0 q1 e0) (Nat.zero_le _) ?_
  try simp (disch := omega) only [up2_ne, up2_eq, e1, st_1_m1 hS]
  refine wp_astore_n rfl dX11_give_5 rfl (Nat.le_of_ble_eq_true rfl) rfl ?_
  try simp only [List.set_cons_zero, List.set_cons_succ]
  refine wp_aload_n rfl rfl dX11_give_6 ?_
  refine wp_ifnull (tgt := 20) dX11_give_7 (by decide) (fun hx => absurd hx (by omega)) (fun hx => ?_)
  refine wp_iload_n rfl rfl dX11_give_10 ?_
  refine wp_iconst dX11_give_11 ?_
  refine wp_ldc kX11_112 dX11_give_12 ?_
  refine wp_cS3 okX11_isWithin wX11_98 dX11_give_14 rfl (Nat.le_of_ble_eq_true rfl) (Nat.le_of_ble_eq_true rfl) (s_X11_isWithin (by first | assumption | exact ⟨by omega, by omega⟩) (by exact ⟨by omega, by omega⟩) (by exact ⟨by omega, by omega⟩)) (Nat.zero_le _) ?_
  try simp (disch := omega) only [up2_ne, up2_eq, e1, st_1_m1 hS]
  refine wp_ifB_ne (tgt := 23) dX11_give_17 (by decide) (fun c2 => ?_) (fun c2 => ?_)
  · refine wp_aload_n rfl rfl dX11_give_23 ?_
    refine wp_getfield1 (z := 3) (kI := 1) fX11_113 dX11_give_24 (by first | omega | (simp (disch := omega) only [up2_ne, up2_eq, e1, st_1_m1 hS]; first | done | omega)) (by first | assumption | (simp (disch := omega) only [up2_ne, up2_eq, e1, st_1_m1 hS]; first | done | rfl | omega)) rfl rfl ?_
    try simp (disch := omega) only [up2_ne, up2_eq, e1, st_1_m1 hS]
    refine wp_iload_n rfl rfl dX11_give_27 ?_
    refine wp_iadd dX11_give_28 ?_
    refine wp_ldc kX11_116 dX11_give_29 ?_
    refine wp_icmp_le (tgt := 37) (by first | assumption | exact bI_in _ | exact ⟨by omega, by omega⟩ | exact iAnd_in | exact iOr_in | exact iShr_in | exact iShl_in | exact iXor_in | exact hxs _) (by first | assumption | exact bI_in _ | exact ⟨by omega, by omega⟩ | exact iAnd_in | exact iOr_in | exact iShr_in | exact iShl_in | exact iXor_in | exact hxs _) dX11_give_31 (by decide) (fun c3 => ?_) (fun c3 => ?_)
    · refine wp_aload_n rfl rfl dX11_give_37 ?_
      refine wp_iload_n rfl rfl dX11_give_38 ?_
      refine wp_cV1v (ci := 2) okX2_takeGift rfl rfl wX11_117 dX11_give_39 (Nat.le_of_ble_eq_true rfl) (Nat.le_of_ble_eq_true rfl) (by first | omega | (simp (disch := omega) only [up2_ne, up2_eq, e1, st_1_m1 hS]; first | done | omega)) (by first | assumption | (simp (disch := omega) only [up2_ne, up2_eq, e1, st_1_m1 hS]; first | done | rfl | omega)) (s_X2_takeGift (by omega) e1) (Nat.zero_le _) ?_
      try simp (disch := omega) only [up2_ne, up2_eq, e1, st_1_m1 hS]
      refine wp_aload_n rfl rfl dX11_give_42 ?_
      refine wp_getfield1 (z := 3) (kI := 2) fX11_120 dX11_give_43 (by first | omega | (simp (disch := omega) only [up2_ne, up2_eq, e1, st_1_m1 hS]; first | done | omega)) (by first | assumption | (simp (disch := omega) only [up2_ne, up2_eq, e1, st_1_m1 hS]; first | done | rfl | omega)) rfl rfl ?_
      try simp (disch := omega) only [up2_ne, up2_eq, e1, st_1_m1 hS]
      refine wp_iret dX11_give_46 rfl ?_
      first | exact Or.inl ⟨by omega, rfl, rfl⟩ | exact Or.inr (Or.inl ⟨by omega, by omega, rfl, rfl⟩) | exact Or.inr (Or.inr ⟨by omega, by omega, rfl, rfl⟩) | (exfalso; omega)
    · refine wp_bipush (by decide) dX11_give_34 ?_
      refine wp_iret dX11_give_36 rfl ?_
      first | exact Or.inl ⟨by omega, rfl, rfl⟩ | exact Or.inr (Or.inl ⟨by omega, by omega, rfl, rfl⟩) | exact Or.inr (Or.inr ⟨by omega, by omega, rfl, rfl⟩) | (exfalso; omega)
  · refine wp_bipush (by decide) dX11_give_20 ?_
    refine wp_iret dX11_give_22 rfl ?_
    first | exact Or.inl ⟨by omega, rfl, rfl⟩ | exact Or.inr (Or.inl ⟨by omega, by omega, rfl, rfl⟩) | exact Or.inr (Or.inr ⟨by omega, by omega, rfl, rfl⟩) | (exfalso; omega)
theorem fundTold_f {u : gT} {h : mH} {d b : Nat} {f what : Int} (hS : St h) (i1 : InI f) (i2 : InI what) (n0 : 0 ≤ h 1 11) (n1 : h 1 11 ≤ 5) (q : ¬ (0 ≤ f ∧ f < h 1 11)) : Det (gX (gq u)) MX11_fundTold (d + 2) b [(2, 1), (0, f), (0, what)] h (0, -2) h := by
  intro Q hQ
  show WP (gX (gq u)) MX11_fundTold (d + 2) b Q 0 [(2, 1), (0, f), (0, what), (9, 0)] [] h
  refine wp_aload_n rfl rfl dX11_fundTold_0 ?_
  refine wp_iload_n rfl rfl dX11_fundTold_1 ?_
  refine wp_cV1 (ci := 11) okX11_findFund rfl rfl wX11_108 dX11_fundTold_2 rfl (Nat.le_of_ble_eq_true rfl) (Nat.le_of_ble_eq_true rfl) (by first | omega | (simp (disch := omega) only [up2_ne, up2_eq, st_1_m1 hS]; first | done | omega)) (by first | assumption | (simp (disch := omega) only [up2_ne, up2_eq, st_1_m1 hS]; first | done | rfl | omega)) (fF_f hS i1 n0 n1 q) (Nat.zero_le _) ?_
  try simp (disch := omega) only [up2_ne, up2_eq, st_1_m1 hS]
  refine wp_astore_n rfl dX11_fundTold_5 rfl (Nat.le_of_ble_eq_true rfl) rfl ?_
  try simp only [List.set_cons_zero, List.set_cons_succ]
  refine wp_aload_n rfl rfl dX11_fundTold_6 ?_
  refine wp_ifnonnull (tgt := 13) dX11_fundTold_7 (by decide) (fun hx => absurd rfl hx) (fun hx => ?_)
  refine wp_bipush (by decide) dX11_fundTold_10 ?_
  refine wp_iret dX11_fundTold_12 rfl ?_
  exact hQ
theorem fundTold_t {u : gT} {h : mH} {d b : Nat} {f what : Int} (hS : St h) (i1 : InI f) (i2 : InI what) (n0 : 0 ≤ h 1 11) (n1 : h 1 11 ≤ 5) (q0 : 0 ≤ f) (q1 : f < h 1 11) (e0 : h 2 f = 100 + f) (e1 : h (100 + f) (-1) = 3) : Det (gX (gq u)) MX11_fundTold (d + 2) b [(2, 1), (0, f), (0, what)] h (0, if what = 0 then h (100 + f) 0 else if what = 1 then h (100 + f) 1 else if what = 2 then h (100 + f) 2 else if what = 3 then h (100 + f) 3 else if what = 4 then h (100 + f) 4 else -2) h := by
  intro Q hQ
  show WP (gX (gq u)) MX11_fundTold (d + 2) b Q 0 [(2, 1), (0, f), (0, what), (9, 0)] [] h
  refine wp_aload_n rfl rfl dX11_fundTold_0 ?_
  refine wp_iload_n rfl rfl dX11_fundTold_1 ?_
  refine wp_cV1 (ci := 11) okX11_findFund rfl rfl wX11_108 dX11_fundTold_2 rfl (Nat.le_of_ble_eq_true rfl) (Nat.le_of_ble_eq_true rfl) (by first | omega | (simp (disch := omega) only [up2_ne, up2_eq, e1, st_1_m1 hS]; first | done | omega)) (by first | assumption | (simp (disch := omega) only [up2_ne, up2_eq, e1, st_1_m1 hS]; first | done | rfl | omega)) (fF_t hS i1 n0 n1 q0 q1 e0) (Nat.zero_le _) ?_
  try simp (disch := omega) only [up2_ne, up2_eq, e1, st_1_m1 hS]
  refine wp_astore_n rfl dX11_fundTold_5 rfl (Nat.le_of_ble_eq_true rfl) rfl ?_
  try simp only [List.set_cons_zero, List.set_cons_succ]
  refine wp_aload_n rfl rfl dX11_fundTold_6 ?_
  refine wp_ifnonnull (tgt := 13) dX11_fundTold_7 (by decide) (fun hx => ?_) (fun hx => absurd hx (by omega))
  refine wp_iload_n rfl rfl dX11_fundTold_13 ?_
  by_cases c2 : what < 0 ∨ 4 < what
  · refine wp_tabOut (tgt := 73) (by first | assumption | exact bI_in _ | exact ⟨by omega, by omega⟩ | exact iAnd_in | exact iOr_in | exact iShr_in | exact iShl_in | exact iXor_in | exact hxs _) dX11_fundTold_14 c2 (by decide) ?_
    refine wp_bipush (by decide) dX11_fundTold_73 ?_
    refine wp_iret dX11_fundTold_75 rfl ?_
    refine Q_eq hQ ?_ rfl
    congr 1
    repeat (first | rfl | rw [if_pos (by omega)] | rw [if_neg (by omega)])
  · rcases (show what = 0 ∨ what = 1 ∨ what = 2 ∨ what = 3 ∨ what = 4 by omega) with c2x | c2x | c2x | c2x | c2x
    · refine wp_tabIn (off := 34) (tgt := 48) (by first | assumption | exact bI_in _ | exact ⟨by omega, by omega⟩ | exact iAnd_in | exact iOr_in | exact iShr_in | exact iShl_in | exact iXor_in | exact hxs _) dX11_fundTold_14 (by omega) (by omega) (by rw [c2x]; rfl) (by decide) ?_
      refine wp_aload_n rfl rfl dX11_fundTold_48 ?_
      refine wp_getfield1 (z := 3) (kI := 0) fX11_123 dX11_fundTold_49 (by first | omega | (simp (disch := omega) only [up2_ne, up2_eq, e1, st_1_m1 hS]; first | done | omega)) (by first | assumption | (simp (disch := omega) only [up2_ne, up2_eq, e1, st_1_m1 hS]; first | done | rfl | omega)) rfl rfl ?_
      try simp (disch := omega) only [up2_ne, up2_eq, e1, st_1_m1 hS]
      refine wp_iret dX11_fundTold_52 rfl ?_
      refine Q_eq hQ ?_ rfl
      congr 1
      repeat (first | rfl | rw [if_pos (by omega)] | rw [if_neg (by omega)])
    · refine wp_tabIn (off := 39) (tgt := 53) (by first | assumption | exact bI_in _ | exact ⟨by omega, by omega⟩ | exact iAnd_in | exact iOr_in | exact iShr_in | exact iShl_in | exact iXor_in | exact hxs _) dX11_fundTold_14 (by omega) (by omega) (by rw [c2x]; rfl) (by decide) ?_
      refine wp_aload_n rfl rfl dX11_fundTold_53 ?_
      refine wp_getfield1 (z := 3) (kI := 1) fX11_113 dX11_fundTold_54 (by first | omega | (simp (disch := omega) only [up2_ne, up2_eq, e1, st_1_m1 hS]; first | done | omega)) (by first | assumption | (simp (disch := omega) only [up2_ne, up2_eq, e1, st_1_m1 hS]; first | done | rfl | omega)) rfl rfl ?_
      try simp (disch := omega) only [up2_ne, up2_eq, e1, st_1_m1 hS]
      refine wp_iret dX11_fundTold_57 rfl ?_
      refine Q_eq hQ ?_ rfl
      congr 1
      repeat (first | rfl | rw [if_pos (by omega)] | rw [if_neg (by omega)])
    · refine wp_tabIn (off := 44) (tgt := 58) (by first | assumption | exact bI_in _ | exact ⟨by omega, by omega⟩ | exact iAnd_in | exact iOr_in | exact iShr_in | exact iShl_in | exact iXor_in | exact hxs _) dX11_fundTold_14 (by omega) (by omega) (by rw [c2x]; rfl) (by decide) ?_
      refine wp_aload_n rfl rfl dX11_fundTold_58 ?_
      refine wp_getfield1 (z := 3) (kI := 2) fX11_120 dX11_fundTold_59 (by first | omega | (simp (disch := omega) only [up2_ne, up2_eq, e1, st_1_m1 hS]; first | done | omega)) (by first | assumption | (simp (disch := omega) only [up2_ne, up2_eq, e1, st_1_m1 hS]; first | done | rfl | omega)) rfl rfl ?_
      try simp (disch := omega) only [up2_ne, up2_eq, e1, st_1_m1 hS]
      refine wp_iret dX11_fundTold_62 rfl ?_
      refine Q_eq hQ ?_ rfl
      congr 1
      repeat (first | rfl | rw [if_pos (by omega)] | rw [if_neg (by omega)])
    · refine wp_tabIn (off := 49) (tgt := 63) (by first | assumption | exact bI_in _ | exact ⟨by omega, by omega⟩ | exact iAnd_in | exact iOr_in | exact iShr_in | exact iShl_in | exact iXor_in | exact hxs _) dX11_fundTold_14 (by omega) (by omega) (by rw [c2x]; rfl) (by decide) ?_
      refine wp_aload_n rfl rfl dX11_fundTold_63 ?_
      refine wp_getfield1 (z := 3) (kI := 3) fX11_126 dX11_fundTold_64 (by first | omega | (simp (disch := omega) only [up2_ne, up2_eq, e1, st_1_m1 hS]; first | done | omega)) (by first | assumption | (simp (disch := omega) only [up2_ne, up2_eq, e1, st_1_m1 hS]; first | done | rfl | omega)) rfl rfl ?_
      try simp (disch := omega) only [up2_ne, up2_eq, e1, st_1_m1 hS]
      refine wp_iret dX11_fundTold_67 rfl ?_
      refine Q_eq hQ ?_ rfl
      congr 1
      repeat (first | rfl | rw [if_pos (by omega)] | rw [if_neg (by omega)])
    · refine wp_tabIn (off := 54) (tgt := 68) (by first | assumption | exact bI_in _ | exact ⟨by omega, by omega⟩ | exact iAnd_in | exact iOr_in | exact iShr_in | exact iShl_in | exact iXor_in | exact hxs _) dX11_fundTold_14 (by omega) (by omega) (by rw [c2x]; rfl) (by decide) ?_
      refine wp_aload_n rfl rfl dX11_fundTold_68 ?_
      refine wp_getfield1 (z := 3) (kI := 4) fX11_129 dX11_fundTold_69 (by first | omega | (simp (disch := omega) only [up2_ne, up2_eq, e1, st_1_m1 hS]; first | done | omega)) (by first | assumption | (simp (disch := omega) only [up2_ne, up2_eq, e1, st_1_m1 hS]; first | done | rfl | omega)) rfl rfl ?_
      try simp (disch := omega) only [up2_ne, up2_eq, e1, st_1_m1 hS]
      refine wp_iret dX11_fundTold_72 rfl ?_
      refine Q_eq hQ ?_ rfl
      congr 1
      repeat (first | rfl | rw [if_pos (by omega)] | rw [if_neg (by omega)])
theorem s_X12_give {u : gT} {h : mH} {d b : Nat} {f n : Int} (hS : St h) (i1 : InI f) (i2 : InI n) (n0 : 0 ≤ h 200 0) (n1 : h 200 0 ≤ 5) (e2 : ∀ i, 0 ≤ i → i < 5 → 0 ≤ h 202 i ∧ h 202 i ≤ 10000000) : Rlt (gX (gq u)) MX12_give (d + 2) b [(2, 200), (0, f), (0, n)] h (fun r h1 => (¬ ((0 ≤ f ∧ f < h 200 0) ∧ (1 ≤ n ∧ n ≤ 1000000)) ∧ r = (0, -2) ∧ h1 = h) ∨ (((0 ≤ f ∧ f < h 200 0) ∧ (1 ≤ n ∧ n ≤ 1000000)) ∧ 10000000 < h 202 f + n ∧ r = (0, -4) ∧ h1 = h) ∨ (((0 ≤ f ∧ f < h 200 0) ∧ (1 ≤ n ∧ n ≤ 1000000)) ∧ h 202 f + n ≤ 10000000 ∧ r = (0, h 203 f + n) ∧ h1 = up2 (up2 h 202 f (h 202 f + n)) 203 f (h 203 f + n))) := by
  refine Rlt.of ?_
  have e2f := e2 f
  show WP (gX (gq u)) MX12_give (d + 2) b _ 0 [(2, 200), (0, f), (0, n)] [] h
  refine wp_aload_n rfl rfl dX12_give_0 ?_
  refine wp_iload_n rfl rfl dX12_give_1 ?_
  refine wp_cV1 (ci := 12) okX12_isFund rfl rfl wX12_23 dX12_give_2 rfl (Nat.le_of_ble_eq_true rfl) (Nat.le_of_ble_eq_true rfl) (by first | omega | (simp (disch := omega) only [up2_ne, up2_eq, st_200_m1 hS, st_200_2 hS, st_200_3 hS, st_202_m2 hS, st_202_m1 hS, st_203_m2 hS, st_203_m1 hS]; first | done | omega)) (by first | assumption | (simp (disch := omega) only [up2_ne, up2_eq, st_200_m1 hS, st_200_2 hS, st_200_3 hS, st_202_m2 hS, st_202_m1 hS, st_203_m2 hS, st_203_m1 hS]; first | done | rfl | omega)) (s_X12_isFund hS i1 ⟨by omega, by omega⟩) (Nat.zero_le _) ?_
  try simp (disch := omega) only [up2_ne, up2_eq, st_200_m1 hS, st_200_2 hS, st_200_3 hS, st_202_m2 hS, st_202_m1 hS, st_203_m2 hS, st_203_m1 hS]
  refine wp_ifB_eq (tgt := 20) dX12_give_5 (by decide) (fun c1 => ?_) (fun c1 => ?_)
  · refine wp_bipush (by decide) dX12_give_20 ?_
    refine wp_iret dX12_give_22 rfl ?_
    first | exact Or.inl ⟨by omega, rfl, rfl⟩ | exact Or.inr (Or.inl ⟨by omega, by omega, rfl, rfl⟩) | exact Or.inr (Or.inr ⟨by omega, by omega, rfl, rfl⟩) | (exfalso; omega)
  · refine wp_iload_n rfl rfl dX12_give_8 ?_
    refine wp_i2l (by first | assumption | exact bI_in _ | exact ⟨by omega, by omega⟩ | exact iAnd_in | exact iOr_in | exact iShr_in | exact iShl_in | exact iXor_in | exact hxs _) dX12_give_9 ?_
    refine wp_lconst (v := 1) rfl dX12_give_10 ?_
    refine wp_ldc2 kX12_27 dX12_give_11 ?_
    refine wp_cS3 okX12_isIn wX12_15 dX12_give_14 rfl (Nat.le_of_ble_eq_true rfl) (Nat.le_of_ble_eq_true rfl) (s_X12_isIn (by exact ⟨by have := i2.1; omega, by have := i2.2; omega⟩) (by exact ⟨by omega, by omega⟩) (by exact ⟨by omega, by omega⟩)) (Nat.zero_le _) ?_
    try simp (disch := omega) only [up2_ne, up2_eq, st_200_m1 hS, st_200_2 hS, st_200_3 hS, st_202_m2 hS, st_202_m1 hS, st_203_m2 hS, st_203_m1 hS]
    refine wp_ifB_ne (tgt := 23) dX12_give_17 (by decide) (fun c2 => ?_) (fun c2 => ?_)
    · refine wp_aload_n rfl rfl dX12_give_23 ?_
      refine wp_getfield1 (z := 13) (kI := 2) fX12_29 dX12_give_24 (by first | omega | (simp (disch := omega) only [up2_ne, up2_eq, st_200_m1 hS, st_200_2 hS, st_200_3 hS, st_202_m2 hS, st_202_m1 hS, st_203_m2 hS, st_203_m1 hS]; first | done | omega)) (by first | assumption | (simp (disch := omega) only [up2_ne, up2_eq, st_200_m1 hS, st_200_2 hS, st_200_3 hS, st_202_m2 hS, st_202_m1 hS, st_203_m2 hS, st_203_m1 hS]; first | done | rfl | omega)) rfl rfl ?_
      try simp (disch := omega) only [up2_ne, up2_eq, st_200_m1 hS, st_200_2 hS, st_200_3 hS, st_202_m2 hS, st_202_m1 hS, st_203_m2 hS, st_203_m1 hS]
      refine wp_iload_n rfl rfl dX12_give_27 ?_
      refine wp_iaload1 dX12_give_28 (by first | omega | (simp (disch := omega) only [up2_ne, up2_eq, st_200_m1 hS, st_200_2 hS, st_200_3 hS, st_202_m2 hS, st_202_m1 hS, st_203_m2 hS, st_203_m1 hS]; first | done | omega)) (by first | assumption | (simp (disch := omega) only [up2_ne, up2_eq, st_200_m1 hS, st_200_2 hS, st_200_3 hS, st_202_m2 hS, st_202_m1 hS, st_203_m2 hS, st_203_m1 hS]; first | done | rfl | omega)) (by first | omega | (simp (disch := omega) only [up2_ne, up2_eq, st_200_m1 hS, st_200_2 hS, st_200_3 hS, st_202_m2 hS, st_202_m1 hS, st_203_m2 hS, st_203_m1 hS]; first | done | omega)) (by first | omega | (simp (disch := omega) only [up2_ne, up2_eq, st_200_m1 hS, st_200_2 hS, st_200_3 hS, st_202_m2 hS, st_202_m1 hS, st_203_m2 hS, st_203_m1 hS]; first | done | omega)) ?_
      try simp (disch := omega) only [up2_ne, up2_eq, st_200_m1 hS, st_200_2 hS, st_200_3 hS, st_202_m2 hS, st_202_m1 hS, st_203_m2 hS, st_203_m1 hS]
      refine wp_iload_n rfl rfl dX12_give_29 ?_
      refine wp_iadd dX12_give_30 ?_
      refine wp_ldc kX12_32 dX12_give_31 ?_
      refine wp_icmp_le (tgt := 39) (by first | assumption | exact bI_in _ | exact ⟨by omega, by omega⟩ | exact iAnd_in | exact iOr_in | exact iShr_in | exact iShl_in | exact iXor_in | exact hxs _) (by first | assumption | exact bI_in _ | exact ⟨by omega, by omega⟩ | exact iAnd_in | exact iOr_in | exact iShr_in | exact iShl_in | exact iXor_in | exact hxs _) dX12_give_33 (by decide) (fun c3 => ?_) (fun c3 => ?_)
      · refine wp_aload_n rfl rfl dX12_give_39 ?_
        refine wp_getfield1 (z := 13) (kI := 2) fX12_29 dX12_give_40 (by first | omega | (simp (disch := omega) only [up2_ne, up2_eq, st_200_m1 hS, st_200_2 hS, st_200_3 hS, st_202_m2 hS, st_202_m1 hS, st_203_m2 hS, st_203_m1 hS]; first | done | omega)) (by first | assumption | (simp (disch := omega) only [up2_ne, up2_eq, st_200_m1 hS, st_200_2 hS, st_200_3 hS, st_202_m2 hS, st_202_m1 hS, st_203_m2 hS, st_203_m1 hS]; first | done | rfl | omega)) rfl rfl ?_
        try simp (disch := omega) only [up2_ne, up2_eq, st_200_m1 hS, st_200_2 hS, st_200_3 hS, st_202_m2 hS, st_202_m1 hS, st_203_m2 hS, st_203_m1 hS]
        refine wp_iload_n rfl rfl dX12_give_43 ?_
        refine wp_dup2 (by decide) (by decide) dX12_give_44 ?_
        refine wp_iaload1 dX12_give_45 (by first | omega | (simp (disch := omega) only [up2_ne, up2_eq, st_200_m1 hS, st_200_2 hS, st_200_3 hS, st_202_m2 hS, st_202_m1 hS, st_203_m2 hS, st_203_m1 hS]; first | done | omega)) (by first | assumption | (simp (disch := omega) only [up2_ne, up2_eq, st_200_m1 hS, st_200_2 hS, st_200_3 hS, st_202_m2 hS, st_202_m1 hS, st_203_m2 hS, st_203_m1 hS]; first | done | rfl | omega)) (by first | omega | (simp (disch := omega) only [up2_ne, up2_eq, st_200_m1 hS, st_200_2 hS, st_200_3 hS, st_202_m2 hS, st_202_m1 hS, st_203_m2 hS, st_203_m1 hS]; first | done | omega)) (by first | omega | (simp (disch := omega) only [up2_ne, up2_eq, st_200_m1 hS, st_200_2 hS, st_200_3 hS, st_202_m2 hS, st_202_m1 hS, st_203_m2 hS, st_203_m1 hS]; first | done | omega)) ?_
        try simp (disch := omega) only [up2_ne, up2_eq, st_200_m1 hS, st_200_2 hS, st_200_3 hS, st_202_m2 hS, st_202_m1 hS, st_203_m2 hS, st_203_m1 hS]
        refine wp_iload_n rfl rfl dX12_give_46 ?_
        refine wp_iadd dX12_give_47 ?_
        refine wp_iastore1 dX12_give_48 (by first | omega | (simp (disch := omega) only [up2_ne, up2_eq, st_200_m1 hS, st_200_2 hS, st_200_3 hS, st_202_m2 hS, st_202_m1 hS, st_203_m2 hS, st_203_m1 hS]; first | done | omega)) (by first | assumption | (simp (disch := omega) only [up2_ne, up2_eq, st_200_m1 hS, st_200_2 hS, st_200_3 hS, st_202_m2 hS, st_202_m1 hS, st_203_m2 hS, st_203_m1 hS]; first | done | rfl | omega)) (by first | omega | (simp (disch := omega) only [up2_ne, up2_eq, st_200_m1 hS, st_200_2 hS, st_200_3 hS, st_202_m2 hS, st_202_m1 hS, st_203_m2 hS, st_203_m1 hS]; first | done | omega)) (by first | omega | (simp (disch := omega) only [up2_ne, up2_eq, st_200_m1 hS, st_200_2 hS, st_200_3 hS, st_202_m2 hS, st_202_m1 hS, st_203_m2 hS, st_203_m1 hS]; first | done | omega)) ?_
        refine wp_aload_n rfl rfl dX12_give_49 ?_
        refine wp_getfield1 (z := 13) (kI := 3) fX12_33 dX12_give_50 (by first | omega | (simp (disch := omega) only [up2_ne, up2_eq, st_200_m1 hS, st_200_2 hS, st_200_3 hS, st_202_m2 hS, st_202_m1 hS, st_203_m2 hS, st_203_m1 hS]; first | done | omega)) (by first | assumption | (simp (disch := omega) only [up2_ne, up2_eq, st_200_m1 hS, st_200_2 hS, st_200_3 hS, st_202_m2 hS, st_202_m1 hS, st_203_m2 hS, st_203_m1 hS]; first | done | rfl | omega)) rfl rfl ?_
        try simp (disch := omega) only [up2_ne, up2_eq, st_200_m1 hS, st_200_2 hS, st_200_3 hS, st_202_m2 hS, st_202_m1 hS, st_203_m2 hS, st_203_m1 hS]
        refine wp_iload_n rfl rfl dX12_give_53 ?_
        refine wp_dup2 (by decide) (by decide) dX12_give_54 ?_
        refine wp_iaload1 dX12_give_55 (by first | omega | (simp (disch := omega) only [up2_ne, up2_eq, st_200_m1 hS, st_200_2 hS, st_200_3 hS, st_202_m2 hS, st_202_m1 hS, st_203_m2 hS, st_203_m1 hS]; first | done | omega)) (by first | assumption | (simp (disch := omega) only [up2_ne, up2_eq, st_200_m1 hS, st_200_2 hS, st_200_3 hS, st_202_m2 hS, st_202_m1 hS, st_203_m2 hS, st_203_m1 hS]; first | done | rfl | omega)) (by first | omega | (simp (disch := omega) only [up2_ne, up2_eq, st_200_m1 hS, st_200_2 hS, st_200_3 hS, st_202_m2 hS, st_202_m1 hS, st_203_m2 hS, st_203_m1 hS]; first | done | omega)) (by first | omega | (simp (disch := omega) only [up2_ne, up2_eq, st_200_m1 hS, st_200_2 hS, st_200_3 hS, st_202_m2 hS, st_202_m1 hS, st_203_m2 hS, st_203_m1 hS]; first | done | omega)) ?_
        try simp (disch := omega) only [up2_ne, up2_eq, st_200_m1 hS, st_200_2 hS, st_200_3 hS, st_202_m2 hS, st_202_m1 hS, st_203_m2 hS, st_203_m1 hS]
        refine wp_iload_n rfl rfl dX12_give_56 ?_
        refine wp_iadd dX12_give_57 ?_
        refine wp_iastore1 dX12_give_58 (by first | omega | (simp (disch := omega) only [up2_ne, up2_eq, st_200_m1 hS, st_200_2 hS, st_200_3 hS, st_202_m2 hS, st_202_m1 hS, st_203_m2 hS, st_203_m1 hS]; first | done | omega)) (by first | assumption | (simp (disch := omega) only [up2_ne, up2_eq, st_200_m1 hS, st_200_2 hS, st_200_3 hS, st_202_m2 hS, st_202_m1 hS, st_203_m2 hS, st_203_m1 hS]; first | done | rfl | omega)) (by first | omega | (simp (disch := omega) only [up2_ne, up2_eq, st_200_m1 hS, st_200_2 hS, st_200_3 hS, st_202_m2 hS, st_202_m1 hS, st_203_m2 hS, st_203_m1 hS]; first | done | omega)) (by first | omega | (simp (disch := omega) only [up2_ne, up2_eq, st_200_m1 hS, st_200_2 hS, st_200_3 hS, st_202_m2 hS, st_202_m1 hS, st_203_m2 hS, st_203_m1 hS]; first | done | omega)) ?_
        refine wp_aload_n rfl rfl dX12_give_59 ?_
        refine wp_getfield1 (z := 13) (kI := 3) fX12_33 dX12_give_60 (by first | omega | (simp (disch := omega) only [up2_ne, up2_eq, st_200_m1 hS, st_200_2 hS, st_200_3 hS, st_202_m2 hS, st_202_m1 hS, st_203_m2 hS, st_203_m1 hS]; first | done | omega)) (by first | assumption | (simp (disch := omega) only [up2_ne, up2_eq, st_200_m1 hS, st_200_2 hS, st_200_3 hS, st_202_m2 hS, st_202_m1 hS, st_203_m2 hS, st_203_m1 hS]; first | done | rfl | omega)) rfl rfl ?_
        try simp (disch := omega) only [up2_ne, up2_eq, st_200_m1 hS, st_200_2 hS, st_200_3 hS, st_202_m2 hS, st_202_m1 hS, st_203_m2 hS, st_203_m1 hS]
        refine wp_iload_n rfl rfl dX12_give_63 ?_
        refine wp_iaload1 dX12_give_64 (by first | omega | (simp (disch := omega) only [up2_ne, up2_eq, st_200_m1 hS, st_200_2 hS, st_200_3 hS, st_202_m2 hS, st_202_m1 hS, st_203_m2 hS, st_203_m1 hS]; first | done | omega)) (by first | assumption | (simp (disch := omega) only [up2_ne, up2_eq, st_200_m1 hS, st_200_2 hS, st_200_3 hS, st_202_m2 hS, st_202_m1 hS, st_203_m2 hS, st_203_m1 hS]; first | done | rfl | omega)) (by first | omega | (simp (disch := omega) only [up2_ne, up2_eq, st_200_m1 hS, st_200_2 hS, st_200_3 hS, st_202_m2 hS, st_202_m1 hS, st_203_m2 hS, st_203_m1 hS]; first | done | omega)) (by first | omega | (simp (disch := omega) only [up2_ne, up2_eq, st_200_m1 hS, st_200_2 hS, st_200_3 hS, st_202_m2 hS, st_202_m1 hS, st_203_m2 hS, st_203_m1 hS]; first | done | omega)) ?_
        try simp (disch := omega) only [up2_ne, up2_eq, st_200_m1 hS, st_200_2 hS, st_200_3 hS, st_202_m2 hS, st_202_m1 hS, st_203_m2 hS, st_203_m1 hS]
        refine wp_iret dX12_give_65 rfl ?_
        first | exact Or.inl ⟨by omega, rfl, rfl⟩ | exact Or.inr (Or.inl ⟨by omega, by omega, rfl, rfl⟩) | exact Or.inr (Or.inr ⟨by omega, by omega, rfl, rfl⟩) | (exfalso; omega)
      · refine wp_bipush (by decide) dX12_give_36 ?_
        refine wp_iret dX12_give_38 rfl ?_
        first | exact Or.inl ⟨by omega, rfl, rfl⟩ | exact Or.inr (Or.inl ⟨by omega, by omega, rfl, rfl⟩) | exact Or.inr (Or.inr ⟨by omega, by omega, rfl, rfl⟩) | (exfalso; omega)
    · refine wp_bipush (by decide) dX12_give_20 ?_
      refine wp_iret dX12_give_22 rfl ?_
      first | exact Or.inl ⟨by omega, rfl, rfl⟩ | exact Or.inr (Or.inl ⟨by omega, by omega, rfl, rfl⟩) | exact Or.inr (Or.inr ⟨by omega, by omega, rfl, rfl⟩) | (exfalso; omega)
theorem s_X12_fundTold {u : gT} {h : mH} {d b : Nat} {f what : Int} (hS : St h) (i1 : InI f) (i2 : InI what) (n0 : 0 ≤ h 200 0) (n1 : h 200 0 ≤ 5) : Det (gX (gq u)) MX12_fundTold (d + 1) b [(2, 200), (0, f), (0, what)] h (0, if 0 ≤ f ∧ f < h 200 0 then if what = 0 then h 201 f else if what = 1 then h 202 f else if what = 2 then h 203 f else if what = 3 then h 204 f else if what = 4 then h 205 f else -2 else -2) h := by
  intro Q hQ
  show WP (gX (gq u)) MX12_fundTold (d + 1) b Q 0 [(2, 200), (0, f), (0, what)] [] h
  refine wp_aload_n rfl rfl dX12_fundTold_0 ?_
  refine wp_iload_n rfl rfl dX12_fundTold_1 ?_
  refine wp_cV1 (ci := 12) okX12_isFund rfl rfl wX12_23 dX12_fundTold_2 rfl (Nat.le_of_ble_eq_true rfl) (Nat.le_of_ble_eq_true rfl) (by first | omega | (simp (disch := omega) only [up2_ne, up2_eq, st_200_m1 hS, st_200_1 hS, st_200_2 hS, st_200_3 hS, st_200_4 hS, st_200_5 hS, st_201_m2 hS, st_201_m1 hS, st_202_m2 hS, st_202_m1 hS, st_203_m2 hS, st_203_m1 hS, st_204_m2 hS, st_204_m1 hS, st_205_m2 hS, st_205_m1 hS]; first | done | omega)) (by first | assumption | (simp (disch := omega) only [up2_ne, up2_eq, st_200_m1 hS, st_200_1 hS, st_200_2 hS, st_200_3 hS, st_200_4 hS, st_200_5 hS, st_201_m2 hS, st_201_m1 hS, st_202_m2 hS, st_202_m1 hS, st_203_m2 hS, st_203_m1 hS, st_204_m2 hS, st_204_m1 hS, st_205_m2 hS, st_205_m1 hS]; first | done | rfl | omega)) (s_X12_isFund hS i1 ⟨by omega, by omega⟩) (Nat.zero_le _) ?_
  try simp (disch := omega) only [up2_ne, up2_eq, st_200_m1 hS, st_200_1 hS, st_200_2 hS, st_200_3 hS, st_200_4 hS, st_200_5 hS, st_201_m2 hS, st_201_m1 hS, st_202_m2 hS, st_202_m1 hS, st_203_m2 hS, st_203_m1 hS, st_204_m2 hS, st_204_m1 hS, st_205_m2 hS, st_205_m1 hS]
  refine wp_ifB_ne (tgt := 11) dX12_fundTold_5 (by decide) (fun c1 => ?_) (fun c1 => ?_)
  · refine wp_iload_n rfl rfl dX12_fundTold_11 ?_
    by_cases c2 : what < 0 ∨ 4 < what
    · refine wp_tabOut (tgt := 83) (by first | assumption | exact bI_in _ | exact ⟨by omega, by omega⟩ | exact iAnd_in | exact iOr_in | exact iShr_in | exact iShl_in | exact iXor_in | exact hxs _) dX12_fundTold_12 c2 (by decide) ?_
      refine wp_bipush (by decide) dX12_fundTold_83 ?_
      refine wp_iret dX12_fundTold_85 rfl ?_
      refine Q_eq hQ ?_ rfl
      congr 1
      repeat (first | rfl | rw [if_pos (by omega)] | rw [if_neg (by omega)])
    · rcases (show what = 0 ∨ what = 1 ∨ what = 2 ∨ what = 3 ∨ what = 4 by omega) with c2x | c2x | c2x | c2x | c2x
      · refine wp_tabIn (off := 36) (tgt := 48) (by first | assumption | exact bI_in _ | exact ⟨by omega, by omega⟩ | exact iAnd_in | exact iOr_in | exact iShr_in | exact iShl_in | exact iXor_in | exact hxs _) dX12_fundTold_12 (by omega) (by omega) (by rw [c2x]; rfl) (by decide) ?_
        refine wp_aload_n rfl rfl dX12_fundTold_48 ?_
        refine wp_getfield1 (z := 13) (kI := 1) fX12_19 dX12_fundTold_49 (by first | omega | (simp (disch := omega) only [up2_ne, up2_eq, st_200_m1 hS, st_200_1 hS, st_200_2 hS, st_200_3 hS, st_200_4 hS, st_200_5 hS, st_201_m2 hS, st_201_m1 hS, st_202_m2 hS, st_202_m1 hS, st_203_m2 hS, st_203_m1 hS, st_204_m2 hS, st_204_m1 hS, st_205_m2 hS, st_205_m1 hS]; first | done | omega)) (by first | assumption | (simp (disch := omega) only [up2_ne, up2_eq, st_200_m1 hS, st_200_1 hS, st_200_2 hS, st_200_3 hS, st_200_4 hS, st_200_5 hS, st_201_m2 hS, st_201_m1 hS, st_202_m2 hS, st_202_m1 hS, st_203_m2 hS, st_203_m1 hS, st_204_m2 hS, st_204_m1 hS, st_205_m2 hS, st_205_m1 hS]; first | done | rfl | omega)) rfl rfl ?_
        try simp (disch := omega) only [up2_ne, up2_eq, st_200_m1 hS, st_200_1 hS, st_200_2 hS, st_200_3 hS, st_200_4 hS, st_200_5 hS, st_201_m2 hS, st_201_m1 hS, st_202_m2 hS, st_202_m1 hS, st_203_m2 hS, st_203_m1 hS, st_204_m2 hS, st_204_m1 hS, st_205_m2 hS, st_205_m1 hS]
        refine wp_iload_n rfl rfl dX12_fundTold_52 ?_
        refine wp_iaload1 dX12_fundTold_53 (by first | omega | (simp (disch := omega) only [up2_ne, up2_eq, st_200_m1 hS, st_200_1 hS, st_200_2 hS, st_200_3 hS, st_200_4 hS, st_200_5 hS, st_201_m2 hS, st_201_m1 hS, st_202_m2 hS, st_202_m1 hS, st_203_m2 hS, st_203_m1 hS, st_204_m2 hS, st_204_m1 hS, st_205_m2 hS, st_205_m1 hS]; first | done | omega)) (by first | assumption | (simp (disch := omega) only [up2_ne, up2_eq, st_200_m1 hS, st_200_1 hS, st_200_2 hS, st_200_3 hS, st_200_4 hS, st_200_5 hS, st_201_m2 hS, st_201_m1 hS, st_202_m2 hS, st_202_m1 hS, st_203_m2 hS, st_203_m1 hS, st_204_m2 hS, st_204_m1 hS, st_205_m2 hS, st_205_m1 hS]; first | done | rfl | omega)) (by first | omega | (simp (disch := omega) only [up2_ne, up2_eq, st_200_m1 hS, st_200_1 hS, st_200_2 hS, st_200_3 hS, st_200_4 hS, st_200_5 hS, st_201_m2 hS, st_201_m1 hS, st_202_m2 hS, st_202_m1 hS, st_203_m2 hS, st_203_m1 hS, st_204_m2 hS, st_204_m1 hS, st_205_m2 hS, st_205_m1 hS]; first | done | omega)) (by first | omega | (simp (disch := omega) only [up2_ne, up2_eq, st_200_m1 hS, st_200_1 hS, st_200_2 hS, st_200_3 hS, st_200_4 hS, st_200_5 hS, st_201_m2 hS, st_201_m1 hS, st_202_m2 hS, st_202_m1 hS, st_203_m2 hS, st_203_m1 hS, st_204_m2 hS, st_204_m1 hS, st_205_m2 hS, st_205_m1 hS]; first | done | omega)) ?_
        try simp (disch := omega) only [up2_ne, up2_eq, st_200_m1 hS, st_200_1 hS, st_200_2 hS, st_200_3 hS, st_200_4 hS, st_200_5 hS, st_201_m2 hS, st_201_m1 hS, st_202_m2 hS, st_202_m1 hS, st_203_m2 hS, st_203_m1 hS, st_204_m2 hS, st_204_m1 hS, st_205_m2 hS, st_205_m1 hS]
        refine wp_iret dX12_fundTold_54 rfl ?_
        refine Q_eq hQ ?_ rfl
        congr 1
        repeat (first | rfl | rw [if_pos (by omega)] | rw [if_neg (by omega)])
      · refine wp_tabIn (off := 43) (tgt := 55) (by first | assumption | exact bI_in _ | exact ⟨by omega, by omega⟩ | exact iAnd_in | exact iOr_in | exact iShr_in | exact iShl_in | exact iXor_in | exact hxs _) dX12_fundTold_12 (by omega) (by omega) (by rw [c2x]; rfl) (by decide) ?_
        refine wp_aload_n rfl rfl dX12_fundTold_55 ?_
        refine wp_getfield1 (z := 13) (kI := 2) fX12_29 dX12_fundTold_56 (by first | omega | (simp (disch := omega) only [up2_ne, up2_eq, st_200_m1 hS, st_200_1 hS, st_200_2 hS, st_200_3 hS, st_200_4 hS, st_200_5 hS, st_201_m2 hS, st_201_m1 hS, st_202_m2 hS, st_202_m1 hS, st_203_m2 hS, st_203_m1 hS, st_204_m2 hS, st_204_m1 hS, st_205_m2 hS, st_205_m1 hS]; first | done | omega)) (by first | assumption | (simp (disch := omega) only [up2_ne, up2_eq, st_200_m1 hS, st_200_1 hS, st_200_2 hS, st_200_3 hS, st_200_4 hS, st_200_5 hS, st_201_m2 hS, st_201_m1 hS, st_202_m2 hS, st_202_m1 hS, st_203_m2 hS, st_203_m1 hS, st_204_m2 hS, st_204_m1 hS, st_205_m2 hS, st_205_m1 hS]; first | done | rfl | omega)) rfl rfl ?_
        try simp (disch := omega) only [up2_ne, up2_eq, st_200_m1 hS, st_200_1 hS, st_200_2 hS, st_200_3 hS, st_200_4 hS, st_200_5 hS, st_201_m2 hS, st_201_m1 hS, st_202_m2 hS, st_202_m1 hS, st_203_m2 hS, st_203_m1 hS, st_204_m2 hS, st_204_m1 hS, st_205_m2 hS, st_205_m1 hS]
        refine wp_iload_n rfl rfl dX12_fundTold_59 ?_
        refine wp_iaload1 dX12_fundTold_60 (by first | omega | (simp (disch := omega) only [up2_ne, up2_eq, st_200_m1 hS, st_200_1 hS, st_200_2 hS, st_200_3 hS, st_200_4 hS, st_200_5 hS, st_201_m2 hS, st_201_m1 hS, st_202_m2 hS, st_202_m1 hS, st_203_m2 hS, st_203_m1 hS, st_204_m2 hS, st_204_m1 hS, st_205_m2 hS, st_205_m1 hS]; first | done | omega)) (by first | assumption | (simp (disch := omega) only [up2_ne, up2_eq, st_200_m1 hS, st_200_1 hS, st_200_2 hS, st_200_3 hS, st_200_4 hS, st_200_5 hS, st_201_m2 hS, st_201_m1 hS, st_202_m2 hS, st_202_m1 hS, st_203_m2 hS, st_203_m1 hS, st_204_m2 hS, st_204_m1 hS, st_205_m2 hS, st_205_m1 hS]; first | done | rfl | omega)) (by first | omega | (simp (disch := omega) only [up2_ne, up2_eq, st_200_m1 hS, st_200_1 hS, st_200_2 hS, st_200_3 hS, st_200_4 hS, st_200_5 hS, st_201_m2 hS, st_201_m1 hS, st_202_m2 hS, st_202_m1 hS, st_203_m2 hS, st_203_m1 hS, st_204_m2 hS, st_204_m1 hS, st_205_m2 hS, st_205_m1 hS]; first | done | omega)) (by first | omega | (simp (disch := omega) only [up2_ne, up2_eq, st_200_m1 hS, st_200_1 hS, st_200_2 hS, st_200_3 hS, st_200_4 hS, st_200_5 hS, st_201_m2 hS, st_201_m1 hS, st_202_m2 hS, st_202_m1 hS, st_203_m2 hS, st_203_m1 hS, st_204_m2 hS, st_204_m1 hS, st_205_m2 hS, st_205_m1 hS]; first | done | omega)) ?_
        try simp (disch := omega) only [up2_ne, up2_eq, st_200_m1 hS, st_200_1 hS, st_200_2 hS, st_200_3 hS, st_200_4 hS, st_200_5 hS, st_201_m2 hS, st_201_m1 hS, st_202_m2 hS, st_202_m1 hS, st_203_m2 hS, st_203_m1 hS, st_204_m2 hS, st_204_m1 hS, st_205_m2 hS, st_205_m1 hS]
        refine wp_iret dX12_fundTold_61 rfl ?_
        refine Q_eq hQ ?_ rfl
        congr 1
        repeat (first | rfl | rw [if_pos (by omega)] | rw [if_neg (by omega)])
      · refine wp_tabIn (off := 50) (tgt := 62) (by first | assumption | exact bI_in _ | exact ⟨by omega, by omega⟩ | exact iAnd_in | exact iOr_in | exact iShr_in | exact iShl_in | exact iXor_in | exact hxs _) dX12_fundTold_12 (by omega) (by omega) (by rw [c2x]; rfl) (by decide) ?_
        refine wp_aload_n rfl rfl dX12_fundTold_62 ?_
        refine wp_getfield1 (z := 13) (kI := 3) fX12_33 dX12_fundTold_63 (by first | omega | (simp (disch := omega) only [up2_ne, up2_eq, st_200_m1 hS, st_200_1 hS, st_200_2 hS, st_200_3 hS, st_200_4 hS, st_200_5 hS, st_201_m2 hS, st_201_m1 hS, st_202_m2 hS, st_202_m1 hS, st_203_m2 hS, st_203_m1 hS, st_204_m2 hS, st_204_m1 hS, st_205_m2 hS, st_205_m1 hS]; first | done | omega)) (by first | assumption | (simp (disch := omega) only [up2_ne, up2_eq, st_200_m1 hS, st_200_1 hS, st_200_2 hS, st_200_3 hS, st_200_4 hS, st_200_5 hS, st_201_m2 hS, st_201_m1 hS, st_202_m2 hS, st_202_m1 hS, st_203_m2 hS, st_203_m1 hS, st_204_m2 hS, st_204_m1 hS, st_205_m2 hS, st_205_m1 hS]; first | done | rfl | omega)) rfl rfl ?_
        try simp (disch := omega) only [up2_ne, up2_eq, st_200_m1 hS, st_200_1 hS, st_200_2 hS, st_200_3 hS, st_200_4 hS, st_200_5 hS, st_201_m2 hS, st_201_m1 hS, st_202_m2 hS, st_202_m1 hS, st_203_m2 hS, st_203_m1 hS, st_204_m2 hS, st_204_m1 hS, st_205_m2 hS, st_205_m1 hS]
        refine wp_iload_n rfl rfl dX12_fundTold_66 ?_
        refine wp_iaload1 dX12_fundTold_67 (by first | omega | (simp (disch := omega) only [up2_ne, up2_eq, st_200_m1 hS, st_200_1 hS, st_200_2 hS, st_200_3 hS, st_200_4 hS, st_200_5 hS, st_201_m2 hS, st_201_m1 hS, st_202_m2 hS, st_202_m1 hS, st_203_m2 hS, st_203_m1 hS, st_204_m2 hS, st_204_m1 hS, st_205_m2 hS, st_205_m1 hS]; first | done | omega)) (by first | assumption | (simp (disch := omega) only [up2_ne, up2_eq, st_200_m1 hS, st_200_1 hS, st_200_2 hS, st_200_3 hS, st_200_4 hS, st_200_5 hS, st_201_m2 hS, st_201_m1 hS, st_202_m2 hS, st_202_m1 hS, st_203_m2 hS, st_203_m1 hS, st_204_m2 hS, st_204_m1 hS, st_205_m2 hS, st_205_m1 hS]; first | done | rfl | omega)) (by first | omega | (simp (disch := omega) only [up2_ne, up2_eq, st_200_m1 hS, st_200_1 hS, st_200_2 hS, st_200_3 hS, st_200_4 hS, st_200_5 hS, st_201_m2 hS, st_201_m1 hS, st_202_m2 hS, st_202_m1 hS, st_203_m2 hS, st_203_m1 hS, st_204_m2 hS, st_204_m1 hS, st_205_m2 hS, st_205_m1 hS]; first | done | omega)) (by first | omega | (simp (disch := omega) only [up2_ne, up2_eq, st_200_m1 hS, st_200_1 hS, st_200_2 hS, st_200_3 hS, st_200_4 hS, st_200_5 hS, st_201_m2 hS, st_201_m1 hS, st_202_m2 hS, st_202_m1 hS, st_203_m2 hS, st_203_m1 hS, st_204_m2 hS, st_204_m1 hS, st_205_m2 hS, st_205_m1 hS]; first | done | omega)) ?_
        try simp (disch := omega) only [up2_ne, up2_eq, st_200_m1 hS, st_200_1 hS, st_200_2 hS, st_200_3 hS, st_200_4 hS, st_200_5 hS, st_201_m2 hS, st_201_m1 hS, st_202_m2 hS, st_202_m1 hS, st_203_m2 hS, st_203_m1 hS, st_204_m2 hS, st_204_m1 hS, st_205_m2 hS, st_205_m1 hS]
        refine wp_iret dX12_fundTold_68 rfl ?_
        refine Q_eq hQ ?_ rfl
        congr 1
        repeat (first | rfl | rw [if_pos (by omega)] | rw [if_neg (by omega)])
      · refine wp_tabIn (off := 57) (tgt := 69) (by first | assumption | exact bI_in _ | exact ⟨by omega, by omega⟩ | exact iAnd_in | exact iOr_in | exact iShr_in | exact iShl_in | exact iXor_in | exact hxs _) dX12_fundTold_12 (by omega) (by omega) (by rw [c2x]; rfl) (by decide) ?_
        refine wp_aload_n rfl rfl dX12_fundTold_69 ?_
        refine wp_getfield1 (z := 13) (kI := 4) fX12_36 dX12_fundTold_70 (by first | omega | (simp (disch := omega) only [up2_ne, up2_eq, st_200_m1 hS, st_200_1 hS, st_200_2 hS, st_200_3 hS, st_200_4 hS, st_200_5 hS, st_201_m2 hS, st_201_m1 hS, st_202_m2 hS, st_202_m1 hS, st_203_m2 hS, st_203_m1 hS, st_204_m2 hS, st_204_m1 hS, st_205_m2 hS, st_205_m1 hS]; first | done | omega)) (by first | assumption | (simp (disch := omega) only [up2_ne, up2_eq, st_200_m1 hS, st_200_1 hS, st_200_2 hS, st_200_3 hS, st_200_4 hS, st_200_5 hS, st_201_m2 hS, st_201_m1 hS, st_202_m2 hS, st_202_m1 hS, st_203_m2 hS, st_203_m1 hS, st_204_m2 hS, st_204_m1 hS, st_205_m2 hS, st_205_m1 hS]; first | done | rfl | omega)) rfl rfl ?_
        try simp (disch := omega) only [up2_ne, up2_eq, st_200_m1 hS, st_200_1 hS, st_200_2 hS, st_200_3 hS, st_200_4 hS, st_200_5 hS, st_201_m2 hS, st_201_m1 hS, st_202_m2 hS, st_202_m1 hS, st_203_m2 hS, st_203_m1 hS, st_204_m2 hS, st_204_m1 hS, st_205_m2 hS, st_205_m1 hS]
        refine wp_iload_n rfl rfl dX12_fundTold_73 ?_
        refine wp_iaload1 dX12_fundTold_74 (by first | omega | (simp (disch := omega) only [up2_ne, up2_eq, st_200_m1 hS, st_200_1 hS, st_200_2 hS, st_200_3 hS, st_200_4 hS, st_200_5 hS, st_201_m2 hS, st_201_m1 hS, st_202_m2 hS, st_202_m1 hS, st_203_m2 hS, st_203_m1 hS, st_204_m2 hS, st_204_m1 hS, st_205_m2 hS, st_205_m1 hS]; first | done | omega)) (by first | assumption | (simp (disch := omega) only [up2_ne, up2_eq, st_200_m1 hS, st_200_1 hS, st_200_2 hS, st_200_3 hS, st_200_4 hS, st_200_5 hS, st_201_m2 hS, st_201_m1 hS, st_202_m2 hS, st_202_m1 hS, st_203_m2 hS, st_203_m1 hS, st_204_m2 hS, st_204_m1 hS, st_205_m2 hS, st_205_m1 hS]; first | done | rfl | omega)) (by first | omega | (simp (disch := omega) only [up2_ne, up2_eq, st_200_m1 hS, st_200_1 hS, st_200_2 hS, st_200_3 hS, st_200_4 hS, st_200_5 hS, st_201_m2 hS, st_201_m1 hS, st_202_m2 hS, st_202_m1 hS, st_203_m2 hS, st_203_m1 hS, st_204_m2 hS, st_204_m1 hS, st_205_m2 hS, st_205_m1 hS]; first | done | omega)) (by first | omega | (simp (disch := omega) only [up2_ne, up2_eq, st_200_m1 hS, st_200_1 hS, st_200_2 hS, st_200_3 hS, st_200_4 hS, st_200_5 hS, st_201_m2 hS, st_201_m1 hS, st_202_m2 hS, st_202_m1 hS, st_203_m2 hS, st_203_m1 hS, st_204_m2 hS, st_204_m1 hS, st_205_m2 hS, st_205_m1 hS]; first | done | omega)) ?_
        try simp (disch := omega) only [up2_ne, up2_eq, st_200_m1 hS, st_200_1 hS, st_200_2 hS, st_200_3 hS, st_200_4 hS, st_200_5 hS, st_201_m2 hS, st_201_m1 hS, st_202_m2 hS, st_202_m1 hS, st_203_m2 hS, st_203_m1 hS, st_204_m2 hS, st_204_m1 hS, st_205_m2 hS, st_205_m1 hS]
        refine wp_iret dX12_fundTold_75 rfl ?_
        refine Q_eq hQ ?_ rfl
        congr 1
        repeat (first | rfl | rw [if_pos (by omega)] | rw [if_neg (by omega)])
      · refine wp_tabIn (off := 64) (tgt := 76) (by first | assumption | exact bI_in _ | exact ⟨by omega, by omega⟩ | exact iAnd_in | exact iOr_in | exact iShr_in | exact iShl_in | exact iXor_in | exact hxs _) dX12_fundTold_12 (by omega) (by omega) (by rw [c2x]; rfl) (by decide) ?_
        refine wp_aload_n rfl rfl dX12_fundTold_76 ?_
        refine wp_getfield1 (z := 13) (kI := 5) fX12_39 dX12_fundTold_77 (by first | omega | (simp (disch := omega) only [up2_ne, up2_eq, st_200_m1 hS, st_200_1 hS, st_200_2 hS, st_200_3 hS, st_200_4 hS, st_200_5 hS, st_201_m2 hS, st_201_m1 hS, st_202_m2 hS, st_202_m1 hS, st_203_m2 hS, st_203_m1 hS, st_204_m2 hS, st_204_m1 hS, st_205_m2 hS, st_205_m1 hS]; first | done | omega)) (by first | assumption | (simp (disch := omega) only [up2_ne, up2_eq, st_200_m1 hS, st_200_1 hS, st_200_2 hS, st_200_3 hS, st_200_4 hS, st_200_5 hS, st_201_m2 hS, st_201_m1 hS, st_202_m2 hS, st_202_m1 hS, st_203_m2 hS, st_203_m1 hS, st_204_m2 hS, st_204_m1 hS, st_205_m2 hS, st_205_m1 hS]; first | done | rfl | omega)) rfl rfl ?_
        try simp (disch := omega) only [up2_ne, up2_eq, st_200_m1 hS, st_200_1 hS, st_200_2 hS, st_200_3 hS, st_200_4 hS, st_200_5 hS, st_201_m2 hS, st_201_m1 hS, st_202_m2 hS, st_202_m1 hS, st_203_m2 hS, st_203_m1 hS, st_204_m2 hS, st_204_m1 hS, st_205_m2 hS, st_205_m1 hS]
        refine wp_iload_n rfl rfl dX12_fundTold_80 ?_
        refine wp_iaload1 dX12_fundTold_81 (by first | omega | (simp (disch := omega) only [up2_ne, up2_eq, st_200_m1 hS, st_200_1 hS, st_200_2 hS, st_200_3 hS, st_200_4 hS, st_200_5 hS, st_201_m2 hS, st_201_m1 hS, st_202_m2 hS, st_202_m1 hS, st_203_m2 hS, st_203_m1 hS, st_204_m2 hS, st_204_m1 hS, st_205_m2 hS, st_205_m1 hS]; first | done | omega)) (by first | assumption | (simp (disch := omega) only [up2_ne, up2_eq, st_200_m1 hS, st_200_1 hS, st_200_2 hS, st_200_3 hS, st_200_4 hS, st_200_5 hS, st_201_m2 hS, st_201_m1 hS, st_202_m2 hS, st_202_m1 hS, st_203_m2 hS, st_203_m1 hS, st_204_m2 hS, st_204_m1 hS, st_205_m2 hS, st_205_m1 hS]; first | done | rfl | omega)) (by first | omega | (simp (disch := omega) only [up2_ne, up2_eq, st_200_m1 hS, st_200_1 hS, st_200_2 hS, st_200_3 hS, st_200_4 hS, st_200_5 hS, st_201_m2 hS, st_201_m1 hS, st_202_m2 hS, st_202_m1 hS, st_203_m2 hS, st_203_m1 hS, st_204_m2 hS, st_204_m1 hS, st_205_m2 hS, st_205_m1 hS]; first | done | omega)) (by first | omega | (simp (disch := omega) only [up2_ne, up2_eq, st_200_m1 hS, st_200_1 hS, st_200_2 hS, st_200_3 hS, st_200_4 hS, st_200_5 hS, st_201_m2 hS, st_201_m1 hS, st_202_m2 hS, st_202_m1 hS, st_203_m2 hS, st_203_m1 hS, st_204_m2 hS, st_204_m1 hS, st_205_m2 hS, st_205_m1 hS]; first | done | omega)) ?_
        try simp (disch := omega) only [up2_ne, up2_eq, st_200_m1 hS, st_200_1 hS, st_200_2 hS, st_200_3 hS, st_200_4 hS, st_200_5 hS, st_201_m2 hS, st_201_m1 hS, st_202_m2 hS, st_202_m1 hS, st_203_m2 hS, st_203_m1 hS, st_204_m2 hS, st_204_m1 hS, st_205_m2 hS, st_205_m1 hS]
        refine wp_iret dX12_fundTold_82 rfl ?_
        refine Q_eq hQ ?_ rfl
        congr 1
        repeat (first | rfl | rw [if_pos (by omega)] | rw [if_neg (by omega)])
  · refine wp_bipush (by decide) dX12_fundTold_8 ?_
    refine wp_iret dX12_fundTold_10 rfl ?_
    refine Q_eq hQ ?_ rfl
    congr 1
    repeat (first | rfl | rw [if_pos (by omega)] | rw [if_neg (by omega)])
