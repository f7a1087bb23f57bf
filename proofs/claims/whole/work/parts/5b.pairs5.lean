/-! ===== taken; pairs: barred, bar, taken ===== -/
theorem taken_t {u : gT} {j : Nat} {h m : mH} {d b : Nat} (H : Inv j m) (e : Cl h m) (hS : St h) {a : Int} (a0 : 0 ≤ a) (a1 : a < m 200 10) {k : Int} (ik : InI k) : Det (gX (gq u)) MX11_taken (d + 5) b [(2, 1), (0, a), (0, k)] h (0, if 0 ≤ k ∧ k ≤ 5 then (if k = 0 ∨ k = m 211 a ∨ (k = 1 ∧ m 211 a = 5) ∨ (k = 2 ∧ (m 211 a = 3 ∨ m 211 a = 4)) then m 212 a else -13) else -2) h := by
  intro Q hQ
  have hn := H.ns
  have e12 := H.n12
  have e13 := H.n13
  have e11 := H.n11
  have hr := H.ra a0 (by omega)
  have hku : 0 ≤ k ∧ k ≤ 5 → _ := fun z => kuF_eq hr.1.1 hr.1.2 z.1 z.2
  show WP (gX (gq u)) MX11_taken (d + 5) b Q 0 [(2, 1), (0, a), (0, k), (9, 0)] [] h
  refine wp_iload_n rfl rfl dX11_taken_0 ?_
  refine wp_iconst dX11_taken_1 ?_
  refine wp_iconst dX11_taken_2 ?_
  refine wp_cS3 okX11_isWithin wX11_98 dX11_taken_3 rfl (Nat.le_of_ble_eq_true rfl) (Nat.le_of_ble_eq_true rfl) (s_X11_isWithin (by first | assumption | exact ⟨by omega, by omega⟩) (by exact ⟨by omega, by omega⟩) (by exact ⟨by omega, by omega⟩)) (Nat.zero_le _) ?_
  try simp (disch := omega) only [up2_ne, up2_eq, e, e11, e12, e13, H.a4, H.az, H.r3, H.rz, H.a0, H.a1, hku, st_1_m1 hS, st_1_m1 H.1]
  refine wp_ifB_ne (tgt := 12) dX11_taken_6 (by decide) (fun c1 => ?_) (fun c1 => ?_)
  · refine wp_aload_n rfl rfl dX11_taken_12 ?_
    refine wp_iload_n rfl rfl dX11_taken_13 ?_
    refine wp_cV1 (ci := 11) okX11_findAsking rfl rfl wX11_200 dX11_taken_14 rfl (Nat.le_of_ble_eq_true rfl) (Nat.le_of_ble_eq_true rfl) (by first | omega | (simp (disch := omega) only [up2_ne, up2_eq, e, e11, e12, e13, H.a4, H.az, H.r3, H.rz, H.a0, H.a1, hku, st_1_m1 hS, st_1_m1 H.1]; first | done | omega)) (by first | assumption | (simp (disch := omega) only [up2_ne, up2_eq, e, e11, e12, e13, H.a4, H.az, H.r3, H.rz, H.a0, H.a1, hku, st_1_m1 hS, st_1_m1 H.1]; first | done | rfl | omega)) (ndA_t H e hS a0 a1) (Nat.zero_le _) ?_
    try simp (disch := omega) only [up2_ne, up2_eq, e, e11, e12, e13, H.a4, H.az, H.r3, H.rz, H.a0, H.a1, hku, st_1_m1 hS, st_1_m1 H.1]
    refine wp_astore_n rfl dX11_taken_17 rfl (Nat.le_of_ble_eq_true rfl) rfl ?_
    try simp only [List.set_cons_zero, List.set_cons_succ]
    refine wp_aload_n rfl rfl dX11_taken_18 ?_
    refine wp_ifnonnull (tgt := 25) dX11_taken_19 (by decide) (fun hx => ?_) (fun hx => absurd hx (by omega))
    refine wp_aload_n rfl rfl dX11_taken_25 ?_
    refine wp_getfield1 (z := 1) (kI := 0) fX11_204 dX11_taken_26 (by first | omega | (simp (disch := omega) only [up2_ne, up2_eq, e, e11, e12, e13, H.a4, H.az, H.r3, H.rz, H.a0, H.a1, hku, st_1_m1 hS, st_1_m1 H.1]; first | done | omega)) (by first | assumption | (simp (disch := omega) only [up2_ne, up2_eq, e, e11, e12, e13, H.a4, H.az, H.r3, H.rz, H.a0, H.a1, hku, st_1_m1 hS, st_1_m1 H.1]; first | done | rfl | omega)) rfl rfl ?_
    try simp (disch := omega) only [up2_ne, up2_eq, e, e11, e12, e13, H.a4, H.az, H.r3, H.rz, H.a0, H.a1, hku, st_1_m1 hS, st_1_m1 H.1]
    refine wp_iload_n rfl rfl dX11_taken_29 ?_
    refine wp_cS2 okX11_isKindOrUnder wX11_374 dX11_taken_30 rfl (Nat.le_of_ble_eq_true rfl) (Nat.le_of_ble_eq_true rfl) (by have := s_X11_isKindOrUnder (u := u) (h := h) (d := d + 3) (b := 0) (k := m 211 a) (ab := k) ⟨by omega, by omega⟩ ik; rw [hku ⟨by omega, by omega⟩] at this; exact this) (Nat.zero_le _) ?_
    try simp (disch := omega) only [up2_ne, up2_eq, e, e11, e12, e13, H.a4, H.az, H.r3, H.rz, H.a0, H.a1, hku, st_1_m1 hS, st_1_m1 H.1]
    refine wp_ifB_eq (tgt := 43) dX11_taken_33 (by decide) (fun c3 => ?_) (fun c3 => ?_)
    · refine wp_bipush (by decide) dX11_taken_43 ?_
      refine wp_iret dX11_taken_45 rfl ?_
      refine Q_eq hQ ?_ rfl
      congr 1
      first
        | (rw [if_neg (by omega)]; done)
        | (rw [if_pos (by omega)]; done)
        | (rw [if_pos (by omega), if_neg (by omega)]; done)
        | (rw [if_pos (by omega), if_pos (by omega)]; done)
        | (rw [if_pos (by omega), if_pos (by omega), if_pos (by omega)]; done)
        | (rw [if_pos (by omega), if_pos (by omega), if_neg (by omega)]; done)
    · refine wp_aload_n rfl rfl dX11_taken_36 ?_
      refine wp_getfield1 (z := 1) (kI := 1) fX11_207 dX11_taken_37 (by first | omega | (simp (disch := omega) only [up2_ne, up2_eq, e, e11, e12, e13, H.a4, H.az, H.r3, H.rz, H.a0, H.a1, hku, st_1_m1 hS, st_1_m1 H.1]; first | done | omega)) (by first | assumption | (simp (disch := omega) only [up2_ne, up2_eq, e, e11, e12, e13, H.a4, H.az, H.r3, H.rz, H.a0, H.a1, hku, st_1_m1 hS, st_1_m1 H.1]; first | done | rfl | omega)) rfl rfl ?_
      try simp (disch := omega) only [up2_ne, up2_eq, e, e11, e12, e13, H.a4, H.az, H.r3, H.rz, H.a0, H.a1, hku, st_1_m1 hS, st_1_m1 H.1]
      refine wp_goto (tgt := 45) dX11_taken_40 (by decide) ?_
      refine wp_iret dX11_taken_45 rfl ?_
      refine Q_eq hQ ?_ rfl
      congr 1
      first
        | (rw [if_neg (by omega)]; done)
        | (rw [if_pos (by omega)]; done)
        | (rw [if_pos (by omega), if_neg (by omega)]; done)
        | (rw [if_pos (by omega), if_pos (by omega)]; done)
        | (rw [if_pos (by omega), if_pos (by omega), if_pos (by omega)]; done)
        | (rw [if_pos (by omega), if_pos (by omega), if_neg (by omega)]; done)
  · refine wp_bipush (by decide) dX11_taken_9 ?_
    refine wp_iret dX11_taken_11 rfl ?_
    refine Q_eq hQ ?_ rfl
    congr 1
    first
      | (rw [if_neg (by omega)]; done)
      | (rw [if_pos (by omega)]; done)
      | (rw [if_pos (by omega), if_neg (by omega)]; done)
      | (rw [if_pos (by omega), if_pos (by omega)]; done)
      | (rw [if_pos (by omega), if_pos (by omega), if_pos (by omega)]; done)
      | (rw [if_pos (by omega), if_pos (by omega), if_neg (by omega)]; done)
theorem taken_f {u : gT} {j : Nat} {h m : mH} {d b : Nat} (H : Inv j m) (e : Cl h m) (hS : St h) {a k : Int} (ia : InI a) (q : ¬ (0 ≤ a ∧ a < m 200 10)) (ik : InI k) : Det (gX (gq u)) MX11_taken (d + 5) b [(2, 1), (0, a), (0, k)] h (0, if 0 ≤ k ∧ k ≤ 5 then -11 else -2) h := by
  intro Q hQ
  have hn := H.ns
  have e12 := H.n12
  have e13 := H.n13
  have e11 := H.n11
  show WP (gX (gq u)) MX11_taken (d + 5) b Q 0 [(2, 1), (0, a), (0, k), (9, 0)] [] h
  refine wp_iload_n rfl rfl dX11_taken_0 ?_
  refine wp_iconst dX11_taken_1 ?_
  refine wp_iconst dX11_taken_2 ?_
  refine wp_cS3 okX11_isWithin wX11_98 dX11_taken_3 rfl (Nat.le_of_ble_eq_true rfl) (Nat.le_of_ble_eq_true rfl) (s_X11_isWithin (by first | assumption | exact ⟨by omega, by omega⟩) (by exact ⟨by omega, by omega⟩) (by exact ⟨by omega, by omega⟩)) (Nat.zero_le _) ?_
  try simp (disch := omega) only [up2_ne, up2_eq, e, e11, e12, e13, H.a4, H.az, H.r3, H.rz, st_1_m1 hS, st_1_m1 H.1]
  refine wp_ifB_ne (tgt := 12) dX11_taken_6 (by decide) (fun c1 => ?_) (fun c1 => ?_)
  · refine wp_aload_n rfl rfl dX11_taken_12 ?_
    refine wp_iload_n rfl rfl dX11_taken_13 ?_
    refine wp_cV1 (ci := 11) okX11_findAsking rfl rfl wX11_200 dX11_taken_14 rfl (Nat.le_of_ble_eq_true rfl) (Nat.le_of_ble_eq_true rfl) (by first | omega | (simp (disch := omega) only [up2_ne, up2_eq, e, e11, e12, e13, H.a4, H.az, H.r3, H.rz, st_1_m1 hS, st_1_m1 H.1]; first | done | omega)) (by first | assumption | (simp (disch := omega) only [up2_ne, up2_eq, e, e11, e12, e13, H.a4, H.az, H.r3, H.rz, st_1_m1 hS, st_1_m1 H.1]; first | done | rfl | omega)) (ndA_f H e hS ia q) (Nat.zero_le _) ?_
    try simp (disch := omega) only [up2_ne, up2_eq, e, e11, e12, e13, H.a4, H.az, H.r3, H.rz, st_1_m1 hS, st_1_m1 H.1]
    refine wp_astore_n rfl dX11_taken_17 rfl (Nat.le_of_ble_eq_true rfl) rfl ?_
    try simp only [List.set_cons_zero, List.set_cons_succ]
    refine wp_aload_n rfl rfl dX11_taken_18 ?_
    refine wp_ifnonnull (tgt := 25) dX11_taken_19 (by decide) (fun hx => absurd rfl hx) (fun hx => ?_)
    refine wp_bipush (by decide) dX11_taken_22 ?_
    refine wp_iret dX11_taken_24 rfl ?_
    refine Q_eq hQ ?_ rfl
    congr 1
    first
      | (rw [if_neg (by omega)]; done)
      | (rw [if_pos (by omega)]; done)
      | (rw [if_pos (by omega), if_neg (by omega)]; done)
      | (rw [if_pos (by omega), if_pos (by omega)]; done)
      | (rw [if_pos (by omega), if_pos (by omega), if_pos (by omega)]; done)
      | (rw [if_pos (by omega), if_pos (by omega), if_neg (by omega)]; done)
  · refine wp_bipush (by decide) dX11_taken_9 ?_
    refine wp_iret dX11_taken_11 rfl ?_
    refine Q_eq hQ ?_ rfl
    congr 1
    first
      | (rw [if_neg (by omega)]; done)
      | (rw [if_pos (by omega)]; done)
      | (rw [if_pos (by omega), if_neg (by omega)]; done)
      | (rw [if_pos (by omega), if_pos (by omega)]; done)
      | (rw [if_pos (by omega), if_pos (by omega), if_pos (by omega)]; done)
      | (rw [if_pos (by omega), if_pos (by omega), if_neg (by omega)]; done)
theorem s_X12_taken {u : gT} {j : Nat} {h m : mH} {d b : Nat} (H : Inv j m) (e : Cr h m) (hS : St h) {a k : Int} (ia : InI a) (ik : InI k) : Det (gX (gq u)) MX12_taken (d + 3) b [(2, 200), (0, a), (0, k)] h (0, if 0 ≤ k ∧ k ≤ 5 then (if 0 ≤ a ∧ a < m 200 10 then (if k = 0 ∨ k = m 211 a ∨ (k = 1 ∧ m 211 a = 5) ∨ (k = 2 ∧ (m 211 a = 3 ∨ m 211 a = 4)) then m 212 a else -13) else -11) else -2) h := by
  intro Q hQ
  have hn := H.ns
  have hr := fun (z : 0 ≤ a ∧ a < m 200 10) => H.ra z.1 (by omega)
  show WP (gX (gq u)) MX12_taken (d + 3) b Q 0 [(2, 200), (0, a), (0, k), (9, 0), (9, 0)] [] h
  refine wp_iload_n rfl rfl dX12_taken_0 ?_
  refine wp_i2l (by first | assumption | exact bI_in _ | exact ⟨by omega, by omega⟩ | exact iAnd_in | exact iOr_in | exact iShr_in | exact iShl_in | exact iXor_in | exact hxs _) dX12_taken_1 ?_
  refine wp_lconst (v := 0) rfl dX12_taken_2 ?_
  refine wp_ldc2 kX12_69 dX12_taken_3 ?_
  refine wp_cS3 okX12_isIn wX12_15 dX12_taken_6 rfl (Nat.le_of_ble_eq_true rfl) (Nat.le_of_ble_eq_true rfl) (s_X12_isIn (by exact ⟨by have := ik.1; omega, by have := ik.2; omega⟩) (by exact ⟨by omega, by omega⟩) (by exact ⟨by omega, by omega⟩)) (Nat.zero_le _) ?_
  try simp (disch := omega) only [up2_ne, up2_eq, e, st_200_m1 hS, st_200_m1 H.1, st_200_11 hS, st_200_11 H.1, st_200_12 hS, st_200_12 H.1, st_211_m2 hS, st_211_m2 H.1, st_211_m1 hS, st_211_m1 H.1, st_212_m2 hS, st_212_m2 H.1, st_212_m1 hS, st_212_m1 H.1]
  refine wp_ifB_ne (tgt := 15) dX12_taken_9 (by decide) (fun c1 => ?_) (fun c1 => ?_)
  · refine wp_aload_n rfl rfl dX12_taken_15 ?_
    refine wp_iload_n rfl rfl dX12_taken_16 ?_
    refine wp_cV1 (ci := 12) okX12_isAsking rfl rfl wX12_126 dX12_taken_17 rfl (Nat.le_of_ble_eq_true rfl) (Nat.le_of_ble_eq_true rfl) (by first | omega | (simp (disch := omega) only [up2_ne, up2_eq, e, st_200_m1 hS, st_200_m1 H.1, st_200_11 hS, st_200_11 H.1, st_200_12 hS, st_200_12 H.1, st_211_m2 hS, st_211_m2 H.1, st_211_m1 hS, st_211_m1 H.1, st_212_m2 hS, st_212_m2 H.1, st_212_m1 hS, st_212_m1 H.1]; first | done | omega)) (by first | assumption | (simp (disch := omega) only [up2_ne, up2_eq, e, st_200_m1 hS, st_200_m1 H.1, st_200_11 hS, st_200_11 H.1, st_200_12 hS, st_200_12 H.1, st_211_m2 hS, st_211_m2 H.1, st_211_m1 hS, st_211_m1 H.1, st_212_m2 hS, st_212_m2 H.1, st_212_m1 hS, st_212_m1 H.1]; first | done | rfl | omega)) (risAsking H e hS (by assumption)) (Nat.zero_le _) ?_
    try simp (disch := omega) only [up2_ne, up2_eq, e, st_200_m1 hS, st_200_m1 H.1, st_200_11 hS, st_200_11 H.1, st_200_12 hS, st_200_12 H.1, st_211_m2 hS, st_211_m2 H.1, st_211_m1 hS, st_211_m1 H.1, st_212_m2 hS, st_212_m2 H.1, st_212_m1 hS, st_212_m1 H.1]
    refine wp_ifB_ne (tgt := 26) dX12_taken_20 (by decide) (fun c2 => ?_) (fun c2 => ?_)
    · refine wp_aload_n rfl rfl dX12_taken_26 ?_
      refine wp_getfield1 (z := 13) (kI := 11) fX12_82 dX12_taken_27 (by first | omega | (simp (disch := omega) only [up2_ne, up2_eq, e, st_200_m1 hS, st_200_m1 H.1, st_200_11 hS, st_200_11 H.1, st_200_12 hS, st_200_12 H.1, st_211_m2 hS, st_211_m2 H.1, st_211_m1 hS, st_211_m1 H.1, st_212_m2 hS, st_212_m2 H.1, st_212_m1 hS, st_212_m1 H.1]; first | done | omega)) (by first | assumption | (simp (disch := omega) only [up2_ne, up2_eq, e, st_200_m1 hS, st_200_m1 H.1, st_200_11 hS, st_200_11 H.1, st_200_12 hS, st_200_12 H.1, st_211_m2 hS, st_211_m2 H.1, st_211_m1 hS, st_211_m1 H.1, st_212_m2 hS, st_212_m2 H.1, st_212_m1 hS, st_212_m1 H.1]; first | done | rfl | omega)) rfl rfl ?_
      try simp (disch := omega) only [up2_ne, up2_eq, e, st_200_m1 hS, st_200_m1 H.1, st_200_11 hS, st_200_11 H.1, st_200_12 hS, st_200_12 H.1, st_211_m2 hS, st_211_m2 H.1, st_211_m1 hS, st_211_m1 H.1, st_212_m2 hS, st_212_m2 H.1, st_212_m1 hS, st_212_m1 H.1]
      refine wp_iload_n rfl rfl dX12_taken_30 ?_
      refine wp_iaload1 dX12_taken_31 (by first | omega | (simp (disch := omega) only [up2_ne, up2_eq, e, st_200_m1 hS, st_200_m1 H.1, st_200_11 hS, st_200_11 H.1, st_200_12 hS, st_200_12 H.1, st_211_m2 hS, st_211_m2 H.1, st_211_m1 hS, st_211_m1 H.1, st_212_m2 hS, st_212_m2 H.1, st_212_m1 hS, st_212_m1 H.1]; first | done | omega)) (by first | assumption | (simp (disch := omega) only [up2_ne, up2_eq, e, st_200_m1 hS, st_200_m1 H.1, st_200_11 hS, st_200_11 H.1, st_200_12 hS, st_200_12 H.1, st_211_m2 hS, st_211_m2 H.1, st_211_m1 hS, st_211_m1 H.1, st_212_m2 hS, st_212_m2 H.1, st_212_m1 hS, st_212_m1 H.1]; first | done | rfl | omega)) (by first | omega | (simp (disch := omega) only [up2_ne, up2_eq, e, st_200_m1 hS, st_200_m1 H.1, st_200_11 hS, st_200_11 H.1, st_200_12 hS, st_200_12 H.1, st_211_m2 hS, st_211_m2 H.1, st_211_m1 hS, st_211_m1 H.1, st_212_m2 hS, st_212_m2 H.1, st_212_m1 hS, st_212_m1 H.1]; first | done | omega)) (by first | omega | (simp (disch := omega) only [up2_ne, up2_eq, e, st_200_m1 hS, st_200_m1 H.1, st_200_11 hS, st_200_11 H.1, st_200_12 hS, st_200_12 H.1, st_211_m2 hS, st_211_m2 H.1, st_211_m1 hS, st_211_m1 H.1, st_212_m2 hS, st_212_m2 H.1, st_212_m1 hS, st_212_m1 H.1]; first | done | omega)) ?_
      try simp (disch := omega) only [up2_ne, up2_eq, e, st_200_m1 hS, st_200_m1 H.1, st_200_11 hS, st_200_11 H.1, st_200_12 hS, st_200_12 H.1, st_211_m2 hS, st_211_m2 H.1, st_211_m1 hS, st_211_m1 H.1, st_212_m2 hS, st_212_m2 H.1, st_212_m1 hS, st_212_m1 H.1]
      refine wp_istore_n rfl dX12_taken_32 rfl (Nat.le_of_ble_eq_true rfl) rfl ?_
      try simp only [List.set_cons_zero, List.set_cons_succ]
      refine wp_iload_n rfl rfl dX12_taken_33 ?_
      refine wp_if_eq (tgt := 67) (by first | assumption | exact bI_in _ | exact ⟨by omega, by omega⟩ | exact iAnd_in | exact iOr_in | exact iShr_in | exact iShl_in | exact iXor_in | exact hxs _) dX12_taken_34 (by decide) (fun c3 => ?_) (fun c3 => ?_)
      · refine wp_iconst dX12_taken_67 ?_
        refine wp_goto (tgt := 72) dX12_taken_68 (by decide) ?_
        refine wp_istore dX12_taken_72 rfl (Nat.le_of_ble_eq_true rfl) rfl ?_
        try simp only [List.set_cons_zero, List.set_cons_succ]
        refine wp_iload rfl dX12_taken_74 ?_
        refine wp_if_eq (tgt := 88) (by first | assumption | exact bI_in _ | exact ⟨by omega, by omega⟩ | exact iAnd_in | exact iOr_in | exact iShr_in | exact iShl_in | exact iXor_in | exact hxs _) dX12_taken_76 (by decide) (fun hx => absurd hx (by decide)) (fun hx => ?_)
        refine wp_aload_n rfl rfl dX12_taken_79 ?_
        refine wp_getfield1 (z := 13) (kI := 12) fX12_85 dX12_taken_80 (by first | omega | (simp (disch := omega) only [up2_ne, up2_eq, e, st_200_m1 hS, st_200_m1 H.1, st_200_11 hS, st_200_11 H.1, st_200_12 hS, st_200_12 H.1, st_211_m2 hS, st_211_m2 H.1, st_211_m1 hS, st_211_m1 H.1, st_212_m2 hS, st_212_m2 H.1, st_212_m1 hS, st_212_m1 H.1]; first | done | omega)) (by first | assumption | (simp (disch := omega) only [up2_ne, up2_eq, e, st_200_m1 hS, st_200_m1 H.1, st_200_11 hS, st_200_11 H.1, st_200_12 hS, st_200_12 H.1, st_211_m2 hS, st_211_m2 H.1, st_211_m1 hS, st_211_m1 H.1, st_212_m2 hS, st_212_m2 H.1, st_212_m1 hS, st_212_m1 H.1]; first | done | rfl | omega)) rfl rfl ?_
        try simp (disch := omega) only [up2_ne, up2_eq, e, st_200_m1 hS, st_200_m1 H.1, st_200_11 hS, st_200_11 H.1, st_200_12 hS, st_200_12 H.1, st_211_m2 hS, st_211_m2 H.1, st_211_m1 hS, st_211_m1 H.1, st_212_m2 hS, st_212_m2 H.1, st_212_m1 hS, st_212_m1 H.1]
        refine wp_iload_n rfl rfl dX12_taken_83 ?_
        refine wp_iaload1 dX12_taken_84 (by first | omega | (simp (disch := omega) only [up2_ne, up2_eq, e, st_200_m1 hS, st_200_m1 H.1, st_200_11 hS, st_200_11 H.1, st_200_12 hS, st_200_12 H.1, st_211_m2 hS, st_211_m2 H.1, st_211_m1 hS, st_211_m1 H.1, st_212_m2 hS, st_212_m2 H.1, st_212_m1 hS, st_212_m1 H.1]; first | done | omega)) (by first | assumption | (simp (disch := omega) only [up2_ne, up2_eq, e, st_200_m1 hS, st_200_m1 H.1, st_200_11 hS, st_200_11 H.1, st_200_12 hS, st_200_12 H.1, st_211_m2 hS, st_211_m2 H.1, st_211_m1 hS, st_211_m1 H.1, st_212_m2 hS, st_212_m2 H.1, st_212_m1 hS, st_212_m1 H.1]; first | done | rfl | omega)) (by first | omega | (simp (disch := omega) only [up2_ne, up2_eq, e, st_200_m1 hS, st_200_m1 H.1, st_200_11 hS, st_200_11 H.1, st_200_12 hS, st_200_12 H.1, st_211_m2 hS, st_211_m2 H.1, st_211_m1 hS, st_211_m1 H.1, st_212_m2 hS, st_212_m2 H.1, st_212_m1 hS, st_212_m1 H.1]; first | done | omega)) (by first | omega | (simp (disch := omega) only [up2_ne, up2_eq, e, st_200_m1 hS, st_200_m1 H.1, st_200_11 hS, st_200_11 H.1, st_200_12 hS, st_200_12 H.1, st_211_m2 hS, st_211_m2 H.1, st_211_m1 hS, st_211_m1 H.1, st_212_m2 hS, st_212_m2 H.1, st_212_m1 hS, st_212_m1 H.1]; first | done | omega)) ?_
        try simp (disch := omega) only [up2_ne, up2_eq, e, st_200_m1 hS, st_200_m1 H.1, st_200_11 hS, st_200_11 H.1, st_200_12 hS, st_200_12 H.1, st_211_m2 hS, st_211_m2 H.1, st_211_m1 hS, st_211_m1 H.1, st_212_m2 hS, st_212_m2 H.1, st_212_m1 hS, st_212_m1 H.1]
        refine wp_goto (tgt := 90) dX12_taken_85 (by decide) ?_
        refine wp_iret dX12_taken_90 rfl ?_
        refine Q_eq hQ ?_ rfl
        congr 1
        first
          | (rw [if_neg (by omega)]; done)
          | (rw [if_pos (by omega)]; done)
          | (rw [if_pos (by omega), if_neg (by omega)]; done)
          | (rw [if_pos (by omega), if_pos (by omega)]; done)
          | (rw [if_pos (by omega), if_pos (by omega), if_pos (by omega)]; done)
          | (rw [if_pos (by omega), if_pos (by omega), if_neg (by omega)]; done)
      · refine wp_iload_n rfl rfl dX12_taken_37 ?_
        refine wp_iload_n rfl rfl dX12_taken_38 ?_
        refine wp_icmp_eq (tgt := 67) (by first | assumption | exact bI_in _ | exact ⟨by omega, by omega⟩ | exact iAnd_in | exact iOr_in | exact iShr_in | exact iShl_in | exact iXor_in | exact hxs _) (by first | assumption | exact bI_in _ | exact ⟨by omega, by omega⟩ | exact iAnd_in | exact iOr_in | exact iShr_in | exact iShl_in | exact iXor_in | exact hxs _) dX12_taken_39 (by decide) (fun c4 => ?_) (fun c4 => ?_)
        · refine wp_iconst dX12_taken_67 ?_
          refine wp_goto (tgt := 72) dX12_taken_68 (by decide) ?_
          refine wp_istore dX12_taken_72 rfl (Nat.le_of_ble_eq_true rfl) rfl ?_
          try simp only [List.set_cons_zero, List.set_cons_succ]
          refine wp_iload rfl dX12_taken_74 ?_
          refine wp_if_eq (tgt := 88) (by first | assumption | exact bI_in _ | exact ⟨by omega, by omega⟩ | exact iAnd_in | exact iOr_in | exact iShr_in | exact iShl_in | exact iXor_in | exact hxs _) dX12_taken_76 (by decide) (fun hx => absurd hx (by decide)) (fun hx => ?_)
          refine wp_aload_n rfl rfl dX12_taken_79 ?_
          refine wp_getfield1 (z := 13) (kI := 12) fX12_85 dX12_taken_80 (by first | omega | (simp (disch := omega) only [up2_ne, up2_eq, e, st_200_m1 hS, st_200_m1 H.1, st_200_11 hS, st_200_11 H.1, st_200_12 hS, st_200_12 H.1, st_211_m2 hS, st_211_m2 H.1, st_211_m1 hS, st_211_m1 H.1, st_212_m2 hS, st_212_m2 H.1, st_212_m1 hS, st_212_m1 H.1]; first | done | omega)) (by first | assumption | (simp (disch := omega) only [up2_ne, up2_eq, e, st_200_m1 hS, st_200_m1 H.1, st_200_11 hS, st_200_11 H.1, st_200_12 hS, st_200_12 H.1, st_211_m2 hS, st_211_m2 H.1, st_211_m1 hS, st_211_m1 H.1, st_212_m2 hS, st_212_m2 H.1, st_212_m1 hS, st_212_m1 H.1]; first | done | rfl | omega)) rfl rfl ?_
          try simp (disch := omega) only [up2_ne, up2_eq, e, st_200_m1 hS, st_200_m1 H.1, st_200_11 hS, st_200_11 H.1, st_200_12 hS, st_200_12 H.1, st_211_m2 hS, st_211_m2 H.1, st_211_m1 hS, st_211_m1 H.1, st_212_m2 hS, st_212_m2 H.1, st_212_m1 hS, st_212_m1 H.1]
          refine wp_iload_n rfl rfl dX12_taken_83 ?_
          refine wp_iaload1 dX12_taken_84 (by first | omega | (simp (disch := omega) only [up2_ne, up2_eq, e, st_200_m1 hS, st_200_m1 H.1, st_200_11 hS, st_200_11 H.1, st_200_12 hS, st_200_12 H.1, st_211_m2 hS, st_211_m2 H.1, st_211_m1 hS, st_211_m1 H.1, st_212_m2 hS, st_212_m2 H.1, st_212_m1 hS, st_212_m1 H.1]; first | done | omega)) (by first | assumption | (simp (disch := omega) only [up2_ne, up2_eq, e, st_200_m1 hS, st_200_m1 H.1, st_200_11 hS, st_200_11 H.1, st_200_12 hS, st_200_12 H.1, st_211_m2 hS, st_211_m2 H.1, st_211_m1 hS, st_211_m1 H.1, st_212_m2 hS, st_212_m2 H.1, st_212_m1 hS, st_212_m1 H.1]; first | done | rfl | omega)) (by first | omega | (simp (disch := omega) only [up2_ne, up2_eq, e, st_200_m1 hS, st_200_m1 H.1, st_200_11 hS, st_200_11 H.1, st_200_12 hS, st_200_12 H.1, st_211_m2 hS, st_211_m2 H.1, st_211_m1 hS, st_211_m1 H.1, st_212_m2 hS, st_212_m2 H.1, st_212_m1 hS, st_212_m1 H.1]; first | done | omega)) (by first | omega | (simp (disch := omega) only [up2_ne, up2_eq, e, st_200_m1 hS, st_200_m1 H.1, st_200_11 hS, st_200_11 H.1, st_200_12 hS, st_200_12 H.1, st_211_m2 hS, st_211_m2 H.1, st_211_m1 hS, st_211_m1 H.1, st_212_m2 hS, st_212_m2 H.1, st_212_m1 hS, st_212_m1 H.1]; first | done | omega)) ?_
          try simp (disch := omega) only [up2_ne, up2_eq, e, st_200_m1 hS, st_200_m1 H.1, st_200_11 hS, st_200_11 H.1, st_200_12 hS, st_200_12 H.1, st_211_m2 hS, st_211_m2 H.1, st_211_m1 hS, st_211_m1 H.1, st_212_m2 hS, st_212_m2 H.1, st_212_m1 hS, st_212_m1 H.1]
          refine wp_goto (tgt := 90) dX12_taken_85 (by decide) ?_
          refine wp_iret dX12_taken_90 rfl ?_
          refine Q_eq hQ ?_ rfl
          congr 1
          first
            | (rw [if_neg (by omega)]; done)
            | (rw [if_pos (by omega)]; done)
            | (rw [if_pos (by omega), if_neg (by omega)]; done)
            | (rw [if_pos (by omega), if_pos (by omega)]; done)
            | (rw [if_pos (by omega), if_pos (by omega), if_pos (by omega)]; done)
            | (rw [if_pos (by omega), if_pos (by omega), if_neg (by omega)]; done)
        · refine wp_iload_n rfl rfl dX12_taken_42 ?_
          refine wp_iconst dX12_taken_43 ?_
          refine wp_icmp_ne (tgt := 52) (by first | assumption | exact bI_in _ | exact ⟨by omega, by omega⟩ | exact iAnd_in | exact iOr_in | exact iShr_in | exact iShl_in | exact iXor_in | exact hxs _) (by first | assumption | exact bI_in _ | exact ⟨by omega, by omega⟩ | exact iAnd_in | exact iOr_in | exact iShr_in | exact iShl_in | exact iXor_in | exact hxs _) dX12_taken_44 (by decide) (fun c5 => ?_) (fun c5 => ?_)
          · refine wp_iload_n rfl rfl dX12_taken_52 ?_
            refine wp_iconst dX12_taken_53 ?_
            refine wp_icmp_ne (tgt := 71) (by first | assumption | exact bI_in _ | exact ⟨by omega, by omega⟩ | exact iAnd_in | exact iOr_in | exact iShr_in | exact iShl_in | exact iXor_in | exact hxs _) (by first | assumption | exact bI_in _ | exact ⟨by omega, by omega⟩ | exact iAnd_in | exact iOr_in | exact iShr_in | exact iShl_in | exact iXor_in | exact hxs _) dX12_taken_54 (by decide) (fun c6 => ?_) (fun c6 => ?_)
            · refine wp_iconst dX12_taken_71 ?_
              refine wp_istore dX12_taken_72 rfl (Nat.le_of_ble_eq_true rfl) rfl ?_
              try simp only [List.set_cons_zero, List.set_cons_succ]
              refine wp_iload rfl dX12_taken_74 ?_
              refine wp_if_eq (tgt := 88) (by first | assumption | exact bI_in _ | exact ⟨by omega, by omega⟩ | exact iAnd_in | exact iOr_in | exact iShr_in | exact iShl_in | exact iXor_in | exact hxs _) dX12_taken_76 (by decide) (fun hx => ?_) (fun hx => absurd hx (by decide))
              refine wp_bipush (by decide) dX12_taken_88 ?_
              refine wp_iret dX12_taken_90 rfl ?_
              refine Q_eq hQ ?_ rfl
              congr 1
              first
                | (rw [if_neg (by omega)]; done)
                | (rw [if_pos (by omega)]; done)
                | (rw [if_pos (by omega), if_neg (by omega)]; done)
                | (rw [if_pos (by omega), if_pos (by omega)]; done)
                | (rw [if_pos (by omega), if_pos (by omega), if_pos (by omega)]; done)
                | (rw [if_pos (by omega), if_pos (by omega), if_neg (by omega)]; done)
            · refine wp_iload_n rfl rfl dX12_taken_57 ?_
              refine wp_iconst dX12_taken_58 ?_
              refine wp_icmp_eq (tgt := 67) (by first | assumption | exact bI_in _ | exact ⟨by omega, by omega⟩ | exact iAnd_in | exact iOr_in | exact iShr_in | exact iShl_in | exact iXor_in | exact hxs _) (by first | assumption | exact bI_in _ | exact ⟨by omega, by omega⟩ | exact iAnd_in | exact iOr_in | exact iShr_in | exact iShl_in | exact iXor_in | exact hxs _) dX12_taken_59 (by decide) (fun c7 => ?_) (fun c7 => ?_)
              · refine wp_iconst dX12_taken_67 ?_
                refine wp_goto (tgt := 72) dX12_taken_68 (by decide) ?_
                refine wp_istore dX12_taken_72 rfl (Nat.le_of_ble_eq_true rfl) rfl ?_
                try simp only [List.set_cons_zero, List.set_cons_succ]
                refine wp_iload rfl dX12_taken_74 ?_
                refine wp_if_eq (tgt := 88) (by first | assumption | exact bI_in _ | exact ⟨by omega, by omega⟩ | exact iAnd_in | exact iOr_in | exact iShr_in | exact iShl_in | exact iXor_in | exact hxs _) dX12_taken_76 (by decide) (fun hx => absurd hx (by decide)) (fun hx => ?_)
                refine wp_aload_n rfl rfl dX12_taken_79 ?_
                refine wp_getfield1 (z := 13) (kI := 12) fX12_85 dX12_taken_80 (by first | omega | (simp (disch := omega) only [up2_ne, up2_eq, e, st_200_m1 hS, st_200_m1 H.1, st_200_11 hS, st_200_11 H.1, st_200_12 hS, st_200_12 H.1, st_211_m2 hS, st_211_m2 H.1, st_211_m1 hS, st_211_m1 H.1, st_212_m2 hS, st_212_m2 H.1, st_212_m1 hS, st_212_m1 H.1]; first | done | omega)) (by first | assumption | (simp (disch := omega) only [up2_ne, up2_eq, e, st_200_m1 hS, st_200_m1 H.1, st_200_11 hS, st_200_11 H.1, st_200_12 hS, st_200_12 H.1, st_211_m2 hS, st_211_m2 H.1, st_211_m1 hS, st_211_m1 H.1, st_212_m2 hS, st_212_m2 H.1, st_212_m1 hS, st_212_m1 H.1]; first | done | rfl | omega)) rfl rfl ?_
                try simp (disch := omega) only [up2_ne, up2_eq, e, st_200_m1 hS, st_200_m1 H.1, st_200_11 hS, st_200_11 H.1, st_200_12 hS, st_200_12 H.1, st_211_m2 hS, st_211_m2 H.1, st_211_m1 hS, st_211_m1 H.1, st_212_m2 hS, st_212_m2 H.1, st_212_m1 hS, st_212_m1 H.1]
                refine wp_iload_n rfl rfl dX12_taken_83 ?_
                refine wp_iaload1 dX12_taken_84 (by first | omega | (simp (disch := omega) only [up2_ne, up2_eq, e, st_200_m1 hS, st_200_m1 H.1, st_200_11 hS, st_200_11 H.1, st_200_12 hS, st_200_12 H.1, st_211_m2 hS, st_211_m2 H.1, st_211_m1 hS, st_211_m1 H.1, st_212_m2 hS, st_212_m2 H.1, st_212_m1 hS, st_212_m1 H.1]; first | done | omega)) (by first | assumption | (simp (disch := omega) only [up2_ne, up2_eq, e, st_200_m1 hS, st_200_m1 H.1, st_200_11 hS, st_200_11 H.1, st_200_12 hS, st_200_12 H.1, st_211_m2 hS, st_211_m2 H.1, st_211_m1 hS, st_211_m1 H.1, st_212_m2 hS, st_212_m2 H.1, st_212_m1 hS, st_212_m1 H.1]; first | done | rfl | omega)) (by first | omega | (simp (disch := omega) only [up2_ne, up2_eq, e, st_200_m1 hS, st_200_m1 H.1, st_200_11 hS, st_200_11 H.1, st_200_12 hS, st_200_12 H.1, st_211_m2 hS, st_211_m2 H.1, st_211_m1 hS, st_211_m1 H.1, st_212_m2 hS, st_212_m2 H.1, st_212_m1 hS, st_212_m1 H.1]; first | done | omega)) (by first | omega | (simp (disch := omega) only [up2_ne, up2_eq, e, st_200_m1 hS, st_200_m1 H.1, st_200_11 hS, st_200_11 H.1, st_200_12 hS, st_200_12 H.1, st_211_m2 hS, st_211_m2 H.1, st_211_m1 hS, st_211_m1 H.1, st_212_m2 hS, st_212_m2 H.1, st_212_m1 hS, st_212_m1 H.1]; first | done | omega)) ?_
                try simp (disch := omega) only [up2_ne, up2_eq, e, st_200_m1 hS, st_200_m1 H.1, st_200_11 hS, st_200_11 H.1, st_200_12 hS, st_200_12 H.1, st_211_m2 hS, st_211_m2 H.1, st_211_m1 hS, st_211_m1 H.1, st_212_m2 hS, st_212_m2 H.1, st_212_m1 hS, st_212_m1 H.1]
                refine wp_goto (tgt := 90) dX12_taken_85 (by decide) ?_
                refine wp_iret dX12_taken_90 rfl ?_
                refine Q_eq hQ ?_ rfl
                congr 1
                first
                  | (rw [if_neg (by omega)]; done)
                  | (rw [if_pos (by omega)]; done)
                  | (rw [if_pos (by omega), if_neg (by omega)]; done)
                  | (rw [if_pos (by omega), if_pos (by omega)]; done)
                  | (rw [if_pos (by omega), if_pos (by omega), if_pos (by omega)]; done)
                  | (rw [if_pos (by omega), if_pos (by omega), if_neg (by omega)]; done)
              · refine wp_iload_n rfl rfl dX12_taken_62 ?_
                refine wp_iconst dX12_taken_63 ?_
                refine wp_icmp_ne (tgt := 71) (by first | assumption | exact bI_in _ | exact ⟨by omega, by omega⟩ | exact iAnd_in | exact iOr_in | exact iShr_in | exact iShl_in | exact iXor_in | exact hxs _) (by first | assumption | exact bI_in _ | exact ⟨by omega, by omega⟩ | exact iAnd_in | exact iOr_in | exact iShr_in | exact iShl_in | exact iXor_in | exact hxs _) dX12_taken_64 (by decide) (fun c8 => ?_) (fun c8 => ?_)
                · refine wp_iconst dX12_taken_71 ?_
                  refine wp_istore dX12_taken_72 rfl (Nat.le_of_ble_eq_true rfl) rfl ?_
                  try simp only [List.set_cons_zero, List.set_cons_succ]
                  refine wp_iload rfl dX12_taken_74 ?_
                  refine wp_if_eq (tgt := 88) (by first | assumption | exact bI_in _ | exact ⟨by omega, by omega⟩ | exact iAnd_in | exact iOr_in | exact iShr_in | exact iShl_in | exact iXor_in | exact hxs _) dX12_taken_76 (by decide) (fun hx => ?_) (fun hx => absurd hx (by decide))
                  refine wp_bipush (by decide) dX12_taken_88 ?_
                  refine wp_iret dX12_taken_90 rfl ?_
                  refine Q_eq hQ ?_ rfl
                  congr 1
                  first
                    | (rw [if_neg (by omega)]; done)
                    | (rw [if_pos (by omega)]; done)
                    | (rw [if_pos (by omega), if_neg (by omega)]; done)
                    | (rw [if_pos (by omega), if_pos (by omega)]; done)
                    | (rw [if_pos (by omega), if_pos (by omega), if_pos (by omega)]; done)
                    | (rw [if_pos (by omega), if_pos (by omega), if_neg (by omega)]; done)
                · refine wp_iconst dX12_taken_67 ?_
                  refine wp_goto (tgt := 72) dX12_taken_68 (by decide) ?_
                  refine wp_istore dX12_taken_72 rfl (Nat.le_of_ble_eq_true rfl) rfl ?_
                  try simp only [List.set_cons_zero, List.set_cons_succ]
                  refine wp_iload rfl dX12_taken_74 ?_
                  refine wp_if_eq (tgt := 88) (by first | assumption | exact bI_in _ | exact ⟨by omega, by omega⟩ | exact iAnd_in | exact iOr_in | exact iShr_in | exact iShl_in | exact iXor_in | exact hxs _) dX12_taken_76 (by decide) (fun hx => absurd hx (by decide)) (fun hx => ?_)
                  refine wp_aload_n rfl rfl dX12_taken_79 ?_
                  refine wp_getfield1 (z := 13) (kI := 12) fX12_85 dX12_taken_80 (by first | omega | (simp (disch := omega) only [up2_ne, up2_eq, e, st_200_m1 hS, st_200_m1 H.1, st_200_11 hS, st_200_11 H.1, st_200_12 hS, st_200_12 H.1, st_211_m2 hS, st_211_m2 H.1, st_211_m1 hS, st_211_m1 H.1, st_212_m2 hS, st_212_m2 H.1, st_212_m1 hS, st_212_m1 H.1]; first | done | omega)) (by first | assumption | (simp (disch := omega) only [up2_ne, up2_eq, e, st_200_m1 hS, st_200_m1 H.1, st_200_11 hS, st_200_11 H.1, st_200_12 hS, st_200_12 H.1, st_211_m2 hS, st_211_m2 H.1, st_211_m1 hS, st_211_m1 H.1, st_212_m2 hS, st_212_m2 H.1, st_212_m1 hS, st_212_m1 H.1]; first | done | rfl | omega)) rfl rfl ?_
                  try simp (disch := omega) only [up2_ne, up2_eq, e, st_200_m1 hS, st_200_m1 H.1, st_200_11 hS, st_200_11 H.1, st_200_12 hS, st_200_12 H.1, st_211_m2 hS, st_211_m2 H.1, st_211_m1 hS, st_211_m1 H.1, st_212_m2 hS, st_212_m2 H.1, st_212_m1 hS, st_212_m1 H.1]
                  refine wp_iload_n rfl rfl dX12_taken_83 ?_
                  refine wp_iaload1 dX12_taken_84 (by first | omega | (simp (disch := omega) only [up2_ne, up2_eq, e, st_200_m1 hS, st_200_m1 H.1, st_200_11 hS, st_200_11 H.1, st_200_12 hS, st_200_12 H.1, st_211_m2 hS, st_211_m2 H.1, st_211_m1 hS, st_211_m1 H.1, st_212_m2 hS, st_212_m2 H.1, st_212_m1 hS, st_212_m1 H.1]; first | done | omega)) (by first | assumption | (simp (disch := omega) only [up2_ne, up2_eq, e, st_200_m1 hS, st_200_m1 H.1, st_200_11 hS, st_200_11 H.1, st_200_12 hS, st_200_12 H.1, st_211_m2 hS, st_211_m2 H.1, st_211_m1 hS, st_211_m1 H.1, st_212_m2 hS, st_212_m2 H.1, st_212_m1 hS, st_212_m1 H.1]; first | done | rfl | omega)) (by first | omega | (simp (disch := omega) only [up2_ne, up2_eq, e, st_200_m1 hS, st_200_m1 H.1, st_200_11 hS, st_200_11 H.1, st_200_12 hS, st_200_12 H.1, st_211_m2 hS, st_211_m2 H.1, st_211_m1 hS, st_211_m1 H.1, st_212_m2 hS, st_212_m2 H.1, st_212_m1 hS, st_212_m1 H.1]; first | done | omega)) (by first | omega | (simp (disch := omega) only [up2_ne, up2_eq, e, st_200_m1 hS, st_200_m1 H.1, st_200_11 hS, st_200_11 H.1, st_200_12 hS, st_200_12 H.1, st_211_m2 hS, st_211_m2 H.1, st_211_m1 hS, st_211_m1 H.1, st_212_m2 hS, st_212_m2 H.1, st_212_m1 hS, st_212_m1 H.1]; first | done | omega)) ?_
                  try simp (disch := omega) only [up2_ne, up2_eq, e, st_200_m1 hS, st_200_m1 H.1, st_200_11 hS, st_200_11 H.1, st_200_12 hS, st_200_12 H.1, st_211_m2 hS, st_211_m2 H.1, st_211_m1 hS, st_211_m1 H.1, st_212_m2 hS, st_212_m2 H.1, st_212_m1 hS, st_212_m1 H.1]
                  refine wp_goto (tgt := 90) dX12_taken_85 (by decide) ?_
                  refine wp_iret dX12_taken_90 rfl ?_
                  refine Q_eq hQ ?_ rfl
                  congr 1
                  first
                    | (rw [if_neg (by omega)]; done)
                    | (rw [if_pos (by omega)]; done)
                    | (rw [if_pos (by omega), if_neg (by omega)]; done)
                    | (rw [if_pos (by omega), if_pos (by omega)]; done)
                    | (rw [if_pos (by omega), if_pos (by omega), if_pos (by omega)]; done)
                    | (rw [if_pos (by omega), if_pos (by omega), if_neg (by omega)]; done)
          · refine wp_iload_n rfl rfl dX12_taken_47 ?_
            refine wp_iconst dX12_taken_48 ?_
            refine wp_icmp_eq (tgt := 67) (by first | assumption | exact bI_in _ | exact ⟨by omega, by omega⟩ | exact iAnd_in | exact iOr_in | exact iShr_in | exact iShl_in | exact iXor_in | exact hxs _) (by first | assumption | exact bI_in _ | exact ⟨by omega, by omega⟩ | exact iAnd_in | exact iOr_in | exact iShr_in | exact iShl_in | exact iXor_in | exact hxs _) dX12_taken_49 (by decide) (fun c9 => ?_) (fun c9 => ?_)
            · refine wp_iconst dX12_taken_67 ?_
              refine wp_goto (tgt := 72) dX12_taken_68 (by decide) ?_
              refine wp_istore dX12_taken_72 rfl (Nat.le_of_ble_eq_true rfl) rfl ?_
              try simp only [List.set_cons_zero, List.set_cons_succ]
              refine wp_iload rfl dX12_taken_74 ?_
              refine wp_if_eq (tgt := 88) (by first | assumption | exact bI_in _ | exact ⟨by omega, by omega⟩ | exact iAnd_in | exact iOr_in | exact iShr_in | exact iShl_in | exact iXor_in | exact hxs _) dX12_taken_76 (by decide) (fun hx => absurd hx (by decide)) (fun hx => ?_)
              refine wp_aload_n rfl rfl dX12_taken_79 ?_
              refine wp_getfield1 (z := 13) (kI := 12) fX12_85 dX12_taken_80 (by first | omega | (simp (disch := omega) only [up2_ne, up2_eq, e, st_200_m1 hS, st_200_m1 H.1, st_200_11 hS, st_200_11 H.1, st_200_12 hS, st_200_12 H.1, st_211_m2 hS, st_211_m2 H.1, st_211_m1 hS, st_211_m1 H.1, st_212_m2 hS, st_212_m2 H.1, st_212_m1 hS, st_212_m1 H.1]; first | done | omega)) (by first | assumption | (simp (disch := omega) only [up2_ne, up2_eq, e, st_200_m1 hS, st_200_m1 H.1, st_200_11 hS, st_200_11 H.1, st_200_12 hS, st_200_12 H.1, st_211_m2 hS, st_211_m2 H.1, st_211_m1 hS, st_211_m1 H.1, st_212_m2 hS, st_212_m2 H.1, st_212_m1 hS, st_212_m1 H.1]; first | done | rfl | omega)) rfl rfl ?_
              try simp (disch := omega) only [up2_ne, up2_eq, e, st_200_m1 hS, st_200_m1 H.1, st_200_11 hS, st_200_11 H.1, st_200_12 hS, st_200_12 H.1, st_211_m2 hS, st_211_m2 H.1, st_211_m1 hS, st_211_m1 H.1, st_212_m2 hS, st_212_m2 H.1, st_212_m1 hS, st_212_m1 H.1]
              refine wp_iload_n rfl rfl dX12_taken_83 ?_
              refine wp_iaload1 dX12_taken_84 (by first | omega | (simp (disch := omega) only [up2_ne, up2_eq, e, st_200_m1 hS, st_200_m1 H.1, st_200_11 hS, st_200_11 H.1, st_200_12 hS, st_200_12 H.1, st_211_m2 hS, st_211_m2 H.1, st_211_m1 hS, st_211_m1 H.1, st_212_m2 hS, st_212_m2 H.1, st_212_m1 hS, st_212_m1 H.1]; first | done | omega)) (by first | assumption | (simp (disch := omega) only [up2_ne, up2_eq, e, st_200_m1 hS, st_200_m1 H.1, st_200_11 hS, st_200_11 H.1, st_200_12 hS, st_200_12 H.1, st_211_m2 hS, st_211_m2 H.1, st_211_m1 hS, st_211_m1 H.1, st_212_m2 hS, st_212_m2 H.1, st_212_m1 hS, st_212_m1 H.1]; first | done | rfl | omega)) (by first | omega | (simp (disch := omega) only [up2_ne, up2_eq, e, st_200_m1 hS, st_200_m1 H.1, st_200_11 hS, st_200_11 H.1, st_200_12 hS, st_200_12 H.1, st_211_m2 hS, st_211_m2 H.1, st_211_m1 hS, st_211_m1 H.1, st_212_m2 hS, st_212_m2 H.1, st_212_m1 hS, st_212_m1 H.1]; first | done | omega)) (by first | omega | (simp (disch := omega) only [up2_ne, up2_eq, e, st_200_m1 hS, st_200_m1 H.1, st_200_11 hS, st_200_11 H.1, st_200_12 hS, st_200_12 H.1, st_211_m2 hS, st_211_m2 H.1, st_211_m1 hS, st_211_m1 H.1, st_212_m2 hS, st_212_m2 H.1, st_212_m1 hS, st_212_m1 H.1]; first | done | omega)) ?_
              try simp (disch := omega) only [up2_ne, up2_eq, e, st_200_m1 hS, st_200_m1 H.1, st_200_11 hS, st_200_11 H.1, st_200_12 hS, st_200_12 H.1, st_211_m2 hS, st_211_m2 H.1, st_211_m1 hS, st_211_m1 H.1, st_212_m2 hS, st_212_m2 H.1, st_212_m1 hS, st_212_m1 H.1]
              refine wp_goto (tgt := 90) dX12_taken_85 (by decide) ?_
              refine wp_iret dX12_taken_90 rfl ?_
              refine Q_eq hQ ?_ rfl
              congr 1
              first
                | (rw [if_neg (by omega)]; done)
                | (rw [if_pos (by omega)]; done)
                | (rw [if_pos (by omega), if_neg (by omega)]; done)
                | (rw [if_pos (by omega), if_pos (by omega)]; done)
                | (rw [if_pos (by omega), if_pos (by omega), if_pos (by omega)]; done)
                | (rw [if_pos (by omega), if_pos (by omega), if_neg (by omega)]; done)
            · refine wp_iload_n rfl rfl dX12_taken_52 ?_
              refine wp_iconst dX12_taken_53 ?_
              refine wp_icmp_ne (tgt := 71) (by first | assumption | exact bI_in _ | exact ⟨by omega, by omega⟩ | exact iAnd_in | exact iOr_in | exact iShr_in | exact iShl_in | exact iXor_in | exact hxs _) (by first | assumption | exact bI_in _ | exact ⟨by omega, by omega⟩ | exact iAnd_in | exact iOr_in | exact iShr_in | exact iShl_in | exact iXor_in | exact hxs _) dX12_taken_54 (by decide) (fun c10 => ?_) (fun c10 => ?_)
              · refine wp_iconst dX12_taken_71 ?_
                refine wp_istore dX12_taken_72 rfl (Nat.le_of_ble_eq_true rfl) rfl ?_
                try simp only [List.set_cons_zero, List.set_cons_succ]
                refine wp_iload rfl dX12_taken_74 ?_
                refine wp_if_eq (tgt := 88) (by first | assumption | exact bI_in _ | exact ⟨by omega, by omega⟩ | exact iAnd_in | exact iOr_in | exact iShr_in | exact iShl_in | exact iXor_in | exact hxs _) dX12_taken_76 (by decide) (fun hx => ?_) (fun hx => absurd hx (by decide))
                refine wp_bipush (by decide) dX12_taken_88 ?_
                refine wp_iret dX12_taken_90 rfl ?_
                refine Q_eq hQ ?_ rfl
                congr 1
                first
                  | (rw [if_neg (by omega)]; done)
                  | (rw [if_pos (by omega)]; done)
                  | (rw [if_pos (by omega), if_neg (by omega)]; done)
                  | (rw [if_pos (by omega), if_pos (by omega)]; done)
                  | (rw [if_pos (by omega), if_pos (by omega), if_pos (by omega)]; done)
                  | (rw [if_pos (by omega), if_pos (by omega), if_neg (by omega)]; done)
              · refine wp_iload_n rfl rfl dX12_taken_57 ?_
                refine wp_iconst dX12_taken_58 ?_
                refine wp_icmp_eq (tgt := 67) (by first | assumption | exact bI_in _ | exact ⟨by omega, by omega⟩ | exact iAnd_in | exact iOr_in | exact iShr_in | exact iShl_in | exact iXor_in | exact hxs _) (by first | assumption | exact bI_in _ | exact ⟨by omega, by omega⟩ | exact iAnd_in | exact iOr_in | exact iShr_in | exact iShl_in | exact iXor_in | exact hxs _) dX12_taken_59 (by decide) (fun c11 => ?_) (fun c11 => ?_)
                · refine wp_iconst dX12_taken_67 ?_
                  refine wp_goto (tgt := 72) dX12_taken_68 (by decide) ?_
                  refine wp_istore dX12_taken_72 rfl (Nat.le_of_ble_eq_true rfl) rfl ?_
                  try simp only [List.set_cons_zero, List.set_cons_succ]
                  refine wp_iload rfl dX12_taken_74 ?_
                  refine wp_if_eq (tgt := 88) (by first | assumption | exact bI_in _ | exact ⟨by omega, by omega⟩ | exact iAnd_in | exact iOr_in | exact iShr_in | exact iShl_in | exact iXor_in | exact hxs _) dX12_taken_76 (by decide) (fun hx => absurd hx (by decide)) (fun hx => ?_)
                  refine wp_aload_n rfl rfl dX12_taken_79 ?_
                  refine wp_getfield1 (z := 13) (kI := 12) fX12_85 dX12_taken_80 (by first | omega | (simp (disch := omega) only [up2_ne, up2_eq, e, st_200_m1 hS, st_200_m1 H.1, st_200_11 hS, st_200_11 H.1, st_200_12 hS, st_200_12 H.1, st_211_m2 hS, st_211_m2 H.1, st_211_m1 hS, st_211_m1 H.1, st_212_m2 hS, st_212_m2 H.1, st_212_m1 hS, st_212_m1 H.1]; first | done | omega)) (by first | assumption | (simp (disch := omega) only [up2_ne, up2_eq, e, st_200_m1 hS, st_200_m1 H.1, st_200_11 hS, st_200_11 H.1, st_200_12 hS, st_200_12 H.1, st_211_m2 hS, st_211_m2 H.1, st_211_m1 hS, st_211_m1 H.1, st_212_m2 hS, st_212_m2 H.1, st_212_m1 hS, st_212_m1 H.1]; first | done | rfl | omega)) rfl rfl ?_
                  try simp (disch := omega) only [up2_ne, up2_eq, e, st_200_m1 hS, st_200_m1 H.1, st_200_11 hS, st_200_11 H.1, st_200_12 hS, st_200_12 H.1, st_211_m2 hS, st_211_m2 H.1, st_211_m1 hS, st_211_m1 H.1, st_212_m2 hS, st_212_m2 H.1, st_212_m1 hS, st_212_m1 H.1]
                  refine wp_iload_n rfl rfl dX12_taken_83 ?_
                  refine wp_iaload1 dX12_taken_84 (by first | omega | (simp (disch := omega) only [up2_ne, up2_eq, e, st_200_m1 hS, st_200_m1 H.1, st_200_11 hS, st_200_11 H.1, st_200_12 hS, st_200_12 H.1, st_211_m2 hS, st_211_m2 H.1, st_211_m1 hS, st_211_m1 H.1, st_212_m2 hS, st_212_m2 H.1, st_212_m1 hS, st_212_m1 H.1]; first | done | omega)) (by first | assumption | (simp (disch := omega) only [up2_ne, up2_eq, e, st_200_m1 hS, st_200_m1 H.1, st_200_11 hS, st_200_11 H.1, st_200_12 hS, st_200_12 H.1, st_211_m2 hS, st_211_m2 H.1, st_211_m1 hS, st_211_m1 H.1, st_212_m2 hS, st_212_m2 H.1, st_212_m1 hS, st_212_m1 H.1]; first | done | rfl | omega)) (by first | omega | (simp (disch := omega) only [up2_ne, up2_eq, e, st_200_m1 hS, st_200_m1 H.1, st_200_11 hS, st_200_11 H.1, st_200_12 hS, st_200_12 H.1, st_211_m2 hS, st_211_m2 H.1, st_211_m1 hS, st_211_m1 H.1, st_212_m2 hS, st_212_m2 H.1, st_212_m1 hS, st_212_m1 H.1]; first | done | omega)) (by first | omega | (simp (disch := omega) only [up2_ne, up2_eq, e, st_200_m1 hS, st_200_m1 H.1, st_200_11 hS, st_200_11 H.1, st_200_12 hS, st_200_12 H.1, st_211_m2 hS, st_211_m2 H.1, st_211_m1 hS, st_211_m1 H.1, st_212_m2 hS, st_212_m2 H.1, st_212_m1 hS, st_212_m1 H.1]; first | done | omega)) ?_
                  try simp (disch := omega) only [up2_ne, up2_eq, e, st_200_m1 hS, st_200_m1 H.1, st_200_11 hS, st_200_11 H.1, st_200_12 hS, st_200_12 H.1, st_211_m2 hS, st_211_m2 H.1, st_211_m1 hS, st_211_m1 H.1, st_212_m2 hS, st_212_m2 H.1, st_212_m1 hS, st_212_m1 H.1]
                  refine wp_goto (tgt := 90) dX12_taken_85 (by decide) ?_
                  refine wp_iret dX12_taken_90 rfl ?_
                  refine Q_eq hQ ?_ rfl
                  congr 1
                  first
                    | (rw [if_neg (by omega)]; done)
                    | (rw [if_pos (by omega)]; done)
                    | (rw [if_pos (by omega), if_neg (by omega)]; done)
                    | (rw [if_pos (by omega), if_pos (by omega)]; done)
                    | (rw [if_pos (by omega), if_pos (by omega), if_pos (by omega)]; done)
                    | (rw [if_pos (by omega), if_pos (by omega), if_neg (by omega)]; done)
                · refine wp_iload_n rfl rfl dX12_taken_62 ?_
                  refine wp_iconst dX12_taken_63 ?_
                  refine wp_icmp_ne (tgt := 71) (by first | assumption | exact bI_in _ | exact ⟨by omega, by omega⟩ | exact iAnd_in | exact iOr_in | exact iShr_in | exact iShl_in | exact iXor_in | exact hxs _) (by first | assumption | exact bI_in _ | exact ⟨by omega, by omega⟩ | exact iAnd_in | exact iOr_in | exact iShr_in | exact iShl_in | exact iXor_in | exact hxs _) dX12_taken_64 (by decide) (fun c12 => ?_) (fun c12 => ?_)
                  · refine wp_iconst dX12_taken_71 ?_
                    refine wp_istore dX12_taken_72 rfl (Nat.le_of_ble_eq_true rfl) rfl ?_
                    try simp only [List.set_cons_zero, List.set_cons_succ]
                    refine wp_iload rfl dX12_taken_74 ?_
                    refine wp_if_eq (tgt := 88) (by first | assumption | exact bI_in _ | exact ⟨by omega, by omega⟩ | exact iAnd_in | exact iOr_in | exact iShr_in | exact iShl_in | exact iXor_in | exact hxs _) dX12_taken_76 (by decide) (fun hx => ?_) (fun hx => absurd hx (by decide))
                    refine wp_bipush (by decide) dX12_taken_88 ?_
                    refine wp_iret dX12_taken_90 rfl ?_
                    refine Q_eq hQ ?_ rfl
                    congr 1
                    first
                      | (rw [if_neg (by omega)]; done)
                      | (rw [if_pos (by omega)]; done)
                      | (rw [if_pos (by omega), if_neg (by omega)]; done)
                      | (rw [if_pos (by omega), if_pos (by omega)]; done)
                      | (rw [if_pos (by omega), if_pos (by omega), if_pos (by omega)]; done)
                      | (rw [if_pos (by omega), if_pos (by omega), if_neg (by omega)]; done)
                  · refine wp_iconst dX12_taken_67 ?_
                    refine wp_goto (tgt := 72) dX12_taken_68 (by decide) ?_
                    refine wp_istore dX12_taken_72 rfl (Nat.le_of_ble_eq_true rfl) rfl ?_
                    try simp only [List.set_cons_zero, List.set_cons_succ]
                    refine wp_iload rfl dX12_taken_74 ?_
                    refine wp_if_eq (tgt := 88) (by first | assumption | exact bI_in _ | exact ⟨by omega, by omega⟩ | exact iAnd_in | exact iOr_in | exact iShr_in | exact iShl_in | exact iXor_in | exact hxs _) dX12_taken_76 (by decide) (fun hx => absurd hx (by decide)) (fun hx => ?_)
                    refine wp_aload_n rfl rfl dX12_taken_79 ?_
                    refine wp_getfield1 (z := 13) (kI := 12) fX12_85 dX12_taken_80 (by first | omega | (simp (disch := omega) only [up2_ne, up2_eq, e, st_200_m1 hS, st_200_m1 H.1, st_200_11 hS, st_200_11 H.1, st_200_12 hS, st_200_12 H.1, st_211_m2 hS, st_211_m2 H.1, st_211_m1 hS, st_211_m1 H.1, st_212_m2 hS, st_212_m2 H.1, st_212_m1 hS, st_212_m1 H.1]; first | done | omega)) (by first | assumption | (simp (disch := omega) only [up2_ne, up2_eq, e, st_200_m1 hS, st_200_m1 H.1, st_200_11 hS, st_200_11 H.1, st_200_12 hS, st_200_12 H.1, st_211_m2 hS, st_211_m2 H.1, st_211_m1 hS, st_211_m1 H.1, st_212_m2 hS, st_212_m2 H.1, st_212_m1 hS, st_212_m1 H.1]; first | done | rfl | omega)) rfl rfl ?_
                    try simp (disch := omega) only [up2_ne, up2_eq, e, st_200_m1 hS, st_200_m1 H.1, st_200_11 hS, st_200_11 H.1, st_200_12 hS, st_200_12 H.1, st_211_m2 hS, st_211_m2 H.1, st_211_m1 hS, st_211_m1 H.1, st_212_m2 hS, st_212_m2 H.1, st_212_m1 hS, st_212_m1 H.1]
                    refine wp_iload_n rfl rfl dX12_taken_83 ?_
                    refine wp_iaload1 dX12_taken_84 (by first | omega | (simp (disch := omega) only [up2_ne, up2_eq, e, st_200_m1 hS, st_200_m1 H.1, st_200_11 hS, st_200_11 H.1, st_200_12 hS, st_200_12 H.1, st_211_m2 hS, st_211_m2 H.1, st_211_m1 hS, st_211_m1 H.1, st_212_m2 hS, st_212_m2 H.1, st_212_m1 hS, st_212_m1 H.1]; first | done | omega)) (by first | assumption | (simp (disch := omega) only [up2_ne, up2_eq, e, st_200_m1 hS, st_200_m1 H.1, st_200_11 hS, st_200_11 H.1, st_200_12 hS, st_200_12 H.1, st_211_m2 hS, st_211_m2 H.1, st_211_m1 hS, st_211_m1 H.1, st_212_m2 hS, st_212_m2 H.1, st_212_m1 hS, st_212_m1 H.1]; first | done | rfl | omega)) (by first | omega | (simp (disch := omega) only [up2_ne, up2_eq, e, st_200_m1 hS, st_200_m1 H.1, st_200_11 hS, st_200_11 H.1, st_200_12 hS, st_200_12 H.1, st_211_m2 hS, st_211_m2 H.1, st_211_m1 hS, st_211_m1 H.1, st_212_m2 hS, st_212_m2 H.1, st_212_m1 hS, st_212_m1 H.1]; first | done | omega)) (by first | omega | (simp (disch := omega) only [up2_ne, up2_eq, e, st_200_m1 hS, st_200_m1 H.1, st_200_11 hS, st_200_11 H.1, st_200_12 hS, st_200_12 H.1, st_211_m2 hS, st_211_m2 H.1, st_211_m1 hS, st_211_m1 H.1, st_212_m2 hS, st_212_m2 H.1, st_212_m1 hS, st_212_m1 H.1]; first | done | omega)) ?_
                    try simp (disch := omega) only [up2_ne, up2_eq, e, st_200_m1 hS, st_200_m1 H.1, st_200_11 hS, st_200_11 H.1, st_200_12 hS, st_200_12 H.1, st_211_m2 hS, st_211_m2 H.1, st_211_m1 hS, st_211_m1 H.1, st_212_m2 hS, st_212_m2 H.1, st_212_m1 hS, st_212_m1 H.1]
                    refine wp_goto (tgt := 90) dX12_taken_85 (by decide) ?_
                    refine wp_iret dX12_taken_90 rfl ?_
                    refine Q_eq hQ ?_ rfl
                    congr 1
                    first
                      | (rw [if_neg (by omega)]; done)
                      | (rw [if_pos (by omega)]; done)
                      | (rw [if_pos (by omega), if_neg (by omega)]; done)
                      | (rw [if_pos (by omega), if_pos (by omega)]; done)
                      | (rw [if_pos (by omega), if_pos (by omega), if_pos (by omega)]; done)
                      | (rw [if_pos (by omega), if_pos (by omega), if_neg (by omega)]; done)
    · refine wp_bipush (by decide) dX12_taken_23 ?_
      refine wp_iret dX12_taken_25 rfl ?_
      refine Q_eq hQ ?_ rfl
      congr 1
      first
        | (rw [if_neg (by omega)]; done)
        | (rw [if_pos (by omega)]; done)
        | (rw [if_pos (by omega), if_neg (by omega)]; done)
        | (rw [if_pos (by omega), if_pos (by omega)]; done)
        | (rw [if_pos (by omega), if_pos (by omega), if_pos (by omega)]; done)
        | (rw [if_pos (by omega), if_pos (by omega), if_neg (by omega)]; done)
  · refine wp_bipush (by decide) dX12_taken_12 ?_
    refine wp_iret dX12_taken_14 rfl ?_
    refine Q_eq hQ ?_ rfl
    congr 1
    first
      | (rw [if_neg (by omega)]; done)
      | (rw [if_pos (by omega)]; done)
      | (rw [if_pos (by omega), if_neg (by omega)]; done)
      | (rw [if_pos (by omega), if_pos (by omega)]; done)
      | (rw [if_pos (by omega), if_pos (by omega), if_pos (by omega)]; done)
      | (rw [if_pos (by omega), if_pos (by omega), if_neg (by omega)]; done)
theorem p_barred {u : gT} (j : Nat) (h : mH) (hj : j < 512) (hI : Inv j h) (x y : Int) (i1 : InI x) (i2 : InI y) : PairI u Inv MX11_barred MX12_barred [(0, x), (0, y)] j h := by
  have hS := hI.1
  have hn := hI.ns
  have hr := (s_X12_barred (u := u) (d := 2044) (b := 0) hI Cr_rfl hS i1 i2).rlt
  by_cases q1 : 0 ≤ x ∧ x < h 200 6
  · by_cases q2 : 0 ≤ y ∧ y < h 200 10
    · rw [if_pos ⟨q1, q2⟩] at hr
      refine (barred_t (d := 2042) (b := 300) hI Cl_rfl hS q1.1 q1.2 q2.1 q2.2).rlt.mono ?_
      rintro r h1 ⟨rfl, rfl⟩ -
      refine ⟨_, rfl, bI_in _, hr.mono ?_⟩
      rintro r h2 ⟨rfl, rfl⟩ -
      exact ⟨rfl, Inv_same hI⟩
    · rw [if_neg (fun z => q2 z.2)] at hr
      refine (barred_f2 (d := 2042) (b := 300) hI Cl_rfl hS q1.1 q1.2 i2 q2).rlt.mono ?_
      rintro r h1 ⟨rfl, rfl⟩ -
      refine ⟨_, rfl, ⟨by decide, by decide⟩, hr.mono ?_⟩
      rintro r h2 ⟨rfl, rfl⟩ -
      exact ⟨rfl, Inv_same hI⟩
  · rw [if_neg (fun z => q1 z.1)] at hr
    refine (barred_f1 (d := 2042) (b := 300) hI Cl_rfl hS i1 i2 q1).rlt.mono ?_
    rintro r h1 ⟨rfl, rfl⟩ -
    refine ⟨_, rfl, ⟨by decide, by decide⟩, hr.mono ?_⟩
    rintro r h2 ⟨rfl, rfl⟩ -
    exact ⟨rfl, Inv_same hI⟩
theorem p_taken {u : gT} (j : Nat) (h : mH) (hj : j < 512) (hI : Inv j h) (x k : Int) (i1 : InI x) (i2 : InI k) : PairI u Inv MX11_taken MX12_taken [(0, x), (0, k)] j h := by
  have hS := hI.1
  have hn := hI.ns
  have hr := (s_X12_taken (u := u) (d := 2044) (b := 0) hI Cr_rfl hS i1 i2).rlt
  by_cases q2 : 0 ≤ x ∧ x < h 200 10
  · rw [if_pos q2] at hr
    have h1 := hI.ra q2.1 (by omega)
    refine (taken_t (d := 2042) (b := 300) hI Cl_rfl hS q2.1 q2.2 i2).rlt.mono ?_
    rintro r h1 ⟨rfl, rfl⟩ -
    refine ⟨_, rfl, ?_, hr.mono ?_⟩
    · repeat' split
      all_goals exact ⟨by omega, by omega⟩
    · rintro r h2 ⟨rfl, rfl⟩ -
      exact ⟨rfl, Inv_same hI⟩
  · rw [if_neg q2] at hr
    refine (taken_f (d := 2042) (b := 300) hI Cl_rfl hS i1 q2 i2).rlt.mono ?_
    rintro r h1 ⟨rfl, rfl⟩ -
    refine ⟨_, rfl, ?_, hr.mono ?_⟩
    · repeat' split
      all_goals exact ⟨by omega, by omega⟩
    · rintro r h2 ⟨rfl, rfl⟩ -
      exact ⟨rfl, Inv_same hI⟩
set_option maxHeartbeats 1000000 in
theorem p_bar {u : gT} (j : Nat) (h : mH) (hj : j < 512) (hI : Inv j h) (x y : Int) (i1 : InI x) (i2 : InI y) : PairI u Inv MX11_bar MX12_bar [(0, x), (0, y)] j h := by
  have hS := hI.1
  have hn := hI.ns
  have hr := s_X12_bar (u := u) (d := 2044) (b := 0) hI Cr_rfl hS i1 i2
  by_cases q1 : 0 ≤ x ∧ x < h 200 6
  · by_cases q2 : 0 ≤ y ∧ y < h 200 10
    · have hf := hI.rm q2.1 (by omega) q1.1 (by omega)
      refine (bar_t (d := 2042) (b := 300) hI Cl_rfl hS q1.1 q1.2 q2.1 q2.2).mono ?_
      rintro r h1 (⟨c, rfl, rfl⟩ | ⟨c, rfl, rfl⟩) -
      · refine ⟨_, rfl, ⟨by decide, by decide⟩, hr.mono ?_⟩
        rintro r h2 (⟨z, rfl, rfl⟩ | ⟨z, rfl, rfl⟩) -
        · exact absurd ⟨q1, q2⟩ z
        rw [if_neg (by omega)]
        refine ⟨rfl, ?_⟩
        have es : up2 h1 219 (8 * y + x) 1 = h1 := by
          funext p k
          unfold up2
          split
          · rename_i hc
            rw [hc.1, hc.2, c]
          · rfl
        rw [es]
        exact Inv_same hI
      · obtain ⟨-, aN, aF, aR, aA, aB, aG, aS, aP, aT⟩ := id hI
        have n := aN
        unfold iN at n
        have hb := (aB y x q2.1 (by omega) q1.1 (by omega)).1
        have hx : 0 ≤ h (120 + y) 10 ∧ h (120 + y) 10 < 256 := by rcases hb with q | q <;> omega
        have ho := or_bit hx.1 hx.2 q1.1 (by omega)
        generalize iOr (h (120 + y) 10) (iShl 1 x) = v at ho ⊢
        have hS1 : St (up2 h (120 + y) 10 v) := hS.upD (by omega)
        have eR : Cr (up2 h (120 + y) 10 v) h := fun p k q => by simp (disch := omega) only [up2_ne, up2_eq, nw_ne, nw_m1, nw_m2, true_and, and_true]
        refine ⟨_, rfl, ⟨by decide, by decide⟩, (s_X12_bar (u := u) (d := 2044) (b := 0) hI eR hS1 i1 i2).mono ?_⟩
        rintro r h2 (⟨z, rfl, rfl⟩ | ⟨z, rfl, rfl⟩) -
        · exact absurd ⟨q1, q2⟩ z
        rw [if_pos c]
        refine ⟨rfl, hS1.upA (by decide +kernel) (by omega), (by unfold iN at aN ⊢; simp (disch := omega) only [up2_ne, up2_eq, nw_ne, nw_m1, nw_m2, true_and, and_true]; exact aN), iF_up (iF_cg (by simp (disch := omega) only [up2_ne, up2_eq, nw_ne, nw_m1, nw_m2, true_and, and_true]) (fun x k q => by simp (disch := omega) only [up2_ne, up2_eq, nw_ne, nw_m1, nw_m2, true_and, and_true]) aF), iR_cg (by simp (disch := omega) only [up2_ne, up2_eq, nw_ne, nw_m1, nw_m2, true_and, and_true]) (by simp (disch := omega) only [up2_ne, up2_eq, nw_ne, nw_m1, nw_m2, true_and, and_true]) (fun x k q => by simp (disch := omega) only [up2_ne, up2_eq, nw_ne, nw_m1, nw_m2, true_and, and_true]) aR, iA_cg (by simp (disch := omega) only [up2_ne, up2_eq, nw_ne, nw_m1, nw_m2, true_and, and_true]) (by simp (disch := omega) only [up2_ne, up2_eq, nw_ne, nw_m1, nw_m2, true_and, and_true]; omega) (fun x k q => by simp (disch := omega) only [up2_ne, up2_eq, nw_ne, nw_m1, nw_m2, true_and, and_true]) aA, ?_, iG_cg (by simp (disch := omega) only [up2_ne, up2_eq, nw_ne, nw_m1, nw_m2, true_and, and_true]) (by simp (disch := omega) only [up2_ne, up2_eq, nw_ne, nw_m1, nw_m2, true_and, and_true]; omega) (fun x k q => by simp (disch := omega) only [up2_ne, up2_eq, nw_ne, nw_m1, nw_m2, true_and, and_true]) aG, iS_cg (fun x k q => by simp (disch := omega) only [up2_ne, up2_eq, nw_ne, nw_m1, nw_m2, true_and, and_true]) aS, iP_cg (by simp (disch := omega) only [up2_ne, up2_eq, nw_ne, nw_m1, nw_m2, true_and, and_true]) (fun x k q => by simp (disch := omega) only [up2_ne, up2_eq, nw_ne, nw_m1, nw_m2, true_and, and_true]) aP, iT_cg (by simp (disch := omega) only [up2_ne, up2_eq, nw_ne, nw_m1, nw_m2, true_and, and_true]) (by omega) (fun x k q => by simp (disch := omega) only [up2_ne, up2_eq, nw_ne, nw_m1, nw_m2, true_and, and_true]) aT⟩
        intro a s a0 a1 s0 s1
        have hb := aB a s a0 a1 s0 s1
        have hz := ho.2.2 s s0 s1
        by_cases e1 : a = y
        · subst e1
          by_cases e2 : s = x
          · subst e2
            rw [if_pos rfl] at hz
            simp (disch := omega) only [up2_ne, up2_eq, nw_ne, nw_m1, nw_m2, true_and, and_true]
            omega
          · rw [if_neg e2] at hz
            simp (disch := omega) only [up2_ne, up2_eq, nw_ne, nw_m1, nw_m2, true_and, and_true]
            omega
        · simp (disch := omega) only [up2_ne, up2_eq, nw_ne, nw_m1, nw_m2, true_and, and_true]
          exact hb
    · refine (bar_f2 (d := 2042) (b := 300) hI Cl_rfl hS q1.1 q1.2 i2 q2).rlt.mono ?_
      rintro r h1 ⟨rfl, rfl⟩ -
      refine ⟨_, rfl, ⟨by decide, by decide⟩, hr.mono ?_⟩
      rintro r h2 (⟨z, rfl, rfl⟩ | ⟨z, rfl, rfl⟩) -
      · exact ⟨rfl, Inv_same hI⟩
      · exact absurd z.2 q2
  · refine (bar_f1 (d := 2042) (b := 300) hI Cl_rfl hS i1 i2 q1).rlt.mono ?_
    rintro r h1 ⟨rfl, rfl⟩ -
    refine ⟨_, rfl, ⟨by decide, by decide⟩, hr.mono ?_⟩
    rintro r h2 (⟨z, rfl, rfl⟩ | ⟨z, rfl, rfl⟩) -
    · exact ⟨rfl, Inv_same hI⟩
    · exact absurd z.1 q1
