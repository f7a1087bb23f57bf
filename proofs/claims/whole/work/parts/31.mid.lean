/-! ===== readers, askings, sheets, the scale: their methods ===== -/
theorem bI_eq {p q : Prop} [Decidable p] [Decidable q] : (bI p = bI q) ↔ (p ↔ q) := by
  unfold bI
  by_cases hp : p <;> by_cases hq : q <;> simp [hp, hq]
theorem s_X6_isAheadOf {u : gT} {h : mH} {d b : Nat} {r o t : Int} (hr : 0 ≤ r) (hrz : h r (-1) = 7) (ho : 0 ≤ o) (hoz : h o (-1) = 7) (h1 : InI (h r 4)) (h2 : InI (h o 4)) : Det (gX (gq u)) MX6_isAheadOf (d + 1) b [(2, r), (2, o), (0, t)] h (0, if (bt (h r 1) t ≠ 0 ↔ bt (h o 1) t ≠ 0) then bI (h r 4 < h o 4) else bI (bt (h r 1) t ≠ 0)) h := by
  intro Q hQ
  show WP (gX (gq u)) MX6_isAheadOf (d + 1) b Q 0 [(2, r), (2, o), (0, t), (9, 0)] [] h
  refine wp_aload_n rfl rfl dX6_isAheadOf_0 ?_
  refine wp_getfield1 (z := 7) (kI := 1) fX6_13 dX6_isAheadOf_1 (by first | omega | (simp (disch := omega) only [up2_ne, up2_eq, hrz, hoz]; first | done | omega)) (by first | assumption | (simp (disch := omega) only [up2_ne, up2_eq, hrz, hoz]; first | done | rfl | omega)) rfl rfl ?_
  try simp (disch := omega) only [up2_ne, up2_eq, hrz, hoz]
  refine wp_iload_n rfl rfl dX6_isAheadOf_4 ?_
  refine wp_cSN2 okX11_hasBit wX6_22 dX6_isAheadOf_5 rfl (Nat.le_of_ble_eq_true rfl) (Nat.le_of_ble_eq_true rfl) (s_X11_hasBit) (Nat.zero_le _) ?_
  try simp (disch := omega) only [up2_ne, up2_eq, hrz, hoz]
  refine wp_istore_n rfl dX6_isAheadOf_8 rfl (Nat.le_of_ble_eq_true rfl) rfl ?_
  try simp only [List.set_cons_zero, List.set_cons_succ]
  refine wp_iload_n rfl rfl dX6_isAheadOf_9 ?_
  refine wp_aload_n rfl rfl dX6_isAheadOf_10 ?_
  refine wp_getfield1 (z := 7) (kI := 1) fX6_13 dX6_isAheadOf_11 (by first | omega | (simp (disch := omega) only [up2_ne, up2_eq, hrz, hoz]; first | done | omega)) (by first | assumption | (simp (disch := omega) only [up2_ne, up2_eq, hrz, hoz]; first | done | rfl | omega)) rfl rfl ?_
  try simp (disch := omega) only [up2_ne, up2_eq, hrz, hoz]
  refine wp_iload_n rfl rfl dX6_isAheadOf_14 ?_
  refine wp_cSN2 okX11_hasBit wX6_22 dX6_isAheadOf_15 rfl (Nat.le_of_ble_eq_true rfl) (Nat.le_of_ble_eq_true rfl) (s_X11_hasBit) (Nat.zero_le _) ?_
  try simp (disch := omega) only [up2_ne, up2_eq, hrz, hoz]
  refine wp_icmp_eq (tgt := 23) (by first | assumption | exact bI_in _ | exact ⟨by omega, by omega⟩ | exact iAnd_in | exact iOr_in | exact iShr_in | exact iShl_in | exact iXor_in | exact hxs _) (by first | assumption | exact bI_in _ | exact ⟨by omega, by omega⟩ | exact iAnd_in | exact iOr_in | exact iShr_in | exact iShl_in | exact iXor_in | exact hxs _) dX6_isAheadOf_18 (by decide) (fun c1 => ?_) (fun c1 => ?_)
  · refine wp_aload_n rfl rfl dX6_isAheadOf_23 ?_
    refine wp_getfield1 (z := 7) (kI := 4) fX6_28 dX6_isAheadOf_24 (by first | omega | (simp (disch := omega) only [up2_ne, up2_eq, hrz, hoz]; first | done | omega)) (by first | assumption | (simp (disch := omega) only [up2_ne, up2_eq, hrz, hoz]; first | done | rfl | omega)) rfl rfl ?_
    try simp (disch := omega) only [up2_ne, up2_eq, hrz, hoz]
    refine wp_aload_n rfl rfl dX6_isAheadOf_27 ?_
    refine wp_getfield1 (z := 7) (kI := 4) fX6_28 dX6_isAheadOf_28 (by first | omega | (simp (disch := omega) only [up2_ne, up2_eq, hrz, hoz]; first | done | omega)) (by first | assumption | (simp (disch := omega) only [up2_ne, up2_eq, hrz, hoz]; first | done | rfl | omega)) rfl rfl ?_
    try simp (disch := omega) only [up2_ne, up2_eq, hrz, hoz]
    refine wp_icmp_ge (tgt := 38) (by first | assumption | exact bI_in _ | exact ⟨by omega, by omega⟩ | exact iAnd_in | exact iOr_in | exact iShr_in | exact iShl_in | exact iXor_in | exact hxs _) (by first | assumption | exact bI_in _ | exact ⟨by omega, by omega⟩ | exact iAnd_in | exact iOr_in | exact iShr_in | exact iShl_in | exact iXor_in | exact hxs _) dX6_isAheadOf_31 (by decide) (fun c2 => ?_) (fun c2 => ?_)
    · refine wp_iconst dX6_isAheadOf_38 ?_
      refine wp_zret (by first | exact Or.inl rfl | exact Or.inr rfl | omega) dX6_isAheadOf_39 rfl ?_
      first | exact QI_f hQ (fun z => c1 (bI_eq.mpr z)) | exact QB_t (QI_t hQ (bI_eq.mp c1)) (by omega) | exact QB_f (QI_t hQ (bI_eq.mp c1)) (by omega)
    · refine wp_iconst dX6_isAheadOf_34 ?_
      refine wp_goto (tgt := 39) dX6_isAheadOf_35 (by decide) ?_
      refine wp_zret (by first | exact Or.inl rfl | exact Or.inr rfl | omega) dX6_isAheadOf_39 rfl ?_
      first | exact QI_f hQ (fun z => c1 (bI_eq.mpr z)) | exact QB_t (QI_t hQ (bI_eq.mp c1)) (by omega) | exact QB_f (QI_t hQ (bI_eq.mp c1)) (by omega)
  · refine wp_iload_n rfl rfl dX6_isAheadOf_21 ?_
    refine wp_zretB dX6_isAheadOf_22 rfl ?_
    first | exact QI_f hQ (fun z => c1 (bI_eq.mpr z)) | exact QB_t (QI_t hQ (bI_eq.mp c1)) (by omega) | exact QB_f (QI_t hQ (bI_eq.mp c1)) (by omega)
def brd (h : mH) (a r : Int) : Prop := bt (h a 10) (h r 0) ≠ 0 ∨ h r 2 = h a 1 ∨ h r 2 = h a 2
theorem s_X0_isBarredTo {u : gT} {h : mH} {d b : Nat} {a r : Int} (ha : 0 ≤ a) (hz : h a (-1) = 1) (hr : 0 ≤ r) (hrz : h r (-1) = 7) (h1 : InI (h a 1)) (h2 : InI (h a 2)) (h3 : InI (h r 2)) : Det (gX (gq u)) MX0_isBarredTo (d + 1) b [(2, a), (2, r)] h (0, bI (bt (h a 10) (h r 0) ≠ 0 ∨ h r 2 = h a 1 ∨ h r 2 = h a 2)) h := by
  intro Q hQ
  show WP (gX (gq u)) MX0_isBarredTo (d + 1) b Q 0 [(2, a), (2, r)] [] h
  refine wp_aload_n rfl rfl dX0_isBarredTo_0 ?_
  refine wp_getfield1 (z := 1) (kI := 10) fX0_37 dX0_isBarredTo_1 (by first | omega | (simp (disch := omega) only [up2_ne, up2_eq, hz, hrz]; first | done | omega)) (by first | assumption | (simp (disch := omega) only [up2_ne, up2_eq, hz, hrz]; first | done | rfl | omega)) rfl rfl ?_
  try simp (disch := omega) only [up2_ne, up2_eq, hz, hrz]
  refine wp_aload_n rfl rfl dX0_isBarredTo_4 ?_
  refine wp_getfield1 (z := 7) (kI := 0) fX0_40 dX0_isBarredTo_5 (by first | omega | (simp (disch := omega) only [up2_ne, up2_eq, hz, hrz]; first | done | omega)) (by first | assumption | (simp (disch := omega) only [up2_ne, up2_eq, hz, hrz]; first | done | rfl | omega)) rfl rfl ?_
  try simp (disch := omega) only [up2_ne, up2_eq, hz, hrz]
  refine wp_cSN2 okX11_hasBit wX0_45 dX0_isBarredTo_8 rfl (Nat.le_of_ble_eq_true rfl) (Nat.le_of_ble_eq_true rfl) (s_X11_hasBit) (Nat.zero_le _) ?_
  try simp (disch := omega) only [up2_ne, up2_eq, hz, hrz]
  refine wp_ifB_ne (tgt := 36) dX0_isBarredTo_11 (by decide) (fun c1 => ?_) (fun c1 => ?_)
  · refine wp_iconst dX0_isBarredTo_36 ?_
    refine wp_goto (tgt := 41) dX0_isBarredTo_37 (by decide) ?_
    refine wp_zret (by first | exact Or.inl rfl | exact Or.inr rfl | omega) dX0_isBarredTo_41 rfl ?_
    first | exact QB_t hQ (by first | exact Or.inl c1 | exact Or.inr (Or.inl c2) | exact Or.inr (Or.inr c3)) | exact QB_f hQ (by rintro (z | z | z) <;> contradiction)
  · refine wp_aload_n rfl rfl dX0_isBarredTo_14 ?_
    refine wp_getfield1 (z := 7) (kI := 2) fX0_49 dX0_isBarredTo_15 (by first | omega | (simp (disch := omega) only [up2_ne, up2_eq, hz, hrz]; first | done | omega)) (by first | assumption | (simp (disch := omega) only [up2_ne, up2_eq, hz, hrz]; first | done | rfl | omega)) rfl rfl ?_
    try simp (disch := omega) only [up2_ne, up2_eq, hz, hrz]
    refine wp_aload_n rfl rfl dX0_isBarredTo_18 ?_
    refine wp_getfield1 (z := 1) (kI := 1) fX0_19 dX0_isBarredTo_19 (by first | omega | (simp (disch := omega) only [up2_ne, up2_eq, hz, hrz]; first | done | omega)) (by first | assumption | (simp (disch := omega) only [up2_ne, up2_eq, hz, hrz]; first | done | rfl | omega)) rfl rfl ?_
    try simp (disch := omega) only [up2_ne, up2_eq, hz, hrz]
    refine wp_icmp_eq (tgt := 36) (by first | assumption | exact bI_in _ | exact ⟨by omega, by omega⟩ | exact iAnd_in | exact iOr_in | exact iShr_in | exact iShl_in | exact iXor_in | exact hxs _) (by first | assumption | exact bI_in _ | exact ⟨by omega, by omega⟩ | exact iAnd_in | exact iOr_in | exact iShr_in | exact iShl_in | exact iXor_in | exact hxs _) dX0_isBarredTo_22 (by decide) (fun c2 => ?_) (fun c2 => ?_)
    · refine wp_iconst dX0_isBarredTo_36 ?_
      refine wp_goto (tgt := 41) dX0_isBarredTo_37 (by decide) ?_
      refine wp_zret (by first | exact Or.inl rfl | exact Or.inr rfl | omega) dX0_isBarredTo_41 rfl ?_
      first | exact QB_t hQ (by first | exact Or.inl c1 | exact Or.inr (Or.inl c2) | exact Or.inr (Or.inr c3)) | exact QB_f hQ (by rintro (z | z | z) <;> contradiction)
    · refine wp_aload_n rfl rfl dX0_isBarredTo_25 ?_
      refine wp_getfield1 (z := 7) (kI := 2) fX0_49 dX0_isBarredTo_26 (by first | omega | (simp (disch := omega) only [up2_ne, up2_eq, hz, hrz]; first | done | omega)) (by first | assumption | (simp (disch := omega) only [up2_ne, up2_eq, hz, hrz]; first | done | rfl | omega)) rfl rfl ?_
      try simp (disch := omega) only [up2_ne, up2_eq, hz, hrz]
      refine wp_aload_n rfl rfl dX0_isBarredTo_29 ?_
      refine wp_getfield1 (z := 1) (kI := 2) fX0_22 dX0_isBarredTo_30 (by first | omega | (simp (disch := omega) only [up2_ne, up2_eq, hz, hrz]; first | done | omega)) (by first | assumption | (simp (disch := omega) only [up2_ne, up2_eq, hz, hrz]; first | done | rfl | omega)) rfl rfl ?_
      try simp (disch := omega) only [up2_ne, up2_eq, hz, hrz]
      refine wp_icmp_ne (tgt := 40) (by first | assumption | exact bI_in _ | exact ⟨by omega, by omega⟩ | exact iAnd_in | exact iOr_in | exact iShr_in | exact iShl_in | exact iXor_in | exact hxs _) (by first | assumption | exact bI_in _ | exact ⟨by omega, by omega⟩ | exact iAnd_in | exact iOr_in | exact iShr_in | exact iShl_in | exact iXor_in | exact hxs _) dX0_isBarredTo_33 (by decide) (fun c3 => ?_) (fun c3 => ?_)
      · refine wp_iconst dX0_isBarredTo_40 ?_
        refine wp_zret (by first | exact Or.inl rfl | exact Or.inr rfl | omega) dX0_isBarredTo_41 rfl ?_
        first | exact QB_t hQ (by first | exact Or.inl c1 | exact Or.inr (Or.inl c2) | exact Or.inr (Or.inr c3)) | exact QB_f hQ (by rintro (z | z | z) <;> contradiction)
      · refine wp_iconst dX0_isBarredTo_36 ?_
        refine wp_goto (tgt := 41) dX0_isBarredTo_37 (by decide) ?_
        refine wp_zret (by first | exact Or.inl rfl | exact Or.inr rfl | omega) dX0_isBarredTo_41 rfl ?_
        first | exact QB_t hQ (by first | exact Or.inl c1 | exact Or.inr (Or.inl c2) | exact Or.inr (Or.inr c3)) | exact QB_f hQ (by rintro (z | z | z) <;> contradiction)
theorem s_X0_hasMarkThatCounts {u : gT} {h : mH} {d b : Nat} {a r : Int} (ha : 0 ≤ a) (hz : h a (-1) = 1) (hr : 0 ≤ r) (hrz : h r (-1) = 7) (h1 : InI (h a 1)) (h2 : InI (h a 2)) (h3 : InI (h r 2)) : Det (gX (gq u)) MX0_hasMarkThatCounts (d + 2) b [(2, a), (2, r)] h (0, bI (bt (h a 8) (h r 0) ≠ 0 ∧ ¬ (bt (h a 10) (h r 0) ≠ 0 ∨ h r 2 = h a 1 ∨ h r 2 = h a 2))) h := by
  intro Q hQ
  show WP (gX (gq u)) MX0_hasMarkThatCounts (d + 2) b Q 0 [(2, a), (2, r)] [] h
  refine wp_aload_n rfl rfl dX0_hasMarkThatCounts_0 ?_
  refine wp_getfield1 (z := 1) (kI := 8) fX0_50 dX0_hasMarkThatCounts_1 (by first | omega | (simp (disch := omega) only [up2_ne, up2_eq, hz, hrz]; first | done | omega)) (by first | assumption | (simp (disch := omega) only [up2_ne, up2_eq, hz, hrz]; first | done | rfl | omega)) rfl rfl ?_
  try simp (disch := omega) only [up2_ne, up2_eq, hz, hrz]
  refine wp_aload_n rfl rfl dX0_hasMarkThatCounts_4 ?_
  refine wp_getfield1 (z := 7) (kI := 0) fX0_40 dX0_hasMarkThatCounts_5 (by first | omega | (simp (disch := omega) only [up2_ne, up2_eq, hz, hrz]; first | done | omega)) (by first | assumption | (simp (disch := omega) only [up2_ne, up2_eq, hz, hrz]; first | done | rfl | omega)) rfl rfl ?_
  try simp (disch := omega) only [up2_ne, up2_eq, hz, hrz]
  refine wp_cSN2 okX11_hasBit wX0_45 dX0_hasMarkThatCounts_8 rfl (Nat.le_of_ble_eq_true rfl) (Nat.le_of_ble_eq_true rfl) (s_X11_hasBit) (Nat.zero_le _) ?_
  try simp (disch := omega) only [up2_ne, up2_eq, hz, hrz]
  refine wp_ifB_eq (tgt := 26) dX0_hasMarkThatCounts_11 (by decide) (fun c1 => ?_) (fun c1 => ?_)
  · refine wp_iconst dX0_hasMarkThatCounts_26 ?_
    refine wp_zret (by first | exact Or.inl rfl | exact Or.inr rfl | omega) dX0_hasMarkThatCounts_27 rfl ?_
    first | exact QB_t hQ ⟨by assumption, by assumption⟩ | exact QB_f hQ (fun z => c1 z.1) | exact QB_f hQ (fun z => z.2 c2) | exact QB_f hQ (fun z => c1 z.1)
  · refine wp_aload_n rfl rfl dX0_hasMarkThatCounts_14 ?_
    refine wp_aload_n rfl rfl dX0_hasMarkThatCounts_15 ?_
    refine wp_cV1 (ci := 0) okX0_isBarredTo rfl rfl wX0_53 dX0_hasMarkThatCounts_16 rfl (Nat.le_of_ble_eq_true rfl) (Nat.le_of_ble_eq_true rfl) (by first | omega | (simp (disch := omega) only [up2_ne, up2_eq, hz, hrz]; first | done | omega)) (by first | assumption | (simp (disch := omega) only [up2_ne, up2_eq, hz, hrz]; first | done | rfl | omega)) (s_X0_isBarredTo ha hz hr hrz h1 h2 h3) (Nat.zero_le _) ?_
    try simp (disch := omega) only [up2_ne, up2_eq, hz, hrz]
    refine wp_ifB_ne (tgt := 26) dX0_hasMarkThatCounts_19 (by decide) (fun c2 => ?_) (fun c2 => ?_)
    · refine wp_iconst dX0_hasMarkThatCounts_26 ?_
      refine wp_zret (by first | exact Or.inl rfl | exact Or.inr rfl | omega) dX0_hasMarkThatCounts_27 rfl ?_
      first | exact QB_t hQ ⟨by assumption, by assumption⟩ | exact QB_f hQ (fun z => c1 z.1) | exact QB_f hQ (fun z => z.2 c2) | exact QB_f hQ (fun z => c1 z.1)
    · refine wp_iconst dX0_hasMarkThatCounts_22 ?_
      refine wp_goto (tgt := 27) dX0_hasMarkThatCounts_23 (by decide) ?_
      refine wp_zret (by first | exact Or.inl rfl | exact Or.inr rfl | omega) dX0_hasMarkThatCounts_27 rfl ?_
      first | exact QB_t hQ ⟨by assumption, by assumption⟩ | exact QB_f hQ (fun z => c1 z.1) | exact QB_f hQ (fun z => z.2 c2) | exact QB_f hQ (fun z => c1 z.1)
theorem s_X0_setMark {u : gT} {h : mH} {d b : Nat} {a r m : Int} (ha : 0 ≤ a) (hz : h a (-1) = 1) (hr : 0 ≤ r) (hrz : h r (-1) = 7) {mk : Int} (hm : h a 7 = mk) (hm0 : 0 ≤ mk) (hmz : h mk (-1) = 20) (hml : h mk (-2) = 8) (hn0 : 0 ≤ h r 0) (hn1 : h r 0 ≤ 7) (hma : mk ≠ a) (hmr : mk ≠ r) : Det (gX (gq u)) MX0_setMark (d + 1) b [(2, a), (2, r), (0, m)] h (9, 0) (up2 (up2 h mk (h r 0) m) a 8 (iOr (h a 8) (iShl 1 (h r 0)))) := by
  intro Q hQ
  show WP (gX (gq u)) MX0_setMark (d + 1) b Q 0 [(2, a), (2, r), (0, m)] [] h
  refine wp_aload_n rfl rfl dX0_setMark_0 ?_
  refine wp_getfield1 (z := 7) (kI := 0) fX0_40 dX0_setMark_1 (by first | omega | (simp (disch := omega) only [up2_ne, up2_eq, hz, hrz, hm, hmz, hml]; first | done | omega)) (by first | assumption | (simp (disch := omega) only [up2_ne, up2_eq, hz, hrz, hm, hmz, hml]; first | done | rfl | omega)) rfl rfl ?_
  try simp (disch := omega) only [up2_ne, up2_eq, hz, hrz, hm, hmz, hml]
  refine wp_iconst dX0_setMark_4 ?_
  refine wp_aload_n rfl rfl dX0_setMark_5 ?_
  refine wp_getfield1 (z := 1) (kI := 7) fX0_9 dX0_setMark_6 (by first | omega | (simp (disch := omega) only [up2_ne, up2_eq, hz, hrz, hm, hmz, hml]; first | done | omega)) (by first | assumption | (simp (disch := omega) only [up2_ne, up2_eq, hz, hrz, hm, hmz, hml]; first | done | rfl | omega)) rfl rfl ?_
  try simp (disch := omega) only [up2_ne, up2_eq, hz, hrz, hm, hmz, hml]
  refine wp_alen1 dX0_setMark_9 (by first | omega | (simp (disch := omega) only [up2_ne, up2_eq, hz, hrz, hm, hmz, hml]; first | done | omega)) (by first | omega | (simp (disch := omega) only [up2_ne, up2_eq, hz, hrz, hm, hmz, hml]; first | done | omega)) ?_
  try simp (disch := omega) only [up2_ne, up2_eq, hz, hrz, hm, hmz, hml]
  refine wp_iconst dX0_setMark_10 ?_
  refine wp_isub dX0_setMark_11 ?_
  refine wp_cSN3 okX11_isWithin wX0_57 dX0_setMark_12 rfl (Nat.le_of_ble_eq_true rfl) (Nat.le_of_ble_eq_true rfl) (s_X11_isWithin ⟨by omega, by omega⟩ In0 ⟨by omega, by omega⟩) (Nat.zero_le _) ?_
  try simp (disch := omega) only [up2_ne, up2_eq, hz, hrz, hm, hmz, hml]
  refine wp_ifB_eq (tgt := 43) dX0_setMark_15 (by decide) (fun c1 => ?_) (fun c1 => ?_)
  · refine wp_vret dX0_setMark_43 rfl ?_
    first | exact hQ | (exfalso; omega)
  · refine wp_aload_n rfl rfl dX0_setMark_18 ?_
    refine wp_getfield1 (z := 1) (kI := 7) fX0_9 dX0_setMark_19 (by first | omega | (simp (disch := omega) only [up2_ne, up2_eq, hz, hrz, hm, hmz, hml]; first | done | omega)) (by first | assumption | (simp (disch := omega) only [up2_ne, up2_eq, hz, hrz, hm, hmz, hml]; first | done | rfl | omega)) rfl rfl ?_
    try simp (disch := omega) only [up2_ne, up2_eq, hz, hrz, hm, hmz, hml]
    refine wp_aload_n rfl rfl dX0_setMark_22 ?_
    refine wp_getfield1 (z := 7) (kI := 0) fX0_40 dX0_setMark_23 (by first | omega | (simp (disch := omega) only [up2_ne, up2_eq, hz, hrz, hm, hmz, hml]; first | done | omega)) (by first | assumption | (simp (disch := omega) only [up2_ne, up2_eq, hz, hrz, hm, hmz, hml]; first | done | rfl | omega)) rfl rfl ?_
    try simp (disch := omega) only [up2_ne, up2_eq, hz, hrz, hm, hmz, hml]
    refine wp_iload_n rfl rfl dX0_setMark_26 ?_
    refine wp_iastore1 dX0_setMark_27 (by first | omega | (simp (disch := omega) only [up2_ne, up2_eq, hz, hrz, hm, hmz, hml]; first | done | omega)) (by first | assumption | (simp (disch := omega) only [up2_ne, up2_eq, hz, hrz, hm, hmz, hml]; first | done | rfl | omega)) (by first | omega | (simp (disch := omega) only [up2_ne, up2_eq, hz, hrz, hm, hmz, hml]; first | done | omega)) (by first | omega | (simp (disch := omega) only [up2_ne, up2_eq, hz, hrz, hm, hmz, hml]; first | done | omega)) ?_
    refine wp_aload_n rfl rfl dX0_setMark_28 ?_
    refine wp_dup (by decide) dX0_setMark_29 ?_
    refine wp_getfield1 (z := 1) (kI := 8) fX0_50 dX0_setMark_30 (by first | omega | (simp (disch := omega) only [up2_ne, up2_eq, hz, hrz, hm, hmz, hml]; first | done | omega)) (by first | assumption | (simp (disch := omega) only [up2_ne, up2_eq, hz, hrz, hm, hmz, hml]; first | done | rfl | omega)) rfl rfl ?_
    try simp (disch := omega) only [up2_ne, up2_eq, hz, hrz, hm, hmz, hml]
    refine wp_iconst dX0_setMark_33 ?_
    refine wp_aload_n rfl rfl dX0_setMark_34 ?_
    refine wp_getfield1 (z := 7) (kI := 0) fX0_40 dX0_setMark_35 (by first | omega | (simp (disch := omega) only [up2_ne, up2_eq, hz, hrz, hm, hmz, hml]; first | done | omega)) (by first | assumption | (simp (disch := omega) only [up2_ne, up2_eq, hz, hrz, hm, hmz, hml]; first | done | rfl | omega)) rfl rfl ?_
    try simp (disch := omega) only [up2_ne, up2_eq, hz, hrz, hm, hmz, hml]
    refine wp_ishl dX0_setMark_38 ?_
    refine wp_ior dX0_setMark_39 ?_
    refine wp_putfield1 (z := 1) (kI := 8) fX0_50 dX0_setMark_40 (by first | omega | (simp (disch := omega) only [up2_ne, up2_eq, hz, hrz, hm, hmz, hml]; first | done | omega)) (by first | assumption | (simp (disch := omega) only [up2_ne, up2_eq, hz, hrz, hm, hmz, hml]; first | done | rfl | omega)) rfl rfl ?_
    refine wp_vret dX0_setMark_43 rfl ?_
    first | exact hQ | (exfalso; omega)
theorem s_X0_markOf {u : gT} {h : mH} {d b : Nat} {a r : Int} (ha : 0 ≤ a) (hz : h a (-1) = 1) (hr : 0 ≤ r) (hrz : h r (-1) = 7) {mk : Int} (hm : h a 7 = mk) (hm0 : 0 ≤ mk) (hmz : h mk (-1) = 20) (hml : h mk (-2) = 8) (hn0 : 0 ≤ h r 0) (hn1 : h r 0 ≤ 7) (hma : mk ≠ a) (hmr : mk ≠ r) : Det (gX (gq u)) MX0_markOf (d + 1) b [(2, a), (2, r)] h (0, h mk (h r 0)) h := by
  intro Q hQ
  show WP (gX (gq u)) MX0_markOf (d + 1) b Q 0 [(2, a), (2, r)] [] h
  refine wp_aload_n rfl rfl dX0_markOf_0 ?_
  refine wp_getfield1 (z := 7) (kI := 0) fX0_40 dX0_markOf_1 (by first | omega | (simp (disch := omega) only [up2_ne, up2_eq, hz, hrz, hm, hmz, hml]; first | done | omega)) (by first | assumption | (simp (disch := omega) only [up2_ne, up2_eq, hz, hrz, hm, hmz, hml]; first | done | rfl | omega)) rfl rfl ?_
  try simp (disch := omega) only [up2_ne, up2_eq, hz, hrz, hm, hmz, hml]
  refine wp_iconst dX0_markOf_4 ?_
  refine wp_aload_n rfl rfl dX0_markOf_5 ?_
  refine wp_getfield1 (z := 1) (kI := 7) fX0_9 dX0_markOf_6 (by first | omega | (simp (disch := omega) only [up2_ne, up2_eq, hz, hrz, hm, hmz, hml]; first | done | omega)) (by first | assumption | (simp (disch := omega) only [up2_ne, up2_eq, hz, hrz, hm, hmz, hml]; first | done | rfl | omega)) rfl rfl ?_
  try simp (disch := omega) only [up2_ne, up2_eq, hz, hrz, hm, hmz, hml]
  refine wp_alen1 dX0_markOf_9 (by first | omega | (simp (disch := omega) only [up2_ne, up2_eq, hz, hrz, hm, hmz, hml]; first | done | omega)) (by first | omega | (simp (disch := omega) only [up2_ne, up2_eq, hz, hrz, hm, hmz, hml]; first | done | omega)) ?_
  try simp (disch := omega) only [up2_ne, up2_eq, hz, hrz, hm, hmz, hml]
  refine wp_iconst dX0_markOf_10 ?_
  refine wp_isub dX0_markOf_11 ?_
  refine wp_cSN3 okX11_isWithin wX0_57 dX0_markOf_12 rfl (Nat.le_of_ble_eq_true rfl) (Nat.le_of_ble_eq_true rfl) (s_X11_isWithin ⟨by omega, by omega⟩ In0 ⟨by omega, by omega⟩) (Nat.zero_le _) ?_
  try simp (disch := omega) only [up2_ne, up2_eq, hz, hrz, hm, hmz, hml]
  refine wp_ifB_eq (tgt := 30) dX0_markOf_15 (by decide) (fun c1 => ?_) (fun c1 => ?_)
  · refine wp_iconst dX0_markOf_30 ?_
    refine wp_iret dX0_markOf_31 rfl ?_
    first | exact hQ | (exfalso; omega)
  · refine wp_aload_n rfl rfl dX0_markOf_18 ?_
    refine wp_getfield1 (z := 1) (kI := 7) fX0_9 dX0_markOf_19 (by first | omega | (simp (disch := omega) only [up2_ne, up2_eq, hz, hrz, hm, hmz, hml]; first | done | omega)) (by first | assumption | (simp (disch := omega) only [up2_ne, up2_eq, hz, hrz, hm, hmz, hml]; first | done | rfl | omega)) rfl rfl ?_
    try simp (disch := omega) only [up2_ne, up2_eq, hz, hrz, hm, hmz, hml]
    refine wp_aload_n rfl rfl dX0_markOf_22 ?_
    refine wp_getfield1 (z := 7) (kI := 0) fX0_40 dX0_markOf_23 (by first | omega | (simp (disch := omega) only [up2_ne, up2_eq, hz, hrz, hm, hmz, hml]; first | done | omega)) (by first | assumption | (simp (disch := omega) only [up2_ne, up2_eq, hz, hrz, hm, hmz, hml]; first | done | rfl | omega)) rfl rfl ?_
    try simp (disch := omega) only [up2_ne, up2_eq, hz, hrz, hm, hmz, hml]
    refine wp_iaload1 dX0_markOf_26 (by first | omega | (simp (disch := omega) only [up2_ne, up2_eq, hz, hrz, hm, hmz, hml]; first | done | omega)) (by first | assumption | (simp (disch := omega) only [up2_ne, up2_eq, hz, hrz, hm, hmz, hml]; first | done | rfl | omega)) (by first | omega | (simp (disch := omega) only [up2_ne, up2_eq, hz, hrz, hm, hmz, hml]; first | done | omega)) (by first | omega | (simp (disch := omega) only [up2_ne, up2_eq, hz, hrz, hm, hmz, hml]; first | done | omega)) ?_
    try simp (disch := omega) only [up2_ne, up2_eq, hz, hrz, hm, hmz, hml]
    refine wp_goto (tgt := 31) dX0_markOf_27 (by decide) ?_
    refine wp_iret dX0_markOf_31 rfl ?_
    first | exact hQ | (exfalso; omega)
theorem s_X8_isSort {u : gT} {h : mH} {d b : Nat} {n : Int} (h1 : InI n) : Det (gX (gq u)) MX8_isSort (d + 1) b [(0, n)] h (0, bI (0 ≤ n ∧ n ≤ 2)) h := by
  intro Q hQ
  show WP (gX (gq u)) MX8_isSort (d + 1) b Q 0 [(0, n)] [] h
  refine wp_iload_n rfl rfl dX8_isSort_0 ?_
  refine wp_iconst dX8_isSort_1 ?_
  refine wp_iconst dX8_isSort_2 ?_
  refine wp_cSN3 okX11_isWithin wX8_19 dX8_isSort_3 rfl (Nat.le_of_ble_eq_true rfl) (Nat.le_of_ble_eq_true rfl) (s_X11_isWithin h1 In0 ⟨by decide, by decide⟩) (Nat.zero_le _) ?_
  try simp (disch := omega) only [up2_ne, up2_eq]
  refine wp_zretB dX8_isSort_6 rfl ?_
  exact hQ
theorem s_X8_isMissing {u : gT} {h : mH} {d b : Nat} {s : Int} (hs : 0 ≤ s) (hz : h s (-1) = 9) (h1 : InI (h s 2)) : Det (gX (gq u)) MX8_isMissing d b [(2, s)] h (0, bI (h s 2 = -1)) h := by
  intro Q hQ
  show WP (gX (gq u)) MX8_isMissing d b Q 0 [(2, s)] [] h
  refine wp_aload_n rfl rfl dX8_isMissing_0 ?_
  refine wp_getfield1 (z := 9) (kI := 2) fX8_15 dX8_isMissing_1 (by first | omega | (simp (disch := omega) only [up2_ne, up2_eq, hz]; first | done | omega)) (by first | assumption | (simp (disch := omega) only [up2_ne, up2_eq, hz]; first | done | rfl | omega)) rfl rfl ?_
  try simp (disch := omega) only [up2_ne, up2_eq, hz]
  refine wp_iconst dX8_isMissing_4 ?_
  refine wp_icmp_ne (tgt := 12) (by first | assumption | exact bI_in _ | exact ⟨by omega, by omega⟩ | exact iAnd_in | exact iOr_in | exact iShr_in | exact iShl_in | exact iXor_in | exact hxs _) (by first | assumption | exact bI_in _ | exact ⟨by omega, by omega⟩ | exact iAnd_in | exact iOr_in | exact iShr_in | exact iShl_in | exact iXor_in | exact hxs _) dX8_isMissing_5 (by decide) (fun c1 => ?_) (fun c1 => ?_)
  · refine wp_iconst dX8_isMissing_12 ?_
    refine wp_zret (by first | exact Or.inl rfl | exact Or.inr rfl | omega) dX8_isMissing_13 rfl ?_
    first | exact QB_t hQ (by omega) | exact QB_f hQ (by omega)
  · refine wp_iconst dX8_isMissing_8 ?_
    refine wp_goto (tgt := 13) dX8_isMissing_9 (by decide) ?_
    refine wp_zret (by first | exact Or.inl rfl | exact Or.inr rfl | omega) dX8_isMissing_13 rfl ?_
    first | exact QB_t hQ (by omega) | exact QB_f hQ (by omega)
theorem s_X8_vanish {u : gT} {h : mH} {d b : Nat} {s : Int} (hs : 0 ≤ s) (hz : h s (-1) = 9) : Det (gX (gq u)) MX8_vanish d b [(2, s)] h (9, 0) (up2 (up2 h s 2 (-1)) s 1 0) := by
  intro Q hQ
  show WP (gX (gq u)) MX8_vanish d b Q 0 [(2, s)] [] h
  refine wp_aload_n rfl rfl dX8_vanish_0 ?_
  refine wp_iconst dX8_vanish_1 ?_
  refine wp_putfield1 (z := 9) (kI := 2) fX8_15 dX8_vanish_2 (by first | omega | (simp (disch := omega) only [up2_ne, up2_eq, hz]; first | done | omega)) (by first | assumption | (simp (disch := omega) only [up2_ne, up2_eq, hz]; first | done | rfl | omega)) rfl rfl ?_
  refine wp_aload_n rfl rfl dX8_vanish_5 ?_
  refine wp_iconst dX8_vanish_6 ?_
  refine wp_putfield1 (z := 9) (kI := 1) fX8_23 dX8_vanish_7 (by first | omega | (simp (disch := omega) only [up2_ne, up2_eq, hz]; first | done | omega)) (by first | assumption | (simp (disch := omega) only [up2_ne, up2_eq, hz]; first | done | rfl | omega)) rfl rfl ?_
  refine wp_vret dX8_vanish_10 rfl ?_
  exact hQ
theorem s_X8_holds {u : gT} {h : mH} {d b : Nat} {s it : Int} (hs : 0 ≤ s) (hz : h s (-1) = 9) (hi : h s 0 = it) (hi0 : 0 ≤ it) (hiz : h it (-1) = 20) (hil : h it (-2) = 40) (hn0 : 0 ≤ h s 1) (hn1 : h s 1 ≤ 40) {n : Int} (h1 : InI n) : Det (gX (gq u)) MX8_holds (d + 1) b [(2, s), (0, n)] h (0, bI (0 ≤ n ∧ n < h s 1)) h := by
  intro Q hQ
  show WP (gX (gq u)) MX8_holds (d + 1) b Q 0 [(2, s), (0, n)] [] h
  refine wp_iload_n rfl rfl dX8_holds_0 ?_
  refine wp_iconst dX8_holds_1 ?_
  refine wp_aload_n rfl rfl dX8_holds_2 ?_
  refine wp_getfield1 (z := 9) (kI := 1) fX8_23 dX8_holds_3 (by first | omega | (simp (disch := omega) only [up2_ne, up2_eq, hz, hi, hiz, hil]; first | done | omega)) (by first | assumption | (simp (disch := omega) only [up2_ne, up2_eq, hz, hi, hiz, hil]; first | done | rfl | omega)) rfl rfl ?_
  try simp (disch := omega) only [up2_ne, up2_eq, hz, hi, hiz, hil]
  refine wp_iconst dX8_holds_6 ?_
  refine wp_isub dX8_holds_7 ?_
  refine wp_cSN3 okX11_isWithin wX8_19 dX8_holds_8 rfl (Nat.le_of_ble_eq_true rfl) (Nat.le_of_ble_eq_true rfl) (s_X11_isWithin h1 In0 ⟨by omega, by omega⟩) (Nat.zero_le _) ?_
  try simp (disch := omega) only [up2_ne, up2_eq, hz, hi, hiz, hil]
  refine wp_ifB_eq (tgt := 27) dX8_holds_11 (by decide) (fun c1 => ?_) (fun c1 => ?_)
  · refine wp_iconst dX8_holds_27 ?_
    refine wp_zret (by first | exact Or.inl rfl | exact Or.inr rfl | omega) dX8_holds_28 rfl ?_
    first | exact QB_t hQ (by omega) | exact QB_f hQ (by omega)
  · refine wp_iload_n rfl rfl dX8_holds_14 ?_
    refine wp_aload_n rfl rfl dX8_holds_15 ?_
    refine wp_getfield1 (z := 9) (kI := 0) fX8_9 dX8_holds_16 (by first | omega | (simp (disch := omega) only [up2_ne, up2_eq, hz, hi, hiz, hil]; first | done | omega)) (by first | assumption | (simp (disch := omega) only [up2_ne, up2_eq, hz, hi, hiz, hil]; first | done | rfl | omega)) rfl rfl ?_
    try simp (disch := omega) only [up2_ne, up2_eq, hz, hi, hiz, hil]
    refine wp_alen1 dX8_holds_19 (by first | omega | (simp (disch := omega) only [up2_ne, up2_eq, hz, hi, hiz, hil]; first | done | omega)) (by first | omega | (simp (disch := omega) only [up2_ne, up2_eq, hz, hi, hiz, hil]; first | done | omega)) ?_
    try simp (disch := omega) only [up2_ne, up2_eq, hz, hi, hiz, hil]
    refine wp_icmp_ge (tgt := 27) (by first | assumption | exact bI_in _ | exact ⟨by omega, by omega⟩ | exact iAnd_in | exact iOr_in | exact iShr_in | exact iShl_in | exact iXor_in | exact hxs _) (by first | assumption | exact bI_in _ | exact ⟨by omega, by omega⟩ | exact iAnd_in | exact iOr_in | exact iShr_in | exact iShl_in | exact iXor_in | exact hxs _) dX8_holds_20 (by decide) (fun c2 => ?_) (fun c2 => ?_)
    · refine wp_iconst dX8_holds_27 ?_
      refine wp_zret (by first | exact Or.inl rfl | exact Or.inr rfl | omega) dX8_holds_28 rfl ?_
      first | exact QB_t hQ (by omega) | exact QB_f hQ (by omega)
    · refine wp_iconst dX8_holds_23 ?_
      refine wp_goto (tgt := 28) dX8_holds_24 (by decide) ?_
      refine wp_zret (by first | exact Or.inl rfl | exact Or.inr rfl | omega) dX8_holds_28 rfl ?_
      first | exact QB_t hQ (by omega) | exact QB_f hQ (by omega)
theorem s_X8_item {u : gT} {h : mH} {d b : Nat} {s it : Int} (hs : 0 ≤ s) (hz : h s (-1) = 9) (hi : h s 0 = it) (hi0 : 0 ≤ it) (hiz : h it (-1) = 20) (hil : h it (-2) = 40) (hn0 : 0 ≤ h s 1) (hn1 : h s 1 ≤ 40) {n : Int} (h1 : InI n) : Det (gX (gq u)) MX8_item (d + 2) b [(2, s), (0, n)] h (0, if 0 ≤ n ∧ n < h s 1 then h it n else 0) h := by
  intro Q hQ
  show WP (gX (gq u)) MX8_item (d + 2) b Q 0 [(2, s), (0, n)] [] h
  refine wp_aload_n rfl rfl dX8_item_0 ?_
  refine wp_iload_n rfl rfl dX8_item_1 ?_
  refine wp_cV1 (ci := 8) okX8_holds rfl rfl wX8_26 dX8_item_2 rfl (Nat.le_of_ble_eq_true rfl) (Nat.le_of_ble_eq_true rfl) (by first | omega | (simp (disch := omega) only [up2_ne, up2_eq, hz, hi, hiz, hil]; first | done | omega)) (by first | assumption | (simp (disch := omega) only [up2_ne, up2_eq, hz, hi, hiz, hil]; first | done | rfl | omega)) (s_X8_holds hs hz hi hi0 hiz hil hn0 hn1 h1) (Nat.zero_le _) ?_
  try simp (disch := omega) only [up2_ne, up2_eq, hz, hi, hiz, hil]
  refine wp_ifB_eq (tgt := 17) dX8_item_5 (by decide) (fun c1 => ?_) (fun c1 => ?_)
  · refine wp_iconst dX8_item_17 ?_
    refine wp_iret dX8_item_18 rfl ?_
    first | exact QI_t hQ (by first | assumption | omega) | exact QI_f hQ (by first | assumption | omega)
  · refine wp_aload_n rfl rfl dX8_item_8 ?_
    refine wp_getfield1 (z := 9) (kI := 0) fX8_9 dX8_item_9 (by first | omega | (simp (disch := omega) only [up2_ne, up2_eq, hz, hi, hiz, hil]; first | done | omega)) (by first | assumption | (simp (disch := omega) only [up2_ne, up2_eq, hz, hi, hiz, hil]; first | done | rfl | omega)) rfl rfl ?_
    try simp (disch := omega) only [up2_ne, up2_eq, hz, hi, hiz, hil]
    refine wp_iload_n rfl rfl dX8_item_12 ?_
    refine wp_iaload1 dX8_item_13 (by first | omega | (simp (disch := omega) only [up2_ne, up2_eq, hz, hi, hiz, hil]; first | done | omega)) (by first | assumption | (simp (disch := omega) only [up2_ne, up2_eq, hz, hi, hiz, hil]; first | done | rfl | omega)) (by first | omega | (simp (disch := omega) only [up2_ne, up2_eq, hz, hi, hiz, hil]; first | done | omega)) (by first | omega | (simp (disch := omega) only [up2_ne, up2_eq, hz, hi, hiz, hil]; first | done | omega)) ?_
    try simp (disch := omega) only [up2_ne, up2_eq, hz, hi, hiz, hil]
    refine wp_goto (tgt := 18) dX8_item_14 (by decide) ?_
    refine wp_iret dX8_item_18 rfl ?_
    first | exact QI_t hQ (by first | assumption | omega) | exact QI_f hQ (by first | assumption | omega)
def scut (z v : Int) : Int := if z = 0 then v.bmod 256 else if z = 1 then v.bmod 65536 else v
theorem s_X8_cut {u : gT} {h : mH} {d b : Nat} {s v : Int} (hs : 0 ≤ s) (hz : h s (-1) = 9) (h1 : InI (h s 2)) : Det (gX (gq u)) MX8_cut d b [(2, s), (0, v)] h (0, scut (h s 2) v) h := by
  intro Q hQ
  unfold scut at hQ
  show WP (gX (gq u)) MX8_cut d b Q 0 [(2, s), (0, v)] [] h
  refine wp_aload_n rfl rfl dX8_cut_0 ?_
  refine wp_getfield1 (z := 9) (kI := 2) fX8_15 dX8_cut_1 (by first | omega | (simp (disch := omega) only [up2_ne, up2_eq, hz]; first | done | omega)) (by first | assumption | (simp (disch := omega) only [up2_ne, up2_eq, hz]; first | done | rfl | omega)) rfl rfl ?_
  try simp (disch := omega) only [up2_ne, up2_eq, hz]
  by_cases c1 : h s 2 = 0
  · refine wp_lookup (off := 28) (tgt := 32) (by first | assumption | exact bI_in _ | exact ⟨by omega, by omega⟩ | exact iAnd_in | exact iOr_in | exact iShr_in | exact iShl_in | exact iXor_in | exact hxs _) dX8_cut_4 rfl (by rw [c1]; rfl) (by decide) ?_
    refine wp_iload_n rfl rfl dX8_cut_32 ?_
    refine wp_i2b dX8_cut_33 ?_
    refine wp_iret dX8_cut_34 rfl ?_
    first | (rw [if_pos c1] at hQ; exact hQ) | (rw [if_neg c1, if_pos c2] at hQ; exact hQ) | (rw [if_neg c1, if_neg c2] at hQ; exact hQ)
  · skip
    by_cases c2 : h s 2 = 1
    · refine wp_lookup (off := 31) (tgt := 35) (by first | assumption | exact bI_in _ | exact ⟨by omega, by omega⟩ | exact iAnd_in | exact iOr_in | exact iShr_in | exact iShl_in | exact iXor_in | exact hxs _) dX8_cut_4 rfl (by rw [c2]; rfl) (by decide) ?_
      refine wp_iload_n rfl rfl dX8_cut_35 ?_
      refine wp_i2s dX8_cut_36 ?_
      refine wp_iret dX8_cut_37 rfl ?_
      first | (rw [if_pos c1] at hQ; exact hQ) | (rw [if_neg c1, if_pos c2] at hQ; exact hQ) | (rw [if_neg c1, if_neg c2] at hQ; exact hQ)
    · skip
      refine wp_lookup (off := 34) (tgt := 38) (by first | assumption | exact bI_in _ | exact ⟨by omega, by omega⟩ | exact iAnd_in | exact iOr_in | exact iShr_in | exact iShl_in | exact iXor_in | exact hxs _) dX8_cut_4 rfl (by simp [Op.lookupswitch.offset, Ne.symm c1, Ne.symm c2]) (by decide) ?_
      refine wp_iload_n rfl rfl dX8_cut_38 ?_
      refine wp_iret dX8_cut_39 rfl ?_
      first | (rw [if_pos c1] at hQ; exact hQ) | (rw [if_neg c1, if_pos c2] at hQ; exact hQ) | (rw [if_neg c1, if_neg c2] at hQ; exact hQ)
theorem s_X8_put {u : gT} {h : mH} {d b : Nat} {s it : Int} (hs : 0 ≤ s) (hz : h s (-1) = 9) (hi : h s 0 = it) (hi0 : 0 ≤ it) (hiz : h it (-1) = 20) (hil : h it (-2) = 40) (hn0 : 0 ≤ h s 1) (hn1 : h s 1 ≤ 40) {n v : Int} (h1 : InI n) (h2 : InI (h s 2)) (hne : it ≠ s) : Det (gX (gq u)) MX8_put (d + 2) b [(2, s), (0, n), (0, v)] h (9, 0) (if 0 ≤ n ∧ n < h s 1 then up2 h it n (scut (h s 2) v) else h) := by
  intro Q hQ
  show WP (gX (gq u)) MX8_put (d + 2) b Q 0 [(2, s), (0, n), (0, v)] [] h
  refine wp_aload_n rfl rfl dX8_put_0 ?_
  refine wp_iload_n rfl rfl dX8_put_1 ?_
  refine wp_cV1 (ci := 8) okX8_holds rfl rfl wX8_26 dX8_put_2 rfl (Nat.le_of_ble_eq_true rfl) (Nat.le_of_ble_eq_true rfl) (by first | omega | (simp (disch := omega) only [up2_ne, up2_eq, hz, hi, hiz, hil]; first | done | omega)) (by first | assumption | (simp (disch := omega) only [up2_ne, up2_eq, hz, hi, hiz, hil]; first | done | rfl | omega)) (s_X8_holds hs hz hi hi0 hiz hil hn0 hn1 h1) (Nat.zero_le _) ?_
  try simp (disch := omega) only [up2_ne, up2_eq, hz, hi, hiz, hil]
  refine wp_ifB_eq (tgt := 19) dX8_put_5 (by decide) (fun c1 => ?_) (fun c1 => ?_)
  · refine wp_vret dX8_put_19 rfl ?_
    first | (rw [if_pos c1] at hQ; exact hQ) | (rw [if_neg c1] at hQ; exact hQ)
  · refine wp_aload_n rfl rfl dX8_put_8 ?_
    refine wp_getfield1 (z := 9) (kI := 0) fX8_9 dX8_put_9 (by first | omega | (simp (disch := omega) only [up2_ne, up2_eq, hz, hi, hiz, hil]; first | done | omega)) (by first | assumption | (simp (disch := omega) only [up2_ne, up2_eq, hz, hi, hiz, hil]; first | done | rfl | omega)) rfl rfl ?_
    try simp (disch := omega) only [up2_ne, up2_eq, hz, hi, hiz, hil]
    refine wp_iload_n rfl rfl dX8_put_12 ?_
    refine wp_aload_n rfl rfl dX8_put_13 ?_
    refine wp_iload_n rfl rfl dX8_put_14 ?_
    refine wp_cV1 (ci := 8) okX8_cut rfl rfl wX8_30 dX8_put_15 rfl (Nat.le_of_ble_eq_true rfl) (Nat.le_of_ble_eq_true rfl) (by first | omega | (simp (disch := omega) only [up2_ne, up2_eq, hz, hi, hiz, hil]; first | done | omega)) (by first | assumption | (simp (disch := omega) only [up2_ne, up2_eq, hz, hi, hiz, hil]; first | done | rfl | omega)) (s_X8_cut hs hz h2) (Nat.zero_le _) ?_
    try simp (disch := omega) only [up2_ne, up2_eq, hz, hi, hiz, hil]
    refine wp_iastore1 dX8_put_18 (by first | omega | (simp (disch := omega) only [up2_ne, up2_eq, hz, hi, hiz, hil]; first | done | omega)) (by first | assumption | (simp (disch := omega) only [up2_ne, up2_eq, hz, hi, hiz, hil]; first | done | rfl | omega)) (by first | omega | (simp (disch := omega) only [up2_ne, up2_eq, hz, hi, hiz, hil]; first | done | omega)) (by first | omega | (simp (disch := omega) only [up2_ne, up2_eq, hz, hi, hiz, hil]; first | done | omega)) ?_
    refine wp_vret dX8_put_19 rfl ?_
    first | (rw [if_pos c1] at hQ; exact hQ) | (rw [if_neg c1] at hQ; exact hQ)
def hset (h : mH) (a n v : Int) : mH := fun x k => if x = a ∧ 0 ≤ k ∧ k < n then v else h x k
theorem hset_0 {h : mH} {a v : Int} : hset h a 0 v = h := by
  funext x k
  exact if_neg (fun q => by omega)
theorem hset_s {h : mH} {a v n : Int} (hn : 0 ≤ n) : up2 (hset h a n v) a n v = hset h a (n + 1) v := by
  funext x k
  unfold up2 hset
  by_cases h1 : x = a ∧ k = n
  · rw [if_pos h1, if_pos ⟨h1.1, by omega, by omega⟩]
  · rw [if_neg h1]
    by_cases h2 : x = a ∧ 0 ≤ k ∧ k < n
    · rw [if_pos h2, if_pos ⟨h2.1, h2.2.1, by omega⟩]
    · rw [if_neg h2, if_neg (fun q => h2 ⟨q.1, q.2.1, by have : k ≠ n := fun w => h1 ⟨q.1, w⟩; omega⟩)]
theorem hset_ne {h : mH} {a n v x k : Int} (hn : x ≠ a ∨ k < 0 ∨ n ≤ k) : hset h a n v x k = h x k := if_neg (fun q => by omega)
theorem hset_eq {h : mH} {a n v k : Int} (h0 : 0 ≤ k) (h1 : k < n) : hset h a n v a k = v := if_pos ⟨rfl, h0, h1⟩
theorem s_X8_become {u : gT} {h : mH} {d b : Nat} {s it z n0 : Int} (hs : 0 ≤ s) (hz : h s (-1) = 9) (hi : h s 0 = it) (hi0 : 0 ≤ it) (hiz : h it (-1) = 20) (hil : h it (-2) = 40) (hne : it ≠ s) : Det (gX (gq u)) MX8_become d b [(2, s), (0, z), (0, n0)] h (9, 0) (hset (up2 (up2 h s 2 z) s 1 n0) it 40 0) := by
  intro Q hQ
  have loop : ∀ n : Nat, n ≤ 40 → WP (gX (gq u)) MX8_become d b Q 12 [(2, s), (0, z), (0, n0), (0, (n : Int))] [] (hset (up2 (up2 h s 2 z) s 1 n0) it n 0) := by
    refine loop_w 40 (fun n hn ih => ?_)
    refine wp_iload_n rfl rfl dX8_become_12 ?_
    refine wp_aload_n rfl rfl dX8_become_13 ?_
    refine wp_getfield1 (z := 9) (kI := 0) fX8_9 dX8_become_14 (by first | omega | (simp (disch := omega) only [up2_ne, up2_eq, hset_ne, hz, hi, hiz, hil]; first | done | omega)) (by first | assumption | (simp (disch := omega) only [up2_ne, up2_eq, hset_ne, hz, hi, hiz, hil]; first | done | rfl | omega)) rfl rfl ?_
    try simp (disch := omega) only [up2_ne, up2_eq, hset_ne, hz, hi, hiz, hil]
    refine wp_alen1 dX8_become_17 (by first | omega | (simp (disch := omega) only [up2_ne, up2_eq, hset_ne, hz, hi, hiz, hil]; first | done | omega)) (by first | omega | (simp (disch := omega) only [up2_ne, up2_eq, hset_ne, hz, hi, hiz, hil]; first | done | omega)) ?_
    try simp (disch := omega) only [up2_ne, up2_eq, hset_ne, hz, hi, hiz, hil]
    refine wp_icmp_ge (tgt := 34) (by first | assumption | exact bI_in _ | exact ⟨by omega, by omega⟩ | exact iAnd_in | exact iOr_in | exact iShr_in | exact iShl_in | exact iXor_in | exact hxs _) (by first | assumption | exact bI_in _ | exact ⟨by omega, by omega⟩ | exact iAnd_in | exact iOr_in | exact iShr_in | exact iShl_in | exact iXor_in | exact hxs _) dX8_become_18 (by decide) (fun c1 => ?_) (fun c1 => ?_)
    · refine wp_vret dX8_become_34 rfl ?_
      have e1 : n = 40 := by omega
      subst e1
      exact hQ
    · refine wp_aload_n rfl rfl dX8_become_21 ?_
      refine wp_getfield1 (z := 9) (kI := 0) fX8_9 dX8_become_22 (by first | omega | (simp (disch := omega) only [up2_ne, up2_eq, hset_ne, hz, hi, hiz, hil]; first | done | omega)) (by first | assumption | (simp (disch := omega) only [up2_ne, up2_eq, hset_ne, hz, hi, hiz, hil]; first | done | rfl | omega)) rfl rfl ?_
      try simp (disch := omega) only [up2_ne, up2_eq, hset_ne, hz, hi, hiz, hil]
      refine wp_iload_n rfl rfl dX8_become_25 ?_
      refine wp_iconst dX8_become_26 ?_
      refine wp_iastore1 dX8_become_27 (by first | omega | (simp (disch := omega) only [up2_ne, up2_eq, hset_ne, hz, hi, hiz, hil]; first | done | omega)) (by first | assumption | (simp (disch := omega) only [up2_ne, up2_eq, hset_ne, hz, hi, hiz, hil]; first | done | rfl | omega)) (by first | omega | (simp (disch := omega) only [up2_ne, up2_eq, hset_ne, hz, hi, hiz, hil]; first | done | omega)) (by first | omega | (simp (disch := omega) only [up2_ne, up2_eq, hset_ne, hz, hi, hiz, hil]; first | done | omega)) ?_
      refine wp_iinc rfl rfl dX8_become_28 rfl rfl ?_
      try simp only [List.set_cons_zero, List.set_cons_succ]
      refine wp_goto (tgt := 12) dX8_become_31 (by decide) ?_
      rw [hset_s (by omega)]
      exact ih (by omega)
  show WP (gX (gq u)) MX8_become d b Q 0 [(2, s), (0, z), (0, n0), (9, 0)] [] h
  refine wp_aload_n rfl rfl dX8_become_0 ?_
  refine wp_iload_n rfl rfl dX8_become_1 ?_
  refine wp_putfield1 (z := 9) (kI := 2) fX8_15 dX8_become_2 (by first | omega | (simp (disch := omega) only [up2_ne, up2_eq, hset_ne, hz, hi, hiz, hil]; first | done | omega)) (by first | assumption | (simp (disch := omega) only [up2_ne, up2_eq, hset_ne, hz, hi, hiz, hil]; first | done | rfl | omega)) rfl rfl ?_
  refine wp_aload_n rfl rfl dX8_become_5 ?_
  refine wp_iload_n rfl rfl dX8_become_6 ?_
  refine wp_putfield1 (z := 9) (kI := 1) fX8_23 dX8_become_7 (by first | omega | (simp (disch := omega) only [up2_ne, up2_eq, hset_ne, hz, hi, hiz, hil]; first | done | omega)) (by first | assumption | (simp (disch := omega) only [up2_ne, up2_eq, hset_ne, hz, hi, hiz, hil]; first | done | rfl | omega)) rfl rfl ?_
  refine wp_iconst dX8_become_10 ?_
  refine wp_istore_n rfl dX8_become_11 rfl (Nat.le_of_ble_eq_true rfl) rfl ?_
  try simp only [List.set_cons_zero, List.set_cons_succ]
  have l0 := loop 0 (by omega)
  rw [show ((0 : Nat) : Int) = 0 from rfl, hset_0] at l0
  exact l0
theorem s_X7_add {u : gT} {h : mH} {d b : Nat} {r m : Int} (hS : St h) (h0 : 0 ≤ r) (h1 : r ≤ 7) : Det (gX (gq u)) MX7_add (d + 1) b [(2, 10), (0, r), (0, m)] h (9, 0) (up2 (up2 (up2 (up2 h 17 r (h 17 r + m)) 18 r (h 18 r + 1)) 10 2 (h 10 2 + m)) 10 3 (h 10 3 + 1)) := by
  intro Q hQ
  show WP (gX (gq u)) MX7_add (d + 1) b Q 0 [(2, 10), (0, r), (0, m)] [] h
  refine wp_iload_n rfl rfl dX7_add_0 ?_
  refine wp_iconst dX7_add_1 ?_
  refine wp_bipush (by decide) dX7_add_2 ?_
  refine wp_cSN3 okX11_isWithin wX7_32 dX7_add_4 rfl (Nat.le_of_ble_eq_true rfl) (Nat.le_of_ble_eq_true rfl) (s_X11_isWithin ⟨by omega, by omega⟩ In0 ⟨by decide, by decide⟩) (Nat.zero_le _) ?_
  try simp (disch := omega) only [up2_ne, up2_eq, st_10_m1 hS, st_10_0 hS, st_10_1 hS, st_17_m2 hS, st_17_m1 hS, st_18_m2 hS, st_18_m1 hS]
  refine wp_ifB_eq (tgt := 50) dX7_add_7 (by decide) (fun c1 => ?_) (fun c1 => ?_)
  · refine wp_vret dX7_add_50 rfl ?_
    first | exact hQ | (exfalso; omega)
  · refine wp_aload_n rfl rfl dX7_add_10 ?_
    refine wp_getfield1 (z := 8) (kI := 0) fX7_9 dX7_add_11 (by first | omega | (simp (disch := omega) only [up2_ne, up2_eq, st_10_m1 hS, st_10_0 hS, st_10_1 hS, st_17_m2 hS, st_17_m1 hS, st_18_m2 hS, st_18_m1 hS]; first | done | omega)) (by first | assumption | (simp (disch := omega) only [up2_ne, up2_eq, st_10_m1 hS, st_10_0 hS, st_10_1 hS, st_17_m2 hS, st_17_m1 hS, st_18_m2 hS, st_18_m1 hS]; first | done | rfl | omega)) rfl rfl ?_
    try simp (disch := omega) only [up2_ne, up2_eq, st_10_m1 hS, st_10_0 hS, st_10_1 hS, st_17_m2 hS, st_17_m1 hS, st_18_m2 hS, st_18_m1 hS]
    refine wp_iload_n rfl rfl dX7_add_14 ?_
    refine wp_dup2 (by decide) (by decide) dX7_add_15 ?_
    refine wp_iaload1 dX7_add_16 (by first | omega | (simp (disch := omega) only [up2_ne, up2_eq, st_10_m1 hS, st_10_0 hS, st_10_1 hS, st_17_m2 hS, st_17_m1 hS, st_18_m2 hS, st_18_m1 hS]; first | done | omega)) (by first | assumption | (simp (disch := omega) only [up2_ne, up2_eq, st_10_m1 hS, st_10_0 hS, st_10_1 hS, st_17_m2 hS, st_17_m1 hS, st_18_m2 hS, st_18_m1 hS]; first | done | rfl | omega)) (by first | omega | (simp (disch := omega) only [up2_ne, up2_eq, st_10_m1 hS, st_10_0 hS, st_10_1 hS, st_17_m2 hS, st_17_m1 hS, st_18_m2 hS, st_18_m1 hS]; first | done | omega)) (by first | omega | (simp (disch := omega) only [up2_ne, up2_eq, st_10_m1 hS, st_10_0 hS, st_10_1 hS, st_17_m2 hS, st_17_m1 hS, st_18_m2 hS, st_18_m1 hS]; first | done | omega)) ?_
    try simp (disch := omega) only [up2_ne, up2_eq, st_10_m1 hS, st_10_0 hS, st_10_1 hS, st_17_m2 hS, st_17_m1 hS, st_18_m2 hS, st_18_m1 hS]
    refine wp_iload_n rfl rfl dX7_add_17 ?_
    refine wp_iadd dX7_add_18 ?_
    refine wp_iastore1 dX7_add_19 (by first | omega | (simp (disch := omega) only [up2_ne, up2_eq, st_10_m1 hS, st_10_0 hS, st_10_1 hS, st_17_m2 hS, st_17_m1 hS, st_18_m2 hS, st_18_m1 hS]; first | done | omega)) (by first | assumption | (simp (disch := omega) only [up2_ne, up2_eq, st_10_m1 hS, st_10_0 hS, st_10_1 hS, st_17_m2 hS, st_17_m1 hS, st_18_m2 hS, st_18_m1 hS]; first | done | rfl | omega)) (by first | omega | (simp (disch := omega) only [up2_ne, up2_eq, st_10_m1 hS, st_10_0 hS, st_10_1 hS, st_17_m2 hS, st_17_m1 hS, st_18_m2 hS, st_18_m1 hS]; first | done | omega)) (by first | omega | (simp (disch := omega) only [up2_ne, up2_eq, st_10_m1 hS, st_10_0 hS, st_10_1 hS, st_17_m2 hS, st_17_m1 hS, st_18_m2 hS, st_18_m1 hS]; first | done | omega)) ?_
    refine wp_aload_n rfl rfl dX7_add_20 ?_
    refine wp_getfield1 (z := 8) (kI := 1) fX7_15 dX7_add_21 (by first | omega | (simp (disch := omega) only [up2_ne, up2_eq, st_10_m1 hS, st_10_0 hS, st_10_1 hS, st_17_m2 hS, st_17_m1 hS, st_18_m2 hS, st_18_m1 hS]; first | done | omega)) (by first | assumption | (simp (disch := omega) only [up2_ne, up2_eq, st_10_m1 hS, st_10_0 hS, st_10_1 hS, st_17_m2 hS, st_17_m1 hS, st_18_m2 hS, st_18_m1 hS]; first | done | rfl | omega)) rfl rfl ?_
    try simp (disch := omega) only [up2_ne, up2_eq, st_10_m1 hS, st_10_0 hS, st_10_1 hS, st_17_m2 hS, st_17_m1 hS, st_18_m2 hS, st_18_m1 hS]
    refine wp_iload_n rfl rfl dX7_add_24 ?_
    refine wp_dup2 (by decide) (by decide) dX7_add_25 ?_
    refine wp_iaload1 dX7_add_26 (by first | omega | (simp (disch := omega) only [up2_ne, up2_eq, st_10_m1 hS, st_10_0 hS, st_10_1 hS, st_17_m2 hS, st_17_m1 hS, st_18_m2 hS, st_18_m1 hS]; first | done | omega)) (by first | assumption | (simp (disch := omega) only [up2_ne, up2_eq, st_10_m1 hS, st_10_0 hS, st_10_1 hS, st_17_m2 hS, st_17_m1 hS, st_18_m2 hS, st_18_m1 hS]; first | done | rfl | omega)) (by first | omega | (simp (disch := omega) only [up2_ne, up2_eq, st_10_m1 hS, st_10_0 hS, st_10_1 hS, st_17_m2 hS, st_17_m1 hS, st_18_m2 hS, st_18_m1 hS]; first | done | omega)) (by first | omega | (simp (disch := omega) only [up2_ne, up2_eq, st_10_m1 hS, st_10_0 hS, st_10_1 hS, st_17_m2 hS, st_17_m1 hS, st_18_m2 hS, st_18_m1 hS]; first | done | omega)) ?_
    try simp (disch := omega) only [up2_ne, up2_eq, st_10_m1 hS, st_10_0 hS, st_10_1 hS, st_17_m2 hS, st_17_m1 hS, st_18_m2 hS, st_18_m1 hS]
    refine wp_iconst dX7_add_27 ?_
    refine wp_iadd dX7_add_28 ?_
    refine wp_iastore1 dX7_add_29 (by first | omega | (simp (disch := omega) only [up2_ne, up2_eq, st_10_m1 hS, st_10_0 hS, st_10_1 hS, st_17_m2 hS, st_17_m1 hS, st_18_m2 hS, st_18_m1 hS]; first | done | omega)) (by first | assumption | (simp (disch := omega) only [up2_ne, up2_eq, st_10_m1 hS, st_10_0 hS, st_10_1 hS, st_17_m2 hS, st_17_m1 hS, st_18_m2 hS, st_18_m1 hS]; first | done | rfl | omega)) (by first | omega | (simp (disch := omega) only [up2_ne, up2_eq, st_10_m1 hS, st_10_0 hS, st_10_1 hS, st_17_m2 hS, st_17_m1 hS, st_18_m2 hS, st_18_m1 hS]; first | done | omega)) (by first | omega | (simp (disch := omega) only [up2_ne, up2_eq, st_10_m1 hS, st_10_0 hS, st_10_1 hS, st_17_m2 hS, st_17_m1 hS, st_18_m2 hS, st_18_m1 hS]; first | done | omega)) ?_
    refine wp_aload_n rfl rfl dX7_add_30 ?_
    refine wp_dup (by decide) dX7_add_31 ?_
    refine wp_getfield1 (z := 8) (kI := 2) fX7_18 dX7_add_32 (by first | omega | (simp (disch := omega) only [up2_ne, up2_eq, st_10_m1 hS, st_10_0 hS, st_10_1 hS, st_17_m2 hS, st_17_m1 hS, st_18_m2 hS, st_18_m1 hS]; first | done | omega)) (by first | assumption | (simp (disch := omega) only [up2_ne, up2_eq, st_10_m1 hS, st_10_0 hS, st_10_1 hS, st_17_m2 hS, st_17_m1 hS, st_18_m2 hS, st_18_m1 hS]; first | done | rfl | omega)) rfl rfl ?_
    try simp (disch := omega) only [up2_ne, up2_eq, st_10_m1 hS, st_10_0 hS, st_10_1 hS, st_17_m2 hS, st_17_m1 hS, st_18_m2 hS, st_18_m1 hS]
    refine wp_iload_n rfl rfl dX7_add_35 ?_
    refine wp_iadd dX7_add_36 ?_
    refine wp_putfield1 (z := 8) (kI := 2) fX7_18 dX7_add_37 (by first | omega | (simp (disch := omega) only [up2_ne, up2_eq, st_10_m1 hS, st_10_0 hS, st_10_1 hS, st_17_m2 hS, st_17_m1 hS, st_18_m2 hS, st_18_m1 hS]; first | done | omega)) (by first | assumption | (simp (disch := omega) only [up2_ne, up2_eq, st_10_m1 hS, st_10_0 hS, st_10_1 hS, st_17_m2 hS, st_17_m1 hS, st_18_m2 hS, st_18_m1 hS]; first | done | rfl | omega)) rfl rfl ?_
    refine wp_aload_n rfl rfl dX7_add_40 ?_
    refine wp_dup (by decide) dX7_add_41 ?_
    refine wp_getfield1 (z := 8) (kI := 3) fX7_22 dX7_add_42 (by first | omega | (simp (disch := omega) only [up2_ne, up2_eq, st_10_m1 hS, st_10_0 hS, st_10_1 hS, st_17_m2 hS, st_17_m1 hS, st_18_m2 hS, st_18_m1 hS]; first | done | omega)) (by first | assumption | (simp (disch := omega) only [up2_ne, up2_eq, st_10_m1 hS, st_10_0 hS, st_10_1 hS, st_17_m2 hS, st_17_m1 hS, st_18_m2 hS, st_18_m1 hS]; first | done | rfl | omega)) rfl rfl ?_
    try simp (disch := omega) only [up2_ne, up2_eq, st_10_m1 hS, st_10_0 hS, st_10_1 hS, st_17_m2 hS, st_17_m1 hS, st_18_m2 hS, st_18_m1 hS]
    refine wp_iconst dX7_add_45 ?_
    refine wp_iadd dX7_add_46 ?_
    refine wp_putfield1 (z := 8) (kI := 3) fX7_22 dX7_add_47 (by first | omega | (simp (disch := omega) only [up2_ne, up2_eq, st_10_m1 hS, st_10_0 hS, st_10_1 hS, st_17_m2 hS, st_17_m1 hS, st_18_m2 hS, st_18_m1 hS]; first | done | omega)) (by first | assumption | (simp (disch := omega) only [up2_ne, up2_eq, st_10_m1 hS, st_10_0 hS, st_10_1 hS, st_17_m2 hS, st_17_m1 hS, st_18_m2 hS, st_18_m1 hS]; first | done | rfl | omega)) rfl rfl ?_
    refine wp_vret dX7_add_50 rfl ?_
    first | exact hQ | (exfalso; omega)
