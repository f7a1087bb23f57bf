/-! ===== small methods ===== -/
theorem s_J0_coder_7d493 {u : gT} {h : mH} {d b : Nat} {a bb : Int} {N : Nat} {f : Nat → Int} (hs : isStr u a bb N f) : Det (gX (gq u)) MJ0_coder_7d493 d b [(2, a)] h (0, 0) h := by
  intro Q hQ
  obtain ⟨g1, g2, g3, g4, g5, g6, g7, g8⟩ := hs
  show WP (gX (gq u)) MJ0_coder_7d493 d b Q 0 [(2, a)] [] h
  refine wp_gets (v := (0, 1)) (List.mem_of_getElem? (i := 2) rfl) sfJ0_38 (Or.inl rfl) dJ0_coder_7d493_0 ?_
  refine wp_if_eq (tgt := 13) (by first | assumption | exact bI_in _ | exact ⟨by omega, by omega⟩ | exact iAnd_in | exact iOr_in | exact iShr_in | exact iShl_in | exact iXor_in | exact hxs _) dJ0_coder_7d493_3 (by decide) (fun hx => absurd hx (by decide)) (fun hx => ?_)
  refine wp_aload_n rfl rfl dJ0_coder_7d493_6 ?_
  refine wp_getfR g3 (by assumption) sfJ0_15 (Or.inl rfl) dJ0_coder_7d493_7 ?_
  refine wp_goto (tgt := 14) dJ0_coder_7d493_10 (by decide) ?_
  refine wp_bret rfl dJ0_coder_7d493_14 rfl ?_
  exact hQ
theorem s_J0_isLatin1_aae02 {u : gT} {h : mH} {d b : Nat} {a bb : Int} {N : Nat} {f : Nat → Int} (hs : isStr u a bb N f) : Det (gX (gq u)) MJ0_isLatin1_aae02 d b [(2, a)] h (0, 1) h := by
  intro Q hQ
  obtain ⟨g1, g2, g3, g4, g5, g6, g7, g8⟩ := hs
  show WP (gX (gq u)) MJ0_isLatin1_aae02 d b Q 0 [(2, a)] [] h
  refine wp_gets (v := (0, 1)) (List.mem_of_getElem? (i := 2) rfl) sfJ0_38 (Or.inl rfl) dJ0_isLatin1_aae02_0 ?_
  refine wp_if_eq (tgt := 17) (by first | assumption | exact bI_in _ | exact ⟨by omega, by omega⟩ | exact iAnd_in | exact iOr_in | exact iShr_in | exact iShl_in | exact iXor_in | exact hxs _) dJ0_isLatin1_aae02_3 (by decide) (fun hx => absurd hx (by decide)) (fun hx => ?_)
  refine wp_aload_n rfl rfl dJ0_isLatin1_aae02_6 ?_
  refine wp_getfR g3 (by assumption) sfJ0_15 (Or.inl rfl) dJ0_isLatin1_aae02_7 ?_
  refine wp_if_ne (tgt := 17) (by first | assumption | exact bI_in _ | exact ⟨by omega, by omega⟩ | exact iAnd_in | exact iOr_in | exact iShr_in | exact iShl_in | exact iXor_in | exact hxs _) dJ0_isLatin1_aae02_10 (by decide) (fun hx => absurd hx (by decide)) (fun hx => ?_)
  refine wp_iconst dJ0_isLatin1_aae02_13 ?_
  refine wp_goto (tgt := 18) dJ0_isLatin1_aae02_14 (by decide) ?_
  refine wp_zret (by first | exact Or.inl rfl | exact Or.inr rfl | omega) dJ0_isLatin1_aae02_18 rfl ?_
  exact hQ
theorem iShr0 {x : Int} (hx : InI x) : iShr x 0 = x := by rw [iShr_eq hx (by decide) (by decide)]; show x / 1 = x; exact Int.ediv_one x
theorem s_J0_length_8abf5 {u : gT} {h : mH} {d b : Nat} {a bb : Int} {N : Nat} {f : Nat → Int} (hs : isStr u a bb N f) : Det (gX (gq u)) MJ0_length_8abf5 (d + 1) b [(2, a)] h (0, (N : Int)) h := by
  intro Q hQ
  obtain ⟨g1, g2, g3, g4, g5, g6, g7, g8⟩ := hs
  show WP (gX (gq u)) MJ0_length_8abf5 (d + 1) b Q 0 [(2, a)] [] h
  refine wp_aload_n rfl rfl dJ0_length_8abf5_0 ?_
  refine wp_getfR g2 (by assumption) sfJ0_9 (Or.inr ⟨rfl, Or.inl (by assumption)⟩) dJ0_length_8abf5_1 ?_
  refine wp_alenR g4 (by first | assumption | decide) dJ0_length_8abf5_4 ?_
  refine wp_aload_n rfl rfl dJ0_length_8abf5_5 ?_
  refine wp_cR0 okJ0_coder_7d493 rfl g1 wJ0_335 dJ0_length_8abf5_6 rfl (Nat.le_of_ble_eq_true rfl) (Nat.le_of_ble_eq_true rfl) (by first | assumption | decide) (s_J0_coder_7d493 ⟨g1, g2, g3, g4, g5, g6, g7, g8⟩) (Nat.zero_le _) ?_
  try simp (disch := omega) only [up2_ne, up2_eq]
  refine wp_ishr dJ0_length_8abf5_9 ?_
  refine wp_iret dJ0_length_8abf5_10 rfl ?_
  rw [iShr0 ⟨by omega, by omega⟩]
  exact hQ
theorem s_J3_checkIndex_8e157 {u : gT} {h : mH} {d b : Nat} {i n z : Int} (h1 : InI i) (h2 : InI n) (h0 : 0 ≤ i) (hi : i < n) : Det (gX (gq u)) MJ3_checkIndex_8e157 d b [(0, i), (0, n), (2, z)] h (0, i) h := by
  intro Q hQ
  show WP (gX (gq u)) MJ3_checkIndex_8e157 d b Q 0 [(0, i), (0, n), (2, z)] [] h
  refine wp_iload_n rfl rfl dJ3_checkIndex_8e157_0 ?_
  refine wp_if_lt (tgt := 9) (by first | assumption | exact bI_in _ | exact ⟨by omega, by omega⟩ | exact iAnd_in | exact iOr_in | exact iShr_in | exact iShl_in | exact iXor_in | exact hxs _) dJ3_checkIndex_8e157_1 (by decide) (fun c1 => ?_) (fun c1 => ?_)
  · omega
  · refine wp_iload_n rfl rfl dJ3_checkIndex_8e157_4 ?_
    refine wp_iload_n rfl rfl dJ3_checkIndex_8e157_5 ?_
    refine wp_icmp_lt (tgt := 16) (by first | assumption | exact bI_in _ | exact ⟨by omega, by omega⟩ | exact iAnd_in | exact iOr_in | exact iShr_in | exact iShl_in | exact iXor_in | exact hxs _) (by first | assumption | exact bI_in _ | exact ⟨by omega, by omega⟩ | exact iAnd_in | exact iOr_in | exact iShr_in | exact iShl_in | exact iXor_in | exact hxs _) dJ3_checkIndex_8e157_6 (by decide) (fun c2 => ?_) (fun c2 => ?_)
    · refine wp_iload_n rfl rfl dJ3_checkIndex_8e157_16 ?_
      refine wp_iret dJ3_checkIndex_8e157_17 rfl ?_
      exact hQ
    · omega
theorem s_J0_checkIndex_df160 {u : gT} {h : mH} {d b : Nat} {i n : Int} (hfm : u.2.2.2.2.2 ≤ -10 ∨ u.2.2.2.2.2 = -1) (h1 : InI i) (h2 : InI n) (h0 : 0 ≤ i) (hi : i < n) : Det (gX (gq u)) MJ0_checkIndex_df160 (d + 1) b [(0, i), (0, n)] h (9, 0) h := by
  intro Q hQ
  show WP (gX (gq u)) MJ0_checkIndex_df160 (d + 1) b Q 0 [(0, i), (0, n)] [] h
  refine wp_iload_n rfl rfl dJ0_checkIndex_df160_0 ?_
  refine wp_iload_n rfl rfl dJ0_checkIndex_df160_1 ?_
  refine wp_gets (v := (2, u.2.2.2.2.2)) (List.mem_of_getElem? (i := 3) rfl) sfJ0_1053 (Or.inr ⟨rfl, hfm⟩) dJ0_checkIndex_df160_2 ?_
  refine wp_cS3 okJ3_checkIndex_8e157 wJ0_1059 dJ0_checkIndex_df160_5 rfl (Nat.le_of_ble_eq_true rfl) (Nat.le_of_ble_eq_true rfl) (s_J3_checkIndex_8e157 h1 h2 h0 hi) (Nat.zero_le _) ?_
  try simp (disch := omega) only [up2_ne, up2_eq]
  refine wp_pop (by decide) dJ0_checkIndex_df160_8 ?_
  refine wp_vret dJ0_checkIndex_df160_9 rfl ?_
  exact hQ
theorem iAnd255 {x : Int} (h0 : 0 ≤ x) (h1 : x ≤ 127) : iAnd x 255 = x := by
  have key : ∀ k : Nat, k < 128 → iAnd (k : Int) 255 = (k : Int) := by decide +kernel
  have := key x.toNat (by omega)
  rw [Int.toNat_of_nonneg h0] at this
  exact this
theorem s_J1_charAt_3b067 {u : gT} {h : mH} {d b : Nat} {bb i : Int} {N : Nat} {f : Nat → Int} (hfm : u.2.2.2.2.2 ≤ -10 ∨ u.2.2.2.2.2 = -1) (g4 : roArr u.2.2.2.1 u.2.2.2.2.1 bb = some (.byte, N, f)) (g6 : bb ≤ -10) (g7 : N < 1000) (g8 : ∀ k, k < N → 0 ≤ f k ∧ f k ≤ 127) (h0 : 0 ≤ i) (hi : i < N) : Det (gX (gq u)) MJ1_charAt_3b067 (d + 2) b [(2, bb), (0, i)] h (0, f i.toNat) h := by
  intro Q hQ
  have hf := g8 i.toNat (by omega)
  have hi2 : InI i := ⟨by omega, by omega⟩
  have hN2 : InI (N : Int) := ⟨by omega, by omega⟩
  show WP (gX (gq u)) MJ1_charAt_3b067 (d + 2) b Q 0 [(2, bb), (0, i)] [] h
  refine wp_iload_n rfl rfl dJ1_charAt_3b067_0 ?_
  refine wp_aload_n rfl rfl dJ1_charAt_3b067_1 ?_
  refine wp_alenR g4 (by first | assumption | decide) dJ1_charAt_3b067_2 ?_
  refine wp_cS2v okJ0_checkIndex_df160 wJ1_9 dJ1_charAt_3b067_3 (Nat.le_of_ble_eq_true rfl) (Nat.le_of_ble_eq_true rfl) (s_J0_checkIndex_df160 hfm hi2 hN2 h0 hi) (Nat.zero_le _) ?_
  try simp (disch := omega) only [up2_ne, up2_eq]
  refine wp_aload_n rfl rfl dJ1_charAt_3b067_6 ?_
  refine wp_iload_n rfl rfl dJ1_charAt_3b067_7 ?_
  refine wp_baloadR g4 (by first | assumption | decide) (by first | omega | (simp (disch := omega) only [up2_ne, up2_eq]; first | done | omega)) (by first | omega | (simp only []; omega)) dJ1_charAt_3b067_8 ?_
  refine wp_sipush (by decide) dJ1_charAt_3b067_9 ?_
  refine wp_iand dJ1_charAt_3b067_12 ?_
  rw [iAnd255 hf.1 hf.2]
  refine wp_i2c (by omega) dJ1_charAt_3b067_13 ?_
  refine wp_cret (by omega) dJ1_charAt_3b067_14 rfl ?_
  exact hQ
theorem s_J0_charAt_5068e {u : gT} {h : mH} {d b : Nat} {a bb : Int} {N : Nat} {f : Nat → Int} (hs : isStr u a bb N f) {i : Int} (hfm : u.2.2.2.2.2 ≤ -10 ∨ u.2.2.2.2.2 = -1) (h0 : 0 ≤ i) (hi : i < N) : Det (gX (gq u)) MJ0_charAt_5068e (d + 3) b [(2, a), (0, i)] h (0, f i.toNat) h := by
  intro Q hQ
  obtain ⟨g1, g2, g3, g4, g5, g6, g7, g8⟩ := hs
  have hf := g8 i.toNat (by omega)
  show WP (gX (gq u)) MJ0_charAt_5068e (d + 3) b Q 0 [(2, a), (0, i)] [] h
  refine wp_aload_n rfl rfl dJ0_charAt_5068e_0 ?_
  refine wp_cR0 okJ0_isLatin1_aae02 rfl g1 wJ0_492 dJ0_charAt_5068e_1 rfl (Nat.le_of_ble_eq_true rfl) (Nat.le_of_ble_eq_true rfl) (by first | assumption | decide) (s_J0_isLatin1_aae02 ⟨g1, g2, g3, g4, g5, g6, g7, g8⟩) (Nat.zero_le _) ?_
  try simp (disch := omega) only [up2_ne, up2_eq]
  refine wp_if_eq (tgt := 16) (by first | assumption | exact bI_in _ | exact ⟨by omega, by omega⟩ | exact iAnd_in | exact iOr_in | exact iShr_in | exact iShl_in | exact iXor_in | exact hxs _) dJ0_charAt_5068e_4 (by decide) (fun hx => absurd hx (by decide)) (fun hx => ?_)
  refine wp_aload_n rfl rfl dJ0_charAt_5068e_7 ?_
  refine wp_getfR g2 (by assumption) sfJ0_9 (Or.inr ⟨rfl, Or.inl (by assumption)⟩) dJ0_charAt_5068e_8 ?_
  refine wp_iload_n rfl rfl dJ0_charAt_5068e_11 ?_
  refine wp_cS2 okJ1_charAt_3b067 wJ0_495 dJ0_charAt_5068e_12 rfl (Nat.le_of_ble_eq_true rfl) (Nat.le_of_ble_eq_true rfl) (s_J1_charAt_3b067 hfm g4 g6 g7 g8 h0 hi) (Nat.zero_le _) ?_
  try simp (disch := omega) only [up2_ne, up2_eq]
  refine wp_cret (by omega) dJ0_charAt_5068e_15 rfl ?_
  exact hQ
theorem s_X11_isWithin {u : gT} {h : mH} {d b : Nat} {n lo hi : Int} (h1 : InI n) (h2 : InI lo) (h3 : InI hi) : Det (gX (gq u)) MX11_isWithin d b [(0, n), (0, lo), (0, hi)] h (0, bI (lo ≤ n ∧ n ≤ hi)) h := by
  intro Q hQ
  show WP (gX (gq u)) MX11_isWithin d b Q 0 [(0, n), (0, lo), (0, hi)] [] h
  refine wp_iload_n rfl rfl dX11_isWithin_0 ?_
  refine wp_iload_n rfl rfl dX11_isWithin_1 ?_
  refine wp_icmp_lt (tgt := 14) (by first | assumption | exact bI_in _ | exact ⟨by omega, by omega⟩ | exact iAnd_in | exact iOr_in | exact iShr_in | exact iShl_in | exact iXor_in | exact hxs _) (by first | assumption | exact bI_in _ | exact ⟨by omega, by omega⟩ | exact iAnd_in | exact iOr_in | exact iShr_in | exact iShl_in | exact iXor_in | exact hxs _) dX11_isWithin_2 (by decide) (fun c1 => ?_) (fun c1 => ?_)
  · refine wp_iconst dX11_isWithin_14 ?_
    refine wp_zret (by first | exact Or.inl rfl | exact Or.inr rfl | omega) dX11_isWithin_15 rfl ?_
    first | exact QB_t hQ (by omega) | exact QB_f hQ (by omega)
  · refine wp_iload_n rfl rfl dX11_isWithin_5 ?_
    refine wp_iload_n rfl rfl dX11_isWithin_6 ?_
    refine wp_icmp_gt (tgt := 14) (by first | assumption | exact bI_in _ | exact ⟨by omega, by omega⟩ | exact iAnd_in | exact iOr_in | exact iShr_in | exact iShl_in | exact iXor_in | exact hxs _) (by first | assumption | exact bI_in _ | exact ⟨by omega, by omega⟩ | exact iAnd_in | exact iOr_in | exact iShr_in | exact iShl_in | exact iXor_in | exact hxs _) dX11_isWithin_7 (by decide) (fun c2 => ?_) (fun c2 => ?_)
    · refine wp_iconst dX11_isWithin_14 ?_
      refine wp_zret (by first | exact Or.inl rfl | exact Or.inr rfl | omega) dX11_isWithin_15 rfl ?_
      first | exact QB_t hQ (by omega) | exact QB_f hQ (by omega)
    · refine wp_iconst dX11_isWithin_10 ?_
      refine wp_goto (tgt := 15) dX11_isWithin_11 (by decide) ?_
      refine wp_zret (by first | exact Or.inl rfl | exact Or.inr rfl | omega) dX11_isWithin_15 rfl ?_
      first | exact QB_t hQ (by omega) | exact QB_f hQ (by omega)
theorem s_X11_hasBit {u : gT} {h : mH} {d b : Nat} {x i : Int} : Det (gX (gq u)) MX11_hasBit d b [(0, x), (0, i)] h (0, bI (bt x i ≠ 0)) h := by
  intro Q hQ
  show WP (gX (gq u)) MX11_hasBit d b Q 0 [(0, x), (0, i)] [] h
  refine wp_iload_n rfl rfl dX11_hasBit_0 ?_
  refine wp_iload_n rfl rfl dX11_hasBit_1 ?_
  refine wp_ishr dX11_hasBit_2 ?_
  refine wp_iconst dX11_hasBit_3 ?_
  refine wp_iand dX11_hasBit_4 ?_
  refine wp_if_eq (tgt := 12) (by first | assumption | exact bI_in _ | exact ⟨by omega, by omega⟩ | exact iAnd_in | exact iOr_in | exact iShr_in | exact iShl_in | exact iXor_in | exact hxs _) dX11_hasBit_5 (by decide) (fun c1 => ?_) (fun c1 => ?_)
  · refine wp_iconst dX11_hasBit_12 ?_
    refine wp_zret (by first | exact Or.inl rfl | exact Or.inr rfl | omega) dX11_hasBit_13 rfl ?_
    first | exact QB_t hQ c1 | exact QB_f hQ (fun z => z c1)
  · refine wp_iconst dX11_hasBit_8 ?_
    refine wp_goto (tgt := 13) dX11_hasBit_9 (by decide) ?_
    refine wp_zret (by first | exact Or.inl rfl | exact Or.inr rfl | omega) dX11_hasBit_13 rfl ?_
    first | exact QB_t hQ c1 | exact QB_f hQ (fun z => z c1)
def needK (k : Int) : Int := if 0 ≤ k ∧ k ≤ 5 then strF needL k.toNat else 0
theorem s_X11_needOf {u : gT} {h : mH} {d b : Nat} {k : Int} (h1 : InI k) : Det (gX (gq u)) MX11_needOf (d + 1) b [(0, k)] h (0, needK k) h := by
  intro Q hQ
  unfold needK at hQ
  show WP (gX (gq u)) MX11_needOf (d + 1) b Q 0 [(0, k)] [] h
  refine wp_iload_n rfl rfl dX11_needOf_0 ?_
  refine wp_iconst dX11_needOf_1 ?_
  refine wp_gets (v := (2, -12)) (List.mem_of_getElem? (i := 1) rfl) sfX11_377 (Or.inr ⟨rfl, Or.inl (by decide)⟩) dX11_needOf_2 ?_
  refine wp_alenR rfl (by first | assumption | decide) dX11_needOf_5 ?_
  refine wp_iconst dX11_needOf_6 ?_
  refine wp_isub dX11_needOf_7 ?_
  refine wp_cS3 okX11_isWithin wX11_98 dX11_needOf_8 rfl (Nat.le_of_ble_eq_true rfl) (Nat.le_of_ble_eq_true rfl) (s_X11_isWithin h1 In0 ⟨by decide, by decide⟩) (Nat.zero_le _) ?_
  try simp (disch := omega) only [up2_ne, up2_eq]
  refine wp_ifB_eq (tgt := 22) dX11_needOf_11 (by decide) (fun c1 => ?_) (fun c1 => ?_)
  · refine wp_iconst dX11_needOf_22 ?_
    refine wp_iret dX11_needOf_23 rfl ?_
    first | exact QI_t hQ (by first | assumption | omega) | exact QI_f hQ (by first | assumption | omega)
  · refine wp_gets (v := (2, -12)) (List.mem_of_getElem? (i := 1) rfl) sfX11_377 (Or.inr ⟨rfl, Or.inl (by decide)⟩) dX11_needOf_14 ?_
    refine wp_iload_n rfl rfl dX11_needOf_17 ?_
    refine wp_ialoadR rfl (by first | assumption | decide) (by first | omega | (simp (disch := omega) only [up2_ne, up2_eq]; first | done | omega)) (by first | omega | (simp only []; omega)) dX11_needOf_18 ?_
    refine wp_goto (tgt := 23) dX11_needOf_19 (by decide) ?_
    refine wp_iret dX11_needOf_23 rfl ?_
    first | exact QI_t hQ (by first | assumption | omega) | exact QI_f hQ (by first | assumption | omega)
theorem s_X11_findFund {u : gT} {h : mH} {d b : Nat} {n : Int} (hS : St h) (hn : InI n) (h4 : 0 ≤ h 1 11) (h5 : h 1 11 ≤ 5) : Det (gX (gq u)) MX11_findFund (d + 1) b [(2, 1), (0, n)] h (2, if 0 ≤ n ∧ n ≤ h 1 11 - 1 then h 2 n else -1) h := by
  intro Q hQ
  show WP (gX (gq u)) MX11_findFund (d + 1) b Q 0 [(2, 1), (0, n)] [] h
  refine wp_iload_n rfl rfl dX11_findFund_0 ?_
  refine wp_iconst dX11_findFund_1 ?_
  refine wp_aload_n rfl rfl dX11_findFund_2 ?_
  refine wp_getfield1 (z := 12) (kI := 11) fX11_102 dX11_findFund_3 (by first | omega | (simp (disch := omega) only [up2_ne, up2_eq, st_1_m1 hS, st_1_0 hS, st_2_m2 hS, st_2_m1 hS]; first | done | omega)) (by first | assumption | (simp (disch := omega) only [up2_ne, up2_eq, st_1_m1 hS, st_1_0 hS, st_2_m2 hS, st_2_m1 hS]; first | done | rfl | omega)) rfl rfl ?_
  try simp (disch := omega) only [up2_ne, up2_eq, st_1_m1 hS, st_1_0 hS, st_2_m2 hS, st_2_m1 hS]
  refine wp_iconst dX11_findFund_6 ?_
  refine wp_isub dX11_findFund_7 ?_
  refine wp_cS3 okX11_isWithin wX11_98 dX11_findFund_8 rfl (Nat.le_of_ble_eq_true rfl) (Nat.le_of_ble_eq_true rfl) (s_X11_isWithin hn In0 ⟨by omega, by omega⟩) (Nat.zero_le _) ?_
  try simp (disch := omega) only [up2_ne, up2_eq, st_1_m1 hS, st_1_0 hS, st_2_m2 hS, st_2_m1 hS]
  refine wp_ifB_eq (tgt := 23) dX11_findFund_11 (by decide) (fun c1 => ?_) (fun c1 => ?_)
  · refine wp_null dX11_findFund_23 ?_
    refine wp_aret dX11_findFund_24 rfl (Or.inl ⟨_, rfl⟩) ?_
    first | exact QI_t hQ (by first | assumption | omega) | exact QI_f hQ (by first | assumption | omega)
  · refine wp_aload_n rfl rfl dX11_findFund_14 ?_
    refine wp_getfield1 (z := 12) (kI := 0) fX11_11 dX11_findFund_15 (by first | omega | (simp (disch := omega) only [up2_ne, up2_eq, st_1_m1 hS, st_1_0 hS, st_2_m2 hS, st_2_m1 hS]; first | done | omega)) (by first | assumption | (simp (disch := omega) only [up2_ne, up2_eq, st_1_m1 hS, st_1_0 hS, st_2_m2 hS, st_2_m1 hS]; first | done | rfl | omega)) rfl rfl ?_
    try simp (disch := omega) only [up2_ne, up2_eq, st_1_m1 hS, st_1_0 hS, st_2_m2 hS, st_2_m1 hS]
    refine wp_iload_n rfl rfl dX11_findFund_18 ?_
    refine wp_aaload1 dX11_findFund_19 (by first | omega | (simp (disch := omega) only [up2_ne, up2_eq, st_1_m1 hS, st_1_0 hS, st_2_m2 hS, st_2_m1 hS]; first | done | omega)) (by first | omega | (simp (disch := omega) only [up2_ne, up2_eq, st_1_m1 hS, st_1_0 hS, st_2_m2 hS, st_2_m1 hS]; first | done | omega)) (by first | omega | (simp (disch := omega) only [up2_ne, up2_eq, st_1_m1 hS, st_1_0 hS, st_2_m2 hS, st_2_m1 hS]; first | done | omega)) (by first | omega | (simp (disch := omega) only [up2_ne, up2_eq, st_1_m1 hS, st_1_0 hS, st_2_m2 hS, st_2_m1 hS]; first | done | omega)) ?_
    try simp (disch := omega) only [up2_ne, up2_eq, st_1_m1 hS, st_1_0 hS, st_2_m2 hS, st_2_m1 hS]
    refine wp_goto (tgt := 24) dX11_findFund_20 (by decide) ?_
    refine wp_aret dX11_findFund_24 rfl (Or.inl ⟨_, rfl⟩) ?_
    first | exact QI_t hQ (by first | assumption | omega) | exact QI_f hQ (by first | assumption | omega)
theorem s_X11_findReader {u : gT} {h : mH} {d b : Nat} {n : Int} (hS : St h) (hn : InI n) (h4 : 0 ≤ h 1 12) (h5 : h 1 12 ≤ 8) : Det (gX (gq u)) MX11_findReader (d + 1) b [(2, 1), (0, n)] h (2, if 0 ≤ n ∧ n ≤ h 1 12 - 1 then h 3 n else -1) h := by
  intro Q hQ
  show WP (gX (gq u)) MX11_findReader (d + 1) b Q 0 [(2, 1), (0, n)] [] h
  refine wp_iload_n rfl rfl dX11_findReader_0 ?_
  refine wp_iconst dX11_findReader_1 ?_
  refine wp_aload_n rfl rfl dX11_findReader_2 ?_
  refine wp_getfield1 (z := 12) (kI := 12) fX11_132 dX11_findReader_3 (by first | omega | (simp (disch := omega) only [up2_ne, up2_eq, st_1_m1 hS, st_1_1 hS, st_3_m2 hS, st_3_m1 hS]; first | done | omega)) (by first | assumption | (simp (disch := omega) only [up2_ne, up2_eq, st_1_m1 hS, st_1_1 hS, st_3_m2 hS, st_3_m1 hS]; first | done | rfl | omega)) rfl rfl ?_
  try simp (disch := omega) only [up2_ne, up2_eq, st_1_m1 hS, st_1_1 hS, st_3_m2 hS, st_3_m1 hS]
  refine wp_iconst dX11_findReader_6 ?_
  refine wp_isub dX11_findReader_7 ?_
  refine wp_cS3 okX11_isWithin wX11_98 dX11_findReader_8 rfl (Nat.le_of_ble_eq_true rfl) (Nat.le_of_ble_eq_true rfl) (s_X11_isWithin hn In0 ⟨by omega, by omega⟩) (Nat.zero_le _) ?_
  try simp (disch := omega) only [up2_ne, up2_eq, st_1_m1 hS, st_1_1 hS, st_3_m2 hS, st_3_m1 hS]
  refine wp_ifB_eq (tgt := 23) dX11_findReader_11 (by decide) (fun c1 => ?_) (fun c1 => ?_)
  · refine wp_null dX11_findReader_23 ?_
    refine wp_aret dX11_findReader_24 rfl (Or.inl ⟨_, rfl⟩) ?_
    first | exact QI_t hQ (by first | assumption | omega) | exact QI_f hQ (by first | assumption | omega)
  · refine wp_aload_n rfl rfl dX11_findReader_14 ?_
    refine wp_getfield1 (z := 12) (kI := 1) fX11_17 dX11_findReader_15 (by first | omega | (simp (disch := omega) only [up2_ne, up2_eq, st_1_m1 hS, st_1_1 hS, st_3_m2 hS, st_3_m1 hS]; first | done | omega)) (by first | assumption | (simp (disch := omega) only [up2_ne, up2_eq, st_1_m1 hS, st_1_1 hS, st_3_m2 hS, st_3_m1 hS]; first | done | rfl | omega)) rfl rfl ?_
    try simp (disch := omega) only [up2_ne, up2_eq, st_1_m1 hS, st_1_1 hS, st_3_m2 hS, st_3_m1 hS]
    refine wp_iload_n rfl rfl dX11_findReader_18 ?_
    refine wp_aaload1 dX11_findReader_19 (by first | omega | (simp (disch := omega) only [up2_ne, up2_eq, st_1_m1 hS, st_1_1 hS, st_3_m2 hS, st_3_m1 hS]; first | done | omega)) (by first | omega | (simp (disch := omega) only [up2_ne, up2_eq, st_1_m1 hS, st_1_1 hS, st_3_m2 hS, st_3_m1 hS]; first | done | omega)) (by first | omega | (simp (disch := omega) only [up2_ne, up2_eq, st_1_m1 hS, st_1_1 hS, st_3_m2 hS, st_3_m1 hS]; first | done | omega)) (by first | omega | (simp (disch := omega) only [up2_ne, up2_eq, st_1_m1 hS, st_1_1 hS, st_3_m2 hS, st_3_m1 hS]; first | done | omega)) ?_
    try simp (disch := omega) only [up2_ne, up2_eq, st_1_m1 hS, st_1_1 hS, st_3_m2 hS, st_3_m1 hS]
    refine wp_goto (tgt := 24) dX11_findReader_20 (by decide) ?_
    refine wp_aret dX11_findReader_24 rfl (Or.inl ⟨_, rfl⟩) ?_
    first | exact QI_t hQ (by first | assumption | omega) | exact QI_f hQ (by first | assumption | omega)
theorem s_X11_findAsking {u : gT} {h : mH} {d b : Nat} {n : Int} (hS : St h) (hn : InI n) (h4 : 0 ≤ h 1 13) (h5 : h 1 13 ≤ 14) : Det (gX (gq u)) MX11_findAsking (d + 1) b [(2, 1), (0, n)] h (2, if 0 ≤ n ∧ n ≤ h 1 13 - 1 then h 4 n else -1) h := by
  intro Q hQ
  show WP (gX (gq u)) MX11_findAsking (d + 1) b Q 0 [(2, 1), (0, n)] [] h
  refine wp_iload_n rfl rfl dX11_findAsking_0 ?_
  refine wp_iconst dX11_findAsking_1 ?_
  refine wp_aload_n rfl rfl dX11_findAsking_2 ?_
  refine wp_getfield1 (z := 12) (kI := 13) fX11_172 dX11_findAsking_3 (by first | omega | (simp (disch := omega) only [up2_ne, up2_eq, st_1_m1 hS, st_1_2 hS, st_4_m2 hS, st_4_m1 hS]; first | done | omega)) (by first | assumption | (simp (disch := omega) only [up2_ne, up2_eq, st_1_m1 hS, st_1_2 hS, st_4_m2 hS, st_4_m1 hS]; first | done | rfl | omega)) rfl rfl ?_
  try simp (disch := omega) only [up2_ne, up2_eq, st_1_m1 hS, st_1_2 hS, st_4_m2 hS, st_4_m1 hS]
  refine wp_iconst dX11_findAsking_6 ?_
  refine wp_isub dX11_findAsking_7 ?_
  refine wp_cS3 okX11_isWithin wX11_98 dX11_findAsking_8 rfl (Nat.le_of_ble_eq_true rfl) (Nat.le_of_ble_eq_true rfl) (s_X11_isWithin hn In0 ⟨by omega, by omega⟩) (Nat.zero_le _) ?_
  try simp (disch := omega) only [up2_ne, up2_eq, st_1_m1 hS, st_1_2 hS, st_4_m2 hS, st_4_m1 hS]
  refine wp_ifB_eq (tgt := 23) dX11_findAsking_11 (by decide) (fun c1 => ?_) (fun c1 => ?_)
  · refine wp_null dX11_findAsking_23 ?_
    refine wp_aret dX11_findAsking_24 rfl (Or.inl ⟨_, rfl⟩) ?_
    first | exact QI_t hQ (by first | assumption | omega) | exact QI_f hQ (by first | assumption | omega)
  · refine wp_aload_n rfl rfl dX11_findAsking_14 ?_
    refine wp_getfield1 (z := 12) (kI := 2) fX11_23 dX11_findAsking_15 (by first | omega | (simp (disch := omega) only [up2_ne, up2_eq, st_1_m1 hS, st_1_2 hS, st_4_m2 hS, st_4_m1 hS]; first | done | omega)) (by first | assumption | (simp (disch := omega) only [up2_ne, up2_eq, st_1_m1 hS, st_1_2 hS, st_4_m2 hS, st_4_m1 hS]; first | done | rfl | omega)) rfl rfl ?_
    try simp (disch := omega) only [up2_ne, up2_eq, st_1_m1 hS, st_1_2 hS, st_4_m2 hS, st_4_m1 hS]
    refine wp_iload_n rfl rfl dX11_findAsking_18 ?_
    refine wp_aaload1 dX11_findAsking_19 (by first | omega | (simp (disch := omega) only [up2_ne, up2_eq, st_1_m1 hS, st_1_2 hS, st_4_m2 hS, st_4_m1 hS]; first | done | omega)) (by first | omega | (simp (disch := omega) only [up2_ne, up2_eq, st_1_m1 hS, st_1_2 hS, st_4_m2 hS, st_4_m1 hS]; first | done | omega)) (by first | omega | (simp (disch := omega) only [up2_ne, up2_eq, st_1_m1 hS, st_1_2 hS, st_4_m2 hS, st_4_m1 hS]; first | done | omega)) (by first | omega | (simp (disch := omega) only [up2_ne, up2_eq, st_1_m1 hS, st_1_2 hS, st_4_m2 hS, st_4_m1 hS]; first | done | omega)) ?_
    try simp (disch := omega) only [up2_ne, up2_eq, st_1_m1 hS, st_1_2 hS, st_4_m2 hS, st_4_m1 hS]
    refine wp_goto (tgt := 24) dX11_findAsking_20 (by decide) ?_
    refine wp_aret dX11_findAsking_24 rfl (Or.inl ⟨_, rfl⟩) ?_
    first | exact QI_t hQ (by first | assumption | omega) | exact QI_f hQ (by first | assumption | omega)
theorem s_X2_takeGift {u : gT} {h : mH} {d b : Nat} {a n : Int} (ha : 0 ≤ a) (hz : h a (-1) = 3) : Det (gX (gq u)) MX2_takeGift d b [(2, a), (0, n)] h (9, 0) (up2 (up2 h a 1 (h a 1 + n)) a 2 (h a 2 + n)) := by
  intro Q hQ
  show WP (gX (gq u)) MX2_takeGift d b Q 0 [(2, a), (0, n)] [] h
  refine wp_aload_n rfl rfl dX2_takeGift_0 ?_
  refine wp_dup (by decide) dX2_takeGift_1 ?_
  refine wp_getfield1 (z := 3) (kI := 1) fX2_13 dX2_takeGift_2 (by first | omega | (simp (disch := omega) only [up2_ne, up2_eq, hz]; first | done | omega)) (by first | assumption | (simp (disch := omega) only [up2_ne, up2_eq, hz]; first | done | rfl | omega)) rfl rfl ?_
  try simp (disch := omega) only [up2_ne, up2_eq, hz]
  refine wp_iload_n rfl rfl dX2_takeGift_5 ?_
  refine wp_iadd dX2_takeGift_6 ?_
  refine wp_putfield1 (z := 3) (kI := 1) fX2_13 dX2_takeGift_7 (by first | omega | (simp (disch := omega) only [up2_ne, up2_eq, hz]; first | done | omega)) (by first | assumption | (simp (disch := omega) only [up2_ne, up2_eq, hz]; first | done | rfl | omega)) rfl rfl ?_
  refine wp_aload_n rfl rfl dX2_takeGift_10 ?_
  refine wp_dup (by decide) dX2_takeGift_11 ?_
  refine wp_getfield1 (z := 3) (kI := 2) fX2_16 dX2_takeGift_12 (by first | omega | (simp (disch := omega) only [up2_ne, up2_eq, hz]; first | done | omega)) (by first | assumption | (simp (disch := omega) only [up2_ne, up2_eq, hz]; first | done | rfl | omega)) rfl rfl ?_
  try simp (disch := omega) only [up2_ne, up2_eq, hz]
  refine wp_iload_n rfl rfl dX2_takeGift_15 ?_
  refine wp_iadd dX2_takeGift_16 ?_
  refine wp_putfield1 (z := 3) (kI := 2) fX2_16 dX2_takeGift_17 (by first | omega | (simp (disch := omega) only [up2_ne, up2_eq, hz]; first | done | omega)) (by first | assumption | (simp (disch := omega) only [up2_ne, up2_eq, hz]; first | done | rfl | omega)) rfl rfl ?_
  refine wp_vret dX2_takeGift_20 rfl ?_
  exact hQ
theorem s_X2_promise {u : gT} {h : mH} {d b : Nat} {a n : Int} (ha : 0 ≤ a) (hz : h a (-1) = 3) : Det (gX (gq u)) MX2_promise d b [(2, a), (0, n)] h (9, 0) (up2 (up2 h a 2 (h a 2 - n)) a 3 (h a 3 + n)) := by
  intro Q hQ
  show WP (gX (gq u)) MX2_promise d b Q 0 [(2, a), (0, n)] [] h
  refine wp_aload_n rfl rfl dX2_promise_0 ?_
  refine wp_dup (by decide) dX2_promise_1 ?_
  refine wp_getfield1 (z := 3) (kI := 2) fX2_16 dX2_promise_2 (by first | omega | (simp (disch := omega) only [up2_ne, up2_eq, hz]; first | done | omega)) (by first | assumption | (simp (disch := omega) only [up2_ne, up2_eq, hz]; first | done | rfl | omega)) rfl rfl ?_
  try simp (disch := omega) only [up2_ne, up2_eq, hz]
  refine wp_iload_n rfl rfl dX2_promise_5 ?_
  refine wp_isub dX2_promise_6 ?_
  refine wp_putfield1 (z := 3) (kI := 2) fX2_16 dX2_promise_7 (by first | omega | (simp (disch := omega) only [up2_ne, up2_eq, hz]; first | done | omega)) (by first | assumption | (simp (disch := omega) only [up2_ne, up2_eq, hz]; first | done | rfl | omega)) rfl rfl ?_
  refine wp_aload_n rfl rfl dX2_promise_10 ?_
  refine wp_dup (by decide) dX2_promise_11 ?_
  refine wp_getfield1 (z := 3) (kI := 3) fX2_19 dX2_promise_12 (by first | omega | (simp (disch := omega) only [up2_ne, up2_eq, hz]; first | done | omega)) (by first | assumption | (simp (disch := omega) only [up2_ne, up2_eq, hz]; first | done | rfl | omega)) rfl rfl ?_
  try simp (disch := omega) only [up2_ne, up2_eq, hz]
  refine wp_iload_n rfl rfl dX2_promise_15 ?_
  refine wp_iadd dX2_promise_16 ?_
  refine wp_putfield1 (z := 3) (kI := 3) fX2_19 dX2_promise_17 (by first | omega | (simp (disch := omega) only [up2_ne, up2_eq, hz]; first | done | omega)) (by first | assumption | (simp (disch := omega) only [up2_ne, up2_eq, hz]; first | done | rfl | omega)) rfl rfl ?_
  refine wp_vret dX2_promise_20 rfl ?_
  exact hQ
theorem s_X2_pay {u : gT} {h : mH} {d b : Nat} {a n l : Int} (ha : 0 ≤ a) (hz : h a (-1) = 3) : Det (gX (gq u)) MX2_pay d b [(2, a), (0, n), (0, l)] h (9, 0) (up2 (up2 (up2 h a 3 (h a 3 - n)) a 4 (h a 4 + (n - l))) a 2 (h a 2 + l)) := by
  intro Q hQ
  show WP (gX (gq u)) MX2_pay d b Q 0 [(2, a), (0, n), (0, l)] [] h
  refine wp_aload_n rfl rfl dX2_pay_0 ?_
  refine wp_dup (by decide) dX2_pay_1 ?_
  refine wp_getfield1 (z := 3) (kI := 3) fX2_19 dX2_pay_2 (by first | omega | (simp (disch := omega) only [up2_ne, up2_eq, hz]; first | done | omega)) (by first | assumption | (simp (disch := omega) only [up2_ne, up2_eq, hz]; first | done | rfl | omega)) rfl rfl ?_
  try simp (disch := omega) only [up2_ne, up2_eq, hz]
  refine wp_iload_n rfl rfl dX2_pay_5 ?_
  refine wp_isub dX2_pay_6 ?_
  refine wp_putfield1 (z := 3) (kI := 3) fX2_19 dX2_pay_7 (by first | omega | (simp (disch := omega) only [up2_ne, up2_eq, hz]; first | done | omega)) (by first | assumption | (simp (disch := omega) only [up2_ne, up2_eq, hz]; first | done | rfl | omega)) rfl rfl ?_
  refine wp_aload_n rfl rfl dX2_pay_10 ?_
  refine wp_dup (by decide) dX2_pay_11 ?_
  refine wp_getfield1 (z := 3) (kI := 4) fX2_22 dX2_pay_12 (by first | omega | (simp (disch := omega) only [up2_ne, up2_eq, hz]; first | done | omega)) (by first | assumption | (simp (disch := omega) only [up2_ne, up2_eq, hz]; first | done | rfl | omega)) rfl rfl ?_
  try simp (disch := omega) only [up2_ne, up2_eq, hz]
  refine wp_iload_n rfl rfl dX2_pay_15 ?_
  refine wp_iload_n rfl rfl dX2_pay_16 ?_
  refine wp_isub dX2_pay_17 ?_
  refine wp_iadd dX2_pay_18 ?_
  refine wp_putfield1 (z := 3) (kI := 4) fX2_22 dX2_pay_19 (by first | omega | (simp (disch := omega) only [up2_ne, up2_eq, hz]; first | done | omega)) (by first | assumption | (simp (disch := omega) only [up2_ne, up2_eq, hz]; first | done | rfl | omega)) rfl rfl ?_
  refine wp_aload_n rfl rfl dX2_pay_22 ?_
  refine wp_dup (by decide) dX2_pay_23 ?_
  refine wp_getfield1 (z := 3) (kI := 2) fX2_16 dX2_pay_24 (by first | omega | (simp (disch := omega) only [up2_ne, up2_eq, hz]; first | done | omega)) (by first | assumption | (simp (disch := omega) only [up2_ne, up2_eq, hz]; first | done | rfl | omega)) rfl rfl ?_
  try simp (disch := omega) only [up2_ne, up2_eq, hz]
  refine wp_iload_n rfl rfl dX2_pay_27 ?_
  refine wp_iadd dX2_pay_28 ?_
  refine wp_putfield1 (z := 3) (kI := 2) fX2_16 dX2_pay_29 (by first | omega | (simp (disch := omega) only [up2_ne, up2_eq, hz]; first | done | omega)) (by first | assumption | (simp (disch := omega) only [up2_ne, up2_eq, hz]; first | done | rfl | omega)) rfl rfl ?_
  refine wp_vret dX2_pay_32 rfl ?_
  exact hQ
theorem s_X2_release {u : gT} {h : mH} {d b : Nat} {a n : Int} (ha : 0 ≤ a) (hz : h a (-1) = 3) : Det (gX (gq u)) MX2_release d b [(2, a), (0, n)] h (9, 0) (up2 (up2 h a 3 (h a 3 - n)) a 2 (h a 2 + n)) := by
  intro Q hQ
  show WP (gX (gq u)) MX2_release d b Q 0 [(2, a), (0, n)] [] h
  refine wp_aload_n rfl rfl dX2_release_0 ?_
  refine wp_dup (by decide) dX2_release_1 ?_
  refine wp_getfield1 (z := 3) (kI := 3) fX2_19 dX2_release_2 (by first | omega | (simp (disch := omega) only [up2_ne, up2_eq, hz]; first | done | omega)) (by first | assumption | (simp (disch := omega) only [up2_ne, up2_eq, hz]; first | done | rfl | omega)) rfl rfl ?_
  try simp (disch := omega) only [up2_ne, up2_eq, hz]
  refine wp_iload_n rfl rfl dX2_release_5 ?_
  refine wp_isub dX2_release_6 ?_
  refine wp_putfield1 (z := 3) (kI := 3) fX2_19 dX2_release_7 (by first | omega | (simp (disch := omega) only [up2_ne, up2_eq, hz]; first | done | omega)) (by first | assumption | (simp (disch := omega) only [up2_ne, up2_eq, hz]; first | done | rfl | omega)) rfl rfl ?_
  refine wp_aload_n rfl rfl dX2_release_10 ?_
  refine wp_dup (by decide) dX2_release_11 ?_
  refine wp_getfield1 (z := 3) (kI := 2) fX2_16 dX2_release_12 (by first | omega | (simp (disch := omega) only [up2_ne, up2_eq, hz]; first | done | omega)) (by first | assumption | (simp (disch := omega) only [up2_ne, up2_eq, hz]; first | done | rfl | omega)) rfl rfl ?_
  try simp (disch := omega) only [up2_ne, up2_eq, hz]
  refine wp_iload_n rfl rfl dX2_release_15 ?_
  refine wp_iadd dX2_release_16 ?_
  refine wp_putfield1 (z := 3) (kI := 2) fX2_16 dX2_release_17 (by first | omega | (simp (disch := omega) only [up2_ne, up2_eq, hz]; first | done | omega)) (by first | assumption | (simp (disch := omega) only [up2_ne, up2_eq, hz]; first | done | rfl | omega)) rfl rfl ?_
  refine wp_vret dX2_release_20 rfl ?_
  exact hQ
theorem s_X2_takeBack {u : gT} {h : mH} {d b : Nat} {a n : Int} (ha : 0 ≤ a) (hz : h a (-1) = 3) : Det (gX (gq u)) MX2_takeBack d b [(2, a), (0, n)] h (9, 0) (up2 (up2 h a 4 (h a 4 - n)) a 2 (h a 2 + n)) := by
  intro Q hQ
  show WP (gX (gq u)) MX2_takeBack d b Q 0 [(2, a), (0, n)] [] h
  refine wp_aload_n rfl rfl dX2_takeBack_0 ?_
  refine wp_dup (by decide) dX2_takeBack_1 ?_
  refine wp_getfield1 (z := 3) (kI := 4) fX2_22 dX2_takeBack_2 (by first | omega | (simp (disch := omega) only [up2_ne, up2_eq, hz]; first | done | omega)) (by first | assumption | (simp (disch := omega) only [up2_ne, up2_eq, hz]; first | done | rfl | omega)) rfl rfl ?_
  try simp (disch := omega) only [up2_ne, up2_eq, hz]
  refine wp_iload_n rfl rfl dX2_takeBack_5 ?_
  refine wp_isub dX2_takeBack_6 ?_
  refine wp_putfield1 (z := 3) (kI := 4) fX2_22 dX2_takeBack_7 (by first | omega | (simp (disch := omega) only [up2_ne, up2_eq, hz]; first | done | omega)) (by first | assumption | (simp (disch := omega) only [up2_ne, up2_eq, hz]; first | done | rfl | omega)) rfl rfl ?_
  refine wp_aload_n rfl rfl dX2_takeBack_10 ?_
  refine wp_dup (by decide) dX2_takeBack_11 ?_
  refine wp_getfield1 (z := 3) (kI := 2) fX2_16 dX2_takeBack_12 (by first | omega | (simp (disch := omega) only [up2_ne, up2_eq, hz]; first | done | omega)) (by first | assumption | (simp (disch := omega) only [up2_ne, up2_eq, hz]; first | done | rfl | omega)) rfl rfl ?_
  try simp (disch := omega) only [up2_ne, up2_eq, hz]
  refine wp_iload_n rfl rfl dX2_takeBack_15 ?_
  refine wp_iadd dX2_takeBack_16 ?_
  refine wp_putfield1 (z := 3) (kI := 2) fX2_16 dX2_takeBack_17 (by first | omega | (simp (disch := omega) only [up2_ne, up2_eq, hz]; first | done | omega)) (by first | assumption | (simp (disch := omega) only [up2_ne, up2_eq, hz]; first | done | rfl | omega)) rfl rfl ?_
  refine wp_vret dX2_takeBack_20 rfl ?_
  exact hQ
theorem s_X3_isOpen {u : gT} {h : mH} {d b : Nat} {a : Int} (ha : 0 ≤ a) (hz : h a (-1) = 4) (hp : InI (h a 7)) : Det (gX (gq u)) MX3_isOpen d b [(2, a)] h (0, bI (0 < h a 7)) h := by
  intro Q hQ
  show WP (gX (gq u)) MX3_isOpen d b Q 0 [(2, a)] [] h
  refine wp_aload_n rfl rfl dX3_isOpen_0 ?_
  refine wp_getfield1 (z := 4) (kI := 7) fX3_29 dX3_isOpen_1 (by first | omega | (simp (disch := omega) only [up2_ne, up2_eq, hz]; first | done | omega)) (by first | assumption | (simp (disch := omega) only [up2_ne, up2_eq, hz]; first | done | rfl | omega)) rfl rfl ?_
  try simp (disch := omega) only [up2_ne, up2_eq, hz]
  refine wp_if_le (tgt := 11) (by first | assumption | exact bI_in _ | exact ⟨by omega, by omega⟩ | exact iAnd_in | exact iOr_in | exact iShr_in | exact iShl_in | exact iXor_in | exact hxs _) dX3_isOpen_4 (by decide) (fun c1 => ?_) (fun c1 => ?_)
  · refine wp_iconst dX3_isOpen_11 ?_
    refine wp_zret (by first | exact Or.inl rfl | exact Or.inr rfl | omega) dX3_isOpen_12 rfl ?_
    first | exact QB_t hQ (by omega) | exact QB_f hQ (by omega)
  · refine wp_iconst dX3_isOpen_7 ?_
    refine wp_goto (tgt := 12) dX3_isOpen_8 (by decide) ?_
    refine wp_zret (by first | exact Or.inl rfl | exact Or.inr rfl | omega) dX3_isOpen_12 rfl ?_
    first | exact QB_t hQ (by omega) | exact QB_f hQ (by omega)
def npart (h : mH) (a : Int) : Int := if h a 3 - 1 ≤ h a 6 then h a 7 else h a 2
theorem s_X3_nextPart {u : gT} {h : mH} {d b : Nat} {a : Int} (ha : 0 ≤ a) (hz : h a (-1) = 4) (h3 : 0 ≤ h a 3) (h3b : h a 3 ≤ 100) (h6 : InI (h a 6)) : Det (gX (gq u)) MX3_nextPart d b [(2, a)] h (0, npart h a) h := by
  intro Q hQ
  unfold npart at hQ
  show WP (gX (gq u)) MX3_nextPart d b Q 0 [(2, a)] [] h
  refine wp_aload_n rfl rfl dX3_nextPart_0 ?_
  refine wp_getfield1 (z := 4) (kI := 6) fX3_32 dX3_nextPart_1 (by first | omega | (simp (disch := omega) only [up2_ne, up2_eq, hz]; first | done | omega)) (by first | assumption | (simp (disch := omega) only [up2_ne, up2_eq, hz]; first | done | rfl | omega)) rfl rfl ?_
  try simp (disch := omega) only [up2_ne, up2_eq, hz]
  refine wp_aload_n rfl rfl dX3_nextPart_4 ?_
  refine wp_getfield1 (z := 4) (kI := 3) fX3_20 dX3_nextPart_5 (by first | omega | (simp (disch := omega) only [up2_ne, up2_eq, hz]; first | done | omega)) (by first | assumption | (simp (disch := omega) only [up2_ne, up2_eq, hz]; first | done | rfl | omega)) rfl rfl ?_
  try simp (disch := omega) only [up2_ne, up2_eq, hz]
  refine wp_iconst dX3_nextPart_8 ?_
  refine wp_isub dX3_nextPart_9 ?_
  refine wp_icmp_lt (tgt := 20) (by first | assumption | exact bI_in _ | exact ⟨by omega, by omega⟩ | exact iAnd_in | exact iOr_in | exact iShr_in | exact iShl_in | exact iXor_in | exact hxs _) (by first | assumption | exact bI_in _ | exact ⟨by omega, by omega⟩ | exact iAnd_in | exact iOr_in | exact iShr_in | exact iShl_in | exact iXor_in | exact hxs _) dX3_nextPart_10 (by decide) (fun c1 => ?_) (fun c1 => ?_)
  · refine wp_aload_n rfl rfl dX3_nextPart_20 ?_
    refine wp_getfield1 (z := 4) (kI := 2) fX3_17 dX3_nextPart_21 (by first | omega | (simp (disch := omega) only [up2_ne, up2_eq, hz]; first | done | omega)) (by first | assumption | (simp (disch := omega) only [up2_ne, up2_eq, hz]; first | done | rfl | omega)) rfl rfl ?_
    try simp (disch := omega) only [up2_ne, up2_eq, hz]
    refine wp_iret dX3_nextPart_24 rfl ?_
    first | exact QI_t hQ (by first | assumption | omega) | exact QI_f hQ (by first | assumption | omega)
  · refine wp_aload_n rfl rfl dX3_nextPart_13 ?_
    refine wp_getfield1 (z := 4) (kI := 7) fX3_29 dX3_nextPart_14 (by first | omega | (simp (disch := omega) only [up2_ne, up2_eq, hz]; first | done | omega)) (by first | assumption | (simp (disch := omega) only [up2_ne, up2_eq, hz]; first | done | rfl | omega)) rfl rfl ?_
    try simp (disch := omega) only [up2_ne, up2_eq, hz]
    refine wp_goto (tgt := 24) dX3_nextPart_17 (by decide) ?_
    refine wp_iret dX3_nextPart_24 rfl ?_
    first | exact QI_t hQ (by first | assumption | omega) | exact QI_f hQ (by first | assumption | omega)
theorem s_X3_nextDue {u : gT} {h : mH} {d b : Nat} {a : Int} (ha : 0 ≤ a) (hz : h a (-1) = 4) : Det (gX (gq u)) MX3_nextDue d b [(2, a)] h (0, h a 5 + h a 6 * h a 4) h := by
  intro Q hQ
  show WP (gX (gq u)) MX3_nextDue d b Q 0 [(2, a)] [] h
  refine wp_aload_n rfl rfl dX3_nextDue_0 ?_
  refine wp_getfield1 (z := 4) (kI := 5) fX3_26 dX3_nextDue_1 (by first | omega | (simp (disch := omega) only [up2_ne, up2_eq, hz]; first | done | omega)) (by first | assumption | (simp (disch := omega) only [up2_ne, up2_eq, hz]; first | done | rfl | omega)) rfl rfl ?_
  try simp (disch := omega) only [up2_ne, up2_eq, hz]
  refine wp_aload_n rfl rfl dX3_nextDue_4 ?_
  refine wp_getfield1 (z := 4) (kI := 6) fX3_32 dX3_nextDue_5 (by first | omega | (simp (disch := omega) only [up2_ne, up2_eq, hz]; first | done | omega)) (by first | assumption | (simp (disch := omega) only [up2_ne, up2_eq, hz]; first | done | rfl | omega)) rfl rfl ?_
  try simp (disch := omega) only [up2_ne, up2_eq, hz]
  refine wp_aload_n rfl rfl dX3_nextDue_8 ?_
  refine wp_getfield1 (z := 4) (kI := 4) fX3_23 dX3_nextDue_9 (by first | omega | (simp (disch := omega) only [up2_ne, up2_eq, hz]; first | done | omega)) (by first | assumption | (simp (disch := omega) only [up2_ne, up2_eq, hz]; first | done | rfl | omega)) rfl rfl ?_
  try simp (disch := omega) only [up2_ne, up2_eq, hz]
  refine wp_imul dX3_nextDue_12 ?_
  refine wp_iadd dX3_nextDue_13 ?_
  refine wp_iret dX3_nextDue_14 rfl ?_
  exact hQ
theorem s_X3_release {u : gT} {h : mH} {d b : Nat} {a : Int} (ha : 0 ≤ a) (hz : h a (-1) = 4) {f : Int} (hf : h a 0 = f) (hf0 : 0 ≤ f) (hfz : h f (-1) = 3) (hne : f ≠ a) : Det (gX (gq u)) MX3_release (d + 1) b [(2, a)] h (0, h a 7) (up2 (up2 (up2 h f 3 (h f 3 - h a 7)) f 2 (h f 2 + h a 7)) a 7 0) := by
  intro Q hQ
  show WP (gX (gq u)) MX3_release (d + 1) b Q 0 [(2, a), (9, 0)] [] h
  refine wp_aload_n rfl rfl dX3_release_0 ?_
  refine wp_getfield1 (z := 4) (kI := 7) fX3_29 dX3_release_1 (by first | omega | (simp (disch := omega) only [up2_ne, up2_eq, hz, hf, hfz]; first | done | omega)) (by first | assumption | (simp (disch := omega) only [up2_ne, up2_eq, hz, hf, hfz]; first | done | rfl | omega)) rfl rfl ?_
  try simp (disch := omega) only [up2_ne, up2_eq, hz, hf, hfz]
  refine wp_istore_n rfl dX3_release_4 rfl (Nat.le_of_ble_eq_true rfl) rfl ?_
  try simp only [List.set_cons_zero, List.set_cons_succ]
  refine wp_aload_n rfl rfl dX3_release_5 ?_
  refine wp_getfield1 (z := 4) (kI := 0) fX3_7 dX3_release_6 (by first | omega | (simp (disch := omega) only [up2_ne, up2_eq, hz, hf, hfz]; first | done | omega)) (by first | assumption | (simp (disch := omega) only [up2_ne, up2_eq, hz, hf, hfz]; first | done | rfl | omega)) rfl rfl ?_
  try simp (disch := omega) only [up2_ne, up2_eq, hz, hf, hfz]
  refine wp_iload_n rfl rfl dX3_release_9 ?_
  refine wp_cV1v (ci := 2) okX2_release rfl rfl wX3_48 dX3_release_10 (Nat.le_of_ble_eq_true rfl) (Nat.le_of_ble_eq_true rfl) (by first | omega | (simp (disch := omega) only [up2_ne, up2_eq, hz, hf, hfz]; first | done | omega)) (by first | assumption | (simp (disch := omega) only [up2_ne, up2_eq, hz, hf, hfz]; first | done | rfl | omega)) (s_X2_release hf0 hfz) (Nat.zero_le _) ?_
  try simp (disch := omega) only [up2_ne, up2_eq, hz, hf, hfz]
  refine wp_aload_n rfl rfl dX3_release_13 ?_
  refine wp_iconst dX3_release_14 ?_
  refine wp_putfield1 (z := 4) (kI := 7) fX3_29 dX3_release_15 (by first | omega | (simp (disch := omega) only [up2_ne, up2_eq, hz, hf, hfz]; first | done | omega)) (by first | assumption | (simp (disch := omega) only [up2_ne, up2_eq, hz, hf, hfz]; first | done | rfl | omega)) rfl rfl ?_
  refine wp_iload_n rfl rfl dX3_release_18 ?_
  refine wp_iret dX3_release_19 rfl ?_
  exact hQ
theorem s_X3_takeBack {u : gT} {h : mH} {d b : Nat} {a : Int} (ha : 0 ≤ a) (hz : h a (-1) = 4) {f n : Int} (hf : h a 0 = f) (hf0 : 0 ≤ f) (hfz : h f (-1) = 3) (hne : f ≠ a) : Det (gX (gq u)) MX3_takeBack (d + 1) b [(2, a), (0, n)] h (9, 0) (up2 (up2 (up2 h f 4 (h f 4 - n)) f 2 (h f 2 + n)) a 8 (h a 8 - n)) := by
  intro Q hQ
  show WP (gX (gq u)) MX3_takeBack (d + 1) b Q 0 [(2, a), (0, n)] [] h
  refine wp_aload_n rfl rfl dX3_takeBack_0 ?_
  refine wp_getfield1 (z := 4) (kI := 0) fX3_7 dX3_takeBack_1 (by first | omega | (simp (disch := omega) only [up2_ne, up2_eq, hz, hf, hfz]; first | done | omega)) (by first | assumption | (simp (disch := omega) only [up2_ne, up2_eq, hz, hf, hfz]; first | done | rfl | omega)) rfl rfl ?_
  try simp (disch := omega) only [up2_ne, up2_eq, hz, hf, hfz]
  refine wp_iload_n rfl rfl dX3_takeBack_4 ?_
  refine wp_cV1v (ci := 2) okX2_takeBack rfl rfl wX3_52 dX3_takeBack_5 (Nat.le_of_ble_eq_true rfl) (Nat.le_of_ble_eq_true rfl) (by first | omega | (simp (disch := omega) only [up2_ne, up2_eq, hz, hf, hfz]; first | done | omega)) (by first | assumption | (simp (disch := omega) only [up2_ne, up2_eq, hz, hf, hfz]; first | done | rfl | omega)) (s_X2_takeBack hf0 hfz) (Nat.zero_le _) ?_
  try simp (disch := omega) only [up2_ne, up2_eq, hz, hf, hfz]
  refine wp_aload_n rfl rfl dX3_takeBack_8 ?_
  refine wp_dup (by decide) dX3_takeBack_9 ?_
  refine wp_getfield1 (z := 4) (kI := 8) fX3_45 dX3_takeBack_10 (by first | omega | (simp (disch := omega) only [up2_ne, up2_eq, hz, hf, hfz]; first | done | omega)) (by first | assumption | (simp (disch := omega) only [up2_ne, up2_eq, hz, hf, hfz]; first | done | rfl | omega)) rfl rfl ?_
  try simp (disch := omega) only [up2_ne, up2_eq, hz, hf, hfz]
  refine wp_iload_n rfl rfl dX3_takeBack_13 ?_
  refine wp_isub dX3_takeBack_14 ?_
  refine wp_putfield1 (z := 4) (kI := 8) fX3_45 dX3_takeBack_15 (by first | omega | (simp (disch := omega) only [up2_ne, up2_eq, hz, hf, hfz]; first | done | omega)) (by first | assumption | (simp (disch := omega) only [up2_ne, up2_eq, hz, hf, hfz]; first | done | rfl | omega)) rfl rfl ?_
  refine wp_vret dX3_takeBack_18 rfl ?_
  exact hQ
theorem s_X3_payNextPart {u : gT} {h : mH} {d b : Nat} {a : Int} (ha : 0 ≤ a) (hz : h a (-1) = 4) {f l : Int} (hf : h a 0 = f) (hf0 : 0 ≤ f) (hfz : h f (-1) = 3) (hne : f ≠ a) (h3 : 0 ≤ h a 3) (h3b : h a 3 ≤ 100) (h6 : InI (h a 6)) : Det (gX (gq u)) MX3_payNextPart (d + 1) b [(2, a), (0, l)] h (9, 0) (up2 (up2 (up2 (up2 (up2 (up2 h f 3 (h f 3 - npart h a)) f 4 (h f 4 + (npart h a - l))) f 2 (h f 2 + l)) a 7 (h a 7 - npart h a)) a 8 (h a 8 + (npart h a - l))) a 6 (h a 6 + 1)) := by
  intro Q hQ
  show WP (gX (gq u)) MX3_payNextPart (d + 1) b Q 0 [(2, a), (0, l), (9, 0)] [] h
  refine wp_aload_n rfl rfl dX3_payNextPart_0 ?_
  refine wp_cV0 (ci := 3) okX3_nextPart rfl rfl wX3_35 dX3_payNextPart_1 rfl (Nat.le_of_ble_eq_true rfl) (Nat.le_of_ble_eq_true rfl) (by first | omega | (simp (disch := omega) only [up2_ne, up2_eq, hz, hf, hfz]; first | done | omega)) (by first | assumption | (simp (disch := omega) only [up2_ne, up2_eq, hz, hf, hfz]; first | done | rfl | omega)) (s_X3_nextPart ha hz h3 h3b h6) (Nat.zero_le _) ?_
  try simp (disch := omega) only [up2_ne, up2_eq, hz, hf, hfz]
  refine wp_istore_n rfl dX3_payNextPart_4 rfl (Nat.le_of_ble_eq_true rfl) rfl ?_
  try simp only [List.set_cons_zero, List.set_cons_succ]
  refine wp_aload_n rfl rfl dX3_payNextPart_5 ?_
  refine wp_getfield1 (z := 4) (kI := 0) fX3_7 dX3_payNextPart_6 (by first | omega | (simp (disch := omega) only [up2_ne, up2_eq, hz, hf, hfz]; first | done | omega)) (by first | assumption | (simp (disch := omega) only [up2_ne, up2_eq, hz, hf, hfz]; first | done | rfl | omega)) rfl rfl ?_
  try simp (disch := omega) only [up2_ne, up2_eq, hz, hf, hfz]
  refine wp_iload_n rfl rfl dX3_payNextPart_9 ?_
  refine wp_iload_n rfl rfl dX3_payNextPart_10 ?_
  refine wp_cV2v (ci := 2) okX2_pay rfl rfl wX3_39 dX3_payNextPart_11 (Nat.le_of_ble_eq_true rfl) (Nat.le_of_ble_eq_true rfl) (by first | omega | (simp (disch := omega) only [up2_ne, up2_eq, hz, hf, hfz]; first | done | omega)) (by first | assumption | (simp (disch := omega) only [up2_ne, up2_eq, hz, hf, hfz]; first | done | rfl | omega)) (s_X2_pay hf0 hfz) (Nat.zero_le _) ?_
  try simp (disch := omega) only [up2_ne, up2_eq, hz, hf, hfz]
  refine wp_aload_n rfl rfl dX3_payNextPart_14 ?_
  refine wp_dup (by decide) dX3_payNextPart_15 ?_
  refine wp_getfield1 (z := 4) (kI := 7) fX3_29 dX3_payNextPart_16 (by first | omega | (simp (disch := omega) only [up2_ne, up2_eq, hz, hf, hfz]; first | done | omega)) (by first | assumption | (simp (disch := omega) only [up2_ne, up2_eq, hz, hf, hfz]; first | done | rfl | omega)) rfl rfl ?_
  try simp (disch := omega) only [up2_ne, up2_eq, hz, hf, hfz]
  refine wp_iload_n rfl rfl dX3_payNextPart_19 ?_
  refine wp_isub dX3_payNextPart_20 ?_
  refine wp_putfield1 (z := 4) (kI := 7) fX3_29 dX3_payNextPart_21 (by first | omega | (simp (disch := omega) only [up2_ne, up2_eq, hz, hf, hfz]; first | done | omega)) (by first | assumption | (simp (disch := omega) only [up2_ne, up2_eq, hz, hf, hfz]; first | done | rfl | omega)) rfl rfl ?_
  refine wp_aload_n rfl rfl dX3_payNextPart_24 ?_
  refine wp_dup (by decide) dX3_payNextPart_25 ?_
  refine wp_getfield1 (z := 4) (kI := 8) fX3_45 dX3_payNextPart_26 (by first | omega | (simp (disch := omega) only [up2_ne, up2_eq, hz, hf, hfz]; first | done | omega)) (by first | assumption | (simp (disch := omega) only [up2_ne, up2_eq, hz, hf, hfz]; first | done | rfl | omega)) rfl rfl ?_
  try simp (disch := omega) only [up2_ne, up2_eq, hz, hf, hfz]
  refine wp_iload_n rfl rfl dX3_payNextPart_29 ?_
  refine wp_iload_n rfl rfl dX3_payNextPart_30 ?_
  refine wp_isub dX3_payNextPart_31 ?_
  refine wp_iadd dX3_payNextPart_32 ?_
  refine wp_putfield1 (z := 4) (kI := 8) fX3_45 dX3_payNextPart_33 (by first | omega | (simp (disch := omega) only [up2_ne, up2_eq, hz, hf, hfz]; first | done | omega)) (by first | assumption | (simp (disch := omega) only [up2_ne, up2_eq, hz, hf, hfz]; first | done | rfl | omega)) rfl rfl ?_
  refine wp_aload_n rfl rfl dX3_payNextPart_36 ?_
  refine wp_dup (by decide) dX3_payNextPart_37 ?_
  refine wp_getfield1 (z := 4) (kI := 6) fX3_32 dX3_payNextPart_38 (by first | omega | (simp (disch := omega) only [up2_ne, up2_eq, hz, hf, hfz]; first | done | omega)) (by first | assumption | (simp (disch := omega) only [up2_ne, up2_eq, hz, hf, hfz]; first | done | rfl | omega)) rfl rfl ?_
  try simp (disch := omega) only [up2_ne, up2_eq, hz, hf, hfz]
  refine wp_iconst dX3_payNextPart_41 ?_
  refine wp_iadd dX3_payNextPart_42 ?_
  refine wp_putfield1 (z := 4) (kI := 6) fX3_32 dX3_payNextPart_43 (by first | omega | (simp (disch := omega) only [up2_ne, up2_eq, hz, hf, hfz]; first | done | omega)) (by first | assumption | (simp (disch := omega) only [up2_ne, up2_eq, hz, hf, hfz]; first | done | rfl | omega)) rfl rfl ?_
  refine wp_vret dX3_payNextPart_46 rfl ?_
  exact hQ
def ahead (h : mH) (a o t : Int) : Prop := if (bt (h a 1) t ≠ 0) ↔ (bt (h o 1) t ≠ 0) then h a 4 < h o 4 else bt (h a 1) t ≠ 0
