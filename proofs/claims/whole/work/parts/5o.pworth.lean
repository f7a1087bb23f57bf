/-! ===== worth: whole, worth of both, the pair ===== -/
abbrev Kr (h g : mH) : Prop := ∀ x k : Int, ¬ (x = 200 ∧ (k = 48 ∨ k = 49)) → g x k = h x k
def wV (m : mH) (a what : Int) : Int := if (0 ≤ what ∧ what ≤ 1) ∧ 0 < wL m a then (if what = 0 then wU m a else wL m a) else -4611686018427387904
theorem Kr.rfl {h : mH} : Kr h h := fun _ _ _ => Eq.refl _
theorem Kr.fr {h : mH} {x y : Int} : Kr h (up2 (up2 h 200 48 x) 200 49 y) := fun s t q => by rw [up2_ne (by omega), up2_ne (by omega)]
theorem Kr.cr {h g m : mH} (k : Kr h g) (e : Cr h m) : Cr g m := fun x y q => by rw [k x y (by omega)]; exact e x y q
theorem s_X12_whole {u : gT} {j : Nat} {h m : mH} {d b : Nat} (H : Inv j m) (e : Cr h m) (hS : St h) {a : Int} (a0 : 0 ≤ a) (a1 : a < m 200 10) : Rlt (gX (gq u)) MX12_whole (d + 5) b [(2, 200), (0, a)] h (fun x h1 => x = (0, wC m a) ∧ St h1 ∧ Kr h h1) := by
  refine Rlt.of ?_
  have hn := H.ns
  have hb := wUL_b H a0 a1
  show WP (gX (gq u)) MX12_whole (d + 5) b _ 0 [(2, 200), (0, a)] [] h
  refine wp_aload_n rfl rfl dX12_whole_0 ?_
  refine wp_iload_n rfl rfl dX12_whole_1 ?_
  refine wp_cV1r (ci := 12) okX12_hasWorth rfl rfl wX12_327 dX12_whole_2 (Nat.le_of_ble_eq_true rfl) (Nat.le_of_ble_eq_true rfl) (by first | omega | (simp (disch := omega) only [up2_ne, up2_eq, e, st_200_m1 hS, st_200_m1 hS.fr, st_200_m1 H.1]; first | done | omega)) (by first | assumption | (simp (disch := omega) only [up2_ne, up2_eq, e, st_200_m1 hS, st_200_m1 hS.fr, st_200_m1 H.1]; first | done | rfl | omega)) (s_X12_hasWorth H e hS a0 a1) (Nat.zero_le _) ?_
  rintro x g (⟨z1, rfl, rfl⟩ | ⟨z1, z2, rfl, rfl⟩) -
  · show WP _ _ _ _ _ _ _ ((0, 0) :: _) _
    refine wp_if_eq (tgt := 21) (by first | assumption | exact bI_in _ | exact ⟨by omega, by omega⟩ | exact iAnd_in | exact iOr_in | exact iShr_in | exact iShl_in | exact iXor_in | exact hxs _) dX12_whole_5 (by decide) (fun hx => ?_) (fun hx => absurd hx (by decide))
    refine wp_iconst dX12_whole_21 ?_
    refine wp_iret dX12_whole_22 rfl ?_
    first
      | (refine ⟨?_, hS, Kr.rfl⟩
         congr 1
         unfold wC
         rw [wL_0 z1, if_neg (by decide)])
      | (refine ⟨?_, hS.fr, Kr.fr⟩
         congr 1
         unfold wC
         rw [if_pos z2])
      | (exfalso; omega)
  · show WP _ _ _ _ _ _ _ ((0, 1) :: _) _
    refine wp_if_eq (tgt := 21) (by first | assumption | exact bI_in _ | exact ⟨by omega, by omega⟩ | exact iAnd_in | exact iOr_in | exact iShr_in | exact iShl_in | exact iXor_in | exact hxs _) dX12_whole_5 (by decide) (fun hx => absurd hx (by decide)) (fun hx => ?_)
    refine wp_aload_n rfl rfl dX12_whole_8 ?_
    refine wp_getfield1 (z := 13) (kI := 48) fX12_309 dX12_whole_9 (by first | omega | (simp (disch := omega) only [up2_ne, up2_eq, e, st_200_m1 hS, st_200_m1 hS.fr, st_200_m1 H.1]; first | done | omega)) (by first | assumption | (simp (disch := omega) only [up2_ne, up2_eq, e, st_200_m1 hS, st_200_m1 hS.fr, st_200_m1 H.1]; first | done | rfl | omega)) rfl rfl ?_
    try simp (disch := omega) only [up2_ne, up2_eq, e, st_200_m1 hS, st_200_m1 hS.fr, st_200_m1 H.1]
    refine wp_aload_n rfl rfl dX12_whole_12 ?_
    refine wp_getfield1 (z := 13) (kI := 49) fX12_313 dX12_whole_13 (by first | omega | (simp (disch := omega) only [up2_ne, up2_eq, e, st_200_m1 hS, st_200_m1 hS.fr, st_200_m1 H.1]; first | done | omega)) (by first | assumption | (simp (disch := omega) only [up2_ne, up2_eq, e, st_200_m1 hS, st_200_m1 hS.fr, st_200_m1 H.1]; first | done | rfl | omega)) rfl rfl ?_
    try simp (disch := omega) only [up2_ne, up2_eq, e, st_200_m1 hS, st_200_m1 hS.fr, st_200_m1 H.1]
    refine wp_ldiv (by first | assumption | exact ⟨by omega, by omega⟩) (by first | assumption | exact ⟨by omega, by omega⟩) (by omega) dX12_whole_16 ?_
    try simp (disch := omega) only [up2_ne, up2_eq, e, st_200_m1 hS, st_200_m1 hS.fr, st_200_m1 H.1]
    refine wp_l2i dX12_whole_17 ?_
    refine wp_goto (tgt := 22) dX12_whole_18 (by decide) ?_
    refine wp_iret dX12_whole_22 rfl ?_
    first
      | (refine ⟨?_, hS, Kr.rfl⟩
         congr 1
         unfold wC
         rw [wL_0 z1, if_neg (by decide)])
      | (refine ⟨?_, hS.fr, Kr.fr⟩
         congr 1
         unfold wC
         rw [if_pos z2])
      | (exfalso; omega)
theorem s_X12_worth {u : gT} {j : Nat} {h m : mH} {d b : Nat} (H : Inv j m) (e : Cr h m) (hS : St h) {a what : Int} (ia : InI a) (iw : InI what) : Rlt (gX (gq u)) MX12_worth (d + 5) b [(2, 200), (0, a), (0, what)] h (fun x h1 => x = (1, if (0 ≤ a ∧ a < m 200 10) then wV m a what else -4611686018427387904) ∧ St h1 ∧ Kr h h1) := by
  refine Rlt.of ?_
  have hn := H.ns
  show WP (gX (gq u)) MX12_worth (d + 5) b _ 0 [(2, 200), (0, a), (0, what)] [] h
  refine wp_aload_n rfl rfl dX12_worth_0 ?_
  refine wp_iload_n rfl rfl dX12_worth_1 ?_
  refine wp_cV1 (ci := 12) okX12_isAsking rfl rfl wX12_126 dX12_worth_2 rfl (Nat.le_of_ble_eq_true rfl) (Nat.le_of_ble_eq_true rfl) (by first | omega | (simp (disch := omega) only [up2_ne, up2_eq, e, st_200_m1 hS, st_200_m1 hS.fr, st_200_m1 H.1]; first | done | omega)) (by first | assumption | (simp (disch := omega) only [up2_ne, up2_eq, e, st_200_m1 hS, st_200_m1 hS.fr, st_200_m1 H.1]; first | done | rfl | omega)) (risAsking H e hS (by assumption)) (Nat.zero_le _) ?_
  try simp (disch := omega) only [up2_ne, up2_eq, e, st_200_m1 hS, st_200_m1 hS.fr, st_200_m1 H.1]
  refine wp_ifB_eq (tgt := 26) dX12_worth_5 (by decide) (fun c1 => ?_) (fun c1 => ?_)
  · refine wp_ldc2 kX12_286 dX12_worth_26 ?_
    refine wp_lret dX12_worth_29 rfl ?_
    first
      | (refine ⟨?_, hS, Kr.rfl⟩
         congr 1
         rw [if_neg (by omega)])
      | (refine ⟨?_, hS, Kr.rfl⟩
         congr 1
         unfold wV
         rw [if_pos (by omega), if_neg (by omega)])
      | (refine ⟨?_, hS, Kr.rfl⟩
         congr 1
         unfold wV
         rw [if_pos (by omega), wL_0 z1, if_neg (by omega)])
      | (refine ⟨?_, hS.fr, Kr.fr⟩
         congr 1
         unfold wV
         rw [if_pos (by omega), if_pos (by omega), if_pos (by omega)])
      | (refine ⟨?_, hS.fr, Kr.fr⟩
         congr 1
         unfold wV
         rw [if_pos (by omega), if_pos (by omega), if_neg (by omega)])
      | (exfalso; omega)
  · refine wp_iload_n rfl rfl dX12_worth_8 ?_
    refine wp_i2l (by first | assumption | exact bI_in _ | exact ⟨by omega, by omega⟩ | exact iAnd_in | exact iOr_in | exact iShr_in | exact iShl_in | exact iXor_in | exact hxs _) dX12_worth_9 ?_
    refine wp_lconst (v := 0) rfl dX12_worth_10 ?_
    refine wp_lconst (v := 1) rfl dX12_worth_11 ?_
    refine wp_cS3 okX12_isIn wX12_15 dX12_worth_12 rfl (Nat.le_of_ble_eq_true rfl) (Nat.le_of_ble_eq_true rfl) (s_X12_isIn (by exact ⟨by have := iw.1; omega, by have := iw.2; omega⟩) (by exact ⟨by decide, by decide⟩) (by exact ⟨by decide, by decide⟩)) (Nat.zero_le _) ?_
    try simp (disch := omega) only [up2_ne, up2_eq, e, st_200_m1 hS, st_200_m1 hS.fr, st_200_m1 H.1]
    refine wp_ifB_eq (tgt := 26) dX12_worth_15 (by decide) (fun c2 => ?_) (fun c2 => ?_)
    · refine wp_ldc2 kX12_286 dX12_worth_26 ?_
      refine wp_lret dX12_worth_29 rfl ?_
      first
        | (refine ⟨?_, hS, Kr.rfl⟩
           congr 1
           rw [if_neg (by omega)])
        | (refine ⟨?_, hS, Kr.rfl⟩
           congr 1
           unfold wV
           rw [if_pos (by omega), if_neg (by omega)])
        | (refine ⟨?_, hS, Kr.rfl⟩
           congr 1
           unfold wV
           rw [if_pos (by omega), wL_0 z1, if_neg (by omega)])
        | (refine ⟨?_, hS.fr, Kr.fr⟩
           congr 1
           unfold wV
           rw [if_pos (by omega), if_pos (by omega), if_pos (by omega)])
        | (refine ⟨?_, hS.fr, Kr.fr⟩
           congr 1
           unfold wV
           rw [if_pos (by omega), if_pos (by omega), if_neg (by omega)])
        | (exfalso; omega)
    · refine wp_aload_n rfl rfl dX12_worth_18 ?_
      refine wp_iload_n rfl rfl dX12_worth_19 ?_
      refine wp_cV1r (ci := 12) okX12_hasWorth rfl rfl wX12_327 dX12_worth_20 (Nat.le_of_ble_eq_true rfl) (Nat.le_of_ble_eq_true rfl) (by first | omega | (simp (disch := omega) only [up2_ne, up2_eq, e, st_200_m1 hS, st_200_m1 hS.fr, st_200_m1 H.1]; first | done | omega)) (by first | assumption | (simp (disch := omega) only [up2_ne, up2_eq, e, st_200_m1 hS, st_200_m1 hS.fr, st_200_m1 H.1]; first | done | rfl | omega)) (s_X12_hasWorth H e hS (by omega) (by omega)) (Nat.zero_le _) ?_
      rintro x g (⟨z1, rfl, rfl⟩ | ⟨z1, z2, rfl, rfl⟩) -
      · show WP _ _ _ _ _ _ _ ((0, 0) :: _) _
        refine wp_if_ne (tgt := 30) (by first | assumption | exact bI_in _ | exact ⟨by omega, by omega⟩ | exact iAnd_in | exact iOr_in | exact iShr_in | exact iShl_in | exact iXor_in | exact hxs _) dX12_worth_23 (by decide) (fun hx => absurd hx (by decide)) (fun hx => ?_)
        refine wp_ldc2 kX12_286 dX12_worth_26 ?_
        refine wp_lret dX12_worth_29 rfl ?_
        first
          | (refine ⟨?_, hS, Kr.rfl⟩
             congr 1
             rw [if_neg (by omega)])
          | (refine ⟨?_, hS, Kr.rfl⟩
             congr 1
             unfold wV
             rw [if_pos (by omega), if_neg (by omega)])
          | (refine ⟨?_, hS, Kr.rfl⟩
             congr 1
             unfold wV
             rw [if_pos (by omega), wL_0 z1, if_neg (by omega)])
          | (refine ⟨?_, hS.fr, Kr.fr⟩
             congr 1
             unfold wV
             rw [if_pos (by omega), if_pos (by omega), if_pos (by omega)])
          | (refine ⟨?_, hS.fr, Kr.fr⟩
             congr 1
             unfold wV
             rw [if_pos (by omega), if_pos (by omega), if_neg (by omega)])
          | (exfalso; omega)
      · show WP _ _ _ _ _ _ _ ((0, 1) :: _) _
        refine wp_if_ne (tgt := 30) (by first | assumption | exact bI_in _ | exact ⟨by omega, by omega⟩ | exact iAnd_in | exact iOr_in | exact iShr_in | exact iShl_in | exact iXor_in | exact hxs _) dX12_worth_23 (by decide) (fun hx => ?_) (fun hx => absurd hx (by decide))
        refine wp_iload_n rfl rfl dX12_worth_30 ?_
        refine wp_if_ne (tgt := 41) (by first | assumption | exact bI_in _ | exact ⟨by omega, by omega⟩ | exact iAnd_in | exact iOr_in | exact iShr_in | exact iShl_in | exact iXor_in | exact hxs _) dX12_worth_31 (by decide) (fun c3 => ?_) (fun c3 => ?_)
        · refine wp_aload_n rfl rfl dX12_worth_41 ?_
          refine wp_getfield1 (z := 13) (kI := 49) fX12_313 dX12_worth_42 (by first | omega | (simp (disch := omega) only [up2_ne, up2_eq, e, st_200_m1 hS, st_200_m1 hS.fr, st_200_m1 H.1]; first | done | omega)) (by first | assumption | (simp (disch := omega) only [up2_ne, up2_eq, e, st_200_m1 hS, st_200_m1 hS.fr, st_200_m1 H.1]; first | done | rfl | omega)) rfl rfl ?_
          try simp (disch := omega) only [up2_ne, up2_eq, e, st_200_m1 hS, st_200_m1 hS.fr, st_200_m1 H.1]
          refine wp_lret dX12_worth_45 rfl ?_
          first
            | (refine ⟨?_, hS, Kr.rfl⟩
               congr 1
               rw [if_neg (by omega)])
            | (refine ⟨?_, hS, Kr.rfl⟩
               congr 1
               unfold wV
               rw [if_pos (by omega), if_neg (by omega)])
            | (refine ⟨?_, hS, Kr.rfl⟩
               congr 1
               unfold wV
               rw [if_pos (by omega), wL_0 z1, if_neg (by omega)])
            | (refine ⟨?_, hS.fr, Kr.fr⟩
               congr 1
               unfold wV
               rw [if_pos (by omega), if_pos (by omega), if_pos (by omega)])
            | (refine ⟨?_, hS.fr, Kr.fr⟩
               congr 1
               unfold wV
               rw [if_pos (by omega), if_pos (by omega), if_neg (by omega)])
            | (exfalso; omega)
        · refine wp_aload_n rfl rfl dX12_worth_34 ?_
          refine wp_getfield1 (z := 13) (kI := 48) fX12_309 dX12_worth_35 (by first | omega | (simp (disch := omega) only [up2_ne, up2_eq, e, st_200_m1 hS, st_200_m1 hS.fr, st_200_m1 H.1]; first | done | omega)) (by first | assumption | (simp (disch := omega) only [up2_ne, up2_eq, e, st_200_m1 hS, st_200_m1 hS.fr, st_200_m1 H.1]; first | done | rfl | omega)) rfl rfl ?_
          try simp (disch := omega) only [up2_ne, up2_eq, e, st_200_m1 hS, st_200_m1 hS.fr, st_200_m1 H.1]
          refine wp_goto (tgt := 45) dX12_worth_38 (by decide) ?_
          refine wp_lret dX12_worth_45 rfl ?_
          first
            | (refine ⟨?_, hS, Kr.rfl⟩
               congr 1
               rw [if_neg (by omega)])
            | (refine ⟨?_, hS, Kr.rfl⟩
               congr 1
               unfold wV
               rw [if_pos (by omega), if_neg (by omega)])
            | (refine ⟨?_, hS, Kr.rfl⟩
               congr 1
               unfold wV
               rw [if_pos (by omega), wL_0 z1, if_neg (by omega)])
            | (refine ⟨?_, hS.fr, Kr.fr⟩
               congr 1
               unfold wV
               rw [if_pos (by omega), if_pos (by omega), if_pos (by omega)])
            | (refine ⟨?_, hS.fr, Kr.fr⟩
               congr 1
               unfold wV
               rw [if_pos (by omega), if_pos (by omega), if_neg (by omega)])
            | (exfalso; omega)
theorem worth_t {u : gT} {j : Nat} {h m : mH} {d b : Nat} (H : Inv j m) (e : Cl h m) (hS : St h) {a : Int} (a0 : 0 ≤ a) (a1 : a < m 200 10) {what : Int} (iw : InI what) : Rlt (gX (gq u)) MX11_worth (d + 5) b [(2, 1), (0, a), (0, what)] h (fun x h1 => x = (1, wV m a what) ∧ St h1 ∧ Kw h h1) := by
  refine Rlt.of ?_
  have hn := H.ns
  have e12 := H.n12
  have e13 := H.n13
  have e11 := H.n11
  have hb := wUL_b H a0 a1
  show WP (gX (gq u)) MX11_worth (d + 5) b _ 0 [(2, 1), (0, a), (0, what), (9, 0)] [] h
  refine wp_aload_n rfl rfl dX11_worth_0 ?_
  refine wp_iload_n rfl rfl dX11_worth_1 ?_
  refine wp_cV1 (ci := 11) okX11_findAsking rfl rfl wX11_200 dX11_worth_2 rfl (Nat.le_of_ble_eq_true rfl) (Nat.le_of_ble_eq_true rfl) (by first | omega | (simp (disch := omega) only [up2_ne, up2_eq, e, e11, e12, e13, H.a4, H.az, H.r3, H.rz, st_1_m1 hS, st_1_m1 H.1, st_1_8 hS, st_1_8 H.1, st_10_m1 hS, st_10_m1 H.1]; first | done | omega)) (by first | assumption | (simp (disch := omega) only [up2_ne, up2_eq, e, e11, e12, e13, H.a4, H.az, H.r3, H.rz, st_1_m1 hS, st_1_m1 H.1, st_1_8 hS, st_1_8 H.1, st_10_m1 hS, st_10_m1 H.1]; first | done | rfl | omega)) (ndA_t H e hS a0 a1) (Nat.zero_le _) ?_
  try simp (disch := omega) only [up2_ne, up2_eq, e, e11, e12, e13, H.a4, H.az, H.r3, H.rz, st_1_m1 hS, st_1_m1 H.1, st_1_8 hS, st_1_8 H.1, st_10_m1 hS, st_10_m1 H.1]
  refine wp_astore_n rfl dX11_worth_5 rfl (Nat.le_of_ble_eq_true rfl) rfl ?_
  try simp only [List.set_cons_zero, List.set_cons_succ]
  refine wp_aload_n rfl rfl dX11_worth_6 ?_
  refine wp_ifnull (tgt := 19) dX11_worth_7 (by decide) (fun hx => absurd hx (by omega)) (fun hx => ?_)
  refine wp_iload_n rfl rfl dX11_worth_10 ?_
  refine wp_iconst dX11_worth_11 ?_
  refine wp_iconst dX11_worth_12 ?_
  refine wp_cS3 okX11_isWithin wX11_98 dX11_worth_13 rfl (Nat.le_of_ble_eq_true rfl) (Nat.le_of_ble_eq_true rfl) (s_X11_isWithin iw (by exact ⟨by decide, by decide⟩) (by exact ⟨by decide, by decide⟩)) (Nat.zero_le _) ?_
  try simp (disch := omega) only [up2_ne, up2_eq, e, e11, e12, e13, H.a4, H.az, H.r3, H.rz, st_1_m1 hS, st_1_m1 H.1, st_1_8 hS, st_1_8 H.1, st_10_m1 hS, st_10_m1 H.1]
  refine wp_ifB_ne (tgt := 23) dX11_worth_16 (by decide) (fun c2 => ?_) (fun c2 => ?_)
  · refine wp_aload_n rfl rfl dX11_worth_23 ?_
    refine wp_aload_n rfl rfl dX11_worth_24 ?_
    refine wp_cV1r (ci := 11) okX11_weigh rfl rfl wX11_305 dX11_worth_25 (Nat.le_of_ble_eq_true rfl) (Nat.le_of_ble_eq_true rfl) (by first | omega | (simp (disch := omega) only [up2_ne, up2_eq, e, e11, e12, e13, H.a4, H.az, H.r3, H.rz, st_1_m1 hS, st_1_m1 H.1, st_1_8 hS, st_1_8 H.1, st_10_m1 hS, st_10_m1 H.1]; first | done | omega)) (by first | assumption | (simp (disch := omega) only [up2_ne, up2_eq, e, e11, e12, e13, H.a4, H.az, H.r3, H.rz, st_1_m1 hS, st_1_m1 H.1, st_1_8 hS, st_1_8 H.1, st_10_m1 hS, st_10_m1 H.1]; first | done | rfl | omega)) (s_X11_weigh H e hS a0 a1) (Nat.zero_le _) ?_
    rintro x g ⟨rfl, gS, gK, g6, g7⟩ -
    show WP _ _ _ _ _ _ _ [] _
    have ge : Cl g m := gK.cl e
    refine wp_aload_n rfl rfl dX11_worth_28 ?_
    refine wp_getfield1 (z := 12) (kI := 8) fX11_60 dX11_worth_29 (by first | omega | (simp (disch := omega) only [up2_ne, up2_eq, ge, e, e11, e12, e13, H.a4, H.az, H.r3, H.rz, st_1_m1 gS, st_1_m1 hS, st_1_m1 H.1, st_1_8 gS, st_1_8 hS, st_1_8 H.1, st_10_m1 gS, st_10_m1 hS, st_10_m1 H.1]; first | done | omega)) (by first | assumption | (simp (disch := omega) only [up2_ne, up2_eq, ge, e, e11, e12, e13, H.a4, H.az, H.r3, H.rz, st_1_m1 gS, st_1_m1 hS, st_1_m1 H.1, st_1_8 gS, st_1_8 hS, st_1_8 H.1, st_10_m1 gS, st_10_m1 hS, st_10_m1 H.1]; first | done | rfl | omega)) rfl rfl ?_
    try simp (disch := omega) only [up2_ne, up2_eq, ge, e, e11, e12, e13, H.a4, H.az, H.r3, H.rz, st_1_m1 gS, st_1_m1 hS, st_1_m1 H.1, st_1_8 gS, st_1_8 hS, st_1_8 H.1, st_10_m1 gS, st_10_m1 hS, st_10_m1 H.1]
    refine wp_cV0 (ci := 7) okX7_hasWorth rfl rfl wX11_309 dX11_worth_32 rfl (Nat.le_of_ble_eq_true rfl) (Nat.le_of_ble_eq_true rfl) (by first | omega | (simp (disch := omega) only [up2_ne, up2_eq, ge, e, e11, e12, e13, H.a4, H.az, H.r3, H.rz, st_1_m1 gS, st_1_m1 hS, st_1_m1 H.1, st_1_8 gS, st_1_8 hS, st_1_8 H.1, st_10_m1 gS, st_10_m1 hS, st_10_m1 H.1]; first | done | omega)) (by first | assumption | (simp (disch := omega) only [up2_ne, up2_eq, ge, e, e11, e12, e13, H.a4, H.az, H.r3, H.rz, st_1_m1 gS, st_1_m1 hS, st_1_m1 H.1, st_1_8 gS, st_1_8 hS, st_1_8 H.1, st_10_m1 gS, st_10_m1 hS, st_10_m1 H.1]; first | done | rfl | omega)) (s_X7_hasWorth gS g7 (by exact ⟨by omega, by omega⟩)) (Nat.zero_le _) ?_
    try simp (disch := omega) only [up2_ne, up2_eq, ge, e, e11, e12, e13, H.a4, H.az, H.r3, H.rz, st_1_m1 gS, st_1_m1 hS, st_1_m1 H.1, st_1_8 gS, st_1_8 hS, st_1_8 H.1, st_10_m1 gS, st_10_m1 hS, st_10_m1 H.1]
    refine wp_ifB_ne (tgt := 42) dX11_worth_35 (by decide) (fun c3 => ?_) (fun c3 => ?_)
    · refine wp_iload_n rfl rfl dX11_worth_42 ?_
      refine wp_if_ne (tgt := 56) (by first | assumption | exact bI_in _ | exact ⟨by omega, by omega⟩ | exact iAnd_in | exact iOr_in | exact iShr_in | exact iShl_in | exact iXor_in | exact hxs _) dX11_worth_43 (by decide) (fun c4 => ?_) (fun c4 => ?_)
      · refine wp_aload_n rfl rfl dX11_worth_56 ?_
        refine wp_getfield1 (z := 12) (kI := 8) fX11_60 dX11_worth_57 (by first | omega | (simp (disch := omega) only [up2_ne, up2_eq, ge, e, e11, e12, e13, H.a4, H.az, H.r3, H.rz, st_1_m1 gS, st_1_m1 hS, st_1_m1 H.1, st_1_8 gS, st_1_8 hS, st_1_8 H.1, st_10_m1 gS, st_10_m1 hS, st_10_m1 H.1]; first | done | omega)) (by first | assumption | (simp (disch := omega) only [up2_ne, up2_eq, ge, e, e11, e12, e13, H.a4, H.az, H.r3, H.rz, st_1_m1 gS, st_1_m1 hS, st_1_m1 H.1, st_1_8 gS, st_1_8 hS, st_1_8 H.1, st_10_m1 gS, st_10_m1 hS, st_10_m1 H.1]; first | done | rfl | omega)) rfl rfl ?_
        try simp (disch := omega) only [up2_ne, up2_eq, ge, e, e11, e12, e13, H.a4, H.az, H.r3, H.rz, st_1_m1 gS, st_1_m1 hS, st_1_m1 H.1, st_1_8 gS, st_1_8 hS, st_1_8 H.1, st_10_m1 gS, st_10_m1 hS, st_10_m1 H.1]
        refine wp_getfield1 (z := 8) (kI := 7) fX11_316 dX11_worth_60 (by first | omega | (simp (disch := omega) only [up2_ne, up2_eq, ge, e, e11, e12, e13, H.a4, H.az, H.r3, H.rz, st_1_m1 gS, st_1_m1 hS, st_1_m1 H.1, st_1_8 gS, st_1_8 hS, st_1_8 H.1, st_10_m1 gS, st_10_m1 hS, st_10_m1 H.1]; first | done | omega)) (by first | assumption | (simp (disch := omega) only [up2_ne, up2_eq, ge, e, e11, e12, e13, H.a4, H.az, H.r3, H.rz, st_1_m1 gS, st_1_m1 hS, st_1_m1 H.1, st_1_8 gS, st_1_8 hS, st_1_8 H.1, st_10_m1 gS, st_10_m1 hS, st_10_m1 H.1]; first | done | rfl | omega)) rfl rfl ?_
        try simp (disch := omega) only [up2_ne, up2_eq, ge, e, e11, e12, e13, H.a4, H.az, H.r3, H.rz, st_1_m1 gS, st_1_m1 hS, st_1_m1 H.1, st_1_8 gS, st_1_8 hS, st_1_8 H.1, st_10_m1 gS, st_10_m1 hS, st_10_m1 H.1]
        refine wp_lret dX11_worth_63 rfl ?_
        first
          | (refine ⟨?_, hS, fun _ _ _ => rfl⟩
             congr 1
             unfold wV
             rw [if_neg (by omega)])
          | (refine ⟨?_, gS, gK⟩
             congr 1
             unfold wV
             rw [if_neg (by omega)])
          | (refine ⟨?_, gS, gK⟩
             congr 1
             unfold wV
             rw [if_pos (by omega), if_pos (by omega)]
             exact g6)
          | (refine ⟨?_, gS, gK⟩
             congr 1
             unfold wV
             rw [if_pos (by omega), if_neg (by omega)]
             exact g7)
          | (exfalso; omega)
      · refine wp_aload_n rfl rfl dX11_worth_46 ?_
        refine wp_getfield1 (z := 12) (kI := 8) fX11_60 dX11_worth_47 (by first | omega | (simp (disch := omega) only [up2_ne, up2_eq, ge, e, e11, e12, e13, H.a4, H.az, H.r3, H.rz, st_1_m1 gS, st_1_m1 hS, st_1_m1 H.1, st_1_8 gS, st_1_8 hS, st_1_8 H.1, st_10_m1 gS, st_10_m1 hS, st_10_m1 H.1]; first | done | omega)) (by first | assumption | (simp (disch := omega) only [up2_ne, up2_eq, ge, e, e11, e12, e13, H.a4, H.az, H.r3, H.rz, st_1_m1 gS, st_1_m1 hS, st_1_m1 H.1, st_1_8 gS, st_1_8 hS, st_1_8 H.1, st_10_m1 gS, st_10_m1 hS, st_10_m1 H.1]; first | done | rfl | omega)) rfl rfl ?_
        try simp (disch := omega) only [up2_ne, up2_eq, ge, e, e11, e12, e13, H.a4, H.az, H.r3, H.rz, st_1_m1 gS, st_1_m1 hS, st_1_m1 H.1, st_1_8 gS, st_1_8 hS, st_1_8 H.1, st_10_m1 gS, st_10_m1 hS, st_10_m1 H.1]
        refine wp_getfield1 (z := 8) (kI := 6) fX11_312 dX11_worth_50 (by first | omega | (simp (disch := omega) only [up2_ne, up2_eq, ge, e, e11, e12, e13, H.a4, H.az, H.r3, H.rz, st_1_m1 gS, st_1_m1 hS, st_1_m1 H.1, st_1_8 gS, st_1_8 hS, st_1_8 H.1, st_10_m1 gS, st_10_m1 hS, st_10_m1 H.1]; first | done | omega)) (by first | assumption | (simp (disch := omega) only [up2_ne, up2_eq, ge, e, e11, e12, e13, H.a4, H.az, H.r3, H.rz, st_1_m1 gS, st_1_m1 hS, st_1_m1 H.1, st_1_8 gS, st_1_8 hS, st_1_8 H.1, st_10_m1 gS, st_10_m1 hS, st_10_m1 H.1]; first | done | rfl | omega)) rfl rfl ?_
        try simp (disch := omega) only [up2_ne, up2_eq, ge, e, e11, e12, e13, H.a4, H.az, H.r3, H.rz, st_1_m1 gS, st_1_m1 hS, st_1_m1 H.1, st_1_8 gS, st_1_8 hS, st_1_8 H.1, st_10_m1 gS, st_10_m1 hS, st_10_m1 H.1]
        refine wp_goto (tgt := 63) dX11_worth_53 (by decide) ?_
        refine wp_lret dX11_worth_63 rfl ?_
        first
          | (refine ⟨?_, hS, fun _ _ _ => rfl⟩
             congr 1
             unfold wV
             rw [if_neg (by omega)])
          | (refine ⟨?_, gS, gK⟩
             congr 1
             unfold wV
             rw [if_neg (by omega)])
          | (refine ⟨?_, gS, gK⟩
             congr 1
             unfold wV
             rw [if_pos (by omega), if_pos (by omega)]
             exact g6)
          | (refine ⟨?_, gS, gK⟩
             congr 1
             unfold wV
             rw [if_pos (by omega), if_neg (by omega)]
             exact g7)
          | (exfalso; omega)
    · refine wp_ldc2 kX11_258 dX11_worth_38 ?_
      refine wp_lret dX11_worth_41 rfl ?_
      first
        | (refine ⟨?_, hS, fun _ _ _ => rfl⟩
           congr 1
           unfold wV
           rw [if_neg (by omega)])
        | (refine ⟨?_, gS, gK⟩
           congr 1
           unfold wV
           rw [if_neg (by omega)])
        | (refine ⟨?_, gS, gK⟩
           congr 1
           unfold wV
           rw [if_pos (by omega), if_pos (by omega)]
           exact g6)
        | (refine ⟨?_, gS, gK⟩
           congr 1
           unfold wV
           rw [if_pos (by omega), if_neg (by omega)]
           exact g7)
        | (exfalso; omega)
  · refine wp_ldc2 kX11_258 dX11_worth_19 ?_
    refine wp_lret dX11_worth_22 rfl ?_
    first
      | (refine ⟨?_, hS, fun _ _ _ => rfl⟩
         congr 1
         unfold wV
         rw [if_neg (by omega)])
      | (refine ⟨?_, gS, gK⟩
         congr 1
         unfold wV
         rw [if_neg (by omega)])
      | (refine ⟨?_, gS, gK⟩
         congr 1
         unfold wV
         rw [if_pos (by omega), if_pos (by omega)]
         exact g6)
      | (refine ⟨?_, gS, gK⟩
         congr 1
         unfold wV
         rw [if_pos (by omega), if_neg (by omega)]
         exact g7)
      | (exfalso; omega)
theorem worth_f {u : gT} {j : Nat} {h m : mH} {d b : Nat} (H : Inv j m) (e : Cl h m) (hS : St h) {a what : Int} (ia : InI a) (q : ¬ (0 ≤ a ∧ a < m 200 10)) (iw : InI what) : Det (gX (gq u)) MX11_worth (d + 5) b [(2, 1), (0, a), (0, what)] h (1, -4611686018427387904) h := by
  intro Q hQ
  have hn := H.ns
  have e12 := H.n12
  have e13 := H.n13
  have e11 := H.n11
  show WP (gX (gq u)) MX11_worth (d + 5) b Q 0 [(2, 1), (0, a), (0, what), (9, 0)] [] h
  refine wp_aload_n rfl rfl dX11_worth_0 ?_
  refine wp_iload_n rfl rfl dX11_worth_1 ?_
  refine wp_cV1 (ci := 11) okX11_findAsking rfl rfl wX11_200 dX11_worth_2 rfl (Nat.le_of_ble_eq_true rfl) (Nat.le_of_ble_eq_true rfl) (by first | omega | (simp (disch := omega) only [up2_ne, up2_eq, e, e11, e12, e13, H.a4, H.az, H.r3, H.rz, st_1_m1 hS, st_1_m1 H.1]; first | done | omega)) (by first | assumption | (simp (disch := omega) only [up2_ne, up2_eq, e, e11, e12, e13, H.a4, H.az, H.r3, H.rz, st_1_m1 hS, st_1_m1 H.1]; first | done | rfl | omega)) (ndA_f H e hS ia q) (Nat.zero_le _) ?_
  try simp (disch := omega) only [up2_ne, up2_eq, e, e11, e12, e13, H.a4, H.az, H.r3, H.rz, st_1_m1 hS, st_1_m1 H.1]
  refine wp_astore_n rfl dX11_worth_5 rfl (Nat.le_of_ble_eq_true rfl) rfl ?_
  try simp only [List.set_cons_zero, List.set_cons_succ]
  refine wp_aload_n rfl rfl dX11_worth_6 ?_
  refine wp_ifnull (tgt := 19) dX11_worth_7 (by decide) (fun hx => ?_) (fun hx => absurd rfl hx)
  refine wp_ldc2 kX11_258 dX11_worth_19 ?_
  refine wp_lret dX11_worth_22 rfl ?_
  exact hQ
theorem wV_in {j : Nat} {m : mH} (H : Inv j m) {a what : Int} (a0 : 0 ≤ a) (a1 : a < m 200 10) : InL (wV m a what) := by
  have := wUL_b H a0 a1
  unfold wV
  split
  · split <;> exact ⟨by omega, by omega⟩
  · exact ⟨by decide, by decide⟩
theorem p_worth {u : gT} (j : Nat) (h : mH) (hj : j < 512) (hI : Inv j h) (x what : Int) (i1 : InI x) (i2 : InI what) : PairL u Inv MX11_worth MX12_worth [(0, x), (0, what)] j h := by
  have hS := hI.1
  by_cases q : 0 ≤ x ∧ x < h 200 10
  · refine (worth_t (d := 2042) (b := 300) hI Cl_rfl hS q.1 q.2 i2).mono ?_
    rintro r h1 ⟨rfl, gS, gK⟩ -
    refine ⟨_, rfl, wV_in hI q.1 q.2, (s_X12_worth (u := u) (d := 2042) (b := 0) (m := h) hI (fun y k z => gK y k (by omega)) gS i1 i2).mono ?_⟩
    rintro r h2 ⟨rfl, gS2, gK2⟩ -
    rw [if_pos q]
    refine ⟨rfl, Inv_scr gS2 (fun y k z => ?_) hI⟩
    unfold scr at z
    rw [gK2 y k (by omega), gK y k (by omega)]
  · refine (worth_f (d := 2042) (b := 300) hI Cl_rfl hS i1 q i2).rlt.mono ?_
    rintro r h1 ⟨rfl, rfl⟩ -
    refine ⟨_, rfl, ⟨by decide, by decide⟩, (s_X12_worth (u := u) (d := 2042) (b := 0) hI Cr_rfl hS i1 i2).mono ?_⟩
    rintro r h2 ⟨rfl, gS2, gK2⟩ -
    rw [if_neg q]
    refine ⟨rfl, Inv_scr gS2 (fun y k z => ?_) hI⟩
    unfold scr at z
    exact gK2 y k (by omega)
