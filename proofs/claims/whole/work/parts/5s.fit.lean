/-! ===== says, fit ===== -/
def sV (m : mH) (a p l : Int) : Int := if (0 ≤ p ∧ p ≤ 2) ∧ (0 ≤ l ∧ l ≤ 999) then txV m (m 217 a) p (fA m a (if p = 2 then l else 0)) else -4611686018427387904
abbrev fitP (m : mH) (f a : Int) : Prop := m 221 a = -1 ∧ bt (m 201 f) (m 214 a) ≠ 0 ∧ 0 < tA m w1 a ∧ txV m (m 217 a) 1 (fA m a 0) ≠ 0
theorem bt_fold {x i : Int} : iAnd (iShr x i) 1 = bt x i := rfl
theorem says_t {u : gT} {j : Nat} {h m : mH} {d b : Nat} (H : Inv j m) (e : Cl h m) (hS : St h) {a : Int} (a0 : 0 ≤ a) (a1 : a < m 200 10) {p l : Int} (ip : InI p) (il : InI l) : Rlt (gX (gq u)) MX11_says (d + 6) b [(2, 1), (0, a), (0, p), (0, l)] h (fun r h1 => r = (1, sV m a p l) ∧ St h1 ∧ Kz h h1) := by
  refine Rlt.of ?_
  have hn := H.ns
  have e12 := H.n12
  have e13 := H.n13
  have e11 := H.n11
  show WP (gX (gq u)) MX11_says (d + 6) b _ 0 [(2, 1), (0, a), (0, p), (0, l), (9, 0), (9, 0)] [] h
  refine wp_aload_n rfl rfl dX11_says_0 ?_
  refine wp_iload_n rfl rfl dX11_says_1 ?_
  refine wp_cV1 (ci := 11) okX11_findAsking rfl rfl wX11_200 dX11_says_2 rfl (Nat.le_of_ble_eq_true rfl) (Nat.le_of_ble_eq_true rfl) (by first | omega | (simp (disch := omega) only [up2_ne, up2_eq, e, e11, e12, e13, H.a4, H.az, H.r3, H.rz, st_1_m1 hS, st_1_m1 H.1]; first | done | omega)) (by first | assumption | (simp (disch := omega) only [up2_ne, up2_eq, e, e11, e12, e13, H.a4, H.az, H.r3, H.rz, st_1_m1 hS, st_1_m1 H.1]; first | done | rfl | omega)) (ndA_t H e hS a0 a1) (Nat.zero_le _) ?_
  try simp (disch := omega) only [up2_ne, up2_eq, e, e11, e12, e13, H.a4, H.az, H.r3, H.rz, st_1_m1 hS, st_1_m1 H.1]
  refine wp_astore dX11_says_5 rfl (Nat.le_of_ble_eq_true rfl) rfl ?_
  try simp only [List.set_cons_zero, List.set_cons_succ]
  refine wp_iload_n rfl rfl dX11_says_7 ?_
  refine wp_iconst dX11_says_8 ?_
  refine wp_iconst dX11_says_9 ?_
  refine wp_cS3 okX11_isWithin wX11_98 dX11_says_10 rfl (Nat.le_of_ble_eq_true rfl) (Nat.le_of_ble_eq_true rfl) (s_X11_isWithin (by first | assumption | exact ⟨by omega, by omega⟩) (by exact ⟨by decide, by decide⟩) (by exact ⟨by decide, by decide⟩)) (Nat.zero_le _) ?_
  try simp (disch := omega) only [up2_ne, up2_eq, e, e11, e12, e13, H.a4, H.az, H.r3, H.rz, st_1_m1 hS, st_1_m1 H.1]
  refine wp_ifB_eq (tgt := 31) dX11_says_13 (by decide) (fun c1 => ?_) (fun c1 => ?_)
  · refine wp_iconst dX11_says_31 ?_
    refine wp_istore dX11_says_32 rfl (Nat.le_of_ble_eq_true rfl) rfl ?_
    try simp only [List.set_cons_zero, List.set_cons_succ]
    refine wp_aload rfl dX11_says_34 ?_
    refine wp_ifnull (tgt := 44) dX11_says_36 (by decide) (fun hx => absurd hx (by omega)) (fun hx => ?_)
    refine wp_iload rfl dX11_says_39 ?_
    refine wp_if_ne (tgt := 48) (by first | assumption | exact bI_in _ | exact ⟨by omega, by omega⟩ | exact iAnd_in | exact iOr_in | exact iShr_in | exact iShl_in | exact iXor_in | exact hxs _) dX11_says_41 (by decide) (fun hx => absurd hx (by decide)) (fun hx => ?_)
    refine wp_ldc2 kX11_258 dX11_says_44 ?_
    refine wp_lret dX11_says_47 rfl ?_
    first
      | (refine ⟨?_, hS, fun _ _ _ => rfl⟩
         congr 1
         unfold sV
         rw [if_neg (by omega)])
      | (refine ⟨?_, z2, z3⟩
         congr 1
         unfold sV
         rw [if_pos (by omega)]
         first | rw [if_pos (by omega)] | rw [if_neg (by omega)])
      | (exfalso; omega)
  · refine wp_iload_n rfl rfl dX11_says_16 ?_
    refine wp_iconst dX11_says_17 ?_
    refine wp_sipush (by decide) dX11_says_18 ?_
    refine wp_cS3 okX11_isWithin wX11_98 dX11_says_21 rfl (Nat.le_of_ble_eq_true rfl) (Nat.le_of_ble_eq_true rfl) (s_X11_isWithin (by first | assumption | exact ⟨by omega, by omega⟩) (by exact ⟨by decide, by decide⟩) (by exact ⟨by decide, by decide⟩)) (Nat.zero_le _) ?_
    try simp (disch := omega) only [up2_ne, up2_eq, e, e11, e12, e13, H.a4, H.az, H.r3, H.rz, st_1_m1 hS, st_1_m1 H.1]
    refine wp_ifB_eq (tgt := 31) dX11_says_24 (by decide) (fun c3 => ?_) (fun c3 => ?_)
    · refine wp_iconst dX11_says_31 ?_
      refine wp_istore dX11_says_32 rfl (Nat.le_of_ble_eq_true rfl) rfl ?_
      try simp only [List.set_cons_zero, List.set_cons_succ]
      refine wp_aload rfl dX11_says_34 ?_
      refine wp_ifnull (tgt := 44) dX11_says_36 (by decide) (fun hx => absurd hx (by omega)) (fun hx => ?_)
      refine wp_iload rfl dX11_says_39 ?_
      refine wp_if_ne (tgt := 48) (by first | assumption | exact bI_in _ | exact ⟨by omega, by omega⟩ | exact iAnd_in | exact iOr_in | exact iShr_in | exact iShl_in | exact iXor_in | exact hxs _) dX11_says_41 (by decide) (fun hx => absurd hx (by decide)) (fun hx => ?_)
      refine wp_ldc2 kX11_258 dX11_says_44 ?_
      refine wp_lret dX11_says_47 rfl ?_
      first
        | (refine ⟨?_, hS, fun _ _ _ => rfl⟩
           congr 1
           unfold sV
           rw [if_neg (by omega)])
        | (refine ⟨?_, z2, z3⟩
           congr 1
           unfold sV
           rw [if_pos (by omega)]
           first | rw [if_pos (by omega)] | rw [if_neg (by omega)])
        | (exfalso; omega)
    · refine wp_iconst dX11_says_27 ?_
      refine wp_goto (tgt := 32) dX11_says_28 (by decide) ?_
      refine wp_istore dX11_says_32 rfl (Nat.le_of_ble_eq_true rfl) rfl ?_
      try simp only [List.set_cons_zero, List.set_cons_succ]
      refine wp_aload rfl dX11_says_34 ?_
      refine wp_ifnull (tgt := 44) dX11_says_36 (by decide) (fun hx => absurd hx (by omega)) (fun hx => ?_)
      refine wp_iload rfl dX11_says_39 ?_
      refine wp_if_ne (tgt := 48) (by first | assumption | exact bI_in _ | exact ⟨by omega, by omega⟩ | exact iAnd_in | exact iOr_in | exact iShr_in | exact iShl_in | exact iXor_in | exact hxs _) dX11_says_41 (by decide) (fun hx => ?_) (fun hx => absurd hx (by decide))
      refine wp_aload_n rfl rfl dX11_says_48 ?_
      refine wp_aload rfl dX11_says_49 ?_
      refine wp_iload_n rfl rfl dX11_says_51 ?_
      refine wp_iload_n rfl rfl dX11_says_52 ?_
      refine wp_iconst dX11_says_53 ?_
      refine wp_icmp_ne (tgt := 61) (by first | assumption | exact bI_in _ | exact ⟨by omega, by omega⟩ | exact iAnd_in | exact iOr_in | exact iShr_in | exact iShl_in | exact iXor_in | exact hxs _) (by first | assumption | exact bI_in _ | exact ⟨by omega, by omega⟩ | exact iAnd_in | exact iOr_in | exact iShr_in | exact iShl_in | exact iXor_in | exact hxs _) dX11_says_54 (by decide) (fun c6 => ?_) (fun c6 => ?_)
      · refine wp_iconst dX11_says_61 ?_
        refine wp_cV3r (ci := 11) okX11_reckonFor rfl rfl wX11_260 dX11_says_62 (Nat.le_of_ble_eq_true rfl) (Nat.le_of_ble_eq_true rfl) (by first | omega | (simp (disch := omega) only [up2_ne, up2_eq, e, e11, e12, e13, H.a4, H.az, H.r3, H.rz, st_1_m1 hS, st_1_m1 H.1]; first | done | omega)) (by first | assumption | (simp (disch := omega) only [up2_ne, up2_eq, e, e11, e12, e13, H.a4, H.az, H.r3, H.rz, st_1_m1 hS, st_1_m1 H.1]; first | done | rfl | omega)) (s_X11_reckonFor H e hS a0 a1 (by omega) (by omega) (by first | assumption | exact ⟨by decide, by decide⟩)) (Nat.zero_le _) ?_
        rintro r g ⟨rfl, z1, z2, z3⟩ -
        show WP _ _ _ _ _ _ _ ((0, _) :: _) _
        refine wp_i2l (by first | assumption | exact bI_in _ | exact ⟨by omega, by omega⟩ | exact iAnd_in | exact iOr_in | exact iShr_in | exact iShl_in | exact iXor_in | exact hxs _) dX11_says_65 ?_
        refine wp_lret dX11_says_66 rfl ?_
        first
          | (refine ⟨?_, hS, fun _ _ _ => rfl⟩
             congr 1
             unfold sV
             rw [if_neg (by omega)])
          | (refine ⟨?_, z2, z3⟩
             congr 1
             unfold sV
             rw [if_pos (by omega)]
             first | rw [if_pos (by omega)] | rw [if_neg (by omega)])
          | (exfalso; omega)
      · refine wp_iload_n rfl rfl dX11_says_57 ?_
        refine wp_goto (tgt := 62) dX11_says_58 (by decide) ?_
        refine wp_cV3r (ci := 11) okX11_reckonFor rfl rfl wX11_260 dX11_says_62 (Nat.le_of_ble_eq_true rfl) (Nat.le_of_ble_eq_true rfl) (by first | omega | (simp (disch := omega) only [up2_ne, up2_eq, e, e11, e12, e13, H.a4, H.az, H.r3, H.rz, st_1_m1 hS, st_1_m1 H.1]; first | done | omega)) (by first | assumption | (simp (disch := omega) only [up2_ne, up2_eq, e, e11, e12, e13, H.a4, H.az, H.r3, H.rz, st_1_m1 hS, st_1_m1 H.1]; first | done | rfl | omega)) (s_X11_reckonFor H e hS a0 a1 (by omega) (by omega) (by first | assumption | exact ⟨by decide, by decide⟩)) (Nat.zero_le _) ?_
        rintro r g ⟨rfl, z1, z2, z3⟩ -
        show WP _ _ _ _ _ _ _ ((0, _) :: _) _
        refine wp_i2l (by first | assumption | exact bI_in _ | exact ⟨by omega, by omega⟩ | exact iAnd_in | exact iOr_in | exact iShr_in | exact iShl_in | exact iXor_in | exact hxs _) dX11_says_65 ?_
        refine wp_lret dX11_says_66 rfl ?_
        first
          | (refine ⟨?_, hS, fun _ _ _ => rfl⟩
             congr 1
             unfold sV
             rw [if_neg (by omega)])
          | (refine ⟨?_, z2, z3⟩
             congr 1
             unfold sV
             rw [if_pos (by omega)]
             first | rw [if_pos (by omega)] | rw [if_neg (by omega)])
          | (exfalso; omega)
theorem says_f {u : gT} {j : Nat} {h m : mH} {d b : Nat} (H : Inv j m) (e : Cl h m) (hS : St h) {a p l : Int} (ia : InI a) (q : ¬ (0 ≤ a ∧ a < m 200 10)) (ip : InI p) (il : InI l) : Det (gX (gq u)) MX11_says (d + 6) b [(2, 1), (0, a), (0, p), (0, l)] h (1, -4611686018427387904) h := by
  intro Q hQ
  have hn := H.ns
  have e12 := H.n12
  have e13 := H.n13
  have e11 := H.n11
  show WP (gX (gq u)) MX11_says (d + 6) b Q 0 [(2, 1), (0, a), (0, p), (0, l), (9, 0), (9, 0)] [] h
  refine wp_aload_n rfl rfl dX11_says_0 ?_
  refine wp_iload_n rfl rfl dX11_says_1 ?_
  refine wp_cV1 (ci := 11) okX11_findAsking rfl rfl wX11_200 dX11_says_2 rfl (Nat.le_of_ble_eq_true rfl) (Nat.le_of_ble_eq_true rfl) (by first | omega | (simp (disch := omega) only [up2_ne, up2_eq, e, e11, e12, e13, H.a4, H.az, H.r3, H.rz, st_1_m1 hS, st_1_m1 H.1]; first | done | omega)) (by first | assumption | (simp (disch := omega) only [up2_ne, up2_eq, e, e11, e12, e13, H.a4, H.az, H.r3, H.rz, st_1_m1 hS, st_1_m1 H.1]; first | done | rfl | omega)) (ndA_f H e hS ia q) (Nat.zero_le _) ?_
  try simp (disch := omega) only [up2_ne, up2_eq, e, e11, e12, e13, H.a4, H.az, H.r3, H.rz, st_1_m1 hS, st_1_m1 H.1]
  refine wp_astore dX11_says_5 rfl (Nat.le_of_ble_eq_true rfl) rfl ?_
  try simp only [List.set_cons_zero, List.set_cons_succ]
  refine wp_iload_n rfl rfl dX11_says_7 ?_
  refine wp_iconst dX11_says_8 ?_
  refine wp_iconst dX11_says_9 ?_
  refine wp_cS3 okX11_isWithin wX11_98 dX11_says_10 rfl (Nat.le_of_ble_eq_true rfl) (Nat.le_of_ble_eq_true rfl) (s_X11_isWithin (by first | assumption | exact ⟨by omega, by omega⟩) (by exact ⟨by decide, by decide⟩) (by exact ⟨by decide, by decide⟩)) (Nat.zero_le _) ?_
  try simp (disch := omega) only [up2_ne, up2_eq, e, e11, e12, e13, H.a4, H.az, H.r3, H.rz, st_1_m1 hS, st_1_m1 H.1]
  refine wp_ifB_eq (tgt := 31) dX11_says_13 (by decide) (fun c1 => ?_) (fun c1 => ?_)
  · refine wp_iconst dX11_says_31 ?_
    refine wp_istore dX11_says_32 rfl (Nat.le_of_ble_eq_true rfl) rfl ?_
    try simp only [List.set_cons_zero, List.set_cons_succ]
    refine wp_aload rfl dX11_says_34 ?_
    refine wp_ifnull (tgt := 44) dX11_says_36 (by decide) (fun hx => ?_) (fun hx => absurd rfl hx)
    refine wp_ldc2 kX11_258 dX11_says_44 ?_
    refine wp_lret dX11_says_47 rfl ?_
    exact hQ
  · refine wp_iload_n rfl rfl dX11_says_16 ?_
    refine wp_iconst dX11_says_17 ?_
    refine wp_sipush (by decide) dX11_says_18 ?_
    refine wp_cS3 okX11_isWithin wX11_98 dX11_says_21 rfl (Nat.le_of_ble_eq_true rfl) (Nat.le_of_ble_eq_true rfl) (s_X11_isWithin (by first | assumption | exact ⟨by omega, by omega⟩) (by exact ⟨by decide, by decide⟩) (by exact ⟨by decide, by decide⟩)) (Nat.zero_le _) ?_
    try simp (disch := omega) only [up2_ne, up2_eq, e, e11, e12, e13, H.a4, H.az, H.r3, H.rz, st_1_m1 hS, st_1_m1 H.1]
    refine wp_ifB_eq (tgt := 31) dX11_says_24 (by decide) (fun c3 => ?_) (fun c3 => ?_)
    · refine wp_iconst dX11_says_31 ?_
      refine wp_istore dX11_says_32 rfl (Nat.le_of_ble_eq_true rfl) rfl ?_
      try simp only [List.set_cons_zero, List.set_cons_succ]
      refine wp_aload rfl dX11_says_34 ?_
      refine wp_ifnull (tgt := 44) dX11_says_36 (by decide) (fun hx => ?_) (fun hx => absurd rfl hx)
      refine wp_ldc2 kX11_258 dX11_says_44 ?_
      refine wp_lret dX11_says_47 rfl ?_
      exact hQ
    · refine wp_iconst dX11_says_27 ?_
      refine wp_goto (tgt := 32) dX11_says_28 (by decide) ?_
      refine wp_istore dX11_says_32 rfl (Nat.le_of_ble_eq_true rfl) rfl ?_
      try simp only [List.set_cons_zero, List.set_cons_succ]
      refine wp_aload rfl dX11_says_34 ?_
      refine wp_ifnull (tgt := 44) dX11_says_36 (by decide) (fun hx => ?_) (fun hx => absurd rfl hx)
      refine wp_ldc2 kX11_258 dX11_says_44 ?_
      refine wp_lret dX11_says_47 rfl ?_
      exact hQ
theorem s_X12_says {u : gT} {j : Nat} {h m : mH} {d b : Nat} (H : Inv j m) (e : Cr h m) (hS : St h) {a p l : Int} (ia : InI a) (ip : InI p) (il : InI l) : Rlt (gX (gq u)) MX12_says (d + 7) b [(2, 200), (0, a), (0, p), (0, l)] h (fun r h1 => r = (1, if (0 ≤ a ∧ a < m 200 10) then sV m a p l else -4611686018427387904) ∧ St h1 ∧ Kq h h1) := by
  refine Rlt.of ?_
  have hn := H.ns
  show WP (gX (gq u)) MX12_says (d + 7) b _ 0 [(2, 200), (0, a), (0, p), (0, l)] [] h
  refine wp_aload_n rfl rfl dX12_says_0 ?_
  refine wp_iload_n rfl rfl dX12_says_1 ?_
  refine wp_cV1 (ci := 12) okX12_isAsking rfl rfl wX12_126 dX12_says_2 rfl (Nat.le_of_ble_eq_true rfl) (Nat.le_of_ble_eq_true rfl) (by first | omega | (simp (disch := omega) only [up2_ne, up2_eq, e, st_200_m1 hS, st_200_m1 H.1]; first | done | omega)) (by first | assumption | (simp (disch := omega) only [up2_ne, up2_eq, e, st_200_m1 hS, st_200_m1 H.1]; first | done | rfl | omega)) (risAsking H e hS (by assumption)) (Nat.zero_le _) ?_
  try simp (disch := omega) only [up2_ne, up2_eq, e, st_200_m1 hS, st_200_m1 H.1]
  refine wp_ifB_eq (tgt := 43) dX12_says_5 (by decide) (fun c1 => ?_) (fun c1 => ?_)
  · refine wp_ldc2 kX12_286 dX12_says_43 ?_
    refine wp_lret dX12_says_46 rfl ?_
    first
      | (refine ⟨?_, hS, fun _ _ _ => rfl⟩
         congr 1
         rw [if_neg (by omega)])
      | (refine ⟨?_, hS, fun _ _ _ => rfl⟩
         congr 1
         unfold sV
         rw [if_pos (by omega), if_neg (by omega)])
      | (refine ⟨?_, z2, z3⟩
         congr 1
         unfold sV
         rw [if_pos (show 0 ≤ a ∧ a < m 200 10 by omega), if_pos (show (0 ≤ p ∧ p ≤ 2) ∧ (0 ≤ l ∧ l ≤ 999) by omega)])
      | (exfalso; omega)
  · refine wp_iload_n rfl rfl dX12_says_8 ?_
    refine wp_i2l (by first | assumption | exact bI_in _ | exact ⟨by omega, by omega⟩ | exact iAnd_in | exact iOr_in | exact iShr_in | exact iShl_in | exact iXor_in | exact hxs _) dX12_says_9 ?_
    refine wp_lconst (v := 0) rfl dX12_says_10 ?_
    refine wp_ldc2 kX12_111 dX12_says_11 ?_
    refine wp_cS3 okX12_isIn wX12_15 dX12_says_14 rfl (Nat.le_of_ble_eq_true rfl) (Nat.le_of_ble_eq_true rfl) (s_X12_isIn (by first | exact ⟨by have := ip.1; omega, by have := ip.2; omega⟩ | exact ⟨by have := il.1; omega, by have := il.2; omega⟩) (by exact ⟨by decide, by decide⟩) (by exact ⟨by decide, by decide⟩)) (Nat.zero_le _) ?_
    try simp (disch := omega) only [up2_ne, up2_eq, e, st_200_m1 hS, st_200_m1 H.1]
    refine wp_ifB_eq (tgt := 43) dX12_says_17 (by decide) (fun c2 => ?_) (fun c2 => ?_)
    · refine wp_ldc2 kX12_286 dX12_says_43 ?_
      refine wp_lret dX12_says_46 rfl ?_
      first
        | (refine ⟨?_, hS, fun _ _ _ => rfl⟩
           congr 1
           rw [if_neg (by omega)])
        | (refine ⟨?_, hS, fun _ _ _ => rfl⟩
           congr 1
           unfold sV
           rw [if_pos (by omega), if_neg (by omega)])
        | (refine ⟨?_, z2, z3⟩
           congr 1
           unfold sV
           rw [if_pos (show 0 ≤ a ∧ a < m 200 10 by omega), if_pos (show (0 ≤ p ∧ p ≤ 2) ∧ (0 ≤ l ∧ l ≤ 999) by omega)])
        | (exfalso; omega)
    · refine wp_iload_n rfl rfl dX12_says_20 ?_
      refine wp_i2l (by first | assumption | exact bI_in _ | exact ⟨by omega, by omega⟩ | exact iAnd_in | exact iOr_in | exact iShr_in | exact iShl_in | exact iXor_in | exact hxs _) dX12_says_21 ?_
      refine wp_lconst (v := 0) rfl dX12_says_22 ?_
      refine wp_ldc2 kX12_73 dX12_says_23 ?_
      refine wp_cS3 okX12_isIn wX12_15 dX12_says_26 rfl (Nat.le_of_ble_eq_true rfl) (Nat.le_of_ble_eq_true rfl) (s_X12_isIn (by first | exact ⟨by have := ip.1; omega, by have := ip.2; omega⟩ | exact ⟨by have := il.1; omega, by have := il.2; omega⟩) (by exact ⟨by decide, by decide⟩) (by exact ⟨by decide, by decide⟩)) (Nat.zero_le _) ?_
      try simp (disch := omega) only [up2_ne, up2_eq, e, st_200_m1 hS, st_200_m1 H.1]
      refine wp_ifB_eq (tgt := 43) dX12_says_29 (by decide) (fun c3 => ?_) (fun c3 => ?_)
      · refine wp_ldc2 kX12_286 dX12_says_43 ?_
        refine wp_lret dX12_says_46 rfl ?_
        first
          | (refine ⟨?_, hS, fun _ _ _ => rfl⟩
             congr 1
             rw [if_neg (by omega)])
          | (refine ⟨?_, hS, fun _ _ _ => rfl⟩
             congr 1
             unfold sV
             rw [if_pos (by omega), if_neg (by omega)])
          | (refine ⟨?_, z2, z3⟩
             congr 1
             unfold sV
             rw [if_pos (show 0 ≤ a ∧ a < m 200 10 by omega), if_pos (show (0 ≤ p ∧ p ≤ 2) ∧ (0 ≤ l ∧ l ≤ 999) by omega)])
          | (exfalso; omega)
      · refine wp_aload_n rfl rfl dX12_says_32 ?_
        refine wp_iload_n rfl rfl dX12_says_33 ?_
        refine wp_iload_n rfl rfl dX12_says_34 ?_
        refine wp_iload_n rfl rfl dX12_says_35 ?_
        refine wp_cV3r (ci := 12) okX12_valueOf rfl rfl wX12_283 dX12_says_36 (Nat.le_of_ble_eq_true rfl) (Nat.le_of_ble_eq_true rfl) (by first | omega | (simp (disch := omega) only [up2_ne, up2_eq, e, st_200_m1 hS, st_200_m1 H.1]; first | done | omega)) (by first | assumption | (simp (disch := omega) only [up2_ne, up2_eq, e, st_200_m1 hS, st_200_m1 H.1]; first | done | rfl | omega)) (s_X12_valueOf H e hS (by omega) (by omega) (by omega) (by omega) il) (Nat.zero_le _) ?_
        rintro r g ⟨rfl, z1, z2, z3⟩ -
        show WP _ _ _ _ _ _ _ ((0, _) :: _) _
        refine wp_i2l (by first | assumption | exact bI_in _ | exact ⟨by omega, by omega⟩ | exact iAnd_in | exact iOr_in | exact iShr_in | exact iShl_in | exact iXor_in | exact hxs _) dX12_says_39 ?_
        refine wp_goto (tgt := 46) dX12_says_40 (by decide) ?_
        refine wp_lret dX12_says_46 rfl ?_
        first
          | (refine ⟨?_, hS, fun _ _ _ => rfl⟩
             congr 1
             rw [if_neg (by omega)])
          | (refine ⟨?_, hS, fun _ _ _ => rfl⟩
             congr 1
             unfold sV
             rw [if_pos (by omega), if_neg (by omega)])
          | (refine ⟨?_, z2, z3⟩
             congr 1
             unfold sV
             rw [if_pos (show 0 ≤ a ∧ a < m 200 10 by omega), if_pos (show (0 ≤ p ∧ p ≤ 2) ∧ (0 ≤ l ∧ l ≤ 999) by omega)])
          | (exfalso; omega)
theorem txV_in {j : Nat} {m : mH} (H : Inv j m) {t p : Int} {f : Int → Int} (t0 : 0 ≤ t) (t1 : t < m 200 30) (p0 : 0 ≤ p) (p1 : p ≤ 2) (hf : ∀ k, 0 ≤ k → k < 7 → InI (f k)) : InI (txV m t p f) := by
  have hT := H.tx t0 t1 p0 p1
  have hw := hT.wf
  have hev : ∀ n : Nat, n ≤ (m (60 + t) p - txS m t p).toNat → ∀ x ∈ ev (m (50 + t)) f (txS m t p) n, InI x := by
    intro n
    induction n with
    | zero => intro _ x hx; exact absurd hx List.not_mem_nil
    | succ n ih =>
      intro hn x hx
      have ih := ih (by omega)
      have hc := (hw n (by omega)).1
      unfold codeOk at hc
      rw [ev] at hx
      generalize m (50 + t) (txS m t p + n) = c at *
      generalize ev (m (50 + t)) f (txS m t p) n = st at *
      by_cases q1 : 0 ≤ c
      · rw [evS_p q1] at hx
        rcases List.mem_cons.mp hx with rfl | z
        · exact ⟨by omega, by omega⟩
        · exact ih x z
      · by_cases q2 : -7 ≤ c
        · rw [evS_f (by omega) q2] at hx
          rcases List.mem_cons.mp hx with rfl | z
          · exact hf _ (by omega) (by omega)
          · exact ih x z
        · rcases st with _ | ⟨y, _ | ⟨w, st⟩⟩
          · simp only [evS, if_neg q1, if_neg q2] at hx
            exact absurd hx List.not_mem_nil
          · simp only [evS, if_neg q1, if_neg q2] at hx
            split at hx
            · rcases List.mem_cons.mp hx with rfl | z
              · exact bI_in _
              · exact absurd z List.not_mem_nil
            · split at hx
              · rcases List.mem_cons.mp hx with rfl | z
                · exact wI_in _
                · exact absurd z List.not_mem_nil
              · exact absurd hx List.not_mem_nil
          · simp only [evS, if_neg q1, if_neg q2] at hx
            split at hx
            · rcases List.mem_cons.mp hx with rfl | z
              · exact bI_in _
              · exact ih x (List.mem_cons_of_mem _ z)
            · split at hx
              · rcases List.mem_cons.mp hx with rfl | z
                · exact wI_in _
                · exact ih x (List.mem_cons_of_mem _ z)
              · rcases List.mem_cons.mp hx with rfl | z
                · exact jn_in
                · exact ih x (List.mem_cons_of_mem _ (List.mem_cons_of_mem _ z))
  unfold txV evR
  have h1 := hev _ (Nat.le_refl _)
  generalize ev (m (50 + t)) f (txS m t p) (m (60 + t) p - txS m t p).toNat = L at h1 ⊢
  rcases L with _ | ⟨x, st⟩
  · exact ⟨by decide, by decide⟩
  · exact h1 x List.mem_cons_self
theorem sV_in {j : Nat} {m : mH} (H : Inv j m) {a p l : Int} (a0 : 0 ≤ a) (a1 : a < m 200 10) (il : InI l) : InL (sV m a p l) := by
  have hn := H.ns
  have hr := H.ra a0 (by omega)
  unfold sV
  split
  · have := txV_in H (t := m 217 a) (p := p) (f := fA m a (if p = 2 then l else 0)) (by omega) (by omega) (by omega) (by omega) (fA_in H a0 a1 (by split <;> first | exact il | exact ⟨by decide, by decide⟩))
    exact ⟨by have := this.1; omega, by have := this.2; omega⟩
  · exact ⟨by decide, by decide⟩
theorem p_says {u : gT} (j : Nat) (h : mH) (hj : j < 512) (hI : Inv j h) (x p l : Int) (i1 : InI x) (i2 : InI p) (i3 : InI l) : PairL u Inv MX11_says MX12_says [(0, x), (0, p), (0, l)] j h := by
  have hS := hI.1
  by_cases q : 0 ≤ x ∧ x < h 200 10
  · refine (says_t (d := 2041) (b := 300) hI Cl_rfl hS q.1 q.2 i2 i3).mono ?_
    rintro r h1 ⟨rfl, gS, gK⟩ -
    refine ⟨_, rfl, sV_in hI q.1 q.2 i3, (s_X12_says (u := u) (d := 2040) (b := 0) (m := h) hI (fun y k z => gK y k (by omega)) gS i1 i2 i3).mono ?_⟩
    rintro r h2 ⟨rfl, gS2, gK2⟩ -
    rw [if_pos q]
    refine ⟨rfl, Inv_scr gS2 (fun y k z => ?_) hI⟩
    unfold scr at z
    rw [gK2 y k (by omega), gK y k (by omega)]
  · refine (says_f (d := 2041) (b := 300) hI Cl_rfl hS i1 q i2 i3).rlt.mono ?_
    rintro r h1 ⟨rfl, rfl⟩ -
    refine ⟨_, rfl, ⟨by decide, by decide⟩, (s_X12_says (u := u) (d := 2040) (b := 0) hI Cr_rfl hS i1 i2 i3).mono ?_⟩
    rintro r h2 ⟨rfl, gS2, gK2⟩ -
    rw [if_neg q]
    refine ⟨rfl, Inv_scr gS2 (fun y k z => ?_) hI⟩
    unfold scr at z
    exact gK2 y k (by omega)
theorem s_X11_isFit {u : gT} {j : Nat} {h m : mH} {d b : Nat} (H : Inv j m) (e : Cl h m) (hS : St h) {f : Int} (f0 : 0 ≤ f) (f1 : f < m 200 0) {a : Int} (a0 : 0 ≤ a) (a1 : a < m 200 10) : Rlt (gX (gq u)) MX11_isFit (d + 6) b [(2, 1), (2, 100 + f), (2, 120 + a)] h (fun r h1 => r = (0, bI (fitP m f a)) ∧ St h1 ∧ Kz h h1) := by
  refine Rlt.of ?_
  have hn := H.ns
  have e12 := H.n12
  have e13 := H.n13
  have e11 := H.n11
  have hgr := H.gr a0 a1
  have hA := tA_8 H a0 a1
  show WP (gX (gq u)) MX11_isFit (d + 6) b _ 0 [(2, 1), (2, 100 + f), (2, 120 + a)] [] h
  refine wp_aload_n rfl rfl dX11_isFit_0 ?_
  refine wp_getfield1 (z := 1) (kI := 11) fX11_230 dX11_isFit_1 (by first | omega | (simp (disch := omega) only [up2_ne, up2_eq, e, e11, e12, e13, H.a4, H.az, H.r3, H.rz, H.fe, H.fz, H.f2, H.a3, st_1_m1 hS, st_1_m1 H.1]; first | done | omega)) (by first | assumption | (simp (disch := omega) only [up2_ne, up2_eq, e, e11, e12, e13, H.a4, H.az, H.r3, H.rz, H.fe, H.fz, H.f2, H.a3, st_1_m1 hS, st_1_m1 H.1]; first | done | rfl | omega)) rfl rfl ?_
  try simp (disch := omega) only [up2_ne, up2_eq, e, e11, e12, e13, H.a4, H.az, H.r3, H.rz, H.fe, H.fz, H.f2, H.a3, st_1_m1 hS, st_1_m1 H.1]
  refine wp_ifnonnull (tgt := 43) dX11_isFit_4 (by decide) (fun c1 => ?_) (fun c1 => ?_)
  · refine wp_iconst dX11_isFit_43 ?_
    refine wp_zret (by first | exact Or.inl rfl | exact Or.inr rfl | omega) dX11_isFit_44 rfl ?_
    first
      | exact ⟨by rw [bI_t ⟨by omega, by omega, by omega, by omega⟩], z2, z3⟩
      | exact ⟨by rw [bI_f (by rintro ⟨y1, y2, y3, y4⟩; omega)], z2, z3⟩
      | exact ⟨by rw [bI_t ⟨by omega, by omega, by omega, by omega⟩], hS, fun _ _ _ => rfl⟩
      | exact ⟨by rw [bI_f (by rintro ⟨y1, y2, y3, y4⟩; omega)], hS, fun _ _ _ => rfl⟩
      | (exfalso; omega)
  · refine wp_aload_n rfl rfl dX11_isFit_7 ?_
    refine wp_getfield1 (z := 3) (kI := 0) fX11_123 dX11_isFit_8 (by first | omega | (simp (disch := omega) only [up2_ne, up2_eq, e, e11, e12, e13, H.a4, H.az, H.r3, H.rz, H.fe, H.fz, H.f2, H.a3, st_1_m1 hS, st_1_m1 H.1]; first | done | omega)) (by first | assumption | (simp (disch := omega) only [up2_ne, up2_eq, e, e11, e12, e13, H.a4, H.az, H.r3, H.rz, H.fe, H.fz, H.f2, H.a3, st_1_m1 hS, st_1_m1 H.1]; first | done | rfl | omega)) rfl rfl ?_
    try simp (disch := omega) only [up2_ne, up2_eq, e, e11, e12, e13, H.a4, H.az, H.r3, H.rz, H.fe, H.fz, H.f2, H.a3, st_1_m1 hS, st_1_m1 H.1]
    refine wp_aload_n rfl rfl dX11_isFit_11 ?_
    refine wp_getfield1 (z := 1) (kI := 3) fX11_211 dX11_isFit_12 (by first | omega | (simp (disch := omega) only [up2_ne, up2_eq, e, e11, e12, e13, H.a4, H.az, H.r3, H.rz, H.fe, H.fz, H.f2, H.a3, st_1_m1 hS, st_1_m1 H.1]; first | done | omega)) (by first | assumption | (simp (disch := omega) only [up2_ne, up2_eq, e, e11, e12, e13, H.a4, H.az, H.r3, H.rz, H.fe, H.fz, H.f2, H.a3, st_1_m1 hS, st_1_m1 H.1]; first | done | rfl | omega)) rfl rfl ?_
    try simp (disch := omega) only [up2_ne, up2_eq, e, e11, e12, e13, H.a4, H.az, H.r3, H.rz, H.fe, H.fz, H.f2, H.a3, st_1_m1 hS, st_1_m1 H.1]
    refine wp_cS2 okX11_hasBit wX11_270 dX11_isFit_15 rfl (Nat.le_of_ble_eq_true rfl) (Nat.le_of_ble_eq_true rfl) (s_X11_hasBit) (Nat.zero_le _) ?_
    try simp (disch := omega) only [up2_ne, up2_eq, e, e11, e12, e13, H.a4, H.az, H.r3, H.rz, H.fe, H.fz, H.f2, H.a3, st_1_m1 hS, st_1_m1 H.1]
    refine wp_ifB_eq (tgt := 43) dX11_isFit_18 (by decide) (fun c2 => ?_) (fun c2 => ?_)
    · refine wp_iconst dX11_isFit_43 ?_
      refine wp_zret (by first | exact Or.inl rfl | exact Or.inr rfl | omega) dX11_isFit_44 rfl ?_
      first
        | exact ⟨by rw [bI_t ⟨by omega, by omega, by omega, by omega⟩], z2, z3⟩
        | exact ⟨by rw [bI_f (by rintro ⟨y1, y2, y3, y4⟩; omega)], z2, z3⟩
        | exact ⟨by rw [bI_t ⟨by omega, by omega, by omega, by omega⟩], hS, fun _ _ _ => rfl⟩
        | exact ⟨by rw [bI_f (by rintro ⟨y1, y2, y3, y4⟩; omega)], hS, fun _ _ _ => rfl⟩
        | (exfalso; omega)
    · refine wp_aload_n rfl rfl dX11_isFit_21 ?_
      refine wp_aload_n rfl rfl dX11_isFit_22 ?_
      refine wp_cV1 (ci := 11) okX11_marksThatCount rfl rfl wX11_226 dX11_isFit_23 rfl (Nat.le_of_ble_eq_true rfl) (Nat.le_of_ble_eq_true rfl) (by first | omega | (simp (disch := omega) only [up2_ne, up2_eq, e, e11, e12, e13, H.a4, H.az, H.r3, H.rz, H.fe, H.fz, H.f2, H.a3, st_1_m1 hS, st_1_m1 H.1]; first | done | omega)) (by first | assumption | (simp (disch := omega) only [up2_ne, up2_eq, e, e11, e12, e13, H.a4, H.az, H.r3, H.rz, H.fe, H.fz, H.f2, H.a3, st_1_m1 hS, st_1_m1 H.1]; first | done | rfl | omega)) (s_X11_marksThatCount H e hS a0 a1) (Nat.zero_le _) ?_
      try simp (disch := omega) only [up2_ne, up2_eq, e, e11, e12, e13, H.a4, H.az, H.r3, H.rz, H.fe, H.fz, H.f2, H.a3, st_1_m1 hS, st_1_m1 H.1]
      refine wp_if_le (tgt := 43) (by first | assumption | exact bI_in _ | exact ⟨by omega, by omega⟩ | exact iAnd_in | exact iOr_in | exact iShr_in | exact iShl_in | exact iXor_in | exact hxs _) dX11_isFit_26 (by decide) (fun c3 => ?_) (fun c3 => ?_)
      · refine wp_iconst dX11_isFit_43 ?_
        refine wp_zret (by first | exact Or.inl rfl | exact Or.inr rfl | omega) dX11_isFit_44 rfl ?_
        first
          | exact ⟨by rw [bI_t ⟨by omega, by omega, by omega, by omega⟩], z2, z3⟩
          | exact ⟨by rw [bI_f (by rintro ⟨y1, y2, y3, y4⟩; omega)], z2, z3⟩
          | exact ⟨by rw [bI_t ⟨by omega, by omega, by omega, by omega⟩], hS, fun _ _ _ => rfl⟩
          | exact ⟨by rw [bI_f (by rintro ⟨y1, y2, y3, y4⟩; omega)], hS, fun _ _ _ => rfl⟩
          | (exfalso; omega)
      · refine wp_aload_n rfl rfl dX11_isFit_29 ?_
        refine wp_aload_n rfl rfl dX11_isFit_30 ?_
        refine wp_iconst dX11_isFit_31 ?_
        refine wp_iconst dX11_isFit_32 ?_
        refine wp_cV3r (ci := 11) okX11_reckonFor rfl rfl wX11_260 dX11_isFit_33 (Nat.le_of_ble_eq_true rfl) (Nat.le_of_ble_eq_true rfl) (by first | omega | (simp (disch := omega) only [up2_ne, up2_eq, e, e11, e12, e13, H.a4, H.az, H.r3, H.rz, H.fe, H.fz, H.f2, H.a3, st_1_m1 hS, st_1_m1 H.1]; first | done | omega)) (by first | assumption | (simp (disch := omega) only [up2_ne, up2_eq, e, e11, e12, e13, H.a4, H.az, H.r3, H.rz, H.fe, H.fz, H.f2, H.a3, st_1_m1 hS, st_1_m1 H.1]; first | done | rfl | omega)) (s_X11_reckonFor H e hS a0 a1 (by decide) (by decide) (by exact ⟨by decide, by decide⟩)) (Nat.zero_le _) ?_
        rintro r g ⟨rfl, z1, z2, z3⟩ -
        show WP _ _ _ _ _ _ _ ((0, _) :: _) _
        refine wp_if_eq (tgt := 43) (by first | assumption | exact bI_in _ | exact ⟨by omega, by omega⟩ | exact iAnd_in | exact iOr_in | exact iShr_in | exact iShl_in | exact iXor_in | exact hxs _) dX11_isFit_36 (by decide) (fun c4 => ?_) (fun c4 => ?_)
        · refine wp_iconst dX11_isFit_43 ?_
          refine wp_zret (by first | exact Or.inl rfl | exact Or.inr rfl | omega) dX11_isFit_44 rfl ?_
          first
            | exact ⟨by rw [bI_t ⟨by omega, by omega, by omega, by omega⟩], z2, z3⟩
            | exact ⟨by rw [bI_f (by rintro ⟨y1, y2, y3, y4⟩; omega)], z2, z3⟩
            | exact ⟨by rw [bI_t ⟨by omega, by omega, by omega, by omega⟩], hS, fun _ _ _ => rfl⟩
            | exact ⟨by rw [bI_f (by rintro ⟨y1, y2, y3, y4⟩; omega)], hS, fun _ _ _ => rfl⟩
            | (exfalso; omega)
        · refine wp_iconst dX11_isFit_39 ?_
          refine wp_goto (tgt := 44) dX11_isFit_40 (by decide) ?_
          refine wp_zret (by first | exact Or.inl rfl | exact Or.inr rfl | omega) dX11_isFit_44 rfl ?_
          first
            | exact ⟨by rw [bI_t ⟨by omega, by omega, by omega, by omega⟩], z2, z3⟩
            | exact ⟨by rw [bI_f (by rintro ⟨y1, y2, y3, y4⟩; omega)], z2, z3⟩
            | exact ⟨by rw [bI_t ⟨by omega, by omega, by omega, by omega⟩], hS, fun _ _ _ => rfl⟩
            | exact ⟨by rw [bI_f (by rintro ⟨y1, y2, y3, y4⟩; omega)], hS, fun _ _ _ => rfl⟩
            | (exfalso; omega)
theorem s_X12_isFit {u : gT} {j : Nat} {h m : mH} {d b : Nat} (H : Inv j m) (e : Cr h m) (hS : St h) {f : Int} (f0 : 0 ≤ f) (f1 : f < m 200 0) {a : Int} (a0 : 0 ≤ a) (a1 : a < m 200 10) : Rlt (gX (gq u)) MX12_isFit (d + 7) b [(2, 200), (0, f), (0, a)] h (fun r h1 => r = (0, bI (fitP m f a)) ∧ St h1 ∧ Kq h h1) := by
  refine Rlt.of ?_
  have hn := H.ns
  have hra := H.ra a0 (by omega)
  have hgr := H.gr a0 a1
  have hA := tA_8 H a0 a1
  have hfe : 0 ≤ m 201 f ∧ m 201 f ≤ 63 := by have := (H.2.2.1 f f0 (by omega)).2; omega
  have hb01 := bt_01 (x := m 201 f) (i := m 214 a) (by omega) (by omega) (by omega) (by omega)
  show WP (gX (gq u)) MX12_isFit (d + 7) b _ 0 [(2, 200), (0, f), (0, a)] [] h
  refine wp_aload_n rfl rfl dX12_isFit_0 ?_
  refine wp_getfield1 (z := 13) (kI := 1) fX12_19 dX12_isFit_1 (by first | omega | (simp (disch := omega) only [up2_ne, up2_eq, e, st_200_m1 hS, st_200_m1 H.1, st_200_1 hS, st_200_1 H.1, st_200_14 hS, st_200_14 H.1, st_200_21 hS, st_200_21 H.1, st_201_m2 hS, st_201_m2 H.1, st_201_m1 hS, st_201_m1 H.1, st_214_m2 hS, st_214_m2 H.1, st_214_m1 hS, st_214_m1 H.1, st_221_m2 hS, st_221_m2 H.1, st_221_m1 hS, st_221_m1 H.1]; first | done | omega)) (by first | assumption | (simp (disch := omega) only [up2_ne, up2_eq, e, st_200_m1 hS, st_200_m1 H.1, st_200_1 hS, st_200_1 H.1, st_200_14 hS, st_200_14 H.1, st_200_21 hS, st_200_21 H.1, st_201_m2 hS, st_201_m2 H.1, st_201_m1 hS, st_201_m1 H.1, st_214_m2 hS, st_214_m2 H.1, st_214_m1 hS, st_214_m1 H.1, st_221_m2 hS, st_221_m2 H.1, st_221_m1 hS, st_221_m1 H.1]; first | done | rfl | omega)) rfl rfl ?_
  try simp (disch := omega) only [up2_ne, up2_eq, e, st_200_m1 hS, st_200_m1 H.1, st_200_1 hS, st_200_1 H.1, st_200_14 hS, st_200_14 H.1, st_200_21 hS, st_200_21 H.1, st_201_m2 hS, st_201_m2 H.1, st_201_m1 hS, st_201_m1 H.1, st_214_m2 hS, st_214_m2 H.1, st_214_m1 hS, st_214_m1 H.1, st_221_m2 hS, st_221_m2 H.1, st_221_m1 hS, st_221_m1 H.1]
  refine wp_iload_n rfl rfl dX12_isFit_4 ?_
  refine wp_iaload1 dX12_isFit_5 (by first | omega | (simp (disch := omega) only [up2_ne, up2_eq, e, st_200_m1 hS, st_200_m1 H.1, st_200_1 hS, st_200_1 H.1, st_200_14 hS, st_200_14 H.1, st_200_21 hS, st_200_21 H.1, st_201_m2 hS, st_201_m2 H.1, st_201_m1 hS, st_201_m1 H.1, st_214_m2 hS, st_214_m2 H.1, st_214_m1 hS, st_214_m1 H.1, st_221_m2 hS, st_221_m2 H.1, st_221_m1 hS, st_221_m1 H.1]; first | done | omega)) (by first | assumption | (simp (disch := omega) only [up2_ne, up2_eq, e, st_200_m1 hS, st_200_m1 H.1, st_200_1 hS, st_200_1 H.1, st_200_14 hS, st_200_14 H.1, st_200_21 hS, st_200_21 H.1, st_201_m2 hS, st_201_m2 H.1, st_201_m1 hS, st_201_m1 H.1, st_214_m2 hS, st_214_m2 H.1, st_214_m1 hS, st_214_m1 H.1, st_221_m2 hS, st_221_m2 H.1, st_221_m1 hS, st_221_m1 H.1]; first | done | rfl | omega)) (by first | omega | (simp (disch := omega) only [up2_ne, up2_eq, e, st_200_m1 hS, st_200_m1 H.1, st_200_1 hS, st_200_1 H.1, st_200_14 hS, st_200_14 H.1, st_200_21 hS, st_200_21 H.1, st_201_m2 hS, st_201_m2 H.1, st_201_m1 hS, st_201_m1 H.1, st_214_m2 hS, st_214_m2 H.1, st_214_m1 hS, st_214_m1 H.1, st_221_m2 hS, st_221_m2 H.1, st_221_m1 hS, st_221_m1 H.1]; first | done | omega)) (by first | omega | (simp (disch := omega) only [up2_ne, up2_eq, e, st_200_m1 hS, st_200_m1 H.1, st_200_1 hS, st_200_1 H.1, st_200_14 hS, st_200_14 H.1, st_200_21 hS, st_200_21 H.1, st_201_m2 hS, st_201_m2 H.1, st_201_m1 hS, st_201_m1 H.1, st_214_m2 hS, st_214_m2 H.1, st_214_m1 hS, st_214_m1 H.1, st_221_m2 hS, st_221_m2 H.1, st_221_m1 hS, st_221_m1 H.1]; first | done | omega)) ?_
  try simp (disch := omega) only [up2_ne, up2_eq, e, st_200_m1 hS, st_200_m1 H.1, st_200_1 hS, st_200_1 H.1, st_200_14 hS, st_200_14 H.1, st_200_21 hS, st_200_21 H.1, st_201_m2 hS, st_201_m2 H.1, st_201_m1 hS, st_201_m1 H.1, st_214_m2 hS, st_214_m2 H.1, st_214_m1 hS, st_214_m1 H.1, st_221_m2 hS, st_221_m2 H.1, st_221_m1 hS, st_221_m1 H.1]
  refine wp_aload_n rfl rfl dX12_isFit_6 ?_
  refine wp_getfield1 (z := 13) (kI := 14) fX12_91 dX12_isFit_7 (by first | omega | (simp (disch := omega) only [up2_ne, up2_eq, e, st_200_m1 hS, st_200_m1 H.1, st_200_1 hS, st_200_1 H.1, st_200_14 hS, st_200_14 H.1, st_200_21 hS, st_200_21 H.1, st_201_m2 hS, st_201_m2 H.1, st_201_m1 hS, st_201_m1 H.1, st_214_m2 hS, st_214_m2 H.1, st_214_m1 hS, st_214_m1 H.1, st_221_m2 hS, st_221_m2 H.1, st_221_m1 hS, st_221_m1 H.1]; first | done | omega)) (by first | assumption | (simp (disch := omega) only [up2_ne, up2_eq, e, st_200_m1 hS, st_200_m1 H.1, st_200_1 hS, st_200_1 H.1, st_200_14 hS, st_200_14 H.1, st_200_21 hS, st_200_21 H.1, st_201_m2 hS, st_201_m2 H.1, st_201_m1 hS, st_201_m1 H.1, st_214_m2 hS, st_214_m2 H.1, st_214_m1 hS, st_214_m1 H.1, st_221_m2 hS, st_221_m2 H.1, st_221_m1 hS, st_221_m1 H.1]; first | done | rfl | omega)) rfl rfl ?_
  try simp (disch := omega) only [up2_ne, up2_eq, e, st_200_m1 hS, st_200_m1 H.1, st_200_1 hS, st_200_1 H.1, st_200_14 hS, st_200_14 H.1, st_200_21 hS, st_200_21 H.1, st_201_m2 hS, st_201_m2 H.1, st_201_m1 hS, st_201_m1 H.1, st_214_m2 hS, st_214_m2 H.1, st_214_m1 hS, st_214_m1 H.1, st_221_m2 hS, st_221_m2 H.1, st_221_m1 hS, st_221_m1 H.1]
  refine wp_iload_n rfl rfl dX12_isFit_10 ?_
  refine wp_iaload1 dX12_isFit_11 (by first | omega | (simp (disch := omega) only [up2_ne, up2_eq, e, st_200_m1 hS, st_200_m1 H.1, st_200_1 hS, st_200_1 H.1, st_200_14 hS, st_200_14 H.1, st_200_21 hS, st_200_21 H.1, st_201_m2 hS, st_201_m2 H.1, st_201_m1 hS, st_201_m1 H.1, st_214_m2 hS, st_214_m2 H.1, st_214_m1 hS, st_214_m1 H.1, st_221_m2 hS, st_221_m2 H.1, st_221_m1 hS, st_221_m1 H.1]; first | done | omega)) (by first | assumption | (simp (disch := omega) only [up2_ne, up2_eq, e, st_200_m1 hS, st_200_m1 H.1, st_200_1 hS, st_200_1 H.1, st_200_14 hS, st_200_14 H.1, st_200_21 hS, st_200_21 H.1, st_201_m2 hS, st_201_m2 H.1, st_201_m1 hS, st_201_m1 H.1, st_214_m2 hS, st_214_m2 H.1, st_214_m1 hS, st_214_m1 H.1, st_221_m2 hS, st_221_m2 H.1, st_221_m1 hS, st_221_m1 H.1]; first | done | rfl | omega)) (by first | omega | (simp (disch := omega) only [up2_ne, up2_eq, e, st_200_m1 hS, st_200_m1 H.1, st_200_1 hS, st_200_1 H.1, st_200_14 hS, st_200_14 H.1, st_200_21 hS, st_200_21 H.1, st_201_m2 hS, st_201_m2 H.1, st_201_m1 hS, st_201_m1 H.1, st_214_m2 hS, st_214_m2 H.1, st_214_m1 hS, st_214_m1 H.1, st_221_m2 hS, st_221_m2 H.1, st_221_m1 hS, st_221_m1 H.1]; first | done | omega)) (by first | omega | (simp (disch := omega) only [up2_ne, up2_eq, e, st_200_m1 hS, st_200_m1 H.1, st_200_1 hS, st_200_1 H.1, st_200_14 hS, st_200_14 H.1, st_200_21 hS, st_200_21 H.1, st_201_m2 hS, st_201_m2 H.1, st_201_m1 hS, st_201_m1 H.1, st_214_m2 hS, st_214_m2 H.1, st_214_m1 hS, st_214_m1 H.1, st_221_m2 hS, st_221_m2 H.1, st_221_m1 hS, st_221_m1 H.1]; first | done | omega)) ?_
  try simp (disch := omega) only [up2_ne, up2_eq, e, st_200_m1 hS, st_200_m1 H.1, st_200_1 hS, st_200_1 H.1, st_200_14 hS, st_200_14 H.1, st_200_21 hS, st_200_21 H.1, st_201_m2 hS, st_201_m2 H.1, st_201_m1 hS, st_201_m1 H.1, st_214_m2 hS, st_214_m2 H.1, st_214_m1 hS, st_214_m1 H.1, st_221_m2 hS, st_221_m2 H.1, st_221_m1 hS, st_221_m1 H.1]
  refine wp_ishr dX12_isFit_12 ?_
  refine wp_iconst dX12_isFit_13 ?_
  refine wp_iand dX12_isFit_14 ?_
  refine wp_iconst dX12_isFit_15 ?_
  try simp only [bt_fold]
  refine wp_icmp_ne (tgt := 52) (by first | assumption | exact bI_in _ | exact ⟨by omega, by omega⟩ | exact iAnd_in | exact iOr_in | exact iShr_in | exact iShl_in | exact iXor_in | exact hxs _) (by first | assumption | exact bI_in _ | exact ⟨by omega, by omega⟩ | exact iAnd_in | exact iOr_in | exact iShr_in | exact iShl_in | exact iXor_in | exact hxs _) dX12_isFit_16 (by decide) (fun c1 => ?_) (fun c1 => ?_)
  · refine wp_iconst dX12_isFit_52 ?_
    refine wp_zret (by first | exact Or.inl rfl | exact Or.inr rfl | omega) dX12_isFit_53 rfl ?_
    first
      | exact ⟨by rw [bI_t ⟨by omega, by omega, by omega, by omega⟩], z2, z3⟩
      | exact ⟨by rw [bI_f (by rintro ⟨y1, y2, y3, y4⟩; omega)], z2, z3⟩
      | exact ⟨by rw [bI_t ⟨by omega, by omega, by omega, by omega⟩], hS, fun _ _ _ => rfl⟩
      | exact ⟨by rw [bI_f (by rintro ⟨y1, y2, y3, y4⟩; omega)], hS, fun _ _ _ => rfl⟩
      | (exfalso; omega)
  · refine wp_aload_n rfl rfl dX12_isFit_19 ?_
    refine wp_getfield1 (z := 13) (kI := 21) fX12_103 dX12_isFit_20 (by first | omega | (simp (disch := omega) only [up2_ne, up2_eq, e, st_200_m1 hS, st_200_m1 H.1, st_200_1 hS, st_200_1 H.1, st_200_14 hS, st_200_14 H.1, st_200_21 hS, st_200_21 H.1, st_201_m2 hS, st_201_m2 H.1, st_201_m1 hS, st_201_m1 H.1, st_214_m2 hS, st_214_m2 H.1, st_214_m1 hS, st_214_m1 H.1, st_221_m2 hS, st_221_m2 H.1, st_221_m1 hS, st_221_m1 H.1]; first | done | omega)) (by first | assumption | (simp (disch := omega) only [up2_ne, up2_eq, e, st_200_m1 hS, st_200_m1 H.1, st_200_1 hS, st_200_1 H.1, st_200_14 hS, st_200_14 H.1, st_200_21 hS, st_200_21 H.1, st_201_m2 hS, st_201_m2 H.1, st_201_m1 hS, st_201_m1 H.1, st_214_m2 hS, st_214_m2 H.1, st_214_m1 hS, st_214_m1 H.1, st_221_m2 hS, st_221_m2 H.1, st_221_m1 hS, st_221_m1 H.1]; first | done | rfl | omega)) rfl rfl ?_
    try simp (disch := omega) only [up2_ne, up2_eq, e, st_200_m1 hS, st_200_m1 H.1, st_200_1 hS, st_200_1 H.1, st_200_14 hS, st_200_14 H.1, st_200_21 hS, st_200_21 H.1, st_201_m2 hS, st_201_m2 H.1, st_201_m1 hS, st_201_m1 H.1, st_214_m2 hS, st_214_m2 H.1, st_214_m1 hS, st_214_m1 H.1, st_221_m2 hS, st_221_m2 H.1, st_221_m1 hS, st_221_m1 H.1]
    refine wp_iload_n rfl rfl dX12_isFit_23 ?_
    refine wp_iaload1 dX12_isFit_24 (by first | omega | (simp (disch := omega) only [up2_ne, up2_eq, e, st_200_m1 hS, st_200_m1 H.1, st_200_1 hS, st_200_1 H.1, st_200_14 hS, st_200_14 H.1, st_200_21 hS, st_200_21 H.1, st_201_m2 hS, st_201_m2 H.1, st_201_m1 hS, st_201_m1 H.1, st_214_m2 hS, st_214_m2 H.1, st_214_m1 hS, st_214_m1 H.1, st_221_m2 hS, st_221_m2 H.1, st_221_m1 hS, st_221_m1 H.1]; first | done | omega)) (by first | assumption | (simp (disch := omega) only [up2_ne, up2_eq, e, st_200_m1 hS, st_200_m1 H.1, st_200_1 hS, st_200_1 H.1, st_200_14 hS, st_200_14 H.1, st_200_21 hS, st_200_21 H.1, st_201_m2 hS, st_201_m2 H.1, st_201_m1 hS, st_201_m1 H.1, st_214_m2 hS, st_214_m2 H.1, st_214_m1 hS, st_214_m1 H.1, st_221_m2 hS, st_221_m2 H.1, st_221_m1 hS, st_221_m1 H.1]; first | done | rfl | omega)) (by first | omega | (simp (disch := omega) only [up2_ne, up2_eq, e, st_200_m1 hS, st_200_m1 H.1, st_200_1 hS, st_200_1 H.1, st_200_14 hS, st_200_14 H.1, st_200_21 hS, st_200_21 H.1, st_201_m2 hS, st_201_m2 H.1, st_201_m1 hS, st_201_m1 H.1, st_214_m2 hS, st_214_m2 H.1, st_214_m1 hS, st_214_m1 H.1, st_221_m2 hS, st_221_m2 H.1, st_221_m1 hS, st_221_m1 H.1]; first | done | omega)) (by first | omega | (simp (disch := omega) only [up2_ne, up2_eq, e, st_200_m1 hS, st_200_m1 H.1, st_200_1 hS, st_200_1 H.1, st_200_14 hS, st_200_14 H.1, st_200_21 hS, st_200_21 H.1, st_201_m2 hS, st_201_m2 H.1, st_201_m1 hS, st_201_m1 H.1, st_214_m2 hS, st_214_m2 H.1, st_214_m1 hS, st_214_m1 H.1, st_221_m2 hS, st_221_m2 H.1, st_221_m1 hS, st_221_m1 H.1]; first | done | omega)) ?_
    try simp (disch := omega) only [up2_ne, up2_eq, e, st_200_m1 hS, st_200_m1 H.1, st_200_1 hS, st_200_1 H.1, st_200_14 hS, st_200_14 H.1, st_200_21 hS, st_200_21 H.1, st_201_m2 hS, st_201_m2 H.1, st_201_m1 hS, st_201_m1 H.1, st_214_m2 hS, st_214_m2 H.1, st_214_m1 hS, st_214_m1 H.1, st_221_m2 hS, st_221_m2 H.1, st_221_m1 hS, st_221_m1 H.1]
    refine wp_iconst dX12_isFit_25 ?_
    refine wp_icmp_ne (tgt := 52) (by first | assumption | exact bI_in _ | exact ⟨by omega, by omega⟩ | exact iAnd_in | exact iOr_in | exact iShr_in | exact iShl_in | exact iXor_in | exact hxs _) (by first | assumption | exact bI_in _ | exact ⟨by omega, by omega⟩ | exact iAnd_in | exact iOr_in | exact iShr_in | exact iShl_in | exact iXor_in | exact hxs _) dX12_isFit_26 (by decide) (fun c2 => ?_) (fun c2 => ?_)
    · refine wp_iconst dX12_isFit_52 ?_
      refine wp_zret (by first | exact Or.inl rfl | exact Or.inr rfl | omega) dX12_isFit_53 rfl ?_
      first
        | exact ⟨by rw [bI_t ⟨by omega, by omega, by omega, by omega⟩], z2, z3⟩
        | exact ⟨by rw [bI_f (by rintro ⟨y1, y2, y3, y4⟩; omega)], z2, z3⟩
        | exact ⟨by rw [bI_t ⟨by omega, by omega, by omega, by omega⟩], hS, fun _ _ _ => rfl⟩
        | exact ⟨by rw [bI_f (by rintro ⟨y1, y2, y3, y4⟩; omega)], hS, fun _ _ _ => rfl⟩
        | (exfalso; omega)
    · refine wp_aload_n rfl rfl dX12_isFit_29 ?_
      refine wp_iconst dX12_isFit_30 ?_
      refine wp_iload_n rfl rfl dX12_isFit_31 ?_
      refine wp_cV2 (ci := 12) okX12_countOf rfl rfl wX12_65 dX12_isFit_32 rfl (Nat.le_of_ble_eq_true rfl) (Nat.le_of_ble_eq_true rfl) (by first | omega | (simp (disch := omega) only [up2_ne, up2_eq, e, st_200_m1 hS, st_200_m1 H.1, st_200_1 hS, st_200_1 H.1, st_200_14 hS, st_200_14 H.1, st_200_21 hS, st_200_21 H.1, st_201_m2 hS, st_201_m2 H.1, st_201_m1 hS, st_201_m1 H.1, st_214_m2 hS, st_214_m2 H.1, st_214_m1 hS, st_214_m1 H.1, st_221_m2 hS, st_221_m2 H.1, st_221_m1 hS, st_221_m1 H.1]; first | done | omega)) (by first | assumption | (simp (disch := omega) only [up2_ne, up2_eq, e, st_200_m1 hS, st_200_m1 H.1, st_200_1 hS, st_200_1 H.1, st_200_14 hS, st_200_14 H.1, st_200_21 hS, st_200_21 H.1, st_201_m2 hS, st_201_m2 H.1, st_201_m1 hS, st_201_m1 H.1, st_214_m2 hS, st_214_m2 H.1, st_214_m1 hS, st_214_m1 H.1, st_221_m2 hS, st_221_m2 H.1, st_221_m1 hS, st_221_m1 H.1]; first | done | rfl | omega)) (rcnt_A H e hS a0 a1) (Nat.zero_le _) ?_
      try simp (disch := omega) only [up2_ne, up2_eq, e, st_200_m1 hS, st_200_m1 H.1, st_200_1 hS, st_200_1 H.1, st_200_14 hS, st_200_14 H.1, st_200_21 hS, st_200_21 H.1, st_201_m2 hS, st_201_m2 H.1, st_201_m1 hS, st_201_m1 H.1, st_214_m2 hS, st_214_m2 H.1, st_214_m1 hS, st_214_m1 H.1, st_221_m2 hS, st_221_m2 H.1, st_221_m1 hS, st_221_m1 H.1]
      refine wp_if_le (tgt := 52) (by first | assumption | exact bI_in _ | exact ⟨by omega, by omega⟩ | exact iAnd_in | exact iOr_in | exact iShr_in | exact iShl_in | exact iXor_in | exact hxs _) dX12_isFit_35 (by decide) (fun c3 => ?_) (fun c3 => ?_)
      · refine wp_iconst dX12_isFit_52 ?_
        refine wp_zret (by first | exact Or.inl rfl | exact Or.inr rfl | omega) dX12_isFit_53 rfl ?_
        first
          | exact ⟨by rw [bI_t ⟨by omega, by omega, by omega, by omega⟩], z2, z3⟩
          | exact ⟨by rw [bI_f (by rintro ⟨y1, y2, y3, y4⟩; omega)], z2, z3⟩
          | exact ⟨by rw [bI_t ⟨by omega, by omega, by omega, by omega⟩], hS, fun _ _ _ => rfl⟩
          | exact ⟨by rw [bI_f (by rintro ⟨y1, y2, y3, y4⟩; omega)], hS, fun _ _ _ => rfl⟩
          | (exfalso; omega)
      · refine wp_aload_n rfl rfl dX12_isFit_38 ?_
        refine wp_iload_n rfl rfl dX12_isFit_39 ?_
        refine wp_iconst dX12_isFit_40 ?_
        refine wp_iconst dX12_isFit_41 ?_
        refine wp_cV3r (ci := 12) okX12_valueOf rfl rfl wX12_283 dX12_isFit_42 (Nat.le_of_ble_eq_true rfl) (Nat.le_of_ble_eq_true rfl) (by first | omega | (simp (disch := omega) only [up2_ne, up2_eq, e, st_200_m1 hS, st_200_m1 H.1, st_200_1 hS, st_200_1 H.1, st_200_14 hS, st_200_14 H.1, st_200_21 hS, st_200_21 H.1, st_201_m2 hS, st_201_m2 H.1, st_201_m1 hS, st_201_m1 H.1, st_214_m2 hS, st_214_m2 H.1, st_214_m1 hS, st_214_m1 H.1, st_221_m2 hS, st_221_m2 H.1, st_221_m1 hS, st_221_m1 H.1]; first | done | omega)) (by first | assumption | (simp (disch := omega) only [up2_ne, up2_eq, e, st_200_m1 hS, st_200_m1 H.1, st_200_1 hS, st_200_1 H.1, st_200_14 hS, st_200_14 H.1, st_200_21 hS, st_200_21 H.1, st_201_m2 hS, st_201_m2 H.1, st_201_m1 hS, st_201_m1 H.1, st_214_m2 hS, st_214_m2 H.1, st_214_m1 hS, st_214_m1 H.1, st_221_m2 hS, st_221_m2 H.1, st_221_m1 hS, st_221_m1 H.1]; first | done | rfl | omega)) (s_X12_valueOf H e hS a0 a1 (by decide) (by decide) (by exact ⟨by decide, by decide⟩)) (Nat.zero_le _) ?_
        rintro r g ⟨rfl, z1, z2, z3⟩ -
        rw [show (if (1 : Int) = 2 then (0 : Int) else 0) = 0 from rfl] at z1 ⊢
        show WP _ _ _ _ _ _ _ ((0, _) :: _) _
        refine wp_if_eq (tgt := 52) (by first | assumption | exact bI_in _ | exact ⟨by omega, by omega⟩ | exact iAnd_in | exact iOr_in | exact iShr_in | exact iShl_in | exact iXor_in | exact hxs _) dX12_isFit_45 (by decide) (fun c4 => ?_) (fun c4 => ?_)
        · refine wp_iconst dX12_isFit_52 ?_
          refine wp_zret (by first | exact Or.inl rfl | exact Or.inr rfl | omega) dX12_isFit_53 rfl ?_
          first
            | exact ⟨by rw [bI_t ⟨by omega, by omega, by omega, by omega⟩], z2, z3⟩
            | exact ⟨by rw [bI_f (by rintro ⟨y1, y2, y3, y4⟩; omega)], z2, z3⟩
            | exact ⟨by rw [bI_t ⟨by omega, by omega, by omega, by omega⟩], hS, fun _ _ _ => rfl⟩
            | exact ⟨by rw [bI_f (by rintro ⟨y1, y2, y3, y4⟩; omega)], hS, fun _ _ _ => rfl⟩
            | (exfalso; omega)
        · refine wp_iconst dX12_isFit_48 ?_
          refine wp_goto (tgt := 53) dX12_isFit_49 (by decide) ?_
          refine wp_zret (by first | exact Or.inl rfl | exact Or.inr rfl | omega) dX12_isFit_53 rfl ?_
          first
            | exact ⟨by rw [bI_t ⟨by omega, by omega, by omega, by omega⟩], z2, z3⟩
            | exact ⟨by rw [bI_f (by rintro ⟨y1, y2, y3, y4⟩; omega)], z2, z3⟩
            | exact ⟨by rw [bI_t ⟨by omega, by omega, by omega, by omega⟩], hS, fun _ _ _ => rfl⟩
            | exact ⟨by rw [bI_f (by rintro ⟨y1, y2, y3, y4⟩; omega)], hS, fun _ _ _ => rfl⟩
            | (exfalso; omega)
theorem fit_f1 {u : gT} {j : Nat} {h m : mH} {d b : Nat} (H : Inv j m) (e : Cl h m) (hS : St h) {f a : Int} (i1 : InI f) (ia : InI a) (q : ¬ (0 ≤ f ∧ f < m 200 0)) : Det (gX (gq u)) MX11_fit (d + 7) b [(2, 1), (0, f), (0, a)] h (0, -2) h := by
  intro Q hQ
  have hn := H.ns
  have e12 := H.n12
  have e13 := H.n13
  have e11 := H.n11
  show WP (gX (gq u)) MX11_fit (d + 7) b Q 0 [(2, 1), (0, f), (0, a), (9, 0), (9, 0)] [] h
  refine wp_aload_n rfl rfl dX11_fit_0 ?_
  refine wp_iload_n rfl rfl dX11_fit_1 ?_
  refine wp_cV1 (ci := 11) okX11_findFund rfl rfl wX11_108 dX11_fit_2 rfl (Nat.le_of_ble_eq_true rfl) (Nat.le_of_ble_eq_true rfl) (by first | omega | (simp (disch := omega) only [up2_ne, up2_eq, e, e11, e12, e13, H.a4, H.az, H.r3, H.rz, H.fe, H.fz, H.f2, H.a3, st_1_m1 hS, st_1_m1 H.1]; first | done | omega)) (by first | assumption | (simp (disch := omega) only [up2_ne, up2_eq, e, e11, e12, e13, H.a4, H.az, H.r3, H.rz, H.fe, H.fz, H.f2, H.a3, st_1_m1 hS, st_1_m1 H.1]; first | done | rfl | omega)) (ndF_f H e hS i1 q) (Nat.zero_le _) ?_
  try simp (disch := omega) only [up2_ne, up2_eq, e, e11, e12, e13, H.a4, H.az, H.r3, H.rz, H.fe, H.fz, H.f2, H.a3, st_1_m1 hS, st_1_m1 H.1]
  refine wp_astore_n rfl dX11_fit_5 rfl (Nat.le_of_ble_eq_true rfl) rfl ?_
  try simp only [List.set_cons_zero, List.set_cons_succ]
  refine wp_aload_n rfl rfl dX11_fit_6 ?_
  refine wp_iload_n rfl rfl dX11_fit_7 ?_
  refine wp_cV1 (ci := 11) okX11_findAsking rfl rfl wX11_200 dX11_fit_8 rfl (Nat.le_of_ble_eq_true rfl) (Nat.le_of_ble_eq_true rfl) (by first | omega | (simp (disch := omega) only [up2_ne, up2_eq, e, e11, e12, e13, H.a4, H.az, H.r3, H.rz, H.fe, H.fz, H.f2, H.a3, st_1_m1 hS, st_1_m1 H.1]; first | done | omega)) (by first | assumption | (simp (disch := omega) only [up2_ne, up2_eq, e, e11, e12, e13, H.a4, H.az, H.r3, H.rz, H.fe, H.fz, H.f2, H.a3, st_1_m1 hS, st_1_m1 H.1]; first | done | rfl | omega)) (ndA_g H e hS ia) (Nat.zero_le _) ?_
  try simp (disch := omega) only [up2_ne, up2_eq, e, e11, e12, e13, H.a4, H.az, H.r3, H.rz, H.fe, H.fz, H.f2, H.a3, st_1_m1 hS, st_1_m1 H.1]
  refine wp_astore dX11_fit_11 rfl (Nat.le_of_ble_eq_true rfl) rfl ?_
  try simp only [List.set_cons_zero, List.set_cons_succ]
  refine wp_aload_n rfl rfl dX11_fit_13 ?_
  refine wp_ifnull (tgt := 22) dX11_fit_14 (by decide) (fun hx => ?_) (fun hx => absurd rfl hx)
  refine wp_bipush (by decide) dX11_fit_22 ?_
  refine wp_iret dX11_fit_24 rfl ?_
  exact hQ
theorem fit_f2 {u : gT} {j : Nat} {h m : mH} {d b : Nat} (H : Inv j m) (e : Cl h m) (hS : St h) {f : Int} (f0 : 0 ≤ f) (f1 : f < m 200 0) {a : Int} (ia : InI a) (q : ¬ (0 ≤ a ∧ a < m 200 10)) : Det (gX (gq u)) MX11_fit (d + 7) b [(2, 1), (0, f), (0, a)] h (0, -2) h := by
  intro Q hQ
  have hn := H.ns
  have e12 := H.n12
  have e13 := H.n13
  have e11 := H.n11
  show WP (gX (gq u)) MX11_fit (d + 7) b Q 0 [(2, 1), (0, f), (0, a), (9, 0), (9, 0)] [] h
  refine wp_aload_n rfl rfl dX11_fit_0 ?_
  refine wp_iload_n rfl rfl dX11_fit_1 ?_
  refine wp_cV1 (ci := 11) okX11_findFund rfl rfl wX11_108 dX11_fit_2 rfl (Nat.le_of_ble_eq_true rfl) (Nat.le_of_ble_eq_true rfl) (by first | omega | (simp (disch := omega) only [up2_ne, up2_eq, e, e11, e12, e13, H.a4, H.az, H.r3, H.rz, H.fe, H.fz, H.f2, H.a3, st_1_m1 hS, st_1_m1 H.1]; first | done | omega)) (by first | assumption | (simp (disch := omega) only [up2_ne, up2_eq, e, e11, e12, e13, H.a4, H.az, H.r3, H.rz, H.fe, H.fz, H.f2, H.a3, st_1_m1 hS, st_1_m1 H.1]; first | done | rfl | omega)) (ndF_t H e hS f0 f1) (Nat.zero_le _) ?_
  try simp (disch := omega) only [up2_ne, up2_eq, e, e11, e12, e13, H.a4, H.az, H.r3, H.rz, H.fe, H.fz, H.f2, H.a3, st_1_m1 hS, st_1_m1 H.1]
  refine wp_astore_n rfl dX11_fit_5 rfl (Nat.le_of_ble_eq_true rfl) rfl ?_
  try simp only [List.set_cons_zero, List.set_cons_succ]
  refine wp_aload_n rfl rfl dX11_fit_6 ?_
  refine wp_iload_n rfl rfl dX11_fit_7 ?_
  refine wp_cV1 (ci := 11) okX11_findAsking rfl rfl wX11_200 dX11_fit_8 rfl (Nat.le_of_ble_eq_true rfl) (Nat.le_of_ble_eq_true rfl) (by first | omega | (simp (disch := omega) only [up2_ne, up2_eq, e, e11, e12, e13, H.a4, H.az, H.r3, H.rz, H.fe, H.fz, H.f2, H.a3, st_1_m1 hS, st_1_m1 H.1]; first | done | omega)) (by first | assumption | (simp (disch := omega) only [up2_ne, up2_eq, e, e11, e12, e13, H.a4, H.az, H.r3, H.rz, H.fe, H.fz, H.f2, H.a3, st_1_m1 hS, st_1_m1 H.1]; first | done | rfl | omega)) (ndA_f H e hS ia q) (Nat.zero_le _) ?_
  try simp (disch := omega) only [up2_ne, up2_eq, e, e11, e12, e13, H.a4, H.az, H.r3, H.rz, H.fe, H.fz, H.f2, H.a3, st_1_m1 hS, st_1_m1 H.1]
  refine wp_astore dX11_fit_11 rfl (Nat.le_of_ble_eq_true rfl) rfl ?_
  try simp only [List.set_cons_zero, List.set_cons_succ]
  refine wp_aload_n rfl rfl dX11_fit_13 ?_
  refine wp_ifnull (tgt := 22) dX11_fit_14 (by decide) (fun hx => absurd hx (by omega)) (fun hx => ?_)
  refine wp_aload rfl dX11_fit_17 ?_
  refine wp_ifnonnull (tgt := 25) dX11_fit_19 (by decide) (fun hx => absurd rfl hx) (fun hx => ?_)
  refine wp_bipush (by decide) dX11_fit_22 ?_
  refine wp_iret dX11_fit_24 rfl ?_
  exact hQ
theorem fit_t {u : gT} {j : Nat} {h m : mH} {d b : Nat} (H : Inv j m) (e : Cl h m) (hS : St h) {f : Int} (f0 : 0 ≤ f) (f1 : f < m 200 0) {a : Int} (a0 : 0 ≤ a) (a1 : a < m 200 10) : Rlt (gX (gq u)) MX11_fit (d + 7) b [(2, 1), (0, f), (0, a)] h (fun r h1 => r = (0, bI (fitP m f a)) ∧ St h1 ∧ Kz h h1) := by
  refine Rlt.of ?_
  have hn := H.ns
  have e12 := H.n12
  have e13 := H.n13
  have e11 := H.n11
  show WP (gX (gq u)) MX11_fit (d + 7) b _ 0 [(2, 1), (0, f), (0, a), (9, 0), (9, 0)] [] h
  refine wp_aload_n rfl rfl dX11_fit_0 ?_
  refine wp_iload_n rfl rfl dX11_fit_1 ?_
  refine wp_cV1 (ci := 11) okX11_findFund rfl rfl wX11_108 dX11_fit_2 rfl (Nat.le_of_ble_eq_true rfl) (Nat.le_of_ble_eq_true rfl) (by first | omega | (simp (disch := omega) only [up2_ne, up2_eq, e, e11, e12, e13, H.a4, H.az, H.r3, H.rz, H.fe, H.fz, H.f2, H.a3, st_1_m1 hS, st_1_m1 H.1]; first | done | omega)) (by first | assumption | (simp (disch := omega) only [up2_ne, up2_eq, e, e11, e12, e13, H.a4, H.az, H.r3, H.rz, H.fe, H.fz, H.f2, H.a3, st_1_m1 hS, st_1_m1 H.1]; first | done | rfl | omega)) (ndF_t H e hS f0 f1) (Nat.zero_le _) ?_
  try simp (disch := omega) only [up2_ne, up2_eq, e, e11, e12, e13, H.a4, H.az, H.r3, H.rz, H.fe, H.fz, H.f2, H.a3, st_1_m1 hS, st_1_m1 H.1]
  refine wp_astore_n rfl dX11_fit_5 rfl (Nat.le_of_ble_eq_true rfl) rfl ?_
  try simp only [List.set_cons_zero, List.set_cons_succ]
  refine wp_aload_n rfl rfl dX11_fit_6 ?_
  refine wp_iload_n rfl rfl dX11_fit_7 ?_
  refine wp_cV1 (ci := 11) okX11_findAsking rfl rfl wX11_200 dX11_fit_8 rfl (Nat.le_of_ble_eq_true rfl) (Nat.le_of_ble_eq_true rfl) (by first | omega | (simp (disch := omega) only [up2_ne, up2_eq, e, e11, e12, e13, H.a4, H.az, H.r3, H.rz, H.fe, H.fz, H.f2, H.a3, st_1_m1 hS, st_1_m1 H.1]; first | done | omega)) (by first | assumption | (simp (disch := omega) only [up2_ne, up2_eq, e, e11, e12, e13, H.a4, H.az, H.r3, H.rz, H.fe, H.fz, H.f2, H.a3, st_1_m1 hS, st_1_m1 H.1]; first | done | rfl | omega)) (ndA_t H e hS a0 a1) (Nat.zero_le _) ?_
  try simp (disch := omega) only [up2_ne, up2_eq, e, e11, e12, e13, H.a4, H.az, H.r3, H.rz, H.fe, H.fz, H.f2, H.a3, st_1_m1 hS, st_1_m1 H.1]
  refine wp_astore dX11_fit_11 rfl (Nat.le_of_ble_eq_true rfl) rfl ?_
  try simp only [List.set_cons_zero, List.set_cons_succ]
  refine wp_aload_n rfl rfl dX11_fit_13 ?_
  refine wp_ifnull (tgt := 22) dX11_fit_14 (by decide) (fun hx => absurd hx (by omega)) (fun hx => ?_)
  refine wp_aload rfl dX11_fit_17 ?_
  refine wp_ifnonnull (tgt := 25) dX11_fit_19 (by decide) (fun hx => ?_) (fun hx => absurd hx (by omega))
  refine wp_aload_n rfl rfl dX11_fit_25 ?_
  refine wp_aload_n rfl rfl dX11_fit_26 ?_
  refine wp_aload rfl dX11_fit_27 ?_
  refine wp_cV2r (ci := 11) okX11_isFit rfl rfl wX11_319 dX11_fit_29 (Nat.le_of_ble_eq_true rfl) (Nat.le_of_ble_eq_true rfl) (by first | omega | (simp (disch := omega) only [up2_ne, up2_eq, e, e11, e12, e13, H.a4, H.az, H.r3, H.rz, H.fe, H.fz, H.f2, H.a3, st_1_m1 hS, st_1_m1 H.1]; first | done | omega)) (by first | assumption | (simp (disch := omega) only [up2_ne, up2_eq, e, e11, e12, e13, H.a4, H.az, H.r3, H.rz, H.fe, H.fz, H.f2, H.a3, st_1_m1 hS, st_1_m1 H.1]; first | done | rfl | omega)) (s_X11_isFit H e hS f0 f1 a0 a1) (Nat.zero_le _) ?_
  rintro r g ⟨rfl, z2, z3⟩ -
  show WP _ _ _ _ _ _ _ ((0, bI _) :: _) _
  refine wp_ifB_eq (tgt := 39) dX11_fit_32 (by decide) (fun c3 => ?_) (fun c3 => ?_)
  · refine wp_iconst dX11_fit_39 ?_
    refine wp_iret dX11_fit_40 rfl ?_
    first
      | exact ⟨by rw [bI_t (by assumption)], z2, z3⟩
      | exact ⟨by rw [bI_f (by assumption)], z2, z3⟩
  · refine wp_iconst dX11_fit_35 ?_
    refine wp_goto (tgt := 40) dX11_fit_36 (by decide) ?_
    refine wp_iret dX11_fit_40 rfl ?_
    first
      | exact ⟨by rw [bI_t (by assumption)], z2, z3⟩
      | exact ⟨by rw [bI_f (by assumption)], z2, z3⟩
theorem s_X12_fit {u : gT} {j : Nat} {h m : mH} {d b : Nat} (H : Inv j m) (e : Cr h m) (hS : St h) {f a : Int} (i1 : InI f) (ia : InI a) : Rlt (gX (gq u)) MX12_fit (d + 8) b [(2, 200), (0, f), (0, a)] h (fun r h1 => r = (0, if ((0 ≤ f ∧ f < m 200 0) ∧ (0 ≤ a ∧ a < m 200 10)) then bI (fitP m f a) else -2) ∧ St h1 ∧ Kq h h1) := by
  refine Rlt.of ?_
  have hn := H.ns
  show WP (gX (gq u)) MX12_fit (d + 8) b _ 0 [(2, 200), (0, f), (0, a)] [] h
  refine wp_aload_n rfl rfl dX12_fit_0 ?_
  refine wp_iload_n rfl rfl dX12_fit_1 ?_
  refine wp_cV1 (ci := 12) okX12_isFund rfl rfl wX12_23 dX12_fit_2 rfl (Nat.le_of_ble_eq_true rfl) (Nat.le_of_ble_eq_true rfl) (by first | omega | (simp (disch := omega) only [up2_ne, up2_eq, e, st_200_m1 hS, st_200_m1 H.1]; first | done | omega)) (by first | assumption | (simp (disch := omega) only [up2_ne, up2_eq, e, st_200_m1 hS, st_200_m1 H.1]; first | done | rfl | omega)) (risFund H e hS (by assumption)) (Nat.zero_le _) ?_
  try simp (disch := omega) only [up2_ne, up2_eq, e, st_200_m1 hS, st_200_m1 H.1]
  refine wp_ifB_eq (tgt := 16) dX12_fit_5 (by decide) (fun c1 => ?_) (fun c1 => ?_)
  · refine wp_bipush (by decide) dX12_fit_16 ?_
    refine wp_goto (tgt := 35) dX12_fit_18 (by decide) ?_
    refine wp_iret dX12_fit_35 rfl ?_
    first
      | exact ⟨by rw [if_neg (by omega)], hS, fun _ _ _ => rfl⟩
      | exact ⟨by rw [if_pos (by omega), bI_t (by assumption)], z2, z3⟩
      | exact ⟨by rw [if_pos (by omega), bI_f (by assumption)], z2, z3⟩
  · refine wp_aload_n rfl rfl dX12_fit_8 ?_
    refine wp_iload_n rfl rfl dX12_fit_9 ?_
    refine wp_cV1 (ci := 12) okX12_isAsking rfl rfl wX12_126 dX12_fit_10 rfl (Nat.le_of_ble_eq_true rfl) (Nat.le_of_ble_eq_true rfl) (by first | omega | (simp (disch := omega) only [up2_ne, up2_eq, e, st_200_m1 hS, st_200_m1 H.1]; first | done | omega)) (by first | assumption | (simp (disch := omega) only [up2_ne, up2_eq, e, st_200_m1 hS, st_200_m1 H.1]; first | done | rfl | omega)) (risAsking H e hS (by assumption)) (Nat.zero_le _) ?_
    try simp (disch := omega) only [up2_ne, up2_eq, e, st_200_m1 hS, st_200_m1 H.1]
    refine wp_ifB_ne (tgt := 21) dX12_fit_13 (by decide) (fun c2 => ?_) (fun c2 => ?_)
    · refine wp_aload_n rfl rfl dX12_fit_21 ?_
      refine wp_iload_n rfl rfl dX12_fit_22 ?_
      refine wp_iload_n rfl rfl dX12_fit_23 ?_
      refine wp_cV2r (ci := 12) okX12_isFit rfl rfl wX12_330 dX12_fit_24 (Nat.le_of_ble_eq_true rfl) (Nat.le_of_ble_eq_true rfl) (by first | omega | (simp (disch := omega) only [up2_ne, up2_eq, e, st_200_m1 hS, st_200_m1 H.1]; first | done | omega)) (by first | assumption | (simp (disch := omega) only [up2_ne, up2_eq, e, st_200_m1 hS, st_200_m1 H.1]; first | done | rfl | omega)) (s_X12_isFit H e hS (by omega) (by omega) (by omega) (by omega)) (Nat.zero_le _) ?_
      rintro r g ⟨rfl, z2, z3⟩ -
      show WP _ _ _ _ _ _ _ ((0, bI _) :: _) _
      refine wp_ifB_eq (tgt := 34) dX12_fit_27 (by decide) (fun c3 => ?_) (fun c3 => ?_)
      · refine wp_iconst dX12_fit_34 ?_
        refine wp_iret dX12_fit_35 rfl ?_
        first
          | exact ⟨by rw [if_neg (by omega)], hS, fun _ _ _ => rfl⟩
          | exact ⟨by rw [if_pos (by omega), bI_t (by assumption)], z2, z3⟩
          | exact ⟨by rw [if_pos (by omega), bI_f (by assumption)], z2, z3⟩
      · refine wp_iconst dX12_fit_30 ?_
        refine wp_goto (tgt := 35) dX12_fit_31 (by decide) ?_
        refine wp_iret dX12_fit_35 rfl ?_
        first
          | exact ⟨by rw [if_neg (by omega)], hS, fun _ _ _ => rfl⟩
          | exact ⟨by rw [if_pos (by omega), bI_t (by assumption)], z2, z3⟩
          | exact ⟨by rw [if_pos (by omega), bI_f (by assumption)], z2, z3⟩
    · refine wp_bipush (by decide) dX12_fit_16 ?_
      refine wp_goto (tgt := 35) dX12_fit_18 (by decide) ?_
      refine wp_iret dX12_fit_35 rfl ?_
      first
        | exact ⟨by rw [if_neg (by omega)], hS, fun _ _ _ => rfl⟩
        | exact ⟨by rw [if_pos (by omega), bI_t (by assumption)], z2, z3⟩
        | exact ⟨by rw [if_pos (by omega), bI_f (by assumption)], z2, z3⟩
theorem p_fit {u : gT} (j : Nat) (h : mH) (hj : j < 512) (hI : Inv j h) (x y : Int) (i1 : InI x) (i2 : InI y) : PairI u Inv MX11_fit MX12_fit [(0, x), (0, y)] j h := by
  have hS := hI.1
  by_cases q1 : 0 ≤ x ∧ x < h 200 0
  · by_cases q2 : 0 ≤ y ∧ y < h 200 10
    · refine (fit_t (d := 2040) (b := 300) hI Cl_rfl hS q1.1 q1.2 q2.1 q2.2).mono ?_
      rintro r h1 ⟨rfl, gS, gK⟩ -
      refine ⟨_, rfl, bI_in _, (s_X12_fit (u := u) (d := 2039) (b := 0) (m := h) hI (fun y k z => gK y k (by omega)) gS i1 i2).mono ?_⟩
      rintro r h2 ⟨rfl, gS2, gK2⟩ -
      rw [if_pos ⟨q1, q2⟩]
      refine ⟨rfl, Inv_scr gS2 (fun y k z => ?_) hI⟩
      unfold scr at z
      rw [gK2 y k (by omega), gK y k (by omega)]
    · refine (fit_f2 (d := 2040) (b := 300) hI Cl_rfl hS q1.1 q1.2 i2 q2).rlt.mono ?_
      rintro r h1 ⟨rfl, rfl⟩ -
      refine ⟨_, rfl, ⟨by decide, by decide⟩, (s_X12_fit (u := u) (d := 2039) (b := 0) hI Cr_rfl hS i1 i2).mono ?_⟩
      rintro r h2 ⟨rfl, gS2, gK2⟩ -
      rw [if_neg (fun z => q2 z.2)]
      refine ⟨rfl, Inv_scr gS2 (fun y k z => ?_) hI⟩
      unfold scr at z
      exact gK2 y k (by omega)
  · refine (fit_f1 (d := 2040) (b := 300) hI Cl_rfl hS i1 i2 q1).rlt.mono ?_
    rintro r h1 ⟨rfl, rfl⟩ -
    refine ⟨_, rfl, ⟨by decide, by decide⟩, (s_X12_fit (u := u) (d := 2039) (b := 0) hI Cr_rfl hS i1 i2).mono ?_⟩
    rintro r h2 ⟨rfl, gS2, gK2⟩ -
    rw [if_neg (fun z => q1 z.1)]
    refine ⟨rfl, Inv_scr gS2 (fun y k z => ?_) hI⟩
    unfold scr at z
    exact gK2 y k (by omega)
