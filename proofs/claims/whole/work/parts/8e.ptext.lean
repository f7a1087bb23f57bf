/-! ===== text: the class, the pair ===== -/
def fB (h : mH) : Int → Int := fun k => if k < h 200 29 then (h 228 k) % 256 else -1
theorem iAnd255s {x : Int} (h0 : -128 ≤ x) (h1 : x ≤ 127) : iAnd x 255 = x % 256 := by
  have key : ∀ k : Nat, k < 256 → iAnd ((k : Int) - 128) 255 = ((k : Int) - 128) % 256 := by decide +kernel
  have := key (x + 128).toNat (by omega)
  rw [show (((x + 128).toNat : Nat) : Int) - 128 = x by omega] at this
  exact this
theorem fB_LF {j : Nat} {h : mH} (H : Inv j h) : LF (fB h) (h 200 29) := by
  have hn := H.ns
  refine ⟨by omega, by omega, fun k k0 k1 => ?_, fun k k1 => if_neg (by omega)⟩
  unfold fB
  rw [if_pos k1]
  omega
theorem tF_Inv {j : Nat} {h : mH} (H : Inv j h) : tF h 7 13 (h 200 29) (fB h) := by
  have hS := H.1
  have hn := H.ns
  obtain ⟨-, -, -, -, -, -, -, -, aP, -⟩ := id H
  refine ⟨Or.inl ⟨rfl, rfl⟩, ⟨st_7_m1 hS, st_7_0 hS, st_7_2 hS, st_7_3 hS, st_7_4 hS, st_13_m1 hS, st_13_m2 hS, st_14_m1 hS, st_14_m2 hS, st_15_m1 hS, st_15_m2 hS, st_16_m1 hS, st_16_m2 hS⟩, H.n71, fB_LF H, fun k k0 k1 => ?_⟩
  have hp := aP k k0 (by omega)
  have e := hp.1 k1
  unfold fB sgn
  rw [if_pos k1]
  split <;> omega
theorem rT_Inv {j : Nat} {h : mH} (H : Inv j h) : rT h (h 200 29) (fB h) := by
  have hn := H.ns
  obtain ⟨-, -, -, -, -, -, -, -, aP, -⟩ := id H
  refine ⟨H.1, rfl, fB_LF H, fun k k0 k1 => ?_⟩
  have hp := aP k k0 (by omega)
  rw [iAnd255s (by omega) (by omega)]
  unfold fB
  rw [if_pos k1]
theorem Tx_St {h : mH} (H : St h) {x : Int} (x0 : 0 ≤ x) (x1 : x < 6) : Tx h x := ⟨txb H x0 x1, txc H x0 x1, txd H x0 x1, txf H x0 x1, txg H x0 x1, txh H x0 x1, txi H x0 x1⟩
theorem TOK_of {f : Int → Int} {n : Int} {N : Nat} (F : LF f n) (h : isN f N) : TOK (tk f) (Vf f) N := by
  have hb := isN_b F h
  have := F.2.1
  exact ⟨by omega, fun i => tK_b, h.1, h.2, fun i q => by
    have hp := tP_b F i
    have := tN_b F hp.1 hp.2 q
    exact ⟨this.1, this.2.1⟩⟩
set_option maxHeartbeats 1000000 in
theorem ctext_t {u : gT} {j : Nat} {h : mH} {d b : Nat} {t : Int} (H : Inv j h) (hfm : u.2.2.2.2.2 ≤ -10 ∨ u.2.2.2.2.2 = -1) (ht : h 1 14 = t) (t0 : 0 ≤ t ∧ t ≤ 5) : Rlt (gX (gq u)) MX11_text (d + 97) b [(2, 1)] h (fun r g1 => ∃ N : Nat, isN (fB h) N ∧ ∃ g2, pfm h g2 7 13 8 t ∧ ((∃ j : Nat, ptx (tk (fB h)) (Vf (fB h)) = .inl j ∧ r = (0, -100 - tB (fB h) (tP (fB h) j)) ∧ g1 = up2 g2 7 1 0) ∨ (∃ os, ptx (tk (fB h)) (Vf (fB h)) = .inr os ∧ r = (0, t) ∧ sl os 3 ≤ 160 ∧ tC g2 t os 3 ∧ g1 = up2 (up2 g2 7 1 0) 1 14 (t + 1)))) := by
  refine Rlt.of ?_
  have hS := H.1
  have hn := H.ns
  show WP (gX (gq u)) MX11_text (d + 97) b _ 0 [(2, 1), (9, 0)] [] h
  refine wp_aload_n rfl rfl dX11_text_0 ?_
  refine wp_getfield1 (z := 12) (kI := 14) fX11_82 dX11_text_1 (by first | omega | (simp (disch := omega) only [up2_ne, up2_eq, ht, txa hS, st_1_m1 hS, st_1_3 hS, st_1_5 hS, st_1_6 hS, st_5_m2 hS, st_5_m1 hS, st_7_m1 hS, st_8_m1 hS]; first | done | omega)) (by first | assumption | (simp (disch := omega) only [up2_ne, up2_eq, ht, txa hS, st_1_m1 hS, st_1_3 hS, st_1_5 hS, st_1_6 hS, st_5_m2 hS, st_5_m1 hS, st_7_m1 hS, st_8_m1 hS]; first | done | rfl | omega)) rfl rfl ?_
  try simp (disch := omega) only [up2_ne, up2_eq, ht, txa hS, st_1_m1 hS, st_1_3 hS, st_1_5 hS, st_1_6 hS, st_5_m2 hS, st_5_m1 hS, st_7_m1 hS, st_8_m1 hS]
  refine wp_aload_n rfl rfl dX11_text_4 ?_
  refine wp_getfield1 (z := 12) (kI := 3) fX11_29 dX11_text_5 (by first | omega | (simp (disch := omega) only [up2_ne, up2_eq, ht, txa hS, st_1_m1 hS, st_1_3 hS, st_1_5 hS, st_1_6 hS, st_5_m2 hS, st_5_m1 hS, st_7_m1 hS, st_8_m1 hS]; first | done | omega)) (by first | assumption | (simp (disch := omega) only [up2_ne, up2_eq, ht, txa hS, st_1_m1 hS, st_1_3 hS, st_1_5 hS, st_1_6 hS, st_5_m2 hS, st_5_m1 hS, st_7_m1 hS, st_8_m1 hS]; first | done | rfl | omega)) rfl rfl ?_
  try simp (disch := omega) only [up2_ne, up2_eq, ht, txa hS, st_1_m1 hS, st_1_3 hS, st_1_5 hS, st_1_6 hS, st_5_m2 hS, st_5_m1 hS, st_7_m1 hS, st_8_m1 hS]
  refine wp_alen1 dX11_text_8 (by first | omega | (simp (disch := omega) only [up2_ne, up2_eq, ht, txa hS, st_1_m1 hS, st_1_3 hS, st_1_5 hS, st_1_6 hS, st_5_m2 hS, st_5_m1 hS, st_7_m1 hS, st_8_m1 hS]; first | done | omega)) (by first | omega | (simp (disch := omega) only [up2_ne, up2_eq, ht, txa hS, st_1_m1 hS, st_1_3 hS, st_1_5 hS, st_1_6 hS, st_5_m2 hS, st_5_m1 hS, st_7_m1 hS, st_8_m1 hS]; first | done | omega)) ?_
  try simp (disch := omega) only [up2_ne, up2_eq, ht, txa hS, st_1_m1 hS, st_1_3 hS, st_1_5 hS, st_1_6 hS, st_5_m2 hS, st_5_m1 hS, st_7_m1 hS, st_8_m1 hS]
  refine wp_icmp_lt (tgt := 15) (by first | assumption | exact bI_in _ | exact ⟨by omega, by omega⟩ | exact iAnd_in | exact iOr_in | exact iShr_in | exact iShl_in | exact iXor_in | exact hxs _) (by first | assumption | exact bI_in _ | exact ⟨by omega, by omega⟩ | exact iAnd_in | exact iOr_in | exact iShr_in | exact iShl_in | exact iXor_in | exact hxs _) dX11_text_9 (by decide) (fun c1 => ?_) (fun c1 => ?_)
  · refine wp_aload_n rfl rfl dX11_text_15 ?_
    refine wp_getfield1 (z := 12) (kI := 6) fX11_49 dX11_text_16 (by first | omega | (simp (disch := omega) only [up2_ne, up2_eq, ht, txa hS, st_1_m1 hS, st_1_3 hS, st_1_5 hS, st_1_6 hS, st_5_m2 hS, st_5_m1 hS, st_7_m1 hS, st_8_m1 hS]; first | done | omega)) (by first | assumption | (simp (disch := omega) only [up2_ne, up2_eq, ht, txa hS, st_1_m1 hS, st_1_3 hS, st_1_5 hS, st_1_6 hS, st_5_m2 hS, st_5_m1 hS, st_7_m1 hS, st_8_m1 hS]; first | done | rfl | omega)) rfl rfl ?_
    try simp (disch := omega) only [up2_ne, up2_eq, ht, txa hS, st_1_m1 hS, st_1_3 hS, st_1_5 hS, st_1_6 hS, st_5_m2 hS, st_5_m1 hS, st_7_m1 hS, st_8_m1 hS]
    refine wp_aload_n rfl rfl dX11_text_19 ?_
    refine wp_getfield1 (z := 12) (kI := 5) fX11_42 dX11_text_20 (by first | omega | (simp (disch := omega) only [up2_ne, up2_eq, ht, txa hS, st_1_m1 hS, st_1_3 hS, st_1_5 hS, st_1_6 hS, st_5_m2 hS, st_5_m1 hS, st_7_m1 hS, st_8_m1 hS]; first | done | omega)) (by first | assumption | (simp (disch := omega) only [up2_ne, up2_eq, ht, txa hS, st_1_m1 hS, st_1_3 hS, st_1_5 hS, st_1_6 hS, st_5_m2 hS, st_5_m1 hS, st_7_m1 hS, st_8_m1 hS]; first | done | rfl | omega)) rfl rfl ?_
    try simp (disch := omega) only [up2_ne, up2_eq, ht, txa hS, st_1_m1 hS, st_1_3 hS, st_1_5 hS, st_1_6 hS, st_5_m2 hS, st_5_m1 hS, st_7_m1 hS, st_8_m1 hS]
    refine wp_aload_n rfl rfl dX11_text_23 ?_
    refine wp_getfield1 (z := 12) (kI := 3) fX11_29 dX11_text_24 (by first | omega | (simp (disch := omega) only [up2_ne, up2_eq, ht, txa hS, st_1_m1 hS, st_1_3 hS, st_1_5 hS, st_1_6 hS, st_5_m2 hS, st_5_m1 hS, st_7_m1 hS, st_8_m1 hS]; first | done | omega)) (by first | assumption | (simp (disch := omega) only [up2_ne, up2_eq, ht, txa hS, st_1_m1 hS, st_1_3 hS, st_1_5 hS, st_1_6 hS, st_5_m2 hS, st_5_m1 hS, st_7_m1 hS, st_8_m1 hS]; first | done | rfl | omega)) rfl rfl ?_
    try simp (disch := omega) only [up2_ne, up2_eq, ht, txa hS, st_1_m1 hS, st_1_3 hS, st_1_5 hS, st_1_6 hS, st_5_m2 hS, st_5_m1 hS, st_7_m1 hS, st_8_m1 hS]
    refine wp_aload_n rfl rfl dX11_text_27 ?_
    refine wp_getfield1 (z := 12) (kI := 14) fX11_82 dX11_text_28 (by first | omega | (simp (disch := omega) only [up2_ne, up2_eq, ht, txa hS, st_1_m1 hS, st_1_3 hS, st_1_5 hS, st_1_6 hS, st_5_m2 hS, st_5_m1 hS, st_7_m1 hS, st_8_m1 hS]; first | done | omega)) (by first | assumption | (simp (disch := omega) only [up2_ne, up2_eq, ht, txa hS, st_1_m1 hS, st_1_3 hS, st_1_5 hS, st_1_6 hS, st_5_m2 hS, st_5_m1 hS, st_7_m1 hS, st_8_m1 hS]; first | done | rfl | omega)) rfl rfl ?_
    try simp (disch := omega) only [up2_ne, up2_eq, ht, txa hS, st_1_m1 hS, st_1_3 hS, st_1_5 hS, st_1_6 hS, st_5_m2 hS, st_5_m1 hS, st_7_m1 hS, st_8_m1 hS]
    refine wp_aaload1 dX11_text_31 (by first | omega | (simp (disch := omega) only [up2_ne, up2_eq, ht, txa hS, st_1_m1 hS, st_1_3 hS, st_1_5 hS, st_1_6 hS, st_5_m2 hS, st_5_m1 hS, st_7_m1 hS, st_8_m1 hS]; first | done | omega)) (by first | omega | (simp (disch := omega) only [up2_ne, up2_eq, ht, txa hS, st_1_m1 hS, st_1_3 hS, st_1_5 hS, st_1_6 hS, st_5_m2 hS, st_5_m1 hS, st_7_m1 hS, st_8_m1 hS]; first | done | omega)) (by first | omega | (simp (disch := omega) only [up2_ne, up2_eq, ht, txa hS, st_1_m1 hS, st_1_3 hS, st_1_5 hS, st_1_6 hS, st_5_m2 hS, st_5_m1 hS, st_7_m1 hS, st_8_m1 hS]; first | done | omega)) (by first | omega | (simp (disch := omega) only [up2_ne, up2_eq, ht, txa hS, st_1_m1 hS, st_1_3 hS, st_1_5 hS, st_1_6 hS, st_5_m2 hS, st_5_m1 hS, st_7_m1 hS, st_8_m1 hS]; first | done | omega)) ?_
    try simp (disch := omega) only [up2_ne, up2_eq, ht, txa hS, st_1_m1 hS, st_1_3 hS, st_1_5 hS, st_1_6 hS, st_5_m2 hS, st_5_m1 hS, st_7_m1 hS, st_8_m1 hS]
    refine wp_cV2r (ci := 5) okX5_parse rfl rfl wX11_94 dX11_text_32 (Nat.le_of_ble_eq_true rfl) (Nat.le_of_ble_eq_true rfl) (by first | omega | (simp (disch := omega) only [up2_ne, up2_eq, ht, txa hS, st_1_m1 hS, st_1_3 hS, st_1_5 hS, st_1_6 hS, st_5_m2 hS, st_5_m1 hS, st_7_m1 hS, st_8_m1 hS]; first | done | omega)) (by first | assumption | (simp (disch := omega) only [up2_ne, up2_eq, ht, txa hS, st_1_m1 hS, st_1_3 hS, st_1_5 hS, st_1_6 hS, st_5_m2 hS, st_5_m1 hS, st_7_m1 hS, st_8_m1 hS]; first | done | rfl | omega)) (s_X5_parse (tF_Inv H) hfm (Or.inl rfl) (st_8_m1 hS) (by omega) (Tx_St hS t0.1 (by omega))) (Nat.zero_le _) ?_
    rintro r g2 ⟨N, hN, K2, (⟨j2, e1, rfl, e3⟩ | ⟨os, e1, rfl, e3, e4⟩)⟩ -
    · have q14 : g2 1 14 = t := by rw [K2 _ _ (by omega)]; exact ht
      have q75 : g2 1 5 = 7 := by rw [K2 _ _ (by omega)]; exact st_1_5 hS
      have q1 : g2 1 (-1) = 12 := by rw [K2 _ _ (by omega)]; exact st_1_m1 hS
      have T2 : Tp g2 7 13 := Tp_cg (tF_Inv H).2.1 (fun y k q => K2 y k (by omega))
      have q7 := tpq_a T2
      have F := fB_LF H
      have hpb := tP_b F j2
      have hbb := tB_b F hpb.1 hpb.2
      show WP _ _ _ _ _ _ _ ((0, _) :: _) _
      refine wp_istore_n rfl dX11_text_35 rfl (Nat.le_of_ble_eq_true rfl) rfl ?_
      try simp only [List.set_cons_zero, List.set_cons_succ]
      refine wp_aload_n rfl rfl dX11_text_36 ?_
      refine wp_getfield1 (z := 12) (kI := 5) fX11_42 dX11_text_37 (by first | omega | (simp (disch := omega) only [up2_ne, up2_eq, q14, q75, q7, q1]; first | done | omega)) (by first | assumption | (simp (disch := omega) only [up2_ne, up2_eq, q14, q75, q7, q1]; first | done | rfl | omega)) rfl rfl ?_
      try simp (disch := omega) only [up2_ne, up2_eq, q14, q75, q7, q1]
      refine wp_cV0v (ci := 9) okX9_clear rfl rfl wX11_255 dX11_text_40 (Nat.le_of_ble_eq_true rfl) (Nat.le_of_ble_eq_true rfl) (by first | omega | (simp (disch := omega) only [up2_ne, up2_eq, q14, q75, q7, q1]; first | done | omega)) (by first | assumption | (simp (disch := omega) only [up2_ne, up2_eq, q14, q75, q7, q1]; first | done | rfl | omega)) (s_X9_clear (Or.inl ⟨rfl, rfl⟩) T2) (Nat.zero_le _) ?_
      try simp (disch := omega) only [up2_ne, up2_eq, q14, q75, q7, q1]
      refine wp_iload_n rfl rfl dX11_text_43 ?_
      refine wp_iconst dX11_text_44 ?_
      refine wp_icmp_eq (tgt := 53) (by first | assumption | exact bI_in _ | exact ⟨by omega, by omega⟩ | exact iAnd_in | exact iOr_in | exact iShr_in | exact iShl_in | exact iXor_in | exact hxs _) (by first | assumption | exact bI_in _ | exact ⟨by omega, by omega⟩ | exact iAnd_in | exact iOr_in | exact iShr_in | exact iShl_in | exact iXor_in | exact hxs _) dX11_text_45 (by decide) (fun c2 => ?_) (fun c2 => ?_)
      · refine wp_aload_n rfl rfl dX11_text_53 ?_
        refine wp_dup (by decide) dX11_text_54 ?_
        refine wp_getfield1 (z := 12) (kI := 14) fX11_82 dX11_text_55 (by first | omega | (simp (disch := omega) only [up2_ne, up2_eq, q14, q75, q7, q1]; first | done | omega)) (by first | assumption | (simp (disch := omega) only [up2_ne, up2_eq, q14, q75, q7, q1]; first | done | rfl | omega)) rfl rfl ?_
        try simp (disch := omega) only [up2_ne, up2_eq, q14, q75, q7, q1]
        refine wp_iconst dX11_text_58 ?_
        refine wp_iadd dX11_text_59 ?_
        refine wp_putfield1 (z := 12) (kI := 14) fX11_82 dX11_text_60 (by first | omega | (simp (disch := omega) only [up2_ne, up2_eq, q14, q75, q7, q1]; first | done | omega)) (by first | assumption | (simp (disch := omega) only [up2_ne, up2_eq, q14, q75, q7, q1]; first | done | rfl | omega)) rfl rfl ?_
        refine wp_aload_n rfl rfl dX11_text_63 ?_
        refine wp_getfield1 (z := 12) (kI := 14) fX11_82 dX11_text_64 (by first | omega | (simp (disch := omega) only [up2_ne, up2_eq, q14, q75, q7, q1]; first | done | omega)) (by first | assumption | (simp (disch := omega) only [up2_ne, up2_eq, q14, q75, q7, q1]; first | done | rfl | omega)) rfl rfl ?_
        try simp (disch := omega) only [up2_ne, up2_eq, q14, q75, q7, q1]
        refine wp_iconst dX11_text_67 ?_
        refine wp_isub dX11_text_68 ?_
        refine wp_iret dX11_text_69 rfl ?_
        first
          | (exfalso; omega)
          | exact ⟨N, hN, g2, K2, Or.inl ⟨j2, e1, rfl, rfl⟩⟩
          | exact ⟨N, hN, g2, K2, Or.inr ⟨os, e1, by first | rfl | (congr 1; omega), e3, e4, rfl⟩⟩
      · refine wp_bipush (by decide) dX11_text_48 ?_
        refine wp_iload_n rfl rfl dX11_text_50 ?_
        refine wp_isub dX11_text_51 ?_
        refine wp_iret dX11_text_52 rfl ?_
        first
          | (exfalso; omega)
          | exact ⟨N, hN, g2, K2, Or.inl ⟨j2, e1, rfl, rfl⟩⟩
          | exact ⟨N, hN, g2, K2, Or.inr ⟨os, e1, by first | rfl | (congr 1; omega), e3, e4, rfl⟩⟩
    · have q14 : g2 1 14 = t := by rw [K2 _ _ (by omega)]; exact ht
      have q75 : g2 1 5 = 7 := by rw [K2 _ _ (by omega)]; exact st_1_5 hS
      have q1 : g2 1 (-1) = 12 := by rw [K2 _ _ (by omega)]; exact st_1_m1 hS
      have T2 : Tp g2 7 13 := Tp_cg (tF_Inv H).2.1 (fun y k q => K2 y k (by omega))
      have q7 := tpq_a T2
      show WP _ _ _ _ _ _ _ ((0, -1) :: _) _
      refine wp_istore_n rfl dX11_text_35 rfl (Nat.le_of_ble_eq_true rfl) rfl ?_
      try simp only [List.set_cons_zero, List.set_cons_succ]
      refine wp_aload_n rfl rfl dX11_text_36 ?_
      refine wp_getfield1 (z := 12) (kI := 5) fX11_42 dX11_text_37 (by first | omega | (simp (disch := omega) only [up2_ne, up2_eq, q14, q75, q7, q1]; first | done | omega)) (by first | assumption | (simp (disch := omega) only [up2_ne, up2_eq, q14, q75, q7, q1]; first | done | rfl | omega)) rfl rfl ?_
      try simp (disch := omega) only [up2_ne, up2_eq, q14, q75, q7, q1]
      refine wp_cV0v (ci := 9) okX9_clear rfl rfl wX11_255 dX11_text_40 (Nat.le_of_ble_eq_true rfl) (Nat.le_of_ble_eq_true rfl) (by first | omega | (simp (disch := omega) only [up2_ne, up2_eq, q14, q75, q7, q1]; first | done | omega)) (by first | assumption | (simp (disch := omega) only [up2_ne, up2_eq, q14, q75, q7, q1]; first | done | rfl | omega)) (s_X9_clear (Or.inl ⟨rfl, rfl⟩) T2) (Nat.zero_le _) ?_
      try simp (disch := omega) only [up2_ne, up2_eq, q14, q75, q7, q1]
      refine wp_iload_n rfl rfl dX11_text_43 ?_
      refine wp_iconst dX11_text_44 ?_
      refine wp_icmp_eq (tgt := 53) (by first | assumption | exact bI_in _ | exact ⟨by omega, by omega⟩ | exact iAnd_in | exact iOr_in | exact iShr_in | exact iShl_in | exact iXor_in | exact hxs _) (by first | assumption | exact bI_in _ | exact ⟨by omega, by omega⟩ | exact iAnd_in | exact iOr_in | exact iShr_in | exact iShl_in | exact iXor_in | exact hxs _) dX11_text_45 (by decide) (fun hx => ?_) (fun hx => absurd hx (by decide))
      refine wp_aload_n rfl rfl dX11_text_53 ?_
      refine wp_dup (by decide) dX11_text_54 ?_
      refine wp_getfield1 (z := 12) (kI := 14) fX11_82 dX11_text_55 (by first | omega | (simp (disch := omega) only [up2_ne, up2_eq, q14, q75, q7, q1]; first | done | omega)) (by first | assumption | (simp (disch := omega) only [up2_ne, up2_eq, q14, q75, q7, q1]; first | done | rfl | omega)) rfl rfl ?_
      try simp (disch := omega) only [up2_ne, up2_eq, q14, q75, q7, q1]
      refine wp_iconst dX11_text_58 ?_
      refine wp_iadd dX11_text_59 ?_
      refine wp_putfield1 (z := 12) (kI := 14) fX11_82 dX11_text_60 (by first | omega | (simp (disch := omega) only [up2_ne, up2_eq, q14, q75, q7, q1]; first | done | omega)) (by first | assumption | (simp (disch := omega) only [up2_ne, up2_eq, q14, q75, q7, q1]; first | done | rfl | omega)) rfl rfl ?_
      refine wp_aload_n rfl rfl dX11_text_63 ?_
      refine wp_getfield1 (z := 12) (kI := 14) fX11_82 dX11_text_64 (by first | omega | (simp (disch := omega) only [up2_ne, up2_eq, q14, q75, q7, q1]; first | done | omega)) (by first | assumption | (simp (disch := omega) only [up2_ne, up2_eq, q14, q75, q7, q1]; first | done | rfl | omega)) rfl rfl ?_
      try simp (disch := omega) only [up2_ne, up2_eq, q14, q75, q7, q1]
      refine wp_iconst dX11_text_67 ?_
      refine wp_isub dX11_text_68 ?_
      refine wp_iret dX11_text_69 rfl ?_
      first
        | (exfalso; omega)
        | exact ⟨N, hN, g2, K2, Or.inl ⟨j2, e1, rfl, rfl⟩⟩
        | exact ⟨N, hN, g2, K2, Or.inr ⟨os, e1, by first | rfl | (congr 1; omega), e3, e4, rfl⟩⟩
  · exfalso; omega
theorem ctext_f {u : gT} {h : mH} {d b : Nat} (hS : St h) (ht : h 1 14 = 6) : Det (gX (gq u)) MX11_text (d + 97) b [(2, 1)] h (0, -4) h := by
  intro Q hQ
  show WP (gX (gq u)) MX11_text (d + 97) b Q 0 [(2, 1), (9, 0)] [] h
  refine wp_aload_n rfl rfl dX11_text_0 ?_
  refine wp_getfield1 (z := 12) (kI := 14) fX11_82 dX11_text_1 (by first | omega | (simp (disch := omega) only [up2_ne, up2_eq, ht, st_1_m1 hS, st_1_3 hS, st_5_m2 hS, st_5_m1 hS]; first | done | omega)) (by first | assumption | (simp (disch := omega) only [up2_ne, up2_eq, ht, st_1_m1 hS, st_1_3 hS, st_5_m2 hS, st_5_m1 hS]; first | done | rfl | omega)) rfl rfl ?_
  try simp (disch := omega) only [up2_ne, up2_eq, ht, st_1_m1 hS, st_1_3 hS, st_5_m2 hS, st_5_m1 hS]
  refine wp_aload_n rfl rfl dX11_text_4 ?_
  refine wp_getfield1 (z := 12) (kI := 3) fX11_29 dX11_text_5 (by first | omega | (simp (disch := omega) only [up2_ne, up2_eq, ht, st_1_m1 hS, st_1_3 hS, st_5_m2 hS, st_5_m1 hS]; first | done | omega)) (by first | assumption | (simp (disch := omega) only [up2_ne, up2_eq, ht, st_1_m1 hS, st_1_3 hS, st_5_m2 hS, st_5_m1 hS]; first | done | rfl | omega)) rfl rfl ?_
  try simp (disch := omega) only [up2_ne, up2_eq, ht, st_1_m1 hS, st_1_3 hS, st_5_m2 hS, st_5_m1 hS]
  refine wp_alen1 dX11_text_8 (by first | omega | (simp (disch := omega) only [up2_ne, up2_eq, ht, st_1_m1 hS, st_1_3 hS, st_5_m2 hS, st_5_m1 hS]; first | done | omega)) (by first | omega | (simp (disch := omega) only [up2_ne, up2_eq, ht, st_1_m1 hS, st_1_3 hS, st_5_m2 hS, st_5_m1 hS]; first | done | omega)) ?_
  try simp (disch := omega) only [up2_ne, up2_eq, ht, st_1_m1 hS, st_1_3 hS, st_5_m2 hS, st_5_m1 hS]
  refine wp_icmp_lt (tgt := 15) (by first | assumption | exact bI_in _ | exact ⟨by omega, by omega⟩ | exact iAnd_in | exact iOr_in | exact iShr_in | exact iShl_in | exact iXor_in | exact hxs _) (by first | assumption | exact bI_in _ | exact ⟨by omega, by omega⟩ | exact iAnd_in | exact iOr_in | exact iShr_in | exact iShl_in | exact iXor_in | exact hxs _) dX11_text_9 (by decide) (fun c1 => ?_) (fun c1 => ?_)
  · exfalso; omega
  · refine wp_bipush (by decide) dX11_text_12 ?_
    refine wp_iret dX11_text_14 rfl ?_
    exact hQ
theorem iT1_fr {h h2 : mH} {t p s e : Int} (e1 : ∀ k, h2 (50 + t) k = h (50 + t) k) (e2 : h2 232 (3 * t + p) = h 232 (3 * t + p)) (e3 : ∀ k : Int, 160 * (3 * t + p) ≤ k → k < 160 * (3 * t + p) + 160 → h2 233 k = h 233 k ∧ h2 234 k = h 234 k) (H : iT1 h t p s e) : iT1 h2 t p s e := by
  obtain ⟨h1, h2', h3, h4, h5, h6⟩ := H
  have hf : h2 (50 + t) = h (50 + t) := funext e1
  refine ⟨h1, h2', h3, by rw [e2]; exact h4, by rw [hf]; exact h5, fun k hk => ?_⟩
  have h7 := h6 k hk
  have h8 := e3 (160 * (3 * t + p) + k) (by omega) (by omega)
  rw [hf, h8.1, h8.2]
  exact h7
theorem iT1_new {g : mH} {t q : Int} {oo : List Int} {s : Nat} (W : wfO oo 1) (hc : ∀ k : Nat, k < oo.length → g (50 + t) (s + k) = oo.getD k 0) (R : rOu g (3 * t + q) oo) (hs : s + oo.length ≤ 160) : iT1 g t q s ((s + oo.length : Nat) : Int) := by
  have hg := wfO_hgt W (g (50 + t)) s hc
  refine ⟨by omega, by omega, by omega, by rw [R.1]; omega, ?_, fun k hk => ?_⟩
  · rw [show (((s + oo.length : Nat) : Int) - (s : Int)).toNat = oo.length by omega]
    exact hg.1
  · have h2 := hg.2 k (by omega)
    have h3 := R.2 k (by omega)
    have h4 := hc k (by omega)
    refine ⟨h2.1, ?_, ?_, h2.2⟩
    · rw [h4]
      exact h3.1
    · rw [h4]
      exact h3.2
/-- what a text changes -/
abbrev xfr (h h2 : mH) (t : Int) : Prop := ∀ x k : Int, ¬ (0 ≤ k ∧ ((x = 7 ∧ (k = 1 ∨ 5 ≤ k)) ∨ (14 ≤ x ∧ x ≤ 16) ∨ x = 8 ∨ (x = 40 + t ∧ k = 3) ∨ x = 50 + t ∨ x = 60 + t ∨ (x = 1 ∧ k = 14) ∨ (x = 200 ∧ (k = 29 ∨ k = 30 ∨ (38 ≤ k ∧ k ≤ 41) ∨ k = 43)) ∨ x = 242 ∨ (x = 232 ∧ 3 * t ≤ k ∧ k < 3 * t + 3) ∨ ((x = 233 ∨ x = 234) ∧ 480 * t ≤ k ∧ k < 480 * t + 480))) → h2 x k = h x k
theorem statL_x : ∀ q ∈ statL, ¬ (0 ≤ q.2.1 ∧ ((q.1 = 7 ∧ (q.2.1 = 1 ∨ 5 ≤ q.2.1)) ∨ (14 ≤ q.1 ∧ q.1 ≤ 16) ∨ q.1 = 8 ∨ (40 ≤ q.1 ∧ q.1 ≤ 45 ∧ q.2.1 = 3) ∨ (50 ≤ q.1 ∧ q.1 ≤ 55) ∨ (60 ≤ q.1 ∧ q.1 ≤ 65) ∨ (q.1 = 1 ∧ q.2.1 = 14) ∨ (q.1 = 200 ∧ (q.2.1 = 29 ∨ q.2.1 = 30 ∨ (38 ≤ q.2.1 ∧ q.2.1 ≤ 41) ∨ q.2.1 = 43)) ∨ q.1 = 242 ∨ q.1 = 232 ∨ q.1 = 233 ∨ q.1 = 234)) := by decide +kernel
theorem xfr_St {h h2 : mH} {t : Int} (t0 : 0 ≤ t ∧ t ≤ 5) (H : St h) (K : xfr h h2 t) : St h2 := H.of (fun q hq => K _ _ (by have := statL_x q hq; omega))
theorem Inv_text {j : Nat} {h h2 : mH} {t t2 : Int} (H : Inv j h) (t0 : 0 ≤ t ∧ t ≤ 5) (ht : h 200 30 = t) (K : xfr h h2 t) (n1 : h2 7 1 = 0) (n2 : h2 200 29 = 0) (n3 : h2 200 30 = t2) (n4 : h2 1 14 = t2) (ht2 : t2 = t ∨ t2 = t + 1) (hT : t2 = t + 1 → iT1 h2 t 0 0 (h2 (60 + t) 0) ∧ iT1 h2 t 1 (h2 (60 + t) 0) (h2 (60 + t) 1) ∧ iT1 h2 t 2 (h2 (60 + t) 1) (h2 (60 + t) 2)) : Inv (j + 1) h2 := by
  have hS := H.1
  have hn := H.ns
  obtain ⟨-, aN, aF, aR, aA, aB, aG, aS, aP, aT⟩ := id H
  have e0 : h2 200 0 = h 200 0 := K _ _ (by omega)
  have e6 : h2 200 6 = h 200 6 := K _ _ (by omega)
  have e10 : h2 200 10 = h 200 10 := K _ _ (by omega)
  have e31 : h2 200 31 = h 200 31 := K _ _ (by omega)
  have f11 : h2 1 11 = h 1 11 := K _ _ (by omega)
  have f12 : h2 1 12 = h 1 12 := K _ _ (by omega)
  have f13 : h2 1 13 = h 1 13 := K _ _ (by omega)
  have f15 : h2 1 15 = h 1 15 := K _ _ (by omega)
  refine ⟨xfr_St t0 hS K, ?_, iF_up (iF_cg e0 (fun x k q => K x k (by omega)) aF), iR_cg e6 e10 (fun x k q => K x k (by omega)) aR, iA_cg e10 (by omega) (fun x k q => K x k (by omega)) aA, iB_cg e10 e6 (fun x k q => K x k (by omega)) aB, iG_cg e10 (by omega) (fun x k q => K x k (by omega)) aG, iS_cg (fun x k q => K x k (by omega)) aS, fun k k0 k1 => ?_, fun t' q0 q1 => ?_⟩
  · unfold iN at aN ⊢
    rw [e0, e6, e10, e31, f11, f12, f13, f15, n1, n2, n3, n4]
    omega
  · have hp := aP k k0 k1
    rw [K 13 k (by omega), K 228 k (by omega)]
    refine ⟨fun q => by exfalso; omega, hp.2⟩
  · by_cases c : t' = t
    · subst c
      exact hT (by omega)
    · have h1 := aT t' q0 (by omega)
      have g0 : ∀ k, h2 (60 + t') k = h (60 + t') k := fun k => K _ _ (by omega)
      rw [g0, g0, g0]
      refine ⟨iT1_fr (fun k => K _ _ (by omega)) (K _ _ (by omega)) (fun k k0 k1 => ⟨K _ _ (by omega), K _ _ (by omega)⟩) h1.1, iT1_fr (fun k => K _ _ (by omega)) (K _ _ (by omega)) (fun k k0 k1 => ⟨K _ _ (by omega), K _ _ (by omega)⟩) h1.2.1, iT1_fr (fun k => K _ _ (by omega)) (K _ _ (by omega)) (fun k k0 k1 => ⟨K _ _ (by omega), K _ _ (by omega)⟩) h1.2.2⟩
theorem p_text {u : gT} (hfm : u.2.2.2.2.2 ≤ -10 ∨ u.2.2.2.2.2 = -1) (j : Nat) (h : mH) (hj : j < 512) (hI : Inv j h) : PairI u Inv MX11_text MX12_text [] j h := by
  have hS := hI.1
  have hn := hI.ns
  have h14 := hI.n14
  have F := fB_LF hI
  by_cases c : h 200 30 = 6
  · refine (ctext_f (u := u) (d := 1950) (b := 300) hS (by omega)).rlt.mono ?_
    rintro r h1 ⟨rfl, rfl⟩ -
    refine ⟨_, rfl, ⟨by decide, by decide⟩, (rtext_f (u := u) (d := 2042) (b := 0) hS c).rlt.mono ?_⟩
    rintro r h2 ⟨rfl, rfl⟩ -
    exact ⟨rfl, Inv_same hI⟩
  · have t0 : 0 ≤ h 200 30 ∧ h 200 30 ≤ 5 := by omega
    refine (ctext_t (d := 1950) (b := 300) hI hfm h14 t0).mono ?_
    rintro r g1 ⟨N, hN, g2, K2, hor⟩ -
    have hTK := TOK_of F hN
    have hsame : ∀ x k : Int, 200 ≤ x → g1 x k = h x k := by
      intro x k hx
      rcases hor with ⟨j2, e1, e2, e3⟩ | ⟨os, e1, e2, e3, e4, e5⟩
      · rw [e3, up2_ne (by omega)]
        exact K2 x k (by omega)
      · rw [e5, up2_ne (by omega), up2_ne (by omega)]
        exact K2 x k (by omega)
    have hlow : ∀ x k : Int, x < 200 → ¬ (0 ≤ k ∧ ((x = 7 ∧ (k = 1 ∨ 5 ≤ k)) ∨ (14 ≤ x ∧ x ≤ 16) ∨ x = 8 ∨ (x = 40 + h 200 30 ∧ k = 3) ∨ x = 50 + h 200 30 ∨ x = 60 + h 200 30 ∨ (x = 1 ∧ k = 14))) → g1 x k = h x k := by
      intro x k hx q
      rcases hor with ⟨j2, e1, e2, e3⟩ | ⟨os, e1, e2, e3, e4, e5⟩
      · rw [e3, up2_ne (by omega)]
        exact K2 x k (by omega)
      · rw [e5, up2_ne (by omega), up2_ne (by omega)]
        exact K2 x k (by omega)
    have gS1 : St g1 := xfr_St t0 hS (fun x k q => by
      by_cases y : 200 ≤ x
      · exact hsame x k y
      · exact hlow x k (by omega) (by omega))
    have RT1 : rT g1 (h 200 29) (fB h) := rT_cg (rT_Inv hI) gS1 (hsame _ _ (by omega)) (fun k => hsame _ _ (by omega))
    have hrow := rtext_t (u := u) (d := 2042) (b := 0) RT1 hTK t0 (hsame _ _ (by omega))
    rcases hor with ⟨j2, e1, rfl, e3⟩ | ⟨os, e1, rfl, e3, e4, e5⟩
    · have hpb := tP_b F j2
      have hbb := tB_b F hpb.1 hpb.2
      refine ⟨_, rfl, ⟨by omega, by omega⟩, hrow.mono ?_⟩
      rintro r h2 ⟨g4, K4, (⟨j3, f1, rfl, f3⟩ | ⟨os, f1, f2, f3, f4⟩)⟩ -
      · rw [e1] at f1
        cases f1
        refine ⟨rfl, Inv_text (t2 := h 200 30) hI t0 rfl (fun x k q => ?_) ?_ ?_ ?_ ?_ (Or.inl rfl) (fun q => by exfalso; omega)⟩
        · rw [f3, up2_ne (by omega), K4 x k (by omega)]
          by_cases y : 200 ≤ x
          · exact hsame x k y
          · exact hlow x k (by omega) (by omega)
        · rw [f3, up2_ne (by omega), K4 _ _ (by omega), e3, up2_eq]
        · rw [f3, up2_eq]
        · rw [f3, up2_ne (by omega), K4 _ _ (by omega), hsame _ _ (by omega)]
        · rw [f3, up2_ne (by omega), K4 _ _ (by omega), e3, up2_ne (by omega), K2 _ _ (by omega)]
          exact h14
      · rw [e1] at f1
        cases f1
    · refine ⟨_, rfl, ⟨by omega, by omega⟩, hrow.mono ?_⟩
      rintro r h2 ⟨g4, K4, (⟨j3, f1, f2, f3⟩ | ⟨os2, f1, rfl, f3, f4⟩)⟩ -
      · rw [e1] at f1
        cases f1
      · rw [e1] at f1
        cases f1
        have hpt : ∃ i, ptsF (tk (fB h)) (Vf (fB h)) 3 = .inr (i, os) := by
          unfold ptx at e1
          rcases hq : ptsF (tk (fB h)) (Vf (fB h)) 3 with j | ⟨i, os3⟩
          · rw [hq] at e1
            cases e1
          · rw [hq] at e1
            dsimp only at e1
            by_cases y : tk (fB h) i = 22
            · rw [if_pos y] at e1
              cases e1
              exact ⟨i, rfl⟩
            · rw [if_neg y] at e1
              cases e1
        obtain ⟨i, hpt⟩ := hpt
        have hG := ptsF_G hTK 3 i os (by omega) hpt
        have q50 : ∀ k, h2 (50 + h 200 30) k = g2 (50 + h 200 30) k := fun k => by rw [f4, up2_ne (by omega), up2_ne (by omega), K4 _ _ (by omega), e5, up2_ne (by omega), up2_ne (by omega)]
        have q60 : ∀ k, h2 (60 + h 200 30) k = g2 (60 + h 200 30) k := fun k => by rw [f4, up2_ne (by omega), up2_ne (by omega), K4 _ _ (by omega), e5, up2_ne (by omega), up2_ne (by omega)]
        have qO : ∀ q : Nat, q < 3 → rOu h2 (3 * h 200 30 + q) (os.getD q []) := fun q hq => by
          rw [f4]
          exact rOu_cg (f3 q hq) (by rw [up2_ne (by omega), up2_ne (by omega)]) (fun k => by rw [up2_ne (by omega), up2_ne (by omega)]) (fun k => by rw [up2_ne (by omega), up2_ne (by omega)])
        have hnew : ∀ q : Nat, q < 3 → iT1 h2 (h 200 30) q (sl os q : Nat) (sl os (q + 1) : Nat) := fun q hq => by
          have hm := sl_m (os := os) (q := q + 1) (p := 3) (by omega)
          have hmq : sl os (q + 1) = sl os q + (os.getD q []).length := rfl
          rw [hmq]
          exact iT1_new (hG.2.2 q hq) (fun k hk => by rw [q50]; exact (e4 q hq).2 k hk) (qO q hq) (by omega)
        have E : ∀ q : Nat, q < 3 → h2 (60 + h 200 30) q = (sl os (q + 1) : Nat) := fun q hq => by rw [q60]; exact (e4 q hq).1
        have E0 := E 0 (by omega)
        have E1 := E 1 (by omega)
        have E2 := E 2 (by omega)
        refine ⟨rfl, Inv_text (t2 := h 200 30 + 1) hI t0 rfl (fun x k q => ?_) ?_ ?_ ?_ ?_ (Or.inr rfl) (fun _ => ⟨?_, ?_, ?_⟩)⟩
        · rw [f4, up2_ne (by omega), up2_ne (by omega), K4 x k (by omega)]
          by_cases y : 200 ≤ x
          · exact hsame x k y
          · exact hlow x k (by omega) (by omega)
        · rw [f4, up2_ne (by omega), up2_ne (by omega), K4 _ _ (by omega), e5, up2_ne (by omega), up2_eq]
        · rw [f4, up2_ne (by omega), up2_eq]
        · rw [f4, up2_eq]
        · rw [f4, up2_ne (by omega), up2_ne (by omega), K4 _ _ (by omega), e5, up2_eq]
        · have z := hnew 0 (by omega)
          rw [← E0] at z
          exact z
        · have z := hnew 1 (by omega)
          rw [← E0, ← E1] at z
          exact z
        · have z := hnew 2 (by omega)
          rw [← E1, ← E2] at z
          exact z
