/-! ===== the scale: clear, lay ===== -/
theorem s_X7_clear {u : gT} {h : mH} {d b : Nat} (hS : St h) : Det (gX (gq u)) MX7_clear d b [(2, 10)] h (9, 0) (up2 (up2 (up2 (up2 (hset (hset h 17 8 0) 18 8 0) 10 2 0) 10 3 0) 10 4 0) 10 5 0) := by
  intro Q hQ
  have loop : ∀ n : Nat, n ≤ 8 → WP (gX (gq u)) MX7_clear d b Q 2 [(2, 10), (0, (n : Int))] [] (hset (hset h 17 n 0) 18 n 0) := by
    refine loop_w 8 (fun n hn ih => ?_)
    refine wp_iload_n rfl rfl dX7_clear_2 ?_
    refine wp_aload_n rfl rfl dX7_clear_3 ?_
    refine wp_getfield1 (z := 8) (kI := 0) fX7_9 dX7_clear_4 (by first | omega | (simp (disch := omega) only [up2_ne, up2_eq, hset_ne, st_10_m1 hS, st_10_0 hS, st_10_1 hS, st_17_m2 hS, st_17_m1 hS, st_18_m2 hS, st_18_m1 hS]; first | done | omega)) (by first | assumption | (simp (disch := omega) only [up2_ne, up2_eq, hset_ne, st_10_m1 hS, st_10_0 hS, st_10_1 hS, st_17_m2 hS, st_17_m1 hS, st_18_m2 hS, st_18_m1 hS]; first | done | rfl | omega)) rfl rfl ?_
    try simp (disch := omega) only [up2_ne, up2_eq, hset_ne, st_10_m1 hS, st_10_0 hS, st_10_1 hS, st_17_m2 hS, st_17_m1 hS, st_18_m2 hS, st_18_m1 hS]
    refine wp_alen1 dX7_clear_7 (by first | omega | (simp (disch := omega) only [up2_ne, up2_eq, hset_ne, st_10_m1 hS, st_10_0 hS, st_10_1 hS, st_17_m2 hS, st_17_m1 hS, st_18_m2 hS, st_18_m1 hS]; first | done | omega)) (by first | omega | (simp (disch := omega) only [up2_ne, up2_eq, hset_ne, st_10_m1 hS, st_10_0 hS, st_10_1 hS, st_17_m2 hS, st_17_m1 hS, st_18_m2 hS, st_18_m1 hS]; first | done | omega)) ?_
    try simp (disch := omega) only [up2_ne, up2_eq, hset_ne, st_10_m1 hS, st_10_0 hS, st_10_1 hS, st_17_m2 hS, st_17_m1 hS, st_18_m2 hS, st_18_m1 hS]
    refine wp_icmp_ge (tgt := 40) (by first | assumption | exact bI_in _ | exact ⟨by omega, by omega⟩ | exact iAnd_in | exact iOr_in | exact iShr_in | exact iShl_in | exact iXor_in | exact hxs _) (by first | assumption | exact bI_in _ | exact ⟨by omega, by omega⟩ | exact iAnd_in | exact iOr_in | exact iShr_in | exact iShl_in | exact iXor_in | exact hxs _) dX7_clear_8 (by decide) (fun c1 => ?_) (fun c1 => ?_)
    · refine wp_aload_n rfl rfl dX7_clear_40 ?_
      refine wp_iconst dX7_clear_41 ?_
      refine wp_putfield1 (z := 8) (kI := 2) fX7_18 dX7_clear_42 (by first | omega | (simp (disch := omega) only [up2_ne, up2_eq, hset_ne, st_10_m1 hS, st_10_0 hS, st_10_1 hS, st_17_m2 hS, st_17_m1 hS, st_18_m2 hS, st_18_m1 hS]; first | done | omega)) (by first | assumption | (simp (disch := omega) only [up2_ne, up2_eq, hset_ne, st_10_m1 hS, st_10_0 hS, st_10_1 hS, st_17_m2 hS, st_17_m1 hS, st_18_m2 hS, st_18_m1 hS]; first | done | rfl | omega)) rfl rfl ?_
      refine wp_aload_n rfl rfl dX7_clear_45 ?_
      refine wp_iconst dX7_clear_46 ?_
      refine wp_putfield1 (z := 8) (kI := 3) fX7_22 dX7_clear_47 (by first | omega | (simp (disch := omega) only [up2_ne, up2_eq, hset_ne, st_10_m1 hS, st_10_0 hS, st_10_1 hS, st_17_m2 hS, st_17_m1 hS, st_18_m2 hS, st_18_m1 hS]; first | done | omega)) (by first | assumption | (simp (disch := omega) only [up2_ne, up2_eq, hset_ne, st_10_m1 hS, st_10_0 hS, st_10_1 hS, st_17_m2 hS, st_17_m1 hS, st_18_m2 hS, st_18_m1 hS]; first | done | rfl | omega)) rfl rfl ?_
      refine wp_aload_n rfl rfl dX7_clear_50 ?_
      refine wp_lconst (v := 0) rfl dX7_clear_51 ?_
      refine wp_putfield1 (z := 8) (kI := 4) fX7_25 dX7_clear_52 (by first | omega | (simp (disch := omega) only [up2_ne, up2_eq, hset_ne, st_10_m1 hS, st_10_0 hS, st_10_1 hS, st_17_m2 hS, st_17_m1 hS, st_18_m2 hS, st_18_m1 hS]; first | done | omega)) (by first | assumption | (simp (disch := omega) only [up2_ne, up2_eq, hset_ne, st_10_m1 hS, st_10_0 hS, st_10_1 hS, st_17_m2 hS, st_17_m1 hS, st_18_m2 hS, st_18_m1 hS]; first | done | rfl | omega)) rfl rfl ?_
      refine wp_aload_n rfl rfl dX7_clear_55 ?_
      refine wp_iconst dX7_clear_56 ?_
      refine wp_putfield1 (z := 8) (kI := 5) fX7_29 dX7_clear_57 (by first | omega | (simp (disch := omega) only [up2_ne, up2_eq, hset_ne, st_10_m1 hS, st_10_0 hS, st_10_1 hS, st_17_m2 hS, st_17_m1 hS, st_18_m2 hS, st_18_m1 hS]; first | done | omega)) (by first | assumption | (simp (disch := omega) only [up2_ne, up2_eq, hset_ne, st_10_m1 hS, st_10_0 hS, st_10_1 hS, st_17_m2 hS, st_17_m1 hS, st_18_m2 hS, st_18_m1 hS]; first | done | rfl | omega)) rfl rfl ?_
      refine wp_vret dX7_clear_60 rfl ?_
      first
        | (have en : (n : Int) = 8 := by omega
           rw [en]
           exact hQ)
        | (exfalso; omega)
    · refine wp_iload_n rfl rfl dX7_clear_11 ?_
      refine wp_aload_n rfl rfl dX7_clear_12 ?_
      refine wp_getfield1 (z := 8) (kI := 1) fX7_15 dX7_clear_13 (by first | omega | (simp (disch := omega) only [up2_ne, up2_eq, hset_ne, st_10_m1 hS, st_10_0 hS, st_10_1 hS, st_17_m2 hS, st_17_m1 hS, st_18_m2 hS, st_18_m1 hS]; first | done | omega)) (by first | assumption | (simp (disch := omega) only [up2_ne, up2_eq, hset_ne, st_10_m1 hS, st_10_0 hS, st_10_1 hS, st_17_m2 hS, st_17_m1 hS, st_18_m2 hS, st_18_m1 hS]; first | done | rfl | omega)) rfl rfl ?_
      try simp (disch := omega) only [up2_ne, up2_eq, hset_ne, st_10_m1 hS, st_10_0 hS, st_10_1 hS, st_17_m2 hS, st_17_m1 hS, st_18_m2 hS, st_18_m1 hS]
      refine wp_alen1 dX7_clear_16 (by first | omega | (simp (disch := omega) only [up2_ne, up2_eq, hset_ne, st_10_m1 hS, st_10_0 hS, st_10_1 hS, st_17_m2 hS, st_17_m1 hS, st_18_m2 hS, st_18_m1 hS]; first | done | omega)) (by first | omega | (simp (disch := omega) only [up2_ne, up2_eq, hset_ne, st_10_m1 hS, st_10_0 hS, st_10_1 hS, st_17_m2 hS, st_17_m1 hS, st_18_m2 hS, st_18_m1 hS]; first | done | omega)) ?_
      try simp (disch := omega) only [up2_ne, up2_eq, hset_ne, st_10_m1 hS, st_10_0 hS, st_10_1 hS, st_17_m2 hS, st_17_m1 hS, st_18_m2 hS, st_18_m1 hS]
      refine wp_icmp_ge (tgt := 40) (by first | assumption | exact bI_in _ | exact ⟨by omega, by omega⟩ | exact iAnd_in | exact iOr_in | exact iShr_in | exact iShl_in | exact iXor_in | exact hxs _) (by first | assumption | exact bI_in _ | exact ⟨by omega, by omega⟩ | exact iAnd_in | exact iOr_in | exact iShr_in | exact iShl_in | exact iXor_in | exact hxs _) dX7_clear_17 (by decide) (fun c2 => ?_) (fun c2 => ?_)
      · refine wp_aload_n rfl rfl dX7_clear_40 ?_
        refine wp_iconst dX7_clear_41 ?_
        refine wp_putfield1 (z := 8) (kI := 2) fX7_18 dX7_clear_42 (by first | omega | (simp (disch := omega) only [up2_ne, up2_eq, hset_ne, st_10_m1 hS, st_10_0 hS, st_10_1 hS, st_17_m2 hS, st_17_m1 hS, st_18_m2 hS, st_18_m1 hS]; first | done | omega)) (by first | assumption | (simp (disch := omega) only [up2_ne, up2_eq, hset_ne, st_10_m1 hS, st_10_0 hS, st_10_1 hS, st_17_m2 hS, st_17_m1 hS, st_18_m2 hS, st_18_m1 hS]; first | done | rfl | omega)) rfl rfl ?_
        refine wp_aload_n rfl rfl dX7_clear_45 ?_
        refine wp_iconst dX7_clear_46 ?_
        refine wp_putfield1 (z := 8) (kI := 3) fX7_22 dX7_clear_47 (by first | omega | (simp (disch := omega) only [up2_ne, up2_eq, hset_ne, st_10_m1 hS, st_10_0 hS, st_10_1 hS, st_17_m2 hS, st_17_m1 hS, st_18_m2 hS, st_18_m1 hS]; first | done | omega)) (by first | assumption | (simp (disch := omega) only [up2_ne, up2_eq, hset_ne, st_10_m1 hS, st_10_0 hS, st_10_1 hS, st_17_m2 hS, st_17_m1 hS, st_18_m2 hS, st_18_m1 hS]; first | done | rfl | omega)) rfl rfl ?_
        refine wp_aload_n rfl rfl dX7_clear_50 ?_
        refine wp_lconst (v := 0) rfl dX7_clear_51 ?_
        refine wp_putfield1 (z := 8) (kI := 4) fX7_25 dX7_clear_52 (by first | omega | (simp (disch := omega) only [up2_ne, up2_eq, hset_ne, st_10_m1 hS, st_10_0 hS, st_10_1 hS, st_17_m2 hS, st_17_m1 hS, st_18_m2 hS, st_18_m1 hS]; first | done | omega)) (by first | assumption | (simp (disch := omega) only [up2_ne, up2_eq, hset_ne, st_10_m1 hS, st_10_0 hS, st_10_1 hS, st_17_m2 hS, st_17_m1 hS, st_18_m2 hS, st_18_m1 hS]; first | done | rfl | omega)) rfl rfl ?_
        refine wp_aload_n rfl rfl dX7_clear_55 ?_
        refine wp_iconst dX7_clear_56 ?_
        refine wp_putfield1 (z := 8) (kI := 5) fX7_29 dX7_clear_57 (by first | omega | (simp (disch := omega) only [up2_ne, up2_eq, hset_ne, st_10_m1 hS, st_10_0 hS, st_10_1 hS, st_17_m2 hS, st_17_m1 hS, st_18_m2 hS, st_18_m1 hS]; first | done | omega)) (by first | assumption | (simp (disch := omega) only [up2_ne, up2_eq, hset_ne, st_10_m1 hS, st_10_0 hS, st_10_1 hS, st_17_m2 hS, st_17_m1 hS, st_18_m2 hS, st_18_m1 hS]; first | done | rfl | omega)) rfl rfl ?_
        refine wp_vret dX7_clear_60 rfl ?_
        first
          | (have en : (n : Int) = 8 := by omega
             rw [en]
             exact hQ)
          | (exfalso; omega)
      · refine wp_aload_n rfl rfl dX7_clear_20 ?_
        refine wp_getfield1 (z := 8) (kI := 0) fX7_9 dX7_clear_21 (by first | omega | (simp (disch := omega) only [up2_ne, up2_eq, hset_ne, st_10_m1 hS, st_10_0 hS, st_10_1 hS, st_17_m2 hS, st_17_m1 hS, st_18_m2 hS, st_18_m1 hS]; first | done | omega)) (by first | assumption | (simp (disch := omega) only [up2_ne, up2_eq, hset_ne, st_10_m1 hS, st_10_0 hS, st_10_1 hS, st_17_m2 hS, st_17_m1 hS, st_18_m2 hS, st_18_m1 hS]; first | done | rfl | omega)) rfl rfl ?_
        try simp (disch := omega) only [up2_ne, up2_eq, hset_ne, st_10_m1 hS, st_10_0 hS, st_10_1 hS, st_17_m2 hS, st_17_m1 hS, st_18_m2 hS, st_18_m1 hS]
        refine wp_iload_n rfl rfl dX7_clear_24 ?_
        refine wp_iconst dX7_clear_25 ?_
        refine wp_iastore1 dX7_clear_26 (by first | omega | (simp (disch := omega) only [up2_ne, up2_eq, hset_ne, st_10_m1 hS, st_10_0 hS, st_10_1 hS, st_17_m2 hS, st_17_m1 hS, st_18_m2 hS, st_18_m1 hS]; first | done | omega)) (by first | assumption | (simp (disch := omega) only [up2_ne, up2_eq, hset_ne, st_10_m1 hS, st_10_0 hS, st_10_1 hS, st_17_m2 hS, st_17_m1 hS, st_18_m2 hS, st_18_m1 hS]; first | done | rfl | omega)) (by first | omega | (simp (disch := omega) only [up2_ne, up2_eq, hset_ne, st_10_m1 hS, st_10_0 hS, st_10_1 hS, st_17_m2 hS, st_17_m1 hS, st_18_m2 hS, st_18_m1 hS]; first | done | omega)) (by first | omega | (simp (disch := omega) only [up2_ne, up2_eq, hset_ne, st_10_m1 hS, st_10_0 hS, st_10_1 hS, st_17_m2 hS, st_17_m1 hS, st_18_m2 hS, st_18_m1 hS]; first | done | omega)) ?_
        refine wp_aload_n rfl rfl dX7_clear_27 ?_
        refine wp_getfield1 (z := 8) (kI := 1) fX7_15 dX7_clear_28 (by first | omega | (simp (disch := omega) only [up2_ne, up2_eq, hset_ne, st_10_m1 hS, st_10_0 hS, st_10_1 hS, st_17_m2 hS, st_17_m1 hS, st_18_m2 hS, st_18_m1 hS]; first | done | omega)) (by first | assumption | (simp (disch := omega) only [up2_ne, up2_eq, hset_ne, st_10_m1 hS, st_10_0 hS, st_10_1 hS, st_17_m2 hS, st_17_m1 hS, st_18_m2 hS, st_18_m1 hS]; first | done | rfl | omega)) rfl rfl ?_
        try simp (disch := omega) only [up2_ne, up2_eq, hset_ne, st_10_m1 hS, st_10_0 hS, st_10_1 hS, st_17_m2 hS, st_17_m1 hS, st_18_m2 hS, st_18_m1 hS]
        refine wp_iload_n rfl rfl dX7_clear_31 ?_
        refine wp_iconst dX7_clear_32 ?_
        refine wp_iastore1 dX7_clear_33 (by first | omega | (simp (disch := omega) only [up2_ne, up2_eq, hset_ne, st_10_m1 hS, st_10_0 hS, st_10_1 hS, st_17_m2 hS, st_17_m1 hS, st_18_m2 hS, st_18_m1 hS]; first | done | omega)) (by first | assumption | (simp (disch := omega) only [up2_ne, up2_eq, hset_ne, st_10_m1 hS, st_10_0 hS, st_10_1 hS, st_17_m2 hS, st_17_m1 hS, st_18_m2 hS, st_18_m1 hS]; first | done | rfl | omega)) (by first | omega | (simp (disch := omega) only [up2_ne, up2_eq, hset_ne, st_10_m1 hS, st_10_0 hS, st_10_1 hS, st_17_m2 hS, st_17_m1 hS, st_18_m2 hS, st_18_m1 hS]; first | done | omega)) (by first | omega | (simp (disch := omega) only [up2_ne, up2_eq, hset_ne, st_10_m1 hS, st_10_0 hS, st_10_1 hS, st_17_m2 hS, st_17_m1 hS, st_18_m2 hS, st_18_m1 hS]; first | done | omega)) ?_
        refine wp_iinc rfl rfl dX7_clear_34 rfl rfl ?_
        try simp only [List.set_cons_zero, List.set_cons_succ]
        refine wp_goto (tgt := 2) dX7_clear_37 (by decide) ?_
        have hi := ih (by omega)
        rw [← hset_up2 (by decide), hset_s (by omega), hset_s (by omega)]
        exact hi
  show WP (gX (gq u)) MX7_clear d b Q 0 [(2, 10), (9, 0)] [] h
  refine wp_iconst dX7_clear_0 ?_
  refine wp_istore_n rfl dX7_clear_1 rfl (Nat.le_of_ble_eq_true rfl) rfl ?_
  try simp only [List.set_cons_zero, List.set_cons_succ]
  have l0 := loop 0 (by omega)
  rw [show (((0 : Nat) : Int)) = 0 from rfl, hset_0, hset_0] at l0
  exact l0
theorem s_X7_lay {u : gT} {h : mH} {d b : Nat} {r v c s : Int} (hS : St h) (r0 : 0 ≤ r) (r1 : r ≤ 7) (hc : h 18 r = c) (hs : h 17 r = s) (c0 : 1 ≤ c) (c1 : c ≤ 1000) (hp : InI (60 * v - (60 : Int).tdiv c * s)) : Det (gX (gq u)) MX7_lay (d + 1) b [(2, 10), (0, r), (0, v)] h (9, 0) (up2 (up2 h 10 4 (h 10 4 + (60 * v - (60 : Int).tdiv c * s))) 10 5 (h 10 5 + 1)) := by
  intro Q hQ
  show WP (gX (gq u)) MX7_lay (d + 1) b Q 0 [(2, 10), (0, r), (0, v)] [] h
  refine wp_iload_n rfl rfl dX7_lay_0 ?_
  refine wp_iconst dX7_lay_1 ?_
  refine wp_bipush (by decide) dX7_lay_2 ?_
  refine wp_cSN3 okX11_isWithin wX7_32 dX7_lay_4 rfl (Nat.le_of_ble_eq_true rfl) (Nat.le_of_ble_eq_true rfl) (s_X11_isWithin (by exact ⟨by omega, by omega⟩) (by exact ⟨by omega, by omega⟩) (by exact ⟨by omega, by omega⟩)) (Nat.zero_le _) ?_
  try simp (disch := omega) only [up2_ne, up2_eq, hc, hs, st_10_m1 hS, st_10_0 hS, st_10_1 hS, st_17_m2 hS, st_17_m1 hS, st_18_m2 hS, st_18_m1 hS]
  refine wp_ifB_eq (tgt := 60) dX7_lay_7 (by decide) (fun c1 => ?_) (fun c1 => ?_)
  · refine wp_vret dX7_lay_60 rfl ?_
    first | exact hQ | (exfalso; omega)
  · refine wp_aload_n rfl rfl dX7_lay_10 ?_
    refine wp_getfield1 (z := 8) (kI := 1) fX7_15 dX7_lay_11 (by first | omega | (simp (disch := omega) only [up2_ne, up2_eq, hc, hs, st_10_m1 hS, st_10_0 hS, st_10_1 hS, st_17_m2 hS, st_17_m1 hS, st_18_m2 hS, st_18_m1 hS]; first | done | omega)) (by first | assumption | (simp (disch := omega) only [up2_ne, up2_eq, hc, hs, st_10_m1 hS, st_10_0 hS, st_10_1 hS, st_17_m2 hS, st_17_m1 hS, st_18_m2 hS, st_18_m1 hS]; first | done | rfl | omega)) rfl rfl ?_
    try simp (disch := omega) only [up2_ne, up2_eq, hc, hs, st_10_m1 hS, st_10_0 hS, st_10_1 hS, st_17_m2 hS, st_17_m1 hS, st_18_m2 hS, st_18_m1 hS]
    refine wp_iload_n rfl rfl dX7_lay_14 ?_
    refine wp_iaload1 dX7_lay_15 (by first | omega | (simp (disch := omega) only [up2_ne, up2_eq, hc, hs, st_10_m1 hS, st_10_0 hS, st_10_1 hS, st_17_m2 hS, st_17_m1 hS, st_18_m2 hS, st_18_m1 hS]; first | done | omega)) (by first | assumption | (simp (disch := omega) only [up2_ne, up2_eq, hc, hs, st_10_m1 hS, st_10_0 hS, st_10_1 hS, st_17_m2 hS, st_17_m1 hS, st_18_m2 hS, st_18_m1 hS]; first | done | rfl | omega)) (by first | omega | (simp (disch := omega) only [up2_ne, up2_eq, hc, hs, st_10_m1 hS, st_10_0 hS, st_10_1 hS, st_17_m2 hS, st_17_m1 hS, st_18_m2 hS, st_18_m1 hS]; first | done | omega)) (by first | omega | (simp (disch := omega) only [up2_ne, up2_eq, hc, hs, st_10_m1 hS, st_10_0 hS, st_10_1 hS, st_17_m2 hS, st_17_m1 hS, st_18_m2 hS, st_18_m1 hS]; first | done | omega)) ?_
    try simp (disch := omega) only [up2_ne, up2_eq, hc, hs, st_10_m1 hS, st_10_0 hS, st_10_1 hS, st_17_m2 hS, st_17_m1 hS, st_18_m2 hS, st_18_m1 hS]
    refine wp_if_le (tgt := 60) (by first | assumption | exact bI_in _ | exact ⟨by omega, by omega⟩ | exact iAnd_in | exact iOr_in | exact iShr_in | exact iShl_in | exact iXor_in | exact hxs _) dX7_lay_16 (by decide) (fun c2 => ?_) (fun c2 => ?_)
    · refine wp_vret dX7_lay_60 rfl ?_
      first | exact hQ | (exfalso; omega)
    · refine wp_aload_n rfl rfl dX7_lay_19 ?_
      refine wp_dup (by decide) dX7_lay_20 ?_
      refine wp_getfield1 (z := 8) (kI := 4) fX7_25 dX7_lay_21 (by first | omega | (simp (disch := omega) only [up2_ne, up2_eq, hc, hs, st_10_m1 hS, st_10_0 hS, st_10_1 hS, st_17_m2 hS, st_17_m1 hS, st_18_m2 hS, st_18_m1 hS]; first | done | omega)) (by first | assumption | (simp (disch := omega) only [up2_ne, up2_eq, hc, hs, st_10_m1 hS, st_10_0 hS, st_10_1 hS, st_17_m2 hS, st_17_m1 hS, st_18_m2 hS, st_18_m1 hS]; first | done | rfl | omega)) rfl rfl ?_
      try simp (disch := omega) only [up2_ne, up2_eq, hc, hs, st_10_m1 hS, st_10_0 hS, st_10_1 hS, st_17_m2 hS, st_17_m1 hS, st_18_m2 hS, st_18_m1 hS]
      refine wp_bipush (by decide) dX7_lay_24 ?_
      refine wp_iload_n rfl rfl dX7_lay_26 ?_
      refine wp_imul dX7_lay_27 ?_
      refine wp_bipush (by decide) dX7_lay_28 ?_
      refine wp_aload_n rfl rfl dX7_lay_30 ?_
      refine wp_getfield1 (z := 8) (kI := 1) fX7_15 dX7_lay_31 (by first | omega | (simp (disch := omega) only [up2_ne, up2_eq, hc, hs, st_10_m1 hS, st_10_0 hS, st_10_1 hS, st_17_m2 hS, st_17_m1 hS, st_18_m2 hS, st_18_m1 hS]; first | done | omega)) (by first | assumption | (simp (disch := omega) only [up2_ne, up2_eq, hc, hs, st_10_m1 hS, st_10_0 hS, st_10_1 hS, st_17_m2 hS, st_17_m1 hS, st_18_m2 hS, st_18_m1 hS]; first | done | rfl | omega)) rfl rfl ?_
      try simp (disch := omega) only [up2_ne, up2_eq, hc, hs, st_10_m1 hS, st_10_0 hS, st_10_1 hS, st_17_m2 hS, st_17_m1 hS, st_18_m2 hS, st_18_m1 hS]
      refine wp_iload_n rfl rfl dX7_lay_34 ?_
      refine wp_iaload1 dX7_lay_35 (by first | omega | (simp (disch := omega) only [up2_ne, up2_eq, hc, hs, st_10_m1 hS, st_10_0 hS, st_10_1 hS, st_17_m2 hS, st_17_m1 hS, st_18_m2 hS, st_18_m1 hS]; first | done | omega)) (by first | assumption | (simp (disch := omega) only [up2_ne, up2_eq, hc, hs, st_10_m1 hS, st_10_0 hS, st_10_1 hS, st_17_m2 hS, st_17_m1 hS, st_18_m2 hS, st_18_m1 hS]; first | done | rfl | omega)) (by first | omega | (simp (disch := omega) only [up2_ne, up2_eq, hc, hs, st_10_m1 hS, st_10_0 hS, st_10_1 hS, st_17_m2 hS, st_17_m1 hS, st_18_m2 hS, st_18_m1 hS]; first | done | omega)) (by first | omega | (simp (disch := omega) only [up2_ne, up2_eq, hc, hs, st_10_m1 hS, st_10_0 hS, st_10_1 hS, st_17_m2 hS, st_17_m1 hS, st_18_m2 hS, st_18_m1 hS]; first | done | omega)) ?_
      try simp (disch := omega) only [up2_ne, up2_eq, hc, hs, st_10_m1 hS, st_10_0 hS, st_10_1 hS, st_17_m2 hS, st_17_m1 hS, st_18_m2 hS, st_18_m1 hS]
      refine wp_idiv (by first | assumption | exact bI_in _ | exact ⟨by omega, by omega⟩ | exact iAnd_in | exact iOr_in | exact iShr_in | exact iShl_in | exact iXor_in | exact hxs _) (by first | assumption | exact bI_in _ | exact ⟨by omega, by omega⟩ | exact iAnd_in | exact iOr_in | exact iShr_in | exact iShl_in | exact iXor_in | exact hxs _) (by omega) dX7_lay_36 ?_
      try simp (disch := omega) only [up2_ne, up2_eq, hc, hs, st_10_m1 hS, st_10_0 hS, st_10_1 hS, st_17_m2 hS, st_17_m1 hS, st_18_m2 hS, st_18_m1 hS]
      refine wp_aload_n rfl rfl dX7_lay_37 ?_
      refine wp_getfield1 (z := 8) (kI := 0) fX7_9 dX7_lay_38 (by first | omega | (simp (disch := omega) only [up2_ne, up2_eq, hc, hs, st_10_m1 hS, st_10_0 hS, st_10_1 hS, st_17_m2 hS, st_17_m1 hS, st_18_m2 hS, st_18_m1 hS]; first | done | omega)) (by first | assumption | (simp (disch := omega) only [up2_ne, up2_eq, hc, hs, st_10_m1 hS, st_10_0 hS, st_10_1 hS, st_17_m2 hS, st_17_m1 hS, st_18_m2 hS, st_18_m1 hS]; first | done | rfl | omega)) rfl rfl ?_
      try simp (disch := omega) only [up2_ne, up2_eq, hc, hs, st_10_m1 hS, st_10_0 hS, st_10_1 hS, st_17_m2 hS, st_17_m1 hS, st_18_m2 hS, st_18_m1 hS]
      refine wp_iload_n rfl rfl dX7_lay_41 ?_
      refine wp_iaload1 dX7_lay_42 (by first | omega | (simp (disch := omega) only [up2_ne, up2_eq, hc, hs, st_10_m1 hS, st_10_0 hS, st_10_1 hS, st_17_m2 hS, st_17_m1 hS, st_18_m2 hS, st_18_m1 hS]; first | done | omega)) (by first | assumption | (simp (disch := omega) only [up2_ne, up2_eq, hc, hs, st_10_m1 hS, st_10_0 hS, st_10_1 hS, st_17_m2 hS, st_17_m1 hS, st_18_m2 hS, st_18_m1 hS]; first | done | rfl | omega)) (by first | omega | (simp (disch := omega) only [up2_ne, up2_eq, hc, hs, st_10_m1 hS, st_10_0 hS, st_10_1 hS, st_17_m2 hS, st_17_m1 hS, st_18_m2 hS, st_18_m1 hS]; first | done | omega)) (by first | omega | (simp (disch := omega) only [up2_ne, up2_eq, hc, hs, st_10_m1 hS, st_10_0 hS, st_10_1 hS, st_17_m2 hS, st_17_m1 hS, st_18_m2 hS, st_18_m1 hS]; first | done | omega)) ?_
      try simp (disch := omega) only [up2_ne, up2_eq, hc, hs, st_10_m1 hS, st_10_0 hS, st_10_1 hS, st_17_m2 hS, st_17_m1 hS, st_18_m2 hS, st_18_m1 hS]
      refine wp_imul dX7_lay_43 ?_
      refine wp_isub dX7_lay_44 ?_
      refine wp_i2l (by first | assumption | exact bI_in _ | exact ⟨by omega, by omega⟩ | exact iAnd_in | exact iOr_in | exact iShr_in | exact iShl_in | exact iXor_in | exact hxs _) dX7_lay_45 ?_
      refine wp_ladd dX7_lay_46 ?_
      refine wp_putfield1 (z := 8) (kI := 4) fX7_25 dX7_lay_47 (by first | omega | (simp (disch := omega) only [up2_ne, up2_eq, hc, hs, st_10_m1 hS, st_10_0 hS, st_10_1 hS, st_17_m2 hS, st_17_m1 hS, st_18_m2 hS, st_18_m1 hS]; first | done | omega)) (by first | assumption | (simp (disch := omega) only [up2_ne, up2_eq, hc, hs, st_10_m1 hS, st_10_0 hS, st_10_1 hS, st_17_m2 hS, st_17_m1 hS, st_18_m2 hS, st_18_m1 hS]; first | done | rfl | omega)) rfl rfl ?_
      refine wp_aload_n rfl rfl dX7_lay_50 ?_
      refine wp_dup (by decide) dX7_lay_51 ?_
      refine wp_getfield1 (z := 8) (kI := 5) fX7_29 dX7_lay_52 (by first | omega | (simp (disch := omega) only [up2_ne, up2_eq, hc, hs, st_10_m1 hS, st_10_0 hS, st_10_1 hS, st_17_m2 hS, st_17_m1 hS, st_18_m2 hS, st_18_m1 hS]; first | done | omega)) (by first | assumption | (simp (disch := omega) only [up2_ne, up2_eq, hc, hs, st_10_m1 hS, st_10_0 hS, st_10_1 hS, st_17_m2 hS, st_17_m1 hS, st_18_m2 hS, st_18_m1 hS]; first | done | rfl | omega)) rfl rfl ?_
      try simp (disch := omega) only [up2_ne, up2_eq, hc, hs, st_10_m1 hS, st_10_0 hS, st_10_1 hS, st_17_m2 hS, st_17_m1 hS, st_18_m2 hS, st_18_m1 hS]
      refine wp_iconst dX7_lay_55 ?_
      refine wp_iadd dX7_lay_56 ?_
      refine wp_putfield1 (z := 8) (kI := 5) fX7_29 dX7_lay_57 (by first | omega | (simp (disch := omega) only [up2_ne, up2_eq, hc, hs, st_10_m1 hS, st_10_0 hS, st_10_1 hS, st_17_m2 hS, st_17_m1 hS, st_18_m2 hS, st_18_m1 hS]; first | done | omega)) (by first | assumption | (simp (disch := omega) only [up2_ne, up2_eq, hc, hs, st_10_m1 hS, st_10_0 hS, st_10_1 hS, st_17_m2 hS, st_17_m1 hS, st_18_m2 hS, st_18_m1 hS]; first | done | rfl | omega)) rfl rfl ?_
      refine wp_vret dX7_lay_60 rfl ?_
      first | exact hQ | (exfalso; omega)
