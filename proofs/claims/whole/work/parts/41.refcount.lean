/-! ===== the reference: counts and sums ===== -/
theorem tm8 (n : Nat) : ((n : Int)).tmod 8 = (n : Int) % 8 := Int.tmod_eq_emod_of_nonneg (by omega)
theorem td8 (n : Nat) : ((n : Int)).tdiv 8 = (n : Int) / 8 := Int.tdiv_eq_ediv_of_nonneg (by omega)
def rdsF (h : mH) (r : Int) : Int → Int := fun a => bt (h 218 a) r
def rds (h : mH) (r : Int) : Int := sm (rdsF h r) (h 200 10).toNat
theorem s_X12_reads {u : gT} {h : mH} {d b : Nat} {r : Int} (hS : St h) (na0 : 0 ≤ h 200 10) (na1 : h 200 10 ≤ 14) : Det (gX (gq u)) MX12_reads d b [(2, 200), (0, r)] h (0, rds h r) h := by
  intro Q hQ
  unfold rds at hQ
  have loop : ∀ n : Nat, n ≤ (h 200 10).toNat → WP (gX (gq u)) MX12_reads d b Q 4 [(2, 200), (0, r), (0, sm (rdsF h r) n), (0, (n : Int))] [] h := by
    refine loop_w ((h 200 10).toNat) (fun n hn ih => ?_)
    refine wp_iload_n rfl rfl dX12_reads_4 ?_
    refine wp_aload_n rfl rfl dX12_reads_5 ?_
    refine wp_getfield1 (z := 13) (kI := 10) fX12_10 dX12_reads_6 (by first | omega | (simp (disch := omega) only [up2_ne, up2_eq, st_200_m1 hS, st_200_18 hS, st_218_m2 hS, st_218_m1 hS]; first | done | omega)) (by first | assumption | (simp (disch := omega) only [up2_ne, up2_eq, st_200_m1 hS, st_200_18 hS, st_218_m2 hS, st_218_m1 hS]; first | done | rfl | omega)) rfl rfl ?_
    try simp (disch := omega) only [up2_ne, up2_eq, st_200_m1 hS, st_200_18 hS, st_218_m2 hS, st_218_m1 hS]
    refine wp_icmp_ge (tgt := 31) (by first | assumption | exact bI_in _ | exact ⟨by omega, by omega⟩ | exact iAnd_in | exact iOr_in | exact iShr_in | exact iShl_in | exact iXor_in | exact hxs _) (by first | assumption | exact bI_in _ | exact ⟨by omega, by omega⟩ | exact iAnd_in | exact iOr_in | exact iShr_in | exact iShl_in | exact iXor_in | exact hxs _) dX12_reads_9 (by decide) (fun c1 => ?_) (fun c1 => ?_)
    · refine wp_iload_n rfl rfl dX12_reads_31 ?_
      refine wp_iret dX12_reads_32 rfl ?_
      have e1 : n = (h 200 10).toNat := by omega
      subst e1
      exact hQ
    · refine wp_iload_n rfl rfl dX12_reads_12 ?_
      refine wp_aload_n rfl rfl dX12_reads_13 ?_
      refine wp_getfield1 (z := 13) (kI := 18) fX12_55 dX12_reads_14 (by first | omega | (simp (disch := omega) only [up2_ne, up2_eq, st_200_m1 hS, st_200_18 hS, st_218_m2 hS, st_218_m1 hS]; first | done | omega)) (by first | assumption | (simp (disch := omega) only [up2_ne, up2_eq, st_200_m1 hS, st_200_18 hS, st_218_m2 hS, st_218_m1 hS]; first | done | rfl | omega)) rfl rfl ?_
      try simp (disch := omega) only [up2_ne, up2_eq, st_200_m1 hS, st_200_18 hS, st_218_m2 hS, st_218_m1 hS]
      refine wp_iload_n rfl rfl dX12_reads_17 ?_
      refine wp_iaload1 dX12_reads_18 (by first | omega | (simp (disch := omega) only [up2_ne, up2_eq, st_200_m1 hS, st_200_18 hS, st_218_m2 hS, st_218_m1 hS]; first | done | omega)) (by first | assumption | (simp (disch := omega) only [up2_ne, up2_eq, st_200_m1 hS, st_200_18 hS, st_218_m2 hS, st_218_m1 hS]; first | done | rfl | omega)) (by first | omega | (simp (disch := omega) only [up2_ne, up2_eq, st_200_m1 hS, st_200_18 hS, st_218_m2 hS, st_218_m1 hS]; first | done | omega)) (by first | omega | (simp (disch := omega) only [up2_ne, up2_eq, st_200_m1 hS, st_200_18 hS, st_218_m2 hS, st_218_m1 hS]; first | done | omega)) ?_
      try simp (disch := omega) only [up2_ne, up2_eq, st_200_m1 hS, st_200_18 hS, st_218_m2 hS, st_218_m1 hS]
      refine wp_iload_n rfl rfl dX12_reads_19 ?_
      refine wp_ishr dX12_reads_20 ?_
      refine wp_iconst dX12_reads_21 ?_
      refine wp_iand dX12_reads_22 ?_
      refine wp_iadd dX12_reads_23 ?_
      refine wp_istore_n rfl dX12_reads_24 rfl (Nat.le_of_ble_eq_true rfl) rfl ?_
      try simp only [List.set_cons_zero, List.set_cons_succ]
      refine wp_iinc rfl rfl dX12_reads_25 rfl rfl ?_
      try simp only [List.set_cons_zero, List.set_cons_succ]
      refine wp_goto (tgt := 4) dX12_reads_28 (by decide) ?_
      exact ih (by omega)
  show WP (gX (gq u)) MX12_reads d b Q 0 [(2, 200), (0, r), (9, 0), (9, 0)] [] h
  refine wp_iconst dX12_reads_0 ?_
  refine wp_istore_n rfl dX12_reads_1 rfl (Nat.le_of_ble_eq_true rfl) rfl ?_
  try simp only [List.set_cons_zero, List.set_cons_succ]
  refine wp_iconst dX12_reads_2 ?_
  refine wp_istore_n rfl dX12_reads_3 rfl (Nat.le_of_ble_eq_true rfl) rfl ?_
  try simp only [List.set_cons_zero, List.set_cons_succ]
  exact loop 0 (by omega)
def cntF (h : mH) (r a : Int) : Int → Int := fun k => bI ((r < 0 ∨ k % 8 = r) ∧ (a < 0 ∨ k / 8 = a) ∧ k % 8 < h 200 6 ∧ (h 220 k ≠ -1 ∧ ¬ (h 219 k ≠ 0 ∨ h 208 (k % 8) = h 212 (k / 8) ∨ h 208 (k % 8) = h 213 (k / 8))))
def cnt (h : mH) (r a : Int) : Int := sm (cntF h r a) (h 200 10 * 8).toNat
def smsF (h : mH) (r a : Int) : Int → Int := fun k => if (r < 0 ∨ k % 8 = r) ∧ (a < 0 ∨ k / 8 = a) ∧ k % 8 < h 200 6 ∧ (h 220 k ≠ -1 ∧ ¬ (h 219 k ≠ 0 ∨ h 208 (k % 8) = h 212 (k / 8) ∨ h 208 (k % 8) = h 213 (k / 8))) then h 220 k else 0
def sms (h : mH) (r a : Int) : Int := sm (smsF h r a) (h 200 10 * 8).toNat
set_option maxHeartbeats 1000000 in
theorem s_X12_countOf {u : gT} {h : mH} {d b : Nat} {r a : Int} (hS : St h) (na0 : 0 ≤ h 200 10) (na1 : h 200 10 ≤ 14) (nr0 : 0 ≤ h 200 6) (nr1 : h 200 6 ≤ 8) (ir : InI r) (ia : InI a) (g1 : ∀ k, 0 ≤ k → k < 112 → InI (h 219 k)) (g2 : ∀ k, 0 ≤ k → k < 8 → InI (h 208 k)) (g3 : ∀ k, 0 ≤ k → k < 14 → InI (h 212 k)) (g4 : ∀ k, 0 ≤ k → k < 14 → InI (h 213 k)) (g5 : ∀ k, 0 ≤ k → k < 112 → InI (h 220 k)) : Det (gX (gq u)) MX12_countOf (d + 2) b [(2, 200), (0, r), (0, a)] h (0, cnt h r a) h := by
  intro Q hQ
  unfold cnt at hQ
  have loop : ∀ n : Nat, n ≤ (h 200 10 * 8).toNat → WP (gX (gq u)) MX12_countOf (d + 2) b Q 5 [(2, 200), (0, r), (0, a), (0, sm (cntF h r a) n), (0, (n : Int))] [] h := by
    refine loop_w ((h 200 10 * 8).toNat) (fun n hn ih => ?_)
    have k8 : (n : Int) < 112 ∨ n = (h 200 10 * 8).toNat := by omega
    have em : 8 * ((n : Int) / 8) + (n : Int) % 8 = (n : Int) := by omega
    refine wp_iload rfl dX12_countOf_5 ?_
    refine wp_aload_n rfl rfl dX12_countOf_7 ?_
    refine wp_getfield1 (z := 13) (kI := 10) fX12_10 dX12_countOf_8 (by first | omega | (simp (disch := omega) only [up2_ne, up2_eq, tm8, td8, st_200_m1 hS]; first | done | omega)) (by first | assumption | (simp (disch := omega) only [up2_ne, up2_eq, tm8, td8, st_200_m1 hS]; first | done | rfl | omega)) rfl rfl ?_
    try simp (disch := omega) only [up2_ne, up2_eq, tm8, td8, st_200_m1 hS]
    refine wp_bipush (by decide) dX12_countOf_11 ?_
    refine wp_imul dX12_countOf_13 ?_
    refine wp_icmp_ge (tgt := 86) (by first | assumption | exact bI_in _ | exact ⟨by omega, by omega⟩ | exact iAnd_in | exact iOr_in | exact iShr_in | exact iShl_in | exact iXor_in | exact hxs _) (by first | assumption | exact bI_in _ | exact ⟨by omega, by omega⟩ | exact iAnd_in | exact iOr_in | exact iShr_in | exact iShl_in | exact iXor_in | exact hxs _) dX12_countOf_14 (by decide) (fun c1 => ?_) (fun c1 => ?_)
    · refine wp_iload_n rfl rfl dX12_countOf_86 ?_
      refine wp_iret dX12_countOf_87 rfl ?_
      have e1 : n = (h 200 10 * 8).toNat := by omega
      subst e1
      exact hQ
    · refine wp_iload_n rfl rfl dX12_countOf_17 ?_
      refine wp_iload_n rfl rfl dX12_countOf_18 ?_
      refine wp_if_lt (tgt := 31) (by first | assumption | exact bI_in _ | exact ⟨by omega, by omega⟩ | exact iAnd_in | exact iOr_in | exact iShr_in | exact iShl_in | exact iXor_in | exact hxs _) dX12_countOf_19 (by decide) (fun c2 => ?_) (fun c2 => ?_)
      · refine wp_iload_n rfl rfl dX12_countOf_31 ?_
        refine wp_if_lt (tgt := 44) (by first | assumption | exact bI_in _ | exact ⟨by omega, by omega⟩ | exact iAnd_in | exact iOr_in | exact iShr_in | exact iShl_in | exact iXor_in | exact hxs _) dX12_countOf_32 (by decide) (fun c3 => ?_) (fun c3 => ?_)
        · refine wp_iload rfl dX12_countOf_44 ?_
          refine wp_bipush (by decide) dX12_countOf_46 ?_
          refine wp_irem (by first | assumption | exact bI_in _ | exact ⟨by omega, by omega⟩ | exact iAnd_in | exact iOr_in | exact iShr_in | exact iShl_in | exact iXor_in | exact hxs _) (by first | assumption | exact bI_in _ | exact ⟨by omega, by omega⟩ | exact iAnd_in | exact iOr_in | exact iShr_in | exact iShl_in | exact iXor_in | exact hxs _) (by omega) dX12_countOf_48 ?_
          try simp (disch := omega) only [up2_ne, up2_eq, tm8, td8, st_200_m1 hS]
          refine wp_aload_n rfl rfl dX12_countOf_49 ?_
          refine wp_getfield1 (z := 13) (kI := 6) fX12_7 dX12_countOf_50 (by first | omega | (simp (disch := omega) only [up2_ne, up2_eq, tm8, td8, st_200_m1 hS]; first | done | omega)) (by first | assumption | (simp (disch := omega) only [up2_ne, up2_eq, tm8, td8, st_200_m1 hS]; first | done | rfl | omega)) rfl rfl ?_
          try simp (disch := omega) only [up2_ne, up2_eq, tm8, td8, st_200_m1 hS]
          refine wp_icmp_ge (tgt := 77) (by first | assumption | exact bI_in _ | exact ⟨by omega, by omega⟩ | exact iAnd_in | exact iOr_in | exact iShr_in | exact iShl_in | exact iXor_in | exact hxs _) (by first | assumption | exact bI_in _ | exact ⟨by omega, by omega⟩ | exact iAnd_in | exact iOr_in | exact iShr_in | exact iShl_in | exact iXor_in | exact hxs _) dX12_countOf_53 (by decide) (fun c4 => ?_) (fun c4 => ?_)
          · refine wp_iconst dX12_countOf_77 ?_
            refine wp_iadd dX12_countOf_78 ?_
            refine wp_istore_n rfl dX12_countOf_79 rfl (Nat.le_of_ble_eq_true rfl) rfl ?_
            try simp only [List.set_cons_zero, List.set_cons_succ]
            refine wp_iinc rfl rfl dX12_countOf_80 rfl rfl ?_
            try simp only [List.set_cons_zero, List.set_cons_succ]
            refine wp_goto (tgt := 5) dX12_countOf_83 (by decide) ?_
            have hi := ih (by omega)
            first
              | (rw [show sm (cntF h r a) (n + 1) = sm (cntF h r a) n + 1 from by rw [sm]; unfold cntF; first | rw [bI_t ⟨by omega, by omega, by omega, by rw [em] at c_c; exact c_c⟩] | rw [if_pos ⟨by omega, by omega, by omega, by rw [em] at c_c; exact c_c⟩]] at hi; exact hi)
              | (rw [show sm (cntF h r a) (n + 1) = sm (cntF h r a) n + 0 from by rw [sm]; unfold cntF; first | rw [bI_f (by rintro ⟨z1, z2, z3, z4⟩; first | omega | (rw [em] at c_c; exact c_c z4))] | rw [if_neg (by rintro ⟨z1, z2, z3, z4⟩; first | omega | (rw [em] at c_c; exact c_c z4))]] at hi; exact hi)
          · refine wp_aload_n rfl rfl dX12_countOf_56 ?_
            refine wp_iload rfl dX12_countOf_57 ?_
            refine wp_bipush (by decide) dX12_countOf_59 ?_
            refine wp_irem (by first | assumption | exact bI_in _ | exact ⟨by omega, by omega⟩ | exact iAnd_in | exact iOr_in | exact iShr_in | exact iShl_in | exact iXor_in | exact hxs _) (by first | assumption | exact bI_in _ | exact ⟨by omega, by omega⟩ | exact iAnd_in | exact iOr_in | exact iShr_in | exact iShl_in | exact iXor_in | exact hxs _) (by omega) dX12_countOf_61 ?_
            try simp (disch := omega) only [up2_ne, up2_eq, tm8, td8, st_200_m1 hS]
            refine wp_iload rfl dX12_countOf_62 ?_
            refine wp_bipush (by decide) dX12_countOf_64 ?_
            refine wp_idiv (by first | assumption | exact bI_in _ | exact ⟨by omega, by omega⟩ | exact iAnd_in | exact iOr_in | exact iShr_in | exact iShl_in | exact iXor_in | exact hxs _) (by first | assumption | exact bI_in _ | exact ⟨by omega, by omega⟩ | exact iAnd_in | exact iOr_in | exact iShr_in | exact iShl_in | exact iXor_in | exact hxs _) (by omega) dX12_countOf_66 ?_
            try simp (disch := omega) only [up2_ne, up2_eq, tm8, td8, st_200_m1 hS]
            refine wp_cV2 (ci := 12) okX12_counts rfl rfl wX12_304 dX12_countOf_67 rfl (Nat.le_of_ble_eq_true rfl) (Nat.le_of_ble_eq_true rfl) (by first | omega | (simp (disch := omega) only [up2_ne, up2_eq, tm8, td8, st_200_m1 hS]; first | done | omega)) (by first | assumption | (simp (disch := omega) only [up2_ne, up2_eq, tm8, td8, st_200_m1 hS]; first | done | rfl | omega)) (s_X12_counts (r := (n : Int) % 8) (a := (n : Int) / 8) hS (by omega) (by omega) (by omega) (by omega) (by rw [em]; exact g1 _ (by omega) (by omega)) (g2 _ (by omega) (by omega)) (g3 _ (by omega) (by omega)) (g4 _ (by omega) (by omega)) (by rw [em]; exact g5 _ (by omega) (by omega))) (Nat.zero_le _) ?_
            try simp (disch := omega) only [up2_ne, up2_eq, tm8, td8, st_200_m1 hS]
            refine wp_ifB_eq (tgt := 77) dX12_countOf_70 (by decide) (fun c_c => ?_) (fun c_c => ?_)
            · refine wp_iconst dX12_countOf_77 ?_
              refine wp_iadd dX12_countOf_78 ?_
              refine wp_istore_n rfl dX12_countOf_79 rfl (Nat.le_of_ble_eq_true rfl) rfl ?_
              try simp only [List.set_cons_zero, List.set_cons_succ]
              refine wp_iinc rfl rfl dX12_countOf_80 rfl rfl ?_
              try simp only [List.set_cons_zero, List.set_cons_succ]
              refine wp_goto (tgt := 5) dX12_countOf_83 (by decide) ?_
              have hi := ih (by omega)
              first
                | (rw [show sm (cntF h r a) (n + 1) = sm (cntF h r a) n + 1 from by rw [sm]; unfold cntF; first | rw [bI_t ⟨by omega, by omega, by omega, by rw [em] at c_c; exact c_c⟩] | rw [if_pos ⟨by omega, by omega, by omega, by rw [em] at c_c; exact c_c⟩]] at hi; exact hi)
                | (rw [show sm (cntF h r a) (n + 1) = sm (cntF h r a) n + 0 from by rw [sm]; unfold cntF; first | rw [bI_f (by rintro ⟨z1, z2, z3, z4⟩; first | omega | (rw [em] at c_c; exact c_c z4))] | rw [if_neg (by rintro ⟨z1, z2, z3, z4⟩; first | omega | (rw [em] at c_c; exact c_c z4))]] at hi; exact hi)
            · refine wp_iconst dX12_countOf_73 ?_
              refine wp_goto (tgt := 78) dX12_countOf_74 (by decide) ?_
              refine wp_iadd dX12_countOf_78 ?_
              refine wp_istore_n rfl dX12_countOf_79 rfl (Nat.le_of_ble_eq_true rfl) rfl ?_
              try simp only [List.set_cons_zero, List.set_cons_succ]
              refine wp_iinc rfl rfl dX12_countOf_80 rfl rfl ?_
              try simp only [List.set_cons_zero, List.set_cons_succ]
              refine wp_goto (tgt := 5) dX12_countOf_83 (by decide) ?_
              have hi := ih (by omega)
              first
                | (rw [show sm (cntF h r a) (n + 1) = sm (cntF h r a) n + 1 from by rw [sm]; unfold cntF; first | rw [bI_t ⟨by omega, by omega, by omega, by rw [em] at c_c; exact c_c⟩] | rw [if_pos ⟨by omega, by omega, by omega, by rw [em] at c_c; exact c_c⟩]] at hi; exact hi)
                | (rw [show sm (cntF h r a) (n + 1) = sm (cntF h r a) n + 0 from by rw [sm]; unfold cntF; first | rw [bI_f (by rintro ⟨z1, z2, z3, z4⟩; first | omega | (rw [em] at c_c; exact c_c z4))] | rw [if_neg (by rintro ⟨z1, z2, z3, z4⟩; first | omega | (rw [em] at c_c; exact c_c z4))]] at hi; exact hi)
        · refine wp_iload rfl dX12_countOf_35 ?_
          refine wp_bipush (by decide) dX12_countOf_37 ?_
          refine wp_idiv (by first | assumption | exact bI_in _ | exact ⟨by omega, by omega⟩ | exact iAnd_in | exact iOr_in | exact iShr_in | exact iShl_in | exact iXor_in | exact hxs _) (by first | assumption | exact bI_in _ | exact ⟨by omega, by omega⟩ | exact iAnd_in | exact iOr_in | exact iShr_in | exact iShl_in | exact iXor_in | exact hxs _) (by omega) dX12_countOf_39 ?_
          try simp (disch := omega) only [up2_ne, up2_eq, tm8, td8, st_200_m1 hS]
          refine wp_iload_n rfl rfl dX12_countOf_40 ?_
          refine wp_icmp_ne (tgt := 77) (by first | assumption | exact bI_in _ | exact ⟨by omega, by omega⟩ | exact iAnd_in | exact iOr_in | exact iShr_in | exact iShl_in | exact iXor_in | exact hxs _) (by first | assumption | exact bI_in _ | exact ⟨by omega, by omega⟩ | exact iAnd_in | exact iOr_in | exact iShr_in | exact iShl_in | exact iXor_in | exact hxs _) dX12_countOf_41 (by decide) (fun c6 => ?_) (fun c6 => ?_)
          · refine wp_iconst dX12_countOf_77 ?_
            refine wp_iadd dX12_countOf_78 ?_
            refine wp_istore_n rfl dX12_countOf_79 rfl (Nat.le_of_ble_eq_true rfl) rfl ?_
            try simp only [List.set_cons_zero, List.set_cons_succ]
            refine wp_iinc rfl rfl dX12_countOf_80 rfl rfl ?_
            try simp only [List.set_cons_zero, List.set_cons_succ]
            refine wp_goto (tgt := 5) dX12_countOf_83 (by decide) ?_
            have hi := ih (by omega)
            first
              | (rw [show sm (cntF h r a) (n + 1) = sm (cntF h r a) n + 1 from by rw [sm]; unfold cntF; first | rw [bI_t ⟨by omega, by omega, by omega, by rw [em] at c_c; exact c_c⟩] | rw [if_pos ⟨by omega, by omega, by omega, by rw [em] at c_c; exact c_c⟩]] at hi; exact hi)
              | (rw [show sm (cntF h r a) (n + 1) = sm (cntF h r a) n + 0 from by rw [sm]; unfold cntF; first | rw [bI_f (by rintro ⟨z1, z2, z3, z4⟩; first | omega | (rw [em] at c_c; exact c_c z4))] | rw [if_neg (by rintro ⟨z1, z2, z3, z4⟩; first | omega | (rw [em] at c_c; exact c_c z4))]] at hi; exact hi)
          · refine wp_iload rfl dX12_countOf_44 ?_
            refine wp_bipush (by decide) dX12_countOf_46 ?_
            refine wp_irem (by first | assumption | exact bI_in _ | exact ⟨by omega, by omega⟩ | exact iAnd_in | exact iOr_in | exact iShr_in | exact iShl_in | exact iXor_in | exact hxs _) (by first | assumption | exact bI_in _ | exact ⟨by omega, by omega⟩ | exact iAnd_in | exact iOr_in | exact iShr_in | exact iShl_in | exact iXor_in | exact hxs _) (by omega) dX12_countOf_48 ?_
            try simp (disch := omega) only [up2_ne, up2_eq, tm8, td8, st_200_m1 hS]
            refine wp_aload_n rfl rfl dX12_countOf_49 ?_
            refine wp_getfield1 (z := 13) (kI := 6) fX12_7 dX12_countOf_50 (by first | omega | (simp (disch := omega) only [up2_ne, up2_eq, tm8, td8, st_200_m1 hS]; first | done | omega)) (by first | assumption | (simp (disch := omega) only [up2_ne, up2_eq, tm8, td8, st_200_m1 hS]; first | done | rfl | omega)) rfl rfl ?_
            try simp (disch := omega) only [up2_ne, up2_eq, tm8, td8, st_200_m1 hS]
            refine wp_icmp_ge (tgt := 77) (by first | assumption | exact bI_in _ | exact ⟨by omega, by omega⟩ | exact iAnd_in | exact iOr_in | exact iShr_in | exact iShl_in | exact iXor_in | exact hxs _) (by first | assumption | exact bI_in _ | exact ⟨by omega, by omega⟩ | exact iAnd_in | exact iOr_in | exact iShr_in | exact iShl_in | exact iXor_in | exact hxs _) dX12_countOf_53 (by decide) (fun c7 => ?_) (fun c7 => ?_)
            · refine wp_iconst dX12_countOf_77 ?_
              refine wp_iadd dX12_countOf_78 ?_
              refine wp_istore_n rfl dX12_countOf_79 rfl (Nat.le_of_ble_eq_true rfl) rfl ?_
              try simp only [List.set_cons_zero, List.set_cons_succ]
              refine wp_iinc rfl rfl dX12_countOf_80 rfl rfl ?_
              try simp only [List.set_cons_zero, List.set_cons_succ]
              refine wp_goto (tgt := 5) dX12_countOf_83 (by decide) ?_
              have hi := ih (by omega)
              first
                | (rw [show sm (cntF h r a) (n + 1) = sm (cntF h r a) n + 1 from by rw [sm]; unfold cntF; first | rw [bI_t ⟨by omega, by omega, by omega, by rw [em] at c_c; exact c_c⟩] | rw [if_pos ⟨by omega, by omega, by omega, by rw [em] at c_c; exact c_c⟩]] at hi; exact hi)
                | (rw [show sm (cntF h r a) (n + 1) = sm (cntF h r a) n + 0 from by rw [sm]; unfold cntF; first | rw [bI_f (by rintro ⟨z1, z2, z3, z4⟩; first | omega | (rw [em] at c_c; exact c_c z4))] | rw [if_neg (by rintro ⟨z1, z2, z3, z4⟩; first | omega | (rw [em] at c_c; exact c_c z4))]] at hi; exact hi)
            · refine wp_aload_n rfl rfl dX12_countOf_56 ?_
              refine wp_iload rfl dX12_countOf_57 ?_
              refine wp_bipush (by decide) dX12_countOf_59 ?_
              refine wp_irem (by first | assumption | exact bI_in _ | exact ⟨by omega, by omega⟩ | exact iAnd_in | exact iOr_in | exact iShr_in | exact iShl_in | exact iXor_in | exact hxs _) (by first | assumption | exact bI_in _ | exact ⟨by omega, by omega⟩ | exact iAnd_in | exact iOr_in | exact iShr_in | exact iShl_in | exact iXor_in | exact hxs _) (by omega) dX12_countOf_61 ?_
              try simp (disch := omega) only [up2_ne, up2_eq, tm8, td8, st_200_m1 hS]
              refine wp_iload rfl dX12_countOf_62 ?_
              refine wp_bipush (by decide) dX12_countOf_64 ?_
              refine wp_idiv (by first | assumption | exact bI_in _ | exact ⟨by omega, by omega⟩ | exact iAnd_in | exact iOr_in | exact iShr_in | exact iShl_in | exact iXor_in | exact hxs _) (by first | assumption | exact bI_in _ | exact ⟨by omega, by omega⟩ | exact iAnd_in | exact iOr_in | exact iShr_in | exact iShl_in | exact iXor_in | exact hxs _) (by omega) dX12_countOf_66 ?_
              try simp (disch := omega) only [up2_ne, up2_eq, tm8, td8, st_200_m1 hS]
              refine wp_cV2 (ci := 12) okX12_counts rfl rfl wX12_304 dX12_countOf_67 rfl (Nat.le_of_ble_eq_true rfl) (Nat.le_of_ble_eq_true rfl) (by first | omega | (simp (disch := omega) only [up2_ne, up2_eq, tm8, td8, st_200_m1 hS]; first | done | omega)) (by first | assumption | (simp (disch := omega) only [up2_ne, up2_eq, tm8, td8, st_200_m1 hS]; first | done | rfl | omega)) (s_X12_counts (r := (n : Int) % 8) (a := (n : Int) / 8) hS (by omega) (by omega) (by omega) (by omega) (by rw [em]; exact g1 _ (by omega) (by omega)) (g2 _ (by omega) (by omega)) (g3 _ (by omega) (by omega)) (g4 _ (by omega) (by omega)) (by rw [em]; exact g5 _ (by omega) (by omega))) (Nat.zero_le _) ?_
              try simp (disch := omega) only [up2_ne, up2_eq, tm8, td8, st_200_m1 hS]
              refine wp_ifB_eq (tgt := 77) dX12_countOf_70 (by decide) (fun c_c => ?_) (fun c_c => ?_)
              · refine wp_iconst dX12_countOf_77 ?_
                refine wp_iadd dX12_countOf_78 ?_
                refine wp_istore_n rfl dX12_countOf_79 rfl (Nat.le_of_ble_eq_true rfl) rfl ?_
                try simp only [List.set_cons_zero, List.set_cons_succ]
                refine wp_iinc rfl rfl dX12_countOf_80 rfl rfl ?_
                try simp only [List.set_cons_zero, List.set_cons_succ]
                refine wp_goto (tgt := 5) dX12_countOf_83 (by decide) ?_
                have hi := ih (by omega)
                first
                  | (rw [show sm (cntF h r a) (n + 1) = sm (cntF h r a) n + 1 from by rw [sm]; unfold cntF; first | rw [bI_t ⟨by omega, by omega, by omega, by rw [em] at c_c; exact c_c⟩] | rw [if_pos ⟨by omega, by omega, by omega, by rw [em] at c_c; exact c_c⟩]] at hi; exact hi)
                  | (rw [show sm (cntF h r a) (n + 1) = sm (cntF h r a) n + 0 from by rw [sm]; unfold cntF; first | rw [bI_f (by rintro ⟨z1, z2, z3, z4⟩; first | omega | (rw [em] at c_c; exact c_c z4))] | rw [if_neg (by rintro ⟨z1, z2, z3, z4⟩; first | omega | (rw [em] at c_c; exact c_c z4))]] at hi; exact hi)
              · refine wp_iconst dX12_countOf_73 ?_
                refine wp_goto (tgt := 78) dX12_countOf_74 (by decide) ?_
                refine wp_iadd dX12_countOf_78 ?_
                refine wp_istore_n rfl dX12_countOf_79 rfl (Nat.le_of_ble_eq_true rfl) rfl ?_
                try simp only [List.set_cons_zero, List.set_cons_succ]
                refine wp_iinc rfl rfl dX12_countOf_80 rfl rfl ?_
                try simp only [List.set_cons_zero, List.set_cons_succ]
                refine wp_goto (tgt := 5) dX12_countOf_83 (by decide) ?_
                have hi := ih (by omega)
                first
                  | (rw [show sm (cntF h r a) (n + 1) = sm (cntF h r a) n + 1 from by rw [sm]; unfold cntF; first | rw [bI_t ⟨by omega, by omega, by omega, by rw [em] at c_c; exact c_c⟩] | rw [if_pos ⟨by omega, by omega, by omega, by rw [em] at c_c; exact c_c⟩]] at hi; exact hi)
                  | (rw [show sm (cntF h r a) (n + 1) = sm (cntF h r a) n + 0 from by rw [sm]; unfold cntF; first | rw [bI_f (by rintro ⟨z1, z2, z3, z4⟩; first | omega | (rw [em] at c_c; exact c_c z4))] | rw [if_neg (by rintro ⟨z1, z2, z3, z4⟩; first | omega | (rw [em] at c_c; exact c_c z4))]] at hi; exact hi)
      · refine wp_iload rfl dX12_countOf_22 ?_
        refine wp_bipush (by decide) dX12_countOf_24 ?_
        refine wp_irem (by first | assumption | exact bI_in _ | exact ⟨by omega, by omega⟩ | exact iAnd_in | exact iOr_in | exact iShr_in | exact iShl_in | exact iXor_in | exact hxs _) (by first | assumption | exact bI_in _ | exact ⟨by omega, by omega⟩ | exact iAnd_in | exact iOr_in | exact iShr_in | exact iShl_in | exact iXor_in | exact hxs _) (by omega) dX12_countOf_26 ?_
        try simp (disch := omega) only [up2_ne, up2_eq, tm8, td8, st_200_m1 hS]
        refine wp_iload_n rfl rfl dX12_countOf_27 ?_
        refine wp_icmp_ne (tgt := 77) (by first | assumption | exact bI_in _ | exact ⟨by omega, by omega⟩ | exact iAnd_in | exact iOr_in | exact iShr_in | exact iShl_in | exact iXor_in | exact hxs _) (by first | assumption | exact bI_in _ | exact ⟨by omega, by omega⟩ | exact iAnd_in | exact iOr_in | exact iShr_in | exact iShl_in | exact iXor_in | exact hxs _) dX12_countOf_28 (by decide) (fun c9 => ?_) (fun c9 => ?_)
        · refine wp_iconst dX12_countOf_77 ?_
          refine wp_iadd dX12_countOf_78 ?_
          refine wp_istore_n rfl dX12_countOf_79 rfl (Nat.le_of_ble_eq_true rfl) rfl ?_
          try simp only [List.set_cons_zero, List.set_cons_succ]
          refine wp_iinc rfl rfl dX12_countOf_80 rfl rfl ?_
          try simp only [List.set_cons_zero, List.set_cons_succ]
          refine wp_goto (tgt := 5) dX12_countOf_83 (by decide) ?_
          have hi := ih (by omega)
          first
            | (rw [show sm (cntF h r a) (n + 1) = sm (cntF h r a) n + 1 from by rw [sm]; unfold cntF; first | rw [bI_t ⟨by omega, by omega, by omega, by rw [em] at c_c; exact c_c⟩] | rw [if_pos ⟨by omega, by omega, by omega, by rw [em] at c_c; exact c_c⟩]] at hi; exact hi)
            | (rw [show sm (cntF h r a) (n + 1) = sm (cntF h r a) n + 0 from by rw [sm]; unfold cntF; first | rw [bI_f (by rintro ⟨z1, z2, z3, z4⟩; first | omega | (rw [em] at c_c; exact c_c z4))] | rw [if_neg (by rintro ⟨z1, z2, z3, z4⟩; first | omega | (rw [em] at c_c; exact c_c z4))]] at hi; exact hi)
        · refine wp_iload_n rfl rfl dX12_countOf_31 ?_
          refine wp_if_lt (tgt := 44) (by first | assumption | exact bI_in _ | exact ⟨by omega, by omega⟩ | exact iAnd_in | exact iOr_in | exact iShr_in | exact iShl_in | exact iXor_in | exact hxs _) dX12_countOf_32 (by decide) (fun c10 => ?_) (fun c10 => ?_)
          · refine wp_iload rfl dX12_countOf_44 ?_
            refine wp_bipush (by decide) dX12_countOf_46 ?_
            refine wp_irem (by first | assumption | exact bI_in _ | exact ⟨by omega, by omega⟩ | exact iAnd_in | exact iOr_in | exact iShr_in | exact iShl_in | exact iXor_in | exact hxs _) (by first | assumption | exact bI_in _ | exact ⟨by omega, by omega⟩ | exact iAnd_in | exact iOr_in | exact iShr_in | exact iShl_in | exact iXor_in | exact hxs _) (by omega) dX12_countOf_48 ?_
            try simp (disch := omega) only [up2_ne, up2_eq, tm8, td8, st_200_m1 hS]
            refine wp_aload_n rfl rfl dX12_countOf_49 ?_
            refine wp_getfield1 (z := 13) (kI := 6) fX12_7 dX12_countOf_50 (by first | omega | (simp (disch := omega) only [up2_ne, up2_eq, tm8, td8, st_200_m1 hS]; first | done | omega)) (by first | assumption | (simp (disch := omega) only [up2_ne, up2_eq, tm8, td8, st_200_m1 hS]; first | done | rfl | omega)) rfl rfl ?_
            try simp (disch := omega) only [up2_ne, up2_eq, tm8, td8, st_200_m1 hS]
            refine wp_icmp_ge (tgt := 77) (by first | assumption | exact bI_in _ | exact ⟨by omega, by omega⟩ | exact iAnd_in | exact iOr_in | exact iShr_in | exact iShl_in | exact iXor_in | exact hxs _) (by first | assumption | exact bI_in _ | exact ⟨by omega, by omega⟩ | exact iAnd_in | exact iOr_in | exact iShr_in | exact iShl_in | exact iXor_in | exact hxs _) dX12_countOf_53 (by decide) (fun c11 => ?_) (fun c11 => ?_)
            · refine wp_iconst dX12_countOf_77 ?_
              refine wp_iadd dX12_countOf_78 ?_
              refine wp_istore_n rfl dX12_countOf_79 rfl (Nat.le_of_ble_eq_true rfl) rfl ?_
              try simp only [List.set_cons_zero, List.set_cons_succ]
              refine wp_iinc rfl rfl dX12_countOf_80 rfl rfl ?_
              try simp only [List.set_cons_zero, List.set_cons_succ]
              refine wp_goto (tgt := 5) dX12_countOf_83 (by decide) ?_
              have hi := ih (by omega)
              first
                | (rw [show sm (cntF h r a) (n + 1) = sm (cntF h r a) n + 1 from by rw [sm]; unfold cntF; first | rw [bI_t ⟨by omega, by omega, by omega, by rw [em] at c_c; exact c_c⟩] | rw [if_pos ⟨by omega, by omega, by omega, by rw [em] at c_c; exact c_c⟩]] at hi; exact hi)
                | (rw [show sm (cntF h r a) (n + 1) = sm (cntF h r a) n + 0 from by rw [sm]; unfold cntF; first | rw [bI_f (by rintro ⟨z1, z2, z3, z4⟩; first | omega | (rw [em] at c_c; exact c_c z4))] | rw [if_neg (by rintro ⟨z1, z2, z3, z4⟩; first | omega | (rw [em] at c_c; exact c_c z4))]] at hi; exact hi)
            · refine wp_aload_n rfl rfl dX12_countOf_56 ?_
              refine wp_iload rfl dX12_countOf_57 ?_
              refine wp_bipush (by decide) dX12_countOf_59 ?_
              refine wp_irem (by first | assumption | exact bI_in _ | exact ⟨by omega, by omega⟩ | exact iAnd_in | exact iOr_in | exact iShr_in | exact iShl_in | exact iXor_in | exact hxs _) (by first | assumption | exact bI_in _ | exact ⟨by omega, by omega⟩ | exact iAnd_in | exact iOr_in | exact iShr_in | exact iShl_in | exact iXor_in | exact hxs _) (by omega) dX12_countOf_61 ?_
              try simp (disch := omega) only [up2_ne, up2_eq, tm8, td8, st_200_m1 hS]
              refine wp_iload rfl dX12_countOf_62 ?_
              refine wp_bipush (by decide) dX12_countOf_64 ?_
              refine wp_idiv (by first | assumption | exact bI_in _ | exact ⟨by omega, by omega⟩ | exact iAnd_in | exact iOr_in | exact iShr_in | exact iShl_in | exact iXor_in | exact hxs _) (by first | assumption | exact bI_in _ | exact ⟨by omega, by omega⟩ | exact iAnd_in | exact iOr_in | exact iShr_in | exact iShl_in | exact iXor_in | exact hxs _) (by omega) dX12_countOf_66 ?_
              try simp (disch := omega) only [up2_ne, up2_eq, tm8, td8, st_200_m1 hS]
              refine wp_cV2 (ci := 12) okX12_counts rfl rfl wX12_304 dX12_countOf_67 rfl (Nat.le_of_ble_eq_true rfl) (Nat.le_of_ble_eq_true rfl) (by first | omega | (simp (disch := omega) only [up2_ne, up2_eq, tm8, td8, st_200_m1 hS]; first | done | omega)) (by first | assumption | (simp (disch := omega) only [up2_ne, up2_eq, tm8, td8, st_200_m1 hS]; first | done | rfl | omega)) (s_X12_counts (r := (n : Int) % 8) (a := (n : Int) / 8) hS (by omega) (by omega) (by omega) (by omega) (by rw [em]; exact g1 _ (by omega) (by omega)) (g2 _ (by omega) (by omega)) (g3 _ (by omega) (by omega)) (g4 _ (by omega) (by omega)) (by rw [em]; exact g5 _ (by omega) (by omega))) (Nat.zero_le _) ?_
              try simp (disch := omega) only [up2_ne, up2_eq, tm8, td8, st_200_m1 hS]
              refine wp_ifB_eq (tgt := 77) dX12_countOf_70 (by decide) (fun c_c => ?_) (fun c_c => ?_)
              · refine wp_iconst dX12_countOf_77 ?_
                refine wp_iadd dX12_countOf_78 ?_
                refine wp_istore_n rfl dX12_countOf_79 rfl (Nat.le_of_ble_eq_true rfl) rfl ?_
                try simp only [List.set_cons_zero, List.set_cons_succ]
                refine wp_iinc rfl rfl dX12_countOf_80 rfl rfl ?_
                try simp only [List.set_cons_zero, List.set_cons_succ]
                refine wp_goto (tgt := 5) dX12_countOf_83 (by decide) ?_
                have hi := ih (by omega)
                first
                  | (rw [show sm (cntF h r a) (n + 1) = sm (cntF h r a) n + 1 from by rw [sm]; unfold cntF; first | rw [bI_t ⟨by omega, by omega, by omega, by rw [em] at c_c; exact c_c⟩] | rw [if_pos ⟨by omega, by omega, by omega, by rw [em] at c_c; exact c_c⟩]] at hi; exact hi)
                  | (rw [show sm (cntF h r a) (n + 1) = sm (cntF h r a) n + 0 from by rw [sm]; unfold cntF; first | rw [bI_f (by rintro ⟨z1, z2, z3, z4⟩; first | omega | (rw [em] at c_c; exact c_c z4))] | rw [if_neg (by rintro ⟨z1, z2, z3, z4⟩; first | omega | (rw [em] at c_c; exact c_c z4))]] at hi; exact hi)
              · refine wp_iconst dX12_countOf_73 ?_
                refine wp_goto (tgt := 78) dX12_countOf_74 (by decide) ?_
                refine wp_iadd dX12_countOf_78 ?_
                refine wp_istore_n rfl dX12_countOf_79 rfl (Nat.le_of_ble_eq_true rfl) rfl ?_
                try simp only [List.set_cons_zero, List.set_cons_succ]
                refine wp_iinc rfl rfl dX12_countOf_80 rfl rfl ?_
                try simp only [List.set_cons_zero, List.set_cons_succ]
                refine wp_goto (tgt := 5) dX12_countOf_83 (by decide) ?_
                have hi := ih (by omega)
                first
                  | (rw [show sm (cntF h r a) (n + 1) = sm (cntF h r a) n + 1 from by rw [sm]; unfold cntF; first | rw [bI_t ⟨by omega, by omega, by omega, by rw [em] at c_c; exact c_c⟩] | rw [if_pos ⟨by omega, by omega, by omega, by rw [em] at c_c; exact c_c⟩]] at hi; exact hi)
                  | (rw [show sm (cntF h r a) (n + 1) = sm (cntF h r a) n + 0 from by rw [sm]; unfold cntF; first | rw [bI_f (by rintro ⟨z1, z2, z3, z4⟩; first | omega | (rw [em] at c_c; exact c_c z4))] | rw [if_neg (by rintro ⟨z1, z2, z3, z4⟩; first | omega | (rw [em] at c_c; exact c_c z4))]] at hi; exact hi)
          · refine wp_iload rfl dX12_countOf_35 ?_
            refine wp_bipush (by decide) dX12_countOf_37 ?_
            refine wp_idiv (by first | assumption | exact bI_in _ | exact ⟨by omega, by omega⟩ | exact iAnd_in | exact iOr_in | exact iShr_in | exact iShl_in | exact iXor_in | exact hxs _) (by first | assumption | exact bI_in _ | exact ⟨by omega, by omega⟩ | exact iAnd_in | exact iOr_in | exact iShr_in | exact iShl_in | exact iXor_in | exact hxs _) (by omega) dX12_countOf_39 ?_
            try simp (disch := omega) only [up2_ne, up2_eq, tm8, td8, st_200_m1 hS]
            refine wp_iload_n rfl rfl dX12_countOf_40 ?_
            refine wp_icmp_ne (tgt := 77) (by first | assumption | exact bI_in _ | exact ⟨by omega, by omega⟩ | exact iAnd_in | exact iOr_in | exact iShr_in | exact iShl_in | exact iXor_in | exact hxs _) (by first | assumption | exact bI_in _ | exact ⟨by omega, by omega⟩ | exact iAnd_in | exact iOr_in | exact iShr_in | exact iShl_in | exact iXor_in | exact hxs _) dX12_countOf_41 (by decide) (fun c13 => ?_) (fun c13 => ?_)
            · refine wp_iconst dX12_countOf_77 ?_
              refine wp_iadd dX12_countOf_78 ?_
              refine wp_istore_n rfl dX12_countOf_79 rfl (Nat.le_of_ble_eq_true rfl) rfl ?_
              try simp only [List.set_cons_zero, List.set_cons_succ]
              refine wp_iinc rfl rfl dX12_countOf_80 rfl rfl ?_
              try simp only [List.set_cons_zero, List.set_cons_succ]
              refine wp_goto (tgt := 5) dX12_countOf_83 (by decide) ?_
              have hi := ih (by omega)
              first
                | (rw [show sm (cntF h r a) (n + 1) = sm (cntF h r a) n + 1 from by rw [sm]; unfold cntF; first | rw [bI_t ⟨by omega, by omega, by omega, by rw [em] at c_c; exact c_c⟩] | rw [if_pos ⟨by omega, by omega, by omega, by rw [em] at c_c; exact c_c⟩]] at hi; exact hi)
                | (rw [show sm (cntF h r a) (n + 1) = sm (cntF h r a) n + 0 from by rw [sm]; unfold cntF; first | rw [bI_f (by rintro ⟨z1, z2, z3, z4⟩; first | omega | (rw [em] at c_c; exact c_c z4))] | rw [if_neg (by rintro ⟨z1, z2, z3, z4⟩; first | omega | (rw [em] at c_c; exact c_c z4))]] at hi; exact hi)
            · refine wp_iload rfl dX12_countOf_44 ?_
              refine wp_bipush (by decide) dX12_countOf_46 ?_
              refine wp_irem (by first | assumption | exact bI_in _ | exact ⟨by omega, by omega⟩ | exact iAnd_in | exact iOr_in | exact iShr_in | exact iShl_in | exact iXor_in | exact hxs _) (by first | assumption | exact bI_in _ | exact ⟨by omega, by omega⟩ | exact iAnd_in | exact iOr_in | exact iShr_in | exact iShl_in | exact iXor_in | exact hxs _) (by omega) dX12_countOf_48 ?_
              try simp (disch := omega) only [up2_ne, up2_eq, tm8, td8, st_200_m1 hS]
              refine wp_aload_n rfl rfl dX12_countOf_49 ?_
              refine wp_getfield1 (z := 13) (kI := 6) fX12_7 dX12_countOf_50 (by first | omega | (simp (disch := omega) only [up2_ne, up2_eq, tm8, td8, st_200_m1 hS]; first | done | omega)) (by first | assumption | (simp (disch := omega) only [up2_ne, up2_eq, tm8, td8, st_200_m1 hS]; first | done | rfl | omega)) rfl rfl ?_
              try simp (disch := omega) only [up2_ne, up2_eq, tm8, td8, st_200_m1 hS]
              refine wp_icmp_ge (tgt := 77) (by first | assumption | exact bI_in _ | exact ⟨by omega, by omega⟩ | exact iAnd_in | exact iOr_in | exact iShr_in | exact iShl_in | exact iXor_in | exact hxs _) (by first | assumption | exact bI_in _ | exact ⟨by omega, by omega⟩ | exact iAnd_in | exact iOr_in | exact iShr_in | exact iShl_in | exact iXor_in | exact hxs _) dX12_countOf_53 (by decide) (fun c14 => ?_) (fun c14 => ?_)
              · refine wp_iconst dX12_countOf_77 ?_
                refine wp_iadd dX12_countOf_78 ?_
                refine wp_istore_n rfl dX12_countOf_79 rfl (Nat.le_of_ble_eq_true rfl) rfl ?_
                try simp only [List.set_cons_zero, List.set_cons_succ]
                refine wp_iinc rfl rfl dX12_countOf_80 rfl rfl ?_
                try simp only [List.set_cons_zero, List.set_cons_succ]
                refine wp_goto (tgt := 5) dX12_countOf_83 (by decide) ?_
                have hi := ih (by omega)
                first
                  | (rw [show sm (cntF h r a) (n + 1) = sm (cntF h r a) n + 1 from by rw [sm]; unfold cntF; first | rw [bI_t ⟨by omega, by omega, by omega, by rw [em] at c_c; exact c_c⟩] | rw [if_pos ⟨by omega, by omega, by omega, by rw [em] at c_c; exact c_c⟩]] at hi; exact hi)
                  | (rw [show sm (cntF h r a) (n + 1) = sm (cntF h r a) n + 0 from by rw [sm]; unfold cntF; first | rw [bI_f (by rintro ⟨z1, z2, z3, z4⟩; first | omega | (rw [em] at c_c; exact c_c z4))] | rw [if_neg (by rintro ⟨z1, z2, z3, z4⟩; first | omega | (rw [em] at c_c; exact c_c z4))]] at hi; exact hi)
              · refine wp_aload_n rfl rfl dX12_countOf_56 ?_
                refine wp_iload rfl dX12_countOf_57 ?_
                refine wp_bipush (by decide) dX12_countOf_59 ?_
                refine wp_irem (by first | assumption | exact bI_in _ | exact ⟨by omega, by omega⟩ | exact iAnd_in | exact iOr_in | exact iShr_in | exact iShl_in | exact iXor_in | exact hxs _) (by first | assumption | exact bI_in _ | exact ⟨by omega, by omega⟩ | exact iAnd_in | exact iOr_in | exact iShr_in | exact iShl_in | exact iXor_in | exact hxs _) (by omega) dX12_countOf_61 ?_
                try simp (disch := omega) only [up2_ne, up2_eq, tm8, td8, st_200_m1 hS]
                refine wp_iload rfl dX12_countOf_62 ?_
                refine wp_bipush (by decide) dX12_countOf_64 ?_
                refine wp_idiv (by first | assumption | exact bI_in _ | exact ⟨by omega, by omega⟩ | exact iAnd_in | exact iOr_in | exact iShr_in | exact iShl_in | exact iXor_in | exact hxs _) (by first | assumption | exact bI_in _ | exact ⟨by omega, by omega⟩ | exact iAnd_in | exact iOr_in | exact iShr_in | exact iShl_in | exact iXor_in | exact hxs _) (by omega) dX12_countOf_66 ?_
                try simp (disch := omega) only [up2_ne, up2_eq, tm8, td8, st_200_m1 hS]
                refine wp_cV2 (ci := 12) okX12_counts rfl rfl wX12_304 dX12_countOf_67 rfl (Nat.le_of_ble_eq_true rfl) (Nat.le_of_ble_eq_true rfl) (by first | omega | (simp (disch := omega) only [up2_ne, up2_eq, tm8, td8, st_200_m1 hS]; first | done | omega)) (by first | assumption | (simp (disch := omega) only [up2_ne, up2_eq, tm8, td8, st_200_m1 hS]; first | done | rfl | omega)) (s_X12_counts (r := (n : Int) % 8) (a := (n : Int) / 8) hS (by omega) (by omega) (by omega) (by omega) (by rw [em]; exact g1 _ (by omega) (by omega)) (g2 _ (by omega) (by omega)) (g3 _ (by omega) (by omega)) (g4 _ (by omega) (by omega)) (by rw [em]; exact g5 _ (by omega) (by omega))) (Nat.zero_le _) ?_
                try simp (disch := omega) only [up2_ne, up2_eq, tm8, td8, st_200_m1 hS]
                refine wp_ifB_eq (tgt := 77) dX12_countOf_70 (by decide) (fun c_c => ?_) (fun c_c => ?_)
                · refine wp_iconst dX12_countOf_77 ?_
                  refine wp_iadd dX12_countOf_78 ?_
                  refine wp_istore_n rfl dX12_countOf_79 rfl (Nat.le_of_ble_eq_true rfl) rfl ?_
                  try simp only [List.set_cons_zero, List.set_cons_succ]
                  refine wp_iinc rfl rfl dX12_countOf_80 rfl rfl ?_
                  try simp only [List.set_cons_zero, List.set_cons_succ]
                  refine wp_goto (tgt := 5) dX12_countOf_83 (by decide) ?_
                  have hi := ih (by omega)
                  first
                    | (rw [show sm (cntF h r a) (n + 1) = sm (cntF h r a) n + 1 from by rw [sm]; unfold cntF; first | rw [bI_t ⟨by omega, by omega, by omega, by rw [em] at c_c; exact c_c⟩] | rw [if_pos ⟨by omega, by omega, by omega, by rw [em] at c_c; exact c_c⟩]] at hi; exact hi)
                    | (rw [show sm (cntF h r a) (n + 1) = sm (cntF h r a) n + 0 from by rw [sm]; unfold cntF; first | rw [bI_f (by rintro ⟨z1, z2, z3, z4⟩; first | omega | (rw [em] at c_c; exact c_c z4))] | rw [if_neg (by rintro ⟨z1, z2, z3, z4⟩; first | omega | (rw [em] at c_c; exact c_c z4))]] at hi; exact hi)
                · refine wp_iconst dX12_countOf_73 ?_
                  refine wp_goto (tgt := 78) dX12_countOf_74 (by decide) ?_
                  refine wp_iadd dX12_countOf_78 ?_
                  refine wp_istore_n rfl dX12_countOf_79 rfl (Nat.le_of_ble_eq_true rfl) rfl ?_
                  try simp only [List.set_cons_zero, List.set_cons_succ]
                  refine wp_iinc rfl rfl dX12_countOf_80 rfl rfl ?_
                  try simp only [List.set_cons_zero, List.set_cons_succ]
                  refine wp_goto (tgt := 5) dX12_countOf_83 (by decide) ?_
                  have hi := ih (by omega)
                  first
                    | (rw [show sm (cntF h r a) (n + 1) = sm (cntF h r a) n + 1 from by rw [sm]; unfold cntF; first | rw [bI_t ⟨by omega, by omega, by omega, by rw [em] at c_c; exact c_c⟩] | rw [if_pos ⟨by omega, by omega, by omega, by rw [em] at c_c; exact c_c⟩]] at hi; exact hi)
                    | (rw [show sm (cntF h r a) (n + 1) = sm (cntF h r a) n + 0 from by rw [sm]; unfold cntF; first | rw [bI_f (by rintro ⟨z1, z2, z3, z4⟩; first | omega | (rw [em] at c_c; exact c_c z4))] | rw [if_neg (by rintro ⟨z1, z2, z3, z4⟩; first | omega | (rw [em] at c_c; exact c_c z4))]] at hi; exact hi)
  show WP (gX (gq u)) MX12_countOf (d + 2) b Q 0 [(2, 200), (0, r), (0, a), (9, 0), (9, 0)] [] h
  refine wp_iconst dX12_countOf_0 ?_
  refine wp_istore_n rfl dX12_countOf_1 rfl (Nat.le_of_ble_eq_true rfl) rfl ?_
  try simp only [List.set_cons_zero, List.set_cons_succ]
  refine wp_iconst dX12_countOf_2 ?_
  refine wp_istore dX12_countOf_3 rfl (Nat.le_of_ble_eq_true rfl) rfl ?_
  try simp only [List.set_cons_zero, List.set_cons_succ]
  exact loop 0 (by omega)
set_option maxHeartbeats 1000000 in
theorem s_X12_sumOf {u : gT} {h : mH} {d b : Nat} {r a : Int} (hS : St h) (na0 : 0 ≤ h 200 10) (na1 : h 200 10 ≤ 14) (nr0 : 0 ≤ h 200 6) (nr1 : h 200 6 ≤ 8) (ir : InI r) (ia : InI a) (g1 : ∀ k, 0 ≤ k → k < 112 → InI (h 219 k)) (g2 : ∀ k, 0 ≤ k → k < 8 → InI (h 208 k)) (g3 : ∀ k, 0 ≤ k → k < 14 → InI (h 212 k)) (g4 : ∀ k, 0 ≤ k → k < 14 → InI (h 213 k)) (g5 : ∀ k, 0 ≤ k → k < 112 → InI (h 220 k)) : Det (gX (gq u)) MX12_sumOf (d + 2) b [(2, 200), (0, r), (0, a)] h (0, sms h r a) h := by
  intro Q hQ
  unfold sms at hQ
  have loop : ∀ n : Nat, n ≤ (h 200 10 * 8).toNat → WP (gX (gq u)) MX12_sumOf (d + 2) b Q 5 [(2, 200), (0, r), (0, a), (0, sm (smsF h r a) n), (0, (n : Int))] [] h := by
    refine loop_w ((h 200 10 * 8).toNat) (fun n hn ih => ?_)
    have k8 : (n : Int) < 112 ∨ n = (h 200 10 * 8).toNat := by omega
    have em : 8 * ((n : Int) / 8) + (n : Int) % 8 = (n : Int) := by omega
    refine wp_iload rfl dX12_sumOf_5 ?_
    refine wp_aload_n rfl rfl dX12_sumOf_7 ?_
    refine wp_getfield1 (z := 13) (kI := 10) fX12_10 dX12_sumOf_8 (by first | omega | (simp (disch := omega) only [up2_ne, up2_eq, tm8, td8, st_200_m1 hS, st_200_20 hS, st_220_m2 hS, st_220_m1 hS]; first | done | omega)) (by first | assumption | (simp (disch := omega) only [up2_ne, up2_eq, tm8, td8, st_200_m1 hS, st_200_20 hS, st_220_m2 hS, st_220_m1 hS]; first | done | rfl | omega)) rfl rfl ?_
    try simp (disch := omega) only [up2_ne, up2_eq, tm8, td8, st_200_m1 hS, st_200_20 hS, st_220_m2 hS, st_220_m1 hS]
    refine wp_bipush (by decide) dX12_sumOf_11 ?_
    refine wp_imul dX12_sumOf_13 ?_
    refine wp_icmp_ge (tgt := 92) (by first | assumption | exact bI_in _ | exact ⟨by omega, by omega⟩ | exact iAnd_in | exact iOr_in | exact iShr_in | exact iShl_in | exact iXor_in | exact hxs _) (by first | assumption | exact bI_in _ | exact ⟨by omega, by omega⟩ | exact iAnd_in | exact iOr_in | exact iShr_in | exact iShl_in | exact iXor_in | exact hxs _) dX12_sumOf_14 (by decide) (fun c1 => ?_) (fun c1 => ?_)
    · refine wp_iload_n rfl rfl dX12_sumOf_92 ?_
      refine wp_iret dX12_sumOf_93 rfl ?_
      have e1 : n = (h 200 10 * 8).toNat := by omega
      subst e1
      exact hQ
    · refine wp_iload_n rfl rfl dX12_sumOf_17 ?_
      refine wp_iload_n rfl rfl dX12_sumOf_18 ?_
      refine wp_if_lt (tgt := 31) (by first | assumption | exact bI_in _ | exact ⟨by omega, by omega⟩ | exact iAnd_in | exact iOr_in | exact iShr_in | exact iShl_in | exact iXor_in | exact hxs _) dX12_sumOf_19 (by decide) (fun c2 => ?_) (fun c2 => ?_)
      · refine wp_iload_n rfl rfl dX12_sumOf_31 ?_
        refine wp_if_lt (tgt := 44) (by first | assumption | exact bI_in _ | exact ⟨by omega, by omega⟩ | exact iAnd_in | exact iOr_in | exact iShr_in | exact iShl_in | exact iXor_in | exact hxs _) dX12_sumOf_32 (by decide) (fun c3 => ?_) (fun c3 => ?_)
        · refine wp_iload rfl dX12_sumOf_44 ?_
          refine wp_bipush (by decide) dX12_sumOf_46 ?_
          refine wp_irem (by first | assumption | exact bI_in _ | exact ⟨by omega, by omega⟩ | exact iAnd_in | exact iOr_in | exact iShr_in | exact iShl_in | exact iXor_in | exact hxs _) (by first | assumption | exact bI_in _ | exact ⟨by omega, by omega⟩ | exact iAnd_in | exact iOr_in | exact iShr_in | exact iShl_in | exact iXor_in | exact hxs _) (by omega) dX12_sumOf_48 ?_
          try simp (disch := omega) only [up2_ne, up2_eq, tm8, td8, st_200_m1 hS, st_200_20 hS, st_220_m2 hS, st_220_m1 hS]
          refine wp_aload_n rfl rfl dX12_sumOf_49 ?_
          refine wp_getfield1 (z := 13) (kI := 6) fX12_7 dX12_sumOf_50 (by first | omega | (simp (disch := omega) only [up2_ne, up2_eq, tm8, td8, st_200_m1 hS, st_200_20 hS, st_220_m2 hS, st_220_m1 hS]; first | done | omega)) (by first | assumption | (simp (disch := omega) only [up2_ne, up2_eq, tm8, td8, st_200_m1 hS, st_200_20 hS, st_220_m2 hS, st_220_m1 hS]; first | done | rfl | omega)) rfl rfl ?_
          try simp (disch := omega) only [up2_ne, up2_eq, tm8, td8, st_200_m1 hS, st_200_20 hS, st_220_m2 hS, st_220_m1 hS]
          refine wp_icmp_ge (tgt := 83) (by first | assumption | exact bI_in _ | exact ⟨by omega, by omega⟩ | exact iAnd_in | exact iOr_in | exact iShr_in | exact iShl_in | exact iXor_in | exact hxs _) (by first | assumption | exact bI_in _ | exact ⟨by omega, by omega⟩ | exact iAnd_in | exact iOr_in | exact iShr_in | exact iShl_in | exact iXor_in | exact hxs _) dX12_sumOf_53 (by decide) (fun c4 => ?_) (fun c4 => ?_)
          · refine wp_iconst dX12_sumOf_83 ?_
            refine wp_iadd dX12_sumOf_84 ?_
            refine wp_istore_n rfl dX12_sumOf_85 rfl (Nat.le_of_ble_eq_true rfl) rfl ?_
            try simp only [List.set_cons_zero, List.set_cons_succ]
            refine wp_iinc rfl rfl dX12_sumOf_86 rfl rfl ?_
            try simp only [List.set_cons_zero, List.set_cons_succ]
            refine wp_goto (tgt := 5) dX12_sumOf_89 (by decide) ?_
            have hi := ih (by omega)
            first
              | (rw [show sm (smsF h r a) (n + 1) = sm (smsF h r a) n + h 220 n from by rw [sm]; unfold smsF; first | rw [bI_t ⟨by omega, by omega, by omega, by rw [em] at c_c; exact c_c⟩] | rw [if_pos ⟨by omega, by omega, by omega, by rw [em] at c_c; exact c_c⟩]] at hi; exact hi)
              | (rw [show sm (smsF h r a) (n + 1) = sm (smsF h r a) n + 0 from by rw [sm]; unfold smsF; first | rw [bI_f (by rintro ⟨z1, z2, z3, z4⟩; first | omega | (rw [em] at c_c; exact c_c z4))] | rw [if_neg (by rintro ⟨z1, z2, z3, z4⟩; first | omega | (rw [em] at c_c; exact c_c z4))]] at hi; exact hi)
          · refine wp_aload_n rfl rfl dX12_sumOf_56 ?_
            refine wp_iload rfl dX12_sumOf_57 ?_
            refine wp_bipush (by decide) dX12_sumOf_59 ?_
            refine wp_irem (by first | assumption | exact bI_in _ | exact ⟨by omega, by omega⟩ | exact iAnd_in | exact iOr_in | exact iShr_in | exact iShl_in | exact iXor_in | exact hxs _) (by first | assumption | exact bI_in _ | exact ⟨by omega, by omega⟩ | exact iAnd_in | exact iOr_in | exact iShr_in | exact iShl_in | exact iXor_in | exact hxs _) (by omega) dX12_sumOf_61 ?_
            try simp (disch := omega) only [up2_ne, up2_eq, tm8, td8, st_200_m1 hS, st_200_20 hS, st_220_m2 hS, st_220_m1 hS]
            refine wp_iload rfl dX12_sumOf_62 ?_
            refine wp_bipush (by decide) dX12_sumOf_64 ?_
            refine wp_idiv (by first | assumption | exact bI_in _ | exact ⟨by omega, by omega⟩ | exact iAnd_in | exact iOr_in | exact iShr_in | exact iShl_in | exact iXor_in | exact hxs _) (by first | assumption | exact bI_in _ | exact ⟨by omega, by omega⟩ | exact iAnd_in | exact iOr_in | exact iShr_in | exact iShl_in | exact iXor_in | exact hxs _) (by omega) dX12_sumOf_66 ?_
            try simp (disch := omega) only [up2_ne, up2_eq, tm8, td8, st_200_m1 hS, st_200_20 hS, st_220_m2 hS, st_220_m1 hS]
            refine wp_cV2 (ci := 12) okX12_counts rfl rfl wX12_304 dX12_sumOf_67 rfl (Nat.le_of_ble_eq_true rfl) (Nat.le_of_ble_eq_true rfl) (by first | omega | (simp (disch := omega) only [up2_ne, up2_eq, tm8, td8, st_200_m1 hS, st_200_20 hS, st_220_m2 hS, st_220_m1 hS]; first | done | omega)) (by first | assumption | (simp (disch := omega) only [up2_ne, up2_eq, tm8, td8, st_200_m1 hS, st_200_20 hS, st_220_m2 hS, st_220_m1 hS]; first | done | rfl | omega)) (s_X12_counts (r := (n : Int) % 8) (a := (n : Int) / 8) hS (by omega) (by omega) (by omega) (by omega) (by rw [em]; exact g1 _ (by omega) (by omega)) (g2 _ (by omega) (by omega)) (g3 _ (by omega) (by omega)) (g4 _ (by omega) (by omega)) (by rw [em]; exact g5 _ (by omega) (by omega))) (Nat.zero_le _) ?_
            try simp (disch := omega) only [up2_ne, up2_eq, tm8, td8, st_200_m1 hS, st_200_20 hS, st_220_m2 hS, st_220_m1 hS]
            refine wp_ifB_eq (tgt := 83) dX12_sumOf_70 (by decide) (fun c_c => ?_) (fun c_c => ?_)
            · refine wp_iconst dX12_sumOf_83 ?_
              refine wp_iadd dX12_sumOf_84 ?_
              refine wp_istore_n rfl dX12_sumOf_85 rfl (Nat.le_of_ble_eq_true rfl) rfl ?_
              try simp only [List.set_cons_zero, List.set_cons_succ]
              refine wp_iinc rfl rfl dX12_sumOf_86 rfl rfl ?_
              try simp only [List.set_cons_zero, List.set_cons_succ]
              refine wp_goto (tgt := 5) dX12_sumOf_89 (by decide) ?_
              have hi := ih (by omega)
              first
                | (rw [show sm (smsF h r a) (n + 1) = sm (smsF h r a) n + h 220 n from by rw [sm]; unfold smsF; first | rw [bI_t ⟨by omega, by omega, by omega, by rw [em] at c_c; exact c_c⟩] | rw [if_pos ⟨by omega, by omega, by omega, by rw [em] at c_c; exact c_c⟩]] at hi; exact hi)
                | (rw [show sm (smsF h r a) (n + 1) = sm (smsF h r a) n + 0 from by rw [sm]; unfold smsF; first | rw [bI_f (by rintro ⟨z1, z2, z3, z4⟩; first | omega | (rw [em] at c_c; exact c_c z4))] | rw [if_neg (by rintro ⟨z1, z2, z3, z4⟩; first | omega | (rw [em] at c_c; exact c_c z4))]] at hi; exact hi)
            · refine wp_aload_n rfl rfl dX12_sumOf_73 ?_
              refine wp_getfield1 (z := 13) (kI := 20) fX12_106 dX12_sumOf_74 (by first | omega | (simp (disch := omega) only [up2_ne, up2_eq, tm8, td8, st_200_m1 hS, st_200_20 hS, st_220_m2 hS, st_220_m1 hS]; first | done | omega)) (by first | assumption | (simp (disch := omega) only [up2_ne, up2_eq, tm8, td8, st_200_m1 hS, st_200_20 hS, st_220_m2 hS, st_220_m1 hS]; first | done | rfl | omega)) rfl rfl ?_
              try simp (disch := omega) only [up2_ne, up2_eq, tm8, td8, st_200_m1 hS, st_200_20 hS, st_220_m2 hS, st_220_m1 hS]
              refine wp_iload rfl dX12_sumOf_77 ?_
              refine wp_iaload1 dX12_sumOf_79 (by first | omega | (simp (disch := omega) only [up2_ne, up2_eq, tm8, td8, st_200_m1 hS, st_200_20 hS, st_220_m2 hS, st_220_m1 hS]; first | done | omega)) (by first | assumption | (simp (disch := omega) only [up2_ne, up2_eq, tm8, td8, st_200_m1 hS, st_200_20 hS, st_220_m2 hS, st_220_m1 hS]; first | done | rfl | omega)) (by first | omega | (simp (disch := omega) only [up2_ne, up2_eq, tm8, td8, st_200_m1 hS, st_200_20 hS, st_220_m2 hS, st_220_m1 hS]; first | done | omega)) (by first | omega | (simp (disch := omega) only [up2_ne, up2_eq, tm8, td8, st_200_m1 hS, st_200_20 hS, st_220_m2 hS, st_220_m1 hS]; first | done | omega)) ?_
              try simp (disch := omega) only [up2_ne, up2_eq, tm8, td8, st_200_m1 hS, st_200_20 hS, st_220_m2 hS, st_220_m1 hS]
              refine wp_goto (tgt := 84) dX12_sumOf_80 (by decide) ?_
              refine wp_iadd dX12_sumOf_84 ?_
              refine wp_istore_n rfl dX12_sumOf_85 rfl (Nat.le_of_ble_eq_true rfl) rfl ?_
              try simp only [List.set_cons_zero, List.set_cons_succ]
              refine wp_iinc rfl rfl dX12_sumOf_86 rfl rfl ?_
              try simp only [List.set_cons_zero, List.set_cons_succ]
              refine wp_goto (tgt := 5) dX12_sumOf_89 (by decide) ?_
              have hi := ih (by omega)
              first
                | (rw [show sm (smsF h r a) (n + 1) = sm (smsF h r a) n + h 220 n from by rw [sm]; unfold smsF; first | rw [bI_t ⟨by omega, by omega, by omega, by rw [em] at c_c; exact c_c⟩] | rw [if_pos ⟨by omega, by omega, by omega, by rw [em] at c_c; exact c_c⟩]] at hi; exact hi)
                | (rw [show sm (smsF h r a) (n + 1) = sm (smsF h r a) n + 0 from by rw [sm]; unfold smsF; first | rw [bI_f (by rintro ⟨z1, z2, z3, z4⟩; first | omega | (rw [em] at c_c; exact c_c z4))] | rw [if_neg (by rintro ⟨z1, z2, z3, z4⟩; first | omega | (rw [em] at c_c; exact c_c z4))]] at hi; exact hi)
        · refine wp_iload rfl dX12_sumOf_35 ?_
          refine wp_bipush (by decide) dX12_sumOf_37 ?_
          refine wp_idiv (by first | assumption | exact bI_in _ | exact ⟨by omega, by omega⟩ | exact iAnd_in | exact iOr_in | exact iShr_in | exact iShl_in | exact iXor_in | exact hxs _) (by first | assumption | exact bI_in _ | exact ⟨by omega, by omega⟩ | exact iAnd_in | exact iOr_in | exact iShr_in | exact iShl_in | exact iXor_in | exact hxs _) (by omega) dX12_sumOf_39 ?_
          try simp (disch := omega) only [up2_ne, up2_eq, tm8, td8, st_200_m1 hS, st_200_20 hS, st_220_m2 hS, st_220_m1 hS]
          refine wp_iload_n rfl rfl dX12_sumOf_40 ?_
          refine wp_icmp_ne (tgt := 83) (by first | assumption | exact bI_in _ | exact ⟨by omega, by omega⟩ | exact iAnd_in | exact iOr_in | exact iShr_in | exact iShl_in | exact iXor_in | exact hxs _) (by first | assumption | exact bI_in _ | exact ⟨by omega, by omega⟩ | exact iAnd_in | exact iOr_in | exact iShr_in | exact iShl_in | exact iXor_in | exact hxs _) dX12_sumOf_41 (by decide) (fun c6 => ?_) (fun c6 => ?_)
          · refine wp_iconst dX12_sumOf_83 ?_
            refine wp_iadd dX12_sumOf_84 ?_
            refine wp_istore_n rfl dX12_sumOf_85 rfl (Nat.le_of_ble_eq_true rfl) rfl ?_
            try simp only [List.set_cons_zero, List.set_cons_succ]
            refine wp_iinc rfl rfl dX12_sumOf_86 rfl rfl ?_
            try simp only [List.set_cons_zero, List.set_cons_succ]
            refine wp_goto (tgt := 5) dX12_sumOf_89 (by decide) ?_
            have hi := ih (by omega)
            first
              | (rw [show sm (smsF h r a) (n + 1) = sm (smsF h r a) n + h 220 n from by rw [sm]; unfold smsF; first | rw [bI_t ⟨by omega, by omega, by omega, by rw [em] at c_c; exact c_c⟩] | rw [if_pos ⟨by omega, by omega, by omega, by rw [em] at c_c; exact c_c⟩]] at hi; exact hi)
              | (rw [show sm (smsF h r a) (n + 1) = sm (smsF h r a) n + 0 from by rw [sm]; unfold smsF; first | rw [bI_f (by rintro ⟨z1, z2, z3, z4⟩; first | omega | (rw [em] at c_c; exact c_c z4))] | rw [if_neg (by rintro ⟨z1, z2, z3, z4⟩; first | omega | (rw [em] at c_c; exact c_c z4))]] at hi; exact hi)
          · refine wp_iload rfl dX12_sumOf_44 ?_
            refine wp_bipush (by decide) dX12_sumOf_46 ?_
            refine wp_irem (by first | assumption | exact bI_in _ | exact ⟨by omega, by omega⟩ | exact iAnd_in | exact iOr_in | exact iShr_in | exact iShl_in | exact iXor_in | exact hxs _) (by first | assumption | exact bI_in _ | exact ⟨by omega, by omega⟩ | exact iAnd_in | exact iOr_in | exact iShr_in | exact iShl_in | exact iXor_in | exact hxs _) (by omega) dX12_sumOf_48 ?_
            try simp (disch := omega) only [up2_ne, up2_eq, tm8, td8, st_200_m1 hS, st_200_20 hS, st_220_m2 hS, st_220_m1 hS]
            refine wp_aload_n rfl rfl dX12_sumOf_49 ?_
            refine wp_getfield1 (z := 13) (kI := 6) fX12_7 dX12_sumOf_50 (by first | omega | (simp (disch := omega) only [up2_ne, up2_eq, tm8, td8, st_200_m1 hS, st_200_20 hS, st_220_m2 hS, st_220_m1 hS]; first | done | omega)) (by first | assumption | (simp (disch := omega) only [up2_ne, up2_eq, tm8, td8, st_200_m1 hS, st_200_20 hS, st_220_m2 hS, st_220_m1 hS]; first | done | rfl | omega)) rfl rfl ?_
            try simp (disch := omega) only [up2_ne, up2_eq, tm8, td8, st_200_m1 hS, st_200_20 hS, st_220_m2 hS, st_220_m1 hS]
            refine wp_icmp_ge (tgt := 83) (by first | assumption | exact bI_in _ | exact ⟨by omega, by omega⟩ | exact iAnd_in | exact iOr_in | exact iShr_in | exact iShl_in | exact iXor_in | exact hxs _) (by first | assumption | exact bI_in _ | exact ⟨by omega, by omega⟩ | exact iAnd_in | exact iOr_in | exact iShr_in | exact iShl_in | exact iXor_in | exact hxs _) dX12_sumOf_53 (by decide) (fun c7 => ?_) (fun c7 => ?_)
            · refine wp_iconst dX12_sumOf_83 ?_
              refine wp_iadd dX12_sumOf_84 ?_
              refine wp_istore_n rfl dX12_sumOf_85 rfl (Nat.le_of_ble_eq_true rfl) rfl ?_
              try simp only [List.set_cons_zero, List.set_cons_succ]
              refine wp_iinc rfl rfl dX12_sumOf_86 rfl rfl ?_
              try simp only [List.set_cons_zero, List.set_cons_succ]
              refine wp_goto (tgt := 5) dX12_sumOf_89 (by decide) ?_
              have hi := ih (by omega)
              first
                | (rw [show sm (smsF h r a) (n + 1) = sm (smsF h r a) n + h 220 n from by rw [sm]; unfold smsF; first | rw [bI_t ⟨by omega, by omega, by omega, by rw [em] at c_c; exact c_c⟩] | rw [if_pos ⟨by omega, by omega, by omega, by rw [em] at c_c; exact c_c⟩]] at hi; exact hi)
                | (rw [show sm (smsF h r a) (n + 1) = sm (smsF h r a) n + 0 from by rw [sm]; unfold smsF; first | rw [bI_f (by rintro ⟨z1, z2, z3, z4⟩; first | omega | (rw [em] at c_c; exact c_c z4))] | rw [if_neg (by rintro ⟨z1, z2, z3, z4⟩; first | omega | (rw [em] at c_c; exact c_c z4))]] at hi; exact hi)
            · refine wp_aload_n rfl rfl dX12_sumOf_56 ?_
              refine wp_iload rfl dX12_sumOf_57 ?_
              refine wp_bipush (by decide) dX12_sumOf_59 ?_
              refine wp_irem (by first | assumption | exact bI_in _ | exact ⟨by omega, by omega⟩ | exact iAnd_in | exact iOr_in | exact iShr_in | exact iShl_in | exact iXor_in | exact hxs _) (by first | assumption | exact bI_in _ | exact ⟨by omega, by omega⟩ | exact iAnd_in | exact iOr_in | exact iShr_in | exact iShl_in | exact iXor_in | exact hxs _) (by omega) dX12_sumOf_61 ?_
              try simp (disch := omega) only [up2_ne, up2_eq, tm8, td8, st_200_m1 hS, st_200_20 hS, st_220_m2 hS, st_220_m1 hS]
              refine wp_iload rfl dX12_sumOf_62 ?_
              refine wp_bipush (by decide) dX12_sumOf_64 ?_
              refine wp_idiv (by first | assumption | exact bI_in _ | exact ⟨by omega, by omega⟩ | exact iAnd_in | exact iOr_in | exact iShr_in | exact iShl_in | exact iXor_in | exact hxs _) (by first | assumption | exact bI_in _ | exact ⟨by omega, by omega⟩ | exact iAnd_in | exact iOr_in | exact iShr_in | exact iShl_in | exact iXor_in | exact hxs _) (by omega) dX12_sumOf_66 ?_
              try simp (disch := omega) only [up2_ne, up2_eq, tm8, td8, st_200_m1 hS, st_200_20 hS, st_220_m2 hS, st_220_m1 hS]
              refine wp_cV2 (ci := 12) okX12_counts rfl rfl wX12_304 dX12_sumOf_67 rfl (Nat.le_of_ble_eq_true rfl) (Nat.le_of_ble_eq_true rfl) (by first | omega | (simp (disch := omega) only [up2_ne, up2_eq, tm8, td8, st_200_m1 hS, st_200_20 hS, st_220_m2 hS, st_220_m1 hS]; first | done | omega)) (by first | assumption | (simp (disch := omega) only [up2_ne, up2_eq, tm8, td8, st_200_m1 hS, st_200_20 hS, st_220_m2 hS, st_220_m1 hS]; first | done | rfl | omega)) (s_X12_counts (r := (n : Int) % 8) (a := (n : Int) / 8) hS (by omega) (by omega) (by omega) (by omega) (by rw [em]; exact g1 _ (by omega) (by omega)) (g2 _ (by omega) (by omega)) (g3 _ (by omega) (by omega)) (g4 _ (by omega) (by omega)) (by rw [em]; exact g5 _ (by omega) (by omega))) (Nat.zero_le _) ?_
              try simp (disch := omega) only [up2_ne, up2_eq, tm8, td8, st_200_m1 hS, st_200_20 hS, st_220_m2 hS, st_220_m1 hS]
              refine wp_ifB_eq (tgt := 83) dX12_sumOf_70 (by decide) (fun c_c => ?_) (fun c_c => ?_)
              · refine wp_iconst dX12_sumOf_83 ?_
                refine wp_iadd dX12_sumOf_84 ?_
                refine wp_istore_n rfl dX12_sumOf_85 rfl (Nat.le_of_ble_eq_true rfl) rfl ?_
                try simp only [List.set_cons_zero, List.set_cons_succ]
                refine wp_iinc rfl rfl dX12_sumOf_86 rfl rfl ?_
                try simp only [List.set_cons_zero, List.set_cons_succ]
                refine wp_goto (tgt := 5) dX12_sumOf_89 (by decide) ?_
                have hi := ih (by omega)
                first
                  | (rw [show sm (smsF h r a) (n + 1) = sm (smsF h r a) n + h 220 n from by rw [sm]; unfold smsF; first | rw [bI_t ⟨by omega, by omega, by omega, by rw [em] at c_c; exact c_c⟩] | rw [if_pos ⟨by omega, by omega, by omega, by rw [em] at c_c; exact c_c⟩]] at hi; exact hi)
                  | (rw [show sm (smsF h r a) (n + 1) = sm (smsF h r a) n + 0 from by rw [sm]; unfold smsF; first | rw [bI_f (by rintro ⟨z1, z2, z3, z4⟩; first | omega | (rw [em] at c_c; exact c_c z4))] | rw [if_neg (by rintro ⟨z1, z2, z3, z4⟩; first | omega | (rw [em] at c_c; exact c_c z4))]] at hi; exact hi)
              · refine wp_aload_n rfl rfl dX12_sumOf_73 ?_
                refine wp_getfield1 (z := 13) (kI := 20) fX12_106 dX12_sumOf_74 (by first | omega | (simp (disch := omega) only [up2_ne, up2_eq, tm8, td8, st_200_m1 hS, st_200_20 hS, st_220_m2 hS, st_220_m1 hS]; first | done | omega)) (by first | assumption | (simp (disch := omega) only [up2_ne, up2_eq, tm8, td8, st_200_m1 hS, st_200_20 hS, st_220_m2 hS, st_220_m1 hS]; first | done | rfl | omega)) rfl rfl ?_
                try simp (disch := omega) only [up2_ne, up2_eq, tm8, td8, st_200_m1 hS, st_200_20 hS, st_220_m2 hS, st_220_m1 hS]
                refine wp_iload rfl dX12_sumOf_77 ?_
                refine wp_iaload1 dX12_sumOf_79 (by first | omega | (simp (disch := omega) only [up2_ne, up2_eq, tm8, td8, st_200_m1 hS, st_200_20 hS, st_220_m2 hS, st_220_m1 hS]; first | done | omega)) (by first | assumption | (simp (disch := omega) only [up2_ne, up2_eq, tm8, td8, st_200_m1 hS, st_200_20 hS, st_220_m2 hS, st_220_m1 hS]; first | done | rfl | omega)) (by first | omega | (simp (disch := omega) only [up2_ne, up2_eq, tm8, td8, st_200_m1 hS, st_200_20 hS, st_220_m2 hS, st_220_m1 hS]; first | done | omega)) (by first | omega | (simp (disch := omega) only [up2_ne, up2_eq, tm8, td8, st_200_m1 hS, st_200_20 hS, st_220_m2 hS, st_220_m1 hS]; first | done | omega)) ?_
                try simp (disch := omega) only [up2_ne, up2_eq, tm8, td8, st_200_m1 hS, st_200_20 hS, st_220_m2 hS, st_220_m1 hS]
                refine wp_goto (tgt := 84) dX12_sumOf_80 (by decide) ?_
                refine wp_iadd dX12_sumOf_84 ?_
                refine wp_istore_n rfl dX12_sumOf_85 rfl (Nat.le_of_ble_eq_true rfl) rfl ?_
                try simp only [List.set_cons_zero, List.set_cons_succ]
                refine wp_iinc rfl rfl dX12_sumOf_86 rfl rfl ?_
                try simp only [List.set_cons_zero, List.set_cons_succ]
                refine wp_goto (tgt := 5) dX12_sumOf_89 (by decide) ?_
                have hi := ih (by omega)
                first
                  | (rw [show sm (smsF h r a) (n + 1) = sm (smsF h r a) n + h 220 n from by rw [sm]; unfold smsF; first | rw [bI_t ⟨by omega, by omega, by omega, by rw [em] at c_c; exact c_c⟩] | rw [if_pos ⟨by omega, by omega, by omega, by rw [em] at c_c; exact c_c⟩]] at hi; exact hi)
                  | (rw [show sm (smsF h r a) (n + 1) = sm (smsF h r a) n + 0 from by rw [sm]; unfold smsF; first | rw [bI_f (by rintro ⟨z1, z2, z3, z4⟩; first | omega | (rw [em] at c_c; exact c_c z4))] | rw [if_neg (by rintro ⟨z1, z2, z3, z4⟩; first | omega | (rw [em] at c_c; exact c_c z4))]] at hi; exact hi)
      · refine wp_iload rfl dX12_sumOf_22 ?_
        refine wp_bipush (by decide) dX12_sumOf_24 ?_
        refine wp_irem (by first | assumption | exact bI_in _ | exact ⟨by omega, by omega⟩ | exact iAnd_in | exact iOr_in | exact iShr_in | exact iShl_in | exact iXor_in | exact hxs _) (by first | assumption | exact bI_in _ | exact ⟨by omega, by omega⟩ | exact iAnd_in | exact iOr_in | exact iShr_in | exact iShl_in | exact iXor_in | exact hxs _) (by omega) dX12_sumOf_26 ?_
        try simp (disch := omega) only [up2_ne, up2_eq, tm8, td8, st_200_m1 hS, st_200_20 hS, st_220_m2 hS, st_220_m1 hS]
        refine wp_iload_n rfl rfl dX12_sumOf_27 ?_
        refine wp_icmp_ne (tgt := 83) (by first | assumption | exact bI_in _ | exact ⟨by omega, by omega⟩ | exact iAnd_in | exact iOr_in | exact iShr_in | exact iShl_in | exact iXor_in | exact hxs _) (by first | assumption | exact bI_in _ | exact ⟨by omega, by omega⟩ | exact iAnd_in | exact iOr_in | exact iShr_in | exact iShl_in | exact iXor_in | exact hxs _) dX12_sumOf_28 (by decide) (fun c9 => ?_) (fun c9 => ?_)
        · refine wp_iconst dX12_sumOf_83 ?_
          refine wp_iadd dX12_sumOf_84 ?_
          refine wp_istore_n rfl dX12_sumOf_85 rfl (Nat.le_of_ble_eq_true rfl) rfl ?_
          try simp only [List.set_cons_zero, List.set_cons_succ]
          refine wp_iinc rfl rfl dX12_sumOf_86 rfl rfl ?_
          try simp only [List.set_cons_zero, List.set_cons_succ]
          refine wp_goto (tgt := 5) dX12_sumOf_89 (by decide) ?_
          have hi := ih (by omega)
          first
            | (rw [show sm (smsF h r a) (n + 1) = sm (smsF h r a) n + h 220 n from by rw [sm]; unfold smsF; first | rw [bI_t ⟨by omega, by omega, by omega, by rw [em] at c_c; exact c_c⟩] | rw [if_pos ⟨by omega, by omega, by omega, by rw [em] at c_c; exact c_c⟩]] at hi; exact hi)
            | (rw [show sm (smsF h r a) (n + 1) = sm (smsF h r a) n + 0 from by rw [sm]; unfold smsF; first | rw [bI_f (by rintro ⟨z1, z2, z3, z4⟩; first | omega | (rw [em] at c_c; exact c_c z4))] | rw [if_neg (by rintro ⟨z1, z2, z3, z4⟩; first | omega | (rw [em] at c_c; exact c_c z4))]] at hi; exact hi)
        · refine wp_iload_n rfl rfl dX12_sumOf_31 ?_
          refine wp_if_lt (tgt := 44) (by first | assumption | exact bI_in _ | exact ⟨by omega, by omega⟩ | exact iAnd_in | exact iOr_in | exact iShr_in | exact iShl_in | exact iXor_in | exact hxs _) dX12_sumOf_32 (by decide) (fun c10 => ?_) (fun c10 => ?_)
          · refine wp_iload rfl dX12_sumOf_44 ?_
            refine wp_bipush (by decide) dX12_sumOf_46 ?_
            refine wp_irem (by first | assumption | exact bI_in _ | exact ⟨by omega, by omega⟩ | exact iAnd_in | exact iOr_in | exact iShr_in | exact iShl_in | exact iXor_in | exact hxs _) (by first | assumption | exact bI_in _ | exact ⟨by omega, by omega⟩ | exact iAnd_in | exact iOr_in | exact iShr_in | exact iShl_in | exact iXor_in | exact hxs _) (by omega) dX12_sumOf_48 ?_
            try simp (disch := omega) only [up2_ne, up2_eq, tm8, td8, st_200_m1 hS, st_200_20 hS, st_220_m2 hS, st_220_m1 hS]
            refine wp_aload_n rfl rfl dX12_sumOf_49 ?_
            refine wp_getfield1 (z := 13) (kI := 6) fX12_7 dX12_sumOf_50 (by first | omega | (simp (disch := omega) only [up2_ne, up2_eq, tm8, td8, st_200_m1 hS, st_200_20 hS, st_220_m2 hS, st_220_m1 hS]; first | done | omega)) (by first | assumption | (simp (disch := omega) only [up2_ne, up2_eq, tm8, td8, st_200_m1 hS, st_200_20 hS, st_220_m2 hS, st_220_m1 hS]; first | done | rfl | omega)) rfl rfl ?_
            try simp (disch := omega) only [up2_ne, up2_eq, tm8, td8, st_200_m1 hS, st_200_20 hS, st_220_m2 hS, st_220_m1 hS]
            refine wp_icmp_ge (tgt := 83) (by first | assumption | exact bI_in _ | exact ⟨by omega, by omega⟩ | exact iAnd_in | exact iOr_in | exact iShr_in | exact iShl_in | exact iXor_in | exact hxs _) (by first | assumption | exact bI_in _ | exact ⟨by omega, by omega⟩ | exact iAnd_in | exact iOr_in | exact iShr_in | exact iShl_in | exact iXor_in | exact hxs _) dX12_sumOf_53 (by decide) (fun c11 => ?_) (fun c11 => ?_)
            · refine wp_iconst dX12_sumOf_83 ?_
              refine wp_iadd dX12_sumOf_84 ?_
              refine wp_istore_n rfl dX12_sumOf_85 rfl (Nat.le_of_ble_eq_true rfl) rfl ?_
              try simp only [List.set_cons_zero, List.set_cons_succ]
              refine wp_iinc rfl rfl dX12_sumOf_86 rfl rfl ?_
              try simp only [List.set_cons_zero, List.set_cons_succ]
              refine wp_goto (tgt := 5) dX12_sumOf_89 (by decide) ?_
              have hi := ih (by omega)
              first
                | (rw [show sm (smsF h r a) (n + 1) = sm (smsF h r a) n + h 220 n from by rw [sm]; unfold smsF; first | rw [bI_t ⟨by omega, by omega, by omega, by rw [em] at c_c; exact c_c⟩] | rw [if_pos ⟨by omega, by omega, by omega, by rw [em] at c_c; exact c_c⟩]] at hi; exact hi)
                | (rw [show sm (smsF h r a) (n + 1) = sm (smsF h r a) n + 0 from by rw [sm]; unfold smsF; first | rw [bI_f (by rintro ⟨z1, z2, z3, z4⟩; first | omega | (rw [em] at c_c; exact c_c z4))] | rw [if_neg (by rintro ⟨z1, z2, z3, z4⟩; first | omega | (rw [em] at c_c; exact c_c z4))]] at hi; exact hi)
            · refine wp_aload_n rfl rfl dX12_sumOf_56 ?_
              refine wp_iload rfl dX12_sumOf_57 ?_
              refine wp_bipush (by decide) dX12_sumOf_59 ?_
              refine wp_irem (by first | assumption | exact bI_in _ | exact ⟨by omega, by omega⟩ | exact iAnd_in | exact iOr_in | exact iShr_in | exact iShl_in | exact iXor_in | exact hxs _) (by first | assumption | exact bI_in _ | exact ⟨by omega, by omega⟩ | exact iAnd_in | exact iOr_in | exact iShr_in | exact iShl_in | exact iXor_in | exact hxs _) (by omega) dX12_sumOf_61 ?_
              try simp (disch := omega) only [up2_ne, up2_eq, tm8, td8, st_200_m1 hS, st_200_20 hS, st_220_m2 hS, st_220_m1 hS]
              refine wp_iload rfl dX12_sumOf_62 ?_
              refine wp_bipush (by decide) dX12_sumOf_64 ?_
              refine wp_idiv (by first | assumption | exact bI_in _ | exact ⟨by omega, by omega⟩ | exact iAnd_in | exact iOr_in | exact iShr_in | exact iShl_in | exact iXor_in | exact hxs _) (by first | assumption | exact bI_in _ | exact ⟨by omega, by omega⟩ | exact iAnd_in | exact iOr_in | exact iShr_in | exact iShl_in | exact iXor_in | exact hxs _) (by omega) dX12_sumOf_66 ?_
              try simp (disch := omega) only [up2_ne, up2_eq, tm8, td8, st_200_m1 hS, st_200_20 hS, st_220_m2 hS, st_220_m1 hS]
              refine wp_cV2 (ci := 12) okX12_counts rfl rfl wX12_304 dX12_sumOf_67 rfl (Nat.le_of_ble_eq_true rfl) (Nat.le_of_ble_eq_true rfl) (by first | omega | (simp (disch := omega) only [up2_ne, up2_eq, tm8, td8, st_200_m1 hS, st_200_20 hS, st_220_m2 hS, st_220_m1 hS]; first | done | omega)) (by first | assumption | (simp (disch := omega) only [up2_ne, up2_eq, tm8, td8, st_200_m1 hS, st_200_20 hS, st_220_m2 hS, st_220_m1 hS]; first | done | rfl | omega)) (s_X12_counts (r := (n : Int) % 8) (a := (n : Int) / 8) hS (by omega) (by omega) (by omega) (by omega) (by rw [em]; exact g1 _ (by omega) (by omega)) (g2 _ (by omega) (by omega)) (g3 _ (by omega) (by omega)) (g4 _ (by omega) (by omega)) (by rw [em]; exact g5 _ (by omega) (by omega))) (Nat.zero_le _) ?_
              try simp (disch := omega) only [up2_ne, up2_eq, tm8, td8, st_200_m1 hS, st_200_20 hS, st_220_m2 hS, st_220_m1 hS]
              refine wp_ifB_eq (tgt := 83) dX12_sumOf_70 (by decide) (fun c_c => ?_) (fun c_c => ?_)
              · refine wp_iconst dX12_sumOf_83 ?_
                refine wp_iadd dX12_sumOf_84 ?_
                refine wp_istore_n rfl dX12_sumOf_85 rfl (Nat.le_of_ble_eq_true rfl) rfl ?_
                try simp only [List.set_cons_zero, List.set_cons_succ]
                refine wp_iinc rfl rfl dX12_sumOf_86 rfl rfl ?_
                try simp only [List.set_cons_zero, List.set_cons_succ]
                refine wp_goto (tgt := 5) dX12_sumOf_89 (by decide) ?_
                have hi := ih (by omega)
                first
                  | (rw [show sm (smsF h r a) (n + 1) = sm (smsF h r a) n + h 220 n from by rw [sm]; unfold smsF; first | rw [bI_t ⟨by omega, by omega, by omega, by rw [em] at c_c; exact c_c⟩] | rw [if_pos ⟨by omega, by omega, by omega, by rw [em] at c_c; exact c_c⟩]] at hi; exact hi)
                  | (rw [show sm (smsF h r a) (n + 1) = sm (smsF h r a) n + 0 from by rw [sm]; unfold smsF; first | rw [bI_f (by rintro ⟨z1, z2, z3, z4⟩; first | omega | (rw [em] at c_c; exact c_c z4))] | rw [if_neg (by rintro ⟨z1, z2, z3, z4⟩; first | omega | (rw [em] at c_c; exact c_c z4))]] at hi; exact hi)
              · refine wp_aload_n rfl rfl dX12_sumOf_73 ?_
                refine wp_getfield1 (z := 13) (kI := 20) fX12_106 dX12_sumOf_74 (by first | omega | (simp (disch := omega) only [up2_ne, up2_eq, tm8, td8, st_200_m1 hS, st_200_20 hS, st_220_m2 hS, st_220_m1 hS]; first | done | omega)) (by first | assumption | (simp (disch := omega) only [up2_ne, up2_eq, tm8, td8, st_200_m1 hS, st_200_20 hS, st_220_m2 hS, st_220_m1 hS]; first | done | rfl | omega)) rfl rfl ?_
                try simp (disch := omega) only [up2_ne, up2_eq, tm8, td8, st_200_m1 hS, st_200_20 hS, st_220_m2 hS, st_220_m1 hS]
                refine wp_iload rfl dX12_sumOf_77 ?_
                refine wp_iaload1 dX12_sumOf_79 (by first | omega | (simp (disch := omega) only [up2_ne, up2_eq, tm8, td8, st_200_m1 hS, st_200_20 hS, st_220_m2 hS, st_220_m1 hS]; first | done | omega)) (by first | assumption | (simp (disch := omega) only [up2_ne, up2_eq, tm8, td8, st_200_m1 hS, st_200_20 hS, st_220_m2 hS, st_220_m1 hS]; first | done | rfl | omega)) (by first | omega | (simp (disch := omega) only [up2_ne, up2_eq, tm8, td8, st_200_m1 hS, st_200_20 hS, st_220_m2 hS, st_220_m1 hS]; first | done | omega)) (by first | omega | (simp (disch := omega) only [up2_ne, up2_eq, tm8, td8, st_200_m1 hS, st_200_20 hS, st_220_m2 hS, st_220_m1 hS]; first | done | omega)) ?_
                try simp (disch := omega) only [up2_ne, up2_eq, tm8, td8, st_200_m1 hS, st_200_20 hS, st_220_m2 hS, st_220_m1 hS]
                refine wp_goto (tgt := 84) dX12_sumOf_80 (by decide) ?_
                refine wp_iadd dX12_sumOf_84 ?_
                refine wp_istore_n rfl dX12_sumOf_85 rfl (Nat.le_of_ble_eq_true rfl) rfl ?_
                try simp only [List.set_cons_zero, List.set_cons_succ]
                refine wp_iinc rfl rfl dX12_sumOf_86 rfl rfl ?_
                try simp only [List.set_cons_zero, List.set_cons_succ]
                refine wp_goto (tgt := 5) dX12_sumOf_89 (by decide) ?_
                have hi := ih (by omega)
                first
                  | (rw [show sm (smsF h r a) (n + 1) = sm (smsF h r a) n + h 220 n from by rw [sm]; unfold smsF; first | rw [bI_t ⟨by omega, by omega, by omega, by rw [em] at c_c; exact c_c⟩] | rw [if_pos ⟨by omega, by omega, by omega, by rw [em] at c_c; exact c_c⟩]] at hi; exact hi)
                  | (rw [show sm (smsF h r a) (n + 1) = sm (smsF h r a) n + 0 from by rw [sm]; unfold smsF; first | rw [bI_f (by rintro ⟨z1, z2, z3, z4⟩; first | omega | (rw [em] at c_c; exact c_c z4))] | rw [if_neg (by rintro ⟨z1, z2, z3, z4⟩; first | omega | (rw [em] at c_c; exact c_c z4))]] at hi; exact hi)
          · refine wp_iload rfl dX12_sumOf_35 ?_
            refine wp_bipush (by decide) dX12_sumOf_37 ?_
            refine wp_idiv (by first | assumption | exact bI_in _ | exact ⟨by omega, by omega⟩ | exact iAnd_in | exact iOr_in | exact iShr_in | exact iShl_in | exact iXor_in | exact hxs _) (by first | assumption | exact bI_in _ | exact ⟨by omega, by omega⟩ | exact iAnd_in | exact iOr_in | exact iShr_in | exact iShl_in | exact iXor_in | exact hxs _) (by omega) dX12_sumOf_39 ?_
            try simp (disch := omega) only [up2_ne, up2_eq, tm8, td8, st_200_m1 hS, st_200_20 hS, st_220_m2 hS, st_220_m1 hS]
            refine wp_iload_n rfl rfl dX12_sumOf_40 ?_
            refine wp_icmp_ne (tgt := 83) (by first | assumption | exact bI_in _ | exact ⟨by omega, by omega⟩ | exact iAnd_in | exact iOr_in | exact iShr_in | exact iShl_in | exact iXor_in | exact hxs _) (by first | assumption | exact bI_in _ | exact ⟨by omega, by omega⟩ | exact iAnd_in | exact iOr_in | exact iShr_in | exact iShl_in | exact iXor_in | exact hxs _) dX12_sumOf_41 (by decide) (fun c13 => ?_) (fun c13 => ?_)
            · refine wp_iconst dX12_sumOf_83 ?_
              refine wp_iadd dX12_sumOf_84 ?_
              refine wp_istore_n rfl dX12_sumOf_85 rfl (Nat.le_of_ble_eq_true rfl) rfl ?_
              try simp only [List.set_cons_zero, List.set_cons_succ]
              refine wp_iinc rfl rfl dX12_sumOf_86 rfl rfl ?_
              try simp only [List.set_cons_zero, List.set_cons_succ]
              refine wp_goto (tgt := 5) dX12_sumOf_89 (by decide) ?_
              have hi := ih (by omega)
              first
                | (rw [show sm (smsF h r a) (n + 1) = sm (smsF h r a) n + h 220 n from by rw [sm]; unfold smsF; first | rw [bI_t ⟨by omega, by omega, by omega, by rw [em] at c_c; exact c_c⟩] | rw [if_pos ⟨by omega, by omega, by omega, by rw [em] at c_c; exact c_c⟩]] at hi; exact hi)
                | (rw [show sm (smsF h r a) (n + 1) = sm (smsF h r a) n + 0 from by rw [sm]; unfold smsF; first | rw [bI_f (by rintro ⟨z1, z2, z3, z4⟩; first | omega | (rw [em] at c_c; exact c_c z4))] | rw [if_neg (by rintro ⟨z1, z2, z3, z4⟩; first | omega | (rw [em] at c_c; exact c_c z4))]] at hi; exact hi)
            · refine wp_iload rfl dX12_sumOf_44 ?_
              refine wp_bipush (by decide) dX12_sumOf_46 ?_
              refine wp_irem (by first | assumption | exact bI_in _ | exact ⟨by omega, by omega⟩ | exact iAnd_in | exact iOr_in | exact iShr_in | exact iShl_in | exact iXor_in | exact hxs _) (by first | assumption | exact bI_in _ | exact ⟨by omega, by omega⟩ | exact iAnd_in | exact iOr_in | exact iShr_in | exact iShl_in | exact iXor_in | exact hxs _) (by omega) dX12_sumOf_48 ?_
              try simp (disch := omega) only [up2_ne, up2_eq, tm8, td8, st_200_m1 hS, st_200_20 hS, st_220_m2 hS, st_220_m1 hS]
              refine wp_aload_n rfl rfl dX12_sumOf_49 ?_
              refine wp_getfield1 (z := 13) (kI := 6) fX12_7 dX12_sumOf_50 (by first | omega | (simp (disch := omega) only [up2_ne, up2_eq, tm8, td8, st_200_m1 hS, st_200_20 hS, st_220_m2 hS, st_220_m1 hS]; first | done | omega)) (by first | assumption | (simp (disch := omega) only [up2_ne, up2_eq, tm8, td8, st_200_m1 hS, st_200_20 hS, st_220_m2 hS, st_220_m1 hS]; first | done | rfl | omega)) rfl rfl ?_
              try simp (disch := omega) only [up2_ne, up2_eq, tm8, td8, st_200_m1 hS, st_200_20 hS, st_220_m2 hS, st_220_m1 hS]
              refine wp_icmp_ge (tgt := 83) (by first | assumption | exact bI_in _ | exact ⟨by omega, by omega⟩ | exact iAnd_in | exact iOr_in | exact iShr_in | exact iShl_in | exact iXor_in | exact hxs _) (by first | assumption | exact bI_in _ | exact ⟨by omega, by omega⟩ | exact iAnd_in | exact iOr_in | exact iShr_in | exact iShl_in | exact iXor_in | exact hxs _) dX12_sumOf_53 (by decide) (fun c14 => ?_) (fun c14 => ?_)
              · refine wp_iconst dX12_sumOf_83 ?_
                refine wp_iadd dX12_sumOf_84 ?_
                refine wp_istore_n rfl dX12_sumOf_85 rfl (Nat.le_of_ble_eq_true rfl) rfl ?_
                try simp only [List.set_cons_zero, List.set_cons_succ]
                refine wp_iinc rfl rfl dX12_sumOf_86 rfl rfl ?_
                try simp only [List.set_cons_zero, List.set_cons_succ]
                refine wp_goto (tgt := 5) dX12_sumOf_89 (by decide) ?_
                have hi := ih (by omega)
                first
                  | (rw [show sm (smsF h r a) (n + 1) = sm (smsF h r a) n + h 220 n from by rw [sm]; unfold smsF; first | rw [bI_t ⟨by omega, by omega, by omega, by rw [em] at c_c; exact c_c⟩] | rw [if_pos ⟨by omega, by omega, by omega, by rw [em] at c_c; exact c_c⟩]] at hi; exact hi)
                  | (rw [show sm (smsF h r a) (n + 1) = sm (smsF h r a) n + 0 from by rw [sm]; unfold smsF; first | rw [bI_f (by rintro ⟨z1, z2, z3, z4⟩; first | omega | (rw [em] at c_c; exact c_c z4))] | rw [if_neg (by rintro ⟨z1, z2, z3, z4⟩; first | omega | (rw [em] at c_c; exact c_c z4))]] at hi; exact hi)
              · refine wp_aload_n rfl rfl dX12_sumOf_56 ?_
                refine wp_iload rfl dX12_sumOf_57 ?_
                refine wp_bipush (by decide) dX12_sumOf_59 ?_
                refine wp_irem (by first | assumption | exact bI_in _ | exact ⟨by omega, by omega⟩ | exact iAnd_in | exact iOr_in | exact iShr_in | exact iShl_in | exact iXor_in | exact hxs _) (by first | assumption | exact bI_in _ | exact ⟨by omega, by omega⟩ | exact iAnd_in | exact iOr_in | exact iShr_in | exact iShl_in | exact iXor_in | exact hxs _) (by omega) dX12_sumOf_61 ?_
                try simp (disch := omega) only [up2_ne, up2_eq, tm8, td8, st_200_m1 hS, st_200_20 hS, st_220_m2 hS, st_220_m1 hS]
                refine wp_iload rfl dX12_sumOf_62 ?_
                refine wp_bipush (by decide) dX12_sumOf_64 ?_
                refine wp_idiv (by first | assumption | exact bI_in _ | exact ⟨by omega, by omega⟩ | exact iAnd_in | exact iOr_in | exact iShr_in | exact iShl_in | exact iXor_in | exact hxs _) (by first | assumption | exact bI_in _ | exact ⟨by omega, by omega⟩ | exact iAnd_in | exact iOr_in | exact iShr_in | exact iShl_in | exact iXor_in | exact hxs _) (by omega) dX12_sumOf_66 ?_
                try simp (disch := omega) only [up2_ne, up2_eq, tm8, td8, st_200_m1 hS, st_200_20 hS, st_220_m2 hS, st_220_m1 hS]
                refine wp_cV2 (ci := 12) okX12_counts rfl rfl wX12_304 dX12_sumOf_67 rfl (Nat.le_of_ble_eq_true rfl) (Nat.le_of_ble_eq_true rfl) (by first | omega | (simp (disch := omega) only [up2_ne, up2_eq, tm8, td8, st_200_m1 hS, st_200_20 hS, st_220_m2 hS, st_220_m1 hS]; first | done | omega)) (by first | assumption | (simp (disch := omega) only [up2_ne, up2_eq, tm8, td8, st_200_m1 hS, st_200_20 hS, st_220_m2 hS, st_220_m1 hS]; first | done | rfl | omega)) (s_X12_counts (r := (n : Int) % 8) (a := (n : Int) / 8) hS (by omega) (by omega) (by omega) (by omega) (by rw [em]; exact g1 _ (by omega) (by omega)) (g2 _ (by omega) (by omega)) (g3 _ (by omega) (by omega)) (g4 _ (by omega) (by omega)) (by rw [em]; exact g5 _ (by omega) (by omega))) (Nat.zero_le _) ?_
                try simp (disch := omega) only [up2_ne, up2_eq, tm8, td8, st_200_m1 hS, st_200_20 hS, st_220_m2 hS, st_220_m1 hS]
                refine wp_ifB_eq (tgt := 83) dX12_sumOf_70 (by decide) (fun c_c => ?_) (fun c_c => ?_)
                · refine wp_iconst dX12_sumOf_83 ?_
                  refine wp_iadd dX12_sumOf_84 ?_
                  refine wp_istore_n rfl dX12_sumOf_85 rfl (Nat.le_of_ble_eq_true rfl) rfl ?_
                  try simp only [List.set_cons_zero, List.set_cons_succ]
                  refine wp_iinc rfl rfl dX12_sumOf_86 rfl rfl ?_
                  try simp only [List.set_cons_zero, List.set_cons_succ]
                  refine wp_goto (tgt := 5) dX12_sumOf_89 (by decide) ?_
                  have hi := ih (by omega)
                  first
                    | (rw [show sm (smsF h r a) (n + 1) = sm (smsF h r a) n + h 220 n from by rw [sm]; unfold smsF; first | rw [bI_t ⟨by omega, by omega, by omega, by rw [em] at c_c; exact c_c⟩] | rw [if_pos ⟨by omega, by omega, by omega, by rw [em] at c_c; exact c_c⟩]] at hi; exact hi)
                    | (rw [show sm (smsF h r a) (n + 1) = sm (smsF h r a) n + 0 from by rw [sm]; unfold smsF; first | rw [bI_f (by rintro ⟨z1, z2, z3, z4⟩; first | omega | (rw [em] at c_c; exact c_c z4))] | rw [if_neg (by rintro ⟨z1, z2, z3, z4⟩; first | omega | (rw [em] at c_c; exact c_c z4))]] at hi; exact hi)
                · refine wp_aload_n rfl rfl dX12_sumOf_73 ?_
                  refine wp_getfield1 (z := 13) (kI := 20) fX12_106 dX12_sumOf_74 (by first | omega | (simp (disch := omega) only [up2_ne, up2_eq, tm8, td8, st_200_m1 hS, st_200_20 hS, st_220_m2 hS, st_220_m1 hS]; first | done | omega)) (by first | assumption | (simp (disch := omega) only [up2_ne, up2_eq, tm8, td8, st_200_m1 hS, st_200_20 hS, st_220_m2 hS, st_220_m1 hS]; first | done | rfl | omega)) rfl rfl ?_
                  try simp (disch := omega) only [up2_ne, up2_eq, tm8, td8, st_200_m1 hS, st_200_20 hS, st_220_m2 hS, st_220_m1 hS]
                  refine wp_iload rfl dX12_sumOf_77 ?_
                  refine wp_iaload1 dX12_sumOf_79 (by first | omega | (simp (disch := omega) only [up2_ne, up2_eq, tm8, td8, st_200_m1 hS, st_200_20 hS, st_220_m2 hS, st_220_m1 hS]; first | done | omega)) (by first | assumption | (simp (disch := omega) only [up2_ne, up2_eq, tm8, td8, st_200_m1 hS, st_200_20 hS, st_220_m2 hS, st_220_m1 hS]; first | done | rfl | omega)) (by first | omega | (simp (disch := omega) only [up2_ne, up2_eq, tm8, td8, st_200_m1 hS, st_200_20 hS, st_220_m2 hS, st_220_m1 hS]; first | done | omega)) (by first | omega | (simp (disch := omega) only [up2_ne, up2_eq, tm8, td8, st_200_m1 hS, st_200_20 hS, st_220_m2 hS, st_220_m1 hS]; first | done | omega)) ?_
                  try simp (disch := omega) only [up2_ne, up2_eq, tm8, td8, st_200_m1 hS, st_200_20 hS, st_220_m2 hS, st_220_m1 hS]
                  refine wp_goto (tgt := 84) dX12_sumOf_80 (by decide) ?_
                  refine wp_iadd dX12_sumOf_84 ?_
                  refine wp_istore_n rfl dX12_sumOf_85 rfl (Nat.le_of_ble_eq_true rfl) rfl ?_
                  try simp only [List.set_cons_zero, List.set_cons_succ]
                  refine wp_iinc rfl rfl dX12_sumOf_86 rfl rfl ?_
                  try simp only [List.set_cons_zero, List.set_cons_succ]
                  refine wp_goto (tgt := 5) dX12_sumOf_89 (by decide) ?_
                  have hi := ih (by omega)
                  first
                    | (rw [show sm (smsF h r a) (n + 1) = sm (smsF h r a) n + h 220 n from by rw [sm]; unfold smsF; first | rw [bI_t ⟨by omega, by omega, by omega, by rw [em] at c_c; exact c_c⟩] | rw [if_pos ⟨by omega, by omega, by omega, by rw [em] at c_c; exact c_c⟩]] at hi; exact hi)
                    | (rw [show sm (smsF h r a) (n + 1) = sm (smsF h r a) n + 0 from by rw [sm]; unfold smsF; first | rw [bI_f (by rintro ⟨z1, z2, z3, z4⟩; first | omega | (rw [em] at c_c; exact c_c z4))] | rw [if_neg (by rintro ⟨z1, z2, z3, z4⟩; first | omega | (rw [em] at c_c; exact c_c z4))]] at hi; exact hi)
  show WP (gX (gq u)) MX12_sumOf (d + 2) b Q 0 [(2, 200), (0, r), (0, a), (9, 0), (9, 0)] [] h
  refine wp_iconst dX12_sumOf_0 ?_
  refine wp_istore_n rfl dX12_sumOf_1 rfl (Nat.le_of_ble_eq_true rfl) rfl ?_
  try simp only [List.set_cons_zero, List.set_cons_succ]
  refine wp_iconst dX12_sumOf_2 ?_
  refine wp_istore dX12_sumOf_3 rfl (Nat.le_of_ble_eq_true rfl) rfl ?_
  try simp only [List.set_cons_zero, List.set_cons_succ]
  exact loop 0 (by omega)
