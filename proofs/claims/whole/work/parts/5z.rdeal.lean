/-! ===== deal: the reference, the pair ===== -/
set_option maxHeartbeats 1000000 in
theorem s_X12_bestFor {u : gT} {j : Nat} {h m : mH} {d b : Nat} (H : Inv j m) (e : Cr h m) (hS : St h) {a : Int} (a0 : 0 ≤ a) (a1 : a < m 200 10) {p : Int} (p0 : 0 ≤ p) (p1 : p < 256) : Det (gX (gq u)) MX12_bestFor (d + 1) b [(2, 200), (0, a), (0, p)] h (0, bst m a p (m 200 6).toNat) h := by
  intro Q hQ
  have hn := H.ns
  have hra := H.ra a0 (by omega)
  have loop : ∀ n : Nat, n ≤ (m 200 6).toNat → WP (gX (gq u)) MX12_bestFor (d + 1) b Q 5 [(2, 200), (0, a), (0, p), (0, bst m a p n), (0, (n : Int)), (9, 0), (9, 0)] [] h := by
    refine loop_w (m 200 6).toNat (fun n hn2 ih => ?_)
    have hbr := bst_r (m := m) (a := a) (has := p) n
    have hrd := fun z : (n : Int) < m 200 6 => rds_b H (r := (n : Int)) (by omega) (by omega)
    have hld := fun z : (n : Int) < m 200 6 => H.rld (r := (n : Int)) (by omega) z
    have hk1 := fun z : (n : Int) < m 200 6 => bt_01 (x := m 207 n) (i := m 214 a) (by have := H.rr2 (r := (n : Int)) (by omega) (by omega); omega) (by have := H.rr2 (r := (n : Int)) (by omega) (by omega); omega) (by omega) (by omega)
    have hk2 := fun z : 0 ≤ bst m a p n => bt_01 (x := m 207 (bst m a p n)) (i := m 214 a) (by have := H.rr2 (r := bst m a p n) z (by omega); omega) (by have := H.rr2 (r := bst m a p n) z (by omega); omega) (by omega) (by omega)
    have hrb := fun z : 0 ≤ bst m a p n => rds_b H (r := bst m a p n) z (by omega)
    have hp1 := fun z : (n : Int) < m 200 6 => bt_01 (x := p) (i := (n : Int)) p0 (by omega) (by omega) (by omega)
    refine wp_iload rfl dX12_bestFor_5 ?_
    refine wp_aload_n rfl rfl dX12_bestFor_7 ?_
    refine wp_getfield1 (z := 13) (kI := 6) fX12_7 dX12_bestFor_8 (by first | omega | (simp (disch := omega) only [up2_ne, up2_eq, e, st_200_m1 hS, st_200_m1 H.1, st_200_7 hS, st_200_7 H.1, st_200_9 hS, st_200_9 H.1, st_200_14 hS, st_200_14 H.1, st_207_m2 hS, st_207_m2 H.1, st_207_m1 hS, st_207_m1 H.1, st_209_m2 hS, st_209_m2 H.1, st_209_m1 hS, st_209_m1 H.1, st_214_m2 hS, st_214_m2 H.1, st_214_m1 hS, st_214_m1 H.1]; first | done | omega)) (by first | assumption | (simp (disch := omega) only [up2_ne, up2_eq, e, st_200_m1 hS, st_200_m1 H.1, st_200_7 hS, st_200_7 H.1, st_200_9 hS, st_200_9 H.1, st_200_14 hS, st_200_14 H.1, st_207_m2 hS, st_207_m2 H.1, st_207_m1 hS, st_207_m1 H.1, st_209_m2 hS, st_209_m2 H.1, st_209_m1 hS, st_209_m1 H.1, st_214_m2 hS, st_214_m2 H.1, st_214_m1 hS, st_214_m1 H.1]; first | done | rfl | omega)) rfl rfl ?_
    try simp (disch := omega) only [up2_ne, up2_eq, e, st_200_m1 hS, st_200_m1 H.1, st_200_7 hS, st_200_7 H.1, st_200_9 hS, st_200_9 H.1, st_200_14 hS, st_200_14 H.1, st_207_m2 hS, st_207_m2 H.1, st_207_m1 hS, st_207_m1 H.1, st_209_m2 hS, st_209_m2 H.1, st_209_m1 hS, st_209_m1 H.1, st_214_m2 hS, st_214_m2 H.1, st_214_m1 hS, st_214_m1 H.1]
    refine wp_icmp_ge (tgt := 152) (by first | assumption | exact bI_in _ | exact ⟨by omega, by omega⟩ | exact iAnd_in | exact iOr_in | exact iShr_in | exact iShl_in | exact iXor_in | exact hxs _) (by first | assumption | exact bI_in _ | exact ⟨by omega, by omega⟩ | exact iAnd_in | exact iOr_in | exact iShr_in | exact iShl_in | exact iXor_in | exact hxs _) dX12_bestFor_11 (by decide) (fun c1 => ?_) (fun c1 => ?_)
    · refine wp_iload_n rfl rfl dX12_bestFor_152 ?_
      refine wp_iret dX12_bestFor_153 rfl ?_
      have en : n = (m 200 6).toNat := by omega
      subst en
      exact hQ
    · refine wp_aload_n rfl rfl dX12_bestFor_14 ?_
      refine wp_iload rfl dX12_bestFor_15 ?_
      refine wp_iload_n rfl rfl dX12_bestFor_17 ?_
      refine wp_cV2 (ci := 12) okX12_isBarred rfl rfl wX12_288 dX12_bestFor_18 rfl (Nat.le_of_ble_eq_true rfl) (Nat.le_of_ble_eq_true rfl) (by first | omega | (simp (disch := omega) only [up2_ne, up2_eq, e, st_200_m1 hS, st_200_m1 H.1, st_200_7 hS, st_200_7 H.1, st_200_9 hS, st_200_9 H.1, st_200_14 hS, st_200_14 H.1, st_207_m2 hS, st_207_m2 H.1, st_207_m1 hS, st_207_m1 H.1, st_209_m2 hS, st_209_m2 H.1, st_209_m1 hS, st_209_m1 H.1, st_214_m2 hS, st_214_m2 H.1, st_214_m1 hS, st_214_m1 H.1]; first | done | omega)) (by first | assumption | (simp (disch := omega) only [up2_ne, up2_eq, e, st_200_m1 hS, st_200_m1 H.1, st_200_7 hS, st_200_7 H.1, st_200_9 hS, st_200_9 H.1, st_200_14 hS, st_200_14 H.1, st_207_m2 hS, st_207_m2 H.1, st_207_m1 hS, st_207_m1 H.1, st_209_m2 hS, st_209_m2 H.1, st_209_m1 hS, st_209_m1 H.1, st_214_m2 hS, st_214_m2 H.1, st_214_m1 hS, st_214_m1 H.1]; first | done | rfl | omega)) (rbar H e hS (by omega) (by omega) (by omega) (by omega)) (Nat.zero_le _) ?_
      try simp (disch := omega) only [up2_ne, up2_eq, e, st_200_m1 hS, st_200_m1 H.1, st_200_7 hS, st_200_7 H.1, st_200_9 hS, st_200_9 H.1, st_200_14 hS, st_200_14 H.1, st_207_m2 hS, st_207_m2 H.1, st_207_m1 hS, st_207_m1 H.1, st_209_m2 hS, st_209_m2 H.1, st_209_m1 hS, st_209_m1 H.1, st_214_m2 hS, st_214_m2 H.1, st_214_m1 hS, st_214_m1 H.1]
      refine wp_ifB_ne (tgt := 146) dX12_bestFor_21 (by decide) (fun c2 => ?_) (fun c2 => ?_)
      · refine wp_iinc rfl rfl dX12_bestFor_146 rfl rfl ?_
        try simp only [List.set_cons_zero, List.set_cons_succ]
        refine wp_goto (tgt := 5) dX12_bestFor_149 (by decide) ?_
        refine wp_dropAt 5 rfl (wp_dropAt 6 rfl ?_)
        have z := ih (by omega)
        first
          | (rw [bst_t ⟨by assumption, by omega, by omega⟩ (by first | exact Or.inl (by omega) | exact Or.inr (Or.inl ⟨by omega, by omega⟩) | exact Or.inr (Or.inr ⟨by constructor <;> intro y <;> omega, by omega⟩))] at z
             exact z)
          | (rw [bst_f (by rintro ⟨⟨y1, y2, y3⟩, y4 | ⟨y5, y6⟩ | ⟨y5, y6⟩⟩ <;> first | contradiction | omega)] at z
             exact z)
      · refine wp_iload_n rfl rfl dX12_bestFor_24 ?_
        refine wp_iload rfl dX12_bestFor_25 ?_
        refine wp_ishr dX12_bestFor_27 ?_
        refine wp_iconst dX12_bestFor_28 ?_
        refine wp_iand dX12_bestFor_29 ?_
        try simp only [bt_fold]
        have hp1 := hp1 (by omega)
        refine wp_if_ne (tgt := 146) (by first | assumption | exact bI_in _ | exact ⟨by omega, by omega⟩ | exact iAnd_in | exact iOr_in | exact iShr_in | exact iShl_in | exact iXor_in | exact hxs _) dX12_bestFor_30 (by decide) (fun c3 => ?_) (fun c3 => ?_)
        · refine wp_iinc rfl rfl dX12_bestFor_146 rfl rfl ?_
          try simp only [List.set_cons_zero, List.set_cons_succ]
          refine wp_goto (tgt := 5) dX12_bestFor_149 (by decide) ?_
          refine wp_dropAt 5 rfl (wp_dropAt 6 rfl ?_)
          have z := ih (by omega)
          first
            | (rw [bst_t ⟨by assumption, by omega, by omega⟩ (by first | exact Or.inl (by omega) | exact Or.inr (Or.inl ⟨by omega, by omega⟩) | exact Or.inr (Or.inr ⟨by constructor <;> intro y <;> omega, by omega⟩))] at z
               exact z)
            | (rw [bst_f (by rintro ⟨⟨y1, y2, y3⟩, y4 | ⟨y5, y6⟩ | ⟨y5, y6⟩⟩ <;> first | contradiction | omega)] at z
               exact z)
        · refine wp_aload_n rfl rfl dX12_bestFor_33 ?_
          refine wp_iload rfl dX12_bestFor_34 ?_
          refine wp_cV1 (ci := 12) okX12_reads rfl rfl wX12_61 dX12_bestFor_36 rfl (Nat.le_of_ble_eq_true rfl) (Nat.le_of_ble_eq_true rfl) (by first | omega | (simp (disch := omega) only [up2_ne, up2_eq, e, st_200_m1 hS, st_200_m1 H.1, st_200_7 hS, st_200_7 H.1, st_200_9 hS, st_200_9 H.1, st_200_14 hS, st_200_14 H.1, st_207_m2 hS, st_207_m2 H.1, st_207_m1 hS, st_207_m1 H.1, st_209_m2 hS, st_209_m2 H.1, st_209_m1 hS, st_209_m1 H.1, st_214_m2 hS, st_214_m2 H.1, st_214_m1 hS, st_214_m1 H.1]; first | done | omega)) (by first | assumption | (simp (disch := omega) only [up2_ne, up2_eq, e, st_200_m1 hS, st_200_m1 H.1, st_200_7 hS, st_200_7 H.1, st_200_9 hS, st_200_9 H.1, st_200_14 hS, st_200_14 H.1, st_207_m2 hS, st_207_m2 H.1, st_207_m1 hS, st_207_m1 H.1, st_209_m2 hS, st_209_m2 H.1, st_209_m1 hS, st_209_m1 H.1, st_214_m2 hS, st_214_m2 H.1, st_214_m1 hS, st_214_m1 H.1]; first | done | rfl | omega)) (rreads H e hS) (Nat.zero_le _) ?_
          try simp (disch := omega) only [up2_ne, up2_eq, e, st_200_m1 hS, st_200_m1 H.1, st_200_7 hS, st_200_7 H.1, st_200_9 hS, st_200_9 H.1, st_200_14 hS, st_200_14 H.1, st_207_m2 hS, st_207_m2 H.1, st_207_m1 hS, st_207_m1 H.1, st_209_m2 hS, st_209_m2 H.1, st_209_m1 hS, st_209_m1 H.1, st_214_m2 hS, st_214_m2 H.1, st_214_m1 hS, st_214_m1 H.1]
          refine wp_aload_n rfl rfl dX12_bestFor_39 ?_
          refine wp_getfield1 (z := 13) (kI := 9) fX12_52 dX12_bestFor_40 (by first | omega | (simp (disch := omega) only [up2_ne, up2_eq, e, st_200_m1 hS, st_200_m1 H.1, st_200_7 hS, st_200_7 H.1, st_200_9 hS, st_200_9 H.1, st_200_14 hS, st_200_14 H.1, st_207_m2 hS, st_207_m2 H.1, st_207_m1 hS, st_207_m1 H.1, st_209_m2 hS, st_209_m2 H.1, st_209_m1 hS, st_209_m1 H.1, st_214_m2 hS, st_214_m2 H.1, st_214_m1 hS, st_214_m1 H.1]; first | done | omega)) (by first | assumption | (simp (disch := omega) only [up2_ne, up2_eq, e, st_200_m1 hS, st_200_m1 H.1, st_200_7 hS, st_200_7 H.1, st_200_9 hS, st_200_9 H.1, st_200_14 hS, st_200_14 H.1, st_207_m2 hS, st_207_m2 H.1, st_207_m1 hS, st_207_m1 H.1, st_209_m2 hS, st_209_m2 H.1, st_209_m1 hS, st_209_m1 H.1, st_214_m2 hS, st_214_m2 H.1, st_214_m1 hS, st_214_m1 H.1]; first | done | rfl | omega)) rfl rfl ?_
          try simp (disch := omega) only [up2_ne, up2_eq, e, st_200_m1 hS, st_200_m1 H.1, st_200_7 hS, st_200_7 H.1, st_200_9 hS, st_200_9 H.1, st_200_14 hS, st_200_14 H.1, st_207_m2 hS, st_207_m2 H.1, st_207_m1 hS, st_207_m1 H.1, st_209_m2 hS, st_209_m2 H.1, st_209_m1 hS, st_209_m1 H.1, st_214_m2 hS, st_214_m2 H.1, st_214_m1 hS, st_214_m1 H.1]
          refine wp_iload rfl dX12_bestFor_43 ?_
          refine wp_iaload1 dX12_bestFor_45 (by first | omega | (simp (disch := omega) only [up2_ne, up2_eq, e, st_200_m1 hS, st_200_m1 H.1, st_200_7 hS, st_200_7 H.1, st_200_9 hS, st_200_9 H.1, st_200_14 hS, st_200_14 H.1, st_207_m2 hS, st_207_m2 H.1, st_207_m1 hS, st_207_m1 H.1, st_209_m2 hS, st_209_m2 H.1, st_209_m1 hS, st_209_m1 H.1, st_214_m2 hS, st_214_m2 H.1, st_214_m1 hS, st_214_m1 H.1]; first | done | omega)) (by first | assumption | (simp (disch := omega) only [up2_ne, up2_eq, e, st_200_m1 hS, st_200_m1 H.1, st_200_7 hS, st_200_7 H.1, st_200_9 hS, st_200_9 H.1, st_200_14 hS, st_200_14 H.1, st_207_m2 hS, st_207_m2 H.1, st_207_m1 hS, st_207_m1 H.1, st_209_m2 hS, st_209_m2 H.1, st_209_m1 hS, st_209_m1 H.1, st_214_m2 hS, st_214_m2 H.1, st_214_m1 hS, st_214_m1 H.1]; first | done | rfl | omega)) (by first | omega | (simp (disch := omega) only [up2_ne, up2_eq, e, st_200_m1 hS, st_200_m1 H.1, st_200_7 hS, st_200_7 H.1, st_200_9 hS, st_200_9 H.1, st_200_14 hS, st_200_14 H.1, st_207_m2 hS, st_207_m2 H.1, st_207_m1 hS, st_207_m1 H.1, st_209_m2 hS, st_209_m2 H.1, st_209_m1 hS, st_209_m1 H.1, st_214_m2 hS, st_214_m2 H.1, st_214_m1 hS, st_214_m1 H.1]; first | done | omega)) (by first | omega | (simp (disch := omega) only [up2_ne, up2_eq, e, st_200_m1 hS, st_200_m1 H.1, st_200_7 hS, st_200_7 H.1, st_200_9 hS, st_200_9 H.1, st_200_14 hS, st_200_14 H.1, st_207_m2 hS, st_207_m2 H.1, st_207_m1 hS, st_207_m1 H.1, st_209_m2 hS, st_209_m2 H.1, st_209_m1 hS, st_209_m1 H.1, st_214_m2 hS, st_214_m2 H.1, st_214_m1 hS, st_214_m1 H.1]; first | done | omega)) ?_
          try simp (disch := omega) only [up2_ne, up2_eq, e, st_200_m1 hS, st_200_m1 H.1, st_200_7 hS, st_200_7 H.1, st_200_9 hS, st_200_9 H.1, st_200_14 hS, st_200_14 H.1, st_207_m2 hS, st_207_m2 H.1, st_207_m1 hS, st_207_m1 H.1, st_209_m2 hS, st_209_m2 H.1, st_209_m1 hS, st_209_m1 H.1, st_214_m2 hS, st_214_m2 H.1, st_214_m1 hS, st_214_m1 H.1]
          have hrd := hrd (by omega)
          have hld := hld (by omega)
          have hk1 := hk1 (by omega)
          refine wp_icmp_ge (tgt := 146) (by first | assumption | exact bI_in _ | exact ⟨by omega, by omega⟩ | exact iAnd_in | exact iOr_in | exact iShr_in | exact iShl_in | exact iXor_in | exact hxs _) (by first | assumption | exact bI_in _ | exact ⟨by omega, by omega⟩ | exact iAnd_in | exact iOr_in | exact iShr_in | exact iShl_in | exact iXor_in | exact hxs _) dX12_bestFor_46 (by decide) (fun c4 => ?_) (fun c4 => ?_)
          · refine wp_iinc rfl rfl dX12_bestFor_146 rfl rfl ?_
            try simp only [List.set_cons_zero, List.set_cons_succ]
            refine wp_goto (tgt := 5) dX12_bestFor_149 (by decide) ?_
            refine wp_dropAt 5 rfl (wp_dropAt 6 rfl ?_)
            have z := ih (by omega)
            first
              | (rw [bst_t ⟨by assumption, by omega, by omega⟩ (by first | exact Or.inl (by omega) | exact Or.inr (Or.inl ⟨by omega, by omega⟩) | exact Or.inr (Or.inr ⟨by constructor <;> intro y <;> omega, by omega⟩))] at z
                 exact z)
              | (rw [bst_f (by rintro ⟨⟨y1, y2, y3⟩, y4 | ⟨y5, y6⟩ | ⟨y5, y6⟩⟩ <;> first | contradiction | omega)] at z
                 exact z)
          · refine wp_aload_n rfl rfl dX12_bestFor_49 ?_
            refine wp_getfield1 (z := 13) (kI := 7) fX12_46 dX12_bestFor_50 (by first | omega | (simp (disch := omega) only [up2_ne, up2_eq, e, st_200_m1 hS, st_200_m1 H.1, st_200_7 hS, st_200_7 H.1, st_200_9 hS, st_200_9 H.1, st_200_14 hS, st_200_14 H.1, st_207_m2 hS, st_207_m2 H.1, st_207_m1 hS, st_207_m1 H.1, st_209_m2 hS, st_209_m2 H.1, st_209_m1 hS, st_209_m1 H.1, st_214_m2 hS, st_214_m2 H.1, st_214_m1 hS, st_214_m1 H.1]; first | done | omega)) (by first | assumption | (simp (disch := omega) only [up2_ne, up2_eq, e, st_200_m1 hS, st_200_m1 H.1, st_200_7 hS, st_200_7 H.1, st_200_9 hS, st_200_9 H.1, st_200_14 hS, st_200_14 H.1, st_207_m2 hS, st_207_m2 H.1, st_207_m1 hS, st_207_m1 H.1, st_209_m2 hS, st_209_m2 H.1, st_209_m1 hS, st_209_m1 H.1, st_214_m2 hS, st_214_m2 H.1, st_214_m1 hS, st_214_m1 H.1]; first | done | rfl | omega)) rfl rfl ?_
            try simp (disch := omega) only [up2_ne, up2_eq, e, st_200_m1 hS, st_200_m1 H.1, st_200_7 hS, st_200_7 H.1, st_200_9 hS, st_200_9 H.1, st_200_14 hS, st_200_14 H.1, st_207_m2 hS, st_207_m2 H.1, st_207_m1 hS, st_207_m1 H.1, st_209_m2 hS, st_209_m2 H.1, st_209_m1 hS, st_209_m1 H.1, st_214_m2 hS, st_214_m2 H.1, st_214_m1 hS, st_214_m1 H.1]
            refine wp_iload rfl dX12_bestFor_53 ?_
            refine wp_iaload1 dX12_bestFor_55 (by first | omega | (simp (disch := omega) only [up2_ne, up2_eq, e, st_200_m1 hS, st_200_m1 H.1, st_200_7 hS, st_200_7 H.1, st_200_9 hS, st_200_9 H.1, st_200_14 hS, st_200_14 H.1, st_207_m2 hS, st_207_m2 H.1, st_207_m1 hS, st_207_m1 H.1, st_209_m2 hS, st_209_m2 H.1, st_209_m1 hS, st_209_m1 H.1, st_214_m2 hS, st_214_m2 H.1, st_214_m1 hS, st_214_m1 H.1]; first | done | omega)) (by first | assumption | (simp (disch := omega) only [up2_ne, up2_eq, e, st_200_m1 hS, st_200_m1 H.1, st_200_7 hS, st_200_7 H.1, st_200_9 hS, st_200_9 H.1, st_200_14 hS, st_200_14 H.1, st_207_m2 hS, st_207_m2 H.1, st_207_m1 hS, st_207_m1 H.1, st_209_m2 hS, st_209_m2 H.1, st_209_m1 hS, st_209_m1 H.1, st_214_m2 hS, st_214_m2 H.1, st_214_m1 hS, st_214_m1 H.1]; first | done | rfl | omega)) (by first | omega | (simp (disch := omega) only [up2_ne, up2_eq, e, st_200_m1 hS, st_200_m1 H.1, st_200_7 hS, st_200_7 H.1, st_200_9 hS, st_200_9 H.1, st_200_14 hS, st_200_14 H.1, st_207_m2 hS, st_207_m2 H.1, st_207_m1 hS, st_207_m1 H.1, st_209_m2 hS, st_209_m2 H.1, st_209_m1 hS, st_209_m1 H.1, st_214_m2 hS, st_214_m2 H.1, st_214_m1 hS, st_214_m1 H.1]; first | done | omega)) (by first | omega | (simp (disch := omega) only [up2_ne, up2_eq, e, st_200_m1 hS, st_200_m1 H.1, st_200_7 hS, st_200_7 H.1, st_200_9 hS, st_200_9 H.1, st_200_14 hS, st_200_14 H.1, st_207_m2 hS, st_207_m2 H.1, st_207_m1 hS, st_207_m1 H.1, st_209_m2 hS, st_209_m2 H.1, st_209_m1 hS, st_209_m1 H.1, st_214_m2 hS, st_214_m2 H.1, st_214_m1 hS, st_214_m1 H.1]; first | done | omega)) ?_
            try simp (disch := omega) only [up2_ne, up2_eq, e, st_200_m1 hS, st_200_m1 H.1, st_200_7 hS, st_200_7 H.1, st_200_9 hS, st_200_9 H.1, st_200_14 hS, st_200_14 H.1, st_207_m2 hS, st_207_m2 H.1, st_207_m1 hS, st_207_m1 H.1, st_209_m2 hS, st_209_m2 H.1, st_209_m1 hS, st_209_m1 H.1, st_214_m2 hS, st_214_m2 H.1, st_214_m1 hS, st_214_m1 H.1]
            refine wp_aload_n rfl rfl dX12_bestFor_56 ?_
            refine wp_getfield1 (z := 13) (kI := 14) fX12_91 dX12_bestFor_57 (by first | omega | (simp (disch := omega) only [up2_ne, up2_eq, e, st_200_m1 hS, st_200_m1 H.1, st_200_7 hS, st_200_7 H.1, st_200_9 hS, st_200_9 H.1, st_200_14 hS, st_200_14 H.1, st_207_m2 hS, st_207_m2 H.1, st_207_m1 hS, st_207_m1 H.1, st_209_m2 hS, st_209_m2 H.1, st_209_m1 hS, st_209_m1 H.1, st_214_m2 hS, st_214_m2 H.1, st_214_m1 hS, st_214_m1 H.1]; first | done | omega)) (by first | assumption | (simp (disch := omega) only [up2_ne, up2_eq, e, st_200_m1 hS, st_200_m1 H.1, st_200_7 hS, st_200_7 H.1, st_200_9 hS, st_200_9 H.1, st_200_14 hS, st_200_14 H.1, st_207_m2 hS, st_207_m2 H.1, st_207_m1 hS, st_207_m1 H.1, st_209_m2 hS, st_209_m2 H.1, st_209_m1 hS, st_209_m1 H.1, st_214_m2 hS, st_214_m2 H.1, st_214_m1 hS, st_214_m1 H.1]; first | done | rfl | omega)) rfl rfl ?_
            try simp (disch := omega) only [up2_ne, up2_eq, e, st_200_m1 hS, st_200_m1 H.1, st_200_7 hS, st_200_7 H.1, st_200_9 hS, st_200_9 H.1, st_200_14 hS, st_200_14 H.1, st_207_m2 hS, st_207_m2 H.1, st_207_m1 hS, st_207_m1 H.1, st_209_m2 hS, st_209_m2 H.1, st_209_m1 hS, st_209_m1 H.1, st_214_m2 hS, st_214_m2 H.1, st_214_m1 hS, st_214_m1 H.1]
            refine wp_iload_n rfl rfl dX12_bestFor_60 ?_
            refine wp_iaload1 dX12_bestFor_61 (by first | omega | (simp (disch := omega) only [up2_ne, up2_eq, e, st_200_m1 hS, st_200_m1 H.1, st_200_7 hS, st_200_7 H.1, st_200_9 hS, st_200_9 H.1, st_200_14 hS, st_200_14 H.1, st_207_m2 hS, st_207_m2 H.1, st_207_m1 hS, st_207_m1 H.1, st_209_m2 hS, st_209_m2 H.1, st_209_m1 hS, st_209_m1 H.1, st_214_m2 hS, st_214_m2 H.1, st_214_m1 hS, st_214_m1 H.1]; first | done | omega)) (by first | assumption | (simp (disch := omega) only [up2_ne, up2_eq, e, st_200_m1 hS, st_200_m1 H.1, st_200_7 hS, st_200_7 H.1, st_200_9 hS, st_200_9 H.1, st_200_14 hS, st_200_14 H.1, st_207_m2 hS, st_207_m2 H.1, st_207_m1 hS, st_207_m1 H.1, st_209_m2 hS, st_209_m2 H.1, st_209_m1 hS, st_209_m1 H.1, st_214_m2 hS, st_214_m2 H.1, st_214_m1 hS, st_214_m1 H.1]; first | done | rfl | omega)) (by first | omega | (simp (disch := omega) only [up2_ne, up2_eq, e, st_200_m1 hS, st_200_m1 H.1, st_200_7 hS, st_200_7 H.1, st_200_9 hS, st_200_9 H.1, st_200_14 hS, st_200_14 H.1, st_207_m2 hS, st_207_m2 H.1, st_207_m1 hS, st_207_m1 H.1, st_209_m2 hS, st_209_m2 H.1, st_209_m1 hS, st_209_m1 H.1, st_214_m2 hS, st_214_m2 H.1, st_214_m1 hS, st_214_m1 H.1]; first | done | omega)) (by first | omega | (simp (disch := omega) only [up2_ne, up2_eq, e, st_200_m1 hS, st_200_m1 H.1, st_200_7 hS, st_200_7 H.1, st_200_9 hS, st_200_9 H.1, st_200_14 hS, st_200_14 H.1, st_207_m2 hS, st_207_m2 H.1, st_207_m1 hS, st_207_m1 H.1, st_209_m2 hS, st_209_m2 H.1, st_209_m1 hS, st_209_m1 H.1, st_214_m2 hS, st_214_m2 H.1, st_214_m1 hS, st_214_m1 H.1]; first | done | omega)) ?_
            try simp (disch := omega) only [up2_ne, up2_eq, e, st_200_m1 hS, st_200_m1 H.1, st_200_7 hS, st_200_7 H.1, st_200_9 hS, st_200_9 H.1, st_200_14 hS, st_200_14 H.1, st_207_m2 hS, st_207_m2 H.1, st_207_m1 hS, st_207_m1 H.1, st_209_m2 hS, st_209_m2 H.1, st_209_m1 hS, st_209_m1 H.1, st_214_m2 hS, st_214_m2 H.1, st_214_m1 hS, st_214_m1 H.1]
            refine wp_ishr dX12_bestFor_62 ?_
            refine wp_iconst dX12_bestFor_63 ?_
            refine wp_iand dX12_bestFor_64 ?_
            refine wp_iconst dX12_bestFor_65 ?_
            try simp only [bt_fold]
            refine wp_icmp_ne (tgt := 73) (by first | assumption | exact bI_in _ | exact ⟨by omega, by omega⟩ | exact iAnd_in | exact iOr_in | exact iShr_in | exact iShl_in | exact iXor_in | exact hxs _) (by first | assumption | exact bI_in _ | exact ⟨by omega, by omega⟩ | exact iAnd_in | exact iOr_in | exact iShr_in | exact iShl_in | exact iXor_in | exact hxs _) dX12_bestFor_66 (by decide) (fun c5 => ?_) (fun c5 => ?_)
            · refine wp_iconst dX12_bestFor_73 ?_
              refine wp_istore dX12_bestFor_74 rfl (Nat.le_of_ble_eq_true rfl) rfl ?_
              try simp only [List.set_cons_zero, List.set_cons_succ]
              refine wp_iload_n rfl rfl dX12_bestFor_76 ?_
              refine wp_iconst dX12_bestFor_77 ?_
              refine wp_icmp_eq (tgt := 104) (by first | assumption | exact bI_in _ | exact ⟨by omega, by omega⟩ | exact iAnd_in | exact iOr_in | exact iShr_in | exact iShl_in | exact iXor_in | exact hxs _) (by first | assumption | exact bI_in _ | exact ⟨by omega, by omega⟩ | exact iAnd_in | exact iOr_in | exact iShr_in | exact iShl_in | exact iXor_in | exact hxs _) dX12_bestFor_78 (by decide) (fun c6 => ?_) (fun c6 => ?_)
              · refine wp_iconst dX12_bestFor_104 ?_
                refine wp_istore dX12_bestFor_105 rfl (Nat.le_of_ble_eq_true rfl) rfl ?_
                try simp only [List.set_cons_zero, List.set_cons_succ]
                refine wp_iload_n rfl rfl dX12_bestFor_107 ?_
                refine wp_iconst dX12_bestFor_108 ?_
                refine wp_icmp_eq (tgt := 143) (by first | assumption | exact bI_in _ | exact ⟨by omega, by omega⟩ | exact iAnd_in | exact iOr_in | exact iShr_in | exact iShl_in | exact iXor_in | exact hxs _) (by first | assumption | exact bI_in _ | exact ⟨by omega, by omega⟩ | exact iAnd_in | exact iOr_in | exact iShr_in | exact iShl_in | exact iXor_in | exact hxs _) dX12_bestFor_109 (by decide) (fun c7 => ?_) (fun c7 => ?_)
                · refine wp_iload rfl dX12_bestFor_143 ?_
                  refine wp_istore_n rfl dX12_bestFor_145 rfl (Nat.le_of_ble_eq_true rfl) rfl ?_
                  try simp only [List.set_cons_zero, List.set_cons_succ]
                  refine wp_iinc rfl rfl dX12_bestFor_146 rfl rfl ?_
                  try simp only [List.set_cons_zero, List.set_cons_succ]
                  refine wp_goto (tgt := 5) dX12_bestFor_149 (by decide) ?_
                  refine wp_dropAt 5 rfl (wp_dropAt 6 rfl ?_)
                  have z := ih (by omega)
                  first
                    | (rw [bst_t ⟨by assumption, by omega, by omega⟩ (by first | exact Or.inl (by omega) | exact Or.inr (Or.inl ⟨by omega, by omega⟩) | exact Or.inr (Or.inr ⟨by constructor <;> intro y <;> omega, by omega⟩))] at z
                       exact z)
                    | (rw [bst_f (by rintro ⟨⟨y1, y2, y3⟩, y4 | ⟨y5, y6⟩ | ⟨y5, y6⟩⟩ <;> first | contradiction | omega)] at z
                       exact z)
                · refine wp_iload rfl dX12_bestFor_112 ?_
                  refine wp_if_eq (tgt := 122) (by first | assumption | exact bI_in _ | exact ⟨by omega, by omega⟩ | exact iAnd_in | exact iOr_in | exact iShr_in | exact iShl_in | exact iXor_in | exact hxs _) dX12_bestFor_114 (by decide) (fun hx => ?_) (fun hx => absurd hx (by decide))
                  refine wp_iload rfl dX12_bestFor_122 ?_
                  refine wp_iload rfl dX12_bestFor_124 ?_
                  refine wp_icmp_ne (tgt := 146) (by first | assumption | exact bI_in _ | exact ⟨by omega, by omega⟩ | exact iAnd_in | exact iOr_in | exact iShr_in | exact iShl_in | exact iXor_in | exact hxs _) (by first | assumption | exact bI_in _ | exact ⟨by omega, by omega⟩ | exact iAnd_in | exact iOr_in | exact iShr_in | exact iShl_in | exact iXor_in | exact hxs _) dX12_bestFor_126 (by decide) (fun hx => absurd hx (by decide)) (fun hx => ?_)
                  have hrb := hrb (by omega)
                  refine wp_aload_n rfl rfl dX12_bestFor_129 ?_
                  refine wp_iload rfl dX12_bestFor_130 ?_
                  refine wp_cV1 (ci := 12) okX12_reads rfl rfl wX12_61 dX12_bestFor_132 rfl (Nat.le_of_ble_eq_true rfl) (Nat.le_of_ble_eq_true rfl) (by first | omega | (simp (disch := omega) only [up2_ne, up2_eq, e, st_200_m1 hS, st_200_m1 H.1, st_200_7 hS, st_200_7 H.1, st_200_9 hS, st_200_9 H.1, st_200_14 hS, st_200_14 H.1, st_207_m2 hS, st_207_m2 H.1, st_207_m1 hS, st_207_m1 H.1, st_209_m2 hS, st_209_m2 H.1, st_209_m1 hS, st_209_m1 H.1, st_214_m2 hS, st_214_m2 H.1, st_214_m1 hS, st_214_m1 H.1]; first | done | omega)) (by first | assumption | (simp (disch := omega) only [up2_ne, up2_eq, e, st_200_m1 hS, st_200_m1 H.1, st_200_7 hS, st_200_7 H.1, st_200_9 hS, st_200_9 H.1, st_200_14 hS, st_200_14 H.1, st_207_m2 hS, st_207_m2 H.1, st_207_m1 hS, st_207_m1 H.1, st_209_m2 hS, st_209_m2 H.1, st_209_m1 hS, st_209_m1 H.1, st_214_m2 hS, st_214_m2 H.1, st_214_m1 hS, st_214_m1 H.1]; first | done | rfl | omega)) (rreads H e hS) (Nat.zero_le _) ?_
                  try simp (disch := omega) only [up2_ne, up2_eq, e, st_200_m1 hS, st_200_m1 H.1, st_200_7 hS, st_200_7 H.1, st_200_9 hS, st_200_9 H.1, st_200_14 hS, st_200_14 H.1, st_207_m2 hS, st_207_m2 H.1, st_207_m1 hS, st_207_m1 H.1, st_209_m2 hS, st_209_m2 H.1, st_209_m1 hS, st_209_m1 H.1, st_214_m2 hS, st_214_m2 H.1, st_214_m1 hS, st_214_m1 H.1]
                  refine wp_aload_n rfl rfl dX12_bestFor_135 ?_
                  refine wp_iload_n rfl rfl dX12_bestFor_136 ?_
                  refine wp_cV1 (ci := 12) okX12_reads rfl rfl wX12_61 dX12_bestFor_137 rfl (Nat.le_of_ble_eq_true rfl) (Nat.le_of_ble_eq_true rfl) (by first | omega | (simp (disch := omega) only [up2_ne, up2_eq, e, st_200_m1 hS, st_200_m1 H.1, st_200_7 hS, st_200_7 H.1, st_200_9 hS, st_200_9 H.1, st_200_14 hS, st_200_14 H.1, st_207_m2 hS, st_207_m2 H.1, st_207_m1 hS, st_207_m1 H.1, st_209_m2 hS, st_209_m2 H.1, st_209_m1 hS, st_209_m1 H.1, st_214_m2 hS, st_214_m2 H.1, st_214_m1 hS, st_214_m1 H.1]; first | done | omega)) (by first | assumption | (simp (disch := omega) only [up2_ne, up2_eq, e, st_200_m1 hS, st_200_m1 H.1, st_200_7 hS, st_200_7 H.1, st_200_9 hS, st_200_9 H.1, st_200_14 hS, st_200_14 H.1, st_207_m2 hS, st_207_m2 H.1, st_207_m1 hS, st_207_m1 H.1, st_209_m2 hS, st_209_m2 H.1, st_209_m1 hS, st_209_m1 H.1, st_214_m2 hS, st_214_m2 H.1, st_214_m1 hS, st_214_m1 H.1]; first | done | rfl | omega)) (rreads H e hS) (Nat.zero_le _) ?_
                  try simp (disch := omega) only [up2_ne, up2_eq, e, st_200_m1 hS, st_200_m1 H.1, st_200_7 hS, st_200_7 H.1, st_200_9 hS, st_200_9 H.1, st_200_14 hS, st_200_14 H.1, st_207_m2 hS, st_207_m2 H.1, st_207_m1 hS, st_207_m1 H.1, st_209_m2 hS, st_209_m2 H.1, st_209_m1 hS, st_209_m1 H.1, st_214_m2 hS, st_214_m2 H.1, st_214_m1 hS, st_214_m1 H.1]
                  refine wp_icmp_ge (tgt := 146) (by first | assumption | exact bI_in _ | exact ⟨by omega, by omega⟩ | exact iAnd_in | exact iOr_in | exact iShr_in | exact iShl_in | exact iXor_in | exact hxs _) (by first | assumption | exact bI_in _ | exact ⟨by omega, by omega⟩ | exact iAnd_in | exact iOr_in | exact iShr_in | exact iShl_in | exact iXor_in | exact hxs _) dX12_bestFor_140 (by decide) (fun c8 => ?_) (fun c8 => ?_)
                  · refine wp_iinc rfl rfl dX12_bestFor_146 rfl rfl ?_
                    try simp only [List.set_cons_zero, List.set_cons_succ]
                    refine wp_goto (tgt := 5) dX12_bestFor_149 (by decide) ?_
                    refine wp_dropAt 5 rfl (wp_dropAt 6 rfl ?_)
                    have z := ih (by omega)
                    first
                      | (rw [bst_t ⟨by assumption, by omega, by omega⟩ (by first | exact Or.inl (by omega) | exact Or.inr (Or.inl ⟨by omega, by omega⟩) | exact Or.inr (Or.inr ⟨by constructor <;> intro y <;> omega, by omega⟩))] at z
                         exact z)
                      | (rw [bst_f (by rintro ⟨⟨y1, y2, y3⟩, y4 | ⟨y5, y6⟩ | ⟨y5, y6⟩⟩ <;> first | contradiction | omega)] at z
                         exact z)
                  · refine wp_iload rfl dX12_bestFor_143 ?_
                    refine wp_istore_n rfl dX12_bestFor_145 rfl (Nat.le_of_ble_eq_true rfl) rfl ?_
                    try simp only [List.set_cons_zero, List.set_cons_succ]
                    refine wp_iinc rfl rfl dX12_bestFor_146 rfl rfl ?_
                    try simp only [List.set_cons_zero, List.set_cons_succ]
                    refine wp_goto (tgt := 5) dX12_bestFor_149 (by decide) ?_
                    refine wp_dropAt 5 rfl (wp_dropAt 6 rfl ?_)
                    have z := ih (by omega)
                    first
                      | (rw [bst_t ⟨by assumption, by omega, by omega⟩ (by first | exact Or.inl (by omega) | exact Or.inr (Or.inl ⟨by omega, by omega⟩) | exact Or.inr (Or.inr ⟨by constructor <;> intro y <;> omega, by omega⟩))] at z
                         exact z)
                      | (rw [bst_f (by rintro ⟨⟨y1, y2, y3⟩, y4 | ⟨y5, y6⟩ | ⟨y5, y6⟩⟩ <;> first | contradiction | omega)] at z
                         exact z)
              · have hk2 := hk2 (by omega)
                refine wp_aload_n rfl rfl dX12_bestFor_81 ?_
                refine wp_getfield1 (z := 13) (kI := 7) fX12_46 dX12_bestFor_82 (by first | omega | (simp (disch := omega) only [up2_ne, up2_eq, e, st_200_m1 hS, st_200_m1 H.1, st_200_7 hS, st_200_7 H.1, st_200_9 hS, st_200_9 H.1, st_200_14 hS, st_200_14 H.1, st_207_m2 hS, st_207_m2 H.1, st_207_m1 hS, st_207_m1 H.1, st_209_m2 hS, st_209_m2 H.1, st_209_m1 hS, st_209_m1 H.1, st_214_m2 hS, st_214_m2 H.1, st_214_m1 hS, st_214_m1 H.1]; first | done | omega)) (by first | assumption | (simp (disch := omega) only [up2_ne, up2_eq, e, st_200_m1 hS, st_200_m1 H.1, st_200_7 hS, st_200_7 H.1, st_200_9 hS, st_200_9 H.1, st_200_14 hS, st_200_14 H.1, st_207_m2 hS, st_207_m2 H.1, st_207_m1 hS, st_207_m1 H.1, st_209_m2 hS, st_209_m2 H.1, st_209_m1 hS, st_209_m1 H.1, st_214_m2 hS, st_214_m2 H.1, st_214_m1 hS, st_214_m1 H.1]; first | done | rfl | omega)) rfl rfl ?_
                try simp (disch := omega) only [up2_ne, up2_eq, e, st_200_m1 hS, st_200_m1 H.1, st_200_7 hS, st_200_7 H.1, st_200_9 hS, st_200_9 H.1, st_200_14 hS, st_200_14 H.1, st_207_m2 hS, st_207_m2 H.1, st_207_m1 hS, st_207_m1 H.1, st_209_m2 hS, st_209_m2 H.1, st_209_m1 hS, st_209_m1 H.1, st_214_m2 hS, st_214_m2 H.1, st_214_m1 hS, st_214_m1 H.1]
                refine wp_iload_n rfl rfl dX12_bestFor_85 ?_
                refine wp_iaload1 dX12_bestFor_86 (by first | omega | (simp (disch := omega) only [up2_ne, up2_eq, e, st_200_m1 hS, st_200_m1 H.1, st_200_7 hS, st_200_7 H.1, st_200_9 hS, st_200_9 H.1, st_200_14 hS, st_200_14 H.1, st_207_m2 hS, st_207_m2 H.1, st_207_m1 hS, st_207_m1 H.1, st_209_m2 hS, st_209_m2 H.1, st_209_m1 hS, st_209_m1 H.1, st_214_m2 hS, st_214_m2 H.1, st_214_m1 hS, st_214_m1 H.1]; first | done | omega)) (by first | assumption | (simp (disch := omega) only [up2_ne, up2_eq, e, st_200_m1 hS, st_200_m1 H.1, st_200_7 hS, st_200_7 H.1, st_200_9 hS, st_200_9 H.1, st_200_14 hS, st_200_14 H.1, st_207_m2 hS, st_207_m2 H.1, st_207_m1 hS, st_207_m1 H.1, st_209_m2 hS, st_209_m2 H.1, st_209_m1 hS, st_209_m1 H.1, st_214_m2 hS, st_214_m2 H.1, st_214_m1 hS, st_214_m1 H.1]; first | done | rfl | omega)) (by first | omega | (simp (disch := omega) only [up2_ne, up2_eq, e, st_200_m1 hS, st_200_m1 H.1, st_200_7 hS, st_200_7 H.1, st_200_9 hS, st_200_9 H.1, st_200_14 hS, st_200_14 H.1, st_207_m2 hS, st_207_m2 H.1, st_207_m1 hS, st_207_m1 H.1, st_209_m2 hS, st_209_m2 H.1, st_209_m1 hS, st_209_m1 H.1, st_214_m2 hS, st_214_m2 H.1, st_214_m1 hS, st_214_m1 H.1]; first | done | omega)) (by first | omega | (simp (disch := omega) only [up2_ne, up2_eq, e, st_200_m1 hS, st_200_m1 H.1, st_200_7 hS, st_200_7 H.1, st_200_9 hS, st_200_9 H.1, st_200_14 hS, st_200_14 H.1, st_207_m2 hS, st_207_m2 H.1, st_207_m1 hS, st_207_m1 H.1, st_209_m2 hS, st_209_m2 H.1, st_209_m1 hS, st_209_m1 H.1, st_214_m2 hS, st_214_m2 H.1, st_214_m1 hS, st_214_m1 H.1]; first | done | omega)) ?_
                try simp (disch := omega) only [up2_ne, up2_eq, e, st_200_m1 hS, st_200_m1 H.1, st_200_7 hS, st_200_7 H.1, st_200_9 hS, st_200_9 H.1, st_200_14 hS, st_200_14 H.1, st_207_m2 hS, st_207_m2 H.1, st_207_m1 hS, st_207_m1 H.1, st_209_m2 hS, st_209_m2 H.1, st_209_m1 hS, st_209_m1 H.1, st_214_m2 hS, st_214_m2 H.1, st_214_m1 hS, st_214_m1 H.1]
                refine wp_aload_n rfl rfl dX12_bestFor_87 ?_
                refine wp_getfield1 (z := 13) (kI := 14) fX12_91 dX12_bestFor_88 (by first | omega | (simp (disch := omega) only [up2_ne, up2_eq, e, st_200_m1 hS, st_200_m1 H.1, st_200_7 hS, st_200_7 H.1, st_200_9 hS, st_200_9 H.1, st_200_14 hS, st_200_14 H.1, st_207_m2 hS, st_207_m2 H.1, st_207_m1 hS, st_207_m1 H.1, st_209_m2 hS, st_209_m2 H.1, st_209_m1 hS, st_209_m1 H.1, st_214_m2 hS, st_214_m2 H.1, st_214_m1 hS, st_214_m1 H.1]; first | done | omega)) (by first | assumption | (simp (disch := omega) only [up2_ne, up2_eq, e, st_200_m1 hS, st_200_m1 H.1, st_200_7 hS, st_200_7 H.1, st_200_9 hS, st_200_9 H.1, st_200_14 hS, st_200_14 H.1, st_207_m2 hS, st_207_m2 H.1, st_207_m1 hS, st_207_m1 H.1, st_209_m2 hS, st_209_m2 H.1, st_209_m1 hS, st_209_m1 H.1, st_214_m2 hS, st_214_m2 H.1, st_214_m1 hS, st_214_m1 H.1]; first | done | rfl | omega)) rfl rfl ?_
                try simp (disch := omega) only [up2_ne, up2_eq, e, st_200_m1 hS, st_200_m1 H.1, st_200_7 hS, st_200_7 H.1, st_200_9 hS, st_200_9 H.1, st_200_14 hS, st_200_14 H.1, st_207_m2 hS, st_207_m2 H.1, st_207_m1 hS, st_207_m1 H.1, st_209_m2 hS, st_209_m2 H.1, st_209_m1 hS, st_209_m1 H.1, st_214_m2 hS, st_214_m2 H.1, st_214_m1 hS, st_214_m1 H.1]
                refine wp_iload_n rfl rfl dX12_bestFor_91 ?_
                refine wp_iaload1 dX12_bestFor_92 (by first | omega | (simp (disch := omega) only [up2_ne, up2_eq, e, st_200_m1 hS, st_200_m1 H.1, st_200_7 hS, st_200_7 H.1, st_200_9 hS, st_200_9 H.1, st_200_14 hS, st_200_14 H.1, st_207_m2 hS, st_207_m2 H.1, st_207_m1 hS, st_207_m1 H.1, st_209_m2 hS, st_209_m2 H.1, st_209_m1 hS, st_209_m1 H.1, st_214_m2 hS, st_214_m2 H.1, st_214_m1 hS, st_214_m1 H.1]; first | done | omega)) (by first | assumption | (simp (disch := omega) only [up2_ne, up2_eq, e, st_200_m1 hS, st_200_m1 H.1, st_200_7 hS, st_200_7 H.1, st_200_9 hS, st_200_9 H.1, st_200_14 hS, st_200_14 H.1, st_207_m2 hS, st_207_m2 H.1, st_207_m1 hS, st_207_m1 H.1, st_209_m2 hS, st_209_m2 H.1, st_209_m1 hS, st_209_m1 H.1, st_214_m2 hS, st_214_m2 H.1, st_214_m1 hS, st_214_m1 H.1]; first | done | rfl | omega)) (by first | omega | (simp (disch := omega) only [up2_ne, up2_eq, e, st_200_m1 hS, st_200_m1 H.1, st_200_7 hS, st_200_7 H.1, st_200_9 hS, st_200_9 H.1, st_200_14 hS, st_200_14 H.1, st_207_m2 hS, st_207_m2 H.1, st_207_m1 hS, st_207_m1 H.1, st_209_m2 hS, st_209_m2 H.1, st_209_m1 hS, st_209_m1 H.1, st_214_m2 hS, st_214_m2 H.1, st_214_m1 hS, st_214_m1 H.1]; first | done | omega)) (by first | omega | (simp (disch := omega) only [up2_ne, up2_eq, e, st_200_m1 hS, st_200_m1 H.1, st_200_7 hS, st_200_7 H.1, st_200_9 hS, st_200_9 H.1, st_200_14 hS, st_200_14 H.1, st_207_m2 hS, st_207_m2 H.1, st_207_m1 hS, st_207_m1 H.1, st_209_m2 hS, st_209_m2 H.1, st_209_m1 hS, st_209_m1 H.1, st_214_m2 hS, st_214_m2 H.1, st_214_m1 hS, st_214_m1 H.1]; first | done | omega)) ?_
                try simp (disch := omega) only [up2_ne, up2_eq, e, st_200_m1 hS, st_200_m1 H.1, st_200_7 hS, st_200_7 H.1, st_200_9 hS, st_200_9 H.1, st_200_14 hS, st_200_14 H.1, st_207_m2 hS, st_207_m2 H.1, st_207_m1 hS, st_207_m1 H.1, st_209_m2 hS, st_209_m2 H.1, st_209_m1 hS, st_209_m1 H.1, st_214_m2 hS, st_214_m2 H.1, st_214_m1 hS, st_214_m1 H.1]
                refine wp_ishr dX12_bestFor_93 ?_
                refine wp_iconst dX12_bestFor_94 ?_
                refine wp_iand dX12_bestFor_95 ?_
                refine wp_iconst dX12_bestFor_96 ?_
                try simp only [bt_fold]
                refine wp_icmp_ne (tgt := 104) (by first | assumption | exact bI_in _ | exact ⟨by omega, by omega⟩ | exact iAnd_in | exact iOr_in | exact iShr_in | exact iShl_in | exact iXor_in | exact hxs _) (by first | assumption | exact bI_in _ | exact ⟨by omega, by omega⟩ | exact iAnd_in | exact iOr_in | exact iShr_in | exact iShl_in | exact iXor_in | exact hxs _) dX12_bestFor_97 (by decide) (fun c9 => ?_) (fun c9 => ?_)
                · refine wp_iconst dX12_bestFor_104 ?_
                  refine wp_istore dX12_bestFor_105 rfl (Nat.le_of_ble_eq_true rfl) rfl ?_
                  try simp only [List.set_cons_zero, List.set_cons_succ]
                  refine wp_iload_n rfl rfl dX12_bestFor_107 ?_
                  refine wp_iconst dX12_bestFor_108 ?_
                  refine wp_icmp_eq (tgt := 143) (by first | assumption | exact bI_in _ | exact ⟨by omega, by omega⟩ | exact iAnd_in | exact iOr_in | exact iShr_in | exact iShl_in | exact iXor_in | exact hxs _) (by first | assumption | exact bI_in _ | exact ⟨by omega, by omega⟩ | exact iAnd_in | exact iOr_in | exact iShr_in | exact iShl_in | exact iXor_in | exact hxs _) dX12_bestFor_109 (by decide) (fun c10 => ?_) (fun c10 => ?_)
                  · refine wp_iload rfl dX12_bestFor_143 ?_
                    refine wp_istore_n rfl dX12_bestFor_145 rfl (Nat.le_of_ble_eq_true rfl) rfl ?_
                    try simp only [List.set_cons_zero, List.set_cons_succ]
                    refine wp_iinc rfl rfl dX12_bestFor_146 rfl rfl ?_
                    try simp only [List.set_cons_zero, List.set_cons_succ]
                    refine wp_goto (tgt := 5) dX12_bestFor_149 (by decide) ?_
                    refine wp_dropAt 5 rfl (wp_dropAt 6 rfl ?_)
                    have z := ih (by omega)
                    first
                      | (rw [bst_t ⟨by assumption, by omega, by omega⟩ (by first | exact Or.inl (by omega) | exact Or.inr (Or.inl ⟨by omega, by omega⟩) | exact Or.inr (Or.inr ⟨by constructor <;> intro y <;> omega, by omega⟩))] at z
                         exact z)
                      | (rw [bst_f (by rintro ⟨⟨y1, y2, y3⟩, y4 | ⟨y5, y6⟩ | ⟨y5, y6⟩⟩ <;> first | contradiction | omega)] at z
                         exact z)
                  · refine wp_iload rfl dX12_bestFor_112 ?_
                    refine wp_if_eq (tgt := 122) (by first | assumption | exact bI_in _ | exact ⟨by omega, by omega⟩ | exact iAnd_in | exact iOr_in | exact iShr_in | exact iShl_in | exact iXor_in | exact hxs _) dX12_bestFor_114 (by decide) (fun hx => ?_) (fun hx => absurd hx (by decide))
                    refine wp_iload rfl dX12_bestFor_122 ?_
                    refine wp_iload rfl dX12_bestFor_124 ?_
                    refine wp_icmp_ne (tgt := 146) (by first | assumption | exact bI_in _ | exact ⟨by omega, by omega⟩ | exact iAnd_in | exact iOr_in | exact iShr_in | exact iShl_in | exact iXor_in | exact hxs _) (by first | assumption | exact bI_in _ | exact ⟨by omega, by omega⟩ | exact iAnd_in | exact iOr_in | exact iShr_in | exact iShl_in | exact iXor_in | exact hxs _) dX12_bestFor_126 (by decide) (fun hx => absurd hx (by decide)) (fun hx => ?_)
                    have hrb := hrb (by omega)
                    refine wp_aload_n rfl rfl dX12_bestFor_129 ?_
                    refine wp_iload rfl dX12_bestFor_130 ?_
                    refine wp_cV1 (ci := 12) okX12_reads rfl rfl wX12_61 dX12_bestFor_132 rfl (Nat.le_of_ble_eq_true rfl) (Nat.le_of_ble_eq_true rfl) (by first | omega | (simp (disch := omega) only [up2_ne, up2_eq, e, st_200_m1 hS, st_200_m1 H.1, st_200_7 hS, st_200_7 H.1, st_200_9 hS, st_200_9 H.1, st_200_14 hS, st_200_14 H.1, st_207_m2 hS, st_207_m2 H.1, st_207_m1 hS, st_207_m1 H.1, st_209_m2 hS, st_209_m2 H.1, st_209_m1 hS, st_209_m1 H.1, st_214_m2 hS, st_214_m2 H.1, st_214_m1 hS, st_214_m1 H.1]; first | done | omega)) (by first | assumption | (simp (disch := omega) only [up2_ne, up2_eq, e, st_200_m1 hS, st_200_m1 H.1, st_200_7 hS, st_200_7 H.1, st_200_9 hS, st_200_9 H.1, st_200_14 hS, st_200_14 H.1, st_207_m2 hS, st_207_m2 H.1, st_207_m1 hS, st_207_m1 H.1, st_209_m2 hS, st_209_m2 H.1, st_209_m1 hS, st_209_m1 H.1, st_214_m2 hS, st_214_m2 H.1, st_214_m1 hS, st_214_m1 H.1]; first | done | rfl | omega)) (rreads H e hS) (Nat.zero_le _) ?_
                    try simp (disch := omega) only [up2_ne, up2_eq, e, st_200_m1 hS, st_200_m1 H.1, st_200_7 hS, st_200_7 H.1, st_200_9 hS, st_200_9 H.1, st_200_14 hS, st_200_14 H.1, st_207_m2 hS, st_207_m2 H.1, st_207_m1 hS, st_207_m1 H.1, st_209_m2 hS, st_209_m2 H.1, st_209_m1 hS, st_209_m1 H.1, st_214_m2 hS, st_214_m2 H.1, st_214_m1 hS, st_214_m1 H.1]
                    refine wp_aload_n rfl rfl dX12_bestFor_135 ?_
                    refine wp_iload_n rfl rfl dX12_bestFor_136 ?_
                    refine wp_cV1 (ci := 12) okX12_reads rfl rfl wX12_61 dX12_bestFor_137 rfl (Nat.le_of_ble_eq_true rfl) (Nat.le_of_ble_eq_true rfl) (by first | omega | (simp (disch := omega) only [up2_ne, up2_eq, e, st_200_m1 hS, st_200_m1 H.1, st_200_7 hS, st_200_7 H.1, st_200_9 hS, st_200_9 H.1, st_200_14 hS, st_200_14 H.1, st_207_m2 hS, st_207_m2 H.1, st_207_m1 hS, st_207_m1 H.1, st_209_m2 hS, st_209_m2 H.1, st_209_m1 hS, st_209_m1 H.1, st_214_m2 hS, st_214_m2 H.1, st_214_m1 hS, st_214_m1 H.1]; first | done | omega)) (by first | assumption | (simp (disch := omega) only [up2_ne, up2_eq, e, st_200_m1 hS, st_200_m1 H.1, st_200_7 hS, st_200_7 H.1, st_200_9 hS, st_200_9 H.1, st_200_14 hS, st_200_14 H.1, st_207_m2 hS, st_207_m2 H.1, st_207_m1 hS, st_207_m1 H.1, st_209_m2 hS, st_209_m2 H.1, st_209_m1 hS, st_209_m1 H.1, st_214_m2 hS, st_214_m2 H.1, st_214_m1 hS, st_214_m1 H.1]; first | done | rfl | omega)) (rreads H e hS) (Nat.zero_le _) ?_
                    try simp (disch := omega) only [up2_ne, up2_eq, e, st_200_m1 hS, st_200_m1 H.1, st_200_7 hS, st_200_7 H.1, st_200_9 hS, st_200_9 H.1, st_200_14 hS, st_200_14 H.1, st_207_m2 hS, st_207_m2 H.1, st_207_m1 hS, st_207_m1 H.1, st_209_m2 hS, st_209_m2 H.1, st_209_m1 hS, st_209_m1 H.1, st_214_m2 hS, st_214_m2 H.1, st_214_m1 hS, st_214_m1 H.1]
                    refine wp_icmp_ge (tgt := 146) (by first | assumption | exact bI_in _ | exact ⟨by omega, by omega⟩ | exact iAnd_in | exact iOr_in | exact iShr_in | exact iShl_in | exact iXor_in | exact hxs _) (by first | assumption | exact bI_in _ | exact ⟨by omega, by omega⟩ | exact iAnd_in | exact iOr_in | exact iShr_in | exact iShl_in | exact iXor_in | exact hxs _) dX12_bestFor_140 (by decide) (fun c11 => ?_) (fun c11 => ?_)
                    · refine wp_iinc rfl rfl dX12_bestFor_146 rfl rfl ?_
                      try simp only [List.set_cons_zero, List.set_cons_succ]
                      refine wp_goto (tgt := 5) dX12_bestFor_149 (by decide) ?_
                      refine wp_dropAt 5 rfl (wp_dropAt 6 rfl ?_)
                      have z := ih (by omega)
                      first
                        | (rw [bst_t ⟨by assumption, by omega, by omega⟩ (by first | exact Or.inl (by omega) | exact Or.inr (Or.inl ⟨by omega, by omega⟩) | exact Or.inr (Or.inr ⟨by constructor <;> intro y <;> omega, by omega⟩))] at z
                           exact z)
                        | (rw [bst_f (by rintro ⟨⟨y1, y2, y3⟩, y4 | ⟨y5, y6⟩ | ⟨y5, y6⟩⟩ <;> first | contradiction | omega)] at z
                           exact z)
                    · refine wp_iload rfl dX12_bestFor_143 ?_
                      refine wp_istore_n rfl dX12_bestFor_145 rfl (Nat.le_of_ble_eq_true rfl) rfl ?_
                      try simp only [List.set_cons_zero, List.set_cons_succ]
                      refine wp_iinc rfl rfl dX12_bestFor_146 rfl rfl ?_
                      try simp only [List.set_cons_zero, List.set_cons_succ]
                      refine wp_goto (tgt := 5) dX12_bestFor_149 (by decide) ?_
                      refine wp_dropAt 5 rfl (wp_dropAt 6 rfl ?_)
                      have z := ih (by omega)
                      first
                        | (rw [bst_t ⟨by assumption, by omega, by omega⟩ (by first | exact Or.inl (by omega) | exact Or.inr (Or.inl ⟨by omega, by omega⟩) | exact Or.inr (Or.inr ⟨by constructor <;> intro y <;> omega, by omega⟩))] at z
                           exact z)
                        | (rw [bst_f (by rintro ⟨⟨y1, y2, y3⟩, y4 | ⟨y5, y6⟩ | ⟨y5, y6⟩⟩ <;> first | contradiction | omega)] at z
                           exact z)
                · refine wp_iconst dX12_bestFor_100 ?_
                  refine wp_goto (tgt := 105) dX12_bestFor_101 (by decide) ?_
                  refine wp_istore dX12_bestFor_105 rfl (Nat.le_of_ble_eq_true rfl) rfl ?_
                  try simp only [List.set_cons_zero, List.set_cons_succ]
                  refine wp_iload_n rfl rfl dX12_bestFor_107 ?_
                  refine wp_iconst dX12_bestFor_108 ?_
                  refine wp_icmp_eq (tgt := 143) (by first | assumption | exact bI_in _ | exact ⟨by omega, by omega⟩ | exact iAnd_in | exact iOr_in | exact iShr_in | exact iShl_in | exact iXor_in | exact hxs _) (by first | assumption | exact bI_in _ | exact ⟨by omega, by omega⟩ | exact iAnd_in | exact iOr_in | exact iShr_in | exact iShl_in | exact iXor_in | exact hxs _) dX12_bestFor_109 (by decide) (fun c12 => ?_) (fun c12 => ?_)
                  · refine wp_iload rfl dX12_bestFor_143 ?_
                    refine wp_istore_n rfl dX12_bestFor_145 rfl (Nat.le_of_ble_eq_true rfl) rfl ?_
                    try simp only [List.set_cons_zero, List.set_cons_succ]
                    refine wp_iinc rfl rfl dX12_bestFor_146 rfl rfl ?_
                    try simp only [List.set_cons_zero, List.set_cons_succ]
                    refine wp_goto (tgt := 5) dX12_bestFor_149 (by decide) ?_
                    refine wp_dropAt 5 rfl (wp_dropAt 6 rfl ?_)
                    have z := ih (by omega)
                    first
                      | (rw [bst_t ⟨by assumption, by omega, by omega⟩ (by first | exact Or.inl (by omega) | exact Or.inr (Or.inl ⟨by omega, by omega⟩) | exact Or.inr (Or.inr ⟨by constructor <;> intro y <;> omega, by omega⟩))] at z
                         exact z)
                      | (rw [bst_f (by rintro ⟨⟨y1, y2, y3⟩, y4 | ⟨y5, y6⟩ | ⟨y5, y6⟩⟩ <;> first | contradiction | omega)] at z
                         exact z)
                  · refine wp_iload rfl dX12_bestFor_112 ?_
                    refine wp_if_eq (tgt := 122) (by first | assumption | exact bI_in _ | exact ⟨by omega, by omega⟩ | exact iAnd_in | exact iOr_in | exact iShr_in | exact iShl_in | exact iXor_in | exact hxs _) dX12_bestFor_114 (by decide) (fun hx => ?_) (fun hx => absurd hx (by decide))
                    refine wp_iload rfl dX12_bestFor_122 ?_
                    refine wp_iload rfl dX12_bestFor_124 ?_
                    refine wp_icmp_ne (tgt := 146) (by first | assumption | exact bI_in _ | exact ⟨by omega, by omega⟩ | exact iAnd_in | exact iOr_in | exact iShr_in | exact iShl_in | exact iXor_in | exact hxs _) (by first | assumption | exact bI_in _ | exact ⟨by omega, by omega⟩ | exact iAnd_in | exact iOr_in | exact iShr_in | exact iShl_in | exact iXor_in | exact hxs _) dX12_bestFor_126 (by decide) (fun hx => ?_) (fun hx => absurd hx (by decide))
                    refine wp_iinc rfl rfl dX12_bestFor_146 rfl rfl ?_
                    try simp only [List.set_cons_zero, List.set_cons_succ]
                    refine wp_goto (tgt := 5) dX12_bestFor_149 (by decide) ?_
                    refine wp_dropAt 5 rfl (wp_dropAt 6 rfl ?_)
                    have z := ih (by omega)
                    first
                      | (rw [bst_t ⟨by assumption, by omega, by omega⟩ (by first | exact Or.inl (by omega) | exact Or.inr (Or.inl ⟨by omega, by omega⟩) | exact Or.inr (Or.inr ⟨by constructor <;> intro y <;> omega, by omega⟩))] at z
                         exact z)
                      | (rw [bst_f (by rintro ⟨⟨y1, y2, y3⟩, y4 | ⟨y5, y6⟩ | ⟨y5, y6⟩⟩ <;> first | contradiction | omega)] at z
                         exact z)
            · refine wp_iconst dX12_bestFor_69 ?_
              refine wp_goto (tgt := 74) dX12_bestFor_70 (by decide) ?_
              refine wp_istore dX12_bestFor_74 rfl (Nat.le_of_ble_eq_true rfl) rfl ?_
              try simp only [List.set_cons_zero, List.set_cons_succ]
              refine wp_iload_n rfl rfl dX12_bestFor_76 ?_
              refine wp_iconst dX12_bestFor_77 ?_
              refine wp_icmp_eq (tgt := 104) (by first | assumption | exact bI_in _ | exact ⟨by omega, by omega⟩ | exact iAnd_in | exact iOr_in | exact iShr_in | exact iShl_in | exact iXor_in | exact hxs _) (by first | assumption | exact bI_in _ | exact ⟨by omega, by omega⟩ | exact iAnd_in | exact iOr_in | exact iShr_in | exact iShl_in | exact iXor_in | exact hxs _) dX12_bestFor_78 (by decide) (fun c13 => ?_) (fun c13 => ?_)
              · refine wp_iconst dX12_bestFor_104 ?_
                refine wp_istore dX12_bestFor_105 rfl (Nat.le_of_ble_eq_true rfl) rfl ?_
                try simp only [List.set_cons_zero, List.set_cons_succ]
                refine wp_iload_n rfl rfl dX12_bestFor_107 ?_
                refine wp_iconst dX12_bestFor_108 ?_
                refine wp_icmp_eq (tgt := 143) (by first | assumption | exact bI_in _ | exact ⟨by omega, by omega⟩ | exact iAnd_in | exact iOr_in | exact iShr_in | exact iShl_in | exact iXor_in | exact hxs _) (by first | assumption | exact bI_in _ | exact ⟨by omega, by omega⟩ | exact iAnd_in | exact iOr_in | exact iShr_in | exact iShl_in | exact iXor_in | exact hxs _) dX12_bestFor_109 (by decide) (fun c14 => ?_) (fun c14 => ?_)
                · refine wp_iload rfl dX12_bestFor_143 ?_
                  refine wp_istore_n rfl dX12_bestFor_145 rfl (Nat.le_of_ble_eq_true rfl) rfl ?_
                  try simp only [List.set_cons_zero, List.set_cons_succ]
                  refine wp_iinc rfl rfl dX12_bestFor_146 rfl rfl ?_
                  try simp only [List.set_cons_zero, List.set_cons_succ]
                  refine wp_goto (tgt := 5) dX12_bestFor_149 (by decide) ?_
                  refine wp_dropAt 5 rfl (wp_dropAt 6 rfl ?_)
                  have z := ih (by omega)
                  first
                    | (rw [bst_t ⟨by assumption, by omega, by omega⟩ (by first | exact Or.inl (by omega) | exact Or.inr (Or.inl ⟨by omega, by omega⟩) | exact Or.inr (Or.inr ⟨by constructor <;> intro y <;> omega, by omega⟩))] at z
                       exact z)
                    | (rw [bst_f (by rintro ⟨⟨y1, y2, y3⟩, y4 | ⟨y5, y6⟩ | ⟨y5, y6⟩⟩ <;> first | contradiction | omega)] at z
                       exact z)
                · refine wp_iload rfl dX12_bestFor_112 ?_
                  refine wp_if_eq (tgt := 122) (by first | assumption | exact bI_in _ | exact ⟨by omega, by omega⟩ | exact iAnd_in | exact iOr_in | exact iShr_in | exact iShl_in | exact iXor_in | exact hxs _) dX12_bestFor_114 (by decide) (fun hx => absurd hx (by decide)) (fun hx => ?_)
                  refine wp_iload rfl dX12_bestFor_117 ?_
                  refine wp_if_eq (tgt := 143) (by first | assumption | exact bI_in _ | exact ⟨by omega, by omega⟩ | exact iAnd_in | exact iOr_in | exact iShr_in | exact iShl_in | exact iXor_in | exact hxs _) dX12_bestFor_119 (by decide) (fun hx => ?_) (fun hx => absurd hx (by decide))
                  refine wp_iload rfl dX12_bestFor_143 ?_
                  refine wp_istore_n rfl dX12_bestFor_145 rfl (Nat.le_of_ble_eq_true rfl) rfl ?_
                  try simp only [List.set_cons_zero, List.set_cons_succ]
                  refine wp_iinc rfl rfl dX12_bestFor_146 rfl rfl ?_
                  try simp only [List.set_cons_zero, List.set_cons_succ]
                  refine wp_goto (tgt := 5) dX12_bestFor_149 (by decide) ?_
                  refine wp_dropAt 5 rfl (wp_dropAt 6 rfl ?_)
                  have z := ih (by omega)
                  first
                    | (rw [bst_t ⟨by assumption, by omega, by omega⟩ (by first | exact Or.inl (by omega) | exact Or.inr (Or.inl ⟨by omega, by omega⟩) | exact Or.inr (Or.inr ⟨by constructor <;> intro y <;> omega, by omega⟩))] at z
                       exact z)
                    | (rw [bst_f (by rintro ⟨⟨y1, y2, y3⟩, y4 | ⟨y5, y6⟩ | ⟨y5, y6⟩⟩ <;> first | contradiction | omega)] at z
                       exact z)
              · have hk2 := hk2 (by omega)
                refine wp_aload_n rfl rfl dX12_bestFor_81 ?_
                refine wp_getfield1 (z := 13) (kI := 7) fX12_46 dX12_bestFor_82 (by first | omega | (simp (disch := omega) only [up2_ne, up2_eq, e, st_200_m1 hS, st_200_m1 H.1, st_200_7 hS, st_200_7 H.1, st_200_9 hS, st_200_9 H.1, st_200_14 hS, st_200_14 H.1, st_207_m2 hS, st_207_m2 H.1, st_207_m1 hS, st_207_m1 H.1, st_209_m2 hS, st_209_m2 H.1, st_209_m1 hS, st_209_m1 H.1, st_214_m2 hS, st_214_m2 H.1, st_214_m1 hS, st_214_m1 H.1]; first | done | omega)) (by first | assumption | (simp (disch := omega) only [up2_ne, up2_eq, e, st_200_m1 hS, st_200_m1 H.1, st_200_7 hS, st_200_7 H.1, st_200_9 hS, st_200_9 H.1, st_200_14 hS, st_200_14 H.1, st_207_m2 hS, st_207_m2 H.1, st_207_m1 hS, st_207_m1 H.1, st_209_m2 hS, st_209_m2 H.1, st_209_m1 hS, st_209_m1 H.1, st_214_m2 hS, st_214_m2 H.1, st_214_m1 hS, st_214_m1 H.1]; first | done | rfl | omega)) rfl rfl ?_
                try simp (disch := omega) only [up2_ne, up2_eq, e, st_200_m1 hS, st_200_m1 H.1, st_200_7 hS, st_200_7 H.1, st_200_9 hS, st_200_9 H.1, st_200_14 hS, st_200_14 H.1, st_207_m2 hS, st_207_m2 H.1, st_207_m1 hS, st_207_m1 H.1, st_209_m2 hS, st_209_m2 H.1, st_209_m1 hS, st_209_m1 H.1, st_214_m2 hS, st_214_m2 H.1, st_214_m1 hS, st_214_m1 H.1]
                refine wp_iload_n rfl rfl dX12_bestFor_85 ?_
                refine wp_iaload1 dX12_bestFor_86 (by first | omega | (simp (disch := omega) only [up2_ne, up2_eq, e, st_200_m1 hS, st_200_m1 H.1, st_200_7 hS, st_200_7 H.1, st_200_9 hS, st_200_9 H.1, st_200_14 hS, st_200_14 H.1, st_207_m2 hS, st_207_m2 H.1, st_207_m1 hS, st_207_m1 H.1, st_209_m2 hS, st_209_m2 H.1, st_209_m1 hS, st_209_m1 H.1, st_214_m2 hS, st_214_m2 H.1, st_214_m1 hS, st_214_m1 H.1]; first | done | omega)) (by first | assumption | (simp (disch := omega) only [up2_ne, up2_eq, e, st_200_m1 hS, st_200_m1 H.1, st_200_7 hS, st_200_7 H.1, st_200_9 hS, st_200_9 H.1, st_200_14 hS, st_200_14 H.1, st_207_m2 hS, st_207_m2 H.1, st_207_m1 hS, st_207_m1 H.1, st_209_m2 hS, st_209_m2 H.1, st_209_m1 hS, st_209_m1 H.1, st_214_m2 hS, st_214_m2 H.1, st_214_m1 hS, st_214_m1 H.1]; first | done | rfl | omega)) (by first | omega | (simp (disch := omega) only [up2_ne, up2_eq, e, st_200_m1 hS, st_200_m1 H.1, st_200_7 hS, st_200_7 H.1, st_200_9 hS, st_200_9 H.1, st_200_14 hS, st_200_14 H.1, st_207_m2 hS, st_207_m2 H.1, st_207_m1 hS, st_207_m1 H.1, st_209_m2 hS, st_209_m2 H.1, st_209_m1 hS, st_209_m1 H.1, st_214_m2 hS, st_214_m2 H.1, st_214_m1 hS, st_214_m1 H.1]; first | done | omega)) (by first | omega | (simp (disch := omega) only [up2_ne, up2_eq, e, st_200_m1 hS, st_200_m1 H.1, st_200_7 hS, st_200_7 H.1, st_200_9 hS, st_200_9 H.1, st_200_14 hS, st_200_14 H.1, st_207_m2 hS, st_207_m2 H.1, st_207_m1 hS, st_207_m1 H.1, st_209_m2 hS, st_209_m2 H.1, st_209_m1 hS, st_209_m1 H.1, st_214_m2 hS, st_214_m2 H.1, st_214_m1 hS, st_214_m1 H.1]; first | done | omega)) ?_
                try simp (disch := omega) only [up2_ne, up2_eq, e, st_200_m1 hS, st_200_m1 H.1, st_200_7 hS, st_200_7 H.1, st_200_9 hS, st_200_9 H.1, st_200_14 hS, st_200_14 H.1, st_207_m2 hS, st_207_m2 H.1, st_207_m1 hS, st_207_m1 H.1, st_209_m2 hS, st_209_m2 H.1, st_209_m1 hS, st_209_m1 H.1, st_214_m2 hS, st_214_m2 H.1, st_214_m1 hS, st_214_m1 H.1]
                refine wp_aload_n rfl rfl dX12_bestFor_87 ?_
                refine wp_getfield1 (z := 13) (kI := 14) fX12_91 dX12_bestFor_88 (by first | omega | (simp (disch := omega) only [up2_ne, up2_eq, e, st_200_m1 hS, st_200_m1 H.1, st_200_7 hS, st_200_7 H.1, st_200_9 hS, st_200_9 H.1, st_200_14 hS, st_200_14 H.1, st_207_m2 hS, st_207_m2 H.1, st_207_m1 hS, st_207_m1 H.1, st_209_m2 hS, st_209_m2 H.1, st_209_m1 hS, st_209_m1 H.1, st_214_m2 hS, st_214_m2 H.1, st_214_m1 hS, st_214_m1 H.1]; first | done | omega)) (by first | assumption | (simp (disch := omega) only [up2_ne, up2_eq, e, st_200_m1 hS, st_200_m1 H.1, st_200_7 hS, st_200_7 H.1, st_200_9 hS, st_200_9 H.1, st_200_14 hS, st_200_14 H.1, st_207_m2 hS, st_207_m2 H.1, st_207_m1 hS, st_207_m1 H.1, st_209_m2 hS, st_209_m2 H.1, st_209_m1 hS, st_209_m1 H.1, st_214_m2 hS, st_214_m2 H.1, st_214_m1 hS, st_214_m1 H.1]; first | done | rfl | omega)) rfl rfl ?_
                try simp (disch := omega) only [up2_ne, up2_eq, e, st_200_m1 hS, st_200_m1 H.1, st_200_7 hS, st_200_7 H.1, st_200_9 hS, st_200_9 H.1, st_200_14 hS, st_200_14 H.1, st_207_m2 hS, st_207_m2 H.1, st_207_m1 hS, st_207_m1 H.1, st_209_m2 hS, st_209_m2 H.1, st_209_m1 hS, st_209_m1 H.1, st_214_m2 hS, st_214_m2 H.1, st_214_m1 hS, st_214_m1 H.1]
                refine wp_iload_n rfl rfl dX12_bestFor_91 ?_
                refine wp_iaload1 dX12_bestFor_92 (by first | omega | (simp (disch := omega) only [up2_ne, up2_eq, e, st_200_m1 hS, st_200_m1 H.1, st_200_7 hS, st_200_7 H.1, st_200_9 hS, st_200_9 H.1, st_200_14 hS, st_200_14 H.1, st_207_m2 hS, st_207_m2 H.1, st_207_m1 hS, st_207_m1 H.1, st_209_m2 hS, st_209_m2 H.1, st_209_m1 hS, st_209_m1 H.1, st_214_m2 hS, st_214_m2 H.1, st_214_m1 hS, st_214_m1 H.1]; first | done | omega)) (by first | assumption | (simp (disch := omega) only [up2_ne, up2_eq, e, st_200_m1 hS, st_200_m1 H.1, st_200_7 hS, st_200_7 H.1, st_200_9 hS, st_200_9 H.1, st_200_14 hS, st_200_14 H.1, st_207_m2 hS, st_207_m2 H.1, st_207_m1 hS, st_207_m1 H.1, st_209_m2 hS, st_209_m2 H.1, st_209_m1 hS, st_209_m1 H.1, st_214_m2 hS, st_214_m2 H.1, st_214_m1 hS, st_214_m1 H.1]; first | done | rfl | omega)) (by first | omega | (simp (disch := omega) only [up2_ne, up2_eq, e, st_200_m1 hS, st_200_m1 H.1, st_200_7 hS, st_200_7 H.1, st_200_9 hS, st_200_9 H.1, st_200_14 hS, st_200_14 H.1, st_207_m2 hS, st_207_m2 H.1, st_207_m1 hS, st_207_m1 H.1, st_209_m2 hS, st_209_m2 H.1, st_209_m1 hS, st_209_m1 H.1, st_214_m2 hS, st_214_m2 H.1, st_214_m1 hS, st_214_m1 H.1]; first | done | omega)) (by first | omega | (simp (disch := omega) only [up2_ne, up2_eq, e, st_200_m1 hS, st_200_m1 H.1, st_200_7 hS, st_200_7 H.1, st_200_9 hS, st_200_9 H.1, st_200_14 hS, st_200_14 H.1, st_207_m2 hS, st_207_m2 H.1, st_207_m1 hS, st_207_m1 H.1, st_209_m2 hS, st_209_m2 H.1, st_209_m1 hS, st_209_m1 H.1, st_214_m2 hS, st_214_m2 H.1, st_214_m1 hS, st_214_m1 H.1]; first | done | omega)) ?_
                try simp (disch := omega) only [up2_ne, up2_eq, e, st_200_m1 hS, st_200_m1 H.1, st_200_7 hS, st_200_7 H.1, st_200_9 hS, st_200_9 H.1, st_200_14 hS, st_200_14 H.1, st_207_m2 hS, st_207_m2 H.1, st_207_m1 hS, st_207_m1 H.1, st_209_m2 hS, st_209_m2 H.1, st_209_m1 hS, st_209_m1 H.1, st_214_m2 hS, st_214_m2 H.1, st_214_m1 hS, st_214_m1 H.1]
                refine wp_ishr dX12_bestFor_93 ?_
                refine wp_iconst dX12_bestFor_94 ?_
                refine wp_iand dX12_bestFor_95 ?_
                refine wp_iconst dX12_bestFor_96 ?_
                try simp only [bt_fold]
                refine wp_icmp_ne (tgt := 104) (by first | assumption | exact bI_in _ | exact ⟨by omega, by omega⟩ | exact iAnd_in | exact iOr_in | exact iShr_in | exact iShl_in | exact iXor_in | exact hxs _) (by first | assumption | exact bI_in _ | exact ⟨by omega, by omega⟩ | exact iAnd_in | exact iOr_in | exact iShr_in | exact iShl_in | exact iXor_in | exact hxs _) dX12_bestFor_97 (by decide) (fun c15 => ?_) (fun c15 => ?_)
                · refine wp_iconst dX12_bestFor_104 ?_
                  refine wp_istore dX12_bestFor_105 rfl (Nat.le_of_ble_eq_true rfl) rfl ?_
                  try simp only [List.set_cons_zero, List.set_cons_succ]
                  refine wp_iload_n rfl rfl dX12_bestFor_107 ?_
                  refine wp_iconst dX12_bestFor_108 ?_
                  refine wp_icmp_eq (tgt := 143) (by first | assumption | exact bI_in _ | exact ⟨by omega, by omega⟩ | exact iAnd_in | exact iOr_in | exact iShr_in | exact iShl_in | exact iXor_in | exact hxs _) (by first | assumption | exact bI_in _ | exact ⟨by omega, by omega⟩ | exact iAnd_in | exact iOr_in | exact iShr_in | exact iShl_in | exact iXor_in | exact hxs _) dX12_bestFor_109 (by decide) (fun c16 => ?_) (fun c16 => ?_)
                  · refine wp_iload rfl dX12_bestFor_143 ?_
                    refine wp_istore_n rfl dX12_bestFor_145 rfl (Nat.le_of_ble_eq_true rfl) rfl ?_
                    try simp only [List.set_cons_zero, List.set_cons_succ]
                    refine wp_iinc rfl rfl dX12_bestFor_146 rfl rfl ?_
                    try simp only [List.set_cons_zero, List.set_cons_succ]
                    refine wp_goto (tgt := 5) dX12_bestFor_149 (by decide) ?_
                    refine wp_dropAt 5 rfl (wp_dropAt 6 rfl ?_)
                    have z := ih (by omega)
                    first
                      | (rw [bst_t ⟨by assumption, by omega, by omega⟩ (by first | exact Or.inl (by omega) | exact Or.inr (Or.inl ⟨by omega, by omega⟩) | exact Or.inr (Or.inr ⟨by constructor <;> intro y <;> omega, by omega⟩))] at z
                         exact z)
                      | (rw [bst_f (by rintro ⟨⟨y1, y2, y3⟩, y4 | ⟨y5, y6⟩ | ⟨y5, y6⟩⟩ <;> first | contradiction | omega)] at z
                         exact z)
                  · refine wp_iload rfl dX12_bestFor_112 ?_
                    refine wp_if_eq (tgt := 122) (by first | assumption | exact bI_in _ | exact ⟨by omega, by omega⟩ | exact iAnd_in | exact iOr_in | exact iShr_in | exact iShl_in | exact iXor_in | exact hxs _) dX12_bestFor_114 (by decide) (fun hx => absurd hx (by decide)) (fun hx => ?_)
                    refine wp_iload rfl dX12_bestFor_117 ?_
                    refine wp_if_eq (tgt := 143) (by first | assumption | exact bI_in _ | exact ⟨by omega, by omega⟩ | exact iAnd_in | exact iOr_in | exact iShr_in | exact iShl_in | exact iXor_in | exact hxs _) dX12_bestFor_119 (by decide) (fun hx => ?_) (fun hx => absurd hx (by decide))
                    refine wp_iload rfl dX12_bestFor_143 ?_
                    refine wp_istore_n rfl dX12_bestFor_145 rfl (Nat.le_of_ble_eq_true rfl) rfl ?_
                    try simp only [List.set_cons_zero, List.set_cons_succ]
                    refine wp_iinc rfl rfl dX12_bestFor_146 rfl rfl ?_
                    try simp only [List.set_cons_zero, List.set_cons_succ]
                    refine wp_goto (tgt := 5) dX12_bestFor_149 (by decide) ?_
                    refine wp_dropAt 5 rfl (wp_dropAt 6 rfl ?_)
                    have z := ih (by omega)
                    first
                      | (rw [bst_t ⟨by assumption, by omega, by omega⟩ (by first | exact Or.inl (by omega) | exact Or.inr (Or.inl ⟨by omega, by omega⟩) | exact Or.inr (Or.inr ⟨by constructor <;> intro y <;> omega, by omega⟩))] at z
                         exact z)
                      | (rw [bst_f (by rintro ⟨⟨y1, y2, y3⟩, y4 | ⟨y5, y6⟩ | ⟨y5, y6⟩⟩ <;> first | contradiction | omega)] at z
                         exact z)
                · refine wp_iconst dX12_bestFor_100 ?_
                  refine wp_goto (tgt := 105) dX12_bestFor_101 (by decide) ?_
                  refine wp_istore dX12_bestFor_105 rfl (Nat.le_of_ble_eq_true rfl) rfl ?_
                  try simp only [List.set_cons_zero, List.set_cons_succ]
                  refine wp_iload_n rfl rfl dX12_bestFor_107 ?_
                  refine wp_iconst dX12_bestFor_108 ?_
                  refine wp_icmp_eq (tgt := 143) (by first | assumption | exact bI_in _ | exact ⟨by omega, by omega⟩ | exact iAnd_in | exact iOr_in | exact iShr_in | exact iShl_in | exact iXor_in | exact hxs _) (by first | assumption | exact bI_in _ | exact ⟨by omega, by omega⟩ | exact iAnd_in | exact iOr_in | exact iShr_in | exact iShl_in | exact iXor_in | exact hxs _) dX12_bestFor_109 (by decide) (fun c17 => ?_) (fun c17 => ?_)
                  · refine wp_iload rfl dX12_bestFor_143 ?_
                    refine wp_istore_n rfl dX12_bestFor_145 rfl (Nat.le_of_ble_eq_true rfl) rfl ?_
                    try simp only [List.set_cons_zero, List.set_cons_succ]
                    refine wp_iinc rfl rfl dX12_bestFor_146 rfl rfl ?_
                    try simp only [List.set_cons_zero, List.set_cons_succ]
                    refine wp_goto (tgt := 5) dX12_bestFor_149 (by decide) ?_
                    refine wp_dropAt 5 rfl (wp_dropAt 6 rfl ?_)
                    have z := ih (by omega)
                    first
                      | (rw [bst_t ⟨by assumption, by omega, by omega⟩ (by first | exact Or.inl (by omega) | exact Or.inr (Or.inl ⟨by omega, by omega⟩) | exact Or.inr (Or.inr ⟨by constructor <;> intro y <;> omega, by omega⟩))] at z
                         exact z)
                      | (rw [bst_f (by rintro ⟨⟨y1, y2, y3⟩, y4 | ⟨y5, y6⟩ | ⟨y5, y6⟩⟩ <;> first | contradiction | omega)] at z
                         exact z)
                  · refine wp_iload rfl dX12_bestFor_112 ?_
                    refine wp_if_eq (tgt := 122) (by first | assumption | exact bI_in _ | exact ⟨by omega, by omega⟩ | exact iAnd_in | exact iOr_in | exact iShr_in | exact iShl_in | exact iXor_in | exact hxs _) dX12_bestFor_114 (by decide) (fun hx => absurd hx (by decide)) (fun hx => ?_)
                    refine wp_iload rfl dX12_bestFor_117 ?_
                    refine wp_if_eq (tgt := 143) (by first | assumption | exact bI_in _ | exact ⟨by omega, by omega⟩ | exact iAnd_in | exact iOr_in | exact iShr_in | exact iShl_in | exact iXor_in | exact hxs _) dX12_bestFor_119 (by decide) (fun hx => absurd hx (by decide)) (fun hx => ?_)
                    refine wp_iload rfl dX12_bestFor_122 ?_
                    refine wp_iload rfl dX12_bestFor_124 ?_
                    refine wp_icmp_ne (tgt := 146) (by first | assumption | exact bI_in _ | exact ⟨by omega, by omega⟩ | exact iAnd_in | exact iOr_in | exact iShr_in | exact iShl_in | exact iXor_in | exact hxs _) (by first | assumption | exact bI_in _ | exact ⟨by omega, by omega⟩ | exact iAnd_in | exact iOr_in | exact iShr_in | exact iShl_in | exact iXor_in | exact hxs _) dX12_bestFor_126 (by decide) (fun hx => absurd hx (by decide)) (fun hx => ?_)
                    have hrb := hrb (by omega)
                    refine wp_aload_n rfl rfl dX12_bestFor_129 ?_
                    refine wp_iload rfl dX12_bestFor_130 ?_
                    refine wp_cV1 (ci := 12) okX12_reads rfl rfl wX12_61 dX12_bestFor_132 rfl (Nat.le_of_ble_eq_true rfl) (Nat.le_of_ble_eq_true rfl) (by first | omega | (simp (disch := omega) only [up2_ne, up2_eq, e, st_200_m1 hS, st_200_m1 H.1, st_200_7 hS, st_200_7 H.1, st_200_9 hS, st_200_9 H.1, st_200_14 hS, st_200_14 H.1, st_207_m2 hS, st_207_m2 H.1, st_207_m1 hS, st_207_m1 H.1, st_209_m2 hS, st_209_m2 H.1, st_209_m1 hS, st_209_m1 H.1, st_214_m2 hS, st_214_m2 H.1, st_214_m1 hS, st_214_m1 H.1]; first | done | omega)) (by first | assumption | (simp (disch := omega) only [up2_ne, up2_eq, e, st_200_m1 hS, st_200_m1 H.1, st_200_7 hS, st_200_7 H.1, st_200_9 hS, st_200_9 H.1, st_200_14 hS, st_200_14 H.1, st_207_m2 hS, st_207_m2 H.1, st_207_m1 hS, st_207_m1 H.1, st_209_m2 hS, st_209_m2 H.1, st_209_m1 hS, st_209_m1 H.1, st_214_m2 hS, st_214_m2 H.1, st_214_m1 hS, st_214_m1 H.1]; first | done | rfl | omega)) (rreads H e hS) (Nat.zero_le _) ?_
                    try simp (disch := omega) only [up2_ne, up2_eq, e, st_200_m1 hS, st_200_m1 H.1, st_200_7 hS, st_200_7 H.1, st_200_9 hS, st_200_9 H.1, st_200_14 hS, st_200_14 H.1, st_207_m2 hS, st_207_m2 H.1, st_207_m1 hS, st_207_m1 H.1, st_209_m2 hS, st_209_m2 H.1, st_209_m1 hS, st_209_m1 H.1, st_214_m2 hS, st_214_m2 H.1, st_214_m1 hS, st_214_m1 H.1]
                    refine wp_aload_n rfl rfl dX12_bestFor_135 ?_
                    refine wp_iload_n rfl rfl dX12_bestFor_136 ?_
                    refine wp_cV1 (ci := 12) okX12_reads rfl rfl wX12_61 dX12_bestFor_137 rfl (Nat.le_of_ble_eq_true rfl) (Nat.le_of_ble_eq_true rfl) (by first | omega | (simp (disch := omega) only [up2_ne, up2_eq, e, st_200_m1 hS, st_200_m1 H.1, st_200_7 hS, st_200_7 H.1, st_200_9 hS, st_200_9 H.1, st_200_14 hS, st_200_14 H.1, st_207_m2 hS, st_207_m2 H.1, st_207_m1 hS, st_207_m1 H.1, st_209_m2 hS, st_209_m2 H.1, st_209_m1 hS, st_209_m1 H.1, st_214_m2 hS, st_214_m2 H.1, st_214_m1 hS, st_214_m1 H.1]; first | done | omega)) (by first | assumption | (simp (disch := omega) only [up2_ne, up2_eq, e, st_200_m1 hS, st_200_m1 H.1, st_200_7 hS, st_200_7 H.1, st_200_9 hS, st_200_9 H.1, st_200_14 hS, st_200_14 H.1, st_207_m2 hS, st_207_m2 H.1, st_207_m1 hS, st_207_m1 H.1, st_209_m2 hS, st_209_m2 H.1, st_209_m1 hS, st_209_m1 H.1, st_214_m2 hS, st_214_m2 H.1, st_214_m1 hS, st_214_m1 H.1]; first | done | rfl | omega)) (rreads H e hS) (Nat.zero_le _) ?_
                    try simp (disch := omega) only [up2_ne, up2_eq, e, st_200_m1 hS, st_200_m1 H.1, st_200_7 hS, st_200_7 H.1, st_200_9 hS, st_200_9 H.1, st_200_14 hS, st_200_14 H.1, st_207_m2 hS, st_207_m2 H.1, st_207_m1 hS, st_207_m1 H.1, st_209_m2 hS, st_209_m2 H.1, st_209_m1 hS, st_209_m1 H.1, st_214_m2 hS, st_214_m2 H.1, st_214_m1 hS, st_214_m1 H.1]
                    refine wp_icmp_ge (tgt := 146) (by first | assumption | exact bI_in _ | exact ⟨by omega, by omega⟩ | exact iAnd_in | exact iOr_in | exact iShr_in | exact iShl_in | exact iXor_in | exact hxs _) (by first | assumption | exact bI_in _ | exact ⟨by omega, by omega⟩ | exact iAnd_in | exact iOr_in | exact iShr_in | exact iShl_in | exact iXor_in | exact hxs _) dX12_bestFor_140 (by decide) (fun c18 => ?_) (fun c18 => ?_)
                    · refine wp_iinc rfl rfl dX12_bestFor_146 rfl rfl ?_
                      try simp only [List.set_cons_zero, List.set_cons_succ]
                      refine wp_goto (tgt := 5) dX12_bestFor_149 (by decide) ?_
                      refine wp_dropAt 5 rfl (wp_dropAt 6 rfl ?_)
                      have z := ih (by omega)
                      first
                        | (rw [bst_t ⟨by assumption, by omega, by omega⟩ (by first | exact Or.inl (by omega) | exact Or.inr (Or.inl ⟨by omega, by omega⟩) | exact Or.inr (Or.inr ⟨by constructor <;> intro y <;> omega, by omega⟩))] at z
                           exact z)
                        | (rw [bst_f (by rintro ⟨⟨y1, y2, y3⟩, y4 | ⟨y5, y6⟩ | ⟨y5, y6⟩⟩ <;> first | contradiction | omega)] at z
                           exact z)
                    · refine wp_iload rfl dX12_bestFor_143 ?_
                      refine wp_istore_n rfl dX12_bestFor_145 rfl (Nat.le_of_ble_eq_true rfl) rfl ?_
                      try simp only [List.set_cons_zero, List.set_cons_succ]
                      refine wp_iinc rfl rfl dX12_bestFor_146 rfl rfl ?_
                      try simp only [List.set_cons_zero, List.set_cons_succ]
                      refine wp_goto (tgt := 5) dX12_bestFor_149 (by decide) ?_
                      refine wp_dropAt 5 rfl (wp_dropAt 6 rfl ?_)
                      have z := ih (by omega)
                      first
                        | (rw [bst_t ⟨by assumption, by omega, by omega⟩ (by first | exact Or.inl (by omega) | exact Or.inr (Or.inl ⟨by omega, by omega⟩) | exact Or.inr (Or.inr ⟨by constructor <;> intro y <;> omega, by omega⟩))] at z
                           exact z)
                        | (rw [bst_f (by rintro ⟨⟨y1, y2, y3⟩, y4 | ⟨y5, y6⟩ | ⟨y5, y6⟩⟩ <;> first | contradiction | omega)] at z
                           exact z)
  show WP (gX (gq u)) MX12_bestFor (d + 1) b Q 0 [(2, 200), (0, a), (0, p), (9, 0), (9, 0), (9, 0), (9, 0)] [] h
  refine wp_iconst dX12_bestFor_0 ?_
  refine wp_istore_n rfl dX12_bestFor_1 rfl (Nat.le_of_ble_eq_true rfl) rfl ?_
  try simp only [List.set_cons_zero, List.set_cons_succ]
  refine wp_iconst dX12_bestFor_2 ?_
  refine wp_istore dX12_bestFor_3 rfl (Nat.le_of_ble_eq_true rfl) rfl ?_
  try simp only [List.set_cons_zero, List.set_cons_succ]
  exact loop 0 (by omega)
set_option maxHeartbeats 1000000 in
theorem s_X12_deal {u : gT} {j : Nat} {h m : mH} {d b : Nat} (H : Inv j m) (e : Cr h m) (hS : St h) : Rlt (gX (gq u)) MX12_deal (d + 2) b [(2, 200)] h (fun r h1 => r = (0, dlC m (m 200 10).toNat) ∧ St h1 ∧ Cr h1 (dlN m (m 200 10).toNat) ∧ Ce h h1) := by
  refine Rlt.of ?_
  have hn := H.ns
  have loop : ∀ n : Nat, n ≤ (m 200 10).toNat → ∀ g, St g → Cr g (dlN m n) → Ce h g → WP (gX (gq u)) MX12_deal (d + 2) b (fun r h1 => r = (0, dlC m (m 200 10).toNat) ∧ St h1 ∧ Cr h1 (dlN m (m 200 10).toNat) ∧ Ce h h1) 4 [(2, 200), (0, dlC m n), (0, (n : Int)), (9, 0), (9, 0), (9, 0)] [] g := by
    refine loop_w (m 200 10).toNat (fun n hn2 ih => ?_)
    intro g gS ge gR
    have hI2 := Inv_dlN H n (by omega)
    have H2 := hI2.1
    have hA2 := hI2.2 10
    have hR2 := hI2.2 6
    have hra := H2.ra (a := (n : Int)) (by omega)
    have hC1 : dlC m (n + 1) = dlC m n + bI (dOk (dlN m n) n) := rfl
    have hN1 : dlN m (n + 1) = dlS (dlN m n) n := rfl
    have hnb := needM_b (k := dlN m n 211 n)
    rw [hC1, hN1] at ih
    generalize hm2 : dlN m n = m2 at *
    have inner : (n : Int) < m 200 10 → m2 218 n = 0 → ∀ k : Nat, k ≤ nd m2 n → ∀ p, pks m2 n k = p → p ≠ -1 → WP (gX (gq u)) MX12_deal (d + 2) b (fun r h1 => r = (0, dlC m (m 200 10).toNat) ∧ St h1 ∧ Cr h1 (dlN m (m 200 10).toNat) ∧ Ce h h1) 37 [(2, 200), (0, dlC m n), (0, (n : Int)), (0, p), (0, (k : Int)), (0, bst m2 n p (m2 200 6).toNat)] [] g := by
      intro hnA hz
      refine loop_w (nd m2 n) (fun k hk2 ihk => ?_)
      intro p hp hp1
      have hpb := pks_b H2 (a := (n : Int)) k
      rw [hp] at hpb
      have hbr := bst_r (m := m2) (a := (n : Int)) (has := p) (m2 200 6).toNat
      have hps : pks m2 n (k + 1) = if pks m2 n k = -1 ∨ bst m2 n (pks m2 n k) (m2 200 6).toNat = -1 then -1 else iOr (pks m2 n k) (iShl 1 (bst m2 n (pks m2 n k) (m2 200 6).toNat)) := rfl
      rw [hp] at hps
      have hor := fun z : 0 ≤ bst m2 n p (m2 200 6).toNat => or_bit (x := p) (r := bst m2 n p (m2 200 6).toNat) (by omega) (by omega) z (by omega)
      have hnd : ((nd m2 n : Nat) : Int) = needM (m2 211 n) := by unfold nd; omega
      refine wp_iload rfl dX12_deal_37 ?_
      refine wp_iconst dX12_deal_39 ?_
      refine wp_icmp_eq (tgt := 78) (by first | assumption | exact bI_in _ | exact ⟨by omega, by omega⟩ | exact iAnd_in | exact iOr_in | exact iShr_in | exact iShl_in | exact iXor_in | exact hxs _) (by first | assumption | exact bI_in _ | exact ⟨by omega, by omega⟩ | exact iAnd_in | exact iOr_in | exact iShr_in | exact iShl_in | exact iXor_in | exact hxs _) dX12_deal_40 (by decide) (fun c1 => ?_) (fun c1 => ?_)
      · refine wp_iload rfl dX12_deal_78 ?_
        refine wp_aload_n rfl rfl dX12_deal_80 ?_
        refine wp_getfield1 (z := 13) (kI := 11) fX12_82 dX12_deal_81 (by first | omega | (simp (disch := omega) only [up2_ne, up2_eq, ge, hA2, st_200_m1 gS, st_200_m1 H2.1, st_200_11 gS, st_200_11 H2.1, st_200_18 gS, st_200_18 H2.1, st_211_m2 gS, st_211_m2 H2.1, st_211_m1 gS, st_211_m1 H2.1, st_218_m2 gS, st_218_m2 H2.1, st_218_m1 gS, st_218_m1 H2.1]; first | done | omega)) (by first | assumption | (simp (disch := omega) only [up2_ne, up2_eq, ge, hA2, st_200_m1 gS, st_200_m1 H2.1, st_200_11 gS, st_200_11 H2.1, st_200_18 gS, st_200_18 H2.1, st_211_m2 gS, st_211_m2 H2.1, st_211_m1 gS, st_211_m1 H2.1, st_218_m2 gS, st_218_m2 H2.1, st_218_m1 gS, st_218_m1 H2.1]; first | done | rfl | omega)) rfl rfl ?_
        try simp (disch := omega) only [up2_ne, up2_eq, ge, hA2, st_200_m1 gS, st_200_m1 H2.1, st_200_11 gS, st_200_11 H2.1, st_200_18 gS, st_200_18 H2.1, st_211_m2 gS, st_211_m2 H2.1, st_211_m1 gS, st_211_m1 H2.1, st_218_m2 gS, st_218_m2 H2.1, st_218_m1 gS, st_218_m1 H2.1]
        refine wp_iload_n rfl rfl dX12_deal_84 ?_
        refine wp_iaload1 dX12_deal_85 (by first | omega | (simp (disch := omega) only [up2_ne, up2_eq, ge, hA2, st_200_m1 gS, st_200_m1 H2.1, st_200_11 gS, st_200_11 H2.1, st_200_18 gS, st_200_18 H2.1, st_211_m2 gS, st_211_m2 H2.1, st_211_m1 gS, st_211_m1 H2.1, st_218_m2 gS, st_218_m2 H2.1, st_218_m1 gS, st_218_m1 H2.1]; first | done | omega)) (by first | assumption | (simp (disch := omega) only [up2_ne, up2_eq, ge, hA2, st_200_m1 gS, st_200_m1 H2.1, st_200_11 gS, st_200_11 H2.1, st_200_18 gS, st_200_18 H2.1, st_211_m2 gS, st_211_m2 H2.1, st_211_m1 gS, st_211_m1 H2.1, st_218_m2 gS, st_218_m2 H2.1, st_218_m1 gS, st_218_m1 H2.1]; first | done | rfl | omega)) (by first | omega | (simp (disch := omega) only [up2_ne, up2_eq, ge, hA2, st_200_m1 gS, st_200_m1 H2.1, st_200_11 gS, st_200_11 H2.1, st_200_18 gS, st_200_18 H2.1, st_211_m2 gS, st_211_m2 H2.1, st_211_m1 gS, st_211_m1 H2.1, st_218_m2 gS, st_218_m2 H2.1, st_218_m1 gS, st_218_m1 H2.1]; first | done | omega)) (by first | omega | (simp (disch := omega) only [up2_ne, up2_eq, ge, hA2, st_200_m1 gS, st_200_m1 H2.1, st_200_11 gS, st_200_11 H2.1, st_200_18 gS, st_200_18 H2.1, st_211_m2 gS, st_211_m2 H2.1, st_211_m1 gS, st_211_m1 H2.1, st_218_m2 gS, st_218_m2 H2.1, st_218_m1 gS, st_218_m1 H2.1]; first | done | omega)) ?_
        try simp (disch := omega) only [up2_ne, up2_eq, ge, hA2, st_200_m1 gS, st_200_m1 H2.1, st_200_11 gS, st_200_11 H2.1, st_200_18 gS, st_200_18 H2.1, st_211_m2 gS, st_211_m2 H2.1, st_211_m1 gS, st_211_m1 H2.1, st_218_m2 gS, st_218_m2 H2.1, st_218_m1 gS, st_218_m1 H2.1]
        refine wp_cS1 okX12_needOf wX12_129 dX12_deal_86 rfl (Nat.le_of_ble_eq_true rfl) (Nat.le_of_ble_eq_true rfl) (s_X12_needOf (by exact ⟨by omega, by omega⟩)) (Nat.zero_le _) ?_
        try simp (disch := omega) only [up2_ne, up2_eq, ge, hA2, st_200_m1 gS, st_200_m1 H2.1, st_200_11 gS, st_200_11 H2.1, st_200_18 gS, st_200_18 H2.1, st_211_m2 gS, st_211_m2 H2.1, st_211_m1 gS, st_211_m1 H2.1, st_218_m2 gS, st_218_m2 H2.1, st_218_m1 gS, st_218_m1 H2.1]
        refine wp_icmp_ne (tgt := 102) (by first | assumption | exact bI_in _ | exact ⟨by omega, by omega⟩ | exact iAnd_in | exact iOr_in | exact iShr_in | exact iShl_in | exact iXor_in | exact hxs _) (by first | assumption | exact bI_in _ | exact ⟨by omega, by omega⟩ | exact iAnd_in | exact iOr_in | exact iShr_in | exact iShl_in | exact iXor_in | exact hxs _) dX12_deal_89 (by decide) (fun c2 => ?_) (fun c2 => ?_)
        · refine wp_iinc rfl rfl dX12_deal_102 rfl rfl ?_
          try simp only [List.set_cons_zero, List.set_cons_succ]
          refine wp_goto (tgt := 4) dX12_deal_105 (by decide) ?_
          refine wp_dropAt 3 rfl (wp_dropAt 4 rfl (wp_dropAt 5 rfl ?_))
          have ih := ih (by omega)
          first
            | (have ek : k = nd m2 n := by omega
               have hd : dOk m2 n := ⟨hz, by rw [← ek, hp]; exact hp1⟩
               have z := ih (up2 g 218 n p) (gS.upA (by decide +kernel) (by omega)) (by
                 intro x y q
                 unfold dlS
                 rw [if_pos hd, ← ek, hp]
                 by_cases c : x = 218 ∧ y = n
                 · rw [c.1, c.2, up2_eq, dlM_p (Or.inr ⟨rfl, rfl⟩)]
                 · rw [up2_ne (by omega), dlM_ne (by omega) (by omega)]
                   exact ge x y q) (fun x y q => by rw [up2_ne (by omega)]; exact gR x y q)
               rw [bI_t hd] at z
               exact z)
            | (have hx : pks m2 n (k + 1) = -1 := by rw [hps, if_pos (Or.inr (by omega))]
               have ey := pks_x hx (nd m2 n - (k + 1))
               rw [show k + 1 + (nd m2 n - (k + 1)) = nd m2 n by omega] at ey
               have hd : ¬ dOk m2 n := fun z => z.2 ey
               have z := ih g gS (by unfold dlS; rw [if_neg hd]; exact ge) gR
               rw [bI_f hd, Int.add_zero] at z
               exact z)
        · refine wp_aload_n rfl rfl dX12_deal_92 ?_
          refine wp_getfield1 (z := 13) (kI := 18) fX12_55 dX12_deal_93 (by first | omega | (simp (disch := omega) only [up2_ne, up2_eq, ge, hA2, st_200_m1 gS, st_200_m1 H2.1, st_200_11 gS, st_200_11 H2.1, st_200_18 gS, st_200_18 H2.1, st_211_m2 gS, st_211_m2 H2.1, st_211_m1 gS, st_211_m1 H2.1, st_218_m2 gS, st_218_m2 H2.1, st_218_m1 gS, st_218_m1 H2.1]; first | done | omega)) (by first | assumption | (simp (disch := omega) only [up2_ne, up2_eq, ge, hA2, st_200_m1 gS, st_200_m1 H2.1, st_200_11 gS, st_200_11 H2.1, st_200_18 gS, st_200_18 H2.1, st_211_m2 gS, st_211_m2 H2.1, st_211_m1 gS, st_211_m1 H2.1, st_218_m2 gS, st_218_m2 H2.1, st_218_m1 gS, st_218_m1 H2.1]; first | done | rfl | omega)) rfl rfl ?_
          try simp (disch := omega) only [up2_ne, up2_eq, ge, hA2, st_200_m1 gS, st_200_m1 H2.1, st_200_11 gS, st_200_11 H2.1, st_200_18 gS, st_200_18 H2.1, st_211_m2 gS, st_211_m2 H2.1, st_211_m1 gS, st_211_m1 H2.1, st_218_m2 gS, st_218_m2 H2.1, st_218_m1 gS, st_218_m1 H2.1]
          refine wp_iload_n rfl rfl dX12_deal_96 ?_
          refine wp_iload_n rfl rfl dX12_deal_97 ?_
          refine wp_iastore1 dX12_deal_98 (by first | omega | (simp (disch := omega) only [up2_ne, up2_eq, ge, hA2, st_200_m1 gS, st_200_m1 H2.1, st_200_11 gS, st_200_11 H2.1, st_200_18 gS, st_200_18 H2.1, st_211_m2 gS, st_211_m2 H2.1, st_211_m1 gS, st_211_m1 H2.1, st_218_m2 gS, st_218_m2 H2.1, st_218_m1 gS, st_218_m1 H2.1]; first | done | omega)) (by first | assumption | (simp (disch := omega) only [up2_ne, up2_eq, ge, hA2, st_200_m1 gS, st_200_m1 H2.1, st_200_11 gS, st_200_11 H2.1, st_200_18 gS, st_200_18 H2.1, st_211_m2 gS, st_211_m2 H2.1, st_211_m1 gS, st_211_m1 H2.1, st_218_m2 gS, st_218_m2 H2.1, st_218_m1 gS, st_218_m1 H2.1]; first | done | rfl | omega)) (by first | omega | (simp (disch := omega) only [up2_ne, up2_eq, ge, hA2, st_200_m1 gS, st_200_m1 H2.1, st_200_11 gS, st_200_11 H2.1, st_200_18 gS, st_200_18 H2.1, st_211_m2 gS, st_211_m2 H2.1, st_211_m1 gS, st_211_m1 H2.1, st_218_m2 gS, st_218_m2 H2.1, st_218_m1 gS, st_218_m1 H2.1]; first | done | omega)) (by first | omega | (simp (disch := omega) only [up2_ne, up2_eq, ge, hA2, st_200_m1 gS, st_200_m1 H2.1, st_200_11 gS, st_200_11 H2.1, st_200_18 gS, st_200_18 H2.1, st_211_m2 gS, st_211_m2 H2.1, st_211_m1 gS, st_211_m1 H2.1, st_218_m2 gS, st_218_m2 H2.1, st_218_m1 gS, st_218_m1 H2.1]; first | done | omega)) ?_
          refine wp_iinc rfl rfl dX12_deal_99 rfl rfl ?_
          try simp only [List.set_cons_zero, List.set_cons_succ]
          refine wp_iinc rfl rfl dX12_deal_102 rfl rfl ?_
          try simp only [List.set_cons_zero, List.set_cons_succ]
          refine wp_goto (tgt := 4) dX12_deal_105 (by decide) ?_
          refine wp_dropAt 3 rfl (wp_dropAt 4 rfl (wp_dropAt 5 rfl ?_))
          have ih := ih (by omega)
          first
            | (have ek : k = nd m2 n := by omega
               have hd : dOk m2 n := ⟨hz, by rw [← ek, hp]; exact hp1⟩
               have z := ih (up2 g 218 n p) (gS.upA (by decide +kernel) (by omega)) (by
                 intro x y q
                 unfold dlS
                 rw [if_pos hd, ← ek, hp]
                 by_cases c : x = 218 ∧ y = n
                 · rw [c.1, c.2, up2_eq, dlM_p (Or.inr ⟨rfl, rfl⟩)]
                 · rw [up2_ne (by omega), dlM_ne (by omega) (by omega)]
                   exact ge x y q) (fun x y q => by rw [up2_ne (by omega)]; exact gR x y q)
               rw [bI_t hd] at z
               exact z)
            | (have hx : pks m2 n (k + 1) = -1 := by rw [hps, if_pos (Or.inr (by omega))]
               have ey := pks_x hx (nd m2 n - (k + 1))
               rw [show k + 1 + (nd m2 n - (k + 1)) = nd m2 n by omega] at ey
               have hd : ¬ dOk m2 n := fun z => z.2 ey
               have z := ih g gS (by unfold dlS; rw [if_neg hd]; exact ge) gR
               rw [bI_f hd, Int.add_zero] at z
               exact z)
      · refine wp_iload rfl dX12_deal_43 ?_
        refine wp_aload_n rfl rfl dX12_deal_45 ?_
        refine wp_getfield1 (z := 13) (kI := 11) fX12_82 dX12_deal_46 (by first | omega | (simp (disch := omega) only [up2_ne, up2_eq, ge, hA2, st_200_m1 gS, st_200_m1 H2.1, st_200_11 gS, st_200_11 H2.1, st_200_18 gS, st_200_18 H2.1, st_211_m2 gS, st_211_m2 H2.1, st_211_m1 gS, st_211_m1 H2.1, st_218_m2 gS, st_218_m2 H2.1, st_218_m1 gS, st_218_m1 H2.1]; first | done | omega)) (by first | assumption | (simp (disch := omega) only [up2_ne, up2_eq, ge, hA2, st_200_m1 gS, st_200_m1 H2.1, st_200_11 gS, st_200_11 H2.1, st_200_18 gS, st_200_18 H2.1, st_211_m2 gS, st_211_m2 H2.1, st_211_m1 gS, st_211_m1 H2.1, st_218_m2 gS, st_218_m2 H2.1, st_218_m1 gS, st_218_m1 H2.1]; first | done | rfl | omega)) rfl rfl ?_
        try simp (disch := omega) only [up2_ne, up2_eq, ge, hA2, st_200_m1 gS, st_200_m1 H2.1, st_200_11 gS, st_200_11 H2.1, st_200_18 gS, st_200_18 H2.1, st_211_m2 gS, st_211_m2 H2.1, st_211_m1 gS, st_211_m1 H2.1, st_218_m2 gS, st_218_m2 H2.1, st_218_m1 gS, st_218_m1 H2.1]
        refine wp_iload_n rfl rfl dX12_deal_49 ?_
        refine wp_iaload1 dX12_deal_50 (by first | omega | (simp (disch := omega) only [up2_ne, up2_eq, ge, hA2, st_200_m1 gS, st_200_m1 H2.1, st_200_11 gS, st_200_11 H2.1, st_200_18 gS, st_200_18 H2.1, st_211_m2 gS, st_211_m2 H2.1, st_211_m1 gS, st_211_m1 H2.1, st_218_m2 gS, st_218_m2 H2.1, st_218_m1 gS, st_218_m1 H2.1]; first | done | omega)) (by first | assumption | (simp (disch := omega) only [up2_ne, up2_eq, ge, hA2, st_200_m1 gS, st_200_m1 H2.1, st_200_11 gS, st_200_11 H2.1, st_200_18 gS, st_200_18 H2.1, st_211_m2 gS, st_211_m2 H2.1, st_211_m1 gS, st_211_m1 H2.1, st_218_m2 gS, st_218_m2 H2.1, st_218_m1 gS, st_218_m1 H2.1]; first | done | rfl | omega)) (by first | omega | (simp (disch := omega) only [up2_ne, up2_eq, ge, hA2, st_200_m1 gS, st_200_m1 H2.1, st_200_11 gS, st_200_11 H2.1, st_200_18 gS, st_200_18 H2.1, st_211_m2 gS, st_211_m2 H2.1, st_211_m1 gS, st_211_m1 H2.1, st_218_m2 gS, st_218_m2 H2.1, st_218_m1 gS, st_218_m1 H2.1]; first | done | omega)) (by first | omega | (simp (disch := omega) only [up2_ne, up2_eq, ge, hA2, st_200_m1 gS, st_200_m1 H2.1, st_200_11 gS, st_200_11 H2.1, st_200_18 gS, st_200_18 H2.1, st_211_m2 gS, st_211_m2 H2.1, st_211_m1 gS, st_211_m1 H2.1, st_218_m2 gS, st_218_m2 H2.1, st_218_m1 gS, st_218_m1 H2.1]; first | done | omega)) ?_
        try simp (disch := omega) only [up2_ne, up2_eq, ge, hA2, st_200_m1 gS, st_200_m1 H2.1, st_200_11 gS, st_200_11 H2.1, st_200_18 gS, st_200_18 H2.1, st_211_m2 gS, st_211_m2 H2.1, st_211_m1 gS, st_211_m1 H2.1, st_218_m2 gS, st_218_m2 H2.1, st_218_m1 gS, st_218_m1 H2.1]
        refine wp_cS1 okX12_needOf wX12_129 dX12_deal_51 rfl (Nat.le_of_ble_eq_true rfl) (Nat.le_of_ble_eq_true rfl) (s_X12_needOf (by exact ⟨by omega, by omega⟩)) (Nat.zero_le _) ?_
        try simp (disch := omega) only [up2_ne, up2_eq, ge, hA2, st_200_m1 gS, st_200_m1 H2.1, st_200_11 gS, st_200_11 H2.1, st_200_18 gS, st_200_18 H2.1, st_211_m2 gS, st_211_m2 H2.1, st_211_m1 gS, st_211_m1 H2.1, st_218_m2 gS, st_218_m2 H2.1, st_218_m1 gS, st_218_m1 H2.1]
        refine wp_icmp_ge (tgt := 78) (by first | assumption | exact bI_in _ | exact ⟨by omega, by omega⟩ | exact iAnd_in | exact iOr_in | exact iShr_in | exact iShl_in | exact iXor_in | exact hxs _) (by first | assumption | exact bI_in _ | exact ⟨by omega, by omega⟩ | exact iAnd_in | exact iOr_in | exact iShr_in | exact iShl_in | exact iXor_in | exact hxs _) dX12_deal_54 (by decide) (fun c3 => ?_) (fun c3 => ?_)
        · refine wp_iload rfl dX12_deal_78 ?_
          refine wp_aload_n rfl rfl dX12_deal_80 ?_
          refine wp_getfield1 (z := 13) (kI := 11) fX12_82 dX12_deal_81 (by first | omega | (simp (disch := omega) only [up2_ne, up2_eq, ge, hA2, st_200_m1 gS, st_200_m1 H2.1, st_200_11 gS, st_200_11 H2.1, st_200_18 gS, st_200_18 H2.1, st_211_m2 gS, st_211_m2 H2.1, st_211_m1 gS, st_211_m1 H2.1, st_218_m2 gS, st_218_m2 H2.1, st_218_m1 gS, st_218_m1 H2.1]; first | done | omega)) (by first | assumption | (simp (disch := omega) only [up2_ne, up2_eq, ge, hA2, st_200_m1 gS, st_200_m1 H2.1, st_200_11 gS, st_200_11 H2.1, st_200_18 gS, st_200_18 H2.1, st_211_m2 gS, st_211_m2 H2.1, st_211_m1 gS, st_211_m1 H2.1, st_218_m2 gS, st_218_m2 H2.1, st_218_m1 gS, st_218_m1 H2.1]; first | done | rfl | omega)) rfl rfl ?_
          try simp (disch := omega) only [up2_ne, up2_eq, ge, hA2, st_200_m1 gS, st_200_m1 H2.1, st_200_11 gS, st_200_11 H2.1, st_200_18 gS, st_200_18 H2.1, st_211_m2 gS, st_211_m2 H2.1, st_211_m1 gS, st_211_m1 H2.1, st_218_m2 gS, st_218_m2 H2.1, st_218_m1 gS, st_218_m1 H2.1]
          refine wp_iload_n rfl rfl dX12_deal_84 ?_
          refine wp_iaload1 dX12_deal_85 (by first | omega | (simp (disch := omega) only [up2_ne, up2_eq, ge, hA2, st_200_m1 gS, st_200_m1 H2.1, st_200_11 gS, st_200_11 H2.1, st_200_18 gS, st_200_18 H2.1, st_211_m2 gS, st_211_m2 H2.1, st_211_m1 gS, st_211_m1 H2.1, st_218_m2 gS, st_218_m2 H2.1, st_218_m1 gS, st_218_m1 H2.1]; first | done | omega)) (by first | assumption | (simp (disch := omega) only [up2_ne, up2_eq, ge, hA2, st_200_m1 gS, st_200_m1 H2.1, st_200_11 gS, st_200_11 H2.1, st_200_18 gS, st_200_18 H2.1, st_211_m2 gS, st_211_m2 H2.1, st_211_m1 gS, st_211_m1 H2.1, st_218_m2 gS, st_218_m2 H2.1, st_218_m1 gS, st_218_m1 H2.1]; first | done | rfl | omega)) (by first | omega | (simp (disch := omega) only [up2_ne, up2_eq, ge, hA2, st_200_m1 gS, st_200_m1 H2.1, st_200_11 gS, st_200_11 H2.1, st_200_18 gS, st_200_18 H2.1, st_211_m2 gS, st_211_m2 H2.1, st_211_m1 gS, st_211_m1 H2.1, st_218_m2 gS, st_218_m2 H2.1, st_218_m1 gS, st_218_m1 H2.1]; first | done | omega)) (by first | omega | (simp (disch := omega) only [up2_ne, up2_eq, ge, hA2, st_200_m1 gS, st_200_m1 H2.1, st_200_11 gS, st_200_11 H2.1, st_200_18 gS, st_200_18 H2.1, st_211_m2 gS, st_211_m2 H2.1, st_211_m1 gS, st_211_m1 H2.1, st_218_m2 gS, st_218_m2 H2.1, st_218_m1 gS, st_218_m1 H2.1]; first | done | omega)) ?_
          try simp (disch := omega) only [up2_ne, up2_eq, ge, hA2, st_200_m1 gS, st_200_m1 H2.1, st_200_11 gS, st_200_11 H2.1, st_200_18 gS, st_200_18 H2.1, st_211_m2 gS, st_211_m2 H2.1, st_211_m1 gS, st_211_m1 H2.1, st_218_m2 gS, st_218_m2 H2.1, st_218_m1 gS, st_218_m1 H2.1]
          refine wp_cS1 okX12_needOf wX12_129 dX12_deal_86 rfl (Nat.le_of_ble_eq_true rfl) (Nat.le_of_ble_eq_true rfl) (s_X12_needOf (by exact ⟨by omega, by omega⟩)) (Nat.zero_le _) ?_
          try simp (disch := omega) only [up2_ne, up2_eq, ge, hA2, st_200_m1 gS, st_200_m1 H2.1, st_200_11 gS, st_200_11 H2.1, st_200_18 gS, st_200_18 H2.1, st_211_m2 gS, st_211_m2 H2.1, st_211_m1 gS, st_211_m1 H2.1, st_218_m2 gS, st_218_m2 H2.1, st_218_m1 gS, st_218_m1 H2.1]
          refine wp_icmp_ne (tgt := 102) (by first | assumption | exact bI_in _ | exact ⟨by omega, by omega⟩ | exact iAnd_in | exact iOr_in | exact iShr_in | exact iShl_in | exact iXor_in | exact hxs _) (by first | assumption | exact bI_in _ | exact ⟨by omega, by omega⟩ | exact iAnd_in | exact iOr_in | exact iShr_in | exact iShl_in | exact iXor_in | exact hxs _) dX12_deal_89 (by decide) (fun c4 => ?_) (fun c4 => ?_)
          · refine wp_iinc rfl rfl dX12_deal_102 rfl rfl ?_
            try simp only [List.set_cons_zero, List.set_cons_succ]
            refine wp_goto (tgt := 4) dX12_deal_105 (by decide) ?_
            refine wp_dropAt 3 rfl (wp_dropAt 4 rfl (wp_dropAt 5 rfl ?_))
            have ih := ih (by omega)
            first
              | (have ek : k = nd m2 n := by omega
                 have hd : dOk m2 n := ⟨hz, by rw [← ek, hp]; exact hp1⟩
                 have z := ih (up2 g 218 n p) (gS.upA (by decide +kernel) (by omega)) (by
                   intro x y q
                   unfold dlS
                   rw [if_pos hd, ← ek, hp]
                   by_cases c : x = 218 ∧ y = n
                   · rw [c.1, c.2, up2_eq, dlM_p (Or.inr ⟨rfl, rfl⟩)]
                   · rw [up2_ne (by omega), dlM_ne (by omega) (by omega)]
                     exact ge x y q) (fun x y q => by rw [up2_ne (by omega)]; exact gR x y q)
                 rw [bI_t hd] at z
                 exact z)
              | (have hx : pks m2 n (k + 1) = -1 := by rw [hps, if_pos (Or.inr (by omega))]
                 have ey := pks_x hx (nd m2 n - (k + 1))
                 rw [show k + 1 + (nd m2 n - (k + 1)) = nd m2 n by omega] at ey
                 have hd : ¬ dOk m2 n := fun z => z.2 ey
                 have z := ih g gS (by unfold dlS; rw [if_neg hd]; exact ge) gR
                 rw [bI_f hd, Int.add_zero] at z
                 exact z)
          · refine wp_aload_n rfl rfl dX12_deal_92 ?_
            refine wp_getfield1 (z := 13) (kI := 18) fX12_55 dX12_deal_93 (by first | omega | (simp (disch := omega) only [up2_ne, up2_eq, ge, hA2, st_200_m1 gS, st_200_m1 H2.1, st_200_11 gS, st_200_11 H2.1, st_200_18 gS, st_200_18 H2.1, st_211_m2 gS, st_211_m2 H2.1, st_211_m1 gS, st_211_m1 H2.1, st_218_m2 gS, st_218_m2 H2.1, st_218_m1 gS, st_218_m1 H2.1]; first | done | omega)) (by first | assumption | (simp (disch := omega) only [up2_ne, up2_eq, ge, hA2, st_200_m1 gS, st_200_m1 H2.1, st_200_11 gS, st_200_11 H2.1, st_200_18 gS, st_200_18 H2.1, st_211_m2 gS, st_211_m2 H2.1, st_211_m1 gS, st_211_m1 H2.1, st_218_m2 gS, st_218_m2 H2.1, st_218_m1 gS, st_218_m1 H2.1]; first | done | rfl | omega)) rfl rfl ?_
            try simp (disch := omega) only [up2_ne, up2_eq, ge, hA2, st_200_m1 gS, st_200_m1 H2.1, st_200_11 gS, st_200_11 H2.1, st_200_18 gS, st_200_18 H2.1, st_211_m2 gS, st_211_m2 H2.1, st_211_m1 gS, st_211_m1 H2.1, st_218_m2 gS, st_218_m2 H2.1, st_218_m1 gS, st_218_m1 H2.1]
            refine wp_iload_n rfl rfl dX12_deal_96 ?_
            refine wp_iload_n rfl rfl dX12_deal_97 ?_
            refine wp_iastore1 dX12_deal_98 (by first | omega | (simp (disch := omega) only [up2_ne, up2_eq, ge, hA2, st_200_m1 gS, st_200_m1 H2.1, st_200_11 gS, st_200_11 H2.1, st_200_18 gS, st_200_18 H2.1, st_211_m2 gS, st_211_m2 H2.1, st_211_m1 gS, st_211_m1 H2.1, st_218_m2 gS, st_218_m2 H2.1, st_218_m1 gS, st_218_m1 H2.1]; first | done | omega)) (by first | assumption | (simp (disch := omega) only [up2_ne, up2_eq, ge, hA2, st_200_m1 gS, st_200_m1 H2.1, st_200_11 gS, st_200_11 H2.1, st_200_18 gS, st_200_18 H2.1, st_211_m2 gS, st_211_m2 H2.1, st_211_m1 gS, st_211_m1 H2.1, st_218_m2 gS, st_218_m2 H2.1, st_218_m1 gS, st_218_m1 H2.1]; first | done | rfl | omega)) (by first | omega | (simp (disch := omega) only [up2_ne, up2_eq, ge, hA2, st_200_m1 gS, st_200_m1 H2.1, st_200_11 gS, st_200_11 H2.1, st_200_18 gS, st_200_18 H2.1, st_211_m2 gS, st_211_m2 H2.1, st_211_m1 gS, st_211_m1 H2.1, st_218_m2 gS, st_218_m2 H2.1, st_218_m1 gS, st_218_m1 H2.1]; first | done | omega)) (by first | omega | (simp (disch := omega) only [up2_ne, up2_eq, ge, hA2, st_200_m1 gS, st_200_m1 H2.1, st_200_11 gS, st_200_11 H2.1, st_200_18 gS, st_200_18 H2.1, st_211_m2 gS, st_211_m2 H2.1, st_211_m1 gS, st_211_m1 H2.1, st_218_m2 gS, st_218_m2 H2.1, st_218_m1 gS, st_218_m1 H2.1]; first | done | omega)) ?_
            refine wp_iinc rfl rfl dX12_deal_99 rfl rfl ?_
            try simp only [List.set_cons_zero, List.set_cons_succ]
            refine wp_iinc rfl rfl dX12_deal_102 rfl rfl ?_
            try simp only [List.set_cons_zero, List.set_cons_succ]
            refine wp_goto (tgt := 4) dX12_deal_105 (by decide) ?_
            refine wp_dropAt 3 rfl (wp_dropAt 4 rfl (wp_dropAt 5 rfl ?_))
            have ih := ih (by omega)
            first
              | (have ek : k = nd m2 n := by omega
                 have hd : dOk m2 n := ⟨hz, by rw [← ek, hp]; exact hp1⟩
                 have z := ih (up2 g 218 n p) (gS.upA (by decide +kernel) (by omega)) (by
                   intro x y q
                   unfold dlS
                   rw [if_pos hd, ← ek, hp]
                   by_cases c : x = 218 ∧ y = n
                   · rw [c.1, c.2, up2_eq, dlM_p (Or.inr ⟨rfl, rfl⟩)]
                   · rw [up2_ne (by omega), dlM_ne (by omega) (by omega)]
                     exact ge x y q) (fun x y q => by rw [up2_ne (by omega)]; exact gR x y q)
                 rw [bI_t hd] at z
                 exact z)
              | (have hx : pks m2 n (k + 1) = -1 := by rw [hps, if_pos (Or.inr (by omega))]
                 have ey := pks_x hx (nd m2 n - (k + 1))
                 rw [show k + 1 + (nd m2 n - (k + 1)) = nd m2 n by omega] at ey
                 have hd : ¬ dOk m2 n := fun z => z.2 ey
                 have z := ih g gS (by unfold dlS; rw [if_neg hd]; exact ge) gR
                 rw [bI_f hd, Int.add_zero] at z
                 exact z)
        · refine wp_iload_n rfl rfl dX12_deal_57 ?_
          refine wp_iconst dX12_deal_58 ?_
          refine wp_iload rfl dX12_deal_59 ?_
          refine wp_ishl dX12_deal_61 ?_
          refine wp_ior dX12_deal_62 ?_
          refine wp_istore_n rfl dX12_deal_63 rfl (Nat.le_of_ble_eq_true rfl) rfl ?_
          try simp only [List.set_cons_zero, List.set_cons_succ]
          refine wp_iinc rfl rfl dX12_deal_64 rfl rfl ?_
          try simp only [List.set_cons_zero, List.set_cons_succ]
          refine wp_aload_n rfl rfl dX12_deal_67 ?_
          refine wp_iload_n rfl rfl dX12_deal_68 ?_
          refine wp_iload_n rfl rfl dX12_deal_69 ?_
          refine wp_cV2 (ci := 12) okX12_bestFor rfl rfl wX12_292 dX12_deal_70 rfl (Nat.le_of_ble_eq_true rfl) (Nat.le_of_ble_eq_true rfl) (by first | omega | (simp (disch := omega) only [up2_ne, up2_eq, ge, hA2, st_200_m1 gS, st_200_m1 H2.1, st_200_11 gS, st_200_11 H2.1, st_200_18 gS, st_200_18 H2.1, st_211_m2 gS, st_211_m2 H2.1, st_211_m1 gS, st_211_m1 H2.1, st_218_m2 gS, st_218_m2 H2.1, st_218_m1 gS, st_218_m1 H2.1]; first | done | omega)) (by first | assumption | (simp (disch := omega) only [up2_ne, up2_eq, ge, hA2, st_200_m1 gS, st_200_m1 H2.1, st_200_11 gS, st_200_11 H2.1, st_200_18 gS, st_200_18 H2.1, st_211_m2 gS, st_211_m2 H2.1, st_211_m1 gS, st_211_m1 H2.1, st_218_m2 gS, st_218_m2 H2.1, st_218_m1 gS, st_218_m1 H2.1]; first | done | rfl | omega)) (s_X12_bestFor H2 ge gS (by omega) (by omega) (hor (by omega)).1 (hor (by omega)).2.1) (Nat.zero_le _) ?_
          try simp (disch := omega) only [up2_ne, up2_eq, ge, hA2, st_200_m1 gS, st_200_m1 H2.1, st_200_11 gS, st_200_11 H2.1, st_200_18 gS, st_200_18 H2.1, st_211_m2 gS, st_211_m2 H2.1, st_211_m1 gS, st_211_m1 H2.1, st_218_m2 gS, st_218_m2 H2.1, st_218_m1 gS, st_218_m1 H2.1]
          refine wp_istore dX12_deal_73 rfl (Nat.le_of_ble_eq_true rfl) rfl ?_
          try simp only [List.set_cons_zero, List.set_cons_succ]
          refine wp_goto (tgt := 37) dX12_deal_75 (by decide) ?_
          exact ihk (by omega) _ (by rw [hps, if_neg (by omega)]) (by have := hor (by omega); omega)
    refine wp_iload_n rfl rfl dX12_deal_4 ?_
    refine wp_aload_n rfl rfl dX12_deal_5 ?_
    refine wp_getfield1 (z := 13) (kI := 10) fX12_10 dX12_deal_6 (by first | omega | (simp (disch := omega) only [up2_ne, up2_eq, ge, hA2, st_200_m1 gS, st_200_m1 H2.1, st_200_11 gS, st_200_11 H2.1, st_200_18 gS, st_200_18 H2.1, st_211_m2 gS, st_211_m2 H2.1, st_211_m1 gS, st_211_m1 H2.1, st_218_m2 gS, st_218_m2 H2.1, st_218_m1 gS, st_218_m1 H2.1]; first | done | omega)) (by first | assumption | (simp (disch := omega) only [up2_ne, up2_eq, ge, hA2, st_200_m1 gS, st_200_m1 H2.1, st_200_11 gS, st_200_11 H2.1, st_200_18 gS, st_200_18 H2.1, st_211_m2 gS, st_211_m2 H2.1, st_211_m1 gS, st_211_m1 H2.1, st_218_m2 gS, st_218_m2 H2.1, st_218_m1 gS, st_218_m1 H2.1]; first | done | rfl | omega)) rfl rfl ?_
    try simp (disch := omega) only [up2_ne, up2_eq, ge, hA2, st_200_m1 gS, st_200_m1 H2.1, st_200_11 gS, st_200_11 H2.1, st_200_18 gS, st_200_18 H2.1, st_211_m2 gS, st_211_m2 H2.1, st_211_m1 gS, st_211_m1 H2.1, st_218_m2 gS, st_218_m2 H2.1, st_218_m1 gS, st_218_m1 H2.1]
    refine wp_icmp_ge (tgt := 108) (by first | assumption | exact bI_in _ | exact ⟨by omega, by omega⟩ | exact iAnd_in | exact iOr_in | exact iShr_in | exact iShl_in | exact iXor_in | exact hxs _) (by first | assumption | exact bI_in _ | exact ⟨by omega, by omega⟩ | exact iAnd_in | exact iOr_in | exact iShr_in | exact iShl_in | exact iXor_in | exact hxs _) dX12_deal_9 (by decide) (fun c5 => ?_) (fun c5 => ?_)
    · refine wp_iload_n rfl rfl dX12_deal_108 ?_
      refine wp_iret dX12_deal_109 rfl ?_
      have en : n = (m 200 10).toNat := by omega
      rw [← en]
      subst hm2
      exact ⟨rfl, gS, ge, gR⟩
    · refine wp_aload_n rfl rfl dX12_deal_12 ?_
      refine wp_getfield1 (z := 13) (kI := 18) fX12_55 dX12_deal_13 (by first | omega | (simp (disch := omega) only [up2_ne, up2_eq, ge, hA2, st_200_m1 gS, st_200_m1 H2.1, st_200_11 gS, st_200_11 H2.1, st_200_18 gS, st_200_18 H2.1, st_211_m2 gS, st_211_m2 H2.1, st_211_m1 gS, st_211_m1 H2.1, st_218_m2 gS, st_218_m2 H2.1, st_218_m1 gS, st_218_m1 H2.1]; first | done | omega)) (by first | assumption | (simp (disch := omega) only [up2_ne, up2_eq, ge, hA2, st_200_m1 gS, st_200_m1 H2.1, st_200_11 gS, st_200_11 H2.1, st_200_18 gS, st_200_18 H2.1, st_211_m2 gS, st_211_m2 H2.1, st_211_m1 gS, st_211_m1 H2.1, st_218_m2 gS, st_218_m2 H2.1, st_218_m1 gS, st_218_m1 H2.1]; first | done | rfl | omega)) rfl rfl ?_
      try simp (disch := omega) only [up2_ne, up2_eq, ge, hA2, st_200_m1 gS, st_200_m1 H2.1, st_200_11 gS, st_200_11 H2.1, st_200_18 gS, st_200_18 H2.1, st_211_m2 gS, st_211_m2 H2.1, st_211_m1 gS, st_211_m1 H2.1, st_218_m2 gS, st_218_m2 H2.1, st_218_m1 gS, st_218_m1 H2.1]
      refine wp_iload_n rfl rfl dX12_deal_16 ?_
      refine wp_iaload1 dX12_deal_17 (by first | omega | (simp (disch := omega) only [up2_ne, up2_eq, ge, hA2, st_200_m1 gS, st_200_m1 H2.1, st_200_11 gS, st_200_11 H2.1, st_200_18 gS, st_200_18 H2.1, st_211_m2 gS, st_211_m2 H2.1, st_211_m1 gS, st_211_m1 H2.1, st_218_m2 gS, st_218_m2 H2.1, st_218_m1 gS, st_218_m1 H2.1]; first | done | omega)) (by first | assumption | (simp (disch := omega) only [up2_ne, up2_eq, ge, hA2, st_200_m1 gS, st_200_m1 H2.1, st_200_11 gS, st_200_11 H2.1, st_200_18 gS, st_200_18 H2.1, st_211_m2 gS, st_211_m2 H2.1, st_211_m1 gS, st_211_m1 H2.1, st_218_m2 gS, st_218_m2 H2.1, st_218_m1 gS, st_218_m1 H2.1]; first | done | rfl | omega)) (by first | omega | (simp (disch := omega) only [up2_ne, up2_eq, ge, hA2, st_200_m1 gS, st_200_m1 H2.1, st_200_11 gS, st_200_11 H2.1, st_200_18 gS, st_200_18 H2.1, st_211_m2 gS, st_211_m2 H2.1, st_211_m1 gS, st_211_m1 H2.1, st_218_m2 gS, st_218_m2 H2.1, st_218_m1 gS, st_218_m1 H2.1]; first | done | omega)) (by first | omega | (simp (disch := omega) only [up2_ne, up2_eq, ge, hA2, st_200_m1 gS, st_200_m1 H2.1, st_200_11 gS, st_200_11 H2.1, st_200_18 gS, st_200_18 H2.1, st_211_m2 gS, st_211_m2 H2.1, st_211_m1 gS, st_211_m1 H2.1, st_218_m2 gS, st_218_m2 H2.1, st_218_m1 gS, st_218_m1 H2.1]; first | done | omega)) ?_
      try simp (disch := omega) only [up2_ne, up2_eq, ge, hA2, st_200_m1 gS, st_200_m1 H2.1, st_200_11 gS, st_200_11 H2.1, st_200_18 gS, st_200_18 H2.1, st_211_m2 gS, st_211_m2 H2.1, st_211_m1 gS, st_211_m1 H2.1, st_218_m2 gS, st_218_m2 H2.1, st_218_m1 gS, st_218_m1 H2.1]
      refine wp_if_eq (tgt := 24) (by first | assumption | exact bI_in _ | exact ⟨by omega, by omega⟩ | exact iAnd_in | exact iOr_in | exact iShr_in | exact iShl_in | exact iXor_in | exact hxs _) dX12_deal_18 (by decide) (fun c6 => ?_) (fun c6 => ?_)
      · refine wp_iconst dX12_deal_24 ?_
        refine wp_istore_n rfl dX12_deal_25 rfl (Nat.le_of_ble_eq_true rfl) rfl ?_
        try simp only [List.set_cons_zero, List.set_cons_succ]
        refine wp_iconst dX12_deal_26 ?_
        refine wp_istore dX12_deal_27 rfl (Nat.le_of_ble_eq_true rfl) rfl ?_
        try simp only [List.set_cons_zero, List.set_cons_succ]
        refine wp_aload_n rfl rfl dX12_deal_29 ?_
        refine wp_iload_n rfl rfl dX12_deal_30 ?_
        refine wp_iload_n rfl rfl dX12_deal_31 ?_
        refine wp_cV2 (ci := 12) okX12_bestFor rfl rfl wX12_292 dX12_deal_32 rfl (Nat.le_of_ble_eq_true rfl) (Nat.le_of_ble_eq_true rfl) (by first | omega | (simp (disch := omega) only [up2_ne, up2_eq, ge, hA2, st_200_m1 gS, st_200_m1 H2.1, st_200_11 gS, st_200_11 H2.1, st_200_18 gS, st_200_18 H2.1, st_211_m2 gS, st_211_m2 H2.1, st_211_m1 gS, st_211_m1 H2.1, st_218_m2 gS, st_218_m2 H2.1, st_218_m1 gS, st_218_m1 H2.1]; first | done | omega)) (by first | assumption | (simp (disch := omega) only [up2_ne, up2_eq, ge, hA2, st_200_m1 gS, st_200_m1 H2.1, st_200_11 gS, st_200_11 H2.1, st_200_18 gS, st_200_18 H2.1, st_211_m2 gS, st_211_m2 H2.1, st_211_m1 gS, st_211_m1 H2.1, st_218_m2 gS, st_218_m2 H2.1, st_218_m1 gS, st_218_m1 H2.1]; first | done | rfl | omega)) (s_X12_bestFor H2 ge gS (by omega) (by omega) (by decide) (by decide)) (Nat.zero_le _) ?_
        try simp (disch := omega) only [up2_ne, up2_eq, ge, hA2, st_200_m1 gS, st_200_m1 H2.1, st_200_11 gS, st_200_11 H2.1, st_200_18 gS, st_200_18 H2.1, st_211_m2 gS, st_211_m2 H2.1, st_211_m1 gS, st_211_m1 H2.1, st_218_m2 gS, st_218_m2 H2.1, st_218_m1 gS, st_218_m1 H2.1]
        refine wp_istore dX12_deal_35 rfl (Nat.le_of_ble_eq_true rfl) rfl ?_
        try simp only [List.set_cons_zero, List.set_cons_succ]
        exact inner (by omega) (by omega) 0 (by omega) 0 rfl (by decide)
      · refine wp_goto (tgt := 102) dX12_deal_21 (by decide) ?_
        refine wp_iinc rfl rfl dX12_deal_102 rfl rfl ?_
        try simp only [List.set_cons_zero, List.set_cons_succ]
        refine wp_goto (tgt := 4) dX12_deal_105 (by decide) ?_
        have ih := ih (by omega)
        have hd : ¬ dOk m2 n := fun z => by have := z.1; omega
        have z := ih g gS (by unfold dlS; rw [if_neg hd]; exact ge) gR
        rw [bI_f hd, Int.add_zero] at z
        exact z
  show WP (gX (gq u)) MX12_deal (d + 2) b _ 0 [(2, 200), (9, 0), (9, 0), (9, 0), (9, 0), (9, 0)] [] h
  refine wp_iconst dX12_deal_0 ?_
  refine wp_istore_n rfl dX12_deal_1 rfl (Nat.le_of_ble_eq_true rfl) rfl ?_
  try simp only [List.set_cons_zero, List.set_cons_succ]
  refine wp_iconst dX12_deal_2 ?_
  refine wp_istore_n rfl dX12_deal_3 rfl (Nat.le_of_ble_eq_true rfl) rfl ?_
  try simp only [List.set_cons_zero, List.set_cons_succ]
  exact loop 0 (by omega) h hS e (fun _ _ _ => rfl)
theorem p_deal {u : gT} (j : Nat) (h : mH) (hj : j < 512) (hI : Inv j h) : PairI u Inv MX11_deal MX12_deal [] j h := by
  have hS := hI.1
  have hn := hI.ns
  have hb := dlC_b (m := h) (h 200 10).toNat
  refine (s_X11_deal (u := u) (d := 2043) (b := 300) hI Cl_rfl hS).mono ?_
  rintro r h1 ⟨rfl, gS, ge, gR⟩ -
  refine ⟨_, rfl, ⟨by omega, by omega⟩, (s_X12_deal (u := u) (d := 2045) (b := 0) (m := h) hI (fun x k q => gR x k q.1) gS).mono ?_⟩
  rintro r h2 ⟨rfl, gS2, ge2, gR2⟩ -
  exact ⟨rfl, Inv_step (Inv_dlN hI (h 200 10).toNat (by omega)).1 gS2 ge gR2 ge2⟩
