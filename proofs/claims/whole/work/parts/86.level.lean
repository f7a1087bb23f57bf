/-! ===== text: the class's descent, a level ===== -/
theorem lv_23 : lvT 23 = -1 := rfl
theorem lv_tk {t : Int} {l : Int} (l0 : 0 ≤ l) (h : lvT t = l) : t ≠ 22 ∧ t ≠ 23 := by
  have := lv_rk t
  omega
set_option maxHeartbeats 4000000 in
theorem lev_row {u : gT} {tc tb pa x n s : Int} {f : Int → Int} {N D k : Nat} (hO : qO u tc tb pa x n s f N (D + 2) (k + 1)) (hL : qL u tc tb pa x n s f N (D + 2) k) : qL u tc tb pa x n s f N (D + 3) (k + 1) := by
  intro b g op st lev lv hlv hl C S w ho hk
  have hcb := C.1.1
  have T := C.1.2.1
  have hpa := C.2.2.1.1
  have h6 := C.2.2.1.2
  have hx6 := C.2.2.2.1
  have X := C.2.2.2.2
  have hN := qC_N C
  have hTK := qC_tok C
  have hcu := cu_b (f := f) (st := st)
  refine Rlt.of ?_
  have lp : lev < 5 → ∀ (cnt : Nat) (mst i5 : Int) (g1 : mH) (st1 : pR), qC g1 tc tb pa x n f N → qS g1 pa x s op N st1 → qfr g g1 pa x s → qW s N st1 → mst - i5 = cnt → 0 ≤ i5 → mst ≤ 160 → bd st1 (fun i oo => repP (tk f) (prs (tk f) (Vf f) k (lev + 1) op) lev cnt i oo) = bd st (fun i oo => prs (tk f) (Vf f) (k + 1) lev op i oo) → WP (gX (gq u)) MX5_parseLevel (D + 3) b (fun r g1 => r = (9, 0) ∧ qS g1 pa x s op N (bd st (fun i oo => prs (tk f) (Vf f) (k + 1) lev op i oo)) ∧ qfr g g1 pa x s) 88 [(2, pa), (2, tc), (2, 40 + x), (0, lv), (0, mst), (0, i5), (9, 0)] [] g1 := by
    intro hl5 cnt
    induction cnt with
    | zero =>
      intro mst i5 g1 st1 C1 S1 K1 w1 hm hi5 hm2 hR
      refine wp_iload rfl dX5_parseLevel_88 ?_
      refine wp_iload rfl dX5_parseLevel_90 ?_
      refine wp_icmp_ge (tgt := 148) (by first | assumption | exact bI_in _ | exact ⟨by omega, by omega⟩ | exact iAnd_in | exact iOr_in | exact iShr_in | exact iShl_in | exact iXor_in | exact hxs _) (by first | assumption | exact bI_in _ | exact ⟨by omega, by omega⟩ | exact iAnd_in | exact iOr_in | exact iShr_in | exact iShl_in | exact iXor_in | exact hxs _) dX5_parseLevel_92 (by decide) (fun c1 => ?_) (fun c1 => by exfalso; omega)
      refine wp_vret dX5_parseLevel_148 rfl ?_
      exact ⟨rfl, by rw [← hR]; have e := bd_id (r := st1); rw [show (fun i oo => repP (tk f) (prs (tk f) (Vf f) k (lev + 1) op) (lev : Int) 0 i oo) = (fun i oo => (.inr (i, oo) : pR)) from rfl, e]; exact S1, K1⟩
    | succ cnt ih =>
      intro mst i5 g1 st1 C1 S1 K1 w1 hm hi5 hm2 hR
      have h61 := C1.2.2.1.2
      have T1 := C1.1.2.1
      have X1 := C1.2.2.2.2
      have hcu1 := cu_b (f := f) (st := st1)
      have hin : InI (cu f st1) := ⟨by omega, by omega⟩
      have hlr := lv_rk (cu f st1)
      refine wp_iload rfl dX5_parseLevel_88 ?_
      refine wp_iload rfl dX5_parseLevel_90 ?_
      refine wp_icmp_ge (tgt := 148) (by first | assumption | exact bI_in _ | exact ⟨by omega, by omega⟩ | exact iAnd_in | exact iOr_in | exact iShr_in | exact iShl_in | exact iXor_in | exact hxs _) (by first | assumption | exact bI_in _ | exact ⟨by omega, by omega⟩ | exact iAnd_in | exact iOr_in | exact iShr_in | exact iShl_in | exact iXor_in | exact hxs _) dX5_parseLevel_92 (by decide) (fun c2 => by exfalso; omega) (fun c2 => ?_)
      refine wp_aload_n rfl rfl dX5_parseLevel_95 ?_
      refine wp_aload_n rfl rfl dX5_parseLevel_96 ?_
      refine wp_cV1 (ci := 5) okX5_current rfl rfl wX5_51 dX5_parseLevel_97 rfl (Nat.le_of_ble_eq_true rfl) (Nat.le_of_ble_eq_true rfl) (by first | omega | (simp (disch := omega) only [up2_ne, up2_eq, tpq_a T1, h61, txq_a X1, txq_b X1, txq_c X1, txq_d X1, txq_e X1, txq_f X1, txq_g X1]; first | done | omega)) (by first | assumption | (simp (disch := omega) only [up2_ne, up2_eq, tpq_a T1, h61, txq_a X1, txq_b X1, txq_c X1, txq_d X1, txq_e X1, txq_f X1, txq_g X1]; first | done | rfl | omega)) (cur_row C1 S1 (qW_1 w1)) (Nat.zero_le _) ?_
      try simp (disch := omega) only [up2_ne, up2_eq, tpq_a T1, h61, txq_a X1, txq_b X1, txq_c X1, txq_d X1, txq_e X1, txq_f X1, txq_g X1]
      refine wp_cS1 okX5_levelOf wX5_65 dX5_parseLevel_100 rfl (Nat.le_of_ble_eq_true rfl) (Nat.le_of_ble_eq_true rfl) (s_X5_levelOf hin) (Nat.zero_le _) ?_
      try simp (disch := omega) only [up2_ne, up2_eq, tpq_a T1, h61, txq_a X1, txq_b X1, txq_c X1, txq_d X1, txq_e X1, txq_f X1, txq_g X1]
      refine wp_iload_n rfl rfl dX5_parseLevel_103 ?_
      skip
      refine wp_icmp_ne (tgt := 148) (by first | assumption | exact bI_in _ | exact ⟨by omega, by omega⟩ | exact iAnd_in | exact iOr_in | exact iShr_in | exact iShl_in | exact iXor_in | exact hxs _) (by first | assumption | exact bI_in _ | exact ⟨by omega, by omega⟩ | exact iAnd_in | exact iOr_in | exact iShr_in | exact iShl_in | exact iXor_in | exact hxs _) dX5_parseLevel_104 (by decide) (fun c3 => ?_) (fun c3 => ?_)
      · refine wp_vret dX5_parseLevel_148 rfl ?_
        refine ⟨rfl, ?_, K1⟩
        rw [← hR]
        rcases st1 with j | ⟨i, oo⟩
        · exact S1
        · have hcv : cu f (.inr (i, oo)) = tk f i := rfl
          have hcl : lvT (cu f (.inr (i, oo))) = lvT (tk f i) := rfl
          show qS _ pa x s op N (repP (tk f) (prs (tk f) (Vf f) k (lev + 1) op) lev (cnt + 1) i oo)
          rw [repP, if_neg (by omega)]
          exact S1
      · have hne23 : cu f st1 ≠ 23 := by
          intro q
          have e : lvT (cu f st1) = -1 := by
            rw [q]
            rfl
          omega
        obtain ⟨i, oo, rfl⟩ := cu_inr (f := f) (st := st1) hne23
        have hcv : cu f (.inr (i, oo)) = tk f i := rfl
        have hcl : lvT (cu f (.inr (i, oo))) = lvT (tk f i) := rfl
        have hi := (qW_i w1).1
        have hil := (qW_i w1).2
        have hlt : i < N := qC_lt C1 hi (lv_tk (l := lv) (by omega) (by omega))
        have h01 : g1 pa 0 = i := S1.1
        refine wp_aload_n rfl rfl dX5_parseLevel_107 ?_
        refine wp_aload_n rfl rfl dX5_parseLevel_108 ?_
        refine wp_cV1 (ci := 5) okX5_current rfl rfl wX5_51 dX5_parseLevel_109 rfl (Nat.le_of_ble_eq_true rfl) (Nat.le_of_ble_eq_true rfl) (by first | omega | (simp (disch := omega) only [up2_ne, up2_eq, tpq_a T1, h61, txq_a X1, txq_b X1, txq_c X1, txq_d X1, txq_e X1, txq_f X1, txq_g X1, h01]; first | done | omega)) (by first | assumption | (simp (disch := omega) only [up2_ne, up2_eq, tpq_a T1, h61, txq_a X1, txq_b X1, txq_c X1, txq_d X1, txq_e X1, txq_f X1, txq_g X1, h01]; first | done | rfl | omega)) (cur_row C1 S1 (qW_1 w1)) (Nat.zero_le _) ?_
        try simp (disch := omega) only [up2_ne, up2_eq, tpq_a T1, h61, txq_a X1, txq_b X1, txq_c X1, txq_d X1, txq_e X1, txq_f X1, txq_g X1, h01]
        refine wp_istore dX5_parseLevel_112 rfl (Nat.le_of_ble_eq_true rfl) rfl ?_
        try simp only [List.set_cons_zero, List.set_cons_succ]
        refine wp_aload_n rfl rfl dX5_parseLevel_114 ?_
        refine wp_dup (by decide) dX5_parseLevel_115 ?_
        refine wp_getfield1 (z := 6) (kI := 0) fX5_19 dX5_parseLevel_116 (by first | omega | (simp (disch := omega) only [up2_ne, up2_eq, tpq_a T1, h61, txq_a X1, txq_b X1, txq_c X1, txq_d X1, txq_e X1, txq_f X1, txq_g X1, h01]; first | done | omega)) (by first | assumption | (simp (disch := omega) only [up2_ne, up2_eq, tpq_a T1, h61, txq_a X1, txq_b X1, txq_c X1, txq_d X1, txq_e X1, txq_f X1, txq_g X1, h01]; first | done | rfl | omega)) rfl rfl ?_
        try simp (disch := omega) only [up2_ne, up2_eq, tpq_a T1, h61, txq_a X1, txq_b X1, txq_c X1, txq_d X1, txq_e X1, txq_f X1, txq_g X1, h01]
        refine wp_iconst dX5_parseLevel_119 ?_
        refine wp_iadd dX5_parseLevel_120 ?_
        refine wp_putfield1 (z := 6) (kI := 0) fX5_19 dX5_parseLevel_121 (by first | omega | (simp (disch := omega) only [up2_ne, up2_eq, tpq_a T1, h61, txq_a X1, txq_b X1, txq_c X1, txq_d X1, txq_e X1, txq_f X1, txq_g X1, h01]; first | done | omega)) (by first | assumption | (simp (disch := omega) only [up2_ne, up2_eq, tpq_a T1, h61, txq_a X1, txq_b X1, txq_c X1, txq_d X1, txq_e X1, txq_f X1, txq_g X1, h01]; first | done | rfl | omega)) rfl rfl ?_
        have K2 : qfr g1 (up2 g1 pa 0 ((i : Int) + 1)) pa x s := qfr_pa (by omega)
        have S2 := qS_at hx6 hpa S1
        generalize hg2 : up2 g1 pa 0 ((i : Int) + 1) = g2 at *
        have C2 := qC_fr C1 K2
        have h62 := C2.2.2.1.2
        have T2 := C2.1.2.1
        have X2 := C2.2.2.2.2
        have hroom : ∀ y, bd (.inr (i + 1, oo)) (fun i oo => prs (tk f) (Vf f) k (lev + 1) op i oo) = .inr y → s + y.2.length < 160 := fun y q => by
          have := qW_prs1 hTK (by omega) (by omega) hil y q
          omega
        refine wp_aload_n rfl rfl dX5_parseLevel_124 ?_
        refine wp_aload_n rfl rfl dX5_parseLevel_125 ?_
        refine wp_aload_n rfl rfl dX5_parseLevel_126 ?_
        refine wp_iload_n rfl rfl dX5_parseLevel_127 ?_
        refine wp_iconst dX5_parseLevel_128 ?_
        refine wp_iadd dX5_parseLevel_129 ?_
        refine wp_cV3r (ci := 5) okX5_parseLevel rfl rfl wX5_35 dX5_parseLevel_130 (Nat.le_of_ble_eq_true rfl) (Nat.le_of_ble_eq_true rfl) (by first | omega | (simp (disch := omega) only [up2_ne, up2_eq, tpq_a T2, h62, txq_a X2, txq_b X2, txq_c X2, txq_d X2, txq_e X2, txq_f X2, txq_g X2]; first | done | omega)) (by first | assumption | (simp (disch := omega) only [up2_ne, up2_eq, tpq_a T2, h62, txq_a X2, txq_b X2, txq_c X2, txq_d X2, txq_e X2, txq_f X2, txq_g X2]; first | done | rfl | omega)) (hL _ g2 op (.inr (i + 1, oo)) (lev + 1) (lv + 1) (by omega) (by omega) C2 S2 (qW_of (by omega) (by omega)) (by omega) (by omega)) (Nat.zero_le _) ?_
        rintro r g3 ⟨rfl, S3, K3⟩ -
        have C3 := qC_fr C2 K3
        have h63 := C3.2.2.1.2
        have T3 := C3.1.2.1
        have X3 := C3.2.2.2.2
        show WP _ _ _ _ _ _ _ [] _
        refine wp_aload_n rfl rfl dX5_parseLevel_133 ?_
        refine wp_iload rfl dX5_parseLevel_134 ?_
        refine wp_cS1 okX10_codeOf wX5_59 dX5_parseLevel_136 rfl (Nat.le_of_ble_eq_true rfl) (Nat.le_of_ble_eq_true rfl) (s_X10_codeOf) (Nat.zero_le _) ?_
        try simp (disch := omega) only [up2_ne, up2_eq, tpq_a T3, h63, txq_a X3, txq_b X3, txq_c X3, txq_d X3, txq_e X3, txq_f X3, txq_g X3]
        refine wp_cV1r (ci := 10) okX10_add rfl rfl wX5_62 dX5_parseLevel_139 (Nat.le_of_ble_eq_true rfl) (Nat.le_of_ble_eq_true rfl) (by first | omega | (simp (disch := omega) only [up2_ne, up2_eq, tpq_a T3, h63, txq_a X3, txq_b X3, txq_c X3, txq_d X3, txq_e X3, txq_f X3, txq_g X3]; first | done | omega)) (by first | assumption | (simp (disch := omega) only [up2_ne, up2_eq, tpq_a T3, h63, txq_a X3, txq_b X3, txq_c X3, txq_d X3, txq_e X3, txq_f X3, txq_g X3]; first | done | rfl | omega)) (add_row C3 S3 hroom) (Nat.zero_le _) ?_
        rintro r g4 ⟨rfl, S4, K4⟩ -
        have C4 := qC_fr C3 K4
        have h64 := C4.2.2.1.2
        have T4 := C4.1.2.1
        have X4 := C4.2.2.2.2
        show WP _ _ _ _ _ _ _ [] _
        refine wp_iinc rfl rfl dX5_parseLevel_142 rfl rfl ?_
        try simp only [List.set_cons_zero, List.set_cons_succ]
        refine wp_goto (tgt := 88) dX5_parseLevel_145 (by decide) ?_
        refine wp_dropAt 6 rfl ?_
        refine ih mst (i5 + 1) g4 _ C4 S4 (qfr_trans K1 (qfr_trans K2 (qfr_trans K3 K4))) ?_ (by omega) (by omega) hm2 ?_
        · intro y q
          obtain ⟨i1, o1, e1, e2⟩ := bd_inr q
          cases e2
          have := qW_prs1 hTK (by omega) (by omega) hil _ e1
          dsimp only at this ⊢
          rw [List.length_append, List.length_singleton]
          omega
        · rw [← hR]
          show _ = repP (tk f) (prs (tk f) (Vf f) k (lev + 1) op) lev (cnt + 1) i oo
          rw [repP, if_pos (by omega), bd_bd]
          rfl
  have main : lev < 5 → ¬ (lev = 2 ∧ cu f st = 12) → WP (gX (gq u)) MX5_parseLevel (D + 3) b (fun r g1 => r = (9, 0) ∧ qS g1 pa x s op N (bd st (fun i oo => prs (tk f) (Vf f) (k + 1) lev op i oo)) ∧ qfr g g1 pa x s) 62 [(2, pa), (2, tc), (2, 40 + x), (0, lv), (9, 0), (9, 0), (9, 0)] [] g := by
    intro hl5 hne
    have hR : bd (bd st (fun i oo => prs (tk f) (Vf f) k (lev + 1) op i oo)) (fun i oo => repP (tk f) (prs (tk f) (Vf f) k (lev + 1) op) lev (if lev = 2 then 1 else 160) i oo) = bd st (fun i oo => prs (tk f) (Vf f) (k + 1) lev op i oo) := by
      rcases st with j | ⟨i, oo⟩
      · rfl
      · exact (prsL hl5 hne).symm
    refine wp_aload_n rfl rfl dX5_parseLevel_62 ?_
    refine wp_aload_n rfl rfl dX5_parseLevel_63 ?_
    refine wp_aload_n rfl rfl dX5_parseLevel_64 ?_
    refine wp_iload_n rfl rfl dX5_parseLevel_65 ?_
    refine wp_iconst dX5_parseLevel_66 ?_
    refine wp_iadd dX5_parseLevel_67 ?_
    refine wp_cV3r (ci := 5) okX5_parseLevel rfl rfl wX5_35 dX5_parseLevel_68 (Nat.le_of_ble_eq_true rfl) (Nat.le_of_ble_eq_true rfl) (by first | omega | (simp (disch := omega) only [up2_ne, up2_eq, tpq_a T, h6, txq_a X, txq_b X, txq_c X, txq_d X, txq_e X, txq_f X, txq_g X]; first | done | omega)) (by first | assumption | (simp (disch := omega) only [up2_ne, up2_eq, tpq_a T, h6, txq_a X, txq_b X, txq_c X, txq_d X, txq_e X, txq_f X, txq_g X]; first | done | rfl | omega)) (hL _ g op st (lev + 1) (lv + 1) (by omega) (by omega) C S w (by omega) (by omega)) (Nat.zero_le _) ?_
    rintro r g1 ⟨rfl, S1, K1⟩ -
    have C1 := qC_fr C K1
    have h61 := C1.2.2.1.2
    have T1 := C1.1.2.1
    have X1 := C1.2.2.2.2
    show WP _ _ _ _ _ _ _ [] _
    refine wp_iload_n rfl rfl dX5_parseLevel_71 ?_
    refine wp_iconst dX5_parseLevel_72 ?_
    refine wp_icmp_ne (tgt := 80) (by first | assumption | exact bI_in _ | exact ⟨by omega, by omega⟩ | exact iAnd_in | exact iOr_in | exact iShr_in | exact iShl_in | exact iXor_in | exact hxs _) (by first | assumption | exact bI_in _ | exact ⟨by omega, by omega⟩ | exact iAnd_in | exact iOr_in | exact iShr_in | exact iShl_in | exact iXor_in | exact hxs _) dX5_parseLevel_73 (by decide) (fun c4 => ?_) (fun c4 => ?_)
    · refine wp_sipush (by decide) dX5_parseLevel_80 ?_
      refine wp_istore dX5_parseLevel_83 rfl (Nat.le_of_ble_eq_true rfl) rfl ?_
      try simp only [List.set_cons_zero, List.set_cons_succ]
      refine wp_iconst dX5_parseLevel_85 ?_
      refine wp_istore dX5_parseLevel_86 rfl (Nat.le_of_ble_eq_true rfl) rfl ?_
      try simp only [List.set_cons_zero, List.set_cons_succ]
      first
        | (have c2 : lev = 2 := by omega
           rw [if_pos c2] at hR
           exact lp hl5 1 1 0 g1 _ C1 S1 K1 (qW_prs hTK (by omega) w) (by omega) (by omega) (by omega) hR)
        | (have c2 : ¬ lev = 2 := by omega
           rw [if_neg c2] at hR
           exact lp hl5 160 160 0 g1 _ C1 S1 K1 (qW_prs hTK (by omega) w) (by omega) (by omega) (by omega) hR)
    · refine wp_iconst dX5_parseLevel_76 ?_
      refine wp_goto (tgt := 83) dX5_parseLevel_77 (by decide) ?_
      refine wp_istore dX5_parseLevel_83 rfl (Nat.le_of_ble_eq_true rfl) rfl ?_
      try simp only [List.set_cons_zero, List.set_cons_succ]
      refine wp_iconst dX5_parseLevel_85 ?_
      refine wp_istore dX5_parseLevel_86 rfl (Nat.le_of_ble_eq_true rfl) rfl ?_
      try simp only [List.set_cons_zero, List.set_cons_succ]
      first
        | (have c2 : lev = 2 := by omega
           rw [if_pos c2] at hR
           exact lp hl5 1 1 0 g1 _ C1 S1 K1 (qW_prs hTK (by omega) w) (by omega) (by omega) (by omega) hR)
        | (have c2 : ¬ lev = 2 := by omega
           rw [if_neg c2] at hR
           exact lp hl5 160 160 0 g1 _ C1 S1 K1 (qW_prs hTK (by omega) w) (by omega) (by omega) (by omega) hR)
  show WP (gX (gq u)) MX5_parseLevel (D + 3) b _ 0 [(2, pa), (2, tc), (2, 40 + x), (0, lv), (9, 0), (9, 0), (9, 0)] [] g
  refine wp_iload_n rfl rfl dX5_parseLevel_0 ?_
  refine wp_iconst dX5_parseLevel_1 ?_
  refine wp_icmp_lt (tgt := 12) (by first | assumption | exact bI_in _ | exact ⟨by omega, by omega⟩ | exact iAnd_in | exact iOr_in | exact iShr_in | exact iShl_in | exact iXor_in | exact hxs _) (by first | assumption | exact bI_in _ | exact ⟨by omega, by omega⟩ | exact iAnd_in | exact iOr_in | exact iShr_in | exact iShl_in | exact iXor_in | exact hxs _) dX5_parseLevel_2 (by decide) (fun c5 => ?_) (fun c5 => ?_)
  · refine wp_iload_n rfl rfl dX5_parseLevel_12 ?_
    refine wp_iconst dX5_parseLevel_13 ?_
    refine wp_icmp_ne (tgt := 62) (by first | assumption | exact bI_in _ | exact ⟨by omega, by omega⟩ | exact iAnd_in | exact iOr_in | exact iShr_in | exact iShl_in | exact iXor_in | exact hxs _) (by first | assumption | exact bI_in _ | exact ⟨by omega, by omega⟩ | exact iAnd_in | exact iOr_in | exact iShr_in | exact iShl_in | exact iXor_in | exact hxs _) dX5_parseLevel_14 (by decide) (fun c6 => ?_) (fun c6 => ?_)
    · exact main (by omega) (by omega)
    · refine wp_aload_n rfl rfl dX5_parseLevel_17 ?_
      refine wp_aload_n rfl rfl dX5_parseLevel_18 ?_
      refine wp_cV1 (ci := 5) okX5_current rfl rfl wX5_51 dX5_parseLevel_19 rfl (Nat.le_of_ble_eq_true rfl) (Nat.le_of_ble_eq_true rfl) (by first | omega | (simp (disch := omega) only [up2_ne, up2_eq, tpq_a T, h6, txq_a X, txq_b X, txq_c X, txq_d X, txq_e X, txq_f X, txq_g X]; first | done | omega)) (by first | assumption | (simp (disch := omega) only [up2_ne, up2_eq, tpq_a T, h6, txq_a X, txq_b X, txq_c X, txq_d X, txq_e X, txq_f X, txq_g X]; first | done | rfl | omega)) (cur_row C S (qW_1 w)) (Nat.zero_le _) ?_
      try simp (disch := omega) only [up2_ne, up2_eq, tpq_a T, h6, txq_a X, txq_b X, txq_c X, txq_d X, txq_e X, txq_f X, txq_g X]
      refine wp_bipush (by decide) dX5_parseLevel_22 ?_
      refine wp_icmp_ne (tgt := 62) (by first | assumption | exact bI_in _ | exact ⟨by omega, by omega⟩ | exact iAnd_in | exact iOr_in | exact iShr_in | exact iShl_in | exact iXor_in | exact hxs _) (by first | assumption | exact bI_in _ | exact ⟨by omega, by omega⟩ | exact iAnd_in | exact iOr_in | exact iShr_in | exact iShl_in | exact iXor_in | exact hxs _) dX5_parseLevel_24 (by decide) (fun c7 => ?_) (fun c7 => ?_)
      · exact main (by omega) (by omega)
      · obtain ⟨i, oo, rfl⟩ := cu_inr (f := f) (st := st) (by omega)
        have hi := (qW_i w).1
        have hil := (qW_i w).2
        have h0 : g pa 0 = i := S.1
        have hcv : cu f (.inr (i, oo)) = tk f i := rfl
        have hlt : i < N := qC_lt C hi (by omega)
        refine wp_aload_n rfl rfl dX5_parseLevel_27 ?_
        refine wp_aload_n rfl rfl dX5_parseLevel_28 ?_
        refine wp_cV1r (ci := 5) okX5_opens rfl rfl wX5_55 dX5_parseLevel_29 (Nat.le_of_ble_eq_true rfl) (Nat.le_of_ble_eq_true rfl) (by first | omega | (simp (disch := omega) only [up2_ne, up2_eq, tpq_a T, h6, txq_a X, txq_b X, txq_c X, txq_d X, txq_e X, txq_f X, txq_g X]; first | done | omega)) (by first | assumption | (simp (disch := omega) only [up2_ne, up2_eq, tpq_a T, h6, txq_a X, txq_b X, txq_c X, txq_d X, txq_e X, txq_f X, txq_g X]; first | done | rfl | omega)) (opens_row C S hi ho) (Nat.zero_le _) ?_
        rintro r g1 (⟨rfl, ho5, S1, K1⟩ | ⟨rfl, ho5, S1, K1⟩) -
        · have C1 := qC_fr C K1
          have h61 := C1.2.2.1.2
          have T1 := C1.1.2.1
          have X1 := C1.2.2.2.2
          show WP _ _ _ _ _ _ _ ((0, 1) :: _) _
          refine wp_if_eq (tgt := 61) (by first | assumption | exact bI_in _ | exact ⟨by omega, by omega⟩ | exact iAnd_in | exact iOr_in | exact iShr_in | exact iShl_in | exact iXor_in | exact hxs _) dX5_parseLevel_32 (by decide) (fun hx => absurd hx (by decide)) (fun hx => ?_)
          refine wp_aload_n rfl rfl dX5_parseLevel_35 ?_
          refine wp_aload_n rfl rfl dX5_parseLevel_36 ?_
          refine wp_aload_n rfl rfl dX5_parseLevel_37 ?_
          refine wp_iconst dX5_parseLevel_38 ?_
          refine wp_cV3r (ci := 5) okX5_parseLevel rfl rfl wX5_35 dX5_parseLevel_39 (Nat.le_of_ble_eq_true rfl) (Nat.le_of_ble_eq_true rfl) (by first | omega | (simp (disch := omega) only [up2_ne, up2_eq, tpq_a T1, h61, txq_a X1, txq_b X1, txq_c X1, txq_d X1, txq_e X1, txq_f X1, txq_g X1]; first | done | omega)) (by first | assumption | (simp (disch := omega) only [up2_ne, up2_eq, tpq_a T1, h61, txq_a X1, txq_b X1, txq_c X1, txq_d X1, txq_e X1, txq_f X1, txq_g X1]; first | done | rfl | omega)) (hL _ g1 (op + 1) (.inr (i + 1, oo)) 2 2 rfl (by omega) C1 S1 (qW_of (by have := qC_lt C hi (by omega); omega) (by omega)) (by omega) (by omega)) (Nat.zero_le _) ?_
          rintro r g2 ⟨rfl, S2, K2⟩ -
          have C2 := qC_fr C1 K2
          have h62 := C2.2.2.1.2
          have T2 := C2.1.2.1
          have X2 := C2.2.2.2.2
          show WP _ _ _ _ _ _ _ [] _
          refine wp_aload_n rfl rfl dX5_parseLevel_42 ?_
          refine wp_dup (by decide) dX5_parseLevel_43 ?_
          refine wp_getfield1 (z := 6) (kI := 1) fX5_25 dX5_parseLevel_44 (by first | omega | (simp (disch := omega) only [up2_ne, up2_eq, tpq_a T2, h62, txq_a X2, txq_b X2, txq_c X2, txq_d X2, txq_e X2, txq_f X2, txq_g X2]; first | done | omega)) (by first | assumption | (simp (disch := omega) only [up2_ne, up2_eq, tpq_a T2, h62, txq_a X2, txq_b X2, txq_c X2, txq_d X2, txq_e X2, txq_f X2, txq_g X2]; first | done | rfl | omega)) rfl rfl ?_
          try simp (disch := omega) only [up2_ne, up2_eq, tpq_a T2, h62, txq_a X2, txq_b X2, txq_c X2, txq_d X2, txq_e X2, txq_f X2, txq_g X2]
          refine wp_iconst dX5_parseLevel_47 ?_
          refine wp_isub dX5_parseLevel_48 ?_
          refine wp_putfield1 (z := 6) (kI := 1) fX5_25 dX5_parseLevel_49 (by first | omega | (simp (disch := omega) only [up2_ne, up2_eq, tpq_a T2, h62, txq_a X2, txq_b X2, txq_c X2, txq_d X2, txq_e X2, txq_f X2, txq_g X2]; first | done | omega)) (by first | assumption | (simp (disch := omega) only [up2_ne, up2_eq, tpq_a T2, h62, txq_a X2, txq_b X2, txq_c X2, txq_d X2, txq_e X2, txq_f X2, txq_g X2]; first | done | rfl | omega)) rfl rfl ?_
          have K3 : qfr g2 (up2 g2 pa 1 (g2 pa 1 - 1)) pa x s := qfr_pa (by omega)
          have S3 := qS_cl hx6 hpa S2
          have hroom : ∀ y, bd (.inr (i + 1, oo)) (fun i oo => prs (tk f) (Vf f) k 2 (op + 1) i oo) = .inr y → s + y.2.length < 160 := fun y q => by
            have := qW_prs1 hTK (by omega) (by have := qC_lt C hi (by omega); omega) hil y q
            omega
          generalize hg3 : up2 g2 pa 1 (g2 pa 1 - 1) = g3 at *
          have C3 := qC_fr C2 K3
          have h63 := C3.2.2.1.2
          have T3 := C3.1.2.1
          have X3 := C3.2.2.2.2
          refine wp_aload_n rfl rfl dX5_parseLevel_52 ?_
          refine wp_bipush (by decide) dX5_parseLevel_53 ?_
          refine wp_cS1 okX10_codeOf wX5_59 dX5_parseLevel_55 rfl (Nat.le_of_ble_eq_true rfl) (Nat.le_of_ble_eq_true rfl) (s_X10_codeOf) (Nat.zero_le _) ?_
          try simp (disch := omega) only [up2_ne, up2_eq, tpq_a T3, h63, txq_a X3, txq_b X3, txq_c X3, txq_d X3, txq_e X3, txq_f X3, txq_g X3]
          refine wp_cV1r (ci := 10) okX10_add rfl rfl wX5_62 dX5_parseLevel_58 (Nat.le_of_ble_eq_true rfl) (Nat.le_of_ble_eq_true rfl) (by first | omega | (simp (disch := omega) only [up2_ne, up2_eq, tpq_a T3, h63, txq_a X3, txq_b X3, txq_c X3, txq_d X3, txq_e X3, txq_f X3, txq_g X3]; first | done | omega)) (by first | assumption | (simp (disch := omega) only [up2_ne, up2_eq, tpq_a T3, h63, txq_a X3, txq_b X3, txq_c X3, txq_d X3, txq_e X3, txq_f X3, txq_g X3]; first | done | rfl | omega)) (add_row C3 S3 hroom) (Nat.zero_le _) ?_
          rintro r g4 ⟨rfl, S4, K4⟩ -
          have C4 := qC_fr C3 K4
          have h64 := C4.2.2.1.2
          have T4 := C4.1.2.1
          have X4 := C4.2.2.2.2
          show WP _ _ _ _ _ _ _ [] _
          refine wp_vret dX5_parseLevel_61 rfl ?_
          first
            | (refine ⟨rfl, ?_, K1⟩
               have e5 : lev = 5 := by omega
               subst e5
               exact S1)
            | (refine ⟨rfl, ?_, qfr_trans (qfr_trans (qfr_trans K1 K2) K3) K4⟩
               have e2 : lev = 2 := by omega
               subst e2
               show qS _ pa x s op N (prs (tk f) (Vf f) (k + 1) 2 op i oo)
               rw [prs2_n (by omega) ho5]
               exact S4)
            | (refine ⟨rfl, ?_, K1⟩
               have e2 : lev = 2 := by omega
               subst e2
               show qS _ pa x s op N (prs (tk f) (Vf f) (k + 1) 2 op i oo)
               rw [prs2_f (by omega) ho5]
               exact S1)
        · have C1 := qC_fr C K1
          have h61 := C1.2.2.1.2
          have T1 := C1.1.2.1
          have X1 := C1.2.2.2.2
          show WP _ _ _ _ _ _ _ ((0, 0) :: _) _
          refine wp_if_eq (tgt := 61) (by first | assumption | exact bI_in _ | exact ⟨by omega, by omega⟩ | exact iAnd_in | exact iOr_in | exact iShr_in | exact iShl_in | exact iXor_in | exact hxs _) dX5_parseLevel_32 (by decide) (fun hx => ?_) (fun hx => absurd hx (by decide))
          refine wp_vret dX5_parseLevel_61 rfl ?_
          first
            | (refine ⟨rfl, ?_, K1⟩
               have e5 : lev = 5 := by omega
               subst e5
               exact S1)
            | (refine ⟨rfl, ?_, qfr_trans (qfr_trans (qfr_trans K1 K2) K3) K4⟩
               have e2 : lev = 2 := by omega
               subst e2
               show qS _ pa x s op N (prs (tk f) (Vf f) (k + 1) 2 op i oo)
               rw [prs2_n (by omega) ho5]
               exact S4)
            | (refine ⟨rfl, ?_, K1⟩
               have e2 : lev = 2 := by omega
               subst e2
               show qS _ pa x s op N (prs (tk f) (Vf f) (k + 1) 2 op i oo)
               rw [prs2_f (by omega) ho5]
               exact S1)
  · refine wp_aload_n rfl rfl dX5_parseLevel_5 ?_
    refine wp_aload_n rfl rfl dX5_parseLevel_6 ?_
    refine wp_aload_n rfl rfl dX5_parseLevel_7 ?_
    refine wp_cV2r (ci := 5) okX5_parseOne rfl rfl wX5_47 dX5_parseLevel_8 (Nat.le_of_ble_eq_true rfl) (Nat.le_of_ble_eq_true rfl) (by first | omega | (simp (disch := omega) only [up2_ne, up2_eq, tpq_a T, h6, txq_a X, txq_b X, txq_c X, txq_d X, txq_e X, txq_f X, txq_g X]; first | done | omega)) (by first | assumption | (simp (disch := omega) only [up2_ne, up2_eq, tpq_a T, h6, txq_a X, txq_b X, txq_c X, txq_d X, txq_e X, txq_f X, txq_g X]; first | done | rfl | omega)) (hO _ g op st C S w (by omega) (by omega)) (Nat.zero_le _) ?_
    rintro r g1 ⟨rfl, S1, K1⟩ -
    have C1 := qC_fr C K1
    have h61 := C1.2.2.1.2
    have T1 := C1.1.2.1
    have X1 := C1.2.2.2.2
    show WP _ _ _ _ _ _ _ [] _
    refine wp_vret dX5_parseLevel_11 rfl ?_
    first
      | (refine ⟨rfl, ?_, K1⟩
         have e5 : lev = 5 := by omega
         subst e5
         exact S1)
      | (refine ⟨rfl, ?_, qfr_trans (qfr_trans (qfr_trans K1 K2) K3) K4⟩
         have e2 : lev = 2 := by omega
         subst e2
         show qS _ pa x s op N (prs (tk f) (Vf f) (k + 1) 2 op i oo)
         rw [prs2_n (by omega) ho5]
         exact S4)
      | (refine ⟨rfl, ?_, K1⟩
         have e2 : lev = 2 := by omega
         subst e2
         show qS _ pa x s op N (prs (tk f) (Vf f) (k + 1) 2 op i oo)
         rw [prs2_f (by omega) ho5]
         exact S1)
theorem Rlt_deep {X : mX} {M : mD} {d d' b : Nat} {As : List mV} {h : mH} {P : mV → mH → Prop} (hd : d' ≤ d) (k : Rlt X M d' b As h P) : Rlt X M d b As h P := fun Q hq => WP.deep hd (k Q hq)
theorem qO_deep {u : gT} {tc tb pa x n s : Int} {f : Int → Int} {N D D' k : Nat} (hd : D' ≤ D) (h : qO u tc tb pa x n s f N D' k) : qO u tc tb pa x n s f N D k := fun b g op st C S w ho hk => Rlt_deep hd (h b g op st C S w ho hk)
theorem qL_deep {u : gT} {tc tb pa x n s : Int} {f : Int → Int} {N D D' k : Nat} (hd : D' ≤ D) (h : qL u tc tb pa x n s f N D' k) : qL u tc tb pa x n s f N D k := fun b g op st lev lv e hl C S w ho hk => Rlt_deep hd (h b g op st lev lv e hl C S w ho hk)
theorem desc_all {u : gT} {tc tb pa x n s : Int} {f : Int → Int} {N : Nat} : ∀ k : Nat, qO u tc tb pa x n s f N (2 * k + 2) k ∧ qL u tc tb pa x n s f N (2 * k + 3) k
  | 0 => ⟨fun b g op st C S w ho hk => by exfalso; omega, fun b g op st lev lv e hl C S w ho hk => by exfalso; omega⟩
  | k + 1 => by
    have ih := desc_all (u := u) (tc := tc) (tb := tb) (pa := pa) (x := x) (n := n) (s := s) (f := f) (N := N) k
    have h1 : qO u tc tb pa x n s f N (2 * k + 1 + 3) (k + 1) := one_row (qO_deep (by omega) ih.1) (qL_deep (by omega) ih.2)
    have h2 : qL u tc tb pa x n s f N (2 * k + 2 + 3) (k + 1) := lev_row (qO_deep (by omega) h1) (qL_deep (by omega) ih.2)
    exact ⟨qO_deep (by omega) h1, qL_deep (by omega) h2⟩
