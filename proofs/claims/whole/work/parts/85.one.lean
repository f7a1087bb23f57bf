/-! ===== text: the class's descent ===== -/
noncomputable abbrev Vf (f : Int → Int) : Nat → Int := fun i => tN f (tP f i)
theorem prs5_n {T V : Nat → Int} {k op i : Nat} {oo : List Int} (h : T i = 13) : prs T V (k + 1) 5 op i oo = .inr (i + 1, oo ++ [V i]) := by
  rw [prs, if_pos (Nat.le_refl 5), if_pos h]
theorem prs5_a {T V : Nat → Int} {k op i : Nat} {oo : List Int} (h : T i < 7) : prs T V (k + 1) 5 op i oo = .inr (i + 1, oo ++ [-1 - T i]) := by
  rw [prs, if_pos (Nat.le_refl 5), if_neg (by omega), if_pos h]
theorem prs5_m {T V : Nat → Int} {k op i : Nat} {oo : List Int} (h : T i = 18) (h5 : op < 5) : prs T V (k + 1) 5 op i oo = bd (prs T V k 5 (op + 1) (i + 1) oo) (fun i' o' => .inr (i', o' ++ [-25])) := by
  rw [prs, if_pos (Nat.le_refl 5), if_neg (by omega), if_neg (by omega), if_pos h, if_neg (by omega)]
theorem prs5_mf {T V : Nat → Int} {k op i : Nat} {oo : List Int} (h : T i = 18) (h5 : 5 ≤ op) : prs T V (k + 1) 5 op i oo = .inl i := by
  rw [prs, if_pos (Nat.le_refl 5), if_neg (by omega), if_neg (by omega), if_pos h, if_pos h5]
theorem prs5_o {T V : Nat → Int} {k op i : Nat} {oo : List Int} (h : T i = 14) (h5 : op < 5) : prs T V (k + 1) 5 op i oo = bd (prs T V k 0 (op + 1) (i + 1) oo) (fun i' o' => if T i' = 15 then .inr (i' + 1, o') else .inl i') := by
  rw [prs, if_pos (Nat.le_refl 5), if_neg (by omega), if_neg (by omega), if_neg (by omega), if_pos h, if_neg (by omega)]
theorem prs5_of {T V : Nat → Int} {k op i : Nat} {oo : List Int} (h : T i = 14) (h5 : 5 ≤ op) : prs T V (k + 1) 5 op i oo = .inl i := by
  rw [prs, if_pos (Nat.le_refl 5), if_neg (by omega), if_neg (by omega), if_neg (by omega), if_pos h, if_pos h5]
theorem prs5_e {T V : Nat → Int} {k op i : Nat} {oo : List Int} (h1 : T i ≠ 13) (h2 : ¬ T i < 7) (h3 : T i ≠ 18) (h4 : T i ≠ 14) : prs T V (k + 1) 5 op i oo = .inl i := by
  rw [prs, if_pos (Nat.le_refl 5), if_neg h1, if_neg h2, if_neg h3, if_neg h4]
theorem prs2_n {T V : Nat → Int} {k op i : Nat} {oo : List Int} (h : T i = 12) (h5 : op < 5) : prs T V (k + 1) 2 op i oo = bd (prs T V k 2 (op + 1) (i + 1) oo) (fun i' o' => .inr (i', o' ++ [-13])) := by
  rw [prs, if_neg (by omega), if_pos ⟨rfl, h⟩, if_neg (by omega)]
theorem prs2_f {T V : Nat → Int} {k op i : Nat} {oo : List Int} (h : T i = 12) (h5 : 5 ≤ op) : prs T V (k + 1) 2 op i oo = .inl i := by
  rw [prs, if_neg (by omega), if_pos ⟨rfl, h⟩, if_pos h5]
theorem prsL {T V : Nat → Int} {k lev op i : Nat} {oo : List Int} (hl : lev < 5) (h : ¬ (lev = 2 ∧ T i = 12)) : prs T V (k + 1) lev op i oo = bd (prs T V k (lev + 1) op i oo) (fun i1 o1 => repP T (prs T V k (lev + 1) op) (lev : Int) (if lev = 2 then 1 else 160) i1 o1) := by
  rw [prs, if_neg (by omega), if_neg h]
theorem bd_bd {r : pR} {g h : Nat → List Int → pR} : bd (bd r g) h = bd r (fun i o => bd (g i o) h) := by
  rcases r with j | y <;> rfl
theorem bd_id {r : pR} : bd r (fun i o => .inr (i, o)) = r := by
  rcases r with j | y <;> rfl
theorem cu_inr {f : Int → Int} {st : pR} (h : cu f st ≠ 23) : ∃ i oo, st = .inr (i, oo) := by
  rcases st with j | ⟨i, oo⟩
  · exact absurd rfl h
  · exact ⟨i, oo, rfl⟩
/-- where a state stands, and how long its code is at most -/
def qW (s : Int) (N : Nat) (R : pR) : Prop := ∀ y, R = .inr y → y.1 ≤ N ∧ s + y.2.length ≤ y.1
theorem qW_1 {s : Int} {N : Nat} {R : pR} (w : qW s N R) : ∀ y, R = .inr y → y.1 ≤ N := fun y q => (w y q).1
theorem qW_i {s : Int} {N i : Nat} {oo : List Int} (w : qW s N (.inr (i, oo))) : i ≤ N ∧ s + oo.length ≤ i := w _ rfl
theorem qW_of {s : Int} {N i : Nat} {oo : List Int} (h1 : i ≤ N) (h2 : s + oo.length ≤ i) : qW s N (.inr (i, oo)) := fun y q => by
  cases q
  exact ⟨h1, h2⟩
theorem qW_prs {T V : Nat → Int} {N : Nat} (hT : TOK T V N) {s : Int} {R : pR} {k lev op : Nat} (hl : lev ≤ 5) (w : qW s N R) : qW s N (bd R (fun i oo => prs T V k lev op i oo)) := by
  intro y q
  obtain ⟨i1, o1, e1, e2⟩ := bd_inr q
  have w1 := w _ e1
  have hG := prs_G hT k lev op i1 o1 y.1 y.2 hl w1.1 e2
  obtain ⟨g1, g2, g3, g4, g5⟩ := hG
  dsimp only at w1
  exact ⟨g2, by omega⟩
/-- the same, one token ahead: there is room for one more -/
theorem qW_prs1 {T V : Nat → Int} {N : Nat} (hT : TOK T V N) {s : Int} {i : Nat} {oo : List Int} {k lev op : Nat} (hl : lev ≤ 5) (h1 : i + 1 ≤ N) (h2 : s + oo.length ≤ i) : ∀ y, prs T V k lev op (i + 1) oo = .inr y → y.1 ≤ N ∧ s + y.2.length + 1 ≤ y.1 := by
  intro y q
  obtain ⟨g1, g2, g3, g4, g5⟩ := prs_G hT k lev op (i + 1) oo y.1 y.2 hl h1 q
  exact ⟨g2, by omega⟩
theorem qC_lt {g : mH} {tc tb pa x n : Int} {f : Int → Int} {N : Nat} (C : qC g tc tb pa x n f N) {i : Nat} (hi : i ≤ N) (h : tk f i ≠ 22 ∧ tk f i ≠ 23) : i < N := by
  rcases Nat.lt_or_ge i N with z | z
  · exact z
  · exfalso
    have : i = N := by omega
    subst this
    have := C.2.1.2.2.1.2
    omega
theorem fail_row {u : gT} {g : mH} {d b : Nat} {tc tb pa x n : Int} {f : Int → Int} {N : Nat} (C : qC g tc tb pa x n f N) {s : Int} {op : Nat} {st : pR} (S : qS g pa x s op N st) (w : qW s N st) : Rlt (gX (gq u)) MX5_fail d b [(2, pa)] g (fun r g1 => r = (9, 0) ∧ qS g1 pa x s op N (bd st (fun i _ => .inl i)) ∧ qfr g g1 pa x s) := by
  have hN := qC_N C
  rcases st with j | ⟨i, oo⟩
  · refine (fail_f C.2.2.1.1 C.2.2.1.2 (by have := S.2.1; omega) S.1).rlt.mono ?_
    rintro r g1 ⟨rfl, rfl⟩ -
    exact ⟨rfl, S, fun _ _ _ => rfl⟩
  · refine (fail_t C.2.2.1.1 C.2.2.1.2 S.1 S.2.2.1).rlt.mono ?_
    rintro r g1 ⟨rfl, rfl⟩ -
    exact ⟨rfl, qS_fail C.2.2.2.1 C.2.2.1.1 (qW_i w).1 S, qfr_pa (by omega)⟩
def qO (u : gT) (tc tb pa x n s : Int) (f : Int → Int) (N D k : Nat) : Prop := ∀ (b : Nat) (g : mH) (op : Nat) (st : pR), qC g tc tb pa x n f N → qS g pa x s op N st → qW s N st → op ≤ 5 → 42 ≤ k + 5 + 7 * op → Rlt (gX (gq u)) MX5_parseOne D b [(2, pa), (2, tc), (2, 40 + x)] g (fun r g1 => r = (9, 0) ∧ qS g1 pa x s op N (bd st (fun i oo => prs (tk f) (Vf f) k 5 op i oo)) ∧ qfr g g1 pa x s)
def qL (u : gT) (tc tb pa x n s : Int) (f : Int → Int) (N D k : Nat) : Prop := ∀ (b : Nat) (g : mH) (op : Nat) (st : pR) (lev : Nat) (lv : Int), lv = lev → lev ≤ 5 → qC g tc tb pa x n f N → qS g pa x s op N st → qW s N st → op ≤ 5 → 42 ≤ k + lev + 7 * op → Rlt (gX (gq u)) MX5_parseLevel D b [(2, pa), (2, tc), (2, 40 + x), (0, lv)] g (fun r g1 => r = (9, 0) ∧ qS g1 pa x s op N (bd st (fun i oo => prs (tk f) (Vf f) k lev op i oo)) ∧ qfr g g1 pa x s)
set_option maxHeartbeats 4000000 in
theorem one_row {u : gT} {tc tb pa x n s : Int} {f : Int → Int} {N D k : Nat} (hO : qO u tc tb pa x n s f N (D + 2) k) (hL : qL u tc tb pa x n s f N (D + 2) k) : qO u tc tb pa x n s f N (D + 3) (k + 1) := by
  intro b g op st C S w ho hk
  have hcb := C.1.1
  have T := C.1.2.1
  have hpa := C.2.2.1.1
  have h6 := C.2.2.1.2
  have hx6 := C.2.2.2.1
  have X := C.2.2.2.2
  have hN := qC_N C
  have hTK := qC_tok C
  have hcu := cu_b (f := f) (st := st)
  refine Rlt.of ?_
  show WP (gX (gq u)) MX5_parseOne (D + 3) b _ 0 [(2, pa), (2, tc), (2, 40 + x), (9, 0)] [] g
  refine wp_aload_n rfl rfl dX5_parseOne_0 ?_
  refine wp_aload_n rfl rfl dX5_parseOne_1 ?_
  refine wp_cV1 (ci := 5) okX5_current rfl rfl wX5_51 dX5_parseOne_2 rfl (Nat.le_of_ble_eq_true rfl) (Nat.le_of_ble_eq_true rfl) (by first | omega | (simp (disch := omega) only [up2_ne, up2_eq, tpq_a T, h6, txq_a X, txq_b X, txq_c X, txq_d X, txq_e X, txq_f X, txq_g X]; first | done | omega)) (by first | assumption | (simp (disch := omega) only [up2_ne, up2_eq, tpq_a T, h6, txq_a X, txq_b X, txq_c X, txq_d X, txq_e X, txq_f X, txq_g X]; first | done | rfl | omega)) (cur_row C S (qW_1 w)) (Nat.zero_le _) ?_
  try simp (disch := omega) only [up2_ne, up2_eq, tpq_a T, h6, txq_a X, txq_b X, txq_c X, txq_d X, txq_e X, txq_f X, txq_g X]
  refine wp_istore_n rfl dX5_parseOne_5 rfl (Nat.le_of_ble_eq_true rfl) rfl ?_
  try simp only [List.set_cons_zero, List.set_cons_succ]
  refine wp_iload_n rfl rfl dX5_parseOne_6 ?_
  refine wp_bipush (by decide) dX5_parseOne_7 ?_
  refine wp_icmp_ne (tgt := 37) (by first | assumption | exact bI_in _ | exact ⟨by omega, by omega⟩ | exact iAnd_in | exact iOr_in | exact iShr_in | exact iShl_in | exact iXor_in | exact hxs _) (by first | assumption | exact bI_in _ | exact ⟨by omega, by omega⟩ | exact iAnd_in | exact iOr_in | exact iShr_in | exact iShl_in | exact iXor_in | exact hxs _) dX5_parseOne_9 (by decide) (fun c1 => ?_) (fun c1 => ?_)
  · refine wp_iload_n rfl rfl dX5_parseOne_37 ?_
    refine wp_bipush (by decide) dX5_parseOne_38 ?_
    refine wp_icmp_ge (tgt := 64) (by first | assumption | exact bI_in _ | exact ⟨by omega, by omega⟩ | exact iAnd_in | exact iOr_in | exact iShr_in | exact iShl_in | exact iXor_in | exact hxs _) (by first | assumption | exact bI_in _ | exact ⟨by omega, by omega⟩ | exact iAnd_in | exact iOr_in | exact iShr_in | exact iShl_in | exact iXor_in | exact hxs _) dX5_parseOne_40 (by decide) (fun c2 => ?_) (fun c2 => ?_)
    · refine wp_iload_n rfl rfl dX5_parseOne_64 ?_
      refine wp_bipush (by decide) dX5_parseOne_65 ?_
      refine wp_icmp_ne (tgt := 106) (by first | assumption | exact bI_in _ | exact ⟨by omega, by omega⟩ | exact iAnd_in | exact iOr_in | exact iShr_in | exact iShl_in | exact iXor_in | exact hxs _) (by first | assumption | exact bI_in _ | exact ⟨by omega, by omega⟩ | exact iAnd_in | exact iOr_in | exact iShr_in | exact iShl_in | exact iXor_in | exact hxs _) dX5_parseOne_67 (by decide) (fun c3 => ?_) (fun c3 => ?_)
      · refine wp_iload_n rfl rfl dX5_parseOne_106 ?_
        refine wp_bipush (by decide) dX5_parseOne_107 ?_
        refine wp_icmp_ne (tgt := 147) (by first | assumption | exact bI_in _ | exact ⟨by omega, by omega⟩ | exact iAnd_in | exact iOr_in | exact iShr_in | exact iShl_in | exact iXor_in | exact hxs _) (by first | assumption | exact bI_in _ | exact ⟨by omega, by omega⟩ | exact iAnd_in | exact iOr_in | exact iShr_in | exact iShl_in | exact iXor_in | exact hxs _) dX5_parseOne_109 (by decide) (fun c4 => ?_) (fun c4 => ?_)
        · refine wp_aload_n rfl rfl dX5_parseOne_147 ?_
          refine wp_cV0r (ci := 5) okX5_fail rfl rfl wX5_71 dX5_parseOne_148 (Nat.le_of_ble_eq_true rfl) (Nat.le_of_ble_eq_true rfl) (by first | omega | (simp (disch := omega) only [up2_ne, up2_eq, tpq_a T, h6, txq_a X, txq_b X, txq_c X, txq_d X, txq_e X, txq_f X, txq_g X]; first | done | omega)) (by first | assumption | (simp (disch := omega) only [up2_ne, up2_eq, tpq_a T, h6, txq_a X, txq_b X, txq_c X, txq_d X, txq_e X, txq_f X, txq_g X]; first | done | rfl | omega)) (fail_row C S w) (Nat.zero_le _) ?_
          rintro r g1 ⟨rfl, S1, K1⟩ -
          have C1 := qC_fr C K1
          have h61 := C1.2.2.1.2
          have T1 := C1.1.2.1
          have X1 := C1.2.2.2.2
          show WP _ _ _ _ _ _ _ [] _
          refine wp_vret dX5_parseOne_151 rfl ?_
          first
            | (refine ⟨rfl, ?_, fun y z q => by rw [up2_ne (by omega)]; exact K1 y z q⟩
               show qS _ pa x s op N (prs (tk f) (Vf f) (k + 1) 5 op i oo)
               first
                 | rw [prs5_n (by omega)]
                 | rw [prs5_a (by omega)]
               have S1' := qS_at hx6 hpa S1
               first | exact S1' | (rw [hcv] at S1'; exact S1'))
            | (refine ⟨rfl, ?_, K1⟩
               show qS _ pa x s op N (prs (tk f) (Vf f) (k + 1) 5 op i oo)
               first
                 | rw [prs5_mf (by omega) ho5]
                 | rw [prs5_of (by omega) ho5]
               exact S1)
            | (refine ⟨rfl, ?_, qfr_trans (qfr_trans (qfr_trans K1 K2) K3) K4⟩
               show qS _ pa x s op N (prs (tk f) (Vf f) (k + 1) 5 op i oo)
               rw [prs5_m (by omega) ho5]
               exact S4)
            | (refine ⟨rfl, ?_, qfr_trans (qfr_trans (qfr_trans K1 K2) K3) (qfr_pa (by omega))⟩
               show qS _ pa x s op N (prs (tk f) (Vf f) (k + 1) 5 op i oo)
               rw [prs5_o (by omega) ho5]
               exact qS_cl hx6 hpa S3)
            | (refine ⟨rfl, ?_, K1⟩
               rcases st with j | ⟨i, oo⟩
               · exact S1
               · have hcv : cu f (.inr (i, oo)) = tk f i := rfl
                 show qS _ pa x s op N (prs (tk f) (Vf f) (k + 1) 5 op i oo)
                 rw [prs5_e (by omega) (by omega) (by omega) (by omega)]
                 exact S1)
        · obtain ⟨i, oo, rfl⟩ := cu_inr (f := f) (st := st) (by omega)
          have hi := (qW_i w).1
          have hil := (qW_i w).2
          have h0 : g pa 0 = i := S.1
          have hcv : cu f (.inr (i, oo)) = tk f i := rfl
          have hlt : i < N := qC_lt C hi (by omega)
          refine wp_aload_n rfl rfl dX5_parseOne_112 ?_
          refine wp_aload_n rfl rfl dX5_parseOne_113 ?_
          refine wp_cV1r (ci := 5) okX5_opens rfl rfl wX5_55 dX5_parseOne_114 (Nat.le_of_ble_eq_true rfl) (Nat.le_of_ble_eq_true rfl) (by first | omega | (simp (disch := omega) only [up2_ne, up2_eq, tpq_a T, h6, txq_a X, txq_b X, txq_c X, txq_d X, txq_e X, txq_f X, txq_g X]; first | done | omega)) (by first | assumption | (simp (disch := omega) only [up2_ne, up2_eq, tpq_a T, h6, txq_a X, txq_b X, txq_c X, txq_d X, txq_e X, txq_f X, txq_g X]; first | done | rfl | omega)) (opens_row C S hi ho) (Nat.zero_le _) ?_
          rintro r g1 (⟨rfl, ho5, S1, K1⟩ | ⟨rfl, ho5, S1, K1⟩) -
          · have C1 := qC_fr C K1
            have h61 := C1.2.2.1.2
            have T1 := C1.1.2.1
            have X1 := C1.2.2.2.2
            show WP _ _ _ _ _ _ _ ((0, 1) :: _) _
            refine wp_if_eq (tgt := 151) (by first | assumption | exact bI_in _ | exact ⟨by omega, by omega⟩ | exact iAnd_in | exact iOr_in | exact iShr_in | exact iShl_in | exact iXor_in | exact hxs _) dX5_parseOne_117 (by decide) (fun hx => absurd hx (by decide)) (fun hx => ?_)
            refine wp_aload_n rfl rfl dX5_parseOne_120 ?_
            refine wp_aload_n rfl rfl dX5_parseOne_121 ?_
            refine wp_aload_n rfl rfl dX5_parseOne_122 ?_
            refine wp_iconst dX5_parseOne_123 ?_
            refine wp_cV3r (ci := 5) okX5_parseLevel rfl rfl wX5_35 dX5_parseOne_124 (Nat.le_of_ble_eq_true rfl) (Nat.le_of_ble_eq_true rfl) (by first | omega | (simp (disch := omega) only [up2_ne, up2_eq, tpq_a T1, h61, txq_a X1, txq_b X1, txq_c X1, txq_d X1, txq_e X1, txq_f X1, txq_g X1]; first | done | omega)) (by first | assumption | (simp (disch := omega) only [up2_ne, up2_eq, tpq_a T1, h61, txq_a X1, txq_b X1, txq_c X1, txq_d X1, txq_e X1, txq_f X1, txq_g X1]; first | done | rfl | omega)) (hL _ g1 (op + 1) (.inr (i + 1, oo)) 0 0 rfl (by omega) C1 S1 (qW_of (by have := qC_lt C hi (by omega); omega) (by omega)) (by omega) (by omega)) (Nat.zero_le _) ?_
            rintro r g2 ⟨rfl, S2, K2⟩ -
            have C2 := qC_fr C1 K2
            have h62 := C2.2.2.1.2
            have T2 := C2.1.2.1
            have X2 := C2.2.2.2.2
            have w2 : qW s N (bd (.inr (i + 1, oo)) (fun i oo => prs (tk f) (Vf f) k 0 (op + 1) i oo)) := qW_prs hTK (by omega) (qW_of (by omega) (by omega))
            show WP _ _ _ _ _ _ _ [] _
            refine wp_aload_n rfl rfl dX5_parseOne_127 ?_
            refine wp_aload_n rfl rfl dX5_parseOne_128 ?_
            refine wp_bipush (by decide) dX5_parseOne_129 ?_
            refine wp_cV2r (ci := 5) okX5_expect rfl rfl wX5_31 dX5_parseOne_131 (Nat.le_of_ble_eq_true rfl) (Nat.le_of_ble_eq_true rfl) (by first | omega | (simp (disch := omega) only [up2_ne, up2_eq, tpq_a T2, h62, txq_a X2, txq_b X2, txq_c X2, txq_d X2, txq_e X2, txq_f X2, txq_g X2]; first | done | omega)) (by first | assumption | (simp (disch := omega) only [up2_ne, up2_eq, tpq_a T2, h62, txq_a X2, txq_b X2, txq_c X2, txq_d X2, txq_e X2, txq_f X2, txq_g X2]; first | done | rfl | omega)) (exp_row C2 S2 (qW_1 w2) (by omega) (by omega)) (Nat.zero_le _) ?_
            rintro r g3 ⟨rfl, S3, K3⟩ -
            have C3 := qC_fr C2 K3
            have h63 := C3.2.2.1.2
            have T3 := C3.1.2.1
            have X3 := C3.2.2.2.2
            show WP _ _ _ _ _ _ _ [] _
            refine wp_aload_n rfl rfl dX5_parseOne_134 ?_
            refine wp_dup (by decide) dX5_parseOne_135 ?_
            refine wp_getfield1 (z := 6) (kI := 1) fX5_25 dX5_parseOne_136 (by first | omega | (simp (disch := omega) only [up2_ne, up2_eq, tpq_a T3, h63, txq_a X3, txq_b X3, txq_c X3, txq_d X3, txq_e X3, txq_f X3, txq_g X3]; first | done | omega)) (by first | assumption | (simp (disch := omega) only [up2_ne, up2_eq, tpq_a T3, h63, txq_a X3, txq_b X3, txq_c X3, txq_d X3, txq_e X3, txq_f X3, txq_g X3]; first | done | rfl | omega)) rfl rfl ?_
            try simp (disch := omega) only [up2_ne, up2_eq, tpq_a T3, h63, txq_a X3, txq_b X3, txq_c X3, txq_d X3, txq_e X3, txq_f X3, txq_g X3]
            refine wp_iconst dX5_parseOne_139 ?_
            refine wp_isub dX5_parseOne_140 ?_
            refine wp_putfield1 (z := 6) (kI := 1) fX5_25 dX5_parseOne_141 (by first | omega | (simp (disch := omega) only [up2_ne, up2_eq, tpq_a T3, h63, txq_a X3, txq_b X3, txq_c X3, txq_d X3, txq_e X3, txq_f X3, txq_g X3]; first | done | omega)) (by first | assumption | (simp (disch := omega) only [up2_ne, up2_eq, tpq_a T3, h63, txq_a X3, txq_b X3, txq_c X3, txq_d X3, txq_e X3, txq_f X3, txq_g X3]; first | done | rfl | omega)) rfl rfl ?_
            refine wp_goto (tgt := 151) dX5_parseOne_144 (by decide) ?_
            refine wp_vret dX5_parseOne_151 rfl ?_
            first
              | (refine ⟨rfl, ?_, fun y z q => by rw [up2_ne (by omega)]; exact K1 y z q⟩
                 show qS _ pa x s op N (prs (tk f) (Vf f) (k + 1) 5 op i oo)
                 first
                   | rw [prs5_n (by omega)]
                   | rw [prs5_a (by omega)]
                 have S1' := qS_at hx6 hpa S1
                 first | exact S1' | (rw [hcv] at S1'; exact S1'))
              | (refine ⟨rfl, ?_, K1⟩
                 show qS _ pa x s op N (prs (tk f) (Vf f) (k + 1) 5 op i oo)
                 first
                   | rw [prs5_mf (by omega) ho5]
                   | rw [prs5_of (by omega) ho5]
                 exact S1)
              | (refine ⟨rfl, ?_, qfr_trans (qfr_trans (qfr_trans K1 K2) K3) K4⟩
                 show qS _ pa x s op N (prs (tk f) (Vf f) (k + 1) 5 op i oo)
                 rw [prs5_m (by omega) ho5]
                 exact S4)
              | (refine ⟨rfl, ?_, qfr_trans (qfr_trans (qfr_trans K1 K2) K3) (qfr_pa (by omega))⟩
                 show qS _ pa x s op N (prs (tk f) (Vf f) (k + 1) 5 op i oo)
                 rw [prs5_o (by omega) ho5]
                 exact qS_cl hx6 hpa S3)
              | (refine ⟨rfl, ?_, K1⟩
                 rcases st with j | ⟨i, oo⟩
                 · exact S1
                 · have hcv : cu f (.inr (i, oo)) = tk f i := rfl
                   show qS _ pa x s op N (prs (tk f) (Vf f) (k + 1) 5 op i oo)
                   rw [prs5_e (by omega) (by omega) (by omega) (by omega)]
                   exact S1)
          · have C1 := qC_fr C K1
            have h61 := C1.2.2.1.2
            have T1 := C1.1.2.1
            have X1 := C1.2.2.2.2
            show WP _ _ _ _ _ _ _ ((0, 0) :: _) _
            refine wp_if_eq (tgt := 151) (by first | assumption | exact bI_in _ | exact ⟨by omega, by omega⟩ | exact iAnd_in | exact iOr_in | exact iShr_in | exact iShl_in | exact iXor_in | exact hxs _) dX5_parseOne_117 (by decide) (fun hx => ?_) (fun hx => absurd hx (by decide))
            refine wp_vret dX5_parseOne_151 rfl ?_
            first
              | (refine ⟨rfl, ?_, fun y z q => by rw [up2_ne (by omega)]; exact K1 y z q⟩
                 show qS _ pa x s op N (prs (tk f) (Vf f) (k + 1) 5 op i oo)
                 first
                   | rw [prs5_n (by omega)]
                   | rw [prs5_a (by omega)]
                 have S1' := qS_at hx6 hpa S1
                 first | exact S1' | (rw [hcv] at S1'; exact S1'))
              | (refine ⟨rfl, ?_, K1⟩
                 show qS _ pa x s op N (prs (tk f) (Vf f) (k + 1) 5 op i oo)
                 first
                   | rw [prs5_mf (by omega) ho5]
                   | rw [prs5_of (by omega) ho5]
                 exact S1)
              | (refine ⟨rfl, ?_, qfr_trans (qfr_trans (qfr_trans K1 K2) K3) K4⟩
                 show qS _ pa x s op N (prs (tk f) (Vf f) (k + 1) 5 op i oo)
                 rw [prs5_m (by omega) ho5]
                 exact S4)
              | (refine ⟨rfl, ?_, qfr_trans (qfr_trans (qfr_trans K1 K2) K3) (qfr_pa (by omega))⟩
                 show qS _ pa x s op N (prs (tk f) (Vf f) (k + 1) 5 op i oo)
                 rw [prs5_o (by omega) ho5]
                 exact qS_cl hx6 hpa S3)
              | (refine ⟨rfl, ?_, K1⟩
                 rcases st with j | ⟨i, oo⟩
                 · exact S1
                 · have hcv : cu f (.inr (i, oo)) = tk f i := rfl
                   show qS _ pa x s op N (prs (tk f) (Vf f) (k + 1) 5 op i oo)
                   rw [prs5_e (by omega) (by omega) (by omega) (by omega)]
                   exact S1)
      · obtain ⟨i, oo, rfl⟩ := cu_inr (f := f) (st := st) (by omega)
        have hi := (qW_i w).1
        have hil := (qW_i w).2
        have h0 : g pa 0 = i := S.1
        have hcv : cu f (.inr (i, oo)) = tk f i := rfl
        have hlt : i < N := qC_lt C hi (by omega)
        refine wp_aload_n rfl rfl dX5_parseOne_70 ?_
        refine wp_aload_n rfl rfl dX5_parseOne_71 ?_
        refine wp_cV1r (ci := 5) okX5_opens rfl rfl wX5_55 dX5_parseOne_72 (Nat.le_of_ble_eq_true rfl) (Nat.le_of_ble_eq_true rfl) (by first | omega | (simp (disch := omega) only [up2_ne, up2_eq, tpq_a T, h6, txq_a X, txq_b X, txq_c X, txq_d X, txq_e X, txq_f X, txq_g X]; first | done | omega)) (by first | assumption | (simp (disch := omega) only [up2_ne, up2_eq, tpq_a T, h6, txq_a X, txq_b X, txq_c X, txq_d X, txq_e X, txq_f X, txq_g X]; first | done | rfl | omega)) (opens_row C S hi ho) (Nat.zero_le _) ?_
        rintro r g1 (⟨rfl, ho5, S1, K1⟩ | ⟨rfl, ho5, S1, K1⟩) -
        · have C1 := qC_fr C K1
          have h61 := C1.2.2.1.2
          have T1 := C1.1.2.1
          have X1 := C1.2.2.2.2
          show WP _ _ _ _ _ _ _ ((0, 1) :: _) _
          refine wp_if_eq (tgt := 151) (by first | assumption | exact bI_in _ | exact ⟨by omega, by omega⟩ | exact iAnd_in | exact iOr_in | exact iShr_in | exact iShl_in | exact iXor_in | exact hxs _) dX5_parseOne_75 (by decide) (fun hx => absurd hx (by decide)) (fun hx => ?_)
          refine wp_aload_n rfl rfl dX5_parseOne_78 ?_
          refine wp_aload_n rfl rfl dX5_parseOne_79 ?_
          refine wp_aload_n rfl rfl dX5_parseOne_80 ?_
          refine wp_cV2r (ci := 5) okX5_parseOne rfl rfl wX5_47 dX5_parseOne_81 (Nat.le_of_ble_eq_true rfl) (Nat.le_of_ble_eq_true rfl) (by first | omega | (simp (disch := omega) only [up2_ne, up2_eq, tpq_a T1, h61, txq_a X1, txq_b X1, txq_c X1, txq_d X1, txq_e X1, txq_f X1, txq_g X1]; first | done | omega)) (by first | assumption | (simp (disch := omega) only [up2_ne, up2_eq, tpq_a T1, h61, txq_a X1, txq_b X1, txq_c X1, txq_d X1, txq_e X1, txq_f X1, txq_g X1]; first | done | rfl | omega)) (hO _ g1 (op + 1) (.inr (i + 1, oo)) C1 S1 (qW_of (by have := qC_lt C hi (by omega); omega) (by omega)) (by omega) (by omega)) (Nat.zero_le _) ?_
          rintro r g2 ⟨rfl, S2, K2⟩ -
          have C2 := qC_fr C1 K2
          have h62 := C2.2.2.1.2
          have T2 := C2.1.2.1
          have X2 := C2.2.2.2.2
          show WP _ _ _ _ _ _ _ [] _
          refine wp_aload_n rfl rfl dX5_parseOne_84 ?_
          refine wp_dup (by decide) dX5_parseOne_85 ?_
          refine wp_getfield1 (z := 6) (kI := 1) fX5_25 dX5_parseOne_86 (by first | omega | (simp (disch := omega) only [up2_ne, up2_eq, tpq_a T2, h62, txq_a X2, txq_b X2, txq_c X2, txq_d X2, txq_e X2, txq_f X2, txq_g X2]; first | done | omega)) (by first | assumption | (simp (disch := omega) only [up2_ne, up2_eq, tpq_a T2, h62, txq_a X2, txq_b X2, txq_c X2, txq_d X2, txq_e X2, txq_f X2, txq_g X2]; first | done | rfl | omega)) rfl rfl ?_
          try simp (disch := omega) only [up2_ne, up2_eq, tpq_a T2, h62, txq_a X2, txq_b X2, txq_c X2, txq_d X2, txq_e X2, txq_f X2, txq_g X2]
          refine wp_iconst dX5_parseOne_89 ?_
          refine wp_isub dX5_parseOne_90 ?_
          refine wp_putfield1 (z := 6) (kI := 1) fX5_25 dX5_parseOne_91 (by first | omega | (simp (disch := omega) only [up2_ne, up2_eq, tpq_a T2, h62, txq_a X2, txq_b X2, txq_c X2, txq_d X2, txq_e X2, txq_f X2, txq_g X2]; first | done | omega)) (by first | assumption | (simp (disch := omega) only [up2_ne, up2_eq, tpq_a T2, h62, txq_a X2, txq_b X2, txq_c X2, txq_d X2, txq_e X2, txq_f X2, txq_g X2]; first | done | rfl | omega)) rfl rfl ?_
          have K3 : qfr g2 (up2 g2 pa 1 (g2 pa 1 - 1)) pa x s := qfr_pa (by omega)
          have S3 := qS_cl hx6 hpa S2
          have hroom : ∀ y, bd (.inr (i + 1, oo)) (fun i oo => prs (tk f) (Vf f) k 5 (op + 1) i oo) = .inr y → s + y.2.length < 160 := fun y q => by
            have := qW_prs1 hTK (by omega) (by have := qC_lt C hi (by omega); omega) hil y q
            omega
          generalize hg3 : up2 g2 pa 1 (g2 pa 1 - 1) = g3 at *
          have C3 := qC_fr C2 K3
          have h63 := C3.2.2.1.2
          have T3 := C3.1.2.1
          have X3 := C3.2.2.2.2
          refine wp_aload_n rfl rfl dX5_parseOne_94 ?_
          refine wp_bipush (by decide) dX5_parseOne_95 ?_
          refine wp_cS1 okX10_codeOf wX5_59 dX5_parseOne_97 rfl (Nat.le_of_ble_eq_true rfl) (Nat.le_of_ble_eq_true rfl) (s_X10_codeOf) (Nat.zero_le _) ?_
          try simp (disch := omega) only [up2_ne, up2_eq, tpq_a T3, h63, txq_a X3, txq_b X3, txq_c X3, txq_d X3, txq_e X3, txq_f X3, txq_g X3]
          refine wp_cV1r (ci := 10) okX10_add rfl rfl wX5_62 dX5_parseOne_100 (Nat.le_of_ble_eq_true rfl) (Nat.le_of_ble_eq_true rfl) (by first | omega | (simp (disch := omega) only [up2_ne, up2_eq, tpq_a T3, h63, txq_a X3, txq_b X3, txq_c X3, txq_d X3, txq_e X3, txq_f X3, txq_g X3]; first | done | omega)) (by first | assumption | (simp (disch := omega) only [up2_ne, up2_eq, tpq_a T3, h63, txq_a X3, txq_b X3, txq_c X3, txq_d X3, txq_e X3, txq_f X3, txq_g X3]; first | done | rfl | omega)) (add_row C3 S3 hroom) (Nat.zero_le _) ?_
          rintro r g4 ⟨rfl, S4, K4⟩ -
          have C4 := qC_fr C3 K4
          have h64 := C4.2.2.1.2
          have T4 := C4.1.2.1
          have X4 := C4.2.2.2.2
          show WP _ _ _ _ _ _ _ [] _
          refine wp_goto (tgt := 151) dX5_parseOne_103 (by decide) ?_
          refine wp_vret dX5_parseOne_151 rfl ?_
          first
            | (refine ⟨rfl, ?_, fun y z q => by rw [up2_ne (by omega)]; exact K1 y z q⟩
               show qS _ pa x s op N (prs (tk f) (Vf f) (k + 1) 5 op i oo)
               first
                 | rw [prs5_n (by omega)]
                 | rw [prs5_a (by omega)]
               have S1' := qS_at hx6 hpa S1
               first | exact S1' | (rw [hcv] at S1'; exact S1'))
            | (refine ⟨rfl, ?_, K1⟩
               show qS _ pa x s op N (prs (tk f) (Vf f) (k + 1) 5 op i oo)
               first
                 | rw [prs5_mf (by omega) ho5]
                 | rw [prs5_of (by omega) ho5]
               exact S1)
            | (refine ⟨rfl, ?_, qfr_trans (qfr_trans (qfr_trans K1 K2) K3) K4⟩
               show qS _ pa x s op N (prs (tk f) (Vf f) (k + 1) 5 op i oo)
               rw [prs5_m (by omega) ho5]
               exact S4)
            | (refine ⟨rfl, ?_, qfr_trans (qfr_trans (qfr_trans K1 K2) K3) (qfr_pa (by omega))⟩
               show qS _ pa x s op N (prs (tk f) (Vf f) (k + 1) 5 op i oo)
               rw [prs5_o (by omega) ho5]
               exact qS_cl hx6 hpa S3)
            | (refine ⟨rfl, ?_, K1⟩
               rcases st with j | ⟨i, oo⟩
               · exact S1
               · have hcv : cu f (.inr (i, oo)) = tk f i := rfl
                 show qS _ pa x s op N (prs (tk f) (Vf f) (k + 1) 5 op i oo)
                 rw [prs5_e (by omega) (by omega) (by omega) (by omega)]
                 exact S1)
        · have C1 := qC_fr C K1
          have h61 := C1.2.2.1.2
          have T1 := C1.1.2.1
          have X1 := C1.2.2.2.2
          show WP _ _ _ _ _ _ _ ((0, 0) :: _) _
          refine wp_if_eq (tgt := 151) (by first | assumption | exact bI_in _ | exact ⟨by omega, by omega⟩ | exact iAnd_in | exact iOr_in | exact iShr_in | exact iShl_in | exact iXor_in | exact hxs _) dX5_parseOne_75 (by decide) (fun hx => ?_) (fun hx => absurd hx (by decide))
          refine wp_vret dX5_parseOne_151 rfl ?_
          first
            | (refine ⟨rfl, ?_, fun y z q => by rw [up2_ne (by omega)]; exact K1 y z q⟩
               show qS _ pa x s op N (prs (tk f) (Vf f) (k + 1) 5 op i oo)
               first
                 | rw [prs5_n (by omega)]
                 | rw [prs5_a (by omega)]
               have S1' := qS_at hx6 hpa S1
               first | exact S1' | (rw [hcv] at S1'; exact S1'))
            | (refine ⟨rfl, ?_, K1⟩
               show qS _ pa x s op N (prs (tk f) (Vf f) (k + 1) 5 op i oo)
               first
                 | rw [prs5_mf (by omega) ho5]
                 | rw [prs5_of (by omega) ho5]
               exact S1)
            | (refine ⟨rfl, ?_, qfr_trans (qfr_trans (qfr_trans K1 K2) K3) K4⟩
               show qS _ pa x s op N (prs (tk f) (Vf f) (k + 1) 5 op i oo)
               rw [prs5_m (by omega) ho5]
               exact S4)
            | (refine ⟨rfl, ?_, qfr_trans (qfr_trans (qfr_trans K1 K2) K3) (qfr_pa (by omega))⟩
               show qS _ pa x s op N (prs (tk f) (Vf f) (k + 1) 5 op i oo)
               rw [prs5_o (by omega) ho5]
               exact qS_cl hx6 hpa S3)
            | (refine ⟨rfl, ?_, K1⟩
               rcases st with j | ⟨i, oo⟩
               · exact S1
               · have hcv : cu f (.inr (i, oo)) = tk f i := rfl
                 show qS _ pa x s op N (prs (tk f) (Vf f) (k + 1) 5 op i oo)
                 rw [prs5_e (by omega) (by omega) (by omega) (by omega)]
                 exact S1)
    · obtain ⟨i, oo, rfl⟩ := cu_inr (f := f) (st := st) (by omega)
      have hi := (qW_i w).1
      have hil := (qW_i w).2
      have h0 : g pa 0 = i := S.1
      have hcv : cu f (.inr (i, oo)) = tk f i := rfl
      have hlt : i < N := qC_lt C hi (by omega)
      refine wp_aload_n rfl rfl dX5_parseOne_43 ?_
      refine wp_iload_n rfl rfl dX5_parseOne_44 ?_
      refine wp_cS1 okX10_codeOf wX5_59 dX5_parseOne_45 rfl (Nat.le_of_ble_eq_true rfl) (Nat.le_of_ble_eq_true rfl) (s_X10_codeOf) (Nat.zero_le _) ?_
      try simp (disch := omega) only [up2_ne, up2_eq, tpq_a T, h6, txq_a X, txq_b X, txq_c X, txq_d X, txq_e X, txq_f X, txq_g X, h0]
      refine wp_cV1r (ci := 10) okX10_add rfl rfl wX5_62 dX5_parseOne_48 (Nat.le_of_ble_eq_true rfl) (Nat.le_of_ble_eq_true rfl) (by first | omega | (simp (disch := omega) only [up2_ne, up2_eq, tpq_a T, h6, txq_a X, txq_b X, txq_c X, txq_d X, txq_e X, txq_f X, txq_g X, h0]; first | done | omega)) (by first | assumption | (simp (disch := omega) only [up2_ne, up2_eq, tpq_a T, h6, txq_a X, txq_b X, txq_c X, txq_d X, txq_e X, txq_f X, txq_g X, h0]; first | done | rfl | omega)) (add_row C S (fun y q => by cases q; dsimp only; omega)) (Nat.zero_le _) ?_
      rintro r g1 ⟨rfl, S1, K1⟩ -
      have C1 := qC_fr C K1
      have h61 := C1.2.2.1.2
      have T1 := C1.1.2.1
      have X1 := C1.2.2.2.2
      have h01 : g1 pa 0 = i := S1.1
      show WP _ _ _ _ _ _ _ [] _
      refine wp_aload_n rfl rfl dX5_parseOne_51 ?_
      refine wp_dup (by decide) dX5_parseOne_52 ?_
      refine wp_getfield1 (z := 6) (kI := 0) fX5_19 dX5_parseOne_53 (by first | omega | (simp (disch := omega) only [up2_ne, up2_eq, tpq_a T1, h61, txq_a X1, txq_b X1, txq_c X1, txq_d X1, txq_e X1, txq_f X1, txq_g X1, h01]; first | done | omega)) (by first | assumption | (simp (disch := omega) only [up2_ne, up2_eq, tpq_a T1, h61, txq_a X1, txq_b X1, txq_c X1, txq_d X1, txq_e X1, txq_f X1, txq_g X1, h01]; first | done | rfl | omega)) rfl rfl ?_
      try simp (disch := omega) only [up2_ne, up2_eq, tpq_a T1, h61, txq_a X1, txq_b X1, txq_c X1, txq_d X1, txq_e X1, txq_f X1, txq_g X1, h01]
      refine wp_iconst dX5_parseOne_56 ?_
      refine wp_iadd dX5_parseOne_57 ?_
      refine wp_putfield1 (z := 6) (kI := 0) fX5_19 dX5_parseOne_58 (by first | omega | (simp (disch := omega) only [up2_ne, up2_eq, tpq_a T1, h61, txq_a X1, txq_b X1, txq_c X1, txq_d X1, txq_e X1, txq_f X1, txq_g X1, h01]; first | done | omega)) (by first | assumption | (simp (disch := omega) only [up2_ne, up2_eq, tpq_a T1, h61, txq_a X1, txq_b X1, txq_c X1, txq_d X1, txq_e X1, txq_f X1, txq_g X1, h01]; first | done | rfl | omega)) rfl rfl ?_
      refine wp_goto (tgt := 151) dX5_parseOne_61 (by decide) ?_
      refine wp_vret dX5_parseOne_151 rfl ?_
      first
        | (refine ⟨rfl, ?_, fun y z q => by rw [up2_ne (by omega)]; exact K1 y z q⟩
           show qS _ pa x s op N (prs (tk f) (Vf f) (k + 1) 5 op i oo)
           first
             | rw [prs5_n (by omega)]
             | rw [prs5_a (by omega)]
           have S1' := qS_at hx6 hpa S1
           first | exact S1' | (rw [hcv] at S1'; exact S1'))
        | (refine ⟨rfl, ?_, K1⟩
           show qS _ pa x s op N (prs (tk f) (Vf f) (k + 1) 5 op i oo)
           first
             | rw [prs5_mf (by omega) ho5]
             | rw [prs5_of (by omega) ho5]
           exact S1)
        | (refine ⟨rfl, ?_, qfr_trans (qfr_trans (qfr_trans K1 K2) K3) K4⟩
           show qS _ pa x s op N (prs (tk f) (Vf f) (k + 1) 5 op i oo)
           rw [prs5_m (by omega) ho5]
           exact S4)
        | (refine ⟨rfl, ?_, qfr_trans (qfr_trans (qfr_trans K1 K2) K3) (qfr_pa (by omega))⟩
           show qS _ pa x s op N (prs (tk f) (Vf f) (k + 1) 5 op i oo)
           rw [prs5_o (by omega) ho5]
           exact qS_cl hx6 hpa S3)
        | (refine ⟨rfl, ?_, K1⟩
           rcases st with j | ⟨i, oo⟩
           · exact S1
           · have hcv : cu f (.inr (i, oo)) = tk f i := rfl
             show qS _ pa x s op N (prs (tk f) (Vf f) (k + 1) 5 op i oo)
             rw [prs5_e (by omega) (by omega) (by omega) (by omega)]
             exact S1)
  · obtain ⟨i, oo, rfl⟩ := cu_inr (f := f) (st := st) (by omega)
    have hi := (qW_i w).1
    have hil := (qW_i w).2
    have h0 : g pa 0 = i := S.1
    have hcv : cu f (.inr (i, oo)) = tk f i := rfl
    have hlt : i < N := qC_lt C hi (by omega)
    refine wp_aload_n rfl rfl dX5_parseOne_12 ?_
    refine wp_aload_n rfl rfl dX5_parseOne_13 ?_
    refine wp_aload_n rfl rfl dX5_parseOne_14 ?_
    refine wp_getfield1 (z := 6) (kI := 0) fX5_19 dX5_parseOne_15 (by first | omega | (simp (disch := omega) only [up2_ne, up2_eq, tpq_a T, h6, txq_a X, txq_b X, txq_c X, txq_d X, txq_e X, txq_f X, txq_g X, h0]; first | done | omega)) (by first | assumption | (simp (disch := omega) only [up2_ne, up2_eq, tpq_a T, h6, txq_a X, txq_b X, txq_c X, txq_d X, txq_e X, txq_f X, txq_g X, h0]; first | done | rfl | omega)) rfl rfl ?_
    try simp (disch := omega) only [up2_ne, up2_eq, tpq_a T, h6, txq_a X, txq_b X, txq_c X, txq_d X, txq_e X, txq_f X, txq_g X, h0]
    refine wp_cV1 (ci := 9) okX9_numberAt rfl rfl wX5_68 dX5_parseOne_18 rfl (Nat.le_of_ble_eq_true rfl) (Nat.le_of_ble_eq_true rfl) (by first | omega | (simp (disch := omega) only [up2_ne, up2_eq, tpq_a T, h6, txq_a X, txq_b X, txq_c X, txq_d X, txq_e X, txq_f X, txq_g X, h0]; first | done | omega)) (by first | assumption | (simp (disch := omega) only [up2_ne, up2_eq, tpq_a T, h6, txq_a X, txq_b X, txq_c X, txq_d X, txq_e X, txq_f X, txq_g X, h0]; first | done | rfl | omega)) (s_X9_numberAt C.1 C.2.1 hi (by omega)) (Nat.zero_le _) ?_
    try simp (disch := omega) only [up2_ne, up2_eq, tpq_a T, h6, txq_a X, txq_b X, txq_c X, txq_d X, txq_e X, txq_f X, txq_g X, h0]
    refine wp_cV1r (ci := 10) okX10_add rfl rfl wX5_62 dX5_parseOne_21 (Nat.le_of_ble_eq_true rfl) (Nat.le_of_ble_eq_true rfl) (by first | omega | (simp (disch := omega) only [up2_ne, up2_eq, tpq_a T, h6, txq_a X, txq_b X, txq_c X, txq_d X, txq_e X, txq_f X, txq_g X, h0]; first | done | omega)) (by first | assumption | (simp (disch := omega) only [up2_ne, up2_eq, tpq_a T, h6, txq_a X, txq_b X, txq_c X, txq_d X, txq_e X, txq_f X, txq_g X, h0]; first | done | rfl | omega)) (add_row C S (fun y q => by cases q; dsimp only; omega)) (Nat.zero_le _) ?_
    rintro r g1 ⟨rfl, S1, K1⟩ -
    have C1 := qC_fr C K1
    have h61 := C1.2.2.1.2
    have T1 := C1.1.2.1
    have X1 := C1.2.2.2.2
    have h01 : g1 pa 0 = i := S1.1
    show WP _ _ _ _ _ _ _ [] _
    refine wp_aload_n rfl rfl dX5_parseOne_24 ?_
    refine wp_dup (by decide) dX5_parseOne_25 ?_
    refine wp_getfield1 (z := 6) (kI := 0) fX5_19 dX5_parseOne_26 (by first | omega | (simp (disch := omega) only [up2_ne, up2_eq, tpq_a T1, h61, txq_a X1, txq_b X1, txq_c X1, txq_d X1, txq_e X1, txq_f X1, txq_g X1, h01]; first | done | omega)) (by first | assumption | (simp (disch := omega) only [up2_ne, up2_eq, tpq_a T1, h61, txq_a X1, txq_b X1, txq_c X1, txq_d X1, txq_e X1, txq_f X1, txq_g X1, h01]; first | done | rfl | omega)) rfl rfl ?_
    try simp (disch := omega) only [up2_ne, up2_eq, tpq_a T1, h61, txq_a X1, txq_b X1, txq_c X1, txq_d X1, txq_e X1, txq_f X1, txq_g X1, h01]
    refine wp_iconst dX5_parseOne_29 ?_
    refine wp_iadd dX5_parseOne_30 ?_
    refine wp_putfield1 (z := 6) (kI := 0) fX5_19 dX5_parseOne_31 (by first | omega | (simp (disch := omega) only [up2_ne, up2_eq, tpq_a T1, h61, txq_a X1, txq_b X1, txq_c X1, txq_d X1, txq_e X1, txq_f X1, txq_g X1, h01]; first | done | omega)) (by first | assumption | (simp (disch := omega) only [up2_ne, up2_eq, tpq_a T1, h61, txq_a X1, txq_b X1, txq_c X1, txq_d X1, txq_e X1, txq_f X1, txq_g X1, h01]; first | done | rfl | omega)) rfl rfl ?_
    refine wp_goto (tgt := 151) dX5_parseOne_34 (by decide) ?_
    refine wp_vret dX5_parseOne_151 rfl ?_
    first
      | (refine ⟨rfl, ?_, fun y z q => by rw [up2_ne (by omega)]; exact K1 y z q⟩
         show qS _ pa x s op N (prs (tk f) (Vf f) (k + 1) 5 op i oo)
         first
           | rw [prs5_n (by omega)]
           | rw [prs5_a (by omega)]
         have S1' := qS_at hx6 hpa S1
         first | exact S1' | (rw [hcv] at S1'; exact S1'))
      | (refine ⟨rfl, ?_, K1⟩
         show qS _ pa x s op N (prs (tk f) (Vf f) (k + 1) 5 op i oo)
         first
           | rw [prs5_mf (by omega) ho5]
           | rw [prs5_of (by omega) ho5]
         exact S1)
      | (refine ⟨rfl, ?_, qfr_trans (qfr_trans (qfr_trans K1 K2) K3) K4⟩
         show qS _ pa x s op N (prs (tk f) (Vf f) (k + 1) 5 op i oo)
         rw [prs5_m (by omega) ho5]
         exact S4)
      | (refine ⟨rfl, ?_, qfr_trans (qfr_trans (qfr_trans K1 K2) K3) (qfr_pa (by omega))⟩
         show qS _ pa x s op N (prs (tk f) (Vf f) (k + 1) 5 op i oo)
         rw [prs5_o (by omega) ho5]
         exact qS_cl hx6 hpa S3)
      | (refine ⟨rfl, ?_, K1⟩
         rcases st with j | ⟨i, oo⟩
         · exact S1
         · have hcv : cu f (.inr (i, oo)) = tk f i := rfl
           show qS _ pa x s op N (prs (tk f) (Vf f) (k + 1) 5 op i oo)
           rw [prs5_e (by omega) (by omega) (by omega) (by omega)]
           exact S1)
