/-! ===== text: the reference reads a text ===== -/
abbrev tfm (h g : mH) (t : Int) : Prop := ∀ x k : Int, ¬ ((x = 200 ∧ ((38 ≤ k ∧ k ≤ 41) ∨ k = 43)) ∨ (x = 242 ∧ 0 ≤ k) ∨ (x = 232 ∧ 3 * t ≤ k ∧ k < 3 * t + 3) ∨ ((x = 233 ∨ x = 234) ∧ 480 * t ≤ k ∧ k < 480 * t + 480)) → g x k = h x k
theorem tfm_St {h g : mH} {t : Int} (t0 : 0 ≤ t ∧ t ≤ 5) (H : St h) (K : tfm h g t) : St g := H.of (fun q hq => K _ _ (by have := statL_r q hq; omega))
theorem tfm_rT {h g : mH} {n t : Int} {f : Int → Int} (t0 : 0 ≤ t ∧ t ≤ 5) (T : rT h n f) (K : tfm h g t) : rT g n f := rT_cg T (tfm_St t0 T.1 K) (K _ _ (by omega)) (fun k => K _ _ (by omega))
theorem tfm_nfr {h g g' : mH} {t : Int} (K : tfm h g t) (K2 : nfr g g') : tfm h g' t := fun x k q => by rw [K2 x k (by omega)]; exact K x k q
theorem tfm_rfr {h g g' : mH} {t row : Int} (hr : 3 * t ≤ row ∧ row < 3 * t + 3) (K : tfm h g t) (K2 : rfr g g' row) : tfm h g' t := fun x k q => by rw [K2 x k (by omega)]; exact K x k q
theorem rOu_fr {g g' : mH} {row row' : Int} {oo : List Int} (R : rOu g row' oo) (hl : oo.length ≤ 160) (hne : row ≠ row') (K : rfr g g' row) : rOu g' row' oo := by
  refine ⟨by rw [K _ _ (by omega)]; exact R.1, fun k hk => ?_⟩
  rw [K _ _ (by omega), K _ _ (by omega)]
  exact R.2 k hk
theorem rOu_nfr {g g' : mH} {row : Int} {oo : List Int} (R : rOu g row oo) (K : nfr g g') : rOu g' row oo := rOu_cg R (K _ _ (by omega)) (fun k => K _ _ (by omega)) (fun k => K _ _ (by omega))
theorem ptsF_len {T V : Nat → Int} {N : Nat} (hT : TOK T V N) : ∀ (p i : Nat) (os : List (List Int)), p ≤ 3 → ptsF T V p = .inr (i, os) → ∀ q : Nat, q < p → (os.getD q []).length ≤ 160
  | 0, i, os, _, h => fun q hq => absurd hq (Nat.not_lt_zero q)
  | p + 1, i, os, hp, h => by
    rcases h1 : ptsF T V p with j | ⟨i1, os1⟩
    · rw [ptsF_l h1] at h
      cases h
    · have ih := ptsF_len hT p i1 os1 (by omega) h1
      have hG1 := ptsF_G hT p i1 os1 (by omega) h1
      rcases h2 : prT T V p i1 with j | ⟨i2, oo⟩
      · rw [ptsF_rl h1 h2] at h
        cases h
      · rw [ptsF_rr h1 h2] at h
        cases h
        unfold prT at h2
        by_cases c : T i1 = 7 + p
        · rw [if_pos c] at h2
          have hi1 : i1 < N := tok_lt hT hG1.1 (by omega)
          have hG := prE_G hT (by omega) h2
          have hN := hT.1
          intro q hq
          by_cases d : q = p
          · rw [d, ← hG1.2.1, gD_e]
            omega
          · rw [gD_l (by omega)]
            exact ih q (by omega)
        · rw [if_neg c] at h2
          cases h2
theorem ptsF_l3 {T V : Nat → Int} {p j : Nat} (hp : p ≤ 3) (h : ptsF T V p = .inl j) : ptx T V = .inl j := by
  have h3 : ptsF T V 3 = .inl j := by
    rcases (show p = 0 ∨ p = 1 ∨ p = 2 ∨ p = 3 by omega) with rfl | rfl | rfl | rfl
    · cases h
    · exact ptsF_l (ptsF_l h)
    · exact ptsF_l h
    · exact h
  unfold ptx
  rw [h3]
theorem ptx_r {T V : Nat → Int} {i : Nat} {os : List (List Int)} (h : ptsF T V 3 = .inr (i, os)) : ptx T V = if T i = 22 then .inr os else .inl i := by
  unfold ptx
  rw [h]
/-- the parts that stand behind one more -/
theorem rows_s {g g2 : mH} {t : Int} {p : Nat} {os : List (List Int)} {o2 : List Int} (hp : os.length = p) (hl : ∀ q : Nat, q < p → (os.getD q []).length ≤ 160) (R : ∀ q : Nat, q < p → rOu g (3 * t + q) (os.getD q [])) (K : rfr g g2 (3 * t + p)) (O2 : rOu g2 (3 * t + p) o2) : ∀ q : Nat, q < p + 1 → rOu g2 (3 * t + q) ((os ++ [o2]).getD q []) := by
  intro q hq
  by_cases d : q = p
  · subst d
    rw [← hp, gD_e, hp]
    exact O2
  · rw [gD_l (by omega)]
    exact rOu_fr (R q (by omega)) (hl q (by omega)) (by omega) K
set_option maxHeartbeats 4000000 in
theorem s_X12_isText {u : gT} {h : mH} {d b : Nat} {n t : Int} {f : Int → Int} {N : Nat} (RT : rT h n f) (hTK : TOK (tk f) (Vf f) N) (t0 : 0 ≤ t ∧ t ≤ 5) (ht : h 200 30 = t) : Rlt (gX (gq u)) MX12_isText (d + 4) b [(2, 200)] h (fun r g1 => tfm h g1 t ∧ ((∃ j : Nat, ptx (tk f) (Vf f) = .inl j ∧ r = (0, 0) ∧ g1 200 39 = tB f (tP f j)) ∨ (∃ os, ptx (tk f) (Vf f) = .inr os ∧ r = (0, 1) ∧ ∀ q : Nat, q < 3 → rOu g1 (3 * t + q) (os.getD q [])))) := by
  refine Rlt.of ?_
  have hS := RT.1
  have F := RT.2.2.1
  have ex0 : ∀ (p j : Nat) (g : mH), p ≤ 3 → ptsF (tk f) (Vf f) p = .inl j → tfm h g t → g 200 39 = tB f (tP f j) → WP (gX (gq u)) MX12_isText (d + 4) b (fun r g1 => tfm h g1 t ∧ ((∃ j : Nat, ptx (tk f) (Vf f) = .inl j ∧ r = (0, 0) ∧ g1 200 39 = tB f (tP f j)) ∨ (∃ os, ptx (tk f) (Vf f) = .inr os ∧ r = (0, 1) ∧ ∀ q : Nat, q < 3 → rOu g1 (3 * t + q) (os.getD q [])))) 9 [(2, 200), (0, 0), (0, (p : Int))] [] g := by
    intro p j g hp hj K h39
    have hpx := ptsF_l3 hp hj
    refine wp_iload_n rfl rfl dX12_isText_9 ?_
    refine wp_iconst dX12_isText_10 ?_
    refine wp_icmp_ge (tgt := 60) (by first | assumption | exact bI_in _ | exact ⟨by omega, by omega⟩ | exact iAnd_in | exact iOr_in | exact iShr_in | exact iShl_in | exact iXor_in | exact hxs _) (by first | assumption | exact bI_in _ | exact ⟨by omega, by omega⟩ | exact iAnd_in | exact iOr_in | exact iShr_in | exact iShl_in | exact iXor_in | exact hxs _) dX12_isText_11 (by decide) (fun c1 => ?_) (fun c1 => ?_)
    · refine wp_iload_n rfl rfl dX12_isText_60 ?_
      refine wp_if_eq (tgt := 81) (by first | assumption | exact bI_in _ | exact ⟨by omega, by omega⟩ | exact iAnd_in | exact iOr_in | exact iShr_in | exact iShl_in | exact iXor_in | exact hxs _) dX12_isText_61 (by decide) (fun hx => ?_) (fun hx => absurd hx (by decide))
      refine wp_iload_n rfl rfl dX12_isText_81 ?_
      refine wp_zret (by first | exact Or.inl rfl | exact Or.inr rfl | omega) dX12_isText_82 rfl ?_
      exact ⟨K, Or.inl ⟨j, hpx, rfl, h39⟩⟩
    · refine wp_iload_n rfl rfl dX12_isText_14 ?_
      refine wp_if_eq (tgt := 60) (by first | assumption | exact bI_in _ | exact ⟨by omega, by omega⟩ | exact iAnd_in | exact iOr_in | exact iShr_in | exact iShl_in | exact iXor_in | exact hxs _) dX12_isText_15 (by decide) (fun hx => ?_) (fun hx => absurd hx (by decide))
      refine wp_iload_n rfl rfl dX12_isText_60 ?_
      refine wp_if_eq (tgt := 81) (by first | assumption | exact bI_in _ | exact ⟨by omega, by omega⟩ | exact iAnd_in | exact iOr_in | exact iShr_in | exact iShl_in | exact iXor_in | exact hxs _) dX12_isText_61 (by decide) (fun hx => ?_) (fun hx => absurd hx (by decide))
      refine wp_iload_n rfl rfl dX12_isText_81 ?_
      refine wp_zret (by first | exact Or.inl rfl | exact Or.inr rfl | omega) dX12_isText_82 rfl ?_
      exact ⟨K, Or.inl ⟨j, hpx, rfl, h39⟩⟩
  have loop : ∀ p : Nat, p ≤ 3 → ∀ (i : Nat) (os : List (List Int)) (g : mH), ptsF (tk f) (Vf f) p = .inr (i, os) → tfm h g t → g 200 38 = tP f i → (∀ q : Nat, q < p → rOu g (3 * t + q) (os.getD q [])) → WP (gX (gq u)) MX12_isText (d + 4) b (fun r g1 => tfm h g1 t ∧ ((∃ j : Nat, ptx (tk f) (Vf f) = .inl j ∧ r = (0, 0) ∧ g1 200 39 = tB f (tP f j)) ∨ (∃ os, ptx (tk f) (Vf f) = .inr os ∧ r = (0, 1) ∧ ∀ q : Nat, q < 3 → rOu g1 (3 * t + q) (os.getD q [])))) 9 [(2, 200), (0, 1), (0, (p : Int))] [] g := by
    refine loop_w 3 (fun p hp ih => ?_)
    intro i os g hpt K h38 hro
    have gT := tfm_rT t0 RT K
    have gS := gT.1
    have hG := ptsF_G hTK p i os hp hpt
    have hLn := ptsF_len hTK p i os hp hpt
    have hpb := tP_b F i
    have ht0 := tk_inv (f := f) (i := i)
    have htb := rTk_b ht0.1 ht0.2
    have hTx := rTk_inv ht0.1 ht0.2
    have hN := hTK.1
    have h30 : g 200 30 = t := by rw [K _ _ (by omega)]; exact ht
    refine wp_iload_n rfl rfl dX12_isText_9 ?_
    refine wp_iconst dX12_isText_10 ?_
    refine wp_icmp_ge (tgt := 60) (by first | assumption | exact bI_in _ | exact ⟨by omega, by omega⟩ | exact iAnd_in | exact iOr_in | exact iShr_in | exact iShl_in | exact iXor_in | exact hxs _) (by first | assumption | exact bI_in _ | exact ⟨by omega, by omega⟩ | exact iAnd_in | exact iOr_in | exact iShr_in | exact iShl_in | exact iXor_in | exact hxs _) dX12_isText_11 (by decide) (fun c2 => ?_) (fun c2 => ?_)
    · refine wp_iload_n rfl rfl dX12_isText_60 ?_
      refine wp_if_eq (tgt := 81) (by first | assumption | exact bI_in _ | exact ⟨by omega, by omega⟩ | exact iAnd_in | exact iOr_in | exact iShr_in | exact iShl_in | exact iXor_in | exact hxs _) dX12_isText_61 (by decide) (fun hx => absurd hx (by decide)) (fun hx => ?_)
      refine wp_aload_n rfl rfl dX12_isText_64 ?_
      refine wp_cV0r (ci := 12) okX12_next rfl rfl wX12_250 dX12_isText_65 (Nat.le_of_ble_eq_true rfl) (Nat.le_of_ble_eq_true rfl) (by first | omega | (simp (disch := omega) only [up2_ne, up2_eq, h38, h30, st_200_m1 gS]; first | done | omega)) (by first | assumption | (simp (disch := omega) only [up2_ne, up2_eq, h38, h30, st_200_m1 gS]; first | done | rfl | omega)) (s_X12_next gT h38 hpb.1 hpb.2) (Nat.zero_le _) ?_
      rintro r g1 ⟨rfl, P⟩ -
      show WP _ _ _ _ _ _ _ [] _
      obtain ⟨p38, p39, p40, p41, pK⟩ := P
      replace p40 : g1 200 40 = rTk (tk f i) := p40
      have K1 := tfm_nfr K pK
      have gS1 := tfm_St t0 hS K1
      have gT1 := tfm_rT t0 RT K1
      have h301 : g1 200 30 = t := by rw [K1 _ _ (by omega)]; exact ht
      refine wp_aload_n rfl rfl dX12_isText_68 ?_
      refine wp_getfield1 (z := 13) (kI := 40) fX12_226 dX12_isText_69 (by first | omega | (simp (disch := omega) only [up2_ne, up2_eq, p40, h301, st_200_m1 gS1]; first | done | omega)) (by first | assumption | (simp (disch := omega) only [up2_ne, up2_eq, p40, h301, st_200_m1 gS1]; first | done | rfl | omega)) rfl rfl ?_
      try simp (disch := omega) only [up2_ne, up2_eq, p40, h301, st_200_m1 gS1]
      refine wp_if_ne (tgt := 79) (by first | assumption | exact bI_in _ | exact ⟨by omega, by omega⟩ | exact iAnd_in | exact iOr_in | exact iShr_in | exact iShl_in | exact iXor_in | exact hxs _) dX12_isText_72 (by decide) (fun c3 => ?_) (fun c3 => ?_)
      · refine wp_iconst dX12_isText_79 ?_
        refine wp_istore_n rfl dX12_isText_80 rfl (Nat.le_of_ble_eq_true rfl) rfl ?_
        try simp only [List.set_cons_zero, List.set_cons_succ]
        refine wp_iload_n rfl rfl dX12_isText_81 ?_
        refine wp_zret (by first | exact Or.inl rfl | exact Or.inr rfl | omega) dX12_isText_82 rfl ?_
        have ep : p = 3 := by omega
        subst ep
        have hpx := ptx_r hpt
        first
          | (have ht22 : tk f i = 22 := by omega
             rw [if_pos ht22] at hpx
             exact ⟨K1, Or.inr ⟨os, hpx, rfl, fun q hq => rOu_nfr (hro q hq) pK⟩⟩)
          | (have ht22 : tk f i ≠ 22 := by omega
             rw [if_neg ht22] at hpx
             exact ⟨K1, Or.inl ⟨i, hpx, rfl, p39⟩⟩)
      · refine wp_iconst dX12_isText_75 ?_
        refine wp_goto (tgt := 80) dX12_isText_76 (by decide) ?_
        refine wp_istore_n rfl dX12_isText_80 rfl (Nat.le_of_ble_eq_true rfl) rfl ?_
        try simp only [List.set_cons_zero, List.set_cons_succ]
        refine wp_iload_n rfl rfl dX12_isText_81 ?_
        refine wp_zret (by first | exact Or.inl rfl | exact Or.inr rfl | omega) dX12_isText_82 rfl ?_
        have ep : p = 3 := by omega
        subst ep
        have hpx := ptx_r hpt
        first
          | (have ht22 : tk f i = 22 := by omega
             rw [if_pos ht22] at hpx
             exact ⟨K1, Or.inr ⟨os, hpx, rfl, fun q hq => rOu_nfr (hro q hq) pK⟩⟩)
          | (have ht22 : tk f i ≠ 22 := by omega
             rw [if_neg ht22] at hpx
             exact ⟨K1, Or.inl ⟨i, hpx, rfl, p39⟩⟩)
    · refine wp_iload_n rfl rfl dX12_isText_14 ?_
      refine wp_if_eq (tgt := 60) (by first | assumption | exact bI_in _ | exact ⟨by omega, by omega⟩ | exact iAnd_in | exact iOr_in | exact iShr_in | exact iShl_in | exact iXor_in | exact hxs _) dX12_isText_15 (by decide) (fun hx => absurd hx (by decide)) (fun hx => ?_)
      refine wp_aload_n rfl rfl dX12_isText_18 ?_
      refine wp_cV0r (ci := 12) okX12_next rfl rfl wX12_250 dX12_isText_19 (Nat.le_of_ble_eq_true rfl) (Nat.le_of_ble_eq_true rfl) (by first | omega | (simp (disch := omega) only [up2_ne, up2_eq, h38, h30, st_200_m1 gS]; first | done | omega)) (by first | assumption | (simp (disch := omega) only [up2_ne, up2_eq, h38, h30, st_200_m1 gS]; first | done | rfl | omega)) (s_X12_next gT h38 hpb.1 hpb.2) (Nat.zero_le _) ?_
      rintro r g1 ⟨rfl, P⟩ -
      show WP _ _ _ _ _ _ _ [] _
      obtain ⟨p38, p39, p40, p41, pK⟩ := P
      replace p40 : g1 200 40 = rTk (tk f i) := p40
      have K1 := tfm_nfr K pK
      have gS1 := tfm_St t0 hS K1
      have gT1 := tfm_rT t0 RT K1
      have h301 : g1 200 30 = t := by rw [K1 _ _ (by omega)]; exact ht
      refine wp_aload_n rfl rfl dX12_isText_22 ?_
      refine wp_getfield1 (z := 13) (kI := 40) fX12_226 dX12_isText_23 (by first | omega | (simp (disch := omega) only [up2_ne, up2_eq, p40, h301, st_200_m1 gS1]; first | done | omega)) (by first | assumption | (simp (disch := omega) only [up2_ne, up2_eq, p40, h301, st_200_m1 gS1]; first | done | rfl | omega)) rfl rfl ?_
      try simp (disch := omega) only [up2_ne, up2_eq, p40, h301, st_200_m1 gS1]
      refine wp_bipush (by decide) dX12_isText_26 ?_
      refine wp_iload_n rfl rfl dX12_isText_28 ?_
      refine wp_iadd dX12_isText_29 ?_
      refine wp_icmp_ne (tgt := 52) (by first | assumption | exact bI_in _ | exact ⟨by omega, by omega⟩ | exact iAnd_in | exact iOr_in | exact iShr_in | exact iShl_in | exact iXor_in | exact hxs _) (by first | assumption | exact bI_in _ | exact ⟨by omega, by omega⟩ | exact iAnd_in | exact iOr_in | exact iShr_in | exact iShl_in | exact iXor_in | exact hxs _) dX12_isText_30 (by decide) (fun c4 => ?_) (fun c4 => ?_)
      · refine wp_iconst dX12_isText_52 ?_
        refine wp_istore_n rfl dX12_isText_53 rfl (Nat.le_of_ble_eq_true rfl) rfl ?_
        try simp only [List.set_cons_zero, List.set_cons_succ]
        refine wp_iinc rfl rfl dX12_isText_54 rfl rfl ?_
        try simp only [List.set_cons_zero, List.set_cons_succ]
        refine wp_goto (tgt := 9) dX12_isText_57 (by decide) ?_
        first
          | (have hpr : prT (tk f) (Vf f) p i = .inl i := by
               unfold prT
               rw [if_neg (by omega)]
             have z := ex0 (p + 1) i g1 (by omega) (ptsF_rl hpt hpr) K1 p39
             rw [show ((p + 1 : Nat) : Int) = (p : Int) + 1 by omega] at z
             exact z)
          | (have hpr : prT (tk f) (Vf f) p i = .inl j := by
               unfold prT
               rw [if_pos (by omega)]
               exact e1
             have z := ex0 (p + 1) j g2 (by omega) (ptsF_rl hpt hpr) (tfm_rfr (by omega) K1 K2) e39
             rw [show ((p + 1 : Nat) : Int) = (p : Int) + 1 by omega] at z
             exact z)
      · have hlt : i < N := tok_lt hTK hG.1 (by omega)
        refine wp_aload_n rfl rfl dX12_isText_33 ?_
        refine wp_iconst dX12_isText_34 ?_
        refine wp_aload_n rfl rfl dX12_isText_35 ?_
        refine wp_getfield1 (z := 13) (kI := 30) fX12_211 dX12_isText_36 (by first | omega | (simp (disch := omega) only [up2_ne, up2_eq, p40, h301, st_200_m1 gS1]; first | done | omega)) (by first | assumption | (simp (disch := omega) only [up2_ne, up2_eq, p40, h301, st_200_m1 gS1]; first | done | rfl | omega)) rfl rfl ?_
        try simp (disch := omega) only [up2_ne, up2_eq, p40, h301, st_200_m1 gS1]
        refine wp_imul dX12_isText_39 ?_
        refine wp_iload_n rfl rfl dX12_isText_40 ?_
        refine wp_iadd dX12_isText_41 ?_
        refine wp_cV1r (ci := 12) okX12_isRead rfl rfl wX12_268 dX12_isText_42 (Nat.le_of_ble_eq_true rfl) (Nat.le_of_ble_eq_true rfl) (by first | omega | (simp (disch := omega) only [up2_ne, up2_eq, p40, h301, st_200_m1 gS1]; first | done | omega)) (by first | assumption | (simp (disch := omega) only [up2_ne, up2_eq, p40, h301, st_200_m1 gS1]; first | done | rfl | omega)) (s_X12_isRead gT1 hTK (by omega) (p38.trans rfl) (by omega) (prE_A hTK (i := i + 1) (by omega))) (Nat.zero_le _) ?_
        rintro r g2 ⟨K2, (⟨j, e1, rfl, e39⟩ | ⟨i2, o2, e1, rfl, e38, O2⟩)⟩ -
        · show WP _ _ _ _ _ _ _ ((0, 0) :: _) _
          refine wp_if_eq (tgt := 52) (by first | assumption | exact bI_in _ | exact ⟨by omega, by omega⟩ | exact iAnd_in | exact iOr_in | exact iShr_in | exact iShl_in | exact iXor_in | exact hxs _) dX12_isText_45 (by decide) (fun hx => ?_) (fun hx => absurd hx (by decide))
          refine wp_iconst dX12_isText_52 ?_
          refine wp_istore_n rfl dX12_isText_53 rfl (Nat.le_of_ble_eq_true rfl) rfl ?_
          try simp only [List.set_cons_zero, List.set_cons_succ]
          refine wp_iinc rfl rfl dX12_isText_54 rfl rfl ?_
          try simp only [List.set_cons_zero, List.set_cons_succ]
          refine wp_goto (tgt := 9) dX12_isText_57 (by decide) ?_
          first
            | (have hpr : prT (tk f) (Vf f) p i = .inl i := by
                 unfold prT
                 rw [if_neg (by omega)]
               have z := ex0 (p + 1) i g1 (by omega) (ptsF_rl hpt hpr) K1 p39
               rw [show ((p + 1 : Nat) : Int) = (p : Int) + 1 by omega] at z
               exact z)
            | (have hpr : prT (tk f) (Vf f) p i = .inl j := by
                 unfold prT
                 rw [if_pos (by omega)]
                 exact e1
               have z := ex0 (p + 1) j g2 (by omega) (ptsF_rl hpt hpr) (tfm_rfr (by omega) K1 K2) e39
               rw [show ((p + 1 : Nat) : Int) = (p : Int) + 1 by omega] at z
               exact z)
        · show WP _ _ _ _ _ _ _ ((0, 1) :: _) _
          refine wp_if_eq (tgt := 52) (by first | assumption | exact bI_in _ | exact ⟨by omega, by omega⟩ | exact iAnd_in | exact iOr_in | exact iShr_in | exact iShl_in | exact iXor_in | exact hxs _) dX12_isText_45 (by decide) (fun hx => absurd hx (by decide)) (fun hx => ?_)
          refine wp_iconst dX12_isText_48 ?_
          refine wp_goto (tgt := 53) dX12_isText_49 (by decide) ?_
          refine wp_istore_n rfl dX12_isText_53 rfl (Nat.le_of_ble_eq_true rfl) rfl ?_
          try simp only [List.set_cons_zero, List.set_cons_succ]
          refine wp_iinc rfl rfl dX12_isText_54 rfl rfl ?_
          try simp only [List.set_cons_zero, List.set_cons_succ]
          refine wp_goto (tgt := 9) dX12_isText_57 (by decide) ?_
          have hpr : prT (tk f) (Vf f) p i = .inr (i2, o2) := by
            unfold prT
            rw [if_pos (by omega)]
            exact e1
          have z := ih (by omega) i2 (os ++ [o2]) g2 (ptsF_rr hpt hpr) (tfm_rfr (by omega) K1 K2) e38 (rows_s hG.2.1 hLn (fun q hq => rOu_nfr (hro q hq) pK) K2 O2)
          rw [show ((p + 1 : Nat) : Int) = (p : Int) + 1 by omega] at z
          exact z
  show WP (gX (gq u)) MX12_isText (d + 4) b _ 0 [(2, 200), (9, 0), (9, 0)] [] h
  refine wp_aload_n rfl rfl dX12_isText_0 ?_
  refine wp_iconst dX12_isText_1 ?_
  refine wp_putfield1 (z := 13) (kI := 38) fX12_220 dX12_isText_2 (by first | omega | (simp (disch := omega) only [up2_ne, up2_eq, st_200_m1 hS]; first | done | omega)) (by first | assumption | (simp (disch := omega) only [up2_ne, up2_eq, st_200_m1 hS]; first | done | rfl | omega)) rfl rfl ?_
  refine wp_iconst dX12_isText_5 ?_
  refine wp_istore_n rfl dX12_isText_6 rfl (Nat.le_of_ble_eq_true rfl) rfl ?_
  try simp only [List.set_cons_zero, List.set_cons_succ]
  refine wp_iconst dX12_isText_7 ?_
  refine wp_istore_n rfl dX12_isText_8 rfl (Nat.le_of_ble_eq_true rfl) rfl ?_
  try simp only [List.set_cons_zero, List.set_cons_succ]
  refine loop 0 (by omega) 0 [] _ rfl (fun x k y => by rw [up2_ne (by omega)]) (by rw [up2_eq]; rfl) (fun q hq => absurd hq (Nat.not_lt_zero q))
theorem rtext_t {u : gT} {h : mH} {d b : Nat} {n t : Int} {f : Int → Int} {N : Nat} (RT : rT h n f) (hTK : TOK (tk f) (Vf f) N) (t0 : 0 ≤ t ∧ t ≤ 5) (ht : h 200 30 = t) : Rlt (gX (gq u)) MX12_text (d + 5) b [(2, 200)] h (fun r g1 => (∃ g2, tfm h g2 t ∧ ((∃ j : Nat, ptx (tk f) (Vf f) = .inl j ∧ r = (0, -100 - tB f (tP f j)) ∧ g1 = up2 g2 200 29 0) ∨ (∃ os, ptx (tk f) (Vf f) = .inr os ∧ r = (0, t) ∧ (∀ q : Nat, q < 3 → rOu g2 (3 * t + q) (os.getD q [])) ∧ g1 = up2 (up2 g2 200 29 0) 200 30 (t + 1))))) := by
  refine Rlt.of ?_
  have hS := RT.1
  show WP (gX (gq u)) MX12_text (d + 5) b _ 0 [(2, 200), (9, 0)] [] h
  refine wp_aload_n rfl rfl dX12_text_0 ?_
  refine wp_getfield1 (z := 13) (kI := 30) fX12_211 dX12_text_1 (by first | omega | (simp (disch := omega) only [up2_ne, up2_eq, ht, st_200_m1 hS]; first | done | omega)) (by first | assumption | (simp (disch := omega) only [up2_ne, up2_eq, ht, st_200_m1 hS]; first | done | rfl | omega)) rfl rfl ?_
  try simp (disch := omega) only [up2_ne, up2_eq, ht, st_200_m1 hS]
  refine wp_bipush (by decide) dX12_text_4 ?_
  refine wp_icmp_ne (tgt := 12) (by first | assumption | exact bI_in _ | exact ⟨by omega, by omega⟩ | exact iAnd_in | exact iOr_in | exact iShr_in | exact iShl_in | exact iXor_in | exact hxs _) (by first | assumption | exact bI_in _ | exact ⟨by omega, by omega⟩ | exact iAnd_in | exact iOr_in | exact iShr_in | exact iShl_in | exact iXor_in | exact hxs _) dX12_text_6 (by decide) (fun c1 => ?_) (fun c1 => ?_)
  · refine wp_aload_n rfl rfl dX12_text_12 ?_
    refine wp_cV0r (ci := 12) okX12_isText rfl rfl wX12_273 dX12_text_13 (Nat.le_of_ble_eq_true rfl) (Nat.le_of_ble_eq_true rfl) (by first | omega | (simp (disch := omega) only [up2_ne, up2_eq, ht, st_200_m1 hS]; first | done | omega)) (by first | assumption | (simp (disch := omega) only [up2_ne, up2_eq, ht, st_200_m1 hS]; first | done | rfl | omega)) (s_X12_isText RT hTK (by omega) ht) (Nat.zero_le _) ?_
    rintro r g2 ⟨K2, (⟨j, e1, rfl, e39⟩ | ⟨os, e1, rfl, O2⟩)⟩ -
    · have h302 : g2 200 30 = t := by rw [K2 _ _ (by omega)]; exact ht
      have gS2 := tfm_St (by omega) hS K2
      show WP _ _ _ _ _ _ _ ((0, 0) :: _) _
      refine wp_istore_n rfl dX12_text_16 rfl (Nat.le_of_ble_eq_true rfl) rfl ?_
      try simp only [List.set_cons_zero, List.set_cons_succ]
      refine wp_aload_n rfl rfl dX12_text_17 ?_
      refine wp_iconst dX12_text_18 ?_
      refine wp_putfield1 (z := 13) (kI := 29) fX12_214 dX12_text_19 (by first | omega | (simp (disch := omega) only [up2_ne, up2_eq, h302, st_200_m1 gS2]; first | done | omega)) (by first | assumption | (simp (disch := omega) only [up2_ne, up2_eq, h302, st_200_m1 gS2]; first | done | rfl | omega)) rfl rfl ?_
      refine wp_iload_n rfl rfl dX12_text_22 ?_
      refine wp_if_ne (tgt := 34) (by first | assumption | exact bI_in _ | exact ⟨by omega, by omega⟩ | exact iAnd_in | exact iOr_in | exact iShr_in | exact iShl_in | exact iXor_in | exact hxs _) dX12_text_23 (by decide) (fun hx => absurd hx (by decide)) (fun hx => ?_)
      refine wp_bipush (by decide) dX12_text_26 ?_
      refine wp_aload_n rfl rfl dX12_text_28 ?_
      refine wp_getfield1 (z := 13) (kI := 39) fX12_223 dX12_text_29 (by first | omega | (simp (disch := omega) only [up2_ne, up2_eq, h302, st_200_m1 gS2]; first | done | omega)) (by first | assumption | (simp (disch := omega) only [up2_ne, up2_eq, h302, st_200_m1 gS2]; first | done | rfl | omega)) rfl rfl ?_
      try simp (disch := omega) only [up2_ne, up2_eq, h302, st_200_m1 gS2]
      refine wp_isub dX12_text_32 ?_
      refine wp_iret dX12_text_33 rfl ?_
      first
        | (exfalso; omega)
        | exact ⟨g2, K2, Or.inl ⟨j, e1, by first | rfl | (rw [e39]) | (congr 1; simp (disch := omega) only [up2_ne]; rw [e39]), rfl⟩⟩
        | exact ⟨g2, K2, Or.inr ⟨os, e1, by first | rfl | (congr 1; omega), O2, rfl⟩⟩
    · have h302 : g2 200 30 = t := by rw [K2 _ _ (by omega)]; exact ht
      have gS2 := tfm_St (by omega) hS K2
      show WP _ _ _ _ _ _ _ ((0, 1) :: _) _
      refine wp_istore_n rfl dX12_text_16 rfl (Nat.le_of_ble_eq_true rfl) rfl ?_
      try simp only [List.set_cons_zero, List.set_cons_succ]
      refine wp_aload_n rfl rfl dX12_text_17 ?_
      refine wp_iconst dX12_text_18 ?_
      refine wp_putfield1 (z := 13) (kI := 29) fX12_214 dX12_text_19 (by first | omega | (simp (disch := omega) only [up2_ne, up2_eq, h302, st_200_m1 gS2]; first | done | omega)) (by first | assumption | (simp (disch := omega) only [up2_ne, up2_eq, h302, st_200_m1 gS2]; first | done | rfl | omega)) rfl rfl ?_
      refine wp_iload_n rfl rfl dX12_text_22 ?_
      refine wp_if_ne (tgt := 34) (by first | assumption | exact bI_in _ | exact ⟨by omega, by omega⟩ | exact iAnd_in | exact iOr_in | exact iShr_in | exact iShl_in | exact iXor_in | exact hxs _) dX12_text_23 (by decide) (fun hx => ?_) (fun hx => absurd hx (by decide))
      refine wp_aload_n rfl rfl dX12_text_34 ?_
      refine wp_dup (by decide) dX12_text_35 ?_
      refine wp_getfield1 (z := 13) (kI := 30) fX12_211 dX12_text_36 (by first | omega | (simp (disch := omega) only [up2_ne, up2_eq, h302, st_200_m1 gS2]; first | done | omega)) (by first | assumption | (simp (disch := omega) only [up2_ne, up2_eq, h302, st_200_m1 gS2]; first | done | rfl | omega)) rfl rfl ?_
      try simp (disch := omega) only [up2_ne, up2_eq, h302, st_200_m1 gS2]
      refine wp_iconst dX12_text_39 ?_
      refine wp_iadd dX12_text_40 ?_
      refine wp_putfield1 (z := 13) (kI := 30) fX12_211 dX12_text_41 (by first | omega | (simp (disch := omega) only [up2_ne, up2_eq, h302, st_200_m1 gS2]; first | done | omega)) (by first | assumption | (simp (disch := omega) only [up2_ne, up2_eq, h302, st_200_m1 gS2]; first | done | rfl | omega)) rfl rfl ?_
      refine wp_aload_n rfl rfl dX12_text_44 ?_
      refine wp_getfield1 (z := 13) (kI := 30) fX12_211 dX12_text_45 (by first | omega | (simp (disch := omega) only [up2_ne, up2_eq, h302, st_200_m1 gS2]; first | done | omega)) (by first | assumption | (simp (disch := omega) only [up2_ne, up2_eq, h302, st_200_m1 gS2]; first | done | rfl | omega)) rfl rfl ?_
      try simp (disch := omega) only [up2_ne, up2_eq, h302, st_200_m1 gS2]
      refine wp_iconst dX12_text_48 ?_
      refine wp_isub dX12_text_49 ?_
      refine wp_iret dX12_text_50 rfl ?_
      first
        | (exfalso; omega)
        | exact ⟨g2, K2, Or.inl ⟨j, e1, by first | rfl | (rw [e39]) | (congr 1; simp (disch := omega) only [up2_ne]; rw [e39]), rfl⟩⟩
        | exact ⟨g2, K2, Or.inr ⟨os, e1, by first | rfl | (congr 1; omega), O2, rfl⟩⟩
  · refine wp_bipush (by decide) dX12_text_9 ?_
    refine wp_iret dX12_text_11 rfl ?_
    first
      | (exfalso; omega)
      | exact ⟨g2, K2, Or.inl ⟨j, e1, by first | rfl | (rw [e39]) | (congr 1; simp (disch := omega) only [up2_ne]; rw [e39]), rfl⟩⟩
      | exact ⟨g2, K2, Or.inr ⟨os, e1, by first | rfl | (congr 1; omega), O2, rfl⟩⟩
theorem rtext_f {u : gT} {h : mH} {d b : Nat} (hS : St h) (ht : h 200 30 = 6) : Det (gX (gq u)) MX12_text (d + 5) b [(2, 200)] h (0, -4) h := by
  intro Q hQ
  show WP (gX (gq u)) MX12_text (d + 5) b Q 0 [(2, 200), (9, 0)] [] h
  refine wp_aload_n rfl rfl dX12_text_0 ?_
  refine wp_getfield1 (z := 13) (kI := 30) fX12_211 dX12_text_1 (by first | omega | (simp (disch := omega) only [up2_ne, up2_eq, ht, st_200_m1 hS]; first | done | omega)) (by first | assumption | (simp (disch := omega) only [up2_ne, up2_eq, ht, st_200_m1 hS]; first | done | rfl | omega)) rfl rfl ?_
  try simp (disch := omega) only [up2_ne, up2_eq, ht, st_200_m1 hS]
  refine wp_bipush (by decide) dX12_text_4 ?_
  refine wp_icmp_ne (tgt := 12) (by first | assumption | exact bI_in _ | exact ⟨by omega, by omega⟩ | exact iAnd_in | exact iOr_in | exact iShr_in | exact iShl_in | exact iXor_in | exact hxs _) (by first | assumption | exact bI_in _ | exact ⟨by omega, by omega⟩ | exact iAnd_in | exact iOr_in | exact iShr_in | exact iShl_in | exact iXor_in | exact hxs _) dX12_text_6 (by decide) (fun c1 => ?_) (fun c1 => ?_)
  · exfalso; omega
  · refine wp_bipush (by decide) dX12_text_9 ?_
    refine wp_iret dX12_text_11 rfl ?_
    exact hQ
