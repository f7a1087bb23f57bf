/-! ===== text: the reference's next token ===== -/
abbrev nfr (h g : mH) : Prop := ∀ x k : Int, ¬ (x = 200 ∧ 38 ≤ k ∧ k ≤ 41) → g x k = h x k
theorem statL_n : ∀ q ∈ statL, ¬ (q.1 = 200 ∧ 38 ≤ q.2.1 ∧ q.2.1 ≤ 41) := by decide +kernel
theorem nfr_rT {h g : mH} {n : Int} {f : Int → Int} (T : rT h n f) (K : nfr h g) : rT g n f := rT_cg T (T.1.of (fun q hq => K _ _ (statL_n q hq))) (K _ _ (by omega)) (fun k => K _ _ (by omega))
theorem rTk_sg {c : Int} : rTk (sgT c) = if (c = 40 ∨ c = 41 ∨ c = 59 ∨ c = 43 ∨ c = 45 ∨ c = 42 ∨ c = 60 ∨ c = 61) then c else -1 := by
  by_cases h : (c = 40 ∨ c = 41 ∨ c = 59 ∨ c = 43 ∨ c = 45 ∨ c = 42 ∨ c = 60 ∨ c = 61)
  · rw [if_pos h]
    rcases h with rfl | rfl | rfl | rfl | rfl | rfl | rfl | rfl <;> rfl
  · rw [if_neg h]
    have e : sgT c = 23 := by
      unfold sgT
      rw [if_neg (by omega), if_neg (by omega), if_neg (by omega), if_neg (by omega), if_neg (by omega), if_neg (by omega), if_neg (by omega), if_neg (by omega)]
    rw [e]
    rfl
def nPo (h : mH) (f : Int → Int) (p : Int) (g : mH) : Prop := g 200 38 = tE f p ∧ g 200 39 = tB f p ∧ g 200 40 = rTk (tK f p) ∧ (tK f p = 13 → g 200 41 = tN f p) ∧ nfr h g
theorem tE_L {f : Int → Int} {p bb : Int} (hb : tB f p = bb) (c0 : 0 ≤ f bb) (cL : isL (f bb) = true) : tE f p = eL f bb ∧ tK f p = wF f bb (eL f bb - bb).toNat 13 := by
  have e : tE f p = eL f bb := by
    unfold tE
    rw [hb, if_neg (by omega), if_pos cL]
  refine ⟨e, ?_⟩
  unfold tK
  rw [e, hb, if_neg (by omega), if_pos cL]
theorem tE_D {f : Int → Int} {p bb : Int} (hb : tB f p = bb) (c0 : 0 ≤ f bb) (cL : isL (f bb) = false) (cD : isD (f bb) = true) : tE f p = eD f bb ∧ tK f p = if 4 < eD f bb - bb then 23 else 13 := by
  have cL' : ¬ isL (f bb) = true := by rw [cL]; decide
  have e : tE f p = eD f bb := by
    unfold tE
    rw [hb, if_neg (by omega), if_neg cL', if_pos cD]
  refine ⟨e, ?_⟩
  unfold tK
  rw [e, hb, if_neg (by omega), if_neg cL', if_pos cD]
theorem tE_S {f : Int → Int} {p bb : Int} (hb : tB f p = bb) (c0 : 0 ≤ f bb) (cL : isL (f bb) = false) (cD : isD (f bb) = false) : tE f p = bb + 1 ∧ tK f p = sgT (f bb) := by
  have cL' : ¬ isL (f bb) = true := by rw [cL]; decide
  have cD' : ¬ isD (f bb) = true := by rw [cD]; decide
  constructor
  · unfold tE
    rw [hb, if_neg (by omega), if_neg cL', if_neg cD']
  · unfold tK
    rw [hb, if_neg (by omega), if_neg cL', if_neg cD']
theorem tE_E {f : Int → Int} {p bb : Int} (hb : tB f p = bb) (c0 : f bb < 0) : tE f p = bb ∧ tK f p = 22 := by
  constructor
  · unfold tE
    rw [hb, if_pos c0]
  · unfold tK
    rw [hb, if_pos c0]
set_option maxHeartbeats 2000000 in
theorem s_X12_next {u : gT} {h : mH} {d b : Nat} {n : Int} {f : Int → Int} (RT : rT h n f) {p : Int} (hp : h 200 38 = p) (p0 : 0 ≤ p) (p1 : p ≤ n) : Rlt (gX (gq u)) MX12_next (d + 2) b [(2, 200)] h (fun r g => r = (9, 0) ∧ nPo h f p g) := by
  refine Rlt.of ?_
  have hS := RT.1
  have hn := RT.2.1
  have F := RT.2.2.1
  have hB := RT.2.2.2
  have hn1 := F.1
  have hn2 := F.2.1
  have lpL : ∀ bb : Int, p ≤ bb → bb ≤ n → tB f p = bb → 0 ≤ f bb → isL (f bb) = true → ∀ k : Nat, k ≤ (n - bb).toNat → eL f (bb + k) = eL f bb → WP (gX (gq u)) MX12_next (d + 2) b (fun r g => r = (9, 0) ∧ nPo h f p g) 77 [(2, 200), (0, f bb), (0, (k : Int))] [] (up2 (up2 h 200 38 bb) 200 39 bb) := by
    intro bb b0 b1 hb c0 cL
    have hEK := tE_L hb c0 cL
    refine loop_w (n - bb).toNat (fun k hk ih => ?_)
    intro he
    have hs := F.rng (k := bb + k) (by omega)
    have RG : rT (up2 (up2 h 200 38 bb) 200 39 bb) n f := rT_up (rT_up RT (by decide +kernel) (by decide)) (by decide +kernel) (by decide)
    refine wp_aload_n rfl rfl dX12_next_77 ?_
    refine wp_aload_n rfl rfl dX12_next_78 ?_
    refine wp_getfield1 (z := 13) (kI := 38) fX12_220 dX12_next_79 (by first | omega | (simp (disch := omega) only [up2_ne, up2_eq, hn, hp, st_200_m1 hS]; first | done | omega)) (by first | assumption | (simp (disch := omega) only [up2_ne, up2_eq, hn, hp, st_200_m1 hS]; first | done | rfl | omega)) rfl rfl ?_
    try simp (disch := omega) only [up2_ne, up2_eq, hn, hp, st_200_m1 hS]
    refine wp_iload_n rfl rfl dX12_next_82 ?_
    refine wp_iadd dX12_next_83 ?_
    refine wp_cV1 (ci := 12) okX12_letter rfl rfl wX12_217 dX12_next_84 rfl (Nat.le_of_ble_eq_true rfl) (Nat.le_of_ble_eq_true rfl) (by first | omega | (simp (disch := omega) only [up2_ne, up2_eq, hn, hp, st_200_m1 hS]; first | done | omega)) (by first | assumption | (simp (disch := omega) only [up2_ne, up2_eq, hn, hp, st_200_m1 hS]; first | done | rfl | omega)) (s_X12_letter RG (by omega) (by omega)) (Nat.zero_le _) ?_
    try simp (disch := omega) only [up2_ne, up2_eq, hn, hp, st_200_m1 hS]
    refine wp_cS1 okX12_isLetter wX12_229 dX12_next_87 rfl (Nat.le_of_ble_eq_true rfl) (Nat.le_of_ble_eq_true rfl) (s_X12_isLetter ⟨by omega, by omega⟩) (Nat.zero_le _) ?_
    try simp (disch := omega) only [up2_ne, up2_eq, hn, hp, st_200_m1 hS]
    refine wp_ifB_eq (tgt := 99) dX12_next_90 (by decide) (fun c1 => ?_) (fun c1 => ?_)
    · refine wp_aload_n rfl rfl dX12_next_99 ?_
      refine wp_aload_n rfl rfl dX12_next_100 ?_
      refine wp_aload_n rfl rfl dX12_next_101 ?_
      refine wp_getfield1 (z := 13) (kI := 38) fX12_220 dX12_next_102 (by first | omega | (simp (disch := omega) only [up2_ne, up2_eq, hn, hp, st_200_m1 hS]; first | done | omega)) (by first | assumption | (simp (disch := omega) only [up2_ne, up2_eq, hn, hp, st_200_m1 hS]; first | done | rfl | omega)) rfl rfl ?_
      try simp (disch := omega) only [up2_ne, up2_eq, hn, hp, st_200_m1 hS]
      refine wp_iload_n rfl rfl dX12_next_105 ?_
      refine wp_cV2 (ci := 12) okX12_wordAt rfl rfl wX12_232 dX12_next_106 rfl (Nat.le_of_ble_eq_true rfl) (Nat.le_of_ble_eq_true rfl) (by first | omega | (simp (disch := omega) only [up2_ne, up2_eq, hn, hp, st_200_m1 hS]; first | done | omega)) (by first | assumption | (simp (disch := omega) only [up2_ne, up2_eq, hn, hp, st_200_m1 hS]; first | done | rfl | omega)) (s_X12_wordAt RG (by omega) (by omega)) (Nat.zero_le _) ?_
      try simp (disch := omega) only [up2_ne, up2_eq, hn, hp, st_200_m1 hS]
      refine wp_putfield1 (z := 13) (kI := 40) fX12_226 dX12_next_109 (by first | omega | (simp (disch := omega) only [up2_ne, up2_eq, hn, hp, st_200_m1 hS]; first | done | omega)) (by first | assumption | (simp (disch := omega) only [up2_ne, up2_eq, hn, hp, st_200_m1 hS]; first | done | rfl | omega)) rfl rfl ?_
      refine wp_goto (tgt := 223) dX12_next_112 (by decide) ?_
      refine wp_aload_n rfl rfl dX12_next_223 ?_
      refine wp_dup (by decide) dX12_next_224 ?_
      refine wp_getfield1 (z := 13) (kI := 38) fX12_220 dX12_next_225 (by first | omega | (simp (disch := omega) only [up2_ne, up2_eq, hn, hp, st_200_m1 hS]; first | done | omega)) (by first | assumption | (simp (disch := omega) only [up2_ne, up2_eq, hn, hp, st_200_m1 hS]; first | done | rfl | omega)) rfl rfl ?_
      try simp (disch := omega) only [up2_ne, up2_eq, hn, hp, st_200_m1 hS]
      refine wp_iload_n rfl rfl dX12_next_228 ?_
      refine wp_iadd dX12_next_229 ?_
      refine wp_putfield1 (z := 13) (kI := 38) fX12_220 dX12_next_230 (by first | omega | (simp (disch := omega) only [up2_ne, up2_eq, hn, hp, st_200_m1 hS]; first | done | omega)) (by first | assumption | (simp (disch := omega) only [up2_ne, up2_eq, hn, hp, st_200_m1 hS]; first | done | rfl | omega)) rfl rfl ?_
      refine wp_vret dX12_next_233 rfl ?_
      have hz : eL f bb = bb + k := by
        rw [← he]
        exact eL_f (decide_eq_false (by omega))
      rw [hz] at hEK
      rw [show (bb + (k : Int) - bb).toNat = k by omega] at hEK
      have hb13 := wF_b (f := f) (b := bb) (n := k) 13
      refine ⟨rfl, ?_, ?_, ?_, fun q => ?_, fun x y q => by simp (disch := omega) only [up2_ne]⟩
      · simp (disch := omega) only [up2_ne, up2_eq]
        exact hEK.1.symm
      · simp (disch := omega) only [up2_ne, up2_eq]
        exact hb.symm
      · simp (disch := omega) only [up2_ne, up2_eq]
        rw [hEK.2]
      · exfalso
        omega
    · refine wp_iinc rfl rfl dX12_next_93 rfl rfl ?_
      try simp only [List.set_cons_zero, List.set_cons_succ]
      refine wp_goto (tgt := 77) dX12_next_96 (by decide) ?_
      have z := ih (by have := F.out (k := bb + k) (by omega); omega) (by rw [show bb + ((k + 1 : Nat) : Int) = bb + k + 1 by omega, eL_s F (by omega) (decide_eq_true (by omega))]; exact he)
      rw [show ((k + 1 : Nat) : Int) = (k : Int) + 1 by omega] at z
      exact z
  have lpD : ∀ bb : Int, p ≤ bb → bb ≤ n → tB f p = bb → 0 ≤ f bb → isL (f bb) = false → isD (f bb) = true → ∀ k : Nat, k ≤ (n - bb).toNat → eD f (bb + k) = eD f bb → WP (gX (gq u)) MX12_next (d + 2) b (fun r g => r = (9, 0) ∧ nPo h f p g) 127 [(2, 200), (0, f bb), (0, (k : Int))] [] (up2 (up2 (up2 h 200 38 bb) 200 39 bb) 200 41 (nV f bb (min k 4))) := by
    intro bb b0 b1 hb c0 cL cD
    have hEK := tE_D hb c0 cL cD
    refine loop_w (n - bb).toNat (fun k hk ih => ?_)
    intro he
    have hs := F.rng (k := bb + k) (by omega)
    have RG : rT (up2 (up2 (up2 h 200 38 bb) 200 39 bb) 200 41 (nV f bb (min k 4))) n f := rT_up (rT_up (rT_up RT (by decide +kernel) (by decide)) (by decide +kernel) (by decide)) (by decide +kernel) (by decide)
    refine wp_aload_n rfl rfl dX12_next_127 ?_
    refine wp_aload_n rfl rfl dX12_next_128 ?_
    refine wp_getfield1 (z := 13) (kI := 38) fX12_220 dX12_next_129 (by first | omega | (simp (disch := omega) only [up2_ne, up2_eq, hn, hp, st_200_m1 hS]; first | done | omega)) (by first | assumption | (simp (disch := omega) only [up2_ne, up2_eq, hn, hp, st_200_m1 hS]; first | done | rfl | omega)) rfl rfl ?_
    try simp (disch := omega) only [up2_ne, up2_eq, hn, hp, st_200_m1 hS]
    refine wp_iload_n rfl rfl dX12_next_132 ?_
    refine wp_iadd dX12_next_133 ?_
    refine wp_cV1 (ci := 12) okX12_letter rfl rfl wX12_217 dX12_next_134 rfl (Nat.le_of_ble_eq_true rfl) (Nat.le_of_ble_eq_true rfl) (by first | omega | (simp (disch := omega) only [up2_ne, up2_eq, hn, hp, st_200_m1 hS]; first | done | omega)) (by first | assumption | (simp (disch := omega) only [up2_ne, up2_eq, hn, hp, st_200_m1 hS]; first | done | rfl | omega)) (s_X12_letter RG (by omega) (by omega)) (Nat.zero_le _) ?_
    try simp (disch := omega) only [up2_ne, up2_eq, hn, hp, st_200_m1 hS]
    refine wp_cS1 okX12_isDigit wX12_235 dX12_next_137 rfl (Nat.le_of_ble_eq_true rfl) (Nat.le_of_ble_eq_true rfl) (s_X12_isDigit ⟨by omega, by omega⟩) (Nat.zero_le _) ?_
    try simp (disch := omega) only [up2_ne, up2_eq, hn, hp, st_200_m1 hS]
    refine wp_ifB_eq (tgt := 186) dX12_next_140 (by decide) (fun c2 => ?_) (fun c2 => ?_)
    · refine wp_aload_n rfl rfl dX12_next_186 ?_
      refine wp_iload_n rfl rfl dX12_next_187 ?_
      refine wp_iconst dX12_next_188 ?_
      refine wp_icmp_le (tgt := 196) (by first | assumption | exact bI_in _ | exact ⟨by omega, by omega⟩ | exact iAnd_in | exact iOr_in | exact iShr_in | exact iShl_in | exact iXor_in | exact hxs _) (by first | assumption | exact bI_in _ | exact ⟨by omega, by omega⟩ | exact iAnd_in | exact iOr_in | exact iShr_in | exact iShl_in | exact iXor_in | exact hxs _) dX12_next_189 (by decide) (fun c3 => ?_) (fun c3 => ?_)
      · refine wp_sipush (by decide) dX12_next_196 ?_
        refine wp_putfield1 (z := 13) (kI := 40) fX12_226 dX12_next_199 (by first | omega | (simp (disch := omega) only [up2_ne, up2_eq, hn, hp, st_200_m1 hS]; first | done | omega)) (by first | assumption | (simp (disch := omega) only [up2_ne, up2_eq, hn, hp, st_200_m1 hS]; first | done | rfl | omega)) rfl rfl ?_
        refine wp_goto (tgt := 223) dX12_next_202 (by decide) ?_
        refine wp_aload_n rfl rfl dX12_next_223 ?_
        refine wp_dup (by decide) dX12_next_224 ?_
        refine wp_getfield1 (z := 13) (kI := 38) fX12_220 dX12_next_225 (by first | omega | (simp (disch := omega) only [up2_ne, up2_eq, hn, hp, st_200_m1 hS]; first | done | omega)) (by first | assumption | (simp (disch := omega) only [up2_ne, up2_eq, hn, hp, st_200_m1 hS]; first | done | rfl | omega)) rfl rfl ?_
        try simp (disch := omega) only [up2_ne, up2_eq, hn, hp, st_200_m1 hS]
        refine wp_iload_n rfl rfl dX12_next_228 ?_
        refine wp_iadd dX12_next_229 ?_
        refine wp_putfield1 (z := 13) (kI := 38) fX12_220 dX12_next_230 (by first | omega | (simp (disch := omega) only [up2_ne, up2_eq, hn, hp, st_200_m1 hS]; first | done | omega)) (by first | assumption | (simp (disch := omega) only [up2_ne, up2_eq, hn, hp, st_200_m1 hS]; first | done | rfl | omega)) rfl rfl ?_
        refine wp_vret dX12_next_233 rfl ?_
        have hz : eD f bb = bb + k := by
          rw [← he]
          exact eD_f (decide_eq_false (by omega))
        rw [hz] at hEK
        refine ⟨rfl, ?_, ?_, ?_, fun q => ?_, fun x y q => by simp (disch := omega) only [up2_ne]⟩
        · simp (disch := omega) only [up2_ne, up2_eq]
          exact hEK.1.symm
        · simp (disch := omega) only [up2_ne, up2_eq]
          exact hb.symm
        · simp (disch := omega) only [up2_ne, up2_eq]
          rw [hEK.2]
          first
            | (rw [if_pos (by omega)]
               rfl)
            | (rw [if_neg (by omega)]
               rfl)
        · have h4 : k ≤ 4 := by
            by_cases y : (4 : Int) < bb + k - bb
            · rw [hEK.2, if_pos y] at q
              exact absurd q (by decide)
            · omega
          first
            | (exfalso; omega)
            | (simp (disch := omega) only [up2_ne, up2_eq]
               unfold tN
               rw [hEK.1, hb, show (bb + (k : Int) - bb).toNat = k by omega, show min k 4 = k by omega])
      · refine wp_iconst dX12_next_192 ?_
        refine wp_goto (tgt := 199) dX12_next_193 (by decide) ?_
        refine wp_putfield1 (z := 13) (kI := 40) fX12_226 dX12_next_199 (by first | omega | (simp (disch := omega) only [up2_ne, up2_eq, hn, hp, st_200_m1 hS]; first | done | omega)) (by first | assumption | (simp (disch := omega) only [up2_ne, up2_eq, hn, hp, st_200_m1 hS]; first | done | rfl | omega)) rfl rfl ?_
        refine wp_goto (tgt := 223) dX12_next_202 (by decide) ?_
        refine wp_aload_n rfl rfl dX12_next_223 ?_
        refine wp_dup (by decide) dX12_next_224 ?_
        refine wp_getfield1 (z := 13) (kI := 38) fX12_220 dX12_next_225 (by first | omega | (simp (disch := omega) only [up2_ne, up2_eq, hn, hp, st_200_m1 hS]; first | done | omega)) (by first | assumption | (simp (disch := omega) only [up2_ne, up2_eq, hn, hp, st_200_m1 hS]; first | done | rfl | omega)) rfl rfl ?_
        try simp (disch := omega) only [up2_ne, up2_eq, hn, hp, st_200_m1 hS]
        refine wp_iload_n rfl rfl dX12_next_228 ?_
        refine wp_iadd dX12_next_229 ?_
        refine wp_putfield1 (z := 13) (kI := 38) fX12_220 dX12_next_230 (by first | omega | (simp (disch := omega) only [up2_ne, up2_eq, hn, hp, st_200_m1 hS]; first | done | omega)) (by first | assumption | (simp (disch := omega) only [up2_ne, up2_eq, hn, hp, st_200_m1 hS]; first | done | rfl | omega)) rfl rfl ?_
        refine wp_vret dX12_next_233 rfl ?_
        have hz : eD f bb = bb + k := by
          rw [← he]
          exact eD_f (decide_eq_false (by omega))
        rw [hz] at hEK
        refine ⟨rfl, ?_, ?_, ?_, fun q => ?_, fun x y q => by simp (disch := omega) only [up2_ne]⟩
        · simp (disch := omega) only [up2_ne, up2_eq]
          exact hEK.1.symm
        · simp (disch := omega) only [up2_ne, up2_eq]
          exact hb.symm
        · simp (disch := omega) only [up2_ne, up2_eq]
          rw [hEK.2]
          first
            | (rw [if_pos (by omega)]
               rfl)
            | (rw [if_neg (by omega)]
               rfl)
        · have h4 : k ≤ 4 := by
            by_cases y : (4 : Int) < bb + k - bb
            · rw [hEK.2, if_pos y] at q
              exact absurd q (by decide)
            · omega
          first
            | (exfalso; omega)
            | (simp (disch := omega) only [up2_ne, up2_eq]
               unfold tN
               rw [hEK.1, hb, show (bb + (k : Int) - bb).toNat = k by omega, show min k 4 = k by omega])
    · refine wp_aload_n rfl rfl dX12_next_143 ?_
      refine wp_iload_n rfl rfl dX12_next_144 ?_
      refine wp_iconst dX12_next_145 ?_
      refine wp_icmp_ge (tgt := 173) (by first | assumption | exact bI_in _ | exact ⟨by omega, by omega⟩ | exact iAnd_in | exact iOr_in | exact iShr_in | exact iShl_in | exact iXor_in | exact hxs _) (by first | assumption | exact bI_in _ | exact ⟨by omega, by omega⟩ | exact iAnd_in | exact iOr_in | exact iShr_in | exact iShl_in | exact iXor_in | exact hxs _) dX12_next_146 (by decide) (fun c4 => ?_) (fun c4 => ?_)
      · refine wp_aload_n rfl rfl dX12_next_173 ?_
        refine wp_getfield1 (z := 13) (kI := 41) fX12_238 dX12_next_174 (by first | omega | (simp (disch := omega) only [up2_ne, up2_eq, hn, hp, st_200_m1 hS]; first | done | omega)) (by first | assumption | (simp (disch := omega) only [up2_ne, up2_eq, hn, hp, st_200_m1 hS]; first | done | rfl | omega)) rfl rfl ?_
        try simp (disch := omega) only [up2_ne, up2_eq, hn, hp, st_200_m1 hS]
        refine wp_putfield1 (z := 13) (kI := 41) fX12_238 dX12_next_177 (by first | omega | (simp (disch := omega) only [up2_ne, up2_eq, hn, hp, st_200_m1 hS]; first | done | omega)) (by first | assumption | (simp (disch := omega) only [up2_ne, up2_eq, hn, hp, st_200_m1 hS]; first | done | rfl | omega)) rfl rfl ?_
        refine wp_iinc rfl rfl dX12_next_180 rfl rfl ?_
        try simp only [List.set_cons_zero, List.set_cons_succ]
        refine wp_goto (tgt := 127) dX12_next_183 (by decide) ?_
        have z := ih (by have := F.out (k := bb + k) (by omega); omega) (by rw [show bb + ((k + 1 : Nat) : Int) = bb + k + 1 by omega, eD_s F (by omega) (decide_eq_true (by omega))]; exact he)
        rw [show ((k + 1 : Nat) : Int) = (k : Int) + 1 by omega] at z
        rw [up2_up2]
        first
          | (rw [show min (k + 1) 4 = min k 4 by omega] at z
             exact z)
          | (rw [show min (k + 1) 4 = k + 1 by omega, nV] at z
             rw [show min k 4 = k by omega]
             exact z)
      · refine wp_bipush (by decide) dX12_next_149 ?_
        refine wp_aload_n rfl rfl dX12_next_151 ?_
        refine wp_getfield1 (z := 13) (kI := 41) fX12_238 dX12_next_152 (by first | omega | (simp (disch := omega) only [up2_ne, up2_eq, hn, hp, st_200_m1 hS]; first | done | omega)) (by first | assumption | (simp (disch := omega) only [up2_ne, up2_eq, hn, hp, st_200_m1 hS]; first | done | rfl | omega)) rfl rfl ?_
        try simp (disch := omega) only [up2_ne, up2_eq, hn, hp, st_200_m1 hS]
        refine wp_imul dX12_next_155 ?_
        refine wp_aload_n rfl rfl dX12_next_156 ?_
        refine wp_aload_n rfl rfl dX12_next_157 ?_
        refine wp_getfield1 (z := 13) (kI := 38) fX12_220 dX12_next_158 (by first | omega | (simp (disch := omega) only [up2_ne, up2_eq, hn, hp, st_200_m1 hS]; first | done | omega)) (by first | assumption | (simp (disch := omega) only [up2_ne, up2_eq, hn, hp, st_200_m1 hS]; first | done | rfl | omega)) rfl rfl ?_
        try simp (disch := omega) only [up2_ne, up2_eq, hn, hp, st_200_m1 hS]
        refine wp_iload_n rfl rfl dX12_next_161 ?_
        refine wp_iadd dX12_next_162 ?_
        refine wp_cV1 (ci := 12) okX12_letter rfl rfl wX12_217 dX12_next_163 rfl (Nat.le_of_ble_eq_true rfl) (Nat.le_of_ble_eq_true rfl) (by first | omega | (simp (disch := omega) only [up2_ne, up2_eq, hn, hp, st_200_m1 hS]; first | done | omega)) (by first | assumption | (simp (disch := omega) only [up2_ne, up2_eq, hn, hp, st_200_m1 hS]; first | done | rfl | omega)) (s_X12_letter RG (by omega) (by omega)) (Nat.zero_le _) ?_
        try simp (disch := omega) only [up2_ne, up2_eq, hn, hp, st_200_m1 hS]
        refine wp_iadd dX12_next_166 ?_
        refine wp_bipush (by decide) dX12_next_167 ?_
        refine wp_isub dX12_next_169 ?_
        refine wp_goto (tgt := 177) dX12_next_170 (by decide) ?_
        refine wp_putfield1 (z := 13) (kI := 41) fX12_238 dX12_next_177 (by first | omega | (simp (disch := omega) only [up2_ne, up2_eq, hn, hp, st_200_m1 hS]; first | done | omega)) (by first | assumption | (simp (disch := omega) only [up2_ne, up2_eq, hn, hp, st_200_m1 hS]; first | done | rfl | omega)) rfl rfl ?_
        refine wp_iinc rfl rfl dX12_next_180 rfl rfl ?_
        try simp only [List.set_cons_zero, List.set_cons_succ]
        refine wp_goto (tgt := 127) dX12_next_183 (by decide) ?_
        have z := ih (by have := F.out (k := bb + k) (by omega); omega) (by rw [show bb + ((k + 1 : Nat) : Int) = bb + k + 1 by omega, eD_s F (by omega) (decide_eq_true (by omega))]; exact he)
        rw [show ((k + 1 : Nat) : Int) = (k : Int) + 1 by omega] at z
        rw [up2_up2]
        first
          | (rw [show min (k + 1) 4 = min k 4 by omega] at z
             exact z)
          | (rw [show min (k + 1) 4 = k + 1 by omega, nV] at z
             rw [show min k 4 = k by omega]
             exact z)
  have loop : ∀ j : Nat, j ≤ (n - p).toNat → tB f (p + j) = tB f p → WP (gX (gq u)) MX12_next (d + 2) b (fun r g => r = (9, 0) ∧ nPo h f p g) 0 [(2, 200), (9, 0), (9, 0)] [] (up2 h 200 38 (p + j)) := by
    refine loop_w (n - p).toNat (fun j hj ih => ?_)
    intro he
    have hs := F.rng (k := p + j) (by omega)
    have RG : rT (up2 h 200 38 (p + j)) n f := rT_up RT (by decide +kernel) (by decide)
    refine wp_aload_n rfl rfl dX12_next_0 ?_
    refine wp_aload_n rfl rfl dX12_next_1 ?_
    refine wp_getfield1 (z := 13) (kI := 38) fX12_220 dX12_next_2 (by first | omega | (simp (disch := omega) only [up2_ne, up2_eq, hn, hp, st_200_m1 hS]; first | done | omega)) (by first | assumption | (simp (disch := omega) only [up2_ne, up2_eq, hn, hp, st_200_m1 hS]; first | done | rfl | omega)) rfl rfl ?_
    try simp (disch := omega) only [up2_ne, up2_eq, hn, hp, st_200_m1 hS]
    refine wp_cV1 (ci := 12) okX12_letter rfl rfl wX12_217 dX12_next_5 rfl (Nat.le_of_ble_eq_true rfl) (Nat.le_of_ble_eq_true rfl) (by first | omega | (simp (disch := omega) only [up2_ne, up2_eq, hn, hp, st_200_m1 hS]; first | done | omega)) (by first | assumption | (simp (disch := omega) only [up2_ne, up2_eq, hn, hp, st_200_m1 hS]; first | done | rfl | omega)) (s_X12_letter RG (by omega) (by omega)) (Nat.zero_le _) ?_
    try simp (disch := omega) only [up2_ne, up2_eq, hn, hp, st_200_m1 hS]
    refine wp_bipush (by decide) dX12_next_8 ?_
    refine wp_icmp_eq (tgt := 26) (by first | assumption | exact bI_in _ | exact ⟨by omega, by omega⟩ | exact iAnd_in | exact iOr_in | exact iShr_in | exact iShl_in | exact iXor_in | exact hxs _) (by first | assumption | exact bI_in _ | exact ⟨by omega, by omega⟩ | exact iAnd_in | exact iOr_in | exact iShr_in | exact iShl_in | exact iXor_in | exact hxs _) dX12_next_10 (by decide) (fun c5 => ?_) (fun c5 => ?_)
    · refine wp_aload_n rfl rfl dX12_next_26 ?_
      refine wp_dup (by decide) dX12_next_27 ?_
      refine wp_getfield1 (z := 13) (kI := 38) fX12_220 dX12_next_28 (by first | omega | (simp (disch := omega) only [up2_ne, up2_eq, hn, hp, st_200_m1 hS]; first | done | omega)) (by first | assumption | (simp (disch := omega) only [up2_ne, up2_eq, hn, hp, st_200_m1 hS]; first | done | rfl | omega)) rfl rfl ?_
      try simp (disch := omega) only [up2_ne, up2_eq, hn, hp, st_200_m1 hS]
      refine wp_iconst dX12_next_31 ?_
      refine wp_iadd dX12_next_32 ?_
      refine wp_putfield1 (z := 13) (kI := 38) fX12_220 dX12_next_33 (by first | omega | (simp (disch := omega) only [up2_ne, up2_eq, hn, hp, st_200_m1 hS]; first | done | omega)) (by first | assumption | (simp (disch := omega) only [up2_ne, up2_eq, hn, hp, st_200_m1 hS]; first | done | rfl | omega)) rfl rfl ?_
      refine wp_goto (tgt := 0) dX12_next_36 (by decide) ?_
      have z := ih (by have := F.out (k := p + j) (by omega); omega) (by rw [show p + ((j + 1 : Nat) : Int) = p + j + 1 by omega, tB_s F (by omega) (decide_eq_true (by omega))]; exact he)
      rw [up2_up2, show p + (j : Int) + 1 = p + ((j + 1 : Nat) : Int) by omega]
      exact z
    · refine wp_aload_n rfl rfl dX12_next_13 ?_
      refine wp_aload_n rfl rfl dX12_next_14 ?_
      refine wp_getfield1 (z := 13) (kI := 38) fX12_220 dX12_next_15 (by first | omega | (simp (disch := omega) only [up2_ne, up2_eq, hn, hp, st_200_m1 hS]; first | done | omega)) (by first | assumption | (simp (disch := omega) only [up2_ne, up2_eq, hn, hp, st_200_m1 hS]; first | done | rfl | omega)) rfl rfl ?_
      try simp (disch := omega) only [up2_ne, up2_eq, hn, hp, st_200_m1 hS]
      refine wp_cV1 (ci := 12) okX12_letter rfl rfl wX12_217 dX12_next_18 rfl (Nat.le_of_ble_eq_true rfl) (Nat.le_of_ble_eq_true rfl) (by first | omega | (simp (disch := omega) only [up2_ne, up2_eq, hn, hp, st_200_m1 hS]; first | done | omega)) (by first | assumption | (simp (disch := omega) only [up2_ne, up2_eq, hn, hp, st_200_m1 hS]; first | done | rfl | omega)) (s_X12_letter RG (by omega) (by omega)) (Nat.zero_le _) ?_
      try simp (disch := omega) only [up2_ne, up2_eq, hn, hp, st_200_m1 hS]
      refine wp_bipush (by decide) dX12_next_21 ?_
      refine wp_icmp_ne (tgt := 39) (by first | assumption | exact bI_in _ | exact ⟨by omega, by omega⟩ | exact iAnd_in | exact iOr_in | exact iShr_in | exact iShl_in | exact iXor_in | exact hxs _) (by first | assumption | exact bI_in _ | exact ⟨by omega, by omega⟩ | exact iAnd_in | exact iOr_in | exact iShr_in | exact iShl_in | exact iXor_in | exact hxs _) dX12_next_23 (by decide) (fun c6 => ?_) (fun c6 => ?_)
      · refine wp_aload_n rfl rfl dX12_next_39 ?_
        refine wp_aload_n rfl rfl dX12_next_40 ?_
        refine wp_getfield1 (z := 13) (kI := 38) fX12_220 dX12_next_41 (by first | omega | (simp (disch := omega) only [up2_ne, up2_eq, hn, hp, st_200_m1 hS]; first | done | omega)) (by first | assumption | (simp (disch := omega) only [up2_ne, up2_eq, hn, hp, st_200_m1 hS]; first | done | rfl | omega)) rfl rfl ?_
        try simp (disch := omega) only [up2_ne, up2_eq, hn, hp, st_200_m1 hS]
        refine wp_putfield1 (z := 13) (kI := 39) fX12_223 dX12_next_44 (by first | omega | (simp (disch := omega) only [up2_ne, up2_eq, hn, hp, st_200_m1 hS]; first | done | omega)) (by first | assumption | (simp (disch := omega) only [up2_ne, up2_eq, hn, hp, st_200_m1 hS]; first | done | rfl | omega)) rfl rfl ?_
        have hz : tB f (p + j) = p + j := by
          refine tB_f (decide_eq_false ?_)
          omega
        have hb : tB f p = p + j := he.symm.trans hz
        have RG2 : rT (up2 (up2 h 200 38 (p + j)) 200 39 (p + j)) n f := rT_up RG (by decide +kernel) (by decide)
        refine wp_aload_n rfl rfl dX12_next_47 ?_
        refine wp_aload_n rfl rfl dX12_next_48 ?_
        refine wp_getfield1 (z := 13) (kI := 38) fX12_220 dX12_next_49 (by first | omega | (simp (disch := omega) only [up2_ne, up2_eq, hn, hp, st_200_m1 hS]; first | done | omega)) (by first | assumption | (simp (disch := omega) only [up2_ne, up2_eq, hn, hp, st_200_m1 hS]; first | done | rfl | omega)) rfl rfl ?_
        try simp (disch := omega) only [up2_ne, up2_eq, hn, hp, st_200_m1 hS]
        refine wp_cV1 (ci := 12) okX12_letter rfl rfl wX12_217 dX12_next_52 rfl (Nat.le_of_ble_eq_true rfl) (Nat.le_of_ble_eq_true rfl) (by first | omega | (simp (disch := omega) only [up2_ne, up2_eq, hn, hp, st_200_m1 hS]; first | done | omega)) (by first | assumption | (simp (disch := omega) only [up2_ne, up2_eq, hn, hp, st_200_m1 hS]; first | done | rfl | omega)) (s_X12_letter RG2 (by omega) (by omega)) (Nat.zero_le _) ?_
        try simp (disch := omega) only [up2_ne, up2_eq, hn, hp, st_200_m1 hS]
        refine wp_istore_n rfl dX12_next_55 rfl (Nat.le_of_ble_eq_true rfl) rfl ?_
        try simp only [List.set_cons_zero, List.set_cons_succ]
        refine wp_iconst dX12_next_56 ?_
        refine wp_istore_n rfl dX12_next_57 rfl (Nat.le_of_ble_eq_true rfl) rfl ?_
        try simp only [List.set_cons_zero, List.set_cons_succ]
        refine wp_iload_n rfl rfl dX12_next_58 ?_
        refine wp_if_ge (tgt := 70) (by first | assumption | exact bI_in _ | exact ⟨by omega, by omega⟩ | exact iAnd_in | exact iOr_in | exact iShr_in | exact iShl_in | exact iXor_in | exact hxs _) dX12_next_59 (by decide) (fun c7 => ?_) (fun c7 => ?_)
        · refine wp_iload_n rfl rfl dX12_next_70 ?_
          refine wp_cS1 okX12_isLetter wX12_229 dX12_next_71 rfl (Nat.le_of_ble_eq_true rfl) (Nat.le_of_ble_eq_true rfl) (s_X12_isLetter ⟨by omega, by omega⟩) (Nat.zero_le _) ?_
          try simp (disch := omega) only [up2_ne, up2_eq, hn, hp, st_200_m1 hS]
          refine wp_ifB_eq (tgt := 115) dX12_next_74 (by decide) (fun c8 => ?_) (fun c8 => ?_)
          · refine wp_iload_n rfl rfl dX12_next_115 ?_
            refine wp_cS1 okX12_isDigit wX12_235 dX12_next_116 rfl (Nat.le_of_ble_eq_true rfl) (Nat.le_of_ble_eq_true rfl) (s_X12_isDigit ⟨by omega, by omega⟩) (Nat.zero_le _) ?_
            try simp (disch := omega) only [up2_ne, up2_eq, hn, hp, st_200_m1 hS]
            refine wp_ifB_eq (tgt := 205) dX12_next_119 (by decide) (fun c9 => ?_) (fun c9 => ?_)
            · refine wp_iconst dX12_next_205 ?_
              refine wp_istore_n rfl dX12_next_206 rfl (Nat.le_of_ble_eq_true rfl) rfl ?_
              try simp only [List.set_cons_zero, List.set_cons_succ]
              refine wp_aload_n rfl rfl dX12_next_207 ?_
              refine wp_iload_n rfl rfl dX12_next_208 ?_
              refine wp_cS1 okX12_isSign wX12_241 dX12_next_209 rfl (Nat.le_of_ble_eq_true rfl) (Nat.le_of_ble_eq_true rfl) (s_X12_isSign ⟨by omega, by omega⟩) (Nat.zero_le _) ?_
              try simp (disch := omega) only [up2_ne, up2_eq, hn, hp, st_200_m1 hS]
              refine wp_ifB_eq (tgt := 219) dX12_next_212 (by decide) (fun c10 => ?_) (fun c10 => ?_)
              · refine wp_iconst dX12_next_219 ?_
                refine wp_putfield1 (z := 13) (kI := 40) fX12_226 dX12_next_220 (by first | omega | (simp (disch := omega) only [up2_ne, up2_eq, hn, hp, st_200_m1 hS]; first | done | omega)) (by first | assumption | (simp (disch := omega) only [up2_ne, up2_eq, hn, hp, st_200_m1 hS]; first | done | rfl | omega)) rfl rfl ?_
                refine wp_aload_n rfl rfl dX12_next_223 ?_
                refine wp_dup (by decide) dX12_next_224 ?_
                refine wp_getfield1 (z := 13) (kI := 38) fX12_220 dX12_next_225 (by first | omega | (simp (disch := omega) only [up2_ne, up2_eq, hn, hp, st_200_m1 hS]; first | done | omega)) (by first | assumption | (simp (disch := omega) only [up2_ne, up2_eq, hn, hp, st_200_m1 hS]; first | done | rfl | omega)) rfl rfl ?_
                try simp (disch := omega) only [up2_ne, up2_eq, hn, hp, st_200_m1 hS]
                refine wp_iload_n rfl rfl dX12_next_228 ?_
                refine wp_iadd dX12_next_229 ?_
                refine wp_putfield1 (z := 13) (kI := 38) fX12_220 dX12_next_230 (by first | omega | (simp (disch := omega) only [up2_ne, up2_eq, hn, hp, st_200_m1 hS]; first | done | omega)) (by first | assumption | (simp (disch := omega) only [up2_ne, up2_eq, hn, hp, st_200_m1 hS]; first | done | rfl | omega)) rfl rfl ?_
                refine wp_vret dX12_next_233 rfl ?_
                first
                  | (have hEK := tE_E hb (by omega)
                     refine ⟨rfl, ?_, ?_, ?_, fun q => ?_, fun x y q => by simp (disch := omega) only [up2_ne]⟩
                     · simp (disch := omega) only [up2_ne, up2_eq]
                       rw [hEK.1]
                       omega
                     · simp (disch := omega) only [up2_ne, up2_eq]
                       exact hb.symm
                     · simp (disch := omega) only [up2_ne, up2_eq]
                       rw [hEK.2]
                       rfl
                     · rw [hEK.2] at q
                       exact absurd q (by decide))
                  | (have hEK := tE_S hb (by omega) (decide_eq_false (by omega)) (decide_eq_false (by omega))
                     have hsg := rTk_sg (c := f (p + j))
                     have hsb := sgT_b (f (p + j))
                     refine ⟨rfl, ?_, ?_, ?_, fun q => ?_, fun x y q => by simp (disch := omega) only [up2_ne]⟩
                     · simp (disch := omega) only [up2_ne, up2_eq]
                       rw [hEK.1]
                     · simp (disch := omega) only [up2_ne, up2_eq]
                       exact hb.symm
                     · simp (disch := omega) only [up2_ne, up2_eq]
                       rw [hEK.2, hsg]
                       first
                         | (rw [if_pos (by omega)])
                         | (rw [if_neg (by omega)])
                     · exfalso
                       omega)
              · refine wp_iload_n rfl rfl dX12_next_215 ?_
                refine wp_goto (tgt := 220) dX12_next_216 (by decide) ?_
                refine wp_putfield1 (z := 13) (kI := 40) fX12_226 dX12_next_220 (by first | omega | (simp (disch := omega) only [up2_ne, up2_eq, hn, hp, st_200_m1 hS]; first | done | omega)) (by first | assumption | (simp (disch := omega) only [up2_ne, up2_eq, hn, hp, st_200_m1 hS]; first | done | rfl | omega)) rfl rfl ?_
                refine wp_aload_n rfl rfl dX12_next_223 ?_
                refine wp_dup (by decide) dX12_next_224 ?_
                refine wp_getfield1 (z := 13) (kI := 38) fX12_220 dX12_next_225 (by first | omega | (simp (disch := omega) only [up2_ne, up2_eq, hn, hp, st_200_m1 hS]; first | done | omega)) (by first | assumption | (simp (disch := omega) only [up2_ne, up2_eq, hn, hp, st_200_m1 hS]; first | done | rfl | omega)) rfl rfl ?_
                try simp (disch := omega) only [up2_ne, up2_eq, hn, hp, st_200_m1 hS]
                refine wp_iload_n rfl rfl dX12_next_228 ?_
                refine wp_iadd dX12_next_229 ?_
                refine wp_putfield1 (z := 13) (kI := 38) fX12_220 dX12_next_230 (by first | omega | (simp (disch := omega) only [up2_ne, up2_eq, hn, hp, st_200_m1 hS]; first | done | omega)) (by first | assumption | (simp (disch := omega) only [up2_ne, up2_eq, hn, hp, st_200_m1 hS]; first | done | rfl | omega)) rfl rfl ?_
                refine wp_vret dX12_next_233 rfl ?_
                first
                  | (have hEK := tE_E hb (by omega)
                     refine ⟨rfl, ?_, ?_, ?_, fun q => ?_, fun x y q => by simp (disch := omega) only [up2_ne]⟩
                     · simp (disch := omega) only [up2_ne, up2_eq]
                       rw [hEK.1]
                       omega
                     · simp (disch := omega) only [up2_ne, up2_eq]
                       exact hb.symm
                     · simp (disch := omega) only [up2_ne, up2_eq]
                       rw [hEK.2]
                       rfl
                     · rw [hEK.2] at q
                       exact absurd q (by decide))
                  | (have hEK := tE_S hb (by omega) (decide_eq_false (by omega)) (decide_eq_false (by omega))
                     have hsg := rTk_sg (c := f (p + j))
                     have hsb := sgT_b (f (p + j))
                     refine ⟨rfl, ?_, ?_, ?_, fun q => ?_, fun x y q => by simp (disch := omega) only [up2_ne]⟩
                     · simp (disch := omega) only [up2_ne, up2_eq]
                       rw [hEK.1]
                     · simp (disch := omega) only [up2_ne, up2_eq]
                       exact hb.symm
                     · simp (disch := omega) only [up2_ne, up2_eq]
                       rw [hEK.2, hsg]
                       first
                         | (rw [if_pos (by omega)])
                         | (rw [if_neg (by omega)])
                     · exfalso
                       omega)
            · refine wp_aload_n rfl rfl dX12_next_122 ?_
              refine wp_iconst dX12_next_123 ?_
              refine wp_putfield1 (z := 13) (kI := 41) fX12_238 dX12_next_124 (by first | omega | (simp (disch := omega) only [up2_ne, up2_eq, hn, hp, st_200_m1 hS]; first | done | omega)) (by first | assumption | (simp (disch := omega) only [up2_ne, up2_eq, hn, hp, st_200_m1 hS]; first | done | rfl | omega)) rfl rfl ?_
              exact lpD (p + j) (by omega) (by omega) hb (by omega) (decide_eq_false (by omega)) (decide_eq_true (by omega)) 0 (Nat.zero_le _) (by rw [show p + (j : Int) + ((0 : Nat) : Int) = p + j from Int.add_zero _])
          · exact lpL (p + j) (by omega) (by omega) hb (by omega) (decide_eq_true (by omega)) 0 (Nat.zero_le _) (by rw [show p + (j : Int) + ((0 : Nat) : Int) = p + j from Int.add_zero _])
        · refine wp_aload_n rfl rfl dX12_next_62 ?_
          refine wp_iconst dX12_next_63 ?_
          refine wp_putfield1 (z := 13) (kI := 40) fX12_226 dX12_next_64 (by first | omega | (simp (disch := omega) only [up2_ne, up2_eq, hn, hp, st_200_m1 hS]; first | done | omega)) (by first | assumption | (simp (disch := omega) only [up2_ne, up2_eq, hn, hp, st_200_m1 hS]; first | done | rfl | omega)) rfl rfl ?_
          refine wp_goto (tgt := 223) dX12_next_67 (by decide) ?_
          refine wp_aload_n rfl rfl dX12_next_223 ?_
          refine wp_dup (by decide) dX12_next_224 ?_
          refine wp_getfield1 (z := 13) (kI := 38) fX12_220 dX12_next_225 (by first | omega | (simp (disch := omega) only [up2_ne, up2_eq, hn, hp, st_200_m1 hS]; first | done | omega)) (by first | assumption | (simp (disch := omega) only [up2_ne, up2_eq, hn, hp, st_200_m1 hS]; first | done | rfl | omega)) rfl rfl ?_
          try simp (disch := omega) only [up2_ne, up2_eq, hn, hp, st_200_m1 hS]
          refine wp_iload_n rfl rfl dX12_next_228 ?_
          refine wp_iadd dX12_next_229 ?_
          refine wp_putfield1 (z := 13) (kI := 38) fX12_220 dX12_next_230 (by first | omega | (simp (disch := omega) only [up2_ne, up2_eq, hn, hp, st_200_m1 hS]; first | done | omega)) (by first | assumption | (simp (disch := omega) only [up2_ne, up2_eq, hn, hp, st_200_m1 hS]; first | done | rfl | omega)) rfl rfl ?_
          refine wp_vret dX12_next_233 rfl ?_
          first
            | (have hEK := tE_E hb (by omega)
               refine ⟨rfl, ?_, ?_, ?_, fun q => ?_, fun x y q => by simp (disch := omega) only [up2_ne]⟩
               · simp (disch := omega) only [up2_ne, up2_eq]
                 rw [hEK.1]
                 omega
               · simp (disch := omega) only [up2_ne, up2_eq]
                 exact hb.symm
               · simp (disch := omega) only [up2_ne, up2_eq]
                 rw [hEK.2]
                 rfl
               · rw [hEK.2] at q
                 exact absurd q (by decide))
            | (have hEK := tE_S hb (by omega) (decide_eq_false (by omega)) (decide_eq_false (by omega))
               have hsg := rTk_sg (c := f (p + j))
               have hsb := sgT_b (f (p + j))
               refine ⟨rfl, ?_, ?_, ?_, fun q => ?_, fun x y q => by simp (disch := omega) only [up2_ne]⟩
               · simp (disch := omega) only [up2_ne, up2_eq]
                 rw [hEK.1]
               · simp (disch := omega) only [up2_ne, up2_eq]
                 exact hb.symm
               · simp (disch := omega) only [up2_ne, up2_eq]
                 rw [hEK.2, hsg]
                 first
                   | (rw [if_pos (by omega)])
                   | (rw [if_neg (by omega)])
               · exfalso
                 omega)
      · refine wp_aload_n rfl rfl dX12_next_26 ?_
        refine wp_dup (by decide) dX12_next_27 ?_
        refine wp_getfield1 (z := 13) (kI := 38) fX12_220 dX12_next_28 (by first | omega | (simp (disch := omega) only [up2_ne, up2_eq, hn, hp, st_200_m1 hS]; first | done | omega)) (by first | assumption | (simp (disch := omega) only [up2_ne, up2_eq, hn, hp, st_200_m1 hS]; first | done | rfl | omega)) rfl rfl ?_
        try simp (disch := omega) only [up2_ne, up2_eq, hn, hp, st_200_m1 hS]
        refine wp_iconst dX12_next_31 ?_
        refine wp_iadd dX12_next_32 ?_
        refine wp_putfield1 (z := 13) (kI := 38) fX12_220 dX12_next_33 (by first | omega | (simp (disch := omega) only [up2_ne, up2_eq, hn, hp, st_200_m1 hS]; first | done | omega)) (by first | assumption | (simp (disch := omega) only [up2_ne, up2_eq, hn, hp, st_200_m1 hS]; first | done | rfl | omega)) rfl rfl ?_
        refine wp_goto (tgt := 0) dX12_next_36 (by decide) ?_
        have z := ih (by have := F.out (k := p + j) (by omega); omega) (by rw [show p + ((j + 1 : Nat) : Int) = p + j + 1 by omega, tB_s F (by omega) (decide_eq_true (by omega))]; exact he)
        rw [up2_up2, show p + (j : Int) + 1 = p + ((j + 1 : Nat) : Int) by omega]
        exact z
  have z := loop 0 (by omega) (by rw [show p + ((0 : Nat) : Int) = p from Int.add_zero p])
  rw [show p + ((0 : Nat) : Int) = p from Int.add_zero p, up2_same hp] at z
  exact z
