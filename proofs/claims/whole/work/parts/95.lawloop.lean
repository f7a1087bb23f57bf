/-! ===== the law: its loop over pairs of calls (class, reference), each as a hypothesis ===== -/
theorem lOr_in {x y : Int} : InL (lOr x y) := by unfold lOr; exact ⟨by have := (Int64.ofInt x ||| Int64.ofInt y).le_toInt; omega, by have := (Int64.ofInt x ||| Int64.ofInt y).toInt_lt; omega⟩
set_option maxHeartbeats 4000000 in
set_option maxRecDepth 100000 in
theorem law_loop (u : gT) (I : Nat → mH → Prop) (hL : u.2.2.2.1 ≤ 3584) (hxs : ∀ j : Nat, InI (u.2.2.2.2.1 j)) (hSt : ∀ j h, I j h → St h) (hUp : ∀ j h, I j h → I (j + 1) h)
  (p_fund : ∀ (j : Nat) (h : mH), j < 512 → I j h → ∀ a1 : Int, InI a1 → PairI u I MX11_fund MX12_fund [(0, a1)] j h)
  (p_give : ∀ (j : Nat) (h : mH), j < 512 → I j h → ∀ a1 a2 : Int, InI a1 → InI a2 → PairI u I MX11_give MX12_give [(0, a1), (0, a2)] j h)
  (p_fundTold : ∀ (j : Nat) (h : mH), j < 512 → I j h → ∀ a1 a2 : Int, InI a1 → InI a2 → PairI u I MX11_fundTold MX12_fundTold [(0, a1), (0, a2)] j h)
  (p_reader : ∀ (j : Nat) (h : mH), j < 512 → I j h → ∀ a1 a2 a3 : Int, InI a1 → InI a2 → InI a3 → PairI u I MX11_reader MX12_reader [(0, a1), (0, a2), (0, a3)] j h)
  (p_readerTold : ∀ (j : Nat) (h : mH), j < 512 → I j h → ∀ a1 a2 : Int, InI a1 → InI a2 → PairI u I MX11_readerTold MX12_readerTold [(0, a1), (0, a2)] j h)
  (p_ask : ∀ (j : Nat) (h : mH), j < 512 → I j h → ∀ a1 a2 a3 a4 a5 a6 : Int, InI a1 → InI a2 → InI a3 → InI a4 → InI a5 → InI a6 → PairI u I MX11_ask MX12_ask [(0, a1), (0, a2), (0, a3), (0, a4), (0, a5), (0, a6)] j h)
  (p_asks : ∀ (j : Nat) (h : mH), j < 512 → I j h → ∀ a1 a2 a3 a4 : Int, InI a1 → InI a2 → InI a3 → InI a4 → PairI u I MX11_asks MX12_asks [(0, a1), (0, a2), (0, a3), (0, a4)] j h)
  (p_told : ∀ (j : Nat) (h : mH), j < 512 → I j h → ∀ a1 a2 : Int, InI a1 → InI a2 → PairI u I MX11_told MX12_told [(0, a1), (0, a2)] j h)
  (p_feed : ∀ (j : Nat) (h : mH), j < 512 → I j h → ∀ a1 a2 : Int, InI a1 → InL a2 → PairI u I MX11_feed MX12_feed [(0, a1), (1, a2)] j h)
  (p_text : ∀ (j : Nat) (h : mH), j < 512 → I j h → PairI u I MX11_text MX12_text [] j h)
  (p_force : ∀ (j : Nat) (h : mH), j < 512 → I j h → ∀ a1 : Int, InI a1 → PairI u I MX11_force MX12_force [(0, a1)] j h)
  (p_says : ∀ (j : Nat) (h : mH), j < 512 → I j h → ∀ a1 a2 a3 : Int, InI a1 → InI a2 → InI a3 → PairL u I MX11_says MX12_says [(0, a1), (0, a2), (0, a3)] j h)
  (p_bar : ∀ (j : Nat) (h : mH), j < 512 → I j h → ∀ a1 a2 : Int, InI a1 → InI a2 → PairI u I MX11_bar MX12_bar [(0, a1), (0, a2)] j h)
  (p_barred : ∀ (j : Nat) (h : mH), j < 512 → I j h → ∀ a1 a2 : Int, InI a1 → InI a2 → PairI u I MX11_barred MX12_barred [(0, a1), (0, a2)] j h)
  (p_deal : ∀ (j : Nat) (h : mH), j < 512 → I j h → PairI u I MX11_deal MX12_deal [] j h)
  (p_places : ∀ (j : Nat) (h : mH), j < 512 → I j h → PairI u I MX11_places MX12_places [] j h)
  (p_mark : ∀ (j : Nat) (h : mH), j < 512 → I j h → ∀ a1 a2 a3 : Int, InI a1 → InI a2 → InI a3 → PairI u I MX11_mark MX12_mark [(0, a1), (0, a2), (0, a3)] j h)
  (p_worth : ∀ (j : Nat) (h : mH), j < 512 → I j h → ∀ a1 a2 : Int, InI a1 → InI a2 → PairL u I MX11_worth MX12_worth [(0, a1), (0, a2)] j h)
  (p_fit : ∀ (j : Nat) (h : mH), j < 512 → I j h → ∀ a1 a2 : Int, InI a1 → InI a2 → PairI u I MX11_fit MX12_fit [(0, a1), (0, a2)] j h)
  (p_choose : ∀ (j : Nat) (h : mH), j < 512 → I j h → ∀ a1 : Int, InI a1 → PairI u I MX11_choose MX12_choose [(0, a1)] j h)
  (p_grant : ∀ (j : Nat) (h : mH), j < 512 → I j h → ∀ a1 a2 a3 a4 a5 : Int, InI a1 → InI a2 → InI a3 → InI a4 → InI a5 → PairI u I MX11_grant MX12_grant [(0, a1), (0, a2), (0, a3), (0, a4), (0, a5)] j h)
  (p_proof : ∀ (j : Nat) (h : mH), j < 512 → I j h → ∀ a1 a2 : Int, InI a1 → InI a2 → PairI u I MX11_proof MX12_proof [(0, a1), (0, a2)] j h)
  (p_due : ∀ (j : Nat) (h : mH), j < 512 → I j h → ∀ a1 a2 : Int, InI a1 → InI a2 → PairI u I MX11_due MX12_due [(0, a1), (0, a2)] j h)
  (p_stop : ∀ (j : Nat) (h : mH), j < 512 → I j h → ∀ a1 : Int, InI a1 → PairI u I MX11_stop MX12_stop [(0, a1)] j h)
  (p_back : ∀ (j : Nat) (h : mH), j < 512 → I j h → ∀ a1 a2 : Int, InI a1 → InI a2 → PairI u I MX11_back MX12_back [(0, a1), (0, a2)] j h)
  (p_count : ∀ (j : Nat) (h : mH), j < 512 → I j h → ∀ a1 : Int, InI a1 → PairI u I MX11_count MX12_count [(0, a1)] j h)
  (p_sheet : ∀ (j : Nat) (h : mH), j < 512 → I j h → ∀ a1 a2 a3 : Int, InI a1 → InI a2 → InI a3 → PairI u I MX11_sheet MX12_sheet [(0, a1), (0, a2), (0, a3)] j h)
  (p_cell : ∀ (j : Nat) (h : mH), j < 512 → I j h → ∀ a1 a2 a3 : Int, InI a1 → InI a2 → InI a3 → PairI u I MX11_cell MX12_cell [(0, a1), (0, a2), (0, a3)] j h)
  (p_taken : ∀ (j : Nat) (h : mH), j < 512 → I j h → ∀ a1 a2 : Int, InI a1 → InI a2 → PairI u I MX11_taken MX12_taken [(0, a1), (0, a2)] j h) : ∀ (j : Nat), j ≤ (u.2.2.2.1 / 7 : Nat) → ∀ h : mH, I j h → WP (gX (gq u)) ML_law 2048 (300 * (512 - j)) (fun r _ => r = (0, 1)) 18 [(2, -10), (2, 1), (2, 200), (0, 7 * (j : Int))] [] h := by
  have hdiv : 7 * (u.2.2.2.1 / 7 : Nat) ≤ u.2.2.2.1 := Nat.mul_div_le _ _
  have hdiv2 : u.2.2.2.1 < 7 * (u.2.2.2.1 / 7 : Nat) + 7 := by omega
  refine loop_w (u.2.2.2.1 / 7 : Nat) (fun j hj ih h hI => ?_)
  have hS := hSt j h hI
  have hz := hxs (7 * (j : Int)).toNat
  refine wp_iload_n rfl rfl dL_law_18 ?_
  refine wp_aload_n rfl rfl dL_law_19 ?_
  refine wp_alenR rfl (by first | assumption | decide) dL_law_20 ?_
  refine wp_bipush (by decide) dL_law_21 ?_
  refine wp_isub dL_law_23 ?_
  refine wp_icmp_gt (tgt := 1191) (by first | assumption | exact bI_in _ | exact ⟨by omega, by omega⟩ | exact iAnd_in | exact iOr_in | exact iShr_in | exact iShl_in | exact iXor_in | exact hxs _) (by first | assumption | exact bI_in _ | exact ⟨by omega, by omega⟩ | exact iAnd_in | exact iOr_in | exact iShr_in | exact iShl_in | exact iXor_in | exact hxs _) dL_law_24 (by decide) (fun c1 => ?_) (fun c1 => ?_)
  · refine wp_iconst dL_law_1191 ?_
    refine wp_zret (by first | exact Or.inl rfl | exact Or.inr rfl | omega) dL_law_1192 rfl ?_
    first | rfl | (exfalso; omega)
  · refine wp_aload_n rfl rfl dL_law_27 ?_
    refine wp_iload_n rfl rfl dL_law_28 ?_
    refine wp_ialoadR rfl (by first | assumption | decide) (by first | omega | (simp (disch := omega) only [up2_ne, up2_eq, st_1_m1 hS, st_200_m1 hS]; first | done | omega)) (by first | omega | (simp only []; omega)) dL_law_29 ?_
    refine wp_bipush (by decide) dL_law_30 ?_
    refine wp_iand dL_law_32 ?_
    by_cases c2 : iAnd (u.2.2.2.2.1 (7 * (j : Int)).toNat) 31 < 0 ∨ 28 < iAnd (u.2.2.2.2.1 (7 * (j : Int)).toNat) 31
    · refine wp_tabOut (tgt := 1185) (by first | assumption | exact bI_in _ | exact ⟨by omega, by omega⟩ | exact iAnd_in | exact iOr_in | exact iShr_in | exact iShl_in | exact iXor_in | exact hxs _) dL_law_33 c2 (by decide) ?_
      refine wp_iinc rfl rfl dL_law_1185 rfl rfl ?_
      try simp only [List.set_cons_zero, List.set_cons_succ]
      refine wp_goto (tgt := 18) dL_law_1188 (by decide) ?_
      have hi := ih (by omega) _ (by first | exact hI2 | exact hUp _ _ hI)
      rw [show 7 * (((j : Nat) + 1 : Nat) : Int) = 7 * (j : Int) + 7 from by omega] at hi
      exact WP.bud (by omega) hi
    · rcases (show iAnd (u.2.2.2.2.1 (7 * (j : Int)).toNat) 31 = 0 ∨ iAnd (u.2.2.2.2.1 (7 * (j : Int)).toNat) 31 = 1 ∨ iAnd (u.2.2.2.2.1 (7 * (j : Int)).toNat) 31 = 2 ∨ iAnd (u.2.2.2.2.1 (7 * (j : Int)).toNat) 31 = 3 ∨ iAnd (u.2.2.2.2.1 (7 * (j : Int)).toNat) 31 = 4 ∨ iAnd (u.2.2.2.2.1 (7 * (j : Int)).toNat) 31 = 5 ∨ iAnd (u.2.2.2.2.1 (7 * (j : Int)).toNat) 31 = 6 ∨ iAnd (u.2.2.2.2.1 (7 * (j : Int)).toNat) 31 = 7 ∨ iAnd (u.2.2.2.2.1 (7 * (j : Int)).toNat) 31 = 8 ∨ iAnd (u.2.2.2.2.1 (7 * (j : Int)).toNat) 31 = 9 ∨ iAnd (u.2.2.2.2.1 (7 * (j : Int)).toNat) 31 = 10 ∨ iAnd (u.2.2.2.2.1 (7 * (j : Int)).toNat) 31 = 11 ∨ iAnd (u.2.2.2.2.1 (7 * (j : Int)).toNat) 31 = 12 ∨ iAnd (u.2.2.2.2.1 (7 * (j : Int)).toNat) 31 = 13 ∨ iAnd (u.2.2.2.2.1 (7 * (j : Int)).toNat) 31 = 14 ∨ iAnd (u.2.2.2.2.1 (7 * (j : Int)).toNat) 31 = 15 ∨ iAnd (u.2.2.2.2.1 (7 * (j : Int)).toNat) 31 = 16 ∨ iAnd (u.2.2.2.2.1 (7 * (j : Int)).toNat) 31 = 17 ∨ iAnd (u.2.2.2.2.1 (7 * (j : Int)).toNat) 31 = 18 ∨ iAnd (u.2.2.2.2.1 (7 * (j : Int)).toNat) 31 = 19 ∨ iAnd (u.2.2.2.2.1 (7 * (j : Int)).toNat) 31 = 20 ∨ iAnd (u.2.2.2.2.1 (7 * (j : Int)).toNat) 31 = 21 ∨ iAnd (u.2.2.2.2.1 (7 * (j : Int)).toNat) 31 = 22 ∨ iAnd (u.2.2.2.2.1 (7 * (j : Int)).toNat) 31 = 23 ∨ iAnd (u.2.2.2.2.1 (7 * (j : Int)).toNat) 31 = 24 ∨ iAnd (u.2.2.2.2.1 (7 * (j : Int)).toNat) 31 = 25 ∨ iAnd (u.2.2.2.2.1 (7 * (j : Int)).toNat) 31 = 26 ∨ iAnd (u.2.2.2.2.1 (7 * (j : Int)).toNat) 31 = 27 ∨ iAnd (u.2.2.2.2.1 (7 * (j : Int)).toNat) 31 = 28 by omega) with c2x | c2x | c2x | c2x | c2x | c2x | c2x | c2x | c2x | c2x | c2x | c2x | c2x | c2x | c2x | c2x | c2x | c2x | c2x | c2x | c2x | c2x | c2x | c2x | c2x | c2x | c2x | c2x | c2x
      · refine wp_tabIn (off := 131) (tgt := 164) (by first | assumption | exact bI_in _ | exact ⟨by omega, by omega⟩ | exact iAnd_in | exact iOr_in | exact iShr_in | exact iShl_in | exact iXor_in | exact hxs _) dL_law_33 (by omega) (by omega) (by rw [c2x]; rfl) (by decide) ?_
        refine wp_aload_n rfl rfl dL_law_164 ?_
        refine wp_aload_n rfl rfl dL_law_165 ?_
        refine wp_iload_n rfl rfl dL_law_166 ?_
        refine wp_iconst dL_law_167 ?_
        refine wp_iadd dL_law_168 ?_
        refine wp_ialoadR rfl (by first | assumption | decide) (by first | omega | (simp (disch := omega) only [up2_ne, up2_eq, st_1_m1 hS, st_200_m1 hS]; first | done | omega)) (by first | omega | (simp only []; omega)) dL_law_169 ?_
        refine wp_cV1r (ci := 11) okX11_fund rfl rfl wL_13 dL_law_170 (Nat.le_of_ble_eq_true rfl) (Nat.le_of_ble_eq_true rfl) (by first | omega | (simp (disch := omega) only [up2_ne, up2_eq, st_1_m1 hS, st_200_m1 hS]; first | done | omega)) (by first | assumption | (simp (disch := omega) only [up2_ne, up2_eq, st_1_m1 hS, st_200_m1 hS]; first | done | rfl | omega)) (p_fund j h (by omega) hI _ (hxs _)) (by omega) ?_
        rintro _ h1 ⟨v, rfl, hv, hR⟩ hk
        have z1 : h1 200 (-1) = 13 := by rw [hk 200 (by rw [st_200_m1 hS]; decide), st_200_m1 hS]
        refine wp_aload_n rfl rfl dL_law_173 ?_
        refine wp_aload_n rfl rfl dL_law_174 ?_
        refine wp_iload_n rfl rfl dL_law_175 ?_
        refine wp_iconst dL_law_176 ?_
        refine wp_iadd dL_law_177 ?_
        refine wp_ialoadR rfl (by first | assumption | decide) (by first | omega | (simp (disch := omega) only [up2_ne, up2_eq, st_1_m1 hS, st_200_m1 hS]; first | done | omega)) (by first | omega | (simp only []; omega)) dL_law_178 ?_
        refine wp_cV1r (ci := 12) okX12_fund rfl rfl wL_17 dL_law_179 (Nat.le_of_ble_eq_true rfl) (Nat.le_of_ble_eq_true rfl) (by first | omega | (simp (disch := omega) only [up2_ne, up2_eq, st_1_m1 hS, st_200_m1 hS]; first | done | omega)) (by first | assumption | (simp (disch := omega) only [up2_ne, up2_eq, st_1_m1 hS, st_200_m1 hS]; first | done | rfl | omega)) (hR) (by omega) ?_
        rintro _ h2 ⟨rfl, hI2⟩ _
        refine wp_icmp_eq (tgt := 1185) (by first | assumption | exact bI_in _ | exact ⟨by omega, by omega⟩ | exact iAnd_in | exact iOr_in | exact iShr_in | exact iShl_in | exact iXor_in | exact hxs _) (by first | assumption | exact bI_in _ | exact ⟨by omega, by omega⟩ | exact iAnd_in | exact iOr_in | exact iShr_in | exact iShl_in | exact iXor_in | exact hxs _) dL_law_182 (by decide) (fun c3 => ?_) (fun c3 => ?_)
        · refine wp_iinc rfl rfl dL_law_1185 rfl rfl ?_
          try simp only [List.set_cons_zero, List.set_cons_succ]
          refine wp_goto (tgt := 18) dL_law_1188 (by decide) ?_
          have hi := ih (by omega) _ (by first | exact hI2 | exact hUp _ _ hI)
          rw [show 7 * (((j : Nat) + 1 : Nat) : Int) = 7 * (j : Int) + 7 from by omega] at hi
          exact WP.bud (by omega) hi
        · refine wp_iconst dL_law_185 ?_
          refine wp_zret (by first | exact Or.inl rfl | exact Or.inr rfl | omega) dL_law_186 rfl ?_
          first | rfl | (exfalso; omega)
      · refine wp_tabIn (off := 154) (tgt := 187) (by first | assumption | exact bI_in _ | exact ⟨by omega, by omega⟩ | exact iAnd_in | exact iOr_in | exact iShr_in | exact iShl_in | exact iXor_in | exact hxs _) dL_law_33 (by omega) (by omega) (by rw [c2x]; rfl) (by decide) ?_
        refine wp_aload_n rfl rfl dL_law_187 ?_
        refine wp_aload_n rfl rfl dL_law_188 ?_
        refine wp_iload_n rfl rfl dL_law_189 ?_
        refine wp_iconst dL_law_190 ?_
        refine wp_iadd dL_law_191 ?_
        refine wp_ialoadR rfl (by first | assumption | decide) (by first | omega | (simp (disch := omega) only [up2_ne, up2_eq, st_1_m1 hS, st_200_m1 hS]; first | done | omega)) (by first | omega | (simp only []; omega)) dL_law_192 ?_
        refine wp_aload_n rfl rfl dL_law_193 ?_
        refine wp_iload_n rfl rfl dL_law_194 ?_
        refine wp_iconst dL_law_195 ?_
        refine wp_iadd dL_law_196 ?_
        refine wp_ialoadR rfl (by first | assumption | decide) (by first | omega | (simp (disch := omega) only [up2_ne, up2_eq, st_1_m1 hS, st_200_m1 hS]; first | done | omega)) (by first | omega | (simp only []; omega)) dL_law_197 ?_
        refine wp_cV2r (ci := 11) okX11_give rfl rfl wL_18 dL_law_198 (Nat.le_of_ble_eq_true rfl) (Nat.le_of_ble_eq_true rfl) (by first | omega | (simp (disch := omega) only [up2_ne, up2_eq, st_1_m1 hS, st_200_m1 hS]; first | done | omega)) (by first | assumption | (simp (disch := omega) only [up2_ne, up2_eq, st_1_m1 hS, st_200_m1 hS]; first | done | rfl | omega)) (p_give j h (by omega) hI _ _ (hxs _) (hxs _)) (by omega) ?_
        rintro _ h1 ⟨v, rfl, hv, hR⟩ hk
        have z1 : h1 200 (-1) = 13 := by rw [hk 200 (by rw [st_200_m1 hS]; decide), st_200_m1 hS]
        refine wp_aload_n rfl rfl dL_law_201 ?_
        refine wp_aload_n rfl rfl dL_law_202 ?_
        refine wp_iload_n rfl rfl dL_law_203 ?_
        refine wp_iconst dL_law_204 ?_
        refine wp_iadd dL_law_205 ?_
        refine wp_ialoadR rfl (by first | assumption | decide) (by first | omega | (simp (disch := omega) only [up2_ne, up2_eq, st_1_m1 hS, st_200_m1 hS]; first | done | omega)) (by first | omega | (simp only []; omega)) dL_law_206 ?_
        refine wp_aload_n rfl rfl dL_law_207 ?_
        refine wp_iload_n rfl rfl dL_law_208 ?_
        refine wp_iconst dL_law_209 ?_
        refine wp_iadd dL_law_210 ?_
        refine wp_ialoadR rfl (by first | assumption | decide) (by first | omega | (simp (disch := omega) only [up2_ne, up2_eq, st_1_m1 hS, st_200_m1 hS]; first | done | omega)) (by first | omega | (simp only []; omega)) dL_law_211 ?_
        refine wp_cV2r (ci := 12) okX12_give rfl rfl wL_22 dL_law_212 (Nat.le_of_ble_eq_true rfl) (Nat.le_of_ble_eq_true rfl) (by first | omega | (simp (disch := omega) only [up2_ne, up2_eq, st_1_m1 hS, st_200_m1 hS]; first | done | omega)) (by first | assumption | (simp (disch := omega) only [up2_ne, up2_eq, st_1_m1 hS, st_200_m1 hS]; first | done | rfl | omega)) (hR) (by omega) ?_
        rintro _ h2 ⟨rfl, hI2⟩ _
        refine wp_icmp_eq (tgt := 1185) (by first | assumption | exact bI_in _ | exact ⟨by omega, by omega⟩ | exact iAnd_in | exact iOr_in | exact iShr_in | exact iShl_in | exact iXor_in | exact hxs _) (by first | assumption | exact bI_in _ | exact ⟨by omega, by omega⟩ | exact iAnd_in | exact iOr_in | exact iShr_in | exact iShl_in | exact iXor_in | exact hxs _) dL_law_215 (by decide) (fun c4 => ?_) (fun c4 => ?_)
        · refine wp_iinc rfl rfl dL_law_1185 rfl rfl ?_
          try simp only [List.set_cons_zero, List.set_cons_succ]
          refine wp_goto (tgt := 18) dL_law_1188 (by decide) ?_
          have hi := ih (by omega) _ (by first | exact hI2 | exact hUp _ _ hI)
          rw [show 7 * (((j : Nat) + 1 : Nat) : Int) = 7 * (j : Int) + 7 from by omega] at hi
          exact WP.bud (by omega) hi
        · refine wp_iconst dL_law_218 ?_
          refine wp_zret (by first | exact Or.inl rfl | exact Or.inr rfl | omega) dL_law_219 rfl ?_
          first | rfl | (exfalso; omega)
      · refine wp_tabIn (off := 187) (tgt := 220) (by first | assumption | exact bI_in _ | exact ⟨by omega, by omega⟩ | exact iAnd_in | exact iOr_in | exact iShr_in | exact iShl_in | exact iXor_in | exact hxs _) dL_law_33 (by omega) (by omega) (by rw [c2x]; rfl) (by decide) ?_
        refine wp_aload_n rfl rfl dL_law_220 ?_
        refine wp_aload_n rfl rfl dL_law_221 ?_
        refine wp_iload_n rfl rfl dL_law_222 ?_
        refine wp_iconst dL_law_223 ?_
        refine wp_iadd dL_law_224 ?_
        refine wp_ialoadR rfl (by first | assumption | decide) (by first | omega | (simp (disch := omega) only [up2_ne, up2_eq, st_1_m1 hS, st_200_m1 hS]; first | done | omega)) (by first | omega | (simp only []; omega)) dL_law_225 ?_
        refine wp_aload_n rfl rfl dL_law_226 ?_
        refine wp_iload_n rfl rfl dL_law_227 ?_
        refine wp_iconst dL_law_228 ?_
        refine wp_iadd dL_law_229 ?_
        refine wp_ialoadR rfl (by first | assumption | decide) (by first | omega | (simp (disch := omega) only [up2_ne, up2_eq, st_1_m1 hS, st_200_m1 hS]; first | done | omega)) (by first | omega | (simp only []; omega)) dL_law_230 ?_
        refine wp_cV2r (ci := 11) okX11_fundTold rfl rfl wL_23 dL_law_231 (Nat.le_of_ble_eq_true rfl) (Nat.le_of_ble_eq_true rfl) (by first | omega | (simp (disch := omega) only [up2_ne, up2_eq, st_1_m1 hS, st_200_m1 hS]; first | done | omega)) (by first | assumption | (simp (disch := omega) only [up2_ne, up2_eq, st_1_m1 hS, st_200_m1 hS]; first | done | rfl | omega)) (p_fundTold j h (by omega) hI _ _ (hxs _) (hxs _)) (by omega) ?_
        rintro _ h1 ⟨v, rfl, hv, hR⟩ hk
        have z1 : h1 200 (-1) = 13 := by rw [hk 200 (by rw [st_200_m1 hS]; decide), st_200_m1 hS]
        refine wp_aload_n rfl rfl dL_law_234 ?_
        refine wp_aload_n rfl rfl dL_law_235 ?_
        refine wp_iload_n rfl rfl dL_law_236 ?_
        refine wp_iconst dL_law_237 ?_
        refine wp_iadd dL_law_238 ?_
        refine wp_ialoadR rfl (by first | assumption | decide) (by first | omega | (simp (disch := omega) only [up2_ne, up2_eq, st_1_m1 hS, st_200_m1 hS]; first | done | omega)) (by first | omega | (simp only []; omega)) dL_law_239 ?_
        refine wp_aload_n rfl rfl dL_law_240 ?_
        refine wp_iload_n rfl rfl dL_law_241 ?_
        refine wp_iconst dL_law_242 ?_
        refine wp_iadd dL_law_243 ?_
        refine wp_ialoadR rfl (by first | assumption | decide) (by first | omega | (simp (disch := omega) only [up2_ne, up2_eq, st_1_m1 hS, st_200_m1 hS]; first | done | omega)) (by first | omega | (simp only []; omega)) dL_law_244 ?_
        refine wp_cV2r (ci := 12) okX12_fundTold rfl rfl wL_26 dL_law_245 (Nat.le_of_ble_eq_true rfl) (Nat.le_of_ble_eq_true rfl) (by first | omega | (simp (disch := omega) only [up2_ne, up2_eq, st_1_m1 hS, st_200_m1 hS]; first | done | omega)) (by first | assumption | (simp (disch := omega) only [up2_ne, up2_eq, st_1_m1 hS, st_200_m1 hS]; first | done | rfl | omega)) (hR) (by omega) ?_
        rintro _ h2 ⟨rfl, hI2⟩ _
        refine wp_icmp_eq (tgt := 1185) (by first | assumption | exact bI_in _ | exact ⟨by omega, by omega⟩ | exact iAnd_in | exact iOr_in | exact iShr_in | exact iShl_in | exact iXor_in | exact hxs _) (by first | assumption | exact bI_in _ | exact ⟨by omega, by omega⟩ | exact iAnd_in | exact iOr_in | exact iShr_in | exact iShl_in | exact iXor_in | exact hxs _) dL_law_248 (by decide) (fun c5 => ?_) (fun c5 => ?_)
        · refine wp_iinc rfl rfl dL_law_1185 rfl rfl ?_
          try simp only [List.set_cons_zero, List.set_cons_succ]
          refine wp_goto (tgt := 18) dL_law_1188 (by decide) ?_
          have hi := ih (by omega) _ (by first | exact hI2 | exact hUp _ _ hI)
          rw [show 7 * (((j : Nat) + 1 : Nat) : Int) = 7 * (j : Int) + 7 from by omega] at hi
          exact WP.bud (by omega) hi
        · refine wp_iconst dL_law_251 ?_
          refine wp_zret (by first | exact Or.inl rfl | exact Or.inr rfl | omega) dL_law_252 rfl ?_
          first | rfl | (exfalso; omega)
      · refine wp_tabIn (off := 220) (tgt := 253) (by first | assumption | exact bI_in _ | exact ⟨by omega, by omega⟩ | exact iAnd_in | exact iOr_in | exact iShr_in | exact iShl_in | exact iXor_in | exact hxs _) dL_law_33 (by omega) (by omega) (by rw [c2x]; rfl) (by decide) ?_
        refine wp_aload_n rfl rfl dL_law_253 ?_
        refine wp_aload_n rfl rfl dL_law_254 ?_
        refine wp_iload_n rfl rfl dL_law_255 ?_
        refine wp_iconst dL_law_256 ?_
        refine wp_iadd dL_law_257 ?_
        refine wp_ialoadR rfl (by first | assumption | decide) (by first | omega | (simp (disch := omega) only [up2_ne, up2_eq, st_1_m1 hS, st_200_m1 hS]; first | done | omega)) (by first | omega | (simp only []; omega)) dL_law_258 ?_
        refine wp_aload_n rfl rfl dL_law_259 ?_
        refine wp_iload_n rfl rfl dL_law_260 ?_
        refine wp_iconst dL_law_261 ?_
        refine wp_iadd dL_law_262 ?_
        refine wp_ialoadR rfl (by first | assumption | decide) (by first | omega | (simp (disch := omega) only [up2_ne, up2_eq, st_1_m1 hS, st_200_m1 hS]; first | done | omega)) (by first | omega | (simp only []; omega)) dL_law_263 ?_
        refine wp_aload_n rfl rfl dL_law_264 ?_
        refine wp_iload_n rfl rfl dL_law_265 ?_
        refine wp_iconst dL_law_266 ?_
        refine wp_iadd dL_law_267 ?_
        refine wp_ialoadR rfl (by first | assumption | decide) (by first | omega | (simp (disch := omega) only [up2_ne, up2_eq, st_1_m1 hS, st_200_m1 hS]; first | done | omega)) (by first | omega | (simp only []; omega)) dL_law_268 ?_
        refine wp_cV3r (ci := 11) okX11_reader rfl rfl wL_27 dL_law_269 (Nat.le_of_ble_eq_true rfl) (Nat.le_of_ble_eq_true rfl) (by first | omega | (simp (disch := omega) only [up2_ne, up2_eq, st_1_m1 hS, st_200_m1 hS]; first | done | omega)) (by first | assumption | (simp (disch := omega) only [up2_ne, up2_eq, st_1_m1 hS, st_200_m1 hS]; first | done | rfl | omega)) (p_reader j h (by omega) hI _ _ _ (hxs _) (hxs _) (hxs _)) (by omega) ?_
        rintro _ h1 ⟨v, rfl, hv, hR⟩ hk
        have z1 : h1 200 (-1) = 13 := by rw [hk 200 (by rw [st_200_m1 hS]; decide), st_200_m1 hS]
        refine wp_aload_n rfl rfl dL_law_272 ?_
        refine wp_aload_n rfl rfl dL_law_273 ?_
        refine wp_iload_n rfl rfl dL_law_274 ?_
        refine wp_iconst dL_law_275 ?_
        refine wp_iadd dL_law_276 ?_
        refine wp_ialoadR rfl (by first | assumption | decide) (by first | omega | (simp (disch := omega) only [up2_ne, up2_eq, st_1_m1 hS, st_200_m1 hS]; first | done | omega)) (by first | omega | (simp only []; omega)) dL_law_277 ?_
        refine wp_aload_n rfl rfl dL_law_278 ?_
        refine wp_iload_n rfl rfl dL_law_279 ?_
        refine wp_iconst dL_law_280 ?_
        refine wp_iadd dL_law_281 ?_
        refine wp_ialoadR rfl (by first | assumption | decide) (by first | omega | (simp (disch := omega) only [up2_ne, up2_eq, st_1_m1 hS, st_200_m1 hS]; first | done | omega)) (by first | omega | (simp only []; omega)) dL_law_282 ?_
        refine wp_aload_n rfl rfl dL_law_283 ?_
        refine wp_iload_n rfl rfl dL_law_284 ?_
        refine wp_iconst dL_law_285 ?_
        refine wp_iadd dL_law_286 ?_
        refine wp_ialoadR rfl (by first | assumption | decide) (by first | omega | (simp (disch := omega) only [up2_ne, up2_eq, st_1_m1 hS, st_200_m1 hS]; first | done | omega)) (by first | omega | (simp only []; omega)) dL_law_287 ?_
        refine wp_cV3r (ci := 12) okX12_reader rfl rfl wL_31 dL_law_288 (Nat.le_of_ble_eq_true rfl) (Nat.le_of_ble_eq_true rfl) (by first | omega | (simp (disch := omega) only [up2_ne, up2_eq, st_1_m1 hS, st_200_m1 hS]; first | done | omega)) (by first | assumption | (simp (disch := omega) only [up2_ne, up2_eq, st_1_m1 hS, st_200_m1 hS]; first | done | rfl | omega)) (hR) (by omega) ?_
        rintro _ h2 ⟨rfl, hI2⟩ _
        refine wp_icmp_eq (tgt := 1185) (by first | assumption | exact bI_in _ | exact ⟨by omega, by omega⟩ | exact iAnd_in | exact iOr_in | exact iShr_in | exact iShl_in | exact iXor_in | exact hxs _) (by first | assumption | exact bI_in _ | exact ⟨by omega, by omega⟩ | exact iAnd_in | exact iOr_in | exact iShr_in | exact iShl_in | exact iXor_in | exact hxs _) dL_law_291 (by decide) (fun c6 => ?_) (fun c6 => ?_)
        · refine wp_iinc rfl rfl dL_law_1185 rfl rfl ?_
          try simp only [List.set_cons_zero, List.set_cons_succ]
          refine wp_goto (tgt := 18) dL_law_1188 (by decide) ?_
          have hi := ih (by omega) _ (by first | exact hI2 | exact hUp _ _ hI)
          rw [show 7 * (((j : Nat) + 1 : Nat) : Int) = 7 * (j : Int) + 7 from by omega] at hi
          exact WP.bud (by omega) hi
        · refine wp_iconst dL_law_294 ?_
          refine wp_zret (by first | exact Or.inl rfl | exact Or.inr rfl | omega) dL_law_295 rfl ?_
          first | rfl | (exfalso; omega)
      · refine wp_tabIn (off := 263) (tgt := 296) (by first | assumption | exact bI_in _ | exact ⟨by omega, by omega⟩ | exact iAnd_in | exact iOr_in | exact iShr_in | exact iShl_in | exact iXor_in | exact hxs _) dL_law_33 (by omega) (by omega) (by rw [c2x]; rfl) (by decide) ?_
        refine wp_aload_n rfl rfl dL_law_296 ?_
        refine wp_aload_n rfl rfl dL_law_297 ?_
        refine wp_iload_n rfl rfl dL_law_298 ?_
        refine wp_iconst dL_law_299 ?_
        refine wp_iadd dL_law_300 ?_
        refine wp_ialoadR rfl (by first | assumption | decide) (by first | omega | (simp (disch := omega) only [up2_ne, up2_eq, st_1_m1 hS, st_200_m1 hS]; first | done | omega)) (by first | omega | (simp only []; omega)) dL_law_301 ?_
        refine wp_aload_n rfl rfl dL_law_302 ?_
        refine wp_iload_n rfl rfl dL_law_303 ?_
        refine wp_iconst dL_law_304 ?_
        refine wp_iadd dL_law_305 ?_
        refine wp_ialoadR rfl (by first | assumption | decide) (by first | omega | (simp (disch := omega) only [up2_ne, up2_eq, st_1_m1 hS, st_200_m1 hS]; first | done | omega)) (by first | omega | (simp only []; omega)) dL_law_306 ?_
        refine wp_cV2r (ci := 11) okX11_readerTold rfl rfl wL_32 dL_law_307 (Nat.le_of_ble_eq_true rfl) (Nat.le_of_ble_eq_true rfl) (by first | omega | (simp (disch := omega) only [up2_ne, up2_eq, st_1_m1 hS, st_200_m1 hS]; first | done | omega)) (by first | assumption | (simp (disch := omega) only [up2_ne, up2_eq, st_1_m1 hS, st_200_m1 hS]; first | done | rfl | omega)) (p_readerTold j h (by omega) hI _ _ (hxs _) (hxs _)) (by omega) ?_
        rintro _ h1 ⟨v, rfl, hv, hR⟩ hk
        have z1 : h1 200 (-1) = 13 := by rw [hk 200 (by rw [st_200_m1 hS]; decide), st_200_m1 hS]
        refine wp_aload_n rfl rfl dL_law_310 ?_
        refine wp_aload_n rfl rfl dL_law_311 ?_
        refine wp_iload_n rfl rfl dL_law_312 ?_
        refine wp_iconst dL_law_313 ?_
        refine wp_iadd dL_law_314 ?_
        refine wp_ialoadR rfl (by first | assumption | decide) (by first | omega | (simp (disch := omega) only [up2_ne, up2_eq, st_1_m1 hS, st_200_m1 hS]; first | done | omega)) (by first | omega | (simp only []; omega)) dL_law_315 ?_
        refine wp_aload_n rfl rfl dL_law_316 ?_
        refine wp_iload_n rfl rfl dL_law_317 ?_
        refine wp_iconst dL_law_318 ?_
        refine wp_iadd dL_law_319 ?_
        refine wp_ialoadR rfl (by first | assumption | decide) (by first | omega | (simp (disch := omega) only [up2_ne, up2_eq, st_1_m1 hS, st_200_m1 hS]; first | done | omega)) (by first | omega | (simp only []; omega)) dL_law_320 ?_
        refine wp_cV2r (ci := 12) okX12_readerTold rfl rfl wL_35 dL_law_321 (Nat.le_of_ble_eq_true rfl) (Nat.le_of_ble_eq_true rfl) (by first | omega | (simp (disch := omega) only [up2_ne, up2_eq, st_1_m1 hS, st_200_m1 hS]; first | done | omega)) (by first | assumption | (simp (disch := omega) only [up2_ne, up2_eq, st_1_m1 hS, st_200_m1 hS]; first | done | rfl | omega)) (hR) (by omega) ?_
        rintro _ h2 ⟨rfl, hI2⟩ _
        refine wp_icmp_eq (tgt := 1185) (by first | assumption | exact bI_in _ | exact ⟨by omega, by omega⟩ | exact iAnd_in | exact iOr_in | exact iShr_in | exact iShl_in | exact iXor_in | exact hxs _) (by first | assumption | exact bI_in _ | exact ⟨by omega, by omega⟩ | exact iAnd_in | exact iOr_in | exact iShr_in | exact iShl_in | exact iXor_in | exact hxs _) dL_law_324 (by decide) (fun c7 => ?_) (fun c7 => ?_)
        · refine wp_iinc rfl rfl dL_law_1185 rfl rfl ?_
          try simp only [List.set_cons_zero, List.set_cons_succ]
          refine wp_goto (tgt := 18) dL_law_1188 (by decide) ?_
          have hi := ih (by omega) _ (by first | exact hI2 | exact hUp _ _ hI)
          rw [show 7 * (((j : Nat) + 1 : Nat) : Int) = 7 * (j : Int) + 7 from by omega] at hi
          exact WP.bud (by omega) hi
        · refine wp_iconst dL_law_327 ?_
          refine wp_zret (by first | exact Or.inl rfl | exact Or.inr rfl | omega) dL_law_328 rfl ?_
          first | rfl | (exfalso; omega)
      · refine wp_tabIn (off := 296) (tgt := 329) (by first | assumption | exact bI_in _ | exact ⟨by omega, by omega⟩ | exact iAnd_in | exact iOr_in | exact iShr_in | exact iShl_in | exact iXor_in | exact hxs _) dL_law_33 (by omega) (by omega) (by rw [c2x]; rfl) (by decide) ?_
        refine wp_aload_n rfl rfl dL_law_329 ?_
        refine wp_aload_n rfl rfl dL_law_330 ?_
        refine wp_iload_n rfl rfl dL_law_331 ?_
        refine wp_iconst dL_law_332 ?_
        refine wp_iadd dL_law_333 ?_
        refine wp_ialoadR rfl (by first | assumption | decide) (by first | omega | (simp (disch := omega) only [up2_ne, up2_eq, st_1_m1 hS, st_200_m1 hS]; first | done | omega)) (by first | omega | (simp only []; omega)) dL_law_334 ?_
        refine wp_aload_n rfl rfl dL_law_335 ?_
        refine wp_iload_n rfl rfl dL_law_336 ?_
        refine wp_iconst dL_law_337 ?_
        refine wp_iadd dL_law_338 ?_
        refine wp_ialoadR rfl (by first | assumption | decide) (by first | omega | (simp (disch := omega) only [up2_ne, up2_eq, st_1_m1 hS, st_200_m1 hS]; first | done | omega)) (by first | omega | (simp only []; omega)) dL_law_339 ?_
        refine wp_aload_n rfl rfl dL_law_340 ?_
        refine wp_iload_n rfl rfl dL_law_341 ?_
        refine wp_iconst dL_law_342 ?_
        refine wp_iadd dL_law_343 ?_
        refine wp_ialoadR rfl (by first | assumption | decide) (by first | omega | (simp (disch := omega) only [up2_ne, up2_eq, st_1_m1 hS, st_200_m1 hS]; first | done | omega)) (by first | omega | (simp only []; omega)) dL_law_344 ?_
        refine wp_aload_n rfl rfl dL_law_345 ?_
        refine wp_iload_n rfl rfl dL_law_346 ?_
        refine wp_iconst dL_law_347 ?_
        refine wp_iadd dL_law_348 ?_
        refine wp_ialoadR rfl (by first | assumption | decide) (by first | omega | (simp (disch := omega) only [up2_ne, up2_eq, st_1_m1 hS, st_200_m1 hS]; first | done | omega)) (by first | omega | (simp only []; omega)) dL_law_349 ?_
        refine wp_aload_n rfl rfl dL_law_350 ?_
        refine wp_iload_n rfl rfl dL_law_351 ?_
        refine wp_iconst dL_law_352 ?_
        refine wp_iadd dL_law_353 ?_
        refine wp_ialoadR rfl (by first | assumption | decide) (by first | omega | (simp (disch := omega) only [up2_ne, up2_eq, st_1_m1 hS, st_200_m1 hS]; first | done | omega)) (by first | omega | (simp only []; omega)) dL_law_354 ?_
        refine wp_aload_n rfl rfl dL_law_355 ?_
        refine wp_iload_n rfl rfl dL_law_356 ?_
        refine wp_bipush (by decide) dL_law_357 ?_
        refine wp_iadd dL_law_359 ?_
        refine wp_ialoadR rfl (by first | assumption | decide) (by first | omega | (simp (disch := omega) only [up2_ne, up2_eq, st_1_m1 hS, st_200_m1 hS]; first | done | omega)) (by first | omega | (simp only []; omega)) dL_law_360 ?_
        refine wp_cV6r (ci := 11) okX11_ask rfl rfl wL_36 dL_law_361 (Nat.le_of_ble_eq_true rfl) (Nat.le_of_ble_eq_true rfl) (by first | omega | (simp (disch := omega) only [up2_ne, up2_eq, st_1_m1 hS, st_200_m1 hS]; first | done | omega)) (by first | assumption | (simp (disch := omega) only [up2_ne, up2_eq, st_1_m1 hS, st_200_m1 hS]; first | done | rfl | omega)) (p_ask j h (by omega) hI _ _ _ _ _ _ (hxs _) (hxs _) (hxs _) (hxs _) (hxs _) (hxs _)) (by omega) ?_
        rintro _ h1 ⟨v, rfl, hv, hR⟩ hk
        have z1 : h1 200 (-1) = 13 := by rw [hk 200 (by rw [st_200_m1 hS]; decide), st_200_m1 hS]
        refine wp_aload_n rfl rfl dL_law_364 ?_
        refine wp_aload_n rfl rfl dL_law_365 ?_
        refine wp_iload_n rfl rfl dL_law_366 ?_
        refine wp_iconst dL_law_367 ?_
        refine wp_iadd dL_law_368 ?_
        refine wp_ialoadR rfl (by first | assumption | decide) (by first | omega | (simp (disch := omega) only [up2_ne, up2_eq, st_1_m1 hS, st_200_m1 hS]; first | done | omega)) (by first | omega | (simp only []; omega)) dL_law_369 ?_
        refine wp_aload_n rfl rfl dL_law_370 ?_
        refine wp_iload_n rfl rfl dL_law_371 ?_
        refine wp_iconst dL_law_372 ?_
        refine wp_iadd dL_law_373 ?_
        refine wp_ialoadR rfl (by first | assumption | decide) (by first | omega | (simp (disch := omega) only [up2_ne, up2_eq, st_1_m1 hS, st_200_m1 hS]; first | done | omega)) (by first | omega | (simp only []; omega)) dL_law_374 ?_
        refine wp_aload_n rfl rfl dL_law_375 ?_
        refine wp_iload_n rfl rfl dL_law_376 ?_
        refine wp_iconst dL_law_377 ?_
        refine wp_iadd dL_law_378 ?_
        refine wp_ialoadR rfl (by first | assumption | decide) (by first | omega | (simp (disch := omega) only [up2_ne, up2_eq, st_1_m1 hS, st_200_m1 hS]; first | done | omega)) (by first | omega | (simp only []; omega)) dL_law_379 ?_
        refine wp_aload_n rfl rfl dL_law_380 ?_
        refine wp_iload_n rfl rfl dL_law_381 ?_
        refine wp_iconst dL_law_382 ?_
        refine wp_iadd dL_law_383 ?_
        refine wp_ialoadR rfl (by first | assumption | decide) (by first | omega | (simp (disch := omega) only [up2_ne, up2_eq, st_1_m1 hS, st_200_m1 hS]; first | done | omega)) (by first | omega | (simp only []; omega)) dL_law_384 ?_
        refine wp_aload_n rfl rfl dL_law_385 ?_
        refine wp_iload_n rfl rfl dL_law_386 ?_
        refine wp_iconst dL_law_387 ?_
        refine wp_iadd dL_law_388 ?_
        refine wp_ialoadR rfl (by first | assumption | decide) (by first | omega | (simp (disch := omega) only [up2_ne, up2_eq, st_1_m1 hS, st_200_m1 hS]; first | done | omega)) (by first | omega | (simp only []; omega)) dL_law_389 ?_
        refine wp_aload_n rfl rfl dL_law_390 ?_
        refine wp_iload_n rfl rfl dL_law_391 ?_
        refine wp_bipush (by decide) dL_law_392 ?_
        refine wp_iadd dL_law_394 ?_
        refine wp_ialoadR rfl (by first | assumption | decide) (by first | omega | (simp (disch := omega) only [up2_ne, up2_eq, st_1_m1 hS, st_200_m1 hS]; first | done | omega)) (by first | omega | (simp only []; omega)) dL_law_395 ?_
        refine wp_cV6r (ci := 12) okX12_ask rfl rfl wL_40 dL_law_396 (Nat.le_of_ble_eq_true rfl) (Nat.le_of_ble_eq_true rfl) (by first | omega | (simp (disch := omega) only [up2_ne, up2_eq, st_1_m1 hS, st_200_m1 hS]; first | done | omega)) (by first | assumption | (simp (disch := omega) only [up2_ne, up2_eq, st_1_m1 hS, st_200_m1 hS]; first | done | rfl | omega)) (hR) (by omega) ?_
        rintro _ h2 ⟨rfl, hI2⟩ _
        refine wp_icmp_eq (tgt := 1185) (by first | assumption | exact bI_in _ | exact ⟨by omega, by omega⟩ | exact iAnd_in | exact iOr_in | exact iShr_in | exact iShl_in | exact iXor_in | exact hxs _) (by first | assumption | exact bI_in _ | exact ⟨by omega, by omega⟩ | exact iAnd_in | exact iOr_in | exact iShr_in | exact iShl_in | exact iXor_in | exact hxs _) dL_law_399 (by decide) (fun c8 => ?_) (fun c8 => ?_)
        · refine wp_iinc rfl rfl dL_law_1185 rfl rfl ?_
          try simp only [List.set_cons_zero, List.set_cons_succ]
          refine wp_goto (tgt := 18) dL_law_1188 (by decide) ?_
          have hi := ih (by omega) _ (by first | exact hI2 | exact hUp _ _ hI)
          rw [show 7 * (((j : Nat) + 1 : Nat) : Int) = 7 * (j : Int) + 7 from by omega] at hi
          exact WP.bud (by omega) hi
        · refine wp_iconst dL_law_402 ?_
          refine wp_zret (by first | exact Or.inl rfl | exact Or.inr rfl | omega) dL_law_403 rfl ?_
          first | rfl | (exfalso; omega)
      · refine wp_tabIn (off := 371) (tgt := 404) (by first | assumption | exact bI_in _ | exact ⟨by omega, by omega⟩ | exact iAnd_in | exact iOr_in | exact iShr_in | exact iShl_in | exact iXor_in | exact hxs _) dL_law_33 (by omega) (by omega) (by rw [c2x]; rfl) (by decide) ?_
        refine wp_aload_n rfl rfl dL_law_404 ?_
        refine wp_aload_n rfl rfl dL_law_405 ?_
        refine wp_iload_n rfl rfl dL_law_406 ?_
        refine wp_iconst dL_law_407 ?_
        refine wp_iadd dL_law_408 ?_
        refine wp_ialoadR rfl (by first | assumption | decide) (by first | omega | (simp (disch := omega) only [up2_ne, up2_eq, st_1_m1 hS, st_200_m1 hS]; first | done | omega)) (by first | omega | (simp only []; omega)) dL_law_409 ?_
        refine wp_aload_n rfl rfl dL_law_410 ?_
        refine wp_iload_n rfl rfl dL_law_411 ?_
        refine wp_iconst dL_law_412 ?_
        refine wp_iadd dL_law_413 ?_
        refine wp_ialoadR rfl (by first | assumption | decide) (by first | omega | (simp (disch := omega) only [up2_ne, up2_eq, st_1_m1 hS, st_200_m1 hS]; first | done | omega)) (by first | omega | (simp only []; omega)) dL_law_414 ?_
        refine wp_aload_n rfl rfl dL_law_415 ?_
        refine wp_iload_n rfl rfl dL_law_416 ?_
        refine wp_iconst dL_law_417 ?_
        refine wp_iadd dL_law_418 ?_
        refine wp_ialoadR rfl (by first | assumption | decide) (by first | omega | (simp (disch := omega) only [up2_ne, up2_eq, st_1_m1 hS, st_200_m1 hS]; first | done | omega)) (by first | omega | (simp only []; omega)) dL_law_419 ?_
        refine wp_aload_n rfl rfl dL_law_420 ?_
        refine wp_iload_n rfl rfl dL_law_421 ?_
        refine wp_iconst dL_law_422 ?_
        refine wp_iadd dL_law_423 ?_
        refine wp_ialoadR rfl (by first | assumption | decide) (by first | omega | (simp (disch := omega) only [up2_ne, up2_eq, st_1_m1 hS, st_200_m1 hS]; first | done | omega)) (by first | omega | (simp only []; omega)) dL_law_424 ?_
        refine wp_cV4r (ci := 11) okX11_asks rfl rfl wL_41 dL_law_425 (Nat.le_of_ble_eq_true rfl) (Nat.le_of_ble_eq_true rfl) (by first | omega | (simp (disch := omega) only [up2_ne, up2_eq, st_1_m1 hS, st_200_m1 hS]; first | done | omega)) (by first | assumption | (simp (disch := omega) only [up2_ne, up2_eq, st_1_m1 hS, st_200_m1 hS]; first | done | rfl | omega)) (p_asks j h (by omega) hI _ _ _ _ (hxs _) (hxs _) (hxs _) (hxs _)) (by omega) ?_
        rintro _ h1 ⟨v, rfl, hv, hR⟩ hk
        have z1 : h1 200 (-1) = 13 := by rw [hk 200 (by rw [st_200_m1 hS]; decide), st_200_m1 hS]
        refine wp_aload_n rfl rfl dL_law_428 ?_
        refine wp_aload_n rfl rfl dL_law_429 ?_
        refine wp_iload_n rfl rfl dL_law_430 ?_
        refine wp_iconst dL_law_431 ?_
        refine wp_iadd dL_law_432 ?_
        refine wp_ialoadR rfl (by first | assumption | decide) (by first | omega | (simp (disch := omega) only [up2_ne, up2_eq, st_1_m1 hS, st_200_m1 hS]; first | done | omega)) (by first | omega | (simp only []; omega)) dL_law_433 ?_
        refine wp_aload_n rfl rfl dL_law_434 ?_
        refine wp_iload_n rfl rfl dL_law_435 ?_
        refine wp_iconst dL_law_436 ?_
        refine wp_iadd dL_law_437 ?_
        refine wp_ialoadR rfl (by first | assumption | decide) (by first | omega | (simp (disch := omega) only [up2_ne, up2_eq, st_1_m1 hS, st_200_m1 hS]; first | done | omega)) (by first | omega | (simp only []; omega)) dL_law_438 ?_
        refine wp_aload_n rfl rfl dL_law_439 ?_
        refine wp_iload_n rfl rfl dL_law_440 ?_
        refine wp_iconst dL_law_441 ?_
        refine wp_iadd dL_law_442 ?_
        refine wp_ialoadR rfl (by first | assumption | decide) (by first | omega | (simp (disch := omega) only [up2_ne, up2_eq, st_1_m1 hS, st_200_m1 hS]; first | done | omega)) (by first | omega | (simp only []; omega)) dL_law_443 ?_
        refine wp_aload_n rfl rfl dL_law_444 ?_
        refine wp_iload_n rfl rfl dL_law_445 ?_
        refine wp_iconst dL_law_446 ?_
        refine wp_iadd dL_law_447 ?_
        refine wp_ialoadR rfl (by first | assumption | decide) (by first | omega | (simp (disch := omega) only [up2_ne, up2_eq, st_1_m1 hS, st_200_m1 hS]; first | done | omega)) (by first | omega | (simp only []; omega)) dL_law_448 ?_
        refine wp_cV4r (ci := 12) okX12_asks rfl rfl wL_45 dL_law_449 (Nat.le_of_ble_eq_true rfl) (Nat.le_of_ble_eq_true rfl) (by first | omega | (simp (disch := omega) only [up2_ne, up2_eq, st_1_m1 hS, st_200_m1 hS]; first | done | omega)) (by first | assumption | (simp (disch := omega) only [up2_ne, up2_eq, st_1_m1 hS, st_200_m1 hS]; first | done | rfl | omega)) (hR) (by omega) ?_
        rintro _ h2 ⟨rfl, hI2⟩ _
        refine wp_icmp_eq (tgt := 1185) (by first | assumption | exact bI_in _ | exact ⟨by omega, by omega⟩ | exact iAnd_in | exact iOr_in | exact iShr_in | exact iShl_in | exact iXor_in | exact hxs _) (by first | assumption | exact bI_in _ | exact ⟨by omega, by omega⟩ | exact iAnd_in | exact iOr_in | exact iShr_in | exact iShl_in | exact iXor_in | exact hxs _) dL_law_452 (by decide) (fun c9 => ?_) (fun c9 => ?_)
        · refine wp_iinc rfl rfl dL_law_1185 rfl rfl ?_
          try simp only [List.set_cons_zero, List.set_cons_succ]
          refine wp_goto (tgt := 18) dL_law_1188 (by decide) ?_
          have hi := ih (by omega) _ (by first | exact hI2 | exact hUp _ _ hI)
          rw [show 7 * (((j : Nat) + 1 : Nat) : Int) = 7 * (j : Int) + 7 from by omega] at hi
          exact WP.bud (by omega) hi
        · refine wp_iconst dL_law_455 ?_
          refine wp_zret (by first | exact Or.inl rfl | exact Or.inr rfl | omega) dL_law_456 rfl ?_
          first | rfl | (exfalso; omega)
      · refine wp_tabIn (off := 424) (tgt := 457) (by first | assumption | exact bI_in _ | exact ⟨by omega, by omega⟩ | exact iAnd_in | exact iOr_in | exact iShr_in | exact iShl_in | exact iXor_in | exact hxs _) dL_law_33 (by omega) (by omega) (by rw [c2x]; rfl) (by decide) ?_
        refine wp_aload_n rfl rfl dL_law_457 ?_
        refine wp_aload_n rfl rfl dL_law_458 ?_
        refine wp_iload_n rfl rfl dL_law_459 ?_
        refine wp_iconst dL_law_460 ?_
        refine wp_iadd dL_law_461 ?_
        refine wp_ialoadR rfl (by first | assumption | decide) (by first | omega | (simp (disch := omega) only [up2_ne, up2_eq, st_1_m1 hS, st_200_m1 hS]; first | done | omega)) (by first | omega | (simp only []; omega)) dL_law_462 ?_
        refine wp_aload_n rfl rfl dL_law_463 ?_
        refine wp_iload_n rfl rfl dL_law_464 ?_
        refine wp_iconst dL_law_465 ?_
        refine wp_iadd dL_law_466 ?_
        refine wp_ialoadR rfl (by first | assumption | decide) (by first | omega | (simp (disch := omega) only [up2_ne, up2_eq, st_1_m1 hS, st_200_m1 hS]; first | done | omega)) (by first | omega | (simp only []; omega)) dL_law_467 ?_
        refine wp_cV2r (ci := 11) okX11_told rfl rfl wL_46 dL_law_468 (Nat.le_of_ble_eq_true rfl) (Nat.le_of_ble_eq_true rfl) (by first | omega | (simp (disch := omega) only [up2_ne, up2_eq, st_1_m1 hS, st_200_m1 hS]; first | done | omega)) (by first | assumption | (simp (disch := omega) only [up2_ne, up2_eq, st_1_m1 hS, st_200_m1 hS]; first | done | rfl | omega)) (p_told j h (by omega) hI _ _ (hxs _) (hxs _)) (by omega) ?_
        rintro _ h1 ⟨v, rfl, hv, hR⟩ hk
        have z1 : h1 200 (-1) = 13 := by rw [hk 200 (by rw [st_200_m1 hS]; decide), st_200_m1 hS]
        refine wp_aload_n rfl rfl dL_law_471 ?_
        refine wp_aload_n rfl rfl dL_law_472 ?_
        refine wp_iload_n rfl rfl dL_law_473 ?_
        refine wp_iconst dL_law_474 ?_
        refine wp_iadd dL_law_475 ?_
        refine wp_ialoadR rfl (by first | assumption | decide) (by first | omega | (simp (disch := omega) only [up2_ne, up2_eq, st_1_m1 hS, st_200_m1 hS]; first | done | omega)) (by first | omega | (simp only []; omega)) dL_law_476 ?_
        refine wp_aload_n rfl rfl dL_law_477 ?_
        refine wp_iload_n rfl rfl dL_law_478 ?_
        refine wp_iconst dL_law_479 ?_
        refine wp_iadd dL_law_480 ?_
        refine wp_ialoadR rfl (by first | assumption | decide) (by first | omega | (simp (disch := omega) only [up2_ne, up2_eq, st_1_m1 hS, st_200_m1 hS]; first | done | omega)) (by first | omega | (simp only []; omega)) dL_law_481 ?_
        refine wp_cV2r (ci := 12) okX12_told rfl rfl wL_49 dL_law_482 (Nat.le_of_ble_eq_true rfl) (Nat.le_of_ble_eq_true rfl) (by first | omega | (simp (disch := omega) only [up2_ne, up2_eq, st_1_m1 hS, st_200_m1 hS]; first | done | omega)) (by first | assumption | (simp (disch := omega) only [up2_ne, up2_eq, st_1_m1 hS, st_200_m1 hS]; first | done | rfl | omega)) (hR) (by omega) ?_
        rintro _ h2 ⟨rfl, hI2⟩ _
        refine wp_icmp_eq (tgt := 1185) (by first | assumption | exact bI_in _ | exact ⟨by omega, by omega⟩ | exact iAnd_in | exact iOr_in | exact iShr_in | exact iShl_in | exact iXor_in | exact hxs _) (by first | assumption | exact bI_in _ | exact ⟨by omega, by omega⟩ | exact iAnd_in | exact iOr_in | exact iShr_in | exact iShl_in | exact iXor_in | exact hxs _) dL_law_485 (by decide) (fun c10 => ?_) (fun c10 => ?_)
        · refine wp_iinc rfl rfl dL_law_1185 rfl rfl ?_
          try simp only [List.set_cons_zero, List.set_cons_succ]
          refine wp_goto (tgt := 18) dL_law_1188 (by decide) ?_
          have hi := ih (by omega) _ (by first | exact hI2 | exact hUp _ _ hI)
          rw [show 7 * (((j : Nat) + 1 : Nat) : Int) = 7 * (j : Int) + 7 from by omega] at hi
          exact WP.bud (by omega) hi
        · refine wp_iconst dL_law_488 ?_
          refine wp_zret (by first | exact Or.inl rfl | exact Or.inr rfl | omega) dL_law_489 rfl ?_
          first | rfl | (exfalso; omega)
      · refine wp_tabIn (off := 457) (tgt := 490) (by first | assumption | exact bI_in _ | exact ⟨by omega, by omega⟩ | exact iAnd_in | exact iOr_in | exact iShr_in | exact iShl_in | exact iXor_in | exact hxs _) dL_law_33 (by omega) (by omega) (by rw [c2x]; rfl) (by decide) ?_
        refine wp_aload_n rfl rfl dL_law_490 ?_
        refine wp_aload_n rfl rfl dL_law_491 ?_
        refine wp_iload_n rfl rfl dL_law_492 ?_
        refine wp_iconst dL_law_493 ?_
        refine wp_iadd dL_law_494 ?_
        refine wp_ialoadR rfl (by first | assumption | decide) (by first | omega | (simp (disch := omega) only [up2_ne, up2_eq, st_1_m1 hS, st_200_m1 hS]; first | done | omega)) (by first | omega | (simp only []; omega)) dL_law_495 ?_
        refine wp_aload_n rfl rfl dL_law_496 ?_
        refine wp_iload_n rfl rfl dL_law_497 ?_
        refine wp_iconst dL_law_498 ?_
        refine wp_iadd dL_law_499 ?_
        refine wp_ialoadR rfl (by first | assumption | decide) (by first | omega | (simp (disch := omega) only [up2_ne, up2_eq, st_1_m1 hS, st_200_m1 hS]; first | done | omega)) (by first | omega | (simp only []; omega)) dL_law_500 ?_
        refine wp_i2l (by first | assumption | exact bI_in _ | exact ⟨by omega, by omega⟩ | exact iAnd_in | exact iOr_in | exact iShr_in | exact iShl_in | exact iXor_in | exact hxs _) dL_law_501 ?_
        refine wp_bipush (by decide) dL_law_502 ?_
        refine wp_lshl dL_law_504 ?_
        refine wp_aload_n rfl rfl dL_law_505 ?_
        refine wp_iload_n rfl rfl dL_law_506 ?_
        refine wp_iconst dL_law_507 ?_
        refine wp_iadd dL_law_508 ?_
        refine wp_ialoadR rfl (by first | assumption | decide) (by first | omega | (simp (disch := omega) only [up2_ne, up2_eq, st_1_m1 hS, st_200_m1 hS]; first | done | omega)) (by first | omega | (simp only []; omega)) dL_law_509 ?_
        refine wp_i2l (by first | assumption | exact bI_in _ | exact ⟨by omega, by omega⟩ | exact iAnd_in | exact iOr_in | exact iShr_in | exact iShl_in | exact iXor_in | exact hxs _) dL_law_510 ?_
        refine wp_ldc2 kL_50 dL_law_511 ?_
        refine wp_land dL_law_514 ?_
        refine wp_lor dL_law_515 ?_
        refine wp_cV2r (ci := 11) okX11_feed rfl rfl wL_52 dL_law_516 (Nat.le_of_ble_eq_true rfl) (Nat.le_of_ble_eq_true rfl) (by first | omega | (simp (disch := omega) only [up2_ne, up2_eq, st_1_m1 hS, st_200_m1 hS]; first | done | omega)) (by first | assumption | (simp (disch := omega) only [up2_ne, up2_eq, st_1_m1 hS, st_200_m1 hS]; first | done | rfl | omega)) (p_feed j h (by omega) hI _ _ (hxs _) lOr_in) (by omega) ?_
        rintro _ h1 ⟨v, rfl, hv, hR⟩ hk
        have z1 : h1 200 (-1) = 13 := by rw [hk 200 (by rw [st_200_m1 hS]; decide), st_200_m1 hS]
        refine wp_aload_n rfl rfl dL_law_519 ?_
        refine wp_aload_n rfl rfl dL_law_520 ?_
        refine wp_iload_n rfl rfl dL_law_521 ?_
        refine wp_iconst dL_law_522 ?_
        refine wp_iadd dL_law_523 ?_
        refine wp_ialoadR rfl (by first | assumption | decide) (by first | omega | (simp (disch := omega) only [up2_ne, up2_eq, st_1_m1 hS, st_200_m1 hS]; first | done | omega)) (by first | omega | (simp only []; omega)) dL_law_524 ?_
        refine wp_aload_n rfl rfl dL_law_525 ?_
        refine wp_iload_n rfl rfl dL_law_526 ?_
        refine wp_iconst dL_law_527 ?_
        refine wp_iadd dL_law_528 ?_
        refine wp_ialoadR rfl (by first | assumption | decide) (by first | omega | (simp (disch := omega) only [up2_ne, up2_eq, st_1_m1 hS, st_200_m1 hS]; first | done | omega)) (by first | omega | (simp only []; omega)) dL_law_529 ?_
        refine wp_i2l (by first | assumption | exact bI_in _ | exact ⟨by omega, by omega⟩ | exact iAnd_in | exact iOr_in | exact iShr_in | exact iShl_in | exact iXor_in | exact hxs _) dL_law_530 ?_
        refine wp_bipush (by decide) dL_law_531 ?_
        refine wp_lshl dL_law_533 ?_
        refine wp_aload_n rfl rfl dL_law_534 ?_
        refine wp_iload_n rfl rfl dL_law_535 ?_
        refine wp_iconst dL_law_536 ?_
        refine wp_iadd dL_law_537 ?_
        refine wp_ialoadR rfl (by first | assumption | decide) (by first | omega | (simp (disch := omega) only [up2_ne, up2_eq, st_1_m1 hS, st_200_m1 hS]; first | done | omega)) (by first | omega | (simp only []; omega)) dL_law_538 ?_
        refine wp_i2l (by first | assumption | exact bI_in _ | exact ⟨by omega, by omega⟩ | exact iAnd_in | exact iOr_in | exact iShr_in | exact iShl_in | exact iXor_in | exact hxs _) dL_law_539 ?_
        refine wp_ldc2 kL_50 dL_law_540 ?_
        refine wp_land dL_law_543 ?_
        refine wp_lor dL_law_544 ?_
        refine wp_cV2r (ci := 12) okX12_feed rfl rfl wL_56 dL_law_545 (Nat.le_of_ble_eq_true rfl) (Nat.le_of_ble_eq_true rfl) (by first | omega | (simp (disch := omega) only [up2_ne, up2_eq, st_1_m1 hS, st_200_m1 hS]; first | done | omega)) (by first | assumption | (simp (disch := omega) only [up2_ne, up2_eq, st_1_m1 hS, st_200_m1 hS]; first | done | rfl | omega)) (hR) (by omega) ?_
        rintro _ h2 ⟨rfl, hI2⟩ _
        refine wp_icmp_eq (tgt := 1185) (by first | assumption | exact bI_in _ | exact ⟨by omega, by omega⟩ | exact iAnd_in | exact iOr_in | exact iShr_in | exact iShl_in | exact iXor_in | exact hxs _) (by first | assumption | exact bI_in _ | exact ⟨by omega, by omega⟩ | exact iAnd_in | exact iOr_in | exact iShr_in | exact iShl_in | exact iXor_in | exact hxs _) dL_law_548 (by decide) (fun c11 => ?_) (fun c11 => ?_)
        · refine wp_iinc rfl rfl dL_law_1185 rfl rfl ?_
          try simp only [List.set_cons_zero, List.set_cons_succ]
          refine wp_goto (tgt := 18) dL_law_1188 (by decide) ?_
          have hi := ih (by omega) _ (by first | exact hI2 | exact hUp _ _ hI)
          rw [show 7 * (((j : Nat) + 1 : Nat) : Int) = 7 * (j : Int) + 7 from by omega] at hi
          exact WP.bud (by omega) hi
        · refine wp_iconst dL_law_551 ?_
          refine wp_zret (by first | exact Or.inl rfl | exact Or.inr rfl | omega) dL_law_552 rfl ?_
          first | rfl | (exfalso; omega)
      · refine wp_tabIn (off := 520) (tgt := 553) (by first | assumption | exact bI_in _ | exact ⟨by omega, by omega⟩ | exact iAnd_in | exact iOr_in | exact iShr_in | exact iShl_in | exact iXor_in | exact hxs _) dL_law_33 (by omega) (by omega) (by rw [c2x]; rfl) (by decide) ?_
        refine wp_aload_n rfl rfl dL_law_553 ?_
        refine wp_cV0r (ci := 11) okX11_text rfl rfl wL_57 dL_law_554 (Nat.le_of_ble_eq_true rfl) (Nat.le_of_ble_eq_true rfl) (by first | omega | (simp (disch := omega) only [up2_ne, up2_eq, st_1_m1 hS, st_200_m1 hS]; first | done | omega)) (by first | assumption | (simp (disch := omega) only [up2_ne, up2_eq, st_1_m1 hS, st_200_m1 hS]; first | done | rfl | omega)) (p_text j h (by omega) hI) (by omega) ?_
        rintro _ h1 ⟨v, rfl, hv, hR⟩ hk
        have z1 : h1 200 (-1) = 13 := by rw [hk 200 (by rw [st_200_m1 hS]; decide), st_200_m1 hS]
        refine wp_aload_n rfl rfl dL_law_557 ?_
        refine wp_cV0r (ci := 12) okX12_text rfl rfl wL_61 dL_law_558 (Nat.le_of_ble_eq_true rfl) (Nat.le_of_ble_eq_true rfl) (by first | omega | (simp (disch := omega) only [up2_ne, up2_eq, st_1_m1 hS, st_200_m1 hS]; first | done | omega)) (by first | assumption | (simp (disch := omega) only [up2_ne, up2_eq, st_1_m1 hS, st_200_m1 hS]; first | done | rfl | omega)) (hR) (by omega) ?_
        rintro _ h2 ⟨rfl, hI2⟩ _
        refine wp_icmp_eq (tgt := 1185) (by first | assumption | exact bI_in _ | exact ⟨by omega, by omega⟩ | exact iAnd_in | exact iOr_in | exact iShr_in | exact iShl_in | exact iXor_in | exact hxs _) (by first | assumption | exact bI_in _ | exact ⟨by omega, by omega⟩ | exact iAnd_in | exact iOr_in | exact iShr_in | exact iShl_in | exact iXor_in | exact hxs _) dL_law_561 (by decide) (fun c12 => ?_) (fun c12 => ?_)
        · refine wp_iinc rfl rfl dL_law_1185 rfl rfl ?_
          try simp only [List.set_cons_zero, List.set_cons_succ]
          refine wp_goto (tgt := 18) dL_law_1188 (by decide) ?_
          have hi := ih (by omega) _ (by first | exact hI2 | exact hUp _ _ hI)
          rw [show 7 * (((j : Nat) + 1 : Nat) : Int) = 7 * (j : Int) + 7 from by omega] at hi
          exact WP.bud (by omega) hi
        · refine wp_iconst dL_law_564 ?_
          refine wp_zret (by first | exact Or.inl rfl | exact Or.inr rfl | omega) dL_law_565 rfl ?_
          first | rfl | (exfalso; omega)
      · refine wp_tabIn (off := 533) (tgt := 566) (by first | assumption | exact bI_in _ | exact ⟨by omega, by omega⟩ | exact iAnd_in | exact iOr_in | exact iShr_in | exact iShl_in | exact iXor_in | exact hxs _) dL_law_33 (by omega) (by omega) (by rw [c2x]; rfl) (by decide) ?_
        refine wp_aload_n rfl rfl dL_law_566 ?_
        refine wp_aload_n rfl rfl dL_law_567 ?_
        refine wp_iload_n rfl rfl dL_law_568 ?_
        refine wp_iconst dL_law_569 ?_
        refine wp_iadd dL_law_570 ?_
        refine wp_ialoadR rfl (by first | assumption | decide) (by first | omega | (simp (disch := omega) only [up2_ne, up2_eq, st_1_m1 hS, st_200_m1 hS]; first | done | omega)) (by first | omega | (simp only []; omega)) dL_law_571 ?_
        refine wp_cV1r (ci := 11) okX11_force rfl rfl wL_62 dL_law_572 (Nat.le_of_ble_eq_true rfl) (Nat.le_of_ble_eq_true rfl) (by first | omega | (simp (disch := omega) only [up2_ne, up2_eq, st_1_m1 hS, st_200_m1 hS]; first | done | omega)) (by first | assumption | (simp (disch := omega) only [up2_ne, up2_eq, st_1_m1 hS, st_200_m1 hS]; first | done | rfl | omega)) (p_force j h (by omega) hI _ (hxs _)) (by omega) ?_
        rintro _ h1 ⟨v, rfl, hv, hR⟩ hk
        have z1 : h1 200 (-1) = 13 := by rw [hk 200 (by rw [st_200_m1 hS]; decide), st_200_m1 hS]
        refine wp_aload_n rfl rfl dL_law_575 ?_
        refine wp_aload_n rfl rfl dL_law_576 ?_
        refine wp_iload_n rfl rfl dL_law_577 ?_
        refine wp_iconst dL_law_578 ?_
        refine wp_iadd dL_law_579 ?_
        refine wp_ialoadR rfl (by first | assumption | decide) (by first | omega | (simp (disch := omega) only [up2_ne, up2_eq, st_1_m1 hS, st_200_m1 hS]; first | done | omega)) (by first | omega | (simp only []; omega)) dL_law_580 ?_
        refine wp_cV1r (ci := 12) okX12_force rfl rfl wL_65 dL_law_581 (Nat.le_of_ble_eq_true rfl) (Nat.le_of_ble_eq_true rfl) (by first | omega | (simp (disch := omega) only [up2_ne, up2_eq, st_1_m1 hS, st_200_m1 hS]; first | done | omega)) (by first | assumption | (simp (disch := omega) only [up2_ne, up2_eq, st_1_m1 hS, st_200_m1 hS]; first | done | rfl | omega)) (hR) (by omega) ?_
        rintro _ h2 ⟨rfl, hI2⟩ _
        refine wp_icmp_eq (tgt := 1185) (by first | assumption | exact bI_in _ | exact ⟨by omega, by omega⟩ | exact iAnd_in | exact iOr_in | exact iShr_in | exact iShl_in | exact iXor_in | exact hxs _) (by first | assumption | exact bI_in _ | exact ⟨by omega, by omega⟩ | exact iAnd_in | exact iOr_in | exact iShr_in | exact iShl_in | exact iXor_in | exact hxs _) dL_law_584 (by decide) (fun c13 => ?_) (fun c13 => ?_)
        · refine wp_iinc rfl rfl dL_law_1185 rfl rfl ?_
          try simp only [List.set_cons_zero, List.set_cons_succ]
          refine wp_goto (tgt := 18) dL_law_1188 (by decide) ?_
          have hi := ih (by omega) _ (by first | exact hI2 | exact hUp _ _ hI)
          rw [show 7 * (((j : Nat) + 1 : Nat) : Int) = 7 * (j : Int) + 7 from by omega] at hi
          exact WP.bud (by omega) hi
        · refine wp_iconst dL_law_587 ?_
          refine wp_zret (by first | exact Or.inl rfl | exact Or.inr rfl | omega) dL_law_588 rfl ?_
          first | rfl | (exfalso; omega)
      · refine wp_tabIn (off := 556) (tgt := 589) (by first | assumption | exact bI_in _ | exact ⟨by omega, by omega⟩ | exact iAnd_in | exact iOr_in | exact iShr_in | exact iShl_in | exact iXor_in | exact hxs _) dL_law_33 (by omega) (by omega) (by rw [c2x]; rfl) (by decide) ?_
        refine wp_aload_n rfl rfl dL_law_589 ?_
        refine wp_aload_n rfl rfl dL_law_590 ?_
        refine wp_iload_n rfl rfl dL_law_591 ?_
        refine wp_iconst dL_law_592 ?_
        refine wp_iadd dL_law_593 ?_
        refine wp_ialoadR rfl (by first | assumption | decide) (by first | omega | (simp (disch := omega) only [up2_ne, up2_eq, st_1_m1 hS, st_200_m1 hS]; first | done | omega)) (by first | omega | (simp only []; omega)) dL_law_594 ?_
        refine wp_aload_n rfl rfl dL_law_595 ?_
        refine wp_iload_n rfl rfl dL_law_596 ?_
        refine wp_iconst dL_law_597 ?_
        refine wp_iadd dL_law_598 ?_
        refine wp_ialoadR rfl (by first | assumption | decide) (by first | omega | (simp (disch := omega) only [up2_ne, up2_eq, st_1_m1 hS, st_200_m1 hS]; first | done | omega)) (by first | omega | (simp only []; omega)) dL_law_599 ?_
        refine wp_aload_n rfl rfl dL_law_600 ?_
        refine wp_iload_n rfl rfl dL_law_601 ?_
        refine wp_iconst dL_law_602 ?_
        refine wp_iadd dL_law_603 ?_
        refine wp_ialoadR rfl (by first | assumption | decide) (by first | omega | (simp (disch := omega) only [up2_ne, up2_eq, st_1_m1 hS, st_200_m1 hS]; first | done | omega)) (by first | omega | (simp only []; omega)) dL_law_604 ?_
        refine wp_cV3r (ci := 11) okX11_says rfl rfl wL_66 dL_law_605 (Nat.le_of_ble_eq_true rfl) (Nat.le_of_ble_eq_true rfl) (by first | omega | (simp (disch := omega) only [up2_ne, up2_eq, st_1_m1 hS, st_200_m1 hS]; first | done | omega)) (by first | assumption | (simp (disch := omega) only [up2_ne, up2_eq, st_1_m1 hS, st_200_m1 hS]; first | done | rfl | omega)) (p_says j h (by omega) hI _ _ _ (hxs _) (hxs _) (hxs _)) (by omega) ?_
        rintro _ h1 ⟨v, rfl, hv, hR⟩ hk
        have z1 : h1 200 (-1) = 13 := by rw [hk 200 (by rw [st_200_m1 hS]; decide), st_200_m1 hS]
        refine wp_aload_n rfl rfl dL_law_608 ?_
        refine wp_aload_n rfl rfl dL_law_609 ?_
        refine wp_iload_n rfl rfl dL_law_610 ?_
        refine wp_iconst dL_law_611 ?_
        refine wp_iadd dL_law_612 ?_
        refine wp_ialoadR rfl (by first | assumption | decide) (by first | omega | (simp (disch := omega) only [up2_ne, up2_eq, st_1_m1 hS, st_200_m1 hS]; first | done | omega)) (by first | omega | (simp only []; omega)) dL_law_613 ?_
        refine wp_aload_n rfl rfl dL_law_614 ?_
        refine wp_iload_n rfl rfl dL_law_615 ?_
        refine wp_iconst dL_law_616 ?_
        refine wp_iadd dL_law_617 ?_
        refine wp_ialoadR rfl (by first | assumption | decide) (by first | omega | (simp (disch := omega) only [up2_ne, up2_eq, st_1_m1 hS, st_200_m1 hS]; first | done | omega)) (by first | omega | (simp only []; omega)) dL_law_618 ?_
        refine wp_aload_n rfl rfl dL_law_619 ?_
        refine wp_iload_n rfl rfl dL_law_620 ?_
        refine wp_iconst dL_law_621 ?_
        refine wp_iadd dL_law_622 ?_
        refine wp_ialoadR rfl (by first | assumption | decide) (by first | omega | (simp (disch := omega) only [up2_ne, up2_eq, st_1_m1 hS, st_200_m1 hS]; first | done | omega)) (by first | omega | (simp only []; omega)) dL_law_623 ?_
        refine wp_cV3r (ci := 12) okX12_says rfl rfl wL_70 dL_law_624 (Nat.le_of_ble_eq_true rfl) (Nat.le_of_ble_eq_true rfl) (by first | omega | (simp (disch := omega) only [up2_ne, up2_eq, st_1_m1 hS, st_200_m1 hS]; first | done | omega)) (by first | assumption | (simp (disch := omega) only [up2_ne, up2_eq, st_1_m1 hS, st_200_m1 hS]; first | done | rfl | omega)) (hR) (by omega) ?_
        rintro _ h2 ⟨rfl, hI2⟩ _
        refine wp_lcif_eq (tgt := 1185) (by first | assumption | exact ⟨by omega, by omega⟩) (by first | assumption | exact ⟨by omega, by omega⟩) dL_law_627 dL_law_628 (by decide) (fun c14 => ?_) (fun c14 => ?_)
        · refine wp_iinc rfl rfl dL_law_1185 rfl rfl ?_
          try simp only [List.set_cons_zero, List.set_cons_succ]
          refine wp_goto (tgt := 18) dL_law_1188 (by decide) ?_
          have hi := ih (by omega) _ (by first | exact hI2 | exact hUp _ _ hI)
          rw [show 7 * (((j : Nat) + 1 : Nat) : Int) = 7 * (j : Int) + 7 from by omega] at hi
          exact WP.bud (by omega) hi
        · refine wp_iconst dL_law_631 ?_
          refine wp_zret (by first | exact Or.inl rfl | exact Or.inr rfl | omega) dL_law_632 rfl ?_
          first | rfl | (exfalso; omega)
      · refine wp_tabIn (off := 600) (tgt := 633) (by first | assumption | exact bI_in _ | exact ⟨by omega, by omega⟩ | exact iAnd_in | exact iOr_in | exact iShr_in | exact iShl_in | exact iXor_in | exact hxs _) dL_law_33 (by omega) (by omega) (by rw [c2x]; rfl) (by decide) ?_
        refine wp_aload_n rfl rfl dL_law_633 ?_
        refine wp_aload_n rfl rfl dL_law_634 ?_
        refine wp_iload_n rfl rfl dL_law_635 ?_
        refine wp_iconst dL_law_636 ?_
        refine wp_iadd dL_law_637 ?_
        refine wp_ialoadR rfl (by first | assumption | decide) (by first | omega | (simp (disch := omega) only [up2_ne, up2_eq, st_1_m1 hS, st_200_m1 hS]; first | done | omega)) (by first | omega | (simp only []; omega)) dL_law_638 ?_
        refine wp_aload_n rfl rfl dL_law_639 ?_
        refine wp_iload_n rfl rfl dL_law_640 ?_
        refine wp_iconst dL_law_641 ?_
        refine wp_iadd dL_law_642 ?_
        refine wp_ialoadR rfl (by first | assumption | decide) (by first | omega | (simp (disch := omega) only [up2_ne, up2_eq, st_1_m1 hS, st_200_m1 hS]; first | done | omega)) (by first | omega | (simp only []; omega)) dL_law_643 ?_
        refine wp_cV2r (ci := 11) okX11_bar rfl rfl wL_71 dL_law_644 (Nat.le_of_ble_eq_true rfl) (Nat.le_of_ble_eq_true rfl) (by first | omega | (simp (disch := omega) only [up2_ne, up2_eq, st_1_m1 hS, st_200_m1 hS]; first | done | omega)) (by first | assumption | (simp (disch := omega) only [up2_ne, up2_eq, st_1_m1 hS, st_200_m1 hS]; first | done | rfl | omega)) (p_bar j h (by omega) hI _ _ (hxs _) (hxs _)) (by omega) ?_
        rintro _ h1 ⟨v, rfl, hv, hR⟩ hk
        have z1 : h1 200 (-1) = 13 := by rw [hk 200 (by rw [st_200_m1 hS]; decide), st_200_m1 hS]
        refine wp_aload_n rfl rfl dL_law_647 ?_
        refine wp_aload_n rfl rfl dL_law_648 ?_
        refine wp_iload_n rfl rfl dL_law_649 ?_
        refine wp_iconst dL_law_650 ?_
        refine wp_iadd dL_law_651 ?_
        refine wp_ialoadR rfl (by first | assumption | decide) (by first | omega | (simp (disch := omega) only [up2_ne, up2_eq, st_1_m1 hS, st_200_m1 hS]; first | done | omega)) (by first | omega | (simp only []; omega)) dL_law_652 ?_
        refine wp_aload_n rfl rfl dL_law_653 ?_
        refine wp_iload_n rfl rfl dL_law_654 ?_
        refine wp_iconst dL_law_655 ?_
        refine wp_iadd dL_law_656 ?_
        refine wp_ialoadR rfl (by first | assumption | decide) (by first | omega | (simp (disch := omega) only [up2_ne, up2_eq, st_1_m1 hS, st_200_m1 hS]; first | done | omega)) (by first | omega | (simp only []; omega)) dL_law_657 ?_
        refine wp_cV2r (ci := 12) okX12_bar rfl rfl wL_74 dL_law_658 (Nat.le_of_ble_eq_true rfl) (Nat.le_of_ble_eq_true rfl) (by first | omega | (simp (disch := omega) only [up2_ne, up2_eq, st_1_m1 hS, st_200_m1 hS]; first | done | omega)) (by first | assumption | (simp (disch := omega) only [up2_ne, up2_eq, st_1_m1 hS, st_200_m1 hS]; first | done | rfl | omega)) (hR) (by omega) ?_
        rintro _ h2 ⟨rfl, hI2⟩ _
        refine wp_icmp_eq (tgt := 1185) (by first | assumption | exact bI_in _ | exact ⟨by omega, by omega⟩ | exact iAnd_in | exact iOr_in | exact iShr_in | exact iShl_in | exact iXor_in | exact hxs _) (by first | assumption | exact bI_in _ | exact ⟨by omega, by omega⟩ | exact iAnd_in | exact iOr_in | exact iShr_in | exact iShl_in | exact iXor_in | exact hxs _) dL_law_661 (by decide) (fun c15 => ?_) (fun c15 => ?_)
        · refine wp_iinc rfl rfl dL_law_1185 rfl rfl ?_
          try simp only [List.set_cons_zero, List.set_cons_succ]
          refine wp_goto (tgt := 18) dL_law_1188 (by decide) ?_
          have hi := ih (by omega) _ (by first | exact hI2 | exact hUp _ _ hI)
          rw [show 7 * (((j : Nat) + 1 : Nat) : Int) = 7 * (j : Int) + 7 from by omega] at hi
          exact WP.bud (by omega) hi
        · refine wp_iconst dL_law_664 ?_
          refine wp_zret (by first | exact Or.inl rfl | exact Or.inr rfl | omega) dL_law_665 rfl ?_
          first | rfl | (exfalso; omega)
      · refine wp_tabIn (off := 633) (tgt := 666) (by first | assumption | exact bI_in _ | exact ⟨by omega, by omega⟩ | exact iAnd_in | exact iOr_in | exact iShr_in | exact iShl_in | exact iXor_in | exact hxs _) dL_law_33 (by omega) (by omega) (by rw [c2x]; rfl) (by decide) ?_
        refine wp_aload_n rfl rfl dL_law_666 ?_
        refine wp_aload_n rfl rfl dL_law_667 ?_
        refine wp_iload_n rfl rfl dL_law_668 ?_
        refine wp_iconst dL_law_669 ?_
        refine wp_iadd dL_law_670 ?_
        refine wp_ialoadR rfl (by first | assumption | decide) (by first | omega | (simp (disch := omega) only [up2_ne, up2_eq, st_1_m1 hS, st_200_m1 hS]; first | done | omega)) (by first | omega | (simp only []; omega)) dL_law_671 ?_
        refine wp_aload_n rfl rfl dL_law_672 ?_
        refine wp_iload_n rfl rfl dL_law_673 ?_
        refine wp_iconst dL_law_674 ?_
        refine wp_iadd dL_law_675 ?_
        refine wp_ialoadR rfl (by first | assumption | decide) (by first | omega | (simp (disch := omega) only [up2_ne, up2_eq, st_1_m1 hS, st_200_m1 hS]; first | done | omega)) (by first | omega | (simp only []; omega)) dL_law_676 ?_
        refine wp_cV2r (ci := 11) okX11_barred rfl rfl wL_75 dL_law_677 (Nat.le_of_ble_eq_true rfl) (Nat.le_of_ble_eq_true rfl) (by first | omega | (simp (disch := omega) only [up2_ne, up2_eq, st_1_m1 hS, st_200_m1 hS]; first | done | omega)) (by first | assumption | (simp (disch := omega) only [up2_ne, up2_eq, st_1_m1 hS, st_200_m1 hS]; first | done | rfl | omega)) (p_barred j h (by omega) hI _ _ (hxs _) (hxs _)) (by omega) ?_
        rintro _ h1 ⟨v, rfl, hv, hR⟩ hk
        have z1 : h1 200 (-1) = 13 := by rw [hk 200 (by rw [st_200_m1 hS]; decide), st_200_m1 hS]
        refine wp_aload_n rfl rfl dL_law_680 ?_
        refine wp_aload_n rfl rfl dL_law_681 ?_
        refine wp_iload_n rfl rfl dL_law_682 ?_
        refine wp_iconst dL_law_683 ?_
        refine wp_iadd dL_law_684 ?_
        refine wp_ialoadR rfl (by first | assumption | decide) (by first | omega | (simp (disch := omega) only [up2_ne, up2_eq, st_1_m1 hS, st_200_m1 hS]; first | done | omega)) (by first | omega | (simp only []; omega)) dL_law_685 ?_
        refine wp_aload_n rfl rfl dL_law_686 ?_
        refine wp_iload_n rfl rfl dL_law_687 ?_
        refine wp_iconst dL_law_688 ?_
        refine wp_iadd dL_law_689 ?_
        refine wp_ialoadR rfl (by first | assumption | decide) (by first | omega | (simp (disch := omega) only [up2_ne, up2_eq, st_1_m1 hS, st_200_m1 hS]; first | done | omega)) (by first | omega | (simp only []; omega)) dL_law_690 ?_
        refine wp_cV2r (ci := 12) okX12_barred rfl rfl wL_78 dL_law_691 (Nat.le_of_ble_eq_true rfl) (Nat.le_of_ble_eq_true rfl) (by first | omega | (simp (disch := omega) only [up2_ne, up2_eq, st_1_m1 hS, st_200_m1 hS]; first | done | omega)) (by first | assumption | (simp (disch := omega) only [up2_ne, up2_eq, st_1_m1 hS, st_200_m1 hS]; first | done | rfl | omega)) (hR) (by omega) ?_
        rintro _ h2 ⟨rfl, hI2⟩ _
        refine wp_icmp_eq (tgt := 1185) (by first | assumption | exact bI_in _ | exact ⟨by omega, by omega⟩ | exact iAnd_in | exact iOr_in | exact iShr_in | exact iShl_in | exact iXor_in | exact hxs _) (by first | assumption | exact bI_in _ | exact ⟨by omega, by omega⟩ | exact iAnd_in | exact iOr_in | exact iShr_in | exact iShl_in | exact iXor_in | exact hxs _) dL_law_694 (by decide) (fun c16 => ?_) (fun c16 => ?_)
        · refine wp_iinc rfl rfl dL_law_1185 rfl rfl ?_
          try simp only [List.set_cons_zero, List.set_cons_succ]
          refine wp_goto (tgt := 18) dL_law_1188 (by decide) ?_
          have hi := ih (by omega) _ (by first | exact hI2 | exact hUp _ _ hI)
          rw [show 7 * (((j : Nat) + 1 : Nat) : Int) = 7 * (j : Int) + 7 from by omega] at hi
          exact WP.bud (by omega) hi
        · refine wp_iconst dL_law_697 ?_
          refine wp_zret (by first | exact Or.inl rfl | exact Or.inr rfl | omega) dL_law_698 rfl ?_
          first | rfl | (exfalso; omega)
      · refine wp_tabIn (off := 666) (tgt := 699) (by first | assumption | exact bI_in _ | exact ⟨by omega, by omega⟩ | exact iAnd_in | exact iOr_in | exact iShr_in | exact iShl_in | exact iXor_in | exact hxs _) dL_law_33 (by omega) (by omega) (by rw [c2x]; rfl) (by decide) ?_
        refine wp_aload_n rfl rfl dL_law_699 ?_
        refine wp_cV0r (ci := 11) okX11_deal rfl rfl wL_79 dL_law_700 (Nat.le_of_ble_eq_true rfl) (Nat.le_of_ble_eq_true rfl) (by first | omega | (simp (disch := omega) only [up2_ne, up2_eq, st_1_m1 hS, st_200_m1 hS]; first | done | omega)) (by first | assumption | (simp (disch := omega) only [up2_ne, up2_eq, st_1_m1 hS, st_200_m1 hS]; first | done | rfl | omega)) (p_deal j h (by omega) hI) (by omega) ?_
        rintro _ h1 ⟨v, rfl, hv, hR⟩ hk
        have z1 : h1 200 (-1) = 13 := by rw [hk 200 (by rw [st_200_m1 hS]; decide), st_200_m1 hS]
        refine wp_aload_n rfl rfl dL_law_703 ?_
        refine wp_cV0r (ci := 12) okX12_deal rfl rfl wL_82 dL_law_704 (Nat.le_of_ble_eq_true rfl) (Nat.le_of_ble_eq_true rfl) (by first | omega | (simp (disch := omega) only [up2_ne, up2_eq, st_1_m1 hS, st_200_m1 hS]; first | done | omega)) (by first | assumption | (simp (disch := omega) only [up2_ne, up2_eq, st_1_m1 hS, st_200_m1 hS]; first | done | rfl | omega)) (hR) (by omega) ?_
        rintro _ h2 ⟨rfl, hI2⟩ _
        refine wp_icmp_eq (tgt := 1185) (by first | assumption | exact bI_in _ | exact ⟨by omega, by omega⟩ | exact iAnd_in | exact iOr_in | exact iShr_in | exact iShl_in | exact iXor_in | exact hxs _) (by first | assumption | exact bI_in _ | exact ⟨by omega, by omega⟩ | exact iAnd_in | exact iOr_in | exact iShr_in | exact iShl_in | exact iXor_in | exact hxs _) dL_law_707 (by decide) (fun c17 => ?_) (fun c17 => ?_)
        · refine wp_iinc rfl rfl dL_law_1185 rfl rfl ?_
          try simp only [List.set_cons_zero, List.set_cons_succ]
          refine wp_goto (tgt := 18) dL_law_1188 (by decide) ?_
          have hi := ih (by omega) _ (by first | exact hI2 | exact hUp _ _ hI)
          rw [show 7 * (((j : Nat) + 1 : Nat) : Int) = 7 * (j : Int) + 7 from by omega] at hi
          exact WP.bud (by omega) hi
        · refine wp_iconst dL_law_710 ?_
          refine wp_zret (by first | exact Or.inl rfl | exact Or.inr rfl | omega) dL_law_711 rfl ?_
          first | rfl | (exfalso; omega)
      · refine wp_tabIn (off := 679) (tgt := 712) (by first | assumption | exact bI_in _ | exact ⟨by omega, by omega⟩ | exact iAnd_in | exact iOr_in | exact iShr_in | exact iShl_in | exact iXor_in | exact hxs _) dL_law_33 (by omega) (by omega) (by rw [c2x]; rfl) (by decide) ?_
        refine wp_aload_n rfl rfl dL_law_712 ?_
        refine wp_cV0r (ci := 11) okX11_places rfl rfl wL_83 dL_law_713 (Nat.le_of_ble_eq_true rfl) (Nat.le_of_ble_eq_true rfl) (by first | omega | (simp (disch := omega) only [up2_ne, up2_eq, st_1_m1 hS, st_200_m1 hS]; first | done | omega)) (by first | assumption | (simp (disch := omega) only [up2_ne, up2_eq, st_1_m1 hS, st_200_m1 hS]; first | done | rfl | omega)) (p_places j h (by omega) hI) (by omega) ?_
        rintro _ h1 ⟨v, rfl, hv, hR⟩ hk
        have z1 : h1 200 (-1) = 13 := by rw [hk 200 (by rw [st_200_m1 hS]; decide), st_200_m1 hS]
        refine wp_aload_n rfl rfl dL_law_716 ?_
        refine wp_cV0r (ci := 12) okX12_places rfl rfl wL_86 dL_law_717 (Nat.le_of_ble_eq_true rfl) (Nat.le_of_ble_eq_true rfl) (by first | omega | (simp (disch := omega) only [up2_ne, up2_eq, st_1_m1 hS, st_200_m1 hS]; first | done | omega)) (by first | assumption | (simp (disch := omega) only [up2_ne, up2_eq, st_1_m1 hS, st_200_m1 hS]; first | done | rfl | omega)) (hR) (by omega) ?_
        rintro _ h2 ⟨rfl, hI2⟩ _
        refine wp_icmp_eq (tgt := 1185) (by first | assumption | exact bI_in _ | exact ⟨by omega, by omega⟩ | exact iAnd_in | exact iOr_in | exact iShr_in | exact iShl_in | exact iXor_in | exact hxs _) (by first | assumption | exact bI_in _ | exact ⟨by omega, by omega⟩ | exact iAnd_in | exact iOr_in | exact iShr_in | exact iShl_in | exact iXor_in | exact hxs _) dL_law_720 (by decide) (fun c18 => ?_) (fun c18 => ?_)
        · refine wp_iinc rfl rfl dL_law_1185 rfl rfl ?_
          try simp only [List.set_cons_zero, List.set_cons_succ]
          refine wp_goto (tgt := 18) dL_law_1188 (by decide) ?_
          have hi := ih (by omega) _ (by first | exact hI2 | exact hUp _ _ hI)
          rw [show 7 * (((j : Nat) + 1 : Nat) : Int) = 7 * (j : Int) + 7 from by omega] at hi
          exact WP.bud (by omega) hi
        · refine wp_iconst dL_law_723 ?_
          refine wp_zret (by first | exact Or.inl rfl | exact Or.inr rfl | omega) dL_law_724 rfl ?_
          first | rfl | (exfalso; omega)
      · refine wp_tabIn (off := 692) (tgt := 725) (by first | assumption | exact bI_in _ | exact ⟨by omega, by omega⟩ | exact iAnd_in | exact iOr_in | exact iShr_in | exact iShl_in | exact iXor_in | exact hxs _) dL_law_33 (by omega) (by omega) (by rw [c2x]; rfl) (by decide) ?_
        refine wp_aload_n rfl rfl dL_law_725 ?_
        refine wp_aload_n rfl rfl dL_law_726 ?_
        refine wp_iload_n rfl rfl dL_law_727 ?_
        refine wp_iconst dL_law_728 ?_
        refine wp_iadd dL_law_729 ?_
        refine wp_ialoadR rfl (by first | assumption | decide) (by first | omega | (simp (disch := omega) only [up2_ne, up2_eq, st_1_m1 hS, st_200_m1 hS]; first | done | omega)) (by first | omega | (simp only []; omega)) dL_law_730 ?_
        refine wp_aload_n rfl rfl dL_law_731 ?_
        refine wp_iload_n rfl rfl dL_law_732 ?_
        refine wp_iconst dL_law_733 ?_
        refine wp_iadd dL_law_734 ?_
        refine wp_ialoadR rfl (by first | assumption | decide) (by first | omega | (simp (disch := omega) only [up2_ne, up2_eq, st_1_m1 hS, st_200_m1 hS]; first | done | omega)) (by first | omega | (simp only []; omega)) dL_law_735 ?_
        refine wp_aload_n rfl rfl dL_law_736 ?_
        refine wp_iload_n rfl rfl dL_law_737 ?_
        refine wp_iconst dL_law_738 ?_
        refine wp_iadd dL_law_739 ?_
        refine wp_ialoadR rfl (by first | assumption | decide) (by first | omega | (simp (disch := omega) only [up2_ne, up2_eq, st_1_m1 hS, st_200_m1 hS]; first | done | omega)) (by first | omega | (simp only []; omega)) dL_law_740 ?_
        refine wp_cV3r (ci := 11) okX11_mark rfl rfl wL_87 dL_law_741 (Nat.le_of_ble_eq_true rfl) (Nat.le_of_ble_eq_true rfl) (by first | omega | (simp (disch := omega) only [up2_ne, up2_eq, st_1_m1 hS, st_200_m1 hS]; first | done | omega)) (by first | assumption | (simp (disch := omega) only [up2_ne, up2_eq, st_1_m1 hS, st_200_m1 hS]; first | done | rfl | omega)) (p_mark j h (by omega) hI _ _ _ (hxs _) (hxs _) (hxs _)) (by omega) ?_
        rintro _ h1 ⟨v, rfl, hv, hR⟩ hk
        have z1 : h1 200 (-1) = 13 := by rw [hk 200 (by rw [st_200_m1 hS]; decide), st_200_m1 hS]
        refine wp_aload_n rfl rfl dL_law_744 ?_
        refine wp_aload_n rfl rfl dL_law_745 ?_
        refine wp_iload_n rfl rfl dL_law_746 ?_
        refine wp_iconst dL_law_747 ?_
        refine wp_iadd dL_law_748 ?_
        refine wp_ialoadR rfl (by first | assumption | decide) (by first | omega | (simp (disch := omega) only [up2_ne, up2_eq, st_1_m1 hS, st_200_m1 hS]; first | done | omega)) (by first | omega | (simp only []; omega)) dL_law_749 ?_
        refine wp_aload_n rfl rfl dL_law_750 ?_
        refine wp_iload_n rfl rfl dL_law_751 ?_
        refine wp_iconst dL_law_752 ?_
        refine wp_iadd dL_law_753 ?_
        refine wp_ialoadR rfl (by first | assumption | decide) (by first | omega | (simp (disch := omega) only [up2_ne, up2_eq, st_1_m1 hS, st_200_m1 hS]; first | done | omega)) (by first | omega | (simp only []; omega)) dL_law_754 ?_
        refine wp_aload_n rfl rfl dL_law_755 ?_
        refine wp_iload_n rfl rfl dL_law_756 ?_
        refine wp_iconst dL_law_757 ?_
        refine wp_iadd dL_law_758 ?_
        refine wp_ialoadR rfl (by first | assumption | decide) (by first | omega | (simp (disch := omega) only [up2_ne, up2_eq, st_1_m1 hS, st_200_m1 hS]; first | done | omega)) (by first | omega | (simp only []; omega)) dL_law_759 ?_
        refine wp_cV3r (ci := 12) okX12_mark rfl rfl wL_90 dL_law_760 (Nat.le_of_ble_eq_true rfl) (Nat.le_of_ble_eq_true rfl) (by first | omega | (simp (disch := omega) only [up2_ne, up2_eq, st_1_m1 hS, st_200_m1 hS]; first | done | omega)) (by first | assumption | (simp (disch := omega) only [up2_ne, up2_eq, st_1_m1 hS, st_200_m1 hS]; first | done | rfl | omega)) (hR) (by omega) ?_
        rintro _ h2 ⟨rfl, hI2⟩ _
        refine wp_icmp_eq (tgt := 1185) (by first | assumption | exact bI_in _ | exact ⟨by omega, by omega⟩ | exact iAnd_in | exact iOr_in | exact iShr_in | exact iShl_in | exact iXor_in | exact hxs _) (by first | assumption | exact bI_in _ | exact ⟨by omega, by omega⟩ | exact iAnd_in | exact iOr_in | exact iShr_in | exact iShl_in | exact iXor_in | exact hxs _) dL_law_763 (by decide) (fun c19 => ?_) (fun c19 => ?_)
        · refine wp_iinc rfl rfl dL_law_1185 rfl rfl ?_
          try simp only [List.set_cons_zero, List.set_cons_succ]
          refine wp_goto (tgt := 18) dL_law_1188 (by decide) ?_
          have hi := ih (by omega) _ (by first | exact hI2 | exact hUp _ _ hI)
          rw [show 7 * (((j : Nat) + 1 : Nat) : Int) = 7 * (j : Int) + 7 from by omega] at hi
          exact WP.bud (by omega) hi
        · refine wp_iconst dL_law_766 ?_
          refine wp_zret (by first | exact Or.inl rfl | exact Or.inr rfl | omega) dL_law_767 rfl ?_
          first | rfl | (exfalso; omega)
      · refine wp_tabIn (off := 735) (tgt := 768) (by first | assumption | exact bI_in _ | exact ⟨by omega, by omega⟩ | exact iAnd_in | exact iOr_in | exact iShr_in | exact iShl_in | exact iXor_in | exact hxs _) dL_law_33 (by omega) (by omega) (by rw [c2x]; rfl) (by decide) ?_
        refine wp_aload_n rfl rfl dL_law_768 ?_
        refine wp_aload_n rfl rfl dL_law_769 ?_
        refine wp_iload_n rfl rfl dL_law_770 ?_
        refine wp_iconst dL_law_771 ?_
        refine wp_iadd dL_law_772 ?_
        refine wp_ialoadR rfl (by first | assumption | decide) (by first | omega | (simp (disch := omega) only [up2_ne, up2_eq, st_1_m1 hS, st_200_m1 hS]; first | done | omega)) (by first | omega | (simp only []; omega)) dL_law_773 ?_
        refine wp_aload_n rfl rfl dL_law_774 ?_
        refine wp_iload_n rfl rfl dL_law_775 ?_
        refine wp_iconst dL_law_776 ?_
        refine wp_iadd dL_law_777 ?_
        refine wp_ialoadR rfl (by first | assumption | decide) (by first | omega | (simp (disch := omega) only [up2_ne, up2_eq, st_1_m1 hS, st_200_m1 hS]; first | done | omega)) (by first | omega | (simp only []; omega)) dL_law_778 ?_
        refine wp_cV2r (ci := 11) okX11_worth rfl rfl wL_91 dL_law_779 (Nat.le_of_ble_eq_true rfl) (Nat.le_of_ble_eq_true rfl) (by first | omega | (simp (disch := omega) only [up2_ne, up2_eq, st_1_m1 hS, st_200_m1 hS]; first | done | omega)) (by first | assumption | (simp (disch := omega) only [up2_ne, up2_eq, st_1_m1 hS, st_200_m1 hS]; first | done | rfl | omega)) (p_worth j h (by omega) hI _ _ (hxs _) (hxs _)) (by omega) ?_
        rintro _ h1 ⟨v, rfl, hv, hR⟩ hk
        have z1 : h1 200 (-1) = 13 := by rw [hk 200 (by rw [st_200_m1 hS]; decide), st_200_m1 hS]
        refine wp_aload_n rfl rfl dL_law_782 ?_
        refine wp_aload_n rfl rfl dL_law_783 ?_
        refine wp_iload_n rfl rfl dL_law_784 ?_
        refine wp_iconst dL_law_785 ?_
        refine wp_iadd dL_law_786 ?_
        refine wp_ialoadR rfl (by first | assumption | decide) (by first | omega | (simp (disch := omega) only [up2_ne, up2_eq, st_1_m1 hS, st_200_m1 hS]; first | done | omega)) (by first | omega | (simp only []; omega)) dL_law_787 ?_
        refine wp_aload_n rfl rfl dL_law_788 ?_
        refine wp_iload_n rfl rfl dL_law_789 ?_
        refine wp_iconst dL_law_790 ?_
        refine wp_iadd dL_law_791 ?_
        refine wp_ialoadR rfl (by first | assumption | decide) (by first | omega | (simp (disch := omega) only [up2_ne, up2_eq, st_1_m1 hS, st_200_m1 hS]; first | done | omega)) (by first | omega | (simp only []; omega)) dL_law_792 ?_
        refine wp_cV2r (ci := 12) okX12_worth rfl rfl wL_95 dL_law_793 (Nat.le_of_ble_eq_true rfl) (Nat.le_of_ble_eq_true rfl) (by first | omega | (simp (disch := omega) only [up2_ne, up2_eq, st_1_m1 hS, st_200_m1 hS]; first | done | omega)) (by first | assumption | (simp (disch := omega) only [up2_ne, up2_eq, st_1_m1 hS, st_200_m1 hS]; first | done | rfl | omega)) (hR) (by omega) ?_
        rintro _ h2 ⟨rfl, hI2⟩ _
        refine wp_lcif_eq (tgt := 1185) (by first | assumption | exact ⟨by omega, by omega⟩) (by first | assumption | exact ⟨by omega, by omega⟩) dL_law_796 dL_law_797 (by decide) (fun c20 => ?_) (fun c20 => ?_)
        · refine wp_iinc rfl rfl dL_law_1185 rfl rfl ?_
          try simp only [List.set_cons_zero, List.set_cons_succ]
          refine wp_goto (tgt := 18) dL_law_1188 (by decide) ?_
          have hi := ih (by omega) _ (by first | exact hI2 | exact hUp _ _ hI)
          rw [show 7 * (((j : Nat) + 1 : Nat) : Int) = 7 * (j : Int) + 7 from by omega] at hi
          exact WP.bud (by omega) hi
        · refine wp_iconst dL_law_800 ?_
          refine wp_zret (by first | exact Or.inl rfl | exact Or.inr rfl | omega) dL_law_801 rfl ?_
          first | rfl | (exfalso; omega)
      · refine wp_tabIn (off := 769) (tgt := 802) (by first | assumption | exact bI_in _ | exact ⟨by omega, by omega⟩ | exact iAnd_in | exact iOr_in | exact iShr_in | exact iShl_in | exact iXor_in | exact hxs _) dL_law_33 (by omega) (by omega) (by rw [c2x]; rfl) (by decide) ?_
        refine wp_aload_n rfl rfl dL_law_802 ?_
        refine wp_aload_n rfl rfl dL_law_803 ?_
        refine wp_iload_n rfl rfl dL_law_804 ?_
        refine wp_iconst dL_law_805 ?_
        refine wp_iadd dL_law_806 ?_
        refine wp_ialoadR rfl (by first | assumption | decide) (by first | omega | (simp (disch := omega) only [up2_ne, up2_eq, st_1_m1 hS, st_200_m1 hS]; first | done | omega)) (by first | omega | (simp only []; omega)) dL_law_807 ?_
        refine wp_aload_n rfl rfl dL_law_808 ?_
        refine wp_iload_n rfl rfl dL_law_809 ?_
        refine wp_iconst dL_law_810 ?_
        refine wp_iadd dL_law_811 ?_
        refine wp_ialoadR rfl (by first | assumption | decide) (by first | omega | (simp (disch := omega) only [up2_ne, up2_eq, st_1_m1 hS, st_200_m1 hS]; first | done | omega)) (by first | omega | (simp only []; omega)) dL_law_812 ?_
        refine wp_cV2r (ci := 11) okX11_fit rfl rfl wL_96 dL_law_813 (Nat.le_of_ble_eq_true rfl) (Nat.le_of_ble_eq_true rfl) (by first | omega | (simp (disch := omega) only [up2_ne, up2_eq, st_1_m1 hS, st_200_m1 hS]; first | done | omega)) (by first | assumption | (simp (disch := omega) only [up2_ne, up2_eq, st_1_m1 hS, st_200_m1 hS]; first | done | rfl | omega)) (p_fit j h (by omega) hI _ _ (hxs _) (hxs _)) (by omega) ?_
        rintro _ h1 ⟨v, rfl, hv, hR⟩ hk
        have z1 : h1 200 (-1) = 13 := by rw [hk 200 (by rw [st_200_m1 hS]; decide), st_200_m1 hS]
        refine wp_aload_n rfl rfl dL_law_816 ?_
        refine wp_aload_n rfl rfl dL_law_817 ?_
        refine wp_iload_n rfl rfl dL_law_818 ?_
        refine wp_iconst dL_law_819 ?_
        refine wp_iadd dL_law_820 ?_
        refine wp_ialoadR rfl (by first | assumption | decide) (by first | omega | (simp (disch := omega) only [up2_ne, up2_eq, st_1_m1 hS, st_200_m1 hS]; first | done | omega)) (by first | omega | (simp only []; omega)) dL_law_821 ?_
        refine wp_aload_n rfl rfl dL_law_822 ?_
        refine wp_iload_n rfl rfl dL_law_823 ?_
        refine wp_iconst dL_law_824 ?_
        refine wp_iadd dL_law_825 ?_
        refine wp_ialoadR rfl (by first | assumption | decide) (by first | omega | (simp (disch := omega) only [up2_ne, up2_eq, st_1_m1 hS, st_200_m1 hS]; first | done | omega)) (by first | omega | (simp only []; omega)) dL_law_826 ?_
        refine wp_cV2r (ci := 12) okX12_fit rfl rfl wL_99 dL_law_827 (Nat.le_of_ble_eq_true rfl) (Nat.le_of_ble_eq_true rfl) (by first | omega | (simp (disch := omega) only [up2_ne, up2_eq, st_1_m1 hS, st_200_m1 hS]; first | done | omega)) (by first | assumption | (simp (disch := omega) only [up2_ne, up2_eq, st_1_m1 hS, st_200_m1 hS]; first | done | rfl | omega)) (hR) (by omega) ?_
        rintro _ h2 ⟨rfl, hI2⟩ _
        refine wp_icmp_eq (tgt := 1185) (by first | assumption | exact bI_in _ | exact ⟨by omega, by omega⟩ | exact iAnd_in | exact iOr_in | exact iShr_in | exact iShl_in | exact iXor_in | exact hxs _) (by first | assumption | exact bI_in _ | exact ⟨by omega, by omega⟩ | exact iAnd_in | exact iOr_in | exact iShr_in | exact iShl_in | exact iXor_in | exact hxs _) dL_law_830 (by decide) (fun c21 => ?_) (fun c21 => ?_)
        · refine wp_iinc rfl rfl dL_law_1185 rfl rfl ?_
          try simp only [List.set_cons_zero, List.set_cons_succ]
          refine wp_goto (tgt := 18) dL_law_1188 (by decide) ?_
          have hi := ih (by omega) _ (by first | exact hI2 | exact hUp _ _ hI)
          rw [show 7 * (((j : Nat) + 1 : Nat) : Int) = 7 * (j : Int) + 7 from by omega] at hi
          exact WP.bud (by omega) hi
        · refine wp_iconst dL_law_833 ?_
          refine wp_zret (by first | exact Or.inl rfl | exact Or.inr rfl | omega) dL_law_834 rfl ?_
          first | rfl | (exfalso; omega)
      · refine wp_tabIn (off := 802) (tgt := 835) (by first | assumption | exact bI_in _ | exact ⟨by omega, by omega⟩ | exact iAnd_in | exact iOr_in | exact iShr_in | exact iShl_in | exact iXor_in | exact hxs _) dL_law_33 (by omega) (by omega) (by rw [c2x]; rfl) (by decide) ?_
        refine wp_aload_n rfl rfl dL_law_835 ?_
        refine wp_aload_n rfl rfl dL_law_836 ?_
        refine wp_iload_n rfl rfl dL_law_837 ?_
        refine wp_iconst dL_law_838 ?_
        refine wp_iadd dL_law_839 ?_
        refine wp_ialoadR rfl (by first | assumption | decide) (by first | omega | (simp (disch := omega) only [up2_ne, up2_eq, st_1_m1 hS, st_200_m1 hS]; first | done | omega)) (by first | omega | (simp only []; omega)) dL_law_840 ?_
        refine wp_cV1r (ci := 11) okX11_choose rfl rfl wL_100 dL_law_841 (Nat.le_of_ble_eq_true rfl) (Nat.le_of_ble_eq_true rfl) (by first | omega | (simp (disch := omega) only [up2_ne, up2_eq, st_1_m1 hS, st_200_m1 hS]; first | done | omega)) (by first | assumption | (simp (disch := omega) only [up2_ne, up2_eq, st_1_m1 hS, st_200_m1 hS]; first | done | rfl | omega)) (p_choose j h (by omega) hI _ (hxs _)) (by omega) ?_
        rintro _ h1 ⟨v, rfl, hv, hR⟩ hk
        have z1 : h1 200 (-1) = 13 := by rw [hk 200 (by rw [st_200_m1 hS]; decide), st_200_m1 hS]
        refine wp_aload_n rfl rfl dL_law_844 ?_
        refine wp_aload_n rfl rfl dL_law_845 ?_
        refine wp_iload_n rfl rfl dL_law_846 ?_
        refine wp_iconst dL_law_847 ?_
        refine wp_iadd dL_law_848 ?_
        refine wp_ialoadR rfl (by first | assumption | decide) (by first | omega | (simp (disch := omega) only [up2_ne, up2_eq, st_1_m1 hS, st_200_m1 hS]; first | done | omega)) (by first | omega | (simp only []; omega)) dL_law_849 ?_
        refine wp_cV1r (ci := 12) okX12_choose rfl rfl wL_103 dL_law_850 (Nat.le_of_ble_eq_true rfl) (Nat.le_of_ble_eq_true rfl) (by first | omega | (simp (disch := omega) only [up2_ne, up2_eq, st_1_m1 hS, st_200_m1 hS]; first | done | omega)) (by first | assumption | (simp (disch := omega) only [up2_ne, up2_eq, st_1_m1 hS, st_200_m1 hS]; first | done | rfl | omega)) (hR) (by omega) ?_
        rintro _ h2 ⟨rfl, hI2⟩ _
        refine wp_icmp_eq (tgt := 1185) (by first | assumption | exact bI_in _ | exact ⟨by omega, by omega⟩ | exact iAnd_in | exact iOr_in | exact iShr_in | exact iShl_in | exact iXor_in | exact hxs _) (by first | assumption | exact bI_in _ | exact ⟨by omega, by omega⟩ | exact iAnd_in | exact iOr_in | exact iShr_in | exact iShl_in | exact iXor_in | exact hxs _) dL_law_853 (by decide) (fun c22 => ?_) (fun c22 => ?_)
        · refine wp_iinc rfl rfl dL_law_1185 rfl rfl ?_
          try simp only [List.set_cons_zero, List.set_cons_succ]
          refine wp_goto (tgt := 18) dL_law_1188 (by decide) ?_
          have hi := ih (by omega) _ (by first | exact hI2 | exact hUp _ _ hI)
          rw [show 7 * (((j : Nat) + 1 : Nat) : Int) = 7 * (j : Int) + 7 from by omega] at hi
          exact WP.bud (by omega) hi
        · refine wp_iconst dL_law_856 ?_
          refine wp_zret (by first | exact Or.inl rfl | exact Or.inr rfl | omega) dL_law_857 rfl ?_
          first | rfl | (exfalso; omega)
      · refine wp_tabIn (off := 825) (tgt := 858) (by first | assumption | exact bI_in _ | exact ⟨by omega, by omega⟩ | exact iAnd_in | exact iOr_in | exact iShr_in | exact iShl_in | exact iXor_in | exact hxs _) dL_law_33 (by omega) (by omega) (by rw [c2x]; rfl) (by decide) ?_
        refine wp_aload_n rfl rfl dL_law_858 ?_
        refine wp_aload_n rfl rfl dL_law_859 ?_
        refine wp_iload_n rfl rfl dL_law_860 ?_
        refine wp_iconst dL_law_861 ?_
        refine wp_iadd dL_law_862 ?_
        refine wp_ialoadR rfl (by first | assumption | decide) (by first | omega | (simp (disch := omega) only [up2_ne, up2_eq, st_1_m1 hS, st_200_m1 hS]; first | done | omega)) (by first | omega | (simp only []; omega)) dL_law_863 ?_
        refine wp_aload_n rfl rfl dL_law_864 ?_
        refine wp_iload_n rfl rfl dL_law_865 ?_
        refine wp_iconst dL_law_866 ?_
        refine wp_iadd dL_law_867 ?_
        refine wp_ialoadR rfl (by first | assumption | decide) (by first | omega | (simp (disch := omega) only [up2_ne, up2_eq, st_1_m1 hS, st_200_m1 hS]; first | done | omega)) (by first | omega | (simp only []; omega)) dL_law_868 ?_
        refine wp_aload_n rfl rfl dL_law_869 ?_
        refine wp_iload_n rfl rfl dL_law_870 ?_
        refine wp_iconst dL_law_871 ?_
        refine wp_iadd dL_law_872 ?_
        refine wp_ialoadR rfl (by first | assumption | decide) (by first | omega | (simp (disch := omega) only [up2_ne, up2_eq, st_1_m1 hS, st_200_m1 hS]; first | done | omega)) (by first | omega | (simp only []; omega)) dL_law_873 ?_
        refine wp_aload_n rfl rfl dL_law_874 ?_
        refine wp_iload_n rfl rfl dL_law_875 ?_
        refine wp_iconst dL_law_876 ?_
        refine wp_iadd dL_law_877 ?_
        refine wp_ialoadR rfl (by first | assumption | decide) (by first | omega | (simp (disch := omega) only [up2_ne, up2_eq, st_1_m1 hS, st_200_m1 hS]; first | done | omega)) (by first | omega | (simp only []; omega)) dL_law_878 ?_
        refine wp_aload_n rfl rfl dL_law_879 ?_
        refine wp_iload_n rfl rfl dL_law_880 ?_
        refine wp_iconst dL_law_881 ?_
        refine wp_iadd dL_law_882 ?_
        refine wp_ialoadR rfl (by first | assumption | decide) (by first | omega | (simp (disch := omega) only [up2_ne, up2_eq, st_1_m1 hS, st_200_m1 hS]; first | done | omega)) (by first | omega | (simp only []; omega)) dL_law_883 ?_
        refine wp_cV5r (ci := 11) okX11_grant rfl rfl wL_104 dL_law_884 (Nat.le_of_ble_eq_true rfl) (Nat.le_of_ble_eq_true rfl) (by first | omega | (simp (disch := omega) only [up2_ne, up2_eq, st_1_m1 hS, st_200_m1 hS]; first | done | omega)) (by first | assumption | (simp (disch := omega) only [up2_ne, up2_eq, st_1_m1 hS, st_200_m1 hS]; first | done | rfl | omega)) (p_grant j h (by omega) hI _ _ _ _ _ (hxs _) (hxs _) (hxs _) (hxs _) (hxs _)) (by omega) ?_
        rintro _ h1 ⟨v, rfl, hv, hR⟩ hk
        have z1 : h1 200 (-1) = 13 := by rw [hk 200 (by rw [st_200_m1 hS]; decide), st_200_m1 hS]
        refine wp_aload_n rfl rfl dL_law_887 ?_
        refine wp_aload_n rfl rfl dL_law_888 ?_
        refine wp_iload_n rfl rfl dL_law_889 ?_
        refine wp_iconst dL_law_890 ?_
        refine wp_iadd dL_law_891 ?_
        refine wp_ialoadR rfl (by first | assumption | decide) (by first | omega | (simp (disch := omega) only [up2_ne, up2_eq, st_1_m1 hS, st_200_m1 hS]; first | done | omega)) (by first | omega | (simp only []; omega)) dL_law_892 ?_
        refine wp_aload_n rfl rfl dL_law_893 ?_
        refine wp_iload_n rfl rfl dL_law_894 ?_
        refine wp_iconst dL_law_895 ?_
        refine wp_iadd dL_law_896 ?_
        refine wp_ialoadR rfl (by first | assumption | decide) (by first | omega | (simp (disch := omega) only [up2_ne, up2_eq, st_1_m1 hS, st_200_m1 hS]; first | done | omega)) (by first | omega | (simp only []; omega)) dL_law_897 ?_
        refine wp_aload_n rfl rfl dL_law_898 ?_
        refine wp_iload_n rfl rfl dL_law_899 ?_
        refine wp_iconst dL_law_900 ?_
        refine wp_iadd dL_law_901 ?_
        refine wp_ialoadR rfl (by first | assumption | decide) (by first | omega | (simp (disch := omega) only [up2_ne, up2_eq, st_1_m1 hS, st_200_m1 hS]; first | done | omega)) (by first | omega | (simp only []; omega)) dL_law_902 ?_
        refine wp_aload_n rfl rfl dL_law_903 ?_
        refine wp_iload_n rfl rfl dL_law_904 ?_
        refine wp_iconst dL_law_905 ?_
        refine wp_iadd dL_law_906 ?_
        refine wp_ialoadR rfl (by first | assumption | decide) (by first | omega | (simp (disch := omega) only [up2_ne, up2_eq, st_1_m1 hS, st_200_m1 hS]; first | done | omega)) (by first | omega | (simp only []; omega)) dL_law_907 ?_
        refine wp_aload_n rfl rfl dL_law_908 ?_
        refine wp_iload_n rfl rfl dL_law_909 ?_
        refine wp_iconst dL_law_910 ?_
        refine wp_iadd dL_law_911 ?_
        refine wp_ialoadR rfl (by first | assumption | decide) (by first | omega | (simp (disch := omega) only [up2_ne, up2_eq, st_1_m1 hS, st_200_m1 hS]; first | done | omega)) (by first | omega | (simp only []; omega)) dL_law_912 ?_
        refine wp_cV5r (ci := 12) okX12_grant rfl rfl wL_108 dL_law_913 (Nat.le_of_ble_eq_true rfl) (Nat.le_of_ble_eq_true rfl) (by first | omega | (simp (disch := omega) only [up2_ne, up2_eq, st_1_m1 hS, st_200_m1 hS]; first | done | omega)) (by first | assumption | (simp (disch := omega) only [up2_ne, up2_eq, st_1_m1 hS, st_200_m1 hS]; first | done | rfl | omega)) (hR) (by omega) ?_
        rintro _ h2 ⟨rfl, hI2⟩ _
        refine wp_icmp_eq (tgt := 1185) (by first | assumption | exact bI_in _ | exact ⟨by omega, by omega⟩ | exact iAnd_in | exact iOr_in | exact iShr_in | exact iShl_in | exact iXor_in | exact hxs _) (by first | assumption | exact bI_in _ | exact ⟨by omega, by omega⟩ | exact iAnd_in | exact iOr_in | exact iShr_in | exact iShl_in | exact iXor_in | exact hxs _) dL_law_916 (by decide) (fun c23 => ?_) (fun c23 => ?_)
        · refine wp_iinc rfl rfl dL_law_1185 rfl rfl ?_
          try simp only [List.set_cons_zero, List.set_cons_succ]
          refine wp_goto (tgt := 18) dL_law_1188 (by decide) ?_
          have hi := ih (by omega) _ (by first | exact hI2 | exact hUp _ _ hI)
          rw [show 7 * (((j : Nat) + 1 : Nat) : Int) = 7 * (j : Int) + 7 from by omega] at hi
          exact WP.bud (by omega) hi
        · refine wp_iconst dL_law_919 ?_
          refine wp_zret (by first | exact Or.inl rfl | exact Or.inr rfl | omega) dL_law_920 rfl ?_
          first | rfl | (exfalso; omega)
      · refine wp_tabIn (off := 888) (tgt := 921) (by first | assumption | exact bI_in _ | exact ⟨by omega, by omega⟩ | exact iAnd_in | exact iOr_in | exact iShr_in | exact iShl_in | exact iXor_in | exact hxs _) dL_law_33 (by omega) (by omega) (by rw [c2x]; rfl) (by decide) ?_
        refine wp_aload_n rfl rfl dL_law_921 ?_
        refine wp_aload_n rfl rfl dL_law_922 ?_
        refine wp_iload_n rfl rfl dL_law_923 ?_
        refine wp_iconst dL_law_924 ?_
        refine wp_iadd dL_law_925 ?_
        refine wp_ialoadR rfl (by first | assumption | decide) (by first | omega | (simp (disch := omega) only [up2_ne, up2_eq, st_1_m1 hS, st_200_m1 hS]; first | done | omega)) (by first | omega | (simp only []; omega)) dL_law_926 ?_
        refine wp_aload_n rfl rfl dL_law_927 ?_
        refine wp_iload_n rfl rfl dL_law_928 ?_
        refine wp_iconst dL_law_929 ?_
        refine wp_iadd dL_law_930 ?_
        refine wp_ialoadR rfl (by first | assumption | decide) (by first | omega | (simp (disch := omega) only [up2_ne, up2_eq, st_1_m1 hS, st_200_m1 hS]; first | done | omega)) (by first | omega | (simp only []; omega)) dL_law_931 ?_
        refine wp_cV2r (ci := 11) okX11_proof rfl rfl wL_109 dL_law_932 (Nat.le_of_ble_eq_true rfl) (Nat.le_of_ble_eq_true rfl) (by first | omega | (simp (disch := omega) only [up2_ne, up2_eq, st_1_m1 hS, st_200_m1 hS]; first | done | omega)) (by first | assumption | (simp (disch := omega) only [up2_ne, up2_eq, st_1_m1 hS, st_200_m1 hS]; first | done | rfl | omega)) (p_proof j h (by omega) hI _ _ (hxs _) (hxs _)) (by omega) ?_
        rintro _ h1 ⟨v, rfl, hv, hR⟩ hk
        have z1 : h1 200 (-1) = 13 := by rw [hk 200 (by rw [st_200_m1 hS]; decide), st_200_m1 hS]
        refine wp_aload_n rfl rfl dL_law_935 ?_
        refine wp_aload_n rfl rfl dL_law_936 ?_
        refine wp_iload_n rfl rfl dL_law_937 ?_
        refine wp_iconst dL_law_938 ?_
        refine wp_iadd dL_law_939 ?_
        refine wp_ialoadR rfl (by first | assumption | decide) (by first | omega | (simp (disch := omega) only [up2_ne, up2_eq, st_1_m1 hS, st_200_m1 hS]; first | done | omega)) (by first | omega | (simp only []; omega)) dL_law_940 ?_
        refine wp_aload_n rfl rfl dL_law_941 ?_
        refine wp_iload_n rfl rfl dL_law_942 ?_
        refine wp_iconst dL_law_943 ?_
        refine wp_iadd dL_law_944 ?_
        refine wp_ialoadR rfl (by first | assumption | decide) (by first | omega | (simp (disch := omega) only [up2_ne, up2_eq, st_1_m1 hS, st_200_m1 hS]; first | done | omega)) (by first | omega | (simp only []; omega)) dL_law_945 ?_
        refine wp_cV2r (ci := 12) okX12_proof rfl rfl wL_112 dL_law_946 (Nat.le_of_ble_eq_true rfl) (Nat.le_of_ble_eq_true rfl) (by first | omega | (simp (disch := omega) only [up2_ne, up2_eq, st_1_m1 hS, st_200_m1 hS]; first | done | omega)) (by first | assumption | (simp (disch := omega) only [up2_ne, up2_eq, st_1_m1 hS, st_200_m1 hS]; first | done | rfl | omega)) (hR) (by omega) ?_
        rintro _ h2 ⟨rfl, hI2⟩ _
        refine wp_icmp_eq (tgt := 1185) (by first | assumption | exact bI_in _ | exact ⟨by omega, by omega⟩ | exact iAnd_in | exact iOr_in | exact iShr_in | exact iShl_in | exact iXor_in | exact hxs _) (by first | assumption | exact bI_in _ | exact ⟨by omega, by omega⟩ | exact iAnd_in | exact iOr_in | exact iShr_in | exact iShl_in | exact iXor_in | exact hxs _) dL_law_949 (by decide) (fun c24 => ?_) (fun c24 => ?_)
        · refine wp_iinc rfl rfl dL_law_1185 rfl rfl ?_
          try simp only [List.set_cons_zero, List.set_cons_succ]
          refine wp_goto (tgt := 18) dL_law_1188 (by decide) ?_
          have hi := ih (by omega) _ (by first | exact hI2 | exact hUp _ _ hI)
          rw [show 7 * (((j : Nat) + 1 : Nat) : Int) = 7 * (j : Int) + 7 from by omega] at hi
          exact WP.bud (by omega) hi
        · refine wp_iconst dL_law_952 ?_
          refine wp_zret (by first | exact Or.inl rfl | exact Or.inr rfl | omega) dL_law_953 rfl ?_
          first | rfl | (exfalso; omega)
      · refine wp_tabIn (off := 921) (tgt := 954) (by first | assumption | exact bI_in _ | exact ⟨by omega, by omega⟩ | exact iAnd_in | exact iOr_in | exact iShr_in | exact iShl_in | exact iXor_in | exact hxs _) dL_law_33 (by omega) (by omega) (by rw [c2x]; rfl) (by decide) ?_
        refine wp_aload_n rfl rfl dL_law_954 ?_
        refine wp_aload_n rfl rfl dL_law_955 ?_
        refine wp_iload_n rfl rfl dL_law_956 ?_
        refine wp_iconst dL_law_957 ?_
        refine wp_iadd dL_law_958 ?_
        refine wp_ialoadR rfl (by first | assumption | decide) (by first | omega | (simp (disch := omega) only [up2_ne, up2_eq, st_1_m1 hS, st_200_m1 hS]; first | done | omega)) (by first | omega | (simp only []; omega)) dL_law_959 ?_
        refine wp_aload_n rfl rfl dL_law_960 ?_
        refine wp_iload_n rfl rfl dL_law_961 ?_
        refine wp_iconst dL_law_962 ?_
        refine wp_iadd dL_law_963 ?_
        refine wp_ialoadR rfl (by first | assumption | decide) (by first | omega | (simp (disch := omega) only [up2_ne, up2_eq, st_1_m1 hS, st_200_m1 hS]; first | done | omega)) (by first | omega | (simp only []; omega)) dL_law_964 ?_
        refine wp_cV2r (ci := 11) okX11_due rfl rfl wL_113 dL_law_965 (Nat.le_of_ble_eq_true rfl) (Nat.le_of_ble_eq_true rfl) (by first | omega | (simp (disch := omega) only [up2_ne, up2_eq, st_1_m1 hS, st_200_m1 hS]; first | done | omega)) (by first | assumption | (simp (disch := omega) only [up2_ne, up2_eq, st_1_m1 hS, st_200_m1 hS]; first | done | rfl | omega)) (p_due j h (by omega) hI _ _ (hxs _) (hxs _)) (by omega) ?_
        rintro _ h1 ⟨v, rfl, hv, hR⟩ hk
        have z1 : h1 200 (-1) = 13 := by rw [hk 200 (by rw [st_200_m1 hS]; decide), st_200_m1 hS]
        refine wp_aload_n rfl rfl dL_law_968 ?_
        refine wp_aload_n rfl rfl dL_law_969 ?_
        refine wp_iload_n rfl rfl dL_law_970 ?_
        refine wp_iconst dL_law_971 ?_
        refine wp_iadd dL_law_972 ?_
        refine wp_ialoadR rfl (by first | assumption | decide) (by first | omega | (simp (disch := omega) only [up2_ne, up2_eq, st_1_m1 hS, st_200_m1 hS]; first | done | omega)) (by first | omega | (simp only []; omega)) dL_law_973 ?_
        refine wp_aload_n rfl rfl dL_law_974 ?_
        refine wp_iload_n rfl rfl dL_law_975 ?_
        refine wp_iconst dL_law_976 ?_
        refine wp_iadd dL_law_977 ?_
        refine wp_ialoadR rfl (by first | assumption | decide) (by first | omega | (simp (disch := omega) only [up2_ne, up2_eq, st_1_m1 hS, st_200_m1 hS]; first | done | omega)) (by first | omega | (simp only []; omega)) dL_law_978 ?_
        refine wp_cV2r (ci := 12) okX12_due rfl rfl wL_116 dL_law_979 (Nat.le_of_ble_eq_true rfl) (Nat.le_of_ble_eq_true rfl) (by first | omega | (simp (disch := omega) only [up2_ne, up2_eq, st_1_m1 hS, st_200_m1 hS]; first | done | omega)) (by first | assumption | (simp (disch := omega) only [up2_ne, up2_eq, st_1_m1 hS, st_200_m1 hS]; first | done | rfl | omega)) (hR) (by omega) ?_
        rintro _ h2 ⟨rfl, hI2⟩ _
        refine wp_icmp_eq (tgt := 1185) (by first | assumption | exact bI_in _ | exact ⟨by omega, by omega⟩ | exact iAnd_in | exact iOr_in | exact iShr_in | exact iShl_in | exact iXor_in | exact hxs _) (by first | assumption | exact bI_in _ | exact ⟨by omega, by omega⟩ | exact iAnd_in | exact iOr_in | exact iShr_in | exact iShl_in | exact iXor_in | exact hxs _) dL_law_982 (by decide) (fun c25 => ?_) (fun c25 => ?_)
        · refine wp_iinc rfl rfl dL_law_1185 rfl rfl ?_
          try simp only [List.set_cons_zero, List.set_cons_succ]
          refine wp_goto (tgt := 18) dL_law_1188 (by decide) ?_
          have hi := ih (by omega) _ (by first | exact hI2 | exact hUp _ _ hI)
          rw [show 7 * (((j : Nat) + 1 : Nat) : Int) = 7 * (j : Int) + 7 from by omega] at hi
          exact WP.bud (by omega) hi
        · refine wp_iconst dL_law_985 ?_
          refine wp_zret (by first | exact Or.inl rfl | exact Or.inr rfl | omega) dL_law_986 rfl ?_
          first | rfl | (exfalso; omega)
      · refine wp_tabIn (off := 954) (tgt := 987) (by first | assumption | exact bI_in _ | exact ⟨by omega, by omega⟩ | exact iAnd_in | exact iOr_in | exact iShr_in | exact iShl_in | exact iXor_in | exact hxs _) dL_law_33 (by omega) (by omega) (by rw [c2x]; rfl) (by decide) ?_
        refine wp_aload_n rfl rfl dL_law_987 ?_
        refine wp_aload_n rfl rfl dL_law_988 ?_
        refine wp_iload_n rfl rfl dL_law_989 ?_
        refine wp_iconst dL_law_990 ?_
        refine wp_iadd dL_law_991 ?_
        refine wp_ialoadR rfl (by first | assumption | decide) (by first | omega | (simp (disch := omega) only [up2_ne, up2_eq, st_1_m1 hS, st_200_m1 hS]; first | done | omega)) (by first | omega | (simp only []; omega)) dL_law_992 ?_
        refine wp_cV1r (ci := 11) okX11_stop rfl rfl wL_117 dL_law_993 (Nat.le_of_ble_eq_true rfl) (Nat.le_of_ble_eq_true rfl) (by first | omega | (simp (disch := omega) only [up2_ne, up2_eq, st_1_m1 hS, st_200_m1 hS]; first | done | omega)) (by first | assumption | (simp (disch := omega) only [up2_ne, up2_eq, st_1_m1 hS, st_200_m1 hS]; first | done | rfl | omega)) (p_stop j h (by omega) hI _ (hxs _)) (by omega) ?_
        rintro _ h1 ⟨v, rfl, hv, hR⟩ hk
        have z1 : h1 200 (-1) = 13 := by rw [hk 200 (by rw [st_200_m1 hS]; decide), st_200_m1 hS]
        refine wp_aload_n rfl rfl dL_law_996 ?_
        refine wp_aload_n rfl rfl dL_law_997 ?_
        refine wp_iload_n rfl rfl dL_law_998 ?_
        refine wp_iconst dL_law_999 ?_
        refine wp_iadd dL_law_1000 ?_
        refine wp_ialoadR rfl (by first | assumption | decide) (by first | omega | (simp (disch := omega) only [up2_ne, up2_eq, st_1_m1 hS, st_200_m1 hS]; first | done | omega)) (by first | omega | (simp only []; omega)) dL_law_1001 ?_
        refine wp_cV1r (ci := 12) okX12_stop rfl rfl wL_120 dL_law_1002 (Nat.le_of_ble_eq_true rfl) (Nat.le_of_ble_eq_true rfl) (by first | omega | (simp (disch := omega) only [up2_ne, up2_eq, st_1_m1 hS, st_200_m1 hS]; first | done | omega)) (by first | assumption | (simp (disch := omega) only [up2_ne, up2_eq, st_1_m1 hS, st_200_m1 hS]; first | done | rfl | omega)) (hR) (by omega) ?_
        rintro _ h2 ⟨rfl, hI2⟩ _
        refine wp_icmp_eq (tgt := 1185) (by first | assumption | exact bI_in _ | exact ⟨by omega, by omega⟩ | exact iAnd_in | exact iOr_in | exact iShr_in | exact iShl_in | exact iXor_in | exact hxs _) (by first | assumption | exact bI_in _ | exact ⟨by omega, by omega⟩ | exact iAnd_in | exact iOr_in | exact iShr_in | exact iShl_in | exact iXor_in | exact hxs _) dL_law_1005 (by decide) (fun c26 => ?_) (fun c26 => ?_)
        · refine wp_iinc rfl rfl dL_law_1185 rfl rfl ?_
          try simp only [List.set_cons_zero, List.set_cons_succ]
          refine wp_goto (tgt := 18) dL_law_1188 (by decide) ?_
          have hi := ih (by omega) _ (by first | exact hI2 | exact hUp _ _ hI)
          rw [show 7 * (((j : Nat) + 1 : Nat) : Int) = 7 * (j : Int) + 7 from by omega] at hi
          exact WP.bud (by omega) hi
        · refine wp_iconst dL_law_1008 ?_
          refine wp_zret (by first | exact Or.inl rfl | exact Or.inr rfl | omega) dL_law_1009 rfl ?_
          first | rfl | (exfalso; omega)
      · refine wp_tabIn (off := 977) (tgt := 1010) (by first | assumption | exact bI_in _ | exact ⟨by omega, by omega⟩ | exact iAnd_in | exact iOr_in | exact iShr_in | exact iShl_in | exact iXor_in | exact hxs _) dL_law_33 (by omega) (by omega) (by rw [c2x]; rfl) (by decide) ?_
        refine wp_aload_n rfl rfl dL_law_1010 ?_
        refine wp_aload_n rfl rfl dL_law_1011 ?_
        refine wp_iload_n rfl rfl dL_law_1012 ?_
        refine wp_iconst dL_law_1013 ?_
        refine wp_iadd dL_law_1014 ?_
        refine wp_ialoadR rfl (by first | assumption | decide) (by first | omega | (simp (disch := omega) only [up2_ne, up2_eq, st_1_m1 hS, st_200_m1 hS]; first | done | omega)) (by first | omega | (simp only []; omega)) dL_law_1015 ?_
        refine wp_aload_n rfl rfl dL_law_1016 ?_
        refine wp_iload_n rfl rfl dL_law_1017 ?_
        refine wp_iconst dL_law_1018 ?_
        refine wp_iadd dL_law_1019 ?_
        refine wp_ialoadR rfl (by first | assumption | decide) (by first | omega | (simp (disch := omega) only [up2_ne, up2_eq, st_1_m1 hS, st_200_m1 hS]; first | done | omega)) (by first | omega | (simp only []; omega)) dL_law_1020 ?_
        refine wp_cV2r (ci := 11) okX11_back rfl rfl wL_121 dL_law_1021 (Nat.le_of_ble_eq_true rfl) (Nat.le_of_ble_eq_true rfl) (by first | omega | (simp (disch := omega) only [up2_ne, up2_eq, st_1_m1 hS, st_200_m1 hS]; first | done | omega)) (by first | assumption | (simp (disch := omega) only [up2_ne, up2_eq, st_1_m1 hS, st_200_m1 hS]; first | done | rfl | omega)) (p_back j h (by omega) hI _ _ (hxs _) (hxs _)) (by omega) ?_
        rintro _ h1 ⟨v, rfl, hv, hR⟩ hk
        have z1 : h1 200 (-1) = 13 := by rw [hk 200 (by rw [st_200_m1 hS]; decide), st_200_m1 hS]
        refine wp_aload_n rfl rfl dL_law_1024 ?_
        refine wp_aload_n rfl rfl dL_law_1025 ?_
        refine wp_iload_n rfl rfl dL_law_1026 ?_
        refine wp_iconst dL_law_1027 ?_
        refine wp_iadd dL_law_1028 ?_
        refine wp_ialoadR rfl (by first | assumption | decide) (by first | omega | (simp (disch := omega) only [up2_ne, up2_eq, st_1_m1 hS, st_200_m1 hS]; first | done | omega)) (by first | omega | (simp only []; omega)) dL_law_1029 ?_
        refine wp_aload_n rfl rfl dL_law_1030 ?_
        refine wp_iload_n rfl rfl dL_law_1031 ?_
        refine wp_iconst dL_law_1032 ?_
        refine wp_iadd dL_law_1033 ?_
        refine wp_ialoadR rfl (by first | assumption | decide) (by first | omega | (simp (disch := omega) only [up2_ne, up2_eq, st_1_m1 hS, st_200_m1 hS]; first | done | omega)) (by first | omega | (simp only []; omega)) dL_law_1034 ?_
        refine wp_cV2r (ci := 12) okX12_back rfl rfl wL_124 dL_law_1035 (Nat.le_of_ble_eq_true rfl) (Nat.le_of_ble_eq_true rfl) (by first | omega | (simp (disch := omega) only [up2_ne, up2_eq, st_1_m1 hS, st_200_m1 hS]; first | done | omega)) (by first | assumption | (simp (disch := omega) only [up2_ne, up2_eq, st_1_m1 hS, st_200_m1 hS]; first | done | rfl | omega)) (hR) (by omega) ?_
        rintro _ h2 ⟨rfl, hI2⟩ _
        refine wp_icmp_eq (tgt := 1185) (by first | assumption | exact bI_in _ | exact ⟨by omega, by omega⟩ | exact iAnd_in | exact iOr_in | exact iShr_in | exact iShl_in | exact iXor_in | exact hxs _) (by first | assumption | exact bI_in _ | exact ⟨by omega, by omega⟩ | exact iAnd_in | exact iOr_in | exact iShr_in | exact iShl_in | exact iXor_in | exact hxs _) dL_law_1038 (by decide) (fun c27 => ?_) (fun c27 => ?_)
        · refine wp_iinc rfl rfl dL_law_1185 rfl rfl ?_
          try simp only [List.set_cons_zero, List.set_cons_succ]
          refine wp_goto (tgt := 18) dL_law_1188 (by decide) ?_
          have hi := ih (by omega) _ (by first | exact hI2 | exact hUp _ _ hI)
          rw [show 7 * (((j : Nat) + 1 : Nat) : Int) = 7 * (j : Int) + 7 from by omega] at hi
          exact WP.bud (by omega) hi
        · refine wp_iconst dL_law_1041 ?_
          refine wp_zret (by first | exact Or.inl rfl | exact Or.inr rfl | omega) dL_law_1042 rfl ?_
          first | rfl | (exfalso; omega)
      · refine wp_tabIn (off := 1010) (tgt := 1043) (by first | assumption | exact bI_in _ | exact ⟨by omega, by omega⟩ | exact iAnd_in | exact iOr_in | exact iShr_in | exact iShl_in | exact iXor_in | exact hxs _) dL_law_33 (by omega) (by omega) (by rw [c2x]; rfl) (by decide) ?_
        refine wp_aload_n rfl rfl dL_law_1043 ?_
        refine wp_aload_n rfl rfl dL_law_1044 ?_
        refine wp_iload_n rfl rfl dL_law_1045 ?_
        refine wp_iconst dL_law_1046 ?_
        refine wp_iadd dL_law_1047 ?_
        refine wp_ialoadR rfl (by first | assumption | decide) (by first | omega | (simp (disch := omega) only [up2_ne, up2_eq, st_1_m1 hS, st_200_m1 hS]; first | done | omega)) (by first | omega | (simp only []; omega)) dL_law_1048 ?_
        refine wp_cV1r (ci := 11) okX11_count rfl rfl wL_125 dL_law_1049 (Nat.le_of_ble_eq_true rfl) (Nat.le_of_ble_eq_true rfl) (by first | omega | (simp (disch := omega) only [up2_ne, up2_eq, st_1_m1 hS, st_200_m1 hS]; first | done | omega)) (by first | assumption | (simp (disch := omega) only [up2_ne, up2_eq, st_1_m1 hS, st_200_m1 hS]; first | done | rfl | omega)) (p_count j h (by omega) hI _ (hxs _)) (by omega) ?_
        rintro _ h1 ⟨v, rfl, hv, hR⟩ hk
        have z1 : h1 200 (-1) = 13 := by rw [hk 200 (by rw [st_200_m1 hS]; decide), st_200_m1 hS]
        refine wp_aload_n rfl rfl dL_law_1052 ?_
        refine wp_aload_n rfl rfl dL_law_1053 ?_
        refine wp_iload_n rfl rfl dL_law_1054 ?_
        refine wp_iconst dL_law_1055 ?_
        refine wp_iadd dL_law_1056 ?_
        refine wp_ialoadR rfl (by first | assumption | decide) (by first | omega | (simp (disch := omega) only [up2_ne, up2_eq, st_1_m1 hS, st_200_m1 hS]; first | done | omega)) (by first | omega | (simp only []; omega)) dL_law_1057 ?_
        refine wp_cV1r (ci := 12) okX12_count rfl rfl wL_128 dL_law_1058 (Nat.le_of_ble_eq_true rfl) (Nat.le_of_ble_eq_true rfl) (by first | omega | (simp (disch := omega) only [up2_ne, up2_eq, st_1_m1 hS, st_200_m1 hS]; first | done | omega)) (by first | assumption | (simp (disch := omega) only [up2_ne, up2_eq, st_1_m1 hS, st_200_m1 hS]; first | done | rfl | omega)) (hR) (by omega) ?_
        rintro _ h2 ⟨rfl, hI2⟩ _
        refine wp_icmp_eq (tgt := 1185) (by first | assumption | exact bI_in _ | exact ⟨by omega, by omega⟩ | exact iAnd_in | exact iOr_in | exact iShr_in | exact iShl_in | exact iXor_in | exact hxs _) (by first | assumption | exact bI_in _ | exact ⟨by omega, by omega⟩ | exact iAnd_in | exact iOr_in | exact iShr_in | exact iShl_in | exact iXor_in | exact hxs _) dL_law_1061 (by decide) (fun c28 => ?_) (fun c28 => ?_)
        · refine wp_iinc rfl rfl dL_law_1185 rfl rfl ?_
          try simp only [List.set_cons_zero, List.set_cons_succ]
          refine wp_goto (tgt := 18) dL_law_1188 (by decide) ?_
          have hi := ih (by omega) _ (by first | exact hI2 | exact hUp _ _ hI)
          rw [show 7 * (((j : Nat) + 1 : Nat) : Int) = 7 * (j : Int) + 7 from by omega] at hi
          exact WP.bud (by omega) hi
        · refine wp_iconst dL_law_1064 ?_
          refine wp_zret (by first | exact Or.inl rfl | exact Or.inr rfl | omega) dL_law_1065 rfl ?_
          first | rfl | (exfalso; omega)
      · refine wp_tabIn (off := 1033) (tgt := 1066) (by first | assumption | exact bI_in _ | exact ⟨by omega, by omega⟩ | exact iAnd_in | exact iOr_in | exact iShr_in | exact iShl_in | exact iXor_in | exact hxs _) dL_law_33 (by omega) (by omega) (by rw [c2x]; rfl) (by decide) ?_
        refine wp_aload_n rfl rfl dL_law_1066 ?_
        refine wp_aload_n rfl rfl dL_law_1067 ?_
        refine wp_iload_n rfl rfl dL_law_1068 ?_
        refine wp_iconst dL_law_1069 ?_
        refine wp_iadd dL_law_1070 ?_
        refine wp_ialoadR rfl (by first | assumption | decide) (by first | omega | (simp (disch := omega) only [up2_ne, up2_eq, st_1_m1 hS, st_200_m1 hS]; first | done | omega)) (by first | omega | (simp only []; omega)) dL_law_1071 ?_
        refine wp_aload_n rfl rfl dL_law_1072 ?_
        refine wp_iload_n rfl rfl dL_law_1073 ?_
        refine wp_iconst dL_law_1074 ?_
        refine wp_iadd dL_law_1075 ?_
        refine wp_ialoadR rfl (by first | assumption | decide) (by first | omega | (simp (disch := omega) only [up2_ne, up2_eq, st_1_m1 hS, st_200_m1 hS]; first | done | omega)) (by first | omega | (simp only []; omega)) dL_law_1076 ?_
        refine wp_aload_n rfl rfl dL_law_1077 ?_
        refine wp_iload_n rfl rfl dL_law_1078 ?_
        refine wp_iconst dL_law_1079 ?_
        refine wp_iadd dL_law_1080 ?_
        refine wp_ialoadR rfl (by first | assumption | decide) (by first | omega | (simp (disch := omega) only [up2_ne, up2_eq, st_1_m1 hS, st_200_m1 hS]; first | done | omega)) (by first | omega | (simp only []; omega)) dL_law_1081 ?_
        refine wp_cV3r (ci := 11) okX11_sheet rfl rfl wL_129 dL_law_1082 (Nat.le_of_ble_eq_true rfl) (Nat.le_of_ble_eq_true rfl) (by first | omega | (simp (disch := omega) only [up2_ne, up2_eq, st_1_m1 hS, st_200_m1 hS]; first | done | omega)) (by first | assumption | (simp (disch := omega) only [up2_ne, up2_eq, st_1_m1 hS, st_200_m1 hS]; first | done | rfl | omega)) (p_sheet j h (by omega) hI _ _ _ (hxs _) (hxs _) (hxs _)) (by omega) ?_
        rintro _ h1 ⟨v, rfl, hv, hR⟩ hk
        have z1 : h1 200 (-1) = 13 := by rw [hk 200 (by rw [st_200_m1 hS]; decide), st_200_m1 hS]
        refine wp_aload_n rfl rfl dL_law_1085 ?_
        refine wp_aload_n rfl rfl dL_law_1086 ?_
        refine wp_iload_n rfl rfl dL_law_1087 ?_
        refine wp_iconst dL_law_1088 ?_
        refine wp_iadd dL_law_1089 ?_
        refine wp_ialoadR rfl (by first | assumption | decide) (by first | omega | (simp (disch := omega) only [up2_ne, up2_eq, st_1_m1 hS, st_200_m1 hS]; first | done | omega)) (by first | omega | (simp only []; omega)) dL_law_1090 ?_
        refine wp_aload_n rfl rfl dL_law_1091 ?_
        refine wp_iload_n rfl rfl dL_law_1092 ?_
        refine wp_iconst dL_law_1093 ?_
        refine wp_iadd dL_law_1094 ?_
        refine wp_ialoadR rfl (by first | assumption | decide) (by first | omega | (simp (disch := omega) only [up2_ne, up2_eq, st_1_m1 hS, st_200_m1 hS]; first | done | omega)) (by first | omega | (simp only []; omega)) dL_law_1095 ?_
        refine wp_aload_n rfl rfl dL_law_1096 ?_
        refine wp_iload_n rfl rfl dL_law_1097 ?_
        refine wp_iconst dL_law_1098 ?_
        refine wp_iadd dL_law_1099 ?_
        refine wp_ialoadR rfl (by first | assumption | decide) (by first | omega | (simp (disch := omega) only [up2_ne, up2_eq, st_1_m1 hS, st_200_m1 hS]; first | done | omega)) (by first | omega | (simp only []; omega)) dL_law_1100 ?_
        refine wp_cV3r (ci := 12) okX12_sheet rfl rfl wL_132 dL_law_1101 (Nat.le_of_ble_eq_true rfl) (Nat.le_of_ble_eq_true rfl) (by first | omega | (simp (disch := omega) only [up2_ne, up2_eq, st_1_m1 hS, st_200_m1 hS]; first | done | omega)) (by first | assumption | (simp (disch := omega) only [up2_ne, up2_eq, st_1_m1 hS, st_200_m1 hS]; first | done | rfl | omega)) (hR) (by omega) ?_
        rintro _ h2 ⟨rfl, hI2⟩ _
        refine wp_icmp_eq (tgt := 1185) (by first | assumption | exact bI_in _ | exact ⟨by omega, by omega⟩ | exact iAnd_in | exact iOr_in | exact iShr_in | exact iShl_in | exact iXor_in | exact hxs _) (by first | assumption | exact bI_in _ | exact ⟨by omega, by omega⟩ | exact iAnd_in | exact iOr_in | exact iShr_in | exact iShl_in | exact iXor_in | exact hxs _) dL_law_1104 (by decide) (fun c29 => ?_) (fun c29 => ?_)
        · refine wp_iinc rfl rfl dL_law_1185 rfl rfl ?_
          try simp only [List.set_cons_zero, List.set_cons_succ]
          refine wp_goto (tgt := 18) dL_law_1188 (by decide) ?_
          have hi := ih (by omega) _ (by first | exact hI2 | exact hUp _ _ hI)
          rw [show 7 * (((j : Nat) + 1 : Nat) : Int) = 7 * (j : Int) + 7 from by omega] at hi
          exact WP.bud (by omega) hi
        · refine wp_iconst dL_law_1107 ?_
          refine wp_zret (by first | exact Or.inl rfl | exact Or.inr rfl | omega) dL_law_1108 rfl ?_
          first | rfl | (exfalso; omega)
      · refine wp_tabIn (off := 1076) (tgt := 1109) (by first | assumption | exact bI_in _ | exact ⟨by omega, by omega⟩ | exact iAnd_in | exact iOr_in | exact iShr_in | exact iShl_in | exact iXor_in | exact hxs _) dL_law_33 (by omega) (by omega) (by rw [c2x]; rfl) (by decide) ?_
        refine wp_aload_n rfl rfl dL_law_1109 ?_
        refine wp_aload_n rfl rfl dL_law_1110 ?_
        refine wp_iload_n rfl rfl dL_law_1111 ?_
        refine wp_iconst dL_law_1112 ?_
        refine wp_iadd dL_law_1113 ?_
        refine wp_ialoadR rfl (by first | assumption | decide) (by first | omega | (simp (disch := omega) only [up2_ne, up2_eq, st_1_m1 hS, st_200_m1 hS]; first | done | omega)) (by first | omega | (simp only []; omega)) dL_law_1114 ?_
        refine wp_aload_n rfl rfl dL_law_1115 ?_
        refine wp_iload_n rfl rfl dL_law_1116 ?_
        refine wp_iconst dL_law_1117 ?_
        refine wp_iadd dL_law_1118 ?_
        refine wp_ialoadR rfl (by first | assumption | decide) (by first | omega | (simp (disch := omega) only [up2_ne, up2_eq, st_1_m1 hS, st_200_m1 hS]; first | done | omega)) (by first | omega | (simp only []; omega)) dL_law_1119 ?_
        refine wp_aload_n rfl rfl dL_law_1120 ?_
        refine wp_iload_n rfl rfl dL_law_1121 ?_
        refine wp_iconst dL_law_1122 ?_
        refine wp_iadd dL_law_1123 ?_
        refine wp_ialoadR rfl (by first | assumption | decide) (by first | omega | (simp (disch := omega) only [up2_ne, up2_eq, st_1_m1 hS, st_200_m1 hS]; first | done | omega)) (by first | omega | (simp only []; omega)) dL_law_1124 ?_
        refine wp_cV3r (ci := 11) okX11_cell rfl rfl wL_133 dL_law_1125 (Nat.le_of_ble_eq_true rfl) (Nat.le_of_ble_eq_true rfl) (by first | omega | (simp (disch := omega) only [up2_ne, up2_eq, st_1_m1 hS, st_200_m1 hS]; first | done | omega)) (by first | assumption | (simp (disch := omega) only [up2_ne, up2_eq, st_1_m1 hS, st_200_m1 hS]; first | done | rfl | omega)) (p_cell j h (by omega) hI _ _ _ (hxs _) (hxs _) (hxs _)) (by omega) ?_
        rintro _ h1 ⟨v, rfl, hv, hR⟩ hk
        have z1 : h1 200 (-1) = 13 := by rw [hk 200 (by rw [st_200_m1 hS]; decide), st_200_m1 hS]
        refine wp_aload_n rfl rfl dL_law_1128 ?_
        refine wp_aload_n rfl rfl dL_law_1129 ?_
        refine wp_iload_n rfl rfl dL_law_1130 ?_
        refine wp_iconst dL_law_1131 ?_
        refine wp_iadd dL_law_1132 ?_
        refine wp_ialoadR rfl (by first | assumption | decide) (by first | omega | (simp (disch := omega) only [up2_ne, up2_eq, st_1_m1 hS, st_200_m1 hS]; first | done | omega)) (by first | omega | (simp only []; omega)) dL_law_1133 ?_
        refine wp_aload_n rfl rfl dL_law_1134 ?_
        refine wp_iload_n rfl rfl dL_law_1135 ?_
        refine wp_iconst dL_law_1136 ?_
        refine wp_iadd dL_law_1137 ?_
        refine wp_ialoadR rfl (by first | assumption | decide) (by first | omega | (simp (disch := omega) only [up2_ne, up2_eq, st_1_m1 hS, st_200_m1 hS]; first | done | omega)) (by first | omega | (simp only []; omega)) dL_law_1138 ?_
        refine wp_aload_n rfl rfl dL_law_1139 ?_
        refine wp_iload_n rfl rfl dL_law_1140 ?_
        refine wp_iconst dL_law_1141 ?_
        refine wp_iadd dL_law_1142 ?_
        refine wp_ialoadR rfl (by first | assumption | decide) (by first | omega | (simp (disch := omega) only [up2_ne, up2_eq, st_1_m1 hS, st_200_m1 hS]; first | done | omega)) (by first | omega | (simp only []; omega)) dL_law_1143 ?_
        refine wp_cV3r (ci := 12) okX12_cell rfl rfl wL_136 dL_law_1144 (Nat.le_of_ble_eq_true rfl) (Nat.le_of_ble_eq_true rfl) (by first | omega | (simp (disch := omega) only [up2_ne, up2_eq, st_1_m1 hS, st_200_m1 hS]; first | done | omega)) (by first | assumption | (simp (disch := omega) only [up2_ne, up2_eq, st_1_m1 hS, st_200_m1 hS]; first | done | rfl | omega)) (hR) (by omega) ?_
        rintro _ h2 ⟨rfl, hI2⟩ _
        refine wp_icmp_eq (tgt := 1185) (by first | assumption | exact bI_in _ | exact ⟨by omega, by omega⟩ | exact iAnd_in | exact iOr_in | exact iShr_in | exact iShl_in | exact iXor_in | exact hxs _) (by first | assumption | exact bI_in _ | exact ⟨by omega, by omega⟩ | exact iAnd_in | exact iOr_in | exact iShr_in | exact iShl_in | exact iXor_in | exact hxs _) dL_law_1147 (by decide) (fun c30 => ?_) (fun c30 => ?_)
        · refine wp_iinc rfl rfl dL_law_1185 rfl rfl ?_
          try simp only [List.set_cons_zero, List.set_cons_succ]
          refine wp_goto (tgt := 18) dL_law_1188 (by decide) ?_
          have hi := ih (by omega) _ (by first | exact hI2 | exact hUp _ _ hI)
          rw [show 7 * (((j : Nat) + 1 : Nat) : Int) = 7 * (j : Int) + 7 from by omega] at hi
          exact WP.bud (by omega) hi
        · refine wp_iconst dL_law_1150 ?_
          refine wp_zret (by first | exact Or.inl rfl | exact Or.inr rfl | omega) dL_law_1151 rfl ?_
          first | rfl | (exfalso; omega)
      · refine wp_tabIn (off := 1119) (tgt := 1152) (by first | assumption | exact bI_in _ | exact ⟨by omega, by omega⟩ | exact iAnd_in | exact iOr_in | exact iShr_in | exact iShl_in | exact iXor_in | exact hxs _) dL_law_33 (by omega) (by omega) (by rw [c2x]; rfl) (by decide) ?_
        refine wp_aload_n rfl rfl dL_law_1152 ?_
        refine wp_aload_n rfl rfl dL_law_1153 ?_
        refine wp_iload_n rfl rfl dL_law_1154 ?_
        refine wp_iconst dL_law_1155 ?_
        refine wp_iadd dL_law_1156 ?_
        refine wp_ialoadR rfl (by first | assumption | decide) (by first | omega | (simp (disch := omega) only [up2_ne, up2_eq, st_1_m1 hS, st_200_m1 hS]; first | done | omega)) (by first | omega | (simp only []; omega)) dL_law_1157 ?_
        refine wp_aload_n rfl rfl dL_law_1158 ?_
        refine wp_iload_n rfl rfl dL_law_1159 ?_
        refine wp_iconst dL_law_1160 ?_
        refine wp_iadd dL_law_1161 ?_
        refine wp_ialoadR rfl (by first | assumption | decide) (by first | omega | (simp (disch := omega) only [up2_ne, up2_eq, st_1_m1 hS, st_200_m1 hS]; first | done | omega)) (by first | omega | (simp only []; omega)) dL_law_1162 ?_
        refine wp_cV2r (ci := 11) okX11_taken rfl rfl wL_137 dL_law_1163 (Nat.le_of_ble_eq_true rfl) (Nat.le_of_ble_eq_true rfl) (by first | omega | (simp (disch := omega) only [up2_ne, up2_eq, st_1_m1 hS, st_200_m1 hS]; first | done | omega)) (by first | assumption | (simp (disch := omega) only [up2_ne, up2_eq, st_1_m1 hS, st_200_m1 hS]; first | done | rfl | omega)) (p_taken j h (by omega) hI _ _ (hxs _) (hxs _)) (by omega) ?_
        rintro _ h1 ⟨v, rfl, hv, hR⟩ hk
        have z1 : h1 200 (-1) = 13 := by rw [hk 200 (by rw [st_200_m1 hS]; decide), st_200_m1 hS]
        refine wp_aload_n rfl rfl dL_law_1166 ?_
        refine wp_aload_n rfl rfl dL_law_1167 ?_
        refine wp_iload_n rfl rfl dL_law_1168 ?_
        refine wp_iconst dL_law_1169 ?_
        refine wp_iadd dL_law_1170 ?_
        refine wp_ialoadR rfl (by first | assumption | decide) (by first | omega | (simp (disch := omega) only [up2_ne, up2_eq, st_1_m1 hS, st_200_m1 hS]; first | done | omega)) (by first | omega | (simp only []; omega)) dL_law_1171 ?_
        refine wp_aload_n rfl rfl dL_law_1172 ?_
        refine wp_iload_n rfl rfl dL_law_1173 ?_
        refine wp_iconst dL_law_1174 ?_
        refine wp_iadd dL_law_1175 ?_
        refine wp_ialoadR rfl (by first | assumption | decide) (by first | omega | (simp (disch := omega) only [up2_ne, up2_eq, st_1_m1 hS, st_200_m1 hS]; first | done | omega)) (by first | omega | (simp only []; omega)) dL_law_1176 ?_
        refine wp_cV2r (ci := 12) okX12_taken rfl rfl wL_140 dL_law_1177 (Nat.le_of_ble_eq_true rfl) (Nat.le_of_ble_eq_true rfl) (by first | omega | (simp (disch := omega) only [up2_ne, up2_eq, st_1_m1 hS, st_200_m1 hS]; first | done | omega)) (by first | assumption | (simp (disch := omega) only [up2_ne, up2_eq, st_1_m1 hS, st_200_m1 hS]; first | done | rfl | omega)) (hR) (by omega) ?_
        rintro _ h2 ⟨rfl, hI2⟩ _
        refine wp_icmp_eq (tgt := 1185) (by first | assumption | exact bI_in _ | exact ⟨by omega, by omega⟩ | exact iAnd_in | exact iOr_in | exact iShr_in | exact iShl_in | exact iXor_in | exact hxs _) (by first | assumption | exact bI_in _ | exact ⟨by omega, by omega⟩ | exact iAnd_in | exact iOr_in | exact iShr_in | exact iShl_in | exact iXor_in | exact hxs _) dL_law_1180 (by decide) (fun c31 => ?_) (fun c31 => ?_)
        · refine wp_iinc rfl rfl dL_law_1185 rfl rfl ?_
          try simp only [List.set_cons_zero, List.set_cons_succ]
          refine wp_goto (tgt := 18) dL_law_1188 (by decide) ?_
          have hi := ih (by omega) _ (by first | exact hI2 | exact hUp _ _ hI)
          rw [show 7 * (((j : Nat) + 1 : Nat) : Int) = 7 * (j : Int) + 7 from by omega] at hi
          exact WP.bud (by omega) hi
        · refine wp_iconst dL_law_1183 ?_
          refine wp_zret (by first | exact Or.inl rfl | exact Or.inr rfl | omega) dL_law_1184 rfl ?_
          first | rfl | (exfalso; omega)
