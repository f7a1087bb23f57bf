/-! ===== places: isPaired ===== -/
theorem Mr_Kab {h g : mH} (k : Kab h g) : Mr g = Mr h := by
  funext a r
  unfold Mr
  rw [k 245 _ (by omega)]
theorem stM_Kab {m h g : mH} (S : stM m h) (gS : St g) (k : Kab h g) : stM m g := by
  refine ⟨gS, fun a r a0 a1 r0 r1 => ?_, ?_, ?_⟩
  · rw [k 245 _ (by omega)]
    exact S.2.1 a r a0 a1 r0 r1
  · rw [Mr_Kab k]
    exact S.2.2.1
  · rw [Mr_Kab k]
    exact S.2.2.2
def swI (m h : mH) (fr : Int) (gs g : mH) (mo en : Int) (P : Prop) : Prop := sS m h fr g en ∧ ((mo = 0 ∧ en = -1 ∧ g = gs ∧ P) ∨ (mo = 1 ∧ unR m g < unR m gs))
theorem fI2_rng {m : mH} {M : mP} {fr : Int} {g : mH} {dA dR : Int → Nat} (F : fI2 m M fr g dA dR) (R8 : m 200 6 ≤ 8) (A14 : m 200 10 ≤ 14) : (∀ a : Int, 0 ≤ a → a < m 200 10 → -1 ≤ g 246 a ∧ g 246 a ≤ 99) ∧ ∀ r : Int, 0 ≤ r → r < m 200 6 → -1 ≤ g 247 r ∧ g 247 r ≤ 14 := by
  constructor
  · intro a a0 a1
    rcases F.1 a a0 a1 with z | z | z <;> omega
  · intro r r0 r1
    rcases F.2.1 r r0 r1 with z | z <;> omega
theorem useP_b {m g : mH} (S : stM m g) {r : Int} (r0 : 0 ≤ r) (r1 : r < 8) (A14 : m 200 10 ≤ 14) : 0 ≤ useP m (Mr g) r ∧ useP m (Mr g) r ≤ 14 := by
  have h1 := sm_bnd (f := fun a => Mr g a r) (lo := 0) (hi := 1) (m 200 10).toNat (fun i hi => by
    have := S.2.1 i r (by omega) (by omega) r0 r1
    show 0 ≤ g 245 (8 * (i : Int) + r) ∧ g 245 (8 * (i : Int) + r) ≤ 1
    omega)
  unfold useP
  omega
theorem pairsBy_row {u : gT} {j : Nat} {h m g : mH} {d b : Nat} (H : Inv j m) (ge : Cr g m) (gS : St g) (gK : Kab h g) (SM : stM m g) (eM : Mr g = Mr h) {a r : Int} (r0 : 0 ≤ r) (r1 : r < m 200 6) : Det (gX (gq u)) MX12_pairsBy d b [(2, 200), (0, r)] (up2 g 247 r a) (0, useP m (Mr h) r) (up2 g 247 r a) := by
  have hn := H.ns
  have k : Kab g (up2 g 247 r a) := fun x y q => by rw [up2_ne (by omega)]
  have S2 := stM_Kab SM (gS.upA (by decide +kernel) r0) k
  have := s_X12_pairsBy (u := u) (d := d) (b := b) (m := m) (g := up2 g 247 r a) (gS.upA (by decide +kernel) r0) (by omega) (by omega) (by rw [up2_ne (by omega)]; exact ge _ _ (by omega)) (by rw [up2_ne (by omega)]; exact ge _ _ (by omega)) S2.2.1 r0 r1
  rw [Mr_Kab k, eM] at this
  exact this
set_option maxHeartbeats 4000000 in
theorem s_X12_isPaired {u : gT} {j : Nat} {h m : mH} {d b : Nat} (H : Inv j m) (e : Cr h m) (hS : St h) {fr : Int} (SH : stM m h) (f0 : 0 ≤ fr) (f1 : fr < m 200 10) : Rlt (gX (gq u)) MX12_isPaired (d + 3) b [(2, 200), (0, fr)] h (fun r h1 => stM m h1 ∧ (∀ x k : Int, ¬ ((x = 245 ∨ x = 246 ∨ x = 247) ∧ 0 ≤ k) → h1 x k = h x k) ∧ ((r = (0, 1) ∧ ∀ a : Int, 0 ≤ a → a < m 200 10 → degP m (Mr h1) a = inc (degP m (Mr h)) fr a) ∨ (r = (0, 0) ∧ Mr h1 = Mr h ∧ ¬ Feas m (inc (degP m (Mr h)) fr)))) := by
  refine Rlt.of ?_
  have hn := H.ns
  have path : ∀ (g : mH) (en mo : Int) (dA dR : Int → Nat), 0 ≤ en → en < m 200 6 → St g → Kab h g → fI2 m (Mr h) fr g dA dR → ∀ (n : Nat) (g2 : mH) (r : Int), 0 ≤ r → r < m 200 6 → g 247 r ≠ -1 → dR r < n → pInv m h g fr dA dR g2 r → WP (gX (gq u)) MX12_isPaired (d + 3) b (fun r h1 => stM m h1 ∧ (∀ x k : Int, ¬ ((x = 245 ∨ x = 246 ∨ x = 247) ∧ 0 ≤ k) → h1 x k = h x k) ∧ ((r = (0, 1) ∧ ∀ a : Int, 0 ≤ a → a < m 200 10 → degP m (Mr h1) a = inc (degP m (Mr h)) fr a) ∨ (r = (0, 0) ∧ Mr h1 = Mr h ∧ ¬ Feas m (inc (degP m (Mr h)) fr)))) 293 [(2, 200), (0, fr), (0, en), (0, mo), (0, r), (9, 0), (9, 0)] [] g2 := by
    intro g en mo dA dR en0 en1 gS gK F n
    induction n with
    | zero =>
      intro g2 r r0 r1 hr hn
      exfalso
      omega
    | succ n ih =>
      intro g2 r r0 r1 hr hn I
      have hE := path_end (by omega) I F r0 r1 hr
      have hrg := fI2_rng F (by omega) (by omega)
      have S2 := I.1
      have gS2 := I.1.1
      have k2 := I.2.1
      have r47 := hrg.2 r r0 r1
      have r46 := hrg.1 _ hE.1.1 hE.1.2
      refine wp_iload rfl dX12_isPaired_293 ?_
      refine wp_iconst dX12_isPaired_295 ?_
      refine wp_icmp_eq (tgt := 370) (by first | assumption | exact bI_in _ | exact ⟨by omega, by omega⟩ | exact iAnd_in | exact iOr_in | exact iShr_in | exact iShl_in | exact iXor_in | exact hxs _) (by first | assumption | exact bI_in _ | exact ⟨by omega, by omega⟩ | exact iAnd_in | exact iOr_in | exact iShr_in | exact iShl_in | exact iXor_in | exact hxs _) dX12_isPaired_296 (by decide) (fun c1 => ?_) (fun c1 => ?_)
      · refine wp_iload_n rfl rfl dX12_isPaired_370 ?_
        refine wp_iconst dX12_isPaired_371 ?_
        refine wp_icmp_eq (tgt := 379) (by first | assumption | exact bI_in _ | exact ⟨by omega, by omega⟩ | exact iAnd_in | exact iOr_in | exact iShr_in | exact iShl_in | exact iXor_in | exact hxs _) (by first | assumption | exact bI_in _ | exact ⟨by omega, by omega⟩ | exact iAnd_in | exact iOr_in | exact iShr_in | exact iShl_in | exact iXor_in | exact hxs _) dX12_isPaired_372 (by decide) (fun c2 => ?_) (fun c2 => ?_)
        · refine wp_iconst dX12_isPaired_379 ?_
          refine wp_zret (by first | exact Or.inl rfl | exact Or.inr rfl | omega) dX12_isPaired_380 rfl ?_
          first
            | (exfalso; omega)
            | (have hfr : g 247 r = fr := by
                 rcases F.1 _ hE.1.1 hE.1.2 with z | z | z
                 · exfalso; omega
                 · exact z.1
                 · exfalso; omega
               have hE3 := hE.2.2.1
               rw [hfr] at hE3
               have hE2 := hE.2.1
               rw [hfr] at hE2
               refine ⟨by first | exact hE2 | (rw [hfr]; exact hE2), fun x k q => ?_, Or.inl ⟨rfl, by first | exact hE3 | (rw [hfr]; exact hE3)⟩⟩
               rw [up2_ne (by omega), k2 x k (by omega)]
               exact gK x k (by omega))
        · refine wp_iconst dX12_isPaired_375 ?_
          refine wp_goto (tgt := 380) dX12_isPaired_376 (by decide) ?_
          refine wp_zret (by first | exact Or.inl rfl | exact Or.inr rfl | omega) dX12_isPaired_380 rfl ?_
          first
            | (exfalso; omega)
            | (have hfr : g 247 r = fr := by
                 rcases F.1 _ hE.1.1 hE.1.2 with z | z | z
                 · exfalso; omega
                 · exact z.1
                 · exfalso; omega
               have hE3 := hE.2.2.1
               rw [hfr] at hE3
               have hE2 := hE.2.1
               rw [hfr] at hE2
               refine ⟨by first | exact hE2 | (rw [hfr]; exact hE2), fun x k q => ?_, Or.inl ⟨rfl, by first | exact hE3 | (rw [hfr]; exact hE3)⟩⟩
               rw [up2_ne (by omega), k2 x k (by omega)]
               exact gK x k (by omega))
      · refine wp_aload_n rfl rfl dX12_isPaired_299 ?_
        refine wp_getfield1 (z := 13) (kI := 47) fX12_195 dX12_isPaired_300 (by first | omega | (simp (disch := omega) only [up2_ne, up2_eq, k2, st_200_m1 gS2, st_200_m1 gS, st_200_9 gS2, st_200_9 gS, st_200_45 gS2, st_200_45 gS, st_200_46 gS2, st_200_46 gS, st_200_47 gS2, st_200_47 gS, st_209_m2 gS2, st_209_m2 gS, st_209_m1 gS2, st_209_m1 gS, st_245_m2 gS2, st_245_m2 gS, st_245_m1 gS2, st_245_m1 gS, st_246_m2 gS2, st_246_m2 gS, st_246_m1 gS2, st_246_m1 gS, st_247_m2 gS2, st_247_m2 gS, st_247_m1 gS2, st_247_m1 gS]; first | done | omega)) (by first | assumption | (simp (disch := omega) only [up2_ne, up2_eq, k2, st_200_m1 gS2, st_200_m1 gS, st_200_9 gS2, st_200_9 gS, st_200_45 gS2, st_200_45 gS, st_200_46 gS2, st_200_46 gS, st_200_47 gS2, st_200_47 gS, st_209_m2 gS2, st_209_m2 gS, st_209_m1 gS2, st_209_m1 gS, st_245_m2 gS2, st_245_m2 gS, st_245_m1 gS2, st_245_m1 gS, st_246_m2 gS2, st_246_m2 gS, st_246_m1 gS2, st_246_m1 gS, st_247_m2 gS2, st_247_m2 gS, st_247_m1 gS2, st_247_m1 gS]; first | done | rfl | omega)) rfl rfl ?_
        try simp (disch := omega) only [up2_ne, up2_eq, k2, st_200_m1 gS2, st_200_m1 gS, st_200_9 gS2, st_200_9 gS, st_200_45 gS2, st_200_45 gS, st_200_46 gS2, st_200_46 gS, st_200_47 gS2, st_200_47 gS, st_209_m2 gS2, st_209_m2 gS, st_209_m1 gS2, st_209_m1 gS, st_245_m2 gS2, st_245_m2 gS, st_245_m1 gS2, st_245_m1 gS, st_246_m2 gS2, st_246_m2 gS, st_246_m1 gS2, st_246_m1 gS, st_247_m2 gS2, st_247_m2 gS, st_247_m1 gS2, st_247_m1 gS]
        refine wp_iload rfl dX12_isPaired_303 ?_
        refine wp_iaload1 dX12_isPaired_305 (by first | omega | (simp (disch := omega) only [up2_ne, up2_eq, k2, st_200_m1 gS2, st_200_m1 gS, st_200_9 gS2, st_200_9 gS, st_200_45 gS2, st_200_45 gS, st_200_46 gS2, st_200_46 gS, st_200_47 gS2, st_200_47 gS, st_209_m2 gS2, st_209_m2 gS, st_209_m1 gS2, st_209_m1 gS, st_245_m2 gS2, st_245_m2 gS, st_245_m1 gS2, st_245_m1 gS, st_246_m2 gS2, st_246_m2 gS, st_246_m1 gS2, st_246_m1 gS, st_247_m2 gS2, st_247_m2 gS, st_247_m1 gS2, st_247_m1 gS]; first | done | omega)) (by first | assumption | (simp (disch := omega) only [up2_ne, up2_eq, k2, st_200_m1 gS2, st_200_m1 gS, st_200_9 gS2, st_200_9 gS, st_200_45 gS2, st_200_45 gS, st_200_46 gS2, st_200_46 gS, st_200_47 gS2, st_200_47 gS, st_209_m2 gS2, st_209_m2 gS, st_209_m1 gS2, st_209_m1 gS, st_245_m2 gS2, st_245_m2 gS, st_245_m1 gS2, st_245_m1 gS, st_246_m2 gS2, st_246_m2 gS, st_246_m1 gS2, st_246_m1 gS, st_247_m2 gS2, st_247_m2 gS, st_247_m1 gS2, st_247_m1 gS]; first | done | rfl | omega)) (by first | omega | (simp (disch := omega) only [up2_ne, up2_eq, k2, st_200_m1 gS2, st_200_m1 gS, st_200_9 gS2, st_200_9 gS, st_200_45 gS2, st_200_45 gS, st_200_46 gS2, st_200_46 gS, st_200_47 gS2, st_200_47 gS, st_209_m2 gS2, st_209_m2 gS, st_209_m1 gS2, st_209_m1 gS, st_245_m2 gS2, st_245_m2 gS, st_245_m1 gS2, st_245_m1 gS, st_246_m2 gS2, st_246_m2 gS, st_246_m1 gS2, st_246_m1 gS, st_247_m2 gS2, st_247_m2 gS, st_247_m1 gS2, st_247_m1 gS]; first | done | omega)) (by first | omega | (simp (disch := omega) only [up2_ne, up2_eq, k2, st_200_m1 gS2, st_200_m1 gS, st_200_9 gS2, st_200_9 gS, st_200_45 gS2, st_200_45 gS, st_200_46 gS2, st_200_46 gS, st_200_47 gS2, st_200_47 gS, st_209_m2 gS2, st_209_m2 gS, st_209_m1 gS2, st_209_m1 gS, st_245_m2 gS2, st_245_m2 gS, st_245_m1 gS2, st_245_m1 gS, st_246_m2 gS2, st_246_m2 gS, st_246_m1 gS2, st_246_m1 gS, st_247_m2 gS2, st_247_m2 gS, st_247_m1 gS2, st_247_m1 gS]; first | done | omega)) ?_
        try simp (disch := omega) only [up2_ne, up2_eq, k2, st_200_m1 gS2, st_200_m1 gS, st_200_9 gS2, st_200_9 gS, st_200_45 gS2, st_200_45 gS, st_200_46 gS2, st_200_46 gS, st_200_47 gS2, st_200_47 gS, st_209_m2 gS2, st_209_m2 gS, st_209_m1 gS2, st_209_m1 gS, st_245_m2 gS2, st_245_m2 gS, st_245_m1 gS2, st_245_m1 gS, st_246_m2 gS2, st_246_m2 gS, st_246_m1 gS2, st_246_m1 gS, st_247_m2 gS2, st_247_m2 gS, st_247_m1 gS2, st_247_m1 gS]
        refine wp_istore dX12_isPaired_306 rfl (Nat.le_of_ble_eq_true rfl) rfl ?_
        try simp only [List.set_cons_zero, List.set_cons_succ]
        refine wp_aload_n rfl rfl dX12_isPaired_308 ?_
        refine wp_getfield1 (z := 13) (kI := 45) fX12_189 dX12_isPaired_309 (by first | omega | (simp (disch := omega) only [up2_ne, up2_eq, k2, st_200_m1 gS2, st_200_m1 gS, st_200_9 gS2, st_200_9 gS, st_200_45 gS2, st_200_45 gS, st_200_46 gS2, st_200_46 gS, st_200_47 gS2, st_200_47 gS, st_209_m2 gS2, st_209_m2 gS, st_209_m1 gS2, st_209_m1 gS, st_245_m2 gS2, st_245_m2 gS, st_245_m1 gS2, st_245_m1 gS, st_246_m2 gS2, st_246_m2 gS, st_246_m1 gS2, st_246_m1 gS, st_247_m2 gS2, st_247_m2 gS, st_247_m1 gS2, st_247_m1 gS]; first | done | omega)) (by first | assumption | (simp (disch := omega) only [up2_ne, up2_eq, k2, st_200_m1 gS2, st_200_m1 gS, st_200_9 gS2, st_200_9 gS, st_200_45 gS2, st_200_45 gS, st_200_46 gS2, st_200_46 gS, st_200_47 gS2, st_200_47 gS, st_209_m2 gS2, st_209_m2 gS, st_209_m1 gS2, st_209_m1 gS, st_245_m2 gS2, st_245_m2 gS, st_245_m1 gS2, st_245_m1 gS, st_246_m2 gS2, st_246_m2 gS, st_246_m1 gS2, st_246_m1 gS, st_247_m2 gS2, st_247_m2 gS, st_247_m1 gS2, st_247_m1 gS]; first | done | rfl | omega)) rfl rfl ?_
        try simp (disch := omega) only [up2_ne, up2_eq, k2, st_200_m1 gS2, st_200_m1 gS, st_200_9 gS2, st_200_9 gS, st_200_45 gS2, st_200_45 gS, st_200_46 gS2, st_200_46 gS, st_200_47 gS2, st_200_47 gS, st_209_m2 gS2, st_209_m2 gS, st_209_m1 gS2, st_209_m1 gS, st_245_m2 gS2, st_245_m2 gS, st_245_m1 gS2, st_245_m1 gS, st_246_m2 gS2, st_246_m2 gS, st_246_m1 gS2, st_246_m1 gS, st_247_m2 gS2, st_247_m2 gS, st_247_m1 gS2, st_247_m1 gS]
        refine wp_bipush (by decide) dX12_isPaired_312 ?_
        refine wp_iload rfl dX12_isPaired_314 ?_
        refine wp_imul dX12_isPaired_316 ?_
        refine wp_iload rfl dX12_isPaired_317 ?_
        refine wp_iadd dX12_isPaired_319 ?_
        refine wp_iconst dX12_isPaired_320 ?_
        refine wp_zastore1 (by omega) dX12_isPaired_321 (by first | omega | (simp (disch := omega) only [up2_ne, up2_eq, k2, st_200_m1 gS2, st_200_m1 gS, st_200_9 gS2, st_200_9 gS, st_200_45 gS2, st_200_45 gS, st_200_46 gS2, st_200_46 gS, st_200_47 gS2, st_200_47 gS, st_209_m2 gS2, st_209_m2 gS, st_209_m1 gS2, st_209_m1 gS, st_245_m2 gS2, st_245_m2 gS, st_245_m1 gS2, st_245_m1 gS, st_246_m2 gS2, st_246_m2 gS, st_246_m1 gS2, st_246_m1 gS, st_247_m2 gS2, st_247_m2 gS, st_247_m1 gS2, st_247_m1 gS]; first | done | omega)) (by first | assumption | (simp (disch := omega) only [up2_ne, up2_eq, k2, st_200_m1 gS2, st_200_m1 gS, st_200_9 gS2, st_200_9 gS, st_200_45 gS2, st_200_45 gS, st_200_46 gS2, st_200_46 gS, st_200_47 gS2, st_200_47 gS, st_209_m2 gS2, st_209_m2 gS, st_209_m1 gS2, st_209_m1 gS, st_245_m2 gS2, st_245_m2 gS, st_245_m1 gS2, st_245_m1 gS, st_246_m2 gS2, st_246_m2 gS, st_246_m1 gS2, st_246_m1 gS, st_247_m2 gS2, st_247_m2 gS, st_247_m1 gS2, st_247_m1 gS]; first | done | rfl | omega)) (by first | omega | (simp (disch := omega) only [up2_ne, up2_eq, k2, st_200_m1 gS2, st_200_m1 gS, st_200_9 gS2, st_200_9 gS, st_200_45 gS2, st_200_45 gS, st_200_46 gS2, st_200_46 gS, st_200_47 gS2, st_200_47 gS, st_209_m2 gS2, st_209_m2 gS, st_209_m1 gS2, st_209_m1 gS, st_245_m2 gS2, st_245_m2 gS, st_245_m1 gS2, st_245_m1 gS, st_246_m2 gS2, st_246_m2 gS, st_246_m1 gS2, st_246_m1 gS, st_247_m2 gS2, st_247_m2 gS, st_247_m1 gS2, st_247_m1 gS]; first | done | omega)) (by first | omega | (simp (disch := omega) only [up2_ne, up2_eq, k2, st_200_m1 gS2, st_200_m1 gS, st_200_9 gS2, st_200_9 gS, st_200_45 gS2, st_200_45 gS, st_200_46 gS2, st_200_46 gS, st_200_47 gS2, st_200_47 gS, st_209_m2 gS2, st_209_m2 gS, st_209_m1 gS2, st_209_m1 gS, st_245_m2 gS2, st_245_m2 gS, st_245_m1 gS2, st_245_m1 gS, st_246_m2 gS2, st_246_m2 gS, st_246_m1 gS2, st_246_m1 gS, st_247_m2 gS2, st_247_m2 gS, st_247_m1 gS2, st_247_m1 gS]; first | done | omega)) ?_
        refine wp_aload_n rfl rfl dX12_isPaired_322 ?_
        refine wp_getfield1 (z := 13) (kI := 46) fX12_192 dX12_isPaired_323 (by first | omega | (simp (disch := omega) only [up2_ne, up2_eq, k2, st_200_m1 gS2, st_200_m1 gS, st_200_9 gS2, st_200_9 gS, st_200_45 gS2, st_200_45 gS, st_200_46 gS2, st_200_46 gS, st_200_47 gS2, st_200_47 gS, st_209_m2 gS2, st_209_m2 gS, st_209_m1 gS2, st_209_m1 gS, st_245_m2 gS2, st_245_m2 gS, st_245_m1 gS2, st_245_m1 gS, st_246_m2 gS2, st_246_m2 gS, st_246_m1 gS2, st_246_m1 gS, st_247_m2 gS2, st_247_m2 gS, st_247_m1 gS2, st_247_m1 gS]; first | done | omega)) (by first | assumption | (simp (disch := omega) only [up2_ne, up2_eq, k2, st_200_m1 gS2, st_200_m1 gS, st_200_9 gS2, st_200_9 gS, st_200_45 gS2, st_200_45 gS, st_200_46 gS2, st_200_46 gS, st_200_47 gS2, st_200_47 gS, st_209_m2 gS2, st_209_m2 gS, st_209_m1 gS2, st_209_m1 gS, st_245_m2 gS2, st_245_m2 gS, st_245_m1 gS2, st_245_m1 gS, st_246_m2 gS2, st_246_m2 gS, st_246_m1 gS2, st_246_m1 gS, st_247_m2 gS2, st_247_m2 gS, st_247_m1 gS2, st_247_m1 gS]; first | done | rfl | omega)) rfl rfl ?_
        try simp (disch := omega) only [up2_ne, up2_eq, k2, st_200_m1 gS2, st_200_m1 gS, st_200_9 gS2, st_200_9 gS, st_200_45 gS2, st_200_45 gS, st_200_46 gS2, st_200_46 gS, st_200_47 gS2, st_200_47 gS, st_209_m2 gS2, st_209_m2 gS, st_209_m1 gS2, st_209_m1 gS, st_245_m2 gS2, st_245_m2 gS, st_245_m1 gS2, st_245_m1 gS, st_246_m2 gS2, st_246_m2 gS, st_246_m1 gS2, st_246_m1 gS, st_247_m2 gS2, st_247_m2 gS, st_247_m1 gS2, st_247_m1 gS]
        refine wp_iload rfl dX12_isPaired_326 ?_
        refine wp_iaload1 dX12_isPaired_328 (by first | omega | (simp (disch := omega) only [up2_ne, up2_eq, k2, st_200_m1 gS2, st_200_m1 gS, st_200_9 gS2, st_200_9 gS, st_200_45 gS2, st_200_45 gS, st_200_46 gS2, st_200_46 gS, st_200_47 gS2, st_200_47 gS, st_209_m2 gS2, st_209_m2 gS, st_209_m1 gS2, st_209_m1 gS, st_245_m2 gS2, st_245_m2 gS, st_245_m1 gS2, st_245_m1 gS, st_246_m2 gS2, st_246_m2 gS, st_246_m1 gS2, st_246_m1 gS, st_247_m2 gS2, st_247_m2 gS, st_247_m1 gS2, st_247_m1 gS]; first | done | omega)) (by first | assumption | (simp (disch := omega) only [up2_ne, up2_eq, k2, st_200_m1 gS2, st_200_m1 gS, st_200_9 gS2, st_200_9 gS, st_200_45 gS2, st_200_45 gS, st_200_46 gS2, st_200_46 gS, st_200_47 gS2, st_200_47 gS, st_209_m2 gS2, st_209_m2 gS, st_209_m1 gS2, st_209_m1 gS, st_245_m2 gS2, st_245_m2 gS, st_245_m1 gS2, st_245_m1 gS, st_246_m2 gS2, st_246_m2 gS, st_246_m1 gS2, st_246_m1 gS, st_247_m2 gS2, st_247_m2 gS, st_247_m1 gS2, st_247_m1 gS]; first | done | rfl | omega)) (by first | omega | (simp (disch := omega) only [up2_ne, up2_eq, k2, st_200_m1 gS2, st_200_m1 gS, st_200_9 gS2, st_200_9 gS, st_200_45 gS2, st_200_45 gS, st_200_46 gS2, st_200_46 gS, st_200_47 gS2, st_200_47 gS, st_209_m2 gS2, st_209_m2 gS, st_209_m1 gS2, st_209_m1 gS, st_245_m2 gS2, st_245_m2 gS, st_245_m1 gS2, st_245_m1 gS, st_246_m2 gS2, st_246_m2 gS, st_246_m1 gS2, st_246_m1 gS, st_247_m2 gS2, st_247_m2 gS, st_247_m1 gS2, st_247_m1 gS]; first | done | omega)) (by first | omega | (simp (disch := omega) only [up2_ne, up2_eq, k2, st_200_m1 gS2, st_200_m1 gS, st_200_9 gS2, st_200_9 gS, st_200_45 gS2, st_200_45 gS, st_200_46 gS2, st_200_46 gS, st_200_47 gS2, st_200_47 gS, st_209_m2 gS2, st_209_m2 gS, st_209_m1 gS2, st_209_m1 gS, st_245_m2 gS2, st_245_m2 gS, st_245_m1 gS2, st_245_m1 gS, st_246_m2 gS2, st_246_m2 gS, st_246_m1 gS2, st_246_m1 gS, st_247_m2 gS2, st_247_m2 gS, st_247_m1 gS2, st_247_m1 gS]; first | done | omega)) ?_
        try simp (disch := omega) only [up2_ne, up2_eq, k2, st_200_m1 gS2, st_200_m1 gS, st_200_9 gS2, st_200_9 gS, st_200_45 gS2, st_200_45 gS, st_200_46 gS2, st_200_46 gS, st_200_47 gS2, st_200_47 gS, st_209_m2 gS2, st_209_m2 gS, st_209_m1 gS2, st_209_m1 gS, st_245_m2 gS2, st_245_m2 gS, st_245_m1 gS2, st_245_m1 gS, st_246_m2 gS2, st_246_m2 gS, st_246_m1 gS2, st_246_m1 gS, st_247_m2 gS2, st_247_m2 gS, st_247_m1 gS2, st_247_m1 gS]
        refine wp_bipush (by decide) dX12_isPaired_329 ?_
        refine wp_icmp_ne (tgt := 338) (by first | assumption | exact bI_in _ | exact ⟨by omega, by omega⟩ | exact iAnd_in | exact iOr_in | exact iShr_in | exact iShl_in | exact iXor_in | exact hxs _) (by first | assumption | exact bI_in _ | exact ⟨by omega, by omega⟩ | exact iAnd_in | exact iOr_in | exact iShr_in | exact iShl_in | exact iXor_in | exact hxs _) dX12_isPaired_331 (by decide) (fun c3 => ?_) (fun c3 => ?_)
        · have hst := path_step (by omega) I F r0 r1 hr (by omega)
          refine wp_aload_n rfl rfl dX12_isPaired_338 ?_
          refine wp_getfield1 (z := 13) (kI := 46) fX12_192 dX12_isPaired_339 (by first | omega | (simp (disch := omega) only [up2_ne, up2_eq, k2, st_200_m1 gS2, st_200_m1 gS, st_200_9 gS2, st_200_9 gS, st_200_45 gS2, st_200_45 gS, st_200_46 gS2, st_200_46 gS, st_200_47 gS2, st_200_47 gS, st_209_m2 gS2, st_209_m2 gS, st_209_m1 gS2, st_209_m1 gS, st_245_m2 gS2, st_245_m2 gS, st_245_m1 gS2, st_245_m1 gS, st_246_m2 gS2, st_246_m2 gS, st_246_m1 gS2, st_246_m1 gS, st_247_m2 gS2, st_247_m2 gS, st_247_m1 gS2, st_247_m1 gS]; first | done | omega)) (by first | assumption | (simp (disch := omega) only [up2_ne, up2_eq, k2, st_200_m1 gS2, st_200_m1 gS, st_200_9 gS2, st_200_9 gS, st_200_45 gS2, st_200_45 gS, st_200_46 gS2, st_200_46 gS, st_200_47 gS2, st_200_47 gS, st_209_m2 gS2, st_209_m2 gS, st_209_m1 gS2, st_209_m1 gS, st_245_m2 gS2, st_245_m2 gS, st_245_m1 gS2, st_245_m1 gS, st_246_m2 gS2, st_246_m2 gS, st_246_m1 gS2, st_246_m1 gS, st_247_m2 gS2, st_247_m2 gS, st_247_m1 gS2, st_247_m1 gS]; first | done | rfl | omega)) rfl rfl ?_
          try simp (disch := omega) only [up2_ne, up2_eq, k2, st_200_m1 gS2, st_200_m1 gS, st_200_9 gS2, st_200_9 gS, st_200_45 gS2, st_200_45 gS, st_200_46 gS2, st_200_46 gS, st_200_47 gS2, st_200_47 gS, st_209_m2 gS2, st_209_m2 gS, st_209_m1 gS2, st_209_m1 gS, st_245_m2 gS2, st_245_m2 gS, st_245_m1 gS2, st_245_m1 gS, st_246_m2 gS2, st_246_m2 gS, st_246_m1 gS2, st_246_m1 gS, st_247_m2 gS2, st_247_m2 gS, st_247_m1 gS2, st_247_m1 gS]
          refine wp_iload rfl dX12_isPaired_342 ?_
          refine wp_iaload1 dX12_isPaired_344 (by first | omega | (simp (disch := omega) only [up2_ne, up2_eq, k2, st_200_m1 gS2, st_200_m1 gS, st_200_9 gS2, st_200_9 gS, st_200_45 gS2, st_200_45 gS, st_200_46 gS2, st_200_46 gS, st_200_47 gS2, st_200_47 gS, st_209_m2 gS2, st_209_m2 gS, st_209_m1 gS2, st_209_m1 gS, st_245_m2 gS2, st_245_m2 gS, st_245_m1 gS2, st_245_m1 gS, st_246_m2 gS2, st_246_m2 gS, st_246_m1 gS2, st_246_m1 gS, st_247_m2 gS2, st_247_m2 gS, st_247_m1 gS2, st_247_m1 gS]; first | done | omega)) (by first | assumption | (simp (disch := omega) only [up2_ne, up2_eq, k2, st_200_m1 gS2, st_200_m1 gS, st_200_9 gS2, st_200_9 gS, st_200_45 gS2, st_200_45 gS, st_200_46 gS2, st_200_46 gS, st_200_47 gS2, st_200_47 gS, st_209_m2 gS2, st_209_m2 gS, st_209_m1 gS2, st_209_m1 gS, st_245_m2 gS2, st_245_m2 gS, st_245_m1 gS2, st_245_m1 gS, st_246_m2 gS2, st_246_m2 gS, st_246_m1 gS2, st_246_m1 gS, st_247_m2 gS2, st_247_m2 gS, st_247_m1 gS2, st_247_m1 gS]; first | done | rfl | omega)) (by first | omega | (simp (disch := omega) only [up2_ne, up2_eq, k2, st_200_m1 gS2, st_200_m1 gS, st_200_9 gS2, st_200_9 gS, st_200_45 gS2, st_200_45 gS, st_200_46 gS2, st_200_46 gS, st_200_47 gS2, st_200_47 gS, st_209_m2 gS2, st_209_m2 gS, st_209_m1 gS2, st_209_m1 gS, st_245_m2 gS2, st_245_m2 gS, st_245_m1 gS2, st_245_m1 gS, st_246_m2 gS2, st_246_m2 gS, st_246_m1 gS2, st_246_m1 gS, st_247_m2 gS2, st_247_m2 gS, st_247_m1 gS2, st_247_m1 gS]; first | done | omega)) (by first | omega | (simp (disch := omega) only [up2_ne, up2_eq, k2, st_200_m1 gS2, st_200_m1 gS, st_200_9 gS2, st_200_9 gS, st_200_45 gS2, st_200_45 gS, st_200_46 gS2, st_200_46 gS, st_200_47 gS2, st_200_47 gS, st_209_m2 gS2, st_209_m2 gS, st_209_m1 gS2, st_209_m1 gS, st_245_m2 gS2, st_245_m2 gS, st_245_m1 gS2, st_245_m1 gS, st_246_m2 gS2, st_246_m2 gS, st_246_m1 gS2, st_246_m1 gS, st_247_m2 gS2, st_247_m2 gS, st_247_m1 gS2, st_247_m1 gS]; first | done | omega)) ?_
          try simp (disch := omega) only [up2_ne, up2_eq, k2, st_200_m1 gS2, st_200_m1 gS, st_200_9 gS2, st_200_9 gS, st_200_45 gS2, st_200_45 gS, st_200_46 gS2, st_200_46 gS, st_200_47 gS2, st_200_47 gS, st_209_m2 gS2, st_209_m2 gS, st_209_m1 gS2, st_209_m1 gS, st_245_m2 gS2, st_245_m2 gS, st_245_m1 gS2, st_245_m1 gS, st_246_m2 gS2, st_246_m2 gS, st_246_m1 gS2, st_246_m1 gS, st_247_m2 gS2, st_247_m2 gS, st_247_m1 gS2, st_247_m1 gS]
          refine wp_istore dX12_isPaired_345 rfl (Nat.le_of_ble_eq_true rfl) rfl ?_
          try simp only [List.set_cons_zero, List.set_cons_succ]
          refine wp_iload rfl dX12_isPaired_347 ?_
          refine wp_iconst dX12_isPaired_349 ?_
          refine wp_icmp_eq (tgt := 367) (by first | assumption | exact bI_in _ | exact ⟨by omega, by omega⟩ | exact iAnd_in | exact iOr_in | exact iShr_in | exact iShl_in | exact iXor_in | exact hxs _) (by first | assumption | exact bI_in _ | exact ⟨by omega, by omega⟩ | exact iAnd_in | exact iOr_in | exact iShr_in | exact iShl_in | exact iXor_in | exact hxs _) dX12_isPaired_350 (by decide) (fun c4 => by exfalso; omega) (fun c4 => ?_)
          refine wp_aload_n rfl rfl dX12_isPaired_353 ?_
          refine wp_getfield1 (z := 13) (kI := 45) fX12_189 dX12_isPaired_354 (by first | omega | (simp (disch := omega) only [up2_ne, up2_eq, k2, st_200_m1 gS2, st_200_m1 gS, st_200_9 gS2, st_200_9 gS, st_200_45 gS2, st_200_45 gS, st_200_46 gS2, st_200_46 gS, st_200_47 gS2, st_200_47 gS, st_209_m2 gS2, st_209_m2 gS, st_209_m1 gS2, st_209_m1 gS, st_245_m2 gS2, st_245_m2 gS, st_245_m1 gS2, st_245_m1 gS, st_246_m2 gS2, st_246_m2 gS, st_246_m1 gS2, st_246_m1 gS, st_247_m2 gS2, st_247_m2 gS, st_247_m1 gS2, st_247_m1 gS]; first | done | omega)) (by first | assumption | (simp (disch := omega) only [up2_ne, up2_eq, k2, st_200_m1 gS2, st_200_m1 gS, st_200_9 gS2, st_200_9 gS, st_200_45 gS2, st_200_45 gS, st_200_46 gS2, st_200_46 gS, st_200_47 gS2, st_200_47 gS, st_209_m2 gS2, st_209_m2 gS, st_209_m1 gS2, st_209_m1 gS, st_245_m2 gS2, st_245_m2 gS, st_245_m1 gS2, st_245_m1 gS, st_246_m2 gS2, st_246_m2 gS, st_246_m1 gS2, st_246_m1 gS, st_247_m2 gS2, st_247_m2 gS, st_247_m1 gS2, st_247_m1 gS]; first | done | rfl | omega)) rfl rfl ?_
          try simp (disch := omega) only [up2_ne, up2_eq, k2, st_200_m1 gS2, st_200_m1 gS, st_200_9 gS2, st_200_9 gS, st_200_45 gS2, st_200_45 gS, st_200_46 gS2, st_200_46 gS, st_200_47 gS2, st_200_47 gS, st_209_m2 gS2, st_209_m2 gS, st_209_m1 gS2, st_209_m1 gS, st_245_m2 gS2, st_245_m2 gS, st_245_m1 gS2, st_245_m1 gS, st_246_m2 gS2, st_246_m2 gS, st_246_m1 gS2, st_246_m1 gS, st_247_m2 gS2, st_247_m2 gS, st_247_m1 gS2, st_247_m1 gS]
          refine wp_bipush (by decide) dX12_isPaired_357 ?_
          refine wp_iload rfl dX12_isPaired_359 ?_
          refine wp_imul dX12_isPaired_361 ?_
          refine wp_iload rfl dX12_isPaired_362 ?_
          refine wp_iadd dX12_isPaired_364 ?_
          refine wp_iconst dX12_isPaired_365 ?_
          refine wp_zastore1 (by omega) dX12_isPaired_366 (by first | omega | (simp (disch := omega) only [up2_ne, up2_eq, k2, st_200_m1 gS2, st_200_m1 gS, st_200_9 gS2, st_200_9 gS, st_200_45 gS2, st_200_45 gS, st_200_46 gS2, st_200_46 gS, st_200_47 gS2, st_200_47 gS, st_209_m2 gS2, st_209_m2 gS, st_209_m1 gS2, st_209_m1 gS, st_245_m2 gS2, st_245_m2 gS, st_245_m1 gS2, st_245_m1 gS, st_246_m2 gS2, st_246_m2 gS, st_246_m1 gS2, st_246_m1 gS, st_247_m2 gS2, st_247_m2 gS, st_247_m1 gS2, st_247_m1 gS]; first | done | omega)) (by first | assumption | (simp (disch := omega) only [up2_ne, up2_eq, k2, st_200_m1 gS2, st_200_m1 gS, st_200_9 gS2, st_200_9 gS, st_200_45 gS2, st_200_45 gS, st_200_46 gS2, st_200_46 gS, st_200_47 gS2, st_200_47 gS, st_209_m2 gS2, st_209_m2 gS, st_209_m1 gS2, st_209_m1 gS, st_245_m2 gS2, st_245_m2 gS, st_245_m1 gS2, st_245_m1 gS, st_246_m2 gS2, st_246_m2 gS, st_246_m1 gS2, st_246_m1 gS, st_247_m2 gS2, st_247_m2 gS, st_247_m1 gS2, st_247_m1 gS]; first | done | rfl | omega)) (by first | omega | (simp (disch := omega) only [up2_ne, up2_eq, k2, st_200_m1 gS2, st_200_m1 gS, st_200_9 gS2, st_200_9 gS, st_200_45 gS2, st_200_45 gS, st_200_46 gS2, st_200_46 gS, st_200_47 gS2, st_200_47 gS, st_209_m2 gS2, st_209_m2 gS, st_209_m1 gS2, st_209_m1 gS, st_245_m2 gS2, st_245_m2 gS, st_245_m1 gS2, st_245_m1 gS, st_246_m2 gS2, st_246_m2 gS, st_246_m1 gS2, st_246_m1 gS, st_247_m2 gS2, st_247_m2 gS, st_247_m1 gS2, st_247_m1 gS]; first | done | omega)) (by first | omega | (simp (disch := omega) only [up2_ne, up2_eq, k2, st_200_m1 gS2, st_200_m1 gS, st_200_9 gS2, st_200_9 gS, st_200_45 gS2, st_200_45 gS, st_200_46 gS2, st_200_46 gS, st_200_47 gS2, st_200_47 gS, st_209_m2 gS2, st_209_m2 gS, st_209_m1 gS2, st_209_m1 gS, st_245_m2 gS2, st_245_m2 gS, st_245_m1 gS2, st_245_m1 gS, st_246_m2 gS2, st_246_m2 gS, st_246_m1 gS2, st_246_m1 gS, st_247_m2 gS2, st_247_m2 gS, st_247_m1 gS2, st_247_m1 gS]; first | done | omega)) ?_
          refine wp_goto (tgt := 293) dX12_isPaired_367 (by decide) ?_
          refine wp_dropAt 5 rfl ?_
          exact ih _ _ hst.1.1 hst.1.2 hst.2.1 (by omega) hst.2.2.2
        · refine wp_iconst dX12_isPaired_334 ?_
          refine wp_goto (tgt := 345) dX12_isPaired_335 (by decide) ?_
          refine wp_istore dX12_isPaired_345 rfl (Nat.le_of_ble_eq_true rfl) rfl ?_
          try simp only [List.set_cons_zero, List.set_cons_succ]
          refine wp_iload rfl dX12_isPaired_347 ?_
          refine wp_iconst dX12_isPaired_349 ?_
          refine wp_icmp_eq (tgt := 367) (by first | assumption | exact bI_in _ | exact ⟨by omega, by omega⟩ | exact iAnd_in | exact iOr_in | exact iShr_in | exact iShl_in | exact iXor_in | exact hxs _) (by first | assumption | exact bI_in _ | exact ⟨by omega, by omega⟩ | exact iAnd_in | exact iOr_in | exact iShr_in | exact iShl_in | exact iXor_in | exact hxs _) dX12_isPaired_350 (by decide) (fun hx => ?_) (fun hx => absurd hx (by decide))
          refine wp_goto (tgt := 293) dX12_isPaired_367 (by decide) ?_
          refine wp_iload rfl dX12_isPaired_293 ?_
          refine wp_iconst dX12_isPaired_295 ?_
          refine wp_icmp_eq (tgt := 370) (by first | assumption | exact bI_in _ | exact ⟨by omega, by omega⟩ | exact iAnd_in | exact iOr_in | exact iShr_in | exact iShl_in | exact iXor_in | exact hxs _) (by first | assumption | exact bI_in _ | exact ⟨by omega, by omega⟩ | exact iAnd_in | exact iOr_in | exact iShr_in | exact iShl_in | exact iXor_in | exact hxs _) dX12_isPaired_296 (by decide) (fun hx => ?_) (fun hx => absurd hx (by decide))
          refine wp_iload_n rfl rfl dX12_isPaired_370 ?_
          refine wp_iconst dX12_isPaired_371 ?_
          refine wp_icmp_eq (tgt := 379) (by first | assumption | exact bI_in _ | exact ⟨by omega, by omega⟩ | exact iAnd_in | exact iOr_in | exact iShr_in | exact iShl_in | exact iXor_in | exact hxs _) (by first | assumption | exact bI_in _ | exact ⟨by omega, by omega⟩ | exact iAnd_in | exact iOr_in | exact iShr_in | exact iShl_in | exact iXor_in | exact hxs _) dX12_isPaired_372 (by decide) (fun c55 => ?_) (fun c55 => ?_)
          · refine wp_iconst dX12_isPaired_379 ?_
            refine wp_zret (by first | exact Or.inl rfl | exact Or.inr rfl | omega) dX12_isPaired_380 rfl ?_
            first
              | (exfalso; omega)
              | (have hfr : g 247 r = fr := by
                   rcases F.1 _ hE.1.1 hE.1.2 with z | z | z
                   · exfalso; omega
                   · exact z.1
                   · exfalso; omega
                 have hE3 := hE.2.2.1
                 rw [hfr] at hE3
                 have hE2 := hE.2.1
                 rw [hfr] at hE2
                 refine ⟨by first | exact hE2 | (rw [hfr]; exact hE2), fun x k q => ?_, Or.inl ⟨rfl, by first | exact hE3 | (rw [hfr]; exact hE3)⟩⟩
                 rw [up2_ne (by omega), k2 x k (by omega)]
                 exact gK x k (by omega))
          · refine wp_iconst dX12_isPaired_375 ?_
            refine wp_goto (tgt := 380) dX12_isPaired_376 (by decide) ?_
            refine wp_zret (by first | exact Or.inl rfl | exact Or.inr rfl | omega) dX12_isPaired_380 rfl ?_
            first
              | (exfalso; omega)
              | (have hfr : g 247 r = fr := by
                   rcases F.1 _ hE.1.1 hE.1.2 with z | z | z
                   · exfalso; omega
                   · exact z.1
                   · exfalso; omega
                 have hE3 := hE.2.2.1
                 rw [hfr] at hE3
                 have hE2 := hE.2.1
                 rw [hfr] at hE2
                 refine ⟨by first | exact hE2 | (rw [hfr]; exact hE2), fun x k q => ?_, Or.inl ⟨rfl, by first | exact hE3 | (rw [hfr]; exact hE3)⟩⟩
                 rw [up2_ne (by omega), k2 x k (by omega)]
                 exact gK x k (by omega))
  have fin : ∀ (g : mH) (en mo : Int), sS m h fr g en → (en ≠ -1 ∨ closR m h g) → WP (gX (gq u)) MX12_isPaired (d + 3) b (fun r h1 => stM m h1 ∧ (∀ x k : Int, ¬ ((x = 245 ∨ x = 246 ∨ x = 247) ∧ 0 ≤ k) → h1 x k = h x k) ∧ ((r = (0, 1) ∧ ∀ a : Int, 0 ≤ a → a < m 200 10 → degP m (Mr h1) a = inc (degP m (Mr h)) fr a) ∨ (r = (0, 0) ∧ Mr h1 = Mr h ∧ ¬ Feas m (inc (degP m (Mr h)) fr)))) 290 [(2, 200), (0, fr), (0, en), (0, mo), (9, 0), (9, 0), (9, 0)] [] g := by
    intro g en mo S hc
    have gS := S.1
    have gK := S.2.1
    have SM := stM_Kab SH gS gK
    have eM := Mr_Kab gK
    by_cases hen : en = -1
    · subst hen
      refine wp_iload_n rfl rfl dX12_isPaired_290 ?_
      refine wp_istore dX12_isPaired_291 rfl (Nat.le_of_ble_eq_true rfl) rfl ?_
      try simp only [List.set_cons_zero, List.set_cons_succ]
      refine wp_iload rfl dX12_isPaired_293 ?_
      refine wp_iconst dX12_isPaired_295 ?_
      refine wp_icmp_eq (tgt := 370) (by first | assumption | exact bI_in _ | exact ⟨by omega, by omega⟩ | exact iAnd_in | exact iOr_in | exact iShr_in | exact iShl_in | exact iXor_in | exact hxs _) (by first | assumption | exact bI_in _ | exact ⟨by omega, by omega⟩ | exact iAnd_in | exact iOr_in | exact iShr_in | exact iShl_in | exact iXor_in | exact hxs _) dX12_isPaired_296 (by decide) (fun hx => ?_) (fun hx => absurd hx (by decide))
      refine wp_iload_n rfl rfl dX12_isPaired_370 ?_
      refine wp_iconst dX12_isPaired_371 ?_
      refine wp_icmp_eq (tgt := 379) (by first | assumption | exact bI_in _ | exact ⟨by omega, by omega⟩ | exact iAnd_in | exact iOr_in | exact iShr_in | exact iShl_in | exact iXor_in | exact hxs _) (by first | assumption | exact bI_in _ | exact ⟨by omega, by omega⟩ | exact iAnd_in | exact iOr_in | exact iShr_in | exact iShl_in | exact iXor_in | exact hxs _) dX12_isPaired_372 (by decide) (fun hx => ?_) (fun hx => absurd hx (by decide))
      refine wp_iconst dX12_isPaired_379 ?_
      refine wp_zret (by first | exact Or.inl rfl | exact Or.inr rfl | omega) dX12_isPaired_380 rfl ?_
      have hcl : closR m h g := by rcases hc with z | z; exact absurd rfl z; exact z
      exact ⟨SM, fun x k q => gK x k (by omega), Or.inr ⟨rfl, eM, rcut SH.2.2.1 f0 f1 (by omega) S hcl⟩⟩
    · obtain ⟨S1, S2, ⟨dA, dR, F⟩, S4⟩ := S
      have h4 : 0 ≤ en ∧ en < m 200 6 ∧ g 247 en ≠ -1 ∧ useP m (Mr h) en < m 209 en := by
        rcases S4 with z | z
        · exact absurd z.1 hen
        · exact z
      refine wp_iload_n rfl rfl dX12_isPaired_290 ?_
      refine wp_istore dX12_isPaired_291 rfl (Nat.le_of_ble_eq_true rfl) rfl ?_
      try simp only [List.set_cons_zero, List.set_cons_succ]
      exact path g en mo dA dR h4.1 h4.2.1 S1 S2 F (dR en + 1) g en h4.1 h4.2.1 h4.2.2.1 (by omega) ⟨SM, fun _ _ _ => rfl, by rw [eM]; exact h4.2.2.2, fun a _ _ => by rw [eM], fun s s0 s1 q _ => by rw [eM]; rcases F.2.1 s s0 s1 with z | z; exact absurd z q; exact z.2.2.2.1, fun b b0 b1 q1 q2 _ => by rw [eM]; rcases F.1 b b0 b1 with z | z | z; exfalso; omega; exact absurd z.1 q1; exact z.2.2.2.1⟩
  have ex58 : ∀ (g : mH) (en mo : Int), sS m h fr g en → mo = 0 → (en ≠ -1 ∨ closR m h g) → WP (gX (gq u)) MX12_isPaired (d + 3) b (fun r h1 => stM m h1 ∧ (∀ x k : Int, ¬ ((x = 245 ∨ x = 246 ∨ x = 247) ∧ 0 ≤ k) → h1 x k = h x k) ∧ ((r = (0, 1) ∧ ∀ a : Int, 0 ≤ a → a < m 200 10 → degP m (Mr h1) a = inc (degP m (Mr h)) fr a) ∨ (r = (0, 0) ∧ Mr h1 = Mr h ∧ ¬ Feas m (inc (degP m (Mr h)) fr)))) 58 [(2, 200), (0, fr), (0, en), (0, mo), (9, 0), (9, 0), (9, 0)] [] g := by
    intro g en mo S hmo hc
    refine wp_iload_n rfl rfl dX12_isPaired_58 ?_
    refine wp_if_eq (tgt := 290) (by first | assumption | exact bI_in _ | exact ⟨by omega, by omega⟩ | exact iAnd_in | exact iOr_in | exact iShr_in | exact iShl_in | exact iXor_in | exact hxs _) dX12_isPaired_59 (by decide) (fun c5 => ?_) (fun c5 => by exfalso; omega)
    exact fin g en mo S hc
  have wh : ∀ (f : Nat) (gs : mH) (en mo : Int), sS m h fr gs en → unR m gs < f → mo = 1 → WP (gX (gq u)) MX12_isPaired (d + 3) b (fun r h1 => stM m h1 ∧ (∀ x k : Int, ¬ ((x = 245 ∨ x = 246 ∨ x = 247) ∧ 0 ≤ k) → h1 x k = h x k) ∧ ((r = (0, 1) ∧ ∀ a : Int, 0 ≤ a → a < m 200 10 → degP m (Mr h1) a = inc (degP m (Mr h)) fr a) ∨ (r = (0, 0) ∧ Mr h1 = Mr h ∧ ¬ Feas m (inc (degP m (Mr h)) fr)))) 58 [(2, 200), (0, fr), (0, en), (0, mo), (9, 0), (9, 0), (9, 0)] [] gs := by
    intro f
    induction f with
    | zero =>
      intro gs en mo S hu
      have := unR_b (m := m) (g := gs) (by omega) (by omega)
      exfalso
      omega
    | succ f ih =>
      intro gs en0 mo0 Ss hu hmo0
      have sw2 : ∀ n : Nat, n ≤ (m 200 10 * 8).toNat → ∀ (g : mH) (mo en : Int), swI m h fr gs g mo en ((∀ i : Int, 0 ≤ i → i < m 200 10 * 8 → ¬ cnd1 m h gs (i / 8) (i % 8)) ∧ ∀ i : Int, 0 ≤ i → i < (n : Int) → ¬ cnd2 m h gs (i / 8) (i % 8)) → WP (gX (gq u)) MX12_isPaired (d + 3) b (fun r h1 => stM m h1 ∧ (∀ x k : Int, ¬ ((x = 245 ∨ x = 246 ∨ x = 247) ∧ 0 ≤ k) → h1 x k = h x k) ∧ ((r = (0, 1) ∧ ∀ a : Int, 0 ≤ a → a < m 200 10 → degP m (Mr h1) a = inc (degP m (Mr h)) fr a) ∨ (r = (0, 0) ∧ Mr h1 = Mr h ∧ ¬ Feas m (inc (degP m (Mr h)) fr)))) 198 [(2, 200), (0, fr), (0, en), (0, mo), (0, (n : Int)), (9, 0), (9, 0)] [] g := by
        refine loop_w (m 200 10 * 8).toNat (fun n hn2 ihn => ?_)
        intro g mo en I
        have gS := I.1.1
        have gK := I.1.2.1
        have ge : Cr g m := fun x k q => by rw [gK x k (by omega)]; exact e x k q
        have SM := stM_Kab SH gS gK
        have eM := Mr_Kab gK
        obtain ⟨dA, dR, F⟩ := I.1.2.2.1
        have hrg := fI2_rng F (by omega) (by omega)
        have h46 := fun z : (n : Int) / 8 < m 200 10 => hrg.1 ((n : Int) / 8) (by omega) z
        have h47 := fun z : (n : Int) % 8 < m 200 6 => hrg.2 ((n : Int) % 8) (by omega) z
        have hen : en = -1 ∨ (0 ≤ en ∧ en < m 200 6) := by rcases I.1.2.2.2 with z | z; exact Or.inl z.1; exact Or.inr ⟨z.1, z.2.1⟩
        have h45 : Mr h ((n : Int) / 8) ((n : Int) % 8) = g 245 n := by show h 245 (8 * ((n : Int) / 8) + (n : Int) % 8) = _; rw [show 8 * ((n : Int) / 8) + (n : Int) % 8 = (n : Int) by omega, gK 245 n (by omega)]
        have h01 := fun z : (n : Int) < m 200 10 * 8 => SM.2.1 ((n : Int) / 8) ((n : Int) % 8) (by omega) (by omega) (by omega) (by omega)
        rw [show 8 * ((n : Int) / 8) + (n : Int) % 8 = (n : Int) by omega] at h01
        refine wp_iload rfl dX12_isPaired_198 ?_
        refine wp_aload_n rfl rfl dX12_isPaired_200 ?_
        refine wp_getfield1 (z := 13) (kI := 10) fX12_10 dX12_isPaired_201 (by first | omega | (simp (disch := omega) only [up2_ne, up2_eq, ge, tm8, td8, st_200_m1 gS, st_200_m1 H.1, st_200_9 gS, st_200_9 H.1, st_200_45 gS, st_200_45 H.1, st_200_46 gS, st_200_46 H.1, st_200_47 gS, st_200_47 H.1, st_209_m2 gS, st_209_m2 H.1, st_209_m1 gS, st_209_m1 H.1, st_245_m2 gS, st_245_m2 H.1, st_245_m1 gS, st_245_m1 H.1, st_246_m2 gS, st_246_m2 H.1, st_246_m1 gS, st_246_m1 H.1, st_247_m2 gS, st_247_m2 H.1, st_247_m1 gS, st_247_m1 H.1]; first | done | omega)) (by first | assumption | (simp (disch := omega) only [up2_ne, up2_eq, ge, tm8, td8, st_200_m1 gS, st_200_m1 H.1, st_200_9 gS, st_200_9 H.1, st_200_45 gS, st_200_45 H.1, st_200_46 gS, st_200_46 H.1, st_200_47 gS, st_200_47 H.1, st_209_m2 gS, st_209_m2 H.1, st_209_m1 gS, st_209_m1 H.1, st_245_m2 gS, st_245_m2 H.1, st_245_m1 gS, st_245_m1 H.1, st_246_m2 gS, st_246_m2 H.1, st_246_m1 gS, st_246_m1 H.1, st_247_m2 gS, st_247_m2 H.1, st_247_m1 gS, st_247_m1 H.1]; first | done | rfl | omega)) rfl rfl ?_
        try simp (disch := omega) only [up2_ne, up2_eq, ge, tm8, td8, st_200_m1 gS, st_200_m1 H.1, st_200_9 gS, st_200_9 H.1, st_200_45 gS, st_200_45 H.1, st_200_46 gS, st_200_46 H.1, st_200_47 gS, st_200_47 H.1, st_209_m2 gS, st_209_m2 H.1, st_209_m1 gS, st_209_m1 H.1, st_245_m2 gS, st_245_m2 H.1, st_245_m1 gS, st_245_m1 H.1, st_246_m2 gS, st_246_m2 H.1, st_246_m1 gS, st_246_m1 H.1, st_247_m2 gS, st_247_m2 H.1, st_247_m1 gS, st_247_m1 H.1]
        refine wp_bipush (by decide) dX12_isPaired_204 ?_
        refine wp_imul dX12_isPaired_206 ?_
        refine wp_icmp_ge (tgt := 287) (by first | assumption | exact bI_in _ | exact ⟨by omega, by omega⟩ | exact iAnd_in | exact iOr_in | exact iShr_in | exact iShl_in | exact iXor_in | exact hxs _) (by first | assumption | exact bI_in _ | exact ⟨by omega, by omega⟩ | exact iAnd_in | exact iOr_in | exact iShr_in | exact iShl_in | exact iXor_in | exact hxs _) dX12_isPaired_207 (by decide) (fun c6 => ?_) (fun c6 => ?_)
        · refine wp_goto (tgt := 58) dX12_isPaired_287 (by decide) ?_
          refine wp_dropAt 4 rfl (wp_dropAt 5 rfl (wp_dropAt 6 rfl ?_))
          rcases I.2 with ⟨z1, z2, z3, z4, z5⟩ | ⟨z1, z2⟩
          · refine ex58 g en mo I.1 z1 (Or.inr ?_)
            rw [z3]
            intro a r a0 a1 r0 r1
            have y1 := z4 (8 * a + r) (by omega) (by omega)
            have y2 := z5 (8 * a + r) (by omega) (by omega)
            rw [show (8 * a + r) / 8 = a by omega, show (8 * a + r) % 8 = r by omega] at y1 y2
            exact ⟨y1, y2⟩
          · exact ih g en mo I.1 (by omega) z1
        · refine wp_iload_n rfl rfl dX12_isPaired_210 ?_
          refine wp_iconst dX12_isPaired_211 ?_
          refine wp_icmp_ne (tgt := 287) (by first | assumption | exact bI_in _ | exact ⟨by omega, by omega⟩ | exact iAnd_in | exact iOr_in | exact iShr_in | exact iShl_in | exact iXor_in | exact hxs _) (by first | assumption | exact bI_in _ | exact ⟨by omega, by omega⟩ | exact iAnd_in | exact iOr_in | exact iShr_in | exact iShl_in | exact iXor_in | exact hxs _) dX12_isPaired_212 (by decide) (fun c7 => ?_) (fun c7 => ?_)
          · refine wp_goto (tgt := 58) dX12_isPaired_287 (by decide) ?_
            refine wp_dropAt 4 rfl (wp_dropAt 5 rfl (wp_dropAt 6 rfl ?_))
            rcases I.2 with ⟨z1, z2, z3, z4, z5⟩ | ⟨z1, z2⟩
            · refine ex58 g en mo I.1 z1 (Or.inr ?_)
              rw [z3]
              intro a r a0 a1 r0 r1
              have y1 := z4 (8 * a + r) (by omega) (by omega)
              have y2 := z5 (8 * a + r) (by omega) (by omega)
              rw [show (8 * a + r) / 8 = a by omega, show (8 * a + r) % 8 = r by omega] at y1 y2
              exact ⟨y1, y2⟩
            · exact ih g en mo I.1 (by omega) z1
          · refine wp_iload rfl dX12_isPaired_215 ?_
            refine wp_bipush (by decide) dX12_isPaired_217 ?_
            refine wp_idiv (by first | assumption | exact bI_in _ | exact ⟨by omega, by omega⟩ | exact iAnd_in | exact iOr_in | exact iShr_in | exact iShl_in | exact iXor_in | exact hxs _) (by first | assumption | exact bI_in _ | exact ⟨by omega, by omega⟩ | exact iAnd_in | exact iOr_in | exact iShr_in | exact iShl_in | exact iXor_in | exact hxs _) (by omega) dX12_isPaired_219 ?_
            try simp (disch := omega) only [up2_ne, up2_eq, ge, tm8, td8, st_200_m1 gS, st_200_m1 H.1, st_200_9 gS, st_200_9 H.1, st_200_45 gS, st_200_45 H.1, st_200_46 gS, st_200_46 H.1, st_200_47 gS, st_200_47 H.1, st_209_m2 gS, st_209_m2 H.1, st_209_m1 gS, st_209_m1 H.1, st_245_m2 gS, st_245_m2 H.1, st_245_m1 gS, st_245_m1 H.1, st_246_m2 gS, st_246_m2 H.1, st_246_m1 gS, st_246_m1 H.1, st_247_m2 gS, st_247_m2 H.1, st_247_m1 gS, st_247_m1 H.1]
            refine wp_istore dX12_isPaired_220 rfl (Nat.le_of_ble_eq_true rfl) rfl ?_
            try simp only [List.set_cons_zero, List.set_cons_succ]
            refine wp_iload rfl dX12_isPaired_222 ?_
            refine wp_bipush (by decide) dX12_isPaired_224 ?_
            refine wp_irem (by first | assumption | exact bI_in _ | exact ⟨by omega, by omega⟩ | exact iAnd_in | exact iOr_in | exact iShr_in | exact iShl_in | exact iXor_in | exact hxs _) (by first | assumption | exact bI_in _ | exact ⟨by omega, by omega⟩ | exact iAnd_in | exact iOr_in | exact iShr_in | exact iShl_in | exact iXor_in | exact hxs _) (by omega) dX12_isPaired_226 ?_
            try simp (disch := omega) only [up2_ne, up2_eq, ge, tm8, td8, st_200_m1 gS, st_200_m1 H.1, st_200_9 gS, st_200_9 H.1, st_200_45 gS, st_200_45 H.1, st_200_46 gS, st_200_46 H.1, st_200_47 gS, st_200_47 H.1, st_209_m2 gS, st_209_m2 H.1, st_209_m1 gS, st_209_m1 H.1, st_245_m2 gS, st_245_m2 H.1, st_245_m1 gS, st_245_m1 H.1, st_246_m2 gS, st_246_m2 H.1, st_246_m1 gS, st_246_m1 H.1, st_247_m2 gS, st_247_m2 H.1, st_247_m1 gS, st_247_m1 H.1]
            refine wp_istore dX12_isPaired_227 rfl (Nat.le_of_ble_eq_true rfl) rfl ?_
            try simp only [List.set_cons_zero, List.set_cons_succ]
            refine wp_iload rfl dX12_isPaired_229 ?_
            refine wp_aload_n rfl rfl dX12_isPaired_231 ?_
            refine wp_getfield1 (z := 13) (kI := 6) fX12_7 dX12_isPaired_232 (by first | omega | (simp (disch := omega) only [up2_ne, up2_eq, ge, tm8, td8, st_200_m1 gS, st_200_m1 H.1, st_200_9 gS, st_200_9 H.1, st_200_45 gS, st_200_45 H.1, st_200_46 gS, st_200_46 H.1, st_200_47 gS, st_200_47 H.1, st_209_m2 gS, st_209_m2 H.1, st_209_m1 gS, st_209_m1 H.1, st_245_m2 gS, st_245_m2 H.1, st_245_m1 gS, st_245_m1 H.1, st_246_m2 gS, st_246_m2 H.1, st_246_m1 gS, st_246_m1 H.1, st_247_m2 gS, st_247_m2 H.1, st_247_m1 gS, st_247_m1 H.1]; first | done | omega)) (by first | assumption | (simp (disch := omega) only [up2_ne, up2_eq, ge, tm8, td8, st_200_m1 gS, st_200_m1 H.1, st_200_9 gS, st_200_9 H.1, st_200_45 gS, st_200_45 H.1, st_200_46 gS, st_200_46 H.1, st_200_47 gS, st_200_47 H.1, st_209_m2 gS, st_209_m2 H.1, st_209_m1 gS, st_209_m1 H.1, st_245_m2 gS, st_245_m2 H.1, st_245_m1 gS, st_245_m1 H.1, st_246_m2 gS, st_246_m2 H.1, st_246_m1 gS, st_246_m1 H.1, st_247_m2 gS, st_247_m2 H.1, st_247_m1 gS, st_247_m1 H.1]; first | done | rfl | omega)) rfl rfl ?_
            try simp (disch := omega) only [up2_ne, up2_eq, ge, tm8, td8, st_200_m1 gS, st_200_m1 H.1, st_200_9 gS, st_200_9 H.1, st_200_45 gS, st_200_45 H.1, st_200_46 gS, st_200_46 H.1, st_200_47 gS, st_200_47 H.1, st_209_m2 gS, st_209_m2 H.1, st_209_m1 gS, st_209_m1 H.1, st_245_m2 gS, st_245_m2 H.1, st_245_m1 gS, st_245_m1 H.1, st_246_m2 gS, st_246_m2 H.1, st_246_m1 gS, st_246_m1 H.1, st_247_m2 gS, st_247_m2 H.1, st_247_m1 gS, st_247_m1 H.1]
            refine wp_icmp_ge (tgt := 281) (by first | assumption | exact bI_in _ | exact ⟨by omega, by omega⟩ | exact iAnd_in | exact iOr_in | exact iShr_in | exact iShl_in | exact iXor_in | exact hxs _) (by first | assumption | exact bI_in _ | exact ⟨by omega, by omega⟩ | exact iAnd_in | exact iOr_in | exact iShr_in | exact iShl_in | exact iXor_in | exact hxs _) dX12_isPaired_235 (by decide) (fun c8 => ?_) (fun c8 => ?_)
            · refine wp_iinc rfl rfl dX12_isPaired_281 rfl rfl ?_
              try simp only [List.set_cons_zero, List.set_cons_succ]
              refine wp_goto (tgt := 198) dX12_isPaired_284 (by decide) ?_
              have e0 : en = -1 := by omega
              subst e0
              have h01 := h01 (by omega)
              refine wp_dropAt 5 rfl (wp_dropAt 6 rfl ?_)
              first
                | (have hx := sS_a I.1 (a := (n : Int) / 8) (r := (n : Int) % 8) (by omega) (by omega) (by omega) (by omega) (by omega) (by assumption) (by omega)
                   exact ihn (by omega) _ 1 _ ⟨hx.1, Or.inr ⟨rfl, by rcases I.2 with z | z; rw [← z.2.2.1]; exact hx.2; omega⟩⟩)
                | (refine ihn (by omega) g mo (-1) ⟨I.1, ?_⟩
                   rcases I.2 with ⟨z1, z2, z3, z4, z5⟩ | z
                   · refine Or.inl ⟨z1, z2, z3, z4, fun i i0 i1 => ?_⟩
                     by_cases c : i = n
                     · subst c
                       rw [← z3]
                       rintro ⟨y1, y2, y3, y4⟩
                       first | contradiction | omega
                     · exact z5 i i0 (by omega)
                   · exact Or.inr z)
            · have h46 := h46 (by omega)
              have h47 := h47 (by omega)
              refine wp_aload_n rfl rfl dX12_isPaired_238 ?_
              refine wp_getfield1 (z := 13) (kI := 47) fX12_195 dX12_isPaired_239 (by first | omega | (simp (disch := omega) only [up2_ne, up2_eq, ge, tm8, td8, st_200_m1 gS, st_200_m1 H.1, st_200_9 gS, st_200_9 H.1, st_200_45 gS, st_200_45 H.1, st_200_46 gS, st_200_46 H.1, st_200_47 gS, st_200_47 H.1, st_209_m2 gS, st_209_m2 H.1, st_209_m1 gS, st_209_m1 H.1, st_245_m2 gS, st_245_m2 H.1, st_245_m1 gS, st_245_m1 H.1, st_246_m2 gS, st_246_m2 H.1, st_246_m1 gS, st_246_m1 H.1, st_247_m2 gS, st_247_m2 H.1, st_247_m1 gS, st_247_m1 H.1]; first | done | omega)) (by first | assumption | (simp (disch := omega) only [up2_ne, up2_eq, ge, tm8, td8, st_200_m1 gS, st_200_m1 H.1, st_200_9 gS, st_200_9 H.1, st_200_45 gS, st_200_45 H.1, st_200_46 gS, st_200_46 H.1, st_200_47 gS, st_200_47 H.1, st_209_m2 gS, st_209_m2 H.1, st_209_m1 gS, st_209_m1 H.1, st_245_m2 gS, st_245_m2 H.1, st_245_m1 gS, st_245_m1 H.1, st_246_m2 gS, st_246_m2 H.1, st_246_m1 gS, st_246_m1 H.1, st_247_m2 gS, st_247_m2 H.1, st_247_m1 gS, st_247_m1 H.1]; first | done | rfl | omega)) rfl rfl ?_
              try simp (disch := omega) only [up2_ne, up2_eq, ge, tm8, td8, st_200_m1 gS, st_200_m1 H.1, st_200_9 gS, st_200_9 H.1, st_200_45 gS, st_200_45 H.1, st_200_46 gS, st_200_46 H.1, st_200_47 gS, st_200_47 H.1, st_209_m2 gS, st_209_m2 H.1, st_209_m1 gS, st_209_m1 H.1, st_245_m2 gS, st_245_m2 H.1, st_245_m1 gS, st_245_m1 H.1, st_246_m2 gS, st_246_m2 H.1, st_246_m1 gS, st_246_m1 H.1, st_247_m2 gS, st_247_m2 H.1, st_247_m1 gS, st_247_m1 H.1]
              refine wp_iload rfl dX12_isPaired_242 ?_
              refine wp_iaload1 dX12_isPaired_244 (by first | omega | (simp (disch := omega) only [up2_ne, up2_eq, ge, tm8, td8, st_200_m1 gS, st_200_m1 H.1, st_200_9 gS, st_200_9 H.1, st_200_45 gS, st_200_45 H.1, st_200_46 gS, st_200_46 H.1, st_200_47 gS, st_200_47 H.1, st_209_m2 gS, st_209_m2 H.1, st_209_m1 gS, st_209_m1 H.1, st_245_m2 gS, st_245_m2 H.1, st_245_m1 gS, st_245_m1 H.1, st_246_m2 gS, st_246_m2 H.1, st_246_m1 gS, st_246_m1 H.1, st_247_m2 gS, st_247_m2 H.1, st_247_m1 gS, st_247_m1 H.1]; first | done | omega)) (by first | assumption | (simp (disch := omega) only [up2_ne, up2_eq, ge, tm8, td8, st_200_m1 gS, st_200_m1 H.1, st_200_9 gS, st_200_9 H.1, st_200_45 gS, st_200_45 H.1, st_200_46 gS, st_200_46 H.1, st_200_47 gS, st_200_47 H.1, st_209_m2 gS, st_209_m2 H.1, st_209_m1 gS, st_209_m1 H.1, st_245_m2 gS, st_245_m2 H.1, st_245_m1 gS, st_245_m1 H.1, st_246_m2 gS, st_246_m2 H.1, st_246_m1 gS, st_246_m1 H.1, st_247_m2 gS, st_247_m2 H.1, st_247_m1 gS, st_247_m1 H.1]; first | done | rfl | omega)) (by first | omega | (simp (disch := omega) only [up2_ne, up2_eq, ge, tm8, td8, st_200_m1 gS, st_200_m1 H.1, st_200_9 gS, st_200_9 H.1, st_200_45 gS, st_200_45 H.1, st_200_46 gS, st_200_46 H.1, st_200_47 gS, st_200_47 H.1, st_209_m2 gS, st_209_m2 H.1, st_209_m1 gS, st_209_m1 H.1, st_245_m2 gS, st_245_m2 H.1, st_245_m1 gS, st_245_m1 H.1, st_246_m2 gS, st_246_m2 H.1, st_246_m1 gS, st_246_m1 H.1, st_247_m2 gS, st_247_m2 H.1, st_247_m1 gS, st_247_m1 H.1]; first | done | omega)) (by first | omega | (simp (disch := omega) only [up2_ne, up2_eq, ge, tm8, td8, st_200_m1 gS, st_200_m1 H.1, st_200_9 gS, st_200_9 H.1, st_200_45 gS, st_200_45 H.1, st_200_46 gS, st_200_46 H.1, st_200_47 gS, st_200_47 H.1, st_209_m2 gS, st_209_m2 H.1, st_209_m1 gS, st_209_m1 H.1, st_245_m2 gS, st_245_m2 H.1, st_245_m1 gS, st_245_m1 H.1, st_246_m2 gS, st_246_m2 H.1, st_246_m1 gS, st_246_m1 H.1, st_247_m2 gS, st_247_m2 H.1, st_247_m1 gS, st_247_m1 H.1]; first | done | omega)) ?_
              try simp (disch := omega) only [up2_ne, up2_eq, ge, tm8, td8, st_200_m1 gS, st_200_m1 H.1, st_200_9 gS, st_200_9 H.1, st_200_45 gS, st_200_45 H.1, st_200_46 gS, st_200_46 H.1, st_200_47 gS, st_200_47 H.1, st_209_m2 gS, st_209_m2 H.1, st_209_m1 gS, st_209_m1 H.1, st_245_m2 gS, st_245_m2 H.1, st_245_m1 gS, st_245_m1 H.1, st_246_m2 gS, st_246_m2 H.1, st_246_m1 gS, st_246_m1 H.1, st_247_m2 gS, st_247_m2 H.1, st_247_m1 gS, st_247_m1 H.1]
              refine wp_iconst dX12_isPaired_245 ?_
              refine wp_icmp_eq (tgt := 281) (by first | assumption | exact bI_in _ | exact ⟨by omega, by omega⟩ | exact iAnd_in | exact iOr_in | exact iShr_in | exact iShl_in | exact iXor_in | exact hxs _) (by first | assumption | exact bI_in _ | exact ⟨by omega, by omega⟩ | exact iAnd_in | exact iOr_in | exact iShr_in | exact iShl_in | exact iXor_in | exact hxs _) dX12_isPaired_246 (by decide) (fun c9 => ?_) (fun c9 => ?_)
              · refine wp_iinc rfl rfl dX12_isPaired_281 rfl rfl ?_
                try simp only [List.set_cons_zero, List.set_cons_succ]
                refine wp_goto (tgt := 198) dX12_isPaired_284 (by decide) ?_
                have e0 : en = -1 := by omega
                subst e0
                have h01 := h01 (by omega)
                refine wp_dropAt 5 rfl (wp_dropAt 6 rfl ?_)
                first
                  | (have hx := sS_a I.1 (a := (n : Int) / 8) (r := (n : Int) % 8) (by omega) (by omega) (by omega) (by omega) (by omega) (by assumption) (by omega)
                     exact ihn (by omega) _ 1 _ ⟨hx.1, Or.inr ⟨rfl, by rcases I.2 with z | z; rw [← z.2.2.1]; exact hx.2; omega⟩⟩)
                  | (refine ihn (by omega) g mo (-1) ⟨I.1, ?_⟩
                     rcases I.2 with ⟨z1, z2, z3, z4, z5⟩ | z
                     · refine Or.inl ⟨z1, z2, z3, z4, fun i i0 i1 => ?_⟩
                       by_cases c : i = n
                       · subst c
                         rw [← z3]
                         rintro ⟨y1, y2, y3, y4⟩
                         first | contradiction | omega
                       · exact z5 i i0 (by omega)
                     · exact Or.inr z)
              · refine wp_aload_n rfl rfl dX12_isPaired_249 ?_
                refine wp_getfield1 (z := 13) (kI := 46) fX12_192 dX12_isPaired_250 (by first | omega | (simp (disch := omega) only [up2_ne, up2_eq, ge, tm8, td8, st_200_m1 gS, st_200_m1 H.1, st_200_9 gS, st_200_9 H.1, st_200_45 gS, st_200_45 H.1, st_200_46 gS, st_200_46 H.1, st_200_47 gS, st_200_47 H.1, st_209_m2 gS, st_209_m2 H.1, st_209_m1 gS, st_209_m1 H.1, st_245_m2 gS, st_245_m2 H.1, st_245_m1 gS, st_245_m1 H.1, st_246_m2 gS, st_246_m2 H.1, st_246_m1 gS, st_246_m1 H.1, st_247_m2 gS, st_247_m2 H.1, st_247_m1 gS, st_247_m1 H.1]; first | done | omega)) (by first | assumption | (simp (disch := omega) only [up2_ne, up2_eq, ge, tm8, td8, st_200_m1 gS, st_200_m1 H.1, st_200_9 gS, st_200_9 H.1, st_200_45 gS, st_200_45 H.1, st_200_46 gS, st_200_46 H.1, st_200_47 gS, st_200_47 H.1, st_209_m2 gS, st_209_m2 H.1, st_209_m1 gS, st_209_m1 H.1, st_245_m2 gS, st_245_m2 H.1, st_245_m1 gS, st_245_m1 H.1, st_246_m2 gS, st_246_m2 H.1, st_246_m1 gS, st_246_m1 H.1, st_247_m2 gS, st_247_m2 H.1, st_247_m1 gS, st_247_m1 H.1]; first | done | rfl | omega)) rfl rfl ?_
                try simp (disch := omega) only [up2_ne, up2_eq, ge, tm8, td8, st_200_m1 gS, st_200_m1 H.1, st_200_9 gS, st_200_9 H.1, st_200_45 gS, st_200_45 H.1, st_200_46 gS, st_200_46 H.1, st_200_47 gS, st_200_47 H.1, st_209_m2 gS, st_209_m2 H.1, st_209_m1 gS, st_209_m1 H.1, st_245_m2 gS, st_245_m2 H.1, st_245_m1 gS, st_245_m1 H.1, st_246_m2 gS, st_246_m2 H.1, st_246_m1 gS, st_246_m1 H.1, st_247_m2 gS, st_247_m2 H.1, st_247_m1 gS, st_247_m1 H.1]
                refine wp_iload rfl dX12_isPaired_253 ?_
                refine wp_iaload1 dX12_isPaired_255 (by first | omega | (simp (disch := omega) only [up2_ne, up2_eq, ge, tm8, td8, st_200_m1 gS, st_200_m1 H.1, st_200_9 gS, st_200_9 H.1, st_200_45 gS, st_200_45 H.1, st_200_46 gS, st_200_46 H.1, st_200_47 gS, st_200_47 H.1, st_209_m2 gS, st_209_m2 H.1, st_209_m1 gS, st_209_m1 H.1, st_245_m2 gS, st_245_m2 H.1, st_245_m1 gS, st_245_m1 H.1, st_246_m2 gS, st_246_m2 H.1, st_246_m1 gS, st_246_m1 H.1, st_247_m2 gS, st_247_m2 H.1, st_247_m1 gS, st_247_m1 H.1]; first | done | omega)) (by first | assumption | (simp (disch := omega) only [up2_ne, up2_eq, ge, tm8, td8, st_200_m1 gS, st_200_m1 H.1, st_200_9 gS, st_200_9 H.1, st_200_45 gS, st_200_45 H.1, st_200_46 gS, st_200_46 H.1, st_200_47 gS, st_200_47 H.1, st_209_m2 gS, st_209_m2 H.1, st_209_m1 gS, st_209_m1 H.1, st_245_m2 gS, st_245_m2 H.1, st_245_m1 gS, st_245_m1 H.1, st_246_m2 gS, st_246_m2 H.1, st_246_m1 gS, st_246_m1 H.1, st_247_m2 gS, st_247_m2 H.1, st_247_m1 gS, st_247_m1 H.1]; first | done | rfl | omega)) (by first | omega | (simp (disch := omega) only [up2_ne, up2_eq, ge, tm8, td8, st_200_m1 gS, st_200_m1 H.1, st_200_9 gS, st_200_9 H.1, st_200_45 gS, st_200_45 H.1, st_200_46 gS, st_200_46 H.1, st_200_47 gS, st_200_47 H.1, st_209_m2 gS, st_209_m2 H.1, st_209_m1 gS, st_209_m1 H.1, st_245_m2 gS, st_245_m2 H.1, st_245_m1 gS, st_245_m1 H.1, st_246_m2 gS, st_246_m2 H.1, st_246_m1 gS, st_246_m1 H.1, st_247_m2 gS, st_247_m2 H.1, st_247_m1 gS, st_247_m1 H.1]; first | done | omega)) (by first | omega | (simp (disch := omega) only [up2_ne, up2_eq, ge, tm8, td8, st_200_m1 gS, st_200_m1 H.1, st_200_9 gS, st_200_9 H.1, st_200_45 gS, st_200_45 H.1, st_200_46 gS, st_200_46 H.1, st_200_47 gS, st_200_47 H.1, st_209_m2 gS, st_209_m2 H.1, st_209_m1 gS, st_209_m1 H.1, st_245_m2 gS, st_245_m2 H.1, st_245_m1 gS, st_245_m1 H.1, st_246_m2 gS, st_246_m2 H.1, st_246_m1 gS, st_246_m1 H.1, st_247_m2 gS, st_247_m2 H.1, st_247_m1 gS, st_247_m1 H.1]; first | done | omega)) ?_
                try simp (disch := omega) only [up2_ne, up2_eq, ge, tm8, td8, st_200_m1 gS, st_200_m1 H.1, st_200_9 gS, st_200_9 H.1, st_200_45 gS, st_200_45 H.1, st_200_46 gS, st_200_46 H.1, st_200_47 gS, st_200_47 H.1, st_209_m2 gS, st_209_m2 H.1, st_209_m1 gS, st_209_m1 H.1, st_245_m2 gS, st_245_m2 H.1, st_245_m1 gS, st_245_m1 H.1, st_246_m2 gS, st_246_m2 H.1, st_246_m1 gS, st_246_m1 H.1, st_247_m2 gS, st_247_m2 H.1, st_247_m1 gS, st_247_m1 H.1]
                refine wp_iconst dX12_isPaired_256 ?_
                refine wp_icmp_ne (tgt := 281) (by first | assumption | exact bI_in _ | exact ⟨by omega, by omega⟩ | exact iAnd_in | exact iOr_in | exact iShr_in | exact iShl_in | exact iXor_in | exact hxs _) (by first | assumption | exact bI_in _ | exact ⟨by omega, by omega⟩ | exact iAnd_in | exact iOr_in | exact iShr_in | exact iShl_in | exact iXor_in | exact hxs _) dX12_isPaired_257 (by decide) (fun c10 => ?_) (fun c10 => ?_)
                · refine wp_iinc rfl rfl dX12_isPaired_281 rfl rfl ?_
                  try simp only [List.set_cons_zero, List.set_cons_succ]
                  refine wp_goto (tgt := 198) dX12_isPaired_284 (by decide) ?_
                  have e0 : en = -1 := by omega
                  subst e0
                  have h01 := h01 (by omega)
                  refine wp_dropAt 5 rfl (wp_dropAt 6 rfl ?_)
                  first
                    | (have hx := sS_a I.1 (a := (n : Int) / 8) (r := (n : Int) % 8) (by omega) (by omega) (by omega) (by omega) (by omega) (by assumption) (by omega)
                       exact ihn (by omega) _ 1 _ ⟨hx.1, Or.inr ⟨rfl, by rcases I.2 with z | z; rw [← z.2.2.1]; exact hx.2; omega⟩⟩)
                    | (refine ihn (by omega) g mo (-1) ⟨I.1, ?_⟩
                       rcases I.2 with ⟨z1, z2, z3, z4, z5⟩ | z
                       · refine Or.inl ⟨z1, z2, z3, z4, fun i i0 i1 => ?_⟩
                         by_cases c : i = n
                         · subst c
                           rw [← z3]
                           rintro ⟨y1, y2, y3, y4⟩
                           first | contradiction | omega
                         · exact z5 i i0 (by omega)
                       · exact Or.inr z)
                · refine wp_aload_n rfl rfl dX12_isPaired_260 ?_
                  refine wp_getfield1 (z := 13) (kI := 45) fX12_189 dX12_isPaired_261 (by first | omega | (simp (disch := omega) only [up2_ne, up2_eq, ge, tm8, td8, st_200_m1 gS, st_200_m1 H.1, st_200_9 gS, st_200_9 H.1, st_200_45 gS, st_200_45 H.1, st_200_46 gS, st_200_46 H.1, st_200_47 gS, st_200_47 H.1, st_209_m2 gS, st_209_m2 H.1, st_209_m1 gS, st_209_m1 H.1, st_245_m2 gS, st_245_m2 H.1, st_245_m1 gS, st_245_m1 H.1, st_246_m2 gS, st_246_m2 H.1, st_246_m1 gS, st_246_m1 H.1, st_247_m2 gS, st_247_m2 H.1, st_247_m1 gS, st_247_m1 H.1]; first | done | omega)) (by first | assumption | (simp (disch := omega) only [up2_ne, up2_eq, ge, tm8, td8, st_200_m1 gS, st_200_m1 H.1, st_200_9 gS, st_200_9 H.1, st_200_45 gS, st_200_45 H.1, st_200_46 gS, st_200_46 H.1, st_200_47 gS, st_200_47 H.1, st_209_m2 gS, st_209_m2 H.1, st_209_m1 gS, st_209_m1 H.1, st_245_m2 gS, st_245_m2 H.1, st_245_m1 gS, st_245_m1 H.1, st_246_m2 gS, st_246_m2 H.1, st_246_m1 gS, st_246_m1 H.1, st_247_m2 gS, st_247_m2 H.1, st_247_m1 gS, st_247_m1 H.1]; first | done | rfl | omega)) rfl rfl ?_
                  try simp (disch := omega) only [up2_ne, up2_eq, ge, tm8, td8, st_200_m1 gS, st_200_m1 H.1, st_200_9 gS, st_200_9 H.1, st_200_45 gS, st_200_45 H.1, st_200_46 gS, st_200_46 H.1, st_200_47 gS, st_200_47 H.1, st_209_m2 gS, st_209_m2 H.1, st_209_m1 gS, st_209_m1 H.1, st_245_m2 gS, st_245_m2 H.1, st_245_m1 gS, st_245_m1 H.1, st_246_m2 gS, st_246_m2 H.1, st_246_m1 gS, st_246_m1 H.1, st_247_m2 gS, st_247_m2 H.1, st_247_m1 gS, st_247_m1 H.1]
                  refine wp_iload rfl dX12_isPaired_264 ?_
                  refine wp_zaload1 dX12_isPaired_266 (by first | omega | (simp (disch := omega) only [up2_ne, up2_eq, ge, tm8, td8, st_200_m1 gS, st_200_m1 H.1, st_200_9 gS, st_200_9 H.1, st_200_45 gS, st_200_45 H.1, st_200_46 gS, st_200_46 H.1, st_200_47 gS, st_200_47 H.1, st_209_m2 gS, st_209_m2 H.1, st_209_m1 gS, st_209_m1 H.1, st_245_m2 gS, st_245_m2 H.1, st_245_m1 gS, st_245_m1 H.1, st_246_m2 gS, st_246_m2 H.1, st_246_m1 gS, st_246_m1 H.1, st_247_m2 gS, st_247_m2 H.1, st_247_m1 gS, st_247_m1 H.1]; first | done | omega)) (by first | assumption | (simp (disch := omega) only [up2_ne, up2_eq, ge, tm8, td8, st_200_m1 gS, st_200_m1 H.1, st_200_9 gS, st_200_9 H.1, st_200_45 gS, st_200_45 H.1, st_200_46 gS, st_200_46 H.1, st_200_47 gS, st_200_47 H.1, st_209_m2 gS, st_209_m2 H.1, st_209_m1 gS, st_209_m1 H.1, st_245_m2 gS, st_245_m2 H.1, st_245_m1 gS, st_245_m1 H.1, st_246_m2 gS, st_246_m2 H.1, st_246_m1 gS, st_246_m1 H.1, st_247_m2 gS, st_247_m2 H.1, st_247_m1 gS, st_247_m1 H.1]; first | done | rfl | omega)) (by first | omega | (simp (disch := omega) only [up2_ne, up2_eq, ge, tm8, td8, st_200_m1 gS, st_200_m1 H.1, st_200_9 gS, st_200_9 H.1, st_200_45 gS, st_200_45 H.1, st_200_46 gS, st_200_46 H.1, st_200_47 gS, st_200_47 H.1, st_209_m2 gS, st_209_m2 H.1, st_209_m1 gS, st_209_m1 H.1, st_245_m2 gS, st_245_m2 H.1, st_245_m1 gS, st_245_m1 H.1, st_246_m2 gS, st_246_m2 H.1, st_246_m1 gS, st_246_m1 H.1, st_247_m2 gS, st_247_m2 H.1, st_247_m1 gS, st_247_m1 H.1]; first | done | omega)) (by first | omega | (simp (disch := omega) only [up2_ne, up2_eq, ge, tm8, td8, st_200_m1 gS, st_200_m1 H.1, st_200_9 gS, st_200_9 H.1, st_200_45 gS, st_200_45 H.1, st_200_46 gS, st_200_46 H.1, st_200_47 gS, st_200_47 H.1, st_209_m2 gS, st_209_m2 H.1, st_209_m1 gS, st_209_m1 H.1, st_245_m2 gS, st_245_m2 H.1, st_245_m1 gS, st_245_m1 H.1, st_246_m2 gS, st_246_m2 H.1, st_246_m1 gS, st_246_m1 H.1, st_247_m2 gS, st_247_m2 H.1, st_247_m1 gS, st_247_m1 H.1]; first | done | omega)) ?_
                  try simp (disch := omega) only [up2_ne, up2_eq, ge, tm8, td8, st_200_m1 gS, st_200_m1 H.1, st_200_9 gS, st_200_9 H.1, st_200_45 gS, st_200_45 H.1, st_200_46 gS, st_200_46 H.1, st_200_47 gS, st_200_47 H.1, st_209_m2 gS, st_209_m2 H.1, st_209_m1 gS, st_209_m1 H.1, st_245_m2 gS, st_245_m2 H.1, st_245_m1 gS, st_245_m1 H.1, st_246_m2 gS, st_246_m2 H.1, st_246_m1 gS, st_246_m1 H.1, st_247_m2 gS, st_247_m2 H.1, st_247_m1 gS, st_247_m1 H.1]
                  have h01x := h01 (by omega)
                  refine wp_if_eq (tgt := 281) (by first | assumption | exact bI_in _ | exact ⟨by omega, by omega⟩ | exact iAnd_in | exact iOr_in | exact iShr_in | exact iShl_in | exact iXor_in | exact hxs _) dX12_isPaired_267 (by decide) (fun c11 => ?_) (fun c11 => ?_)
                  · refine wp_iinc rfl rfl dX12_isPaired_281 rfl rfl ?_
                    try simp only [List.set_cons_zero, List.set_cons_succ]
                    refine wp_goto (tgt := 198) dX12_isPaired_284 (by decide) ?_
                    have e0 : en = -1 := by omega
                    subst e0
                    have h01 := h01 (by omega)
                    refine wp_dropAt 5 rfl (wp_dropAt 6 rfl ?_)
                    first
                      | (have hx := sS_a I.1 (a := (n : Int) / 8) (r := (n : Int) % 8) (by omega) (by omega) (by omega) (by omega) (by omega) (by assumption) (by omega)
                         exact ihn (by omega) _ 1 _ ⟨hx.1, Or.inr ⟨rfl, by rcases I.2 with z | z; rw [← z.2.2.1]; exact hx.2; omega⟩⟩)
                      | (refine ihn (by omega) g mo (-1) ⟨I.1, ?_⟩
                         rcases I.2 with ⟨z1, z2, z3, z4, z5⟩ | z
                         · refine Or.inl ⟨z1, z2, z3, z4, fun i i0 i1 => ?_⟩
                           by_cases c : i = n
                           · subst c
                             rw [← z3]
                             rintro ⟨y1, y2, y3, y4⟩
                             first | contradiction | omega
                           · exact z5 i i0 (by omega)
                         · exact Or.inr z)
                  · refine wp_aload_n rfl rfl dX12_isPaired_270 ?_
                    refine wp_getfield1 (z := 13) (kI := 46) fX12_192 dX12_isPaired_271 (by first | omega | (simp (disch := omega) only [up2_ne, up2_eq, ge, tm8, td8, st_200_m1 gS, st_200_m1 H.1, st_200_9 gS, st_200_9 H.1, st_200_45 gS, st_200_45 H.1, st_200_46 gS, st_200_46 H.1, st_200_47 gS, st_200_47 H.1, st_209_m2 gS, st_209_m2 H.1, st_209_m1 gS, st_209_m1 H.1, st_245_m2 gS, st_245_m2 H.1, st_245_m1 gS, st_245_m1 H.1, st_246_m2 gS, st_246_m2 H.1, st_246_m1 gS, st_246_m1 H.1, st_247_m2 gS, st_247_m2 H.1, st_247_m1 gS, st_247_m1 H.1]; first | done | omega)) (by first | assumption | (simp (disch := omega) only [up2_ne, up2_eq, ge, tm8, td8, st_200_m1 gS, st_200_m1 H.1, st_200_9 gS, st_200_9 H.1, st_200_45 gS, st_200_45 H.1, st_200_46 gS, st_200_46 H.1, st_200_47 gS, st_200_47 H.1, st_209_m2 gS, st_209_m2 H.1, st_209_m1 gS, st_209_m1 H.1, st_245_m2 gS, st_245_m2 H.1, st_245_m1 gS, st_245_m1 H.1, st_246_m2 gS, st_246_m2 H.1, st_246_m1 gS, st_246_m1 H.1, st_247_m2 gS, st_247_m2 H.1, st_247_m1 gS, st_247_m1 H.1]; first | done | rfl | omega)) rfl rfl ?_
                    try simp (disch := omega) only [up2_ne, up2_eq, ge, tm8, td8, st_200_m1 gS, st_200_m1 H.1, st_200_9 gS, st_200_9 H.1, st_200_45 gS, st_200_45 H.1, st_200_46 gS, st_200_46 H.1, st_200_47 gS, st_200_47 H.1, st_209_m2 gS, st_209_m2 H.1, st_209_m1 gS, st_209_m1 H.1, st_245_m2 gS, st_245_m2 H.1, st_245_m1 gS, st_245_m1 H.1, st_246_m2 gS, st_246_m2 H.1, st_246_m1 gS, st_246_m1 H.1, st_247_m2 gS, st_247_m2 H.1, st_247_m1 gS, st_247_m1 H.1]
                    refine wp_iload rfl dX12_isPaired_274 ?_
                    refine wp_iload rfl dX12_isPaired_276 ?_
                    refine wp_iastore1 dX12_isPaired_278 (by first | omega | (simp (disch := omega) only [up2_ne, up2_eq, ge, tm8, td8, st_200_m1 gS, st_200_m1 H.1, st_200_9 gS, st_200_9 H.1, st_200_45 gS, st_200_45 H.1, st_200_46 gS, st_200_46 H.1, st_200_47 gS, st_200_47 H.1, st_209_m2 gS, st_209_m2 H.1, st_209_m1 gS, st_209_m1 H.1, st_245_m2 gS, st_245_m2 H.1, st_245_m1 gS, st_245_m1 H.1, st_246_m2 gS, st_246_m2 H.1, st_246_m1 gS, st_246_m1 H.1, st_247_m2 gS, st_247_m2 H.1, st_247_m1 gS, st_247_m1 H.1]; first | done | omega)) (by first | assumption | (simp (disch := omega) only [up2_ne, up2_eq, ge, tm8, td8, st_200_m1 gS, st_200_m1 H.1, st_200_9 gS, st_200_9 H.1, st_200_45 gS, st_200_45 H.1, st_200_46 gS, st_200_46 H.1, st_200_47 gS, st_200_47 H.1, st_209_m2 gS, st_209_m2 H.1, st_209_m1 gS, st_209_m1 H.1, st_245_m2 gS, st_245_m2 H.1, st_245_m1 gS, st_245_m1 H.1, st_246_m2 gS, st_246_m2 H.1, st_246_m1 gS, st_246_m1 H.1, st_247_m2 gS, st_247_m2 H.1, st_247_m1 gS, st_247_m1 H.1]; first | done | rfl | omega)) (by first | omega | (simp (disch := omega) only [up2_ne, up2_eq, ge, tm8, td8, st_200_m1 gS, st_200_m1 H.1, st_200_9 gS, st_200_9 H.1, st_200_45 gS, st_200_45 H.1, st_200_46 gS, st_200_46 H.1, st_200_47 gS, st_200_47 H.1, st_209_m2 gS, st_209_m2 H.1, st_209_m1 gS, st_209_m1 H.1, st_245_m2 gS, st_245_m2 H.1, st_245_m1 gS, st_245_m1 H.1, st_246_m2 gS, st_246_m2 H.1, st_246_m1 gS, st_246_m1 H.1, st_247_m2 gS, st_247_m2 H.1, st_247_m1 gS, st_247_m1 H.1]; first | done | omega)) (by first | omega | (simp (disch := omega) only [up2_ne, up2_eq, ge, tm8, td8, st_200_m1 gS, st_200_m1 H.1, st_200_9 gS, st_200_9 H.1, st_200_45 gS, st_200_45 H.1, st_200_46 gS, st_200_46 H.1, st_200_47 gS, st_200_47 H.1, st_209_m2 gS, st_209_m2 H.1, st_209_m1 gS, st_209_m1 H.1, st_245_m2 gS, st_245_m2 H.1, st_245_m1 gS, st_245_m1 H.1, st_246_m2 gS, st_246_m2 H.1, st_246_m1 gS, st_246_m1 H.1, st_247_m2 gS, st_247_m2 H.1, st_247_m1 gS, st_247_m1 H.1]; first | done | omega)) ?_
                    refine wp_iconst dX12_isPaired_279 ?_
                    refine wp_istore_n rfl dX12_isPaired_280 rfl (Nat.le_of_ble_eq_true rfl) rfl ?_
                    try simp only [List.set_cons_zero, List.set_cons_succ]
                    refine wp_iinc rfl rfl dX12_isPaired_281 rfl rfl ?_
                    try simp only [List.set_cons_zero, List.set_cons_succ]
                    refine wp_goto (tgt := 198) dX12_isPaired_284 (by decide) ?_
                    have e0 : en = -1 := by omega
                    subst e0
                    have h01 := h01 (by omega)
                    refine wp_dropAt 5 rfl (wp_dropAt 6 rfl ?_)
                    first
                      | (have hx := sS_a I.1 (a := (n : Int) / 8) (r := (n : Int) % 8) (by omega) (by omega) (by omega) (by omega) (by omega) (by assumption) (by omega)
                         exact ihn (by omega) _ 1 _ ⟨hx.1, Or.inr ⟨rfl, by rcases I.2 with z | z; rw [← z.2.2.1]; exact hx.2; omega⟩⟩)
                      | (refine ihn (by omega) g mo (-1) ⟨I.1, ?_⟩
                         rcases I.2 with ⟨z1, z2, z3, z4, z5⟩ | z
                         · refine Or.inl ⟨z1, z2, z3, z4, fun i i0 i1 => ?_⟩
                           by_cases c : i = n
                           · subst c
                             rw [← z3]
                             rintro ⟨y1, y2, y3, y4⟩
                             first | contradiction | omega
                           · exact z5 i i0 (by omega)
                         · exact Or.inr z)
      have sw1 : ∀ n : Nat, n ≤ (m 200 10 * 8).toNat → ∀ (g : mH) (mo en : Int), swI m h fr gs g mo en (∀ i : Int, 0 ≤ i → i < (n : Int) → ¬ cnd1 m h gs (i / 8) (i % 8)) → WP (gX (gq u)) MX12_isPaired (d + 3) b (fun r h1 => stM m h1 ∧ (∀ x k : Int, ¬ ((x = 245 ∨ x = 246 ∨ x = 247) ∧ 0 ≤ k) → h1 x k = h x k) ∧ ((r = (0, 1) ∧ ∀ a : Int, 0 ≤ a → a < m 200 10 → degP m (Mr h1) a = inc (degP m (Mr h)) fr a) ∨ (r = (0, 0) ∧ Mr h1 = Mr h ∧ ¬ Feas m (inc (degP m (Mr h)) fr)))) 72 [(2, 200), (0, fr), (0, en), (0, mo), (0, (n : Int)), (9, 0), (9, 0)] [] g := by
        refine loop_w (m 200 10 * 8).toNat (fun n hn2 ihn => ?_)
        intro g mo en I
        have gS := I.1.1
        have gK := I.1.2.1
        have ge : Cr g m := fun x k q => by rw [gK x k (by omega)]; exact e x k q
        have SM := stM_Kab SH gS gK
        have eM := Mr_Kab gK
        obtain ⟨dA, dR, F⟩ := I.1.2.2.1
        have hrg := fI2_rng F (by omega) (by omega)
        have h46 := fun z : (n : Int) / 8 < m 200 10 => hrg.1 ((n : Int) / 8) (by omega) z
        have h47 := fun z : (n : Int) % 8 < m 200 6 => hrg.2 ((n : Int) % 8) (by omega) z
        have hen : en = -1 ∨ (0 ≤ en ∧ en < m 200 6) := by rcases I.1.2.2.2 with z | z; exact Or.inl z.1; exact Or.inr ⟨z.1, z.2.1⟩
        have h45 : Mr h ((n : Int) / 8) ((n : Int) % 8) = g 245 n := by show h 245 (8 * ((n : Int) / 8) + (n : Int) % 8) = _; rw [show 8 * ((n : Int) / 8) + (n : Int) % 8 = (n : Int) by omega, gK 245 n (by omega)]
        have h01 := fun z : (n : Int) < m 200 10 * 8 => SM.2.1 ((n : Int) / 8) ((n : Int) % 8) (by omega) (by omega) (by omega) (by omega)
        rw [show 8 * ((n : Int) / 8) + (n : Int) % 8 = (n : Int) by omega] at h01
        refine wp_iload rfl dX12_isPaired_72 ?_
        refine wp_aload_n rfl rfl dX12_isPaired_74 ?_
        refine wp_getfield1 (z := 13) (kI := 10) fX12_10 dX12_isPaired_75 (by first | omega | (simp (disch := omega) only [up2_ne, up2_eq, ge, tm8, td8, st_200_m1 gS, st_200_m1 H.1, st_200_9 gS, st_200_9 H.1, st_200_45 gS, st_200_45 H.1, st_200_46 gS, st_200_46 H.1, st_200_47 gS, st_200_47 H.1, st_209_m2 gS, st_209_m2 H.1, st_209_m1 gS, st_209_m1 H.1, st_245_m2 gS, st_245_m2 H.1, st_245_m1 gS, st_245_m1 H.1, st_246_m2 gS, st_246_m2 H.1, st_246_m1 gS, st_246_m1 H.1, st_247_m2 gS, st_247_m2 H.1, st_247_m1 gS, st_247_m1 H.1]; first | done | omega)) (by first | assumption | (simp (disch := omega) only [up2_ne, up2_eq, ge, tm8, td8, st_200_m1 gS, st_200_m1 H.1, st_200_9 gS, st_200_9 H.1, st_200_45 gS, st_200_45 H.1, st_200_46 gS, st_200_46 H.1, st_200_47 gS, st_200_47 H.1, st_209_m2 gS, st_209_m2 H.1, st_209_m1 gS, st_209_m1 H.1, st_245_m2 gS, st_245_m2 H.1, st_245_m1 gS, st_245_m1 H.1, st_246_m2 gS, st_246_m2 H.1, st_246_m1 gS, st_246_m1 H.1, st_247_m2 gS, st_247_m2 H.1, st_247_m1 gS, st_247_m1 H.1]; first | done | rfl | omega)) rfl rfl ?_
        try simp (disch := omega) only [up2_ne, up2_eq, ge, tm8, td8, st_200_m1 gS, st_200_m1 H.1, st_200_9 gS, st_200_9 H.1, st_200_45 gS, st_200_45 H.1, st_200_46 gS, st_200_46 H.1, st_200_47 gS, st_200_47 H.1, st_209_m2 gS, st_209_m2 H.1, st_209_m1 gS, st_209_m1 H.1, st_245_m2 gS, st_245_m2 H.1, st_245_m1 gS, st_245_m1 H.1, st_246_m2 gS, st_246_m2 H.1, st_246_m1 gS, st_246_m1 H.1, st_247_m2 gS, st_247_m2 H.1, st_247_m1 gS, st_247_m1 H.1]
        refine wp_bipush (by decide) dX12_isPaired_78 ?_
        refine wp_imul dX12_isPaired_80 ?_
        refine wp_icmp_ge (tgt := 195) (by first | assumption | exact bI_in _ | exact ⟨by omega, by omega⟩ | exact iAnd_in | exact iOr_in | exact iShr_in | exact iShl_in | exact iXor_in | exact hxs _) (by first | assumption | exact bI_in _ | exact ⟨by omega, by omega⟩ | exact iAnd_in | exact iOr_in | exact iShr_in | exact iShl_in | exact iXor_in | exact hxs _) dX12_isPaired_81 (by decide) (fun c12 => ?_) (fun c12 => ?_)
        · refine wp_iconst dX12_isPaired_195 ?_
          refine wp_istore dX12_isPaired_196 rfl (Nat.le_of_ble_eq_true rfl) rfl ?_
          try simp only [List.set_cons_zero, List.set_cons_succ]
          refine wp_dropAt 5 rfl (wp_dropAt 6 rfl ?_)
          refine sw2 0 (by omega) g mo en ⟨I.1, ?_⟩
          rcases I.2 with ⟨z1, z2, z3, z4⟩ | z
          · exact Or.inl ⟨z1, z2, z3, fun i i0 i1 => z4 i i0 (by omega), fun i i0 i1 => by exfalso; omega⟩
          · exact Or.inr z
        · refine wp_iload_n rfl rfl dX12_isPaired_84 ?_
          refine wp_iconst dX12_isPaired_85 ?_
          refine wp_icmp_ne (tgt := 195) (by first | assumption | exact bI_in _ | exact ⟨by omega, by omega⟩ | exact iAnd_in | exact iOr_in | exact iShr_in | exact iShl_in | exact iXor_in | exact hxs _) (by first | assumption | exact bI_in _ | exact ⟨by omega, by omega⟩ | exact iAnd_in | exact iOr_in | exact iShr_in | exact iShl_in | exact iXor_in | exact hxs _) dX12_isPaired_86 (by decide) (fun c13 => ?_) (fun c13 => ?_)
          · refine wp_iconst dX12_isPaired_195 ?_
            refine wp_istore dX12_isPaired_196 rfl (Nat.le_of_ble_eq_true rfl) rfl ?_
            try simp only [List.set_cons_zero, List.set_cons_succ]
            refine wp_dropAt 5 rfl (wp_dropAt 6 rfl ?_)
            refine sw2 0 (by omega) g mo en ⟨I.1, ?_⟩
            rcases I.2 with ⟨z1, z2, z3, z4⟩ | z
            · exact Or.inl ⟨z1, z2, z3, fun i i0 i1 => z4 i i0 (by omega), fun i i0 i1 => by exfalso; omega⟩
            · exact Or.inr z
          · refine wp_iload rfl dX12_isPaired_89 ?_
            refine wp_bipush (by decide) dX12_isPaired_91 ?_
            refine wp_idiv (by first | assumption | exact bI_in _ | exact ⟨by omega, by omega⟩ | exact iAnd_in | exact iOr_in | exact iShr_in | exact iShl_in | exact iXor_in | exact hxs _) (by first | assumption | exact bI_in _ | exact ⟨by omega, by omega⟩ | exact iAnd_in | exact iOr_in | exact iShr_in | exact iShl_in | exact iXor_in | exact hxs _) (by omega) dX12_isPaired_93 ?_
            try simp (disch := omega) only [up2_ne, up2_eq, ge, tm8, td8, st_200_m1 gS, st_200_m1 H.1, st_200_9 gS, st_200_9 H.1, st_200_45 gS, st_200_45 H.1, st_200_46 gS, st_200_46 H.1, st_200_47 gS, st_200_47 H.1, st_209_m2 gS, st_209_m2 H.1, st_209_m1 gS, st_209_m1 H.1, st_245_m2 gS, st_245_m2 H.1, st_245_m1 gS, st_245_m1 H.1, st_246_m2 gS, st_246_m2 H.1, st_246_m1 gS, st_246_m1 H.1, st_247_m2 gS, st_247_m2 H.1, st_247_m1 gS, st_247_m1 H.1]
            refine wp_istore dX12_isPaired_94 rfl (Nat.le_of_ble_eq_true rfl) rfl ?_
            try simp only [List.set_cons_zero, List.set_cons_succ]
            refine wp_iload rfl dX12_isPaired_96 ?_
            refine wp_bipush (by decide) dX12_isPaired_98 ?_
            refine wp_irem (by first | assumption | exact bI_in _ | exact ⟨by omega, by omega⟩ | exact iAnd_in | exact iOr_in | exact iShr_in | exact iShl_in | exact iXor_in | exact hxs _) (by first | assumption | exact bI_in _ | exact ⟨by omega, by omega⟩ | exact iAnd_in | exact iOr_in | exact iShr_in | exact iShl_in | exact iXor_in | exact hxs _) (by omega) dX12_isPaired_100 ?_
            try simp (disch := omega) only [up2_ne, up2_eq, ge, tm8, td8, st_200_m1 gS, st_200_m1 H.1, st_200_9 gS, st_200_9 H.1, st_200_45 gS, st_200_45 H.1, st_200_46 gS, st_200_46 H.1, st_200_47 gS, st_200_47 H.1, st_209_m2 gS, st_209_m2 H.1, st_209_m1 gS, st_209_m1 H.1, st_245_m2 gS, st_245_m2 H.1, st_245_m1 gS, st_245_m1 H.1, st_246_m2 gS, st_246_m2 H.1, st_246_m1 gS, st_246_m1 H.1, st_247_m2 gS, st_247_m2 H.1, st_247_m1 gS, st_247_m1 H.1]
            refine wp_istore dX12_isPaired_101 rfl (Nat.le_of_ble_eq_true rfl) rfl ?_
            try simp only [List.set_cons_zero, List.set_cons_succ]
            refine wp_iload rfl dX12_isPaired_103 ?_
            refine wp_aload_n rfl rfl dX12_isPaired_105 ?_
            refine wp_getfield1 (z := 13) (kI := 6) fX12_7 dX12_isPaired_106 (by first | omega | (simp (disch := omega) only [up2_ne, up2_eq, ge, tm8, td8, st_200_m1 gS, st_200_m1 H.1, st_200_9 gS, st_200_9 H.1, st_200_45 gS, st_200_45 H.1, st_200_46 gS, st_200_46 H.1, st_200_47 gS, st_200_47 H.1, st_209_m2 gS, st_209_m2 H.1, st_209_m1 gS, st_209_m1 H.1, st_245_m2 gS, st_245_m2 H.1, st_245_m1 gS, st_245_m1 H.1, st_246_m2 gS, st_246_m2 H.1, st_246_m1 gS, st_246_m1 H.1, st_247_m2 gS, st_247_m2 H.1, st_247_m1 gS, st_247_m1 H.1]; first | done | omega)) (by first | assumption | (simp (disch := omega) only [up2_ne, up2_eq, ge, tm8, td8, st_200_m1 gS, st_200_m1 H.1, st_200_9 gS, st_200_9 H.1, st_200_45 gS, st_200_45 H.1, st_200_46 gS, st_200_46 H.1, st_200_47 gS, st_200_47 H.1, st_209_m2 gS, st_209_m2 H.1, st_209_m1 gS, st_209_m1 H.1, st_245_m2 gS, st_245_m2 H.1, st_245_m1 gS, st_245_m1 H.1, st_246_m2 gS, st_246_m2 H.1, st_246_m1 gS, st_246_m1 H.1, st_247_m2 gS, st_247_m2 H.1, st_247_m1 gS, st_247_m1 H.1]; first | done | rfl | omega)) rfl rfl ?_
            try simp (disch := omega) only [up2_ne, up2_eq, ge, tm8, td8, st_200_m1 gS, st_200_m1 H.1, st_200_9 gS, st_200_9 H.1, st_200_45 gS, st_200_45 H.1, st_200_46 gS, st_200_46 H.1, st_200_47 gS, st_200_47 H.1, st_209_m2 gS, st_209_m2 H.1, st_209_m1 gS, st_209_m1 H.1, st_245_m2 gS, st_245_m2 H.1, st_245_m1 gS, st_245_m1 H.1, st_246_m2 gS, st_246_m2 H.1, st_246_m1 gS, st_246_m1 H.1, st_247_m2 gS, st_247_m2 H.1, st_247_m1 gS, st_247_m1 H.1]
            refine wp_icmp_ge (tgt := 189) (by first | assumption | exact bI_in _ | exact ⟨by omega, by omega⟩ | exact iAnd_in | exact iOr_in | exact iShr_in | exact iShl_in | exact iXor_in | exact hxs _) (by first | assumption | exact bI_in _ | exact ⟨by omega, by omega⟩ | exact iAnd_in | exact iOr_in | exact iShr_in | exact iShl_in | exact iXor_in | exact hxs _) dX12_isPaired_109 (by decide) (fun c14 => ?_) (fun c14 => ?_)
            · refine wp_iinc rfl rfl dX12_isPaired_189 rfl rfl ?_
              try simp only [List.set_cons_zero, List.set_cons_succ]
              refine wp_goto (tgt := 72) dX12_isPaired_192 (by decide) ?_
              have e0 : en = -1 := by omega
              subst e0
              have h01 := h01 (by omega)
              refine wp_dropAt 5 rfl (wp_dropAt 6 rfl ?_)
              first
                | (have hx := sS_r I.1 (a := (n : Int) / 8) (r := (n : Int) % 8) (en := (n : Int) % 8) (by omega) (by omega) (by omega) (by omega) (by assumption) (by omega) (by omega) (by assumption) (Or.inl ⟨rfl, by omega⟩)
                   exact ihn (by omega) _ 1 _ ⟨hx.1, Or.inr ⟨rfl, by rcases I.2 with z | z; rw [← z.2.2.1]; exact hx.2; omega⟩⟩)
                | (have hx := sS_r I.1 (a := (n : Int) / 8) (r := (n : Int) % 8) (en := -1) (by omega) (by omega) (by omega) (by omega) (by assumption) (by omega) (by omega) (by assumption) (Or.inr ⟨rfl, by omega⟩)
                   exact ihn (by omega) _ 1 _ ⟨hx.1, Or.inr ⟨rfl, by rcases I.2 with z | z; rw [← z.2.2.1]; exact hx.2; omega⟩⟩)
                | (refine ihn (by omega) g mo (-1) ⟨I.1, ?_⟩
                   rcases I.2 with ⟨z1, z2, z3, z4⟩ | z
                   · refine Or.inl ⟨z1, z2, z3, fun i i0 i1 => ?_⟩
                     by_cases c : i = n
                     · subst c
                       rw [← z3]
                       rintro ⟨y1, y2, y3, y4, y5⟩
                       first | contradiction | omega
                     · exact z4 i i0 (by omega)
                   · exact Or.inr z)
            · have h46 := h46 (by omega)
              have h47 := h47 (by omega)
              refine wp_aload_n rfl rfl dX12_isPaired_112 ?_
              refine wp_getfield1 (z := 13) (kI := 46) fX12_192 dX12_isPaired_113 (by first | omega | (simp (disch := omega) only [up2_ne, up2_eq, ge, tm8, td8, st_200_m1 gS, st_200_m1 H.1, st_200_9 gS, st_200_9 H.1, st_200_45 gS, st_200_45 H.1, st_200_46 gS, st_200_46 H.1, st_200_47 gS, st_200_47 H.1, st_209_m2 gS, st_209_m2 H.1, st_209_m1 gS, st_209_m1 H.1, st_245_m2 gS, st_245_m2 H.1, st_245_m1 gS, st_245_m1 H.1, st_246_m2 gS, st_246_m2 H.1, st_246_m1 gS, st_246_m1 H.1, st_247_m2 gS, st_247_m2 H.1, st_247_m1 gS, st_247_m1 H.1]; first | done | omega)) (by first | assumption | (simp (disch := omega) only [up2_ne, up2_eq, ge, tm8, td8, st_200_m1 gS, st_200_m1 H.1, st_200_9 gS, st_200_9 H.1, st_200_45 gS, st_200_45 H.1, st_200_46 gS, st_200_46 H.1, st_200_47 gS, st_200_47 H.1, st_209_m2 gS, st_209_m2 H.1, st_209_m1 gS, st_209_m1 H.1, st_245_m2 gS, st_245_m2 H.1, st_245_m1 gS, st_245_m1 H.1, st_246_m2 gS, st_246_m2 H.1, st_246_m1 gS, st_246_m1 H.1, st_247_m2 gS, st_247_m2 H.1, st_247_m1 gS, st_247_m1 H.1]; first | done | rfl | omega)) rfl rfl ?_
              try simp (disch := omega) only [up2_ne, up2_eq, ge, tm8, td8, st_200_m1 gS, st_200_m1 H.1, st_200_9 gS, st_200_9 H.1, st_200_45 gS, st_200_45 H.1, st_200_46 gS, st_200_46 H.1, st_200_47 gS, st_200_47 H.1, st_209_m2 gS, st_209_m2 H.1, st_209_m1 gS, st_209_m1 H.1, st_245_m2 gS, st_245_m2 H.1, st_245_m1 gS, st_245_m1 H.1, st_246_m2 gS, st_246_m2 H.1, st_246_m1 gS, st_246_m1 H.1, st_247_m2 gS, st_247_m2 H.1, st_247_m1 gS, st_247_m1 H.1]
              refine wp_iload rfl dX12_isPaired_116 ?_
              refine wp_iaload1 dX12_isPaired_118 (by first | omega | (simp (disch := omega) only [up2_ne, up2_eq, ge, tm8, td8, st_200_m1 gS, st_200_m1 H.1, st_200_9 gS, st_200_9 H.1, st_200_45 gS, st_200_45 H.1, st_200_46 gS, st_200_46 H.1, st_200_47 gS, st_200_47 H.1, st_209_m2 gS, st_209_m2 H.1, st_209_m1 gS, st_209_m1 H.1, st_245_m2 gS, st_245_m2 H.1, st_245_m1 gS, st_245_m1 H.1, st_246_m2 gS, st_246_m2 H.1, st_246_m1 gS, st_246_m1 H.1, st_247_m2 gS, st_247_m2 H.1, st_247_m1 gS, st_247_m1 H.1]; first | done | omega)) (by first | assumption | (simp (disch := omega) only [up2_ne, up2_eq, ge, tm8, td8, st_200_m1 gS, st_200_m1 H.1, st_200_9 gS, st_200_9 H.1, st_200_45 gS, st_200_45 H.1, st_200_46 gS, st_200_46 H.1, st_200_47 gS, st_200_47 H.1, st_209_m2 gS, st_209_m2 H.1, st_209_m1 gS, st_209_m1 H.1, st_245_m2 gS, st_245_m2 H.1, st_245_m1 gS, st_245_m1 H.1, st_246_m2 gS, st_246_m2 H.1, st_246_m1 gS, st_246_m1 H.1, st_247_m2 gS, st_247_m2 H.1, st_247_m1 gS, st_247_m1 H.1]; first | done | rfl | omega)) (by first | omega | (simp (disch := omega) only [up2_ne, up2_eq, ge, tm8, td8, st_200_m1 gS, st_200_m1 H.1, st_200_9 gS, st_200_9 H.1, st_200_45 gS, st_200_45 H.1, st_200_46 gS, st_200_46 H.1, st_200_47 gS, st_200_47 H.1, st_209_m2 gS, st_209_m2 H.1, st_209_m1 gS, st_209_m1 H.1, st_245_m2 gS, st_245_m2 H.1, st_245_m1 gS, st_245_m1 H.1, st_246_m2 gS, st_246_m2 H.1, st_246_m1 gS, st_246_m1 H.1, st_247_m2 gS, st_247_m2 H.1, st_247_m1 gS, st_247_m1 H.1]; first | done | omega)) (by first | omega | (simp (disch := omega) only [up2_ne, up2_eq, ge, tm8, td8, st_200_m1 gS, st_200_m1 H.1, st_200_9 gS, st_200_9 H.1, st_200_45 gS, st_200_45 H.1, st_200_46 gS, st_200_46 H.1, st_200_47 gS, st_200_47 H.1, st_209_m2 gS, st_209_m2 H.1, st_209_m1 gS, st_209_m1 H.1, st_245_m2 gS, st_245_m2 H.1, st_245_m1 gS, st_245_m1 H.1, st_246_m2 gS, st_246_m2 H.1, st_246_m1 gS, st_246_m1 H.1, st_247_m2 gS, st_247_m2 H.1, st_247_m1 gS, st_247_m1 H.1]; first | done | omega)) ?_
              try simp (disch := omega) only [up2_ne, up2_eq, ge, tm8, td8, st_200_m1 gS, st_200_m1 H.1, st_200_9 gS, st_200_9 H.1, st_200_45 gS, st_200_45 H.1, st_200_46 gS, st_200_46 H.1, st_200_47 gS, st_200_47 H.1, st_209_m2 gS, st_209_m2 H.1, st_209_m1 gS, st_209_m1 H.1, st_245_m2 gS, st_245_m2 H.1, st_245_m1 gS, st_245_m1 H.1, st_246_m2 gS, st_246_m2 H.1, st_246_m1 gS, st_246_m1 H.1, st_247_m2 gS, st_247_m2 H.1, st_247_m1 gS, st_247_m1 H.1]
              refine wp_iconst dX12_isPaired_119 ?_
              skip
              refine wp_icmp_eq (tgt := 189) (by first | assumption | exact bI_in _ | exact ⟨by omega, by omega⟩ | exact iAnd_in | exact iOr_in | exact iShr_in | exact iShl_in | exact iXor_in | exact hxs _) (by first | assumption | exact bI_in _ | exact ⟨by omega, by omega⟩ | exact iAnd_in | exact iOr_in | exact iShr_in | exact iShl_in | exact iXor_in | exact hxs _) dX12_isPaired_120 (by decide) (fun c15 => ?_) (fun c15 => ?_)
              · refine wp_iinc rfl rfl dX12_isPaired_189 rfl rfl ?_
                try simp only [List.set_cons_zero, List.set_cons_succ]
                refine wp_goto (tgt := 72) dX12_isPaired_192 (by decide) ?_
                have e0 : en = -1 := by omega
                subst e0
                have h01 := h01 (by omega)
                refine wp_dropAt 5 rfl (wp_dropAt 6 rfl ?_)
                first
                  | (have hx := sS_r I.1 (a := (n : Int) / 8) (r := (n : Int) % 8) (en := (n : Int) % 8) (by omega) (by omega) (by omega) (by omega) (by assumption) (by omega) (by omega) (by assumption) (Or.inl ⟨rfl, by omega⟩)
                     exact ihn (by omega) _ 1 _ ⟨hx.1, Or.inr ⟨rfl, by rcases I.2 with z | z; rw [← z.2.2.1]; exact hx.2; omega⟩⟩)
                  | (have hx := sS_r I.1 (a := (n : Int) / 8) (r := (n : Int) % 8) (en := -1) (by omega) (by omega) (by omega) (by omega) (by assumption) (by omega) (by omega) (by assumption) (Or.inr ⟨rfl, by omega⟩)
                     exact ihn (by omega) _ 1 _ ⟨hx.1, Or.inr ⟨rfl, by rcases I.2 with z | z; rw [← z.2.2.1]; exact hx.2; omega⟩⟩)
                  | (refine ihn (by omega) g mo (-1) ⟨I.1, ?_⟩
                     rcases I.2 with ⟨z1, z2, z3, z4⟩ | z
                     · refine Or.inl ⟨z1, z2, z3, fun i i0 i1 => ?_⟩
                       by_cases c : i = n
                       · subst c
                         rw [← z3]
                         rintro ⟨y1, y2, y3, y4, y5⟩
                         first | contradiction | omega
                       · exact z4 i i0 (by omega)
                     · exact Or.inr z)
              · refine wp_aload_n rfl rfl dX12_isPaired_123 ?_
                refine wp_getfield1 (z := 13) (kI := 47) fX12_195 dX12_isPaired_124 (by first | omega | (simp (disch := omega) only [up2_ne, up2_eq, ge, tm8, td8, st_200_m1 gS, st_200_m1 H.1, st_200_9 gS, st_200_9 H.1, st_200_45 gS, st_200_45 H.1, st_200_46 gS, st_200_46 H.1, st_200_47 gS, st_200_47 H.1, st_209_m2 gS, st_209_m2 H.1, st_209_m1 gS, st_209_m1 H.1, st_245_m2 gS, st_245_m2 H.1, st_245_m1 gS, st_245_m1 H.1, st_246_m2 gS, st_246_m2 H.1, st_246_m1 gS, st_246_m1 H.1, st_247_m2 gS, st_247_m2 H.1, st_247_m1 gS, st_247_m1 H.1]; first | done | omega)) (by first | assumption | (simp (disch := omega) only [up2_ne, up2_eq, ge, tm8, td8, st_200_m1 gS, st_200_m1 H.1, st_200_9 gS, st_200_9 H.1, st_200_45 gS, st_200_45 H.1, st_200_46 gS, st_200_46 H.1, st_200_47 gS, st_200_47 H.1, st_209_m2 gS, st_209_m2 H.1, st_209_m1 gS, st_209_m1 H.1, st_245_m2 gS, st_245_m2 H.1, st_245_m1 gS, st_245_m1 H.1, st_246_m2 gS, st_246_m2 H.1, st_246_m1 gS, st_246_m1 H.1, st_247_m2 gS, st_247_m2 H.1, st_247_m1 gS, st_247_m1 H.1]; first | done | rfl | omega)) rfl rfl ?_
                try simp (disch := omega) only [up2_ne, up2_eq, ge, tm8, td8, st_200_m1 gS, st_200_m1 H.1, st_200_9 gS, st_200_9 H.1, st_200_45 gS, st_200_45 H.1, st_200_46 gS, st_200_46 H.1, st_200_47 gS, st_200_47 H.1, st_209_m2 gS, st_209_m2 H.1, st_209_m1 gS, st_209_m1 H.1, st_245_m2 gS, st_245_m2 H.1, st_245_m1 gS, st_245_m1 H.1, st_246_m2 gS, st_246_m2 H.1, st_246_m1 gS, st_246_m1 H.1, st_247_m2 gS, st_247_m2 H.1, st_247_m1 gS, st_247_m1 H.1]
                refine wp_iload rfl dX12_isPaired_127 ?_
                refine wp_iaload1 dX12_isPaired_129 (by first | omega | (simp (disch := omega) only [up2_ne, up2_eq, ge, tm8, td8, st_200_m1 gS, st_200_m1 H.1, st_200_9 gS, st_200_9 H.1, st_200_45 gS, st_200_45 H.1, st_200_46 gS, st_200_46 H.1, st_200_47 gS, st_200_47 H.1, st_209_m2 gS, st_209_m2 H.1, st_209_m1 gS, st_209_m1 H.1, st_245_m2 gS, st_245_m2 H.1, st_245_m1 gS, st_245_m1 H.1, st_246_m2 gS, st_246_m2 H.1, st_246_m1 gS, st_246_m1 H.1, st_247_m2 gS, st_247_m2 H.1, st_247_m1 gS, st_247_m1 H.1]; first | done | omega)) (by first | assumption | (simp (disch := omega) only [up2_ne, up2_eq, ge, tm8, td8, st_200_m1 gS, st_200_m1 H.1, st_200_9 gS, st_200_9 H.1, st_200_45 gS, st_200_45 H.1, st_200_46 gS, st_200_46 H.1, st_200_47 gS, st_200_47 H.1, st_209_m2 gS, st_209_m2 H.1, st_209_m1 gS, st_209_m1 H.1, st_245_m2 gS, st_245_m2 H.1, st_245_m1 gS, st_245_m1 H.1, st_246_m2 gS, st_246_m2 H.1, st_246_m1 gS, st_246_m1 H.1, st_247_m2 gS, st_247_m2 H.1, st_247_m1 gS, st_247_m1 H.1]; first | done | rfl | omega)) (by first | omega | (simp (disch := omega) only [up2_ne, up2_eq, ge, tm8, td8, st_200_m1 gS, st_200_m1 H.1, st_200_9 gS, st_200_9 H.1, st_200_45 gS, st_200_45 H.1, st_200_46 gS, st_200_46 H.1, st_200_47 gS, st_200_47 H.1, st_209_m2 gS, st_209_m2 H.1, st_209_m1 gS, st_209_m1 H.1, st_245_m2 gS, st_245_m2 H.1, st_245_m1 gS, st_245_m1 H.1, st_246_m2 gS, st_246_m2 H.1, st_246_m1 gS, st_246_m1 H.1, st_247_m2 gS, st_247_m2 H.1, st_247_m1 gS, st_247_m1 H.1]; first | done | omega)) (by first | omega | (simp (disch := omega) only [up2_ne, up2_eq, ge, tm8, td8, st_200_m1 gS, st_200_m1 H.1, st_200_9 gS, st_200_9 H.1, st_200_45 gS, st_200_45 H.1, st_200_46 gS, st_200_46 H.1, st_200_47 gS, st_200_47 H.1, st_209_m2 gS, st_209_m2 H.1, st_209_m1 gS, st_209_m1 H.1, st_245_m2 gS, st_245_m2 H.1, st_245_m1 gS, st_245_m1 H.1, st_246_m2 gS, st_246_m2 H.1, st_246_m1 gS, st_246_m1 H.1, st_247_m2 gS, st_247_m2 H.1, st_247_m1 gS, st_247_m1 H.1]; first | done | omega)) ?_
                try simp (disch := omega) only [up2_ne, up2_eq, ge, tm8, td8, st_200_m1 gS, st_200_m1 H.1, st_200_9 gS, st_200_9 H.1, st_200_45 gS, st_200_45 H.1, st_200_46 gS, st_200_46 H.1, st_200_47 gS, st_200_47 H.1, st_209_m2 gS, st_209_m2 H.1, st_209_m1 gS, st_209_m1 H.1, st_245_m2 gS, st_245_m2 H.1, st_245_m1 gS, st_245_m1 H.1, st_246_m2 gS, st_246_m2 H.1, st_246_m1 gS, st_246_m1 H.1, st_247_m2 gS, st_247_m2 H.1, st_247_m1 gS, st_247_m1 H.1]
                refine wp_iconst dX12_isPaired_130 ?_
                refine wp_icmp_ne (tgt := 189) (by first | assumption | exact bI_in _ | exact ⟨by omega, by omega⟩ | exact iAnd_in | exact iOr_in | exact iShr_in | exact iShl_in | exact iXor_in | exact hxs _) (by first | assumption | exact bI_in _ | exact ⟨by omega, by omega⟩ | exact iAnd_in | exact iOr_in | exact iShr_in | exact iShl_in | exact iXor_in | exact hxs _) dX12_isPaired_131 (by decide) (fun c16 => ?_) (fun c16 => ?_)
                · refine wp_iinc rfl rfl dX12_isPaired_189 rfl rfl ?_
                  try simp only [List.set_cons_zero, List.set_cons_succ]
                  refine wp_goto (tgt := 72) dX12_isPaired_192 (by decide) ?_
                  have e0 : en = -1 := by omega
                  subst e0
                  have h01 := h01 (by omega)
                  refine wp_dropAt 5 rfl (wp_dropAt 6 rfl ?_)
                  first
                    | (have hx := sS_r I.1 (a := (n : Int) / 8) (r := (n : Int) % 8) (en := (n : Int) % 8) (by omega) (by omega) (by omega) (by omega) (by assumption) (by omega) (by omega) (by assumption) (Or.inl ⟨rfl, by omega⟩)
                       exact ihn (by omega) _ 1 _ ⟨hx.1, Or.inr ⟨rfl, by rcases I.2 with z | z; rw [← z.2.2.1]; exact hx.2; omega⟩⟩)
                    | (have hx := sS_r I.1 (a := (n : Int) / 8) (r := (n : Int) % 8) (en := -1) (by omega) (by omega) (by omega) (by omega) (by assumption) (by omega) (by omega) (by assumption) (Or.inr ⟨rfl, by omega⟩)
                       exact ihn (by omega) _ 1 _ ⟨hx.1, Or.inr ⟨rfl, by rcases I.2 with z | z; rw [← z.2.2.1]; exact hx.2; omega⟩⟩)
                    | (refine ihn (by omega) g mo (-1) ⟨I.1, ?_⟩
                       rcases I.2 with ⟨z1, z2, z3, z4⟩ | z
                       · refine Or.inl ⟨z1, z2, z3, fun i i0 i1 => ?_⟩
                         by_cases c : i = n
                         · subst c
                           rw [← z3]
                           rintro ⟨y1, y2, y3, y4, y5⟩
                           first | contradiction | omega
                         · exact z4 i i0 (by omega)
                       · exact Or.inr z)
                · refine wp_aload_n rfl rfl dX12_isPaired_134 ?_
                  refine wp_getfield1 (z := 13) (kI := 45) fX12_189 dX12_isPaired_135 (by first | omega | (simp (disch := omega) only [up2_ne, up2_eq, ge, tm8, td8, st_200_m1 gS, st_200_m1 H.1, st_200_9 gS, st_200_9 H.1, st_200_45 gS, st_200_45 H.1, st_200_46 gS, st_200_46 H.1, st_200_47 gS, st_200_47 H.1, st_209_m2 gS, st_209_m2 H.1, st_209_m1 gS, st_209_m1 H.1, st_245_m2 gS, st_245_m2 H.1, st_245_m1 gS, st_245_m1 H.1, st_246_m2 gS, st_246_m2 H.1, st_246_m1 gS, st_246_m1 H.1, st_247_m2 gS, st_247_m2 H.1, st_247_m1 gS, st_247_m1 H.1]; first | done | omega)) (by first | assumption | (simp (disch := omega) only [up2_ne, up2_eq, ge, tm8, td8, st_200_m1 gS, st_200_m1 H.1, st_200_9 gS, st_200_9 H.1, st_200_45 gS, st_200_45 H.1, st_200_46 gS, st_200_46 H.1, st_200_47 gS, st_200_47 H.1, st_209_m2 gS, st_209_m2 H.1, st_209_m1 gS, st_209_m1 H.1, st_245_m2 gS, st_245_m2 H.1, st_245_m1 gS, st_245_m1 H.1, st_246_m2 gS, st_246_m2 H.1, st_246_m1 gS, st_246_m1 H.1, st_247_m2 gS, st_247_m2 H.1, st_247_m1 gS, st_247_m1 H.1]; first | done | rfl | omega)) rfl rfl ?_
                  try simp (disch := omega) only [up2_ne, up2_eq, ge, tm8, td8, st_200_m1 gS, st_200_m1 H.1, st_200_9 gS, st_200_9 H.1, st_200_45 gS, st_200_45 H.1, st_200_46 gS, st_200_46 H.1, st_200_47 gS, st_200_47 H.1, st_209_m2 gS, st_209_m2 H.1, st_209_m1 gS, st_209_m1 H.1, st_245_m2 gS, st_245_m2 H.1, st_245_m1 gS, st_245_m1 H.1, st_246_m2 gS, st_246_m2 H.1, st_246_m1 gS, st_246_m1 H.1, st_247_m2 gS, st_247_m2 H.1, st_247_m1 gS, st_247_m1 H.1]
                  refine wp_iload rfl dX12_isPaired_138 ?_
                  refine wp_zaload1 dX12_isPaired_140 (by first | omega | (simp (disch := omega) only [up2_ne, up2_eq, ge, tm8, td8, st_200_m1 gS, st_200_m1 H.1, st_200_9 gS, st_200_9 H.1, st_200_45 gS, st_200_45 H.1, st_200_46 gS, st_200_46 H.1, st_200_47 gS, st_200_47 H.1, st_209_m2 gS, st_209_m2 H.1, st_209_m1 gS, st_209_m1 H.1, st_245_m2 gS, st_245_m2 H.1, st_245_m1 gS, st_245_m1 H.1, st_246_m2 gS, st_246_m2 H.1, st_246_m1 gS, st_246_m1 H.1, st_247_m2 gS, st_247_m2 H.1, st_247_m1 gS, st_247_m1 H.1]; first | done | omega)) (by first | assumption | (simp (disch := omega) only [up2_ne, up2_eq, ge, tm8, td8, st_200_m1 gS, st_200_m1 H.1, st_200_9 gS, st_200_9 H.1, st_200_45 gS, st_200_45 H.1, st_200_46 gS, st_200_46 H.1, st_200_47 gS, st_200_47 H.1, st_209_m2 gS, st_209_m2 H.1, st_209_m1 gS, st_209_m1 H.1, st_245_m2 gS, st_245_m2 H.1, st_245_m1 gS, st_245_m1 H.1, st_246_m2 gS, st_246_m2 H.1, st_246_m1 gS, st_246_m1 H.1, st_247_m2 gS, st_247_m2 H.1, st_247_m1 gS, st_247_m1 H.1]; first | done | rfl | omega)) (by first | omega | (simp (disch := omega) only [up2_ne, up2_eq, ge, tm8, td8, st_200_m1 gS, st_200_m1 H.1, st_200_9 gS, st_200_9 H.1, st_200_45 gS, st_200_45 H.1, st_200_46 gS, st_200_46 H.1, st_200_47 gS, st_200_47 H.1, st_209_m2 gS, st_209_m2 H.1, st_209_m1 gS, st_209_m1 H.1, st_245_m2 gS, st_245_m2 H.1, st_245_m1 gS, st_245_m1 H.1, st_246_m2 gS, st_246_m2 H.1, st_246_m1 gS, st_246_m1 H.1, st_247_m2 gS, st_247_m2 H.1, st_247_m1 gS, st_247_m1 H.1]; first | done | omega)) (by first | omega | (simp (disch := omega) only [up2_ne, up2_eq, ge, tm8, td8, st_200_m1 gS, st_200_m1 H.1, st_200_9 gS, st_200_9 H.1, st_200_45 gS, st_200_45 H.1, st_200_46 gS, st_200_46 H.1, st_200_47 gS, st_200_47 H.1, st_209_m2 gS, st_209_m2 H.1, st_209_m1 gS, st_209_m1 H.1, st_245_m2 gS, st_245_m2 H.1, st_245_m1 gS, st_245_m1 H.1, st_246_m2 gS, st_246_m2 H.1, st_246_m1 gS, st_246_m1 H.1, st_247_m2 gS, st_247_m2 H.1, st_247_m1 gS, st_247_m1 H.1]; first | done | omega)) ?_
                  try simp (disch := omega) only [up2_ne, up2_eq, ge, tm8, td8, st_200_m1 gS, st_200_m1 H.1, st_200_9 gS, st_200_9 H.1, st_200_45 gS, st_200_45 H.1, st_200_46 gS, st_200_46 H.1, st_200_47 gS, st_200_47 H.1, st_209_m2 gS, st_209_m2 H.1, st_209_m1 gS, st_209_m1 H.1, st_245_m2 gS, st_245_m2 H.1, st_245_m1 gS, st_245_m1 H.1, st_246_m2 gS, st_246_m2 H.1, st_246_m1 gS, st_246_m1 H.1, st_247_m2 gS, st_247_m2 H.1, st_247_m1 gS, st_247_m1 H.1]
                  have h01x := h01 (by omega)
                  refine wp_if_ne (tgt := 189) (by first | assumption | exact bI_in _ | exact ⟨by omega, by omega⟩ | exact iAnd_in | exact iOr_in | exact iShr_in | exact iShl_in | exact iXor_in | exact hxs _) dX12_isPaired_141 (by decide) (fun c17 => ?_) (fun c17 => ?_)
                  · refine wp_iinc rfl rfl dX12_isPaired_189 rfl rfl ?_
                    try simp only [List.set_cons_zero, List.set_cons_succ]
                    refine wp_goto (tgt := 72) dX12_isPaired_192 (by decide) ?_
                    have e0 : en = -1 := by omega
                    subst e0
                    have h01 := h01 (by omega)
                    refine wp_dropAt 5 rfl (wp_dropAt 6 rfl ?_)
                    first
                      | (have hx := sS_r I.1 (a := (n : Int) / 8) (r := (n : Int) % 8) (en := (n : Int) % 8) (by omega) (by omega) (by omega) (by omega) (by assumption) (by omega) (by omega) (by assumption) (Or.inl ⟨rfl, by omega⟩)
                         exact ihn (by omega) _ 1 _ ⟨hx.1, Or.inr ⟨rfl, by rcases I.2 with z | z; rw [← z.2.2.1]; exact hx.2; omega⟩⟩)
                      | (have hx := sS_r I.1 (a := (n : Int) / 8) (r := (n : Int) % 8) (en := -1) (by omega) (by omega) (by omega) (by omega) (by assumption) (by omega) (by omega) (by assumption) (Or.inr ⟨rfl, by omega⟩)
                         exact ihn (by omega) _ 1 _ ⟨hx.1, Or.inr ⟨rfl, by rcases I.2 with z | z; rw [← z.2.2.1]; exact hx.2; omega⟩⟩)
                      | (refine ihn (by omega) g mo (-1) ⟨I.1, ?_⟩
                         rcases I.2 with ⟨z1, z2, z3, z4⟩ | z
                         · refine Or.inl ⟨z1, z2, z3, fun i i0 i1 => ?_⟩
                           by_cases c : i = n
                           · subst c
                             rw [← z3]
                             rintro ⟨y1, y2, y3, y4, y5⟩
                             first | contradiction | omega
                           · exact z4 i i0 (by omega)
                         · exact Or.inr z)
                  · refine wp_aload_n rfl rfl dX12_isPaired_144 ?_
                    refine wp_iload rfl dX12_isPaired_145 ?_
                    refine wp_iload rfl dX12_isPaired_147 ?_
                    refine wp_cV2 (ci := 12) okX12_isBarred rfl rfl wX12_288 dX12_isPaired_149 rfl (Nat.le_of_ble_eq_true rfl) (Nat.le_of_ble_eq_true rfl) (by first | omega | (simp (disch := omega) only [up2_ne, up2_eq, ge, tm8, td8, st_200_m1 gS, st_200_m1 H.1, st_200_9 gS, st_200_9 H.1, st_200_45 gS, st_200_45 H.1, st_200_46 gS, st_200_46 H.1, st_200_47 gS, st_200_47 H.1, st_209_m2 gS, st_209_m2 H.1, st_209_m1 gS, st_209_m1 H.1, st_245_m2 gS, st_245_m2 H.1, st_245_m1 gS, st_245_m1 H.1, st_246_m2 gS, st_246_m2 H.1, st_246_m1 gS, st_246_m1 H.1, st_247_m2 gS, st_247_m2 H.1, st_247_m1 gS, st_247_m1 H.1]; first | done | omega)) (by first | assumption | (simp (disch := omega) only [up2_ne, up2_eq, ge, tm8, td8, st_200_m1 gS, st_200_m1 H.1, st_200_9 gS, st_200_9 H.1, st_200_45 gS, st_200_45 H.1, st_200_46 gS, st_200_46 H.1, st_200_47 gS, st_200_47 H.1, st_209_m2 gS, st_209_m2 H.1, st_209_m1 gS, st_209_m1 H.1, st_245_m2 gS, st_245_m2 H.1, st_245_m1 gS, st_245_m1 H.1, st_246_m2 gS, st_246_m2 H.1, st_246_m1 gS, st_246_m1 H.1, st_247_m2 gS, st_247_m2 H.1, st_247_m1 gS, st_247_m1 H.1]; first | done | rfl | omega)) (rbar H ge gS (by omega) (by omega) (by omega) (by omega)) (Nat.zero_le _) ?_
                    try simp (disch := omega) only [up2_ne, up2_eq, ge, tm8, td8, st_200_m1 gS, st_200_m1 H.1, st_200_9 gS, st_200_9 H.1, st_200_45 gS, st_200_45 H.1, st_200_46 gS, st_200_46 H.1, st_200_47 gS, st_200_47 H.1, st_209_m2 gS, st_209_m2 H.1, st_209_m1 gS, st_209_m1 H.1, st_245_m2 gS, st_245_m2 H.1, st_245_m1 gS, st_245_m1 H.1, st_246_m2 gS, st_246_m2 H.1, st_246_m1 gS, st_246_m1 H.1, st_247_m2 gS, st_247_m2 H.1, st_247_m1 gS, st_247_m1 H.1]
                    refine wp_ifB_ne (tgt := 189) dX12_isPaired_152 (by decide) (fun c18 => ?_) (fun c18 => ?_)
                    · refine wp_iinc rfl rfl dX12_isPaired_189 rfl rfl ?_
                      try simp only [List.set_cons_zero, List.set_cons_succ]
                      refine wp_goto (tgt := 72) dX12_isPaired_192 (by decide) ?_
                      have e0 : en = -1 := by omega
                      subst e0
                      have h01 := h01 (by omega)
                      refine wp_dropAt 5 rfl (wp_dropAt 6 rfl ?_)
                      first
                        | (have hx := sS_r I.1 (a := (n : Int) / 8) (r := (n : Int) % 8) (en := (n : Int) % 8) (by omega) (by omega) (by omega) (by omega) (by assumption) (by omega) (by omega) (by assumption) (Or.inl ⟨rfl, by omega⟩)
                           exact ihn (by omega) _ 1 _ ⟨hx.1, Or.inr ⟨rfl, by rcases I.2 with z | z; rw [← z.2.2.1]; exact hx.2; omega⟩⟩)
                        | (have hx := sS_r I.1 (a := (n : Int) / 8) (r := (n : Int) % 8) (en := -1) (by omega) (by omega) (by omega) (by omega) (by assumption) (by omega) (by omega) (by assumption) (Or.inr ⟨rfl, by omega⟩)
                           exact ihn (by omega) _ 1 _ ⟨hx.1, Or.inr ⟨rfl, by rcases I.2 with z | z; rw [← z.2.2.1]; exact hx.2; omega⟩⟩)
                        | (refine ihn (by omega) g mo (-1) ⟨I.1, ?_⟩
                           rcases I.2 with ⟨z1, z2, z3, z4⟩ | z
                           · refine Or.inl ⟨z1, z2, z3, fun i i0 i1 => ?_⟩
                             by_cases c : i = n
                             · subst c
                               rw [← z3]
                               rintro ⟨y1, y2, y3, y4, y5⟩
                               first | contradiction | omega
                             · exact z4 i i0 (by omega)
                           · exact Or.inr z)
                    · refine wp_aload_n rfl rfl dX12_isPaired_155 ?_
                      refine wp_getfield1 (z := 13) (kI := 47) fX12_195 dX12_isPaired_156 (by first | omega | (simp (disch := omega) only [up2_ne, up2_eq, ge, tm8, td8, st_200_m1 gS, st_200_m1 H.1, st_200_9 gS, st_200_9 H.1, st_200_45 gS, st_200_45 H.1, st_200_46 gS, st_200_46 H.1, st_200_47 gS, st_200_47 H.1, st_209_m2 gS, st_209_m2 H.1, st_209_m1 gS, st_209_m1 H.1, st_245_m2 gS, st_245_m2 H.1, st_245_m1 gS, st_245_m1 H.1, st_246_m2 gS, st_246_m2 H.1, st_246_m1 gS, st_246_m1 H.1, st_247_m2 gS, st_247_m2 H.1, st_247_m1 gS, st_247_m1 H.1]; first | done | omega)) (by first | assumption | (simp (disch := omega) only [up2_ne, up2_eq, ge, tm8, td8, st_200_m1 gS, st_200_m1 H.1, st_200_9 gS, st_200_9 H.1, st_200_45 gS, st_200_45 H.1, st_200_46 gS, st_200_46 H.1, st_200_47 gS, st_200_47 H.1, st_209_m2 gS, st_209_m2 H.1, st_209_m1 gS, st_209_m1 H.1, st_245_m2 gS, st_245_m2 H.1, st_245_m1 gS, st_245_m1 H.1, st_246_m2 gS, st_246_m2 H.1, st_246_m1 gS, st_246_m1 H.1, st_247_m2 gS, st_247_m2 H.1, st_247_m1 gS, st_247_m1 H.1]; first | done | rfl | omega)) rfl rfl ?_
                      try simp (disch := omega) only [up2_ne, up2_eq, ge, tm8, td8, st_200_m1 gS, st_200_m1 H.1, st_200_9 gS, st_200_9 H.1, st_200_45 gS, st_200_45 H.1, st_200_46 gS, st_200_46 H.1, st_200_47 gS, st_200_47 H.1, st_209_m2 gS, st_209_m2 H.1, st_209_m1 gS, st_209_m1 H.1, st_245_m2 gS, st_245_m2 H.1, st_245_m1 gS, st_245_m1 H.1, st_246_m2 gS, st_246_m2 H.1, st_246_m1 gS, st_246_m1 H.1, st_247_m2 gS, st_247_m2 H.1, st_247_m1 gS, st_247_m1 H.1]
                      refine wp_iload rfl dX12_isPaired_159 ?_
                      refine wp_iload rfl dX12_isPaired_161 ?_
                      refine wp_iastore1 dX12_isPaired_163 (by first | omega | (simp (disch := omega) only [up2_ne, up2_eq, ge, tm8, td8, st_200_m1 gS, st_200_m1 H.1, st_200_9 gS, st_200_9 H.1, st_200_45 gS, st_200_45 H.1, st_200_46 gS, st_200_46 H.1, st_200_47 gS, st_200_47 H.1, st_209_m2 gS, st_209_m2 H.1, st_209_m1 gS, st_209_m1 H.1, st_245_m2 gS, st_245_m2 H.1, st_245_m1 gS, st_245_m1 H.1, st_246_m2 gS, st_246_m2 H.1, st_246_m1 gS, st_246_m1 H.1, st_247_m2 gS, st_247_m2 H.1, st_247_m1 gS, st_247_m1 H.1]; first | done | omega)) (by first | assumption | (simp (disch := omega) only [up2_ne, up2_eq, ge, tm8, td8, st_200_m1 gS, st_200_m1 H.1, st_200_9 gS, st_200_9 H.1, st_200_45 gS, st_200_45 H.1, st_200_46 gS, st_200_46 H.1, st_200_47 gS, st_200_47 H.1, st_209_m2 gS, st_209_m2 H.1, st_209_m1 gS, st_209_m1 H.1, st_245_m2 gS, st_245_m2 H.1, st_245_m1 gS, st_245_m1 H.1, st_246_m2 gS, st_246_m2 H.1, st_246_m1 gS, st_246_m1 H.1, st_247_m2 gS, st_247_m2 H.1, st_247_m1 gS, st_247_m1 H.1]; first | done | rfl | omega)) (by first | omega | (simp (disch := omega) only [up2_ne, up2_eq, ge, tm8, td8, st_200_m1 gS, st_200_m1 H.1, st_200_9 gS, st_200_9 H.1, st_200_45 gS, st_200_45 H.1, st_200_46 gS, st_200_46 H.1, st_200_47 gS, st_200_47 H.1, st_209_m2 gS, st_209_m2 H.1, st_209_m1 gS, st_209_m1 H.1, st_245_m2 gS, st_245_m2 H.1, st_245_m1 gS, st_245_m1 H.1, st_246_m2 gS, st_246_m2 H.1, st_246_m1 gS, st_246_m1 H.1, st_247_m2 gS, st_247_m2 H.1, st_247_m1 gS, st_247_m1 H.1]; first | done | omega)) (by first | omega | (simp (disch := omega) only [up2_ne, up2_eq, ge, tm8, td8, st_200_m1 gS, st_200_m1 H.1, st_200_9 gS, st_200_9 H.1, st_200_45 gS, st_200_45 H.1, st_200_46 gS, st_200_46 H.1, st_200_47 gS, st_200_47 H.1, st_209_m2 gS, st_209_m2 H.1, st_209_m1 gS, st_209_m1 H.1, st_245_m2 gS, st_245_m2 H.1, st_245_m1 gS, st_245_m1 H.1, st_246_m2 gS, st_246_m2 H.1, st_246_m1 gS, st_246_m1 H.1, st_247_m2 gS, st_247_m2 H.1, st_247_m1 gS, st_247_m1 H.1]; first | done | omega)) ?_
                      refine wp_iconst dX12_isPaired_164 ?_
                      refine wp_istore_n rfl dX12_isPaired_165 rfl (Nat.le_of_ble_eq_true rfl) rfl ?_
                      try simp only [List.set_cons_zero, List.set_cons_succ]
                      refine wp_aload_n rfl rfl dX12_isPaired_166 ?_
                      refine wp_iload rfl dX12_isPaired_167 ?_
                      refine wp_cV1 (ci := 12) okX12_pairsBy rfl rfl wX12_295 dX12_isPaired_169 rfl (Nat.le_of_ble_eq_true rfl) (Nat.le_of_ble_eq_true rfl) (by first | omega | (simp (disch := omega) only [up2_ne, up2_eq, ge, tm8, td8, st_200_m1 gS, st_200_m1 H.1, st_200_9 gS, st_200_9 H.1, st_200_45 gS, st_200_45 H.1, st_200_46 gS, st_200_46 H.1, st_200_47 gS, st_200_47 H.1, st_209_m2 gS, st_209_m2 H.1, st_209_m1 gS, st_209_m1 H.1, st_245_m2 gS, st_245_m2 H.1, st_245_m1 gS, st_245_m1 H.1, st_246_m2 gS, st_246_m2 H.1, st_246_m1 gS, st_246_m1 H.1, st_247_m2 gS, st_247_m2 H.1, st_247_m1 gS, st_247_m1 H.1]; first | done | omega)) (by first | assumption | (simp (disch := omega) only [up2_ne, up2_eq, ge, tm8, td8, st_200_m1 gS, st_200_m1 H.1, st_200_9 gS, st_200_9 H.1, st_200_45 gS, st_200_45 H.1, st_200_46 gS, st_200_46 H.1, st_200_47 gS, st_200_47 H.1, st_209_m2 gS, st_209_m2 H.1, st_209_m1 gS, st_209_m1 H.1, st_245_m2 gS, st_245_m2 H.1, st_245_m1 gS, st_245_m1 H.1, st_246_m2 gS, st_246_m2 H.1, st_246_m1 gS, st_246_m1 H.1, st_247_m2 gS, st_247_m2 H.1, st_247_m1 gS, st_247_m1 H.1]; first | done | rfl | omega)) (pairsBy_row H ge gS gK SM eM (a := (n : Int) / 8) (by omega) (by omega)) (Nat.zero_le _) ?_
                      try simp (disch := omega) only [up2_ne, up2_eq, ge, tm8, td8, st_200_m1 gS, st_200_m1 H.1, st_200_9 gS, st_200_9 H.1, st_200_45 gS, st_200_45 H.1, st_200_46 gS, st_200_46 H.1, st_200_47 gS, st_200_47 H.1, st_209_m2 gS, st_209_m2 H.1, st_209_m1 gS, st_209_m1 H.1, st_245_m2 gS, st_245_m2 H.1, st_245_m1 gS, st_245_m1 H.1, st_246_m2 gS, st_246_m2 H.1, st_246_m1 gS, st_246_m1 H.1, st_247_m2 gS, st_247_m2 H.1, st_247_m1 gS, st_247_m1 H.1]
                      refine wp_aload_n rfl rfl dX12_isPaired_172 ?_
                      refine wp_getfield1 (z := 13) (kI := 9) fX12_52 dX12_isPaired_173 (by first | omega | (simp (disch := omega) only [up2_ne, up2_eq, ge, tm8, td8, st_200_m1 gS, st_200_m1 H.1, st_200_9 gS, st_200_9 H.1, st_200_45 gS, st_200_45 H.1, st_200_46 gS, st_200_46 H.1, st_200_47 gS, st_200_47 H.1, st_209_m2 gS, st_209_m2 H.1, st_209_m1 gS, st_209_m1 H.1, st_245_m2 gS, st_245_m2 H.1, st_245_m1 gS, st_245_m1 H.1, st_246_m2 gS, st_246_m2 H.1, st_246_m1 gS, st_246_m1 H.1, st_247_m2 gS, st_247_m2 H.1, st_247_m1 gS, st_247_m1 H.1]; first | done | omega)) (by first | assumption | (simp (disch := omega) only [up2_ne, up2_eq, ge, tm8, td8, st_200_m1 gS, st_200_m1 H.1, st_200_9 gS, st_200_9 H.1, st_200_45 gS, st_200_45 H.1, st_200_46 gS, st_200_46 H.1, st_200_47 gS, st_200_47 H.1, st_209_m2 gS, st_209_m2 H.1, st_209_m1 gS, st_209_m1 H.1, st_245_m2 gS, st_245_m2 H.1, st_245_m1 gS, st_245_m1 H.1, st_246_m2 gS, st_246_m2 H.1, st_246_m1 gS, st_246_m1 H.1, st_247_m2 gS, st_247_m2 H.1, st_247_m1 gS, st_247_m1 H.1]; first | done | rfl | omega)) rfl rfl ?_
                      try simp (disch := omega) only [up2_ne, up2_eq, ge, tm8, td8, st_200_m1 gS, st_200_m1 H.1, st_200_9 gS, st_200_9 H.1, st_200_45 gS, st_200_45 H.1, st_200_46 gS, st_200_46 H.1, st_200_47 gS, st_200_47 H.1, st_209_m2 gS, st_209_m2 H.1, st_209_m1 gS, st_209_m1 H.1, st_245_m2 gS, st_245_m2 H.1, st_245_m1 gS, st_245_m1 H.1, st_246_m2 gS, st_246_m2 H.1, st_246_m1 gS, st_246_m1 H.1, st_247_m2 gS, st_247_m2 H.1, st_247_m1 gS, st_247_m1 H.1]
                      refine wp_iload rfl dX12_isPaired_176 ?_
                      refine wp_iaload1 dX12_isPaired_178 (by first | omega | (simp (disch := omega) only [up2_ne, up2_eq, ge, tm8, td8, st_200_m1 gS, st_200_m1 H.1, st_200_9 gS, st_200_9 H.1, st_200_45 gS, st_200_45 H.1, st_200_46 gS, st_200_46 H.1, st_200_47 gS, st_200_47 H.1, st_209_m2 gS, st_209_m2 H.1, st_209_m1 gS, st_209_m1 H.1, st_245_m2 gS, st_245_m2 H.1, st_245_m1 gS, st_245_m1 H.1, st_246_m2 gS, st_246_m2 H.1, st_246_m1 gS, st_246_m1 H.1, st_247_m2 gS, st_247_m2 H.1, st_247_m1 gS, st_247_m1 H.1]; first | done | omega)) (by first | assumption | (simp (disch := omega) only [up2_ne, up2_eq, ge, tm8, td8, st_200_m1 gS, st_200_m1 H.1, st_200_9 gS, st_200_9 H.1, st_200_45 gS, st_200_45 H.1, st_200_46 gS, st_200_46 H.1, st_200_47 gS, st_200_47 H.1, st_209_m2 gS, st_209_m2 H.1, st_209_m1 gS, st_209_m1 H.1, st_245_m2 gS, st_245_m2 H.1, st_245_m1 gS, st_245_m1 H.1, st_246_m2 gS, st_246_m2 H.1, st_246_m1 gS, st_246_m1 H.1, st_247_m2 gS, st_247_m2 H.1, st_247_m1 gS, st_247_m1 H.1]; first | done | rfl | omega)) (by first | omega | (simp (disch := omega) only [up2_ne, up2_eq, ge, tm8, td8, st_200_m1 gS, st_200_m1 H.1, st_200_9 gS, st_200_9 H.1, st_200_45 gS, st_200_45 H.1, st_200_46 gS, st_200_46 H.1, st_200_47 gS, st_200_47 H.1, st_209_m2 gS, st_209_m2 H.1, st_209_m1 gS, st_209_m1 H.1, st_245_m2 gS, st_245_m2 H.1, st_245_m1 gS, st_245_m1 H.1, st_246_m2 gS, st_246_m2 H.1, st_246_m1 gS, st_246_m1 H.1, st_247_m2 gS, st_247_m2 H.1, st_247_m1 gS, st_247_m1 H.1]; first | done | omega)) (by first | omega | (simp (disch := omega) only [up2_ne, up2_eq, ge, tm8, td8, st_200_m1 gS, st_200_m1 H.1, st_200_9 gS, st_200_9 H.1, st_200_45 gS, st_200_45 H.1, st_200_46 gS, st_200_46 H.1, st_200_47 gS, st_200_47 H.1, st_209_m2 gS, st_209_m2 H.1, st_209_m1 gS, st_209_m1 H.1, st_245_m2 gS, st_245_m2 H.1, st_245_m1 gS, st_245_m1 H.1, st_246_m2 gS, st_246_m2 H.1, st_246_m1 gS, st_246_m1 H.1, st_247_m2 gS, st_247_m2 H.1, st_247_m1 gS, st_247_m1 H.1]; first | done | omega)) ?_
                      try simp (disch := omega) only [up2_ne, up2_eq, ge, tm8, td8, st_200_m1 gS, st_200_m1 H.1, st_200_9 gS, st_200_9 H.1, st_200_45 gS, st_200_45 H.1, st_200_46 gS, st_200_46 H.1, st_200_47 gS, st_200_47 H.1, st_209_m2 gS, st_209_m2 H.1, st_209_m1 gS, st_209_m1 H.1, st_245_m2 gS, st_245_m2 H.1, st_245_m1 gS, st_245_m1 H.1, st_246_m2 gS, st_246_m2 H.1, st_246_m1 gS, st_246_m1 H.1, st_247_m2 gS, st_247_m2 H.1, st_247_m1 gS, st_247_m1 H.1]
                      have hld := H.rld (r := (n : Int) % 8) (by omega) (by omega)
                      have hub := useP_b (m := m) (g := h) SH (r := (n : Int) % 8) (by omega) (by omega) (by omega)
                      refine wp_icmp_ge (tgt := 187) (by first | assumption | exact bI_in _ | exact ⟨by omega, by omega⟩ | exact iAnd_in | exact iOr_in | exact iShr_in | exact iShl_in | exact iXor_in | exact hxs _) (by first | assumption | exact bI_in _ | exact ⟨by omega, by omega⟩ | exact iAnd_in | exact iOr_in | exact iShr_in | exact iShl_in | exact iXor_in | exact hxs _) dX12_isPaired_179 (by decide) (fun c19 => ?_) (fun c19 => ?_)
                      · refine wp_iconst dX12_isPaired_187 ?_
                        refine wp_istore_n rfl dX12_isPaired_188 rfl (Nat.le_of_ble_eq_true rfl) rfl ?_
                        try simp only [List.set_cons_zero, List.set_cons_succ]
                        refine wp_iinc rfl rfl dX12_isPaired_189 rfl rfl ?_
                        try simp only [List.set_cons_zero, List.set_cons_succ]
                        refine wp_goto (tgt := 72) dX12_isPaired_192 (by decide) ?_
                        have e0 : en = -1 := by omega
                        subst e0
                        have h01 := h01 (by omega)
                        refine wp_dropAt 5 rfl (wp_dropAt 6 rfl ?_)
                        first
                          | (have hx := sS_r I.1 (a := (n : Int) / 8) (r := (n : Int) % 8) (en := (n : Int) % 8) (by omega) (by omega) (by omega) (by omega) (by assumption) (by omega) (by omega) (by assumption) (Or.inl ⟨rfl, by omega⟩)
                             exact ihn (by omega) _ 1 _ ⟨hx.1, Or.inr ⟨rfl, by rcases I.2 with z | z; rw [← z.2.2.1]; exact hx.2; omega⟩⟩)
                          | (have hx := sS_r I.1 (a := (n : Int) / 8) (r := (n : Int) % 8) (en := -1) (by omega) (by omega) (by omega) (by omega) (by assumption) (by omega) (by omega) (by assumption) (Or.inr ⟨rfl, by omega⟩)
                             exact ihn (by omega) _ 1 _ ⟨hx.1, Or.inr ⟨rfl, by rcases I.2 with z | z; rw [← z.2.2.1]; exact hx.2; omega⟩⟩)
                          | (refine ihn (by omega) g mo (-1) ⟨I.1, ?_⟩
                             rcases I.2 with ⟨z1, z2, z3, z4⟩ | z
                             · refine Or.inl ⟨z1, z2, z3, fun i i0 i1 => ?_⟩
                               by_cases c : i = n
                               · subst c
                                 rw [← z3]
                                 rintro ⟨y1, y2, y3, y4, y5⟩
                                 first | contradiction | omega
                               · exact z4 i i0 (by omega)
                             · exact Or.inr z)
                      · refine wp_iload rfl dX12_isPaired_182 ?_
                        refine wp_goto (tgt := 188) dX12_isPaired_184 (by decide) ?_
                        refine wp_istore_n rfl dX12_isPaired_188 rfl (Nat.le_of_ble_eq_true rfl) rfl ?_
                        try simp only [List.set_cons_zero, List.set_cons_succ]
                        refine wp_iinc rfl rfl dX12_isPaired_189 rfl rfl ?_
                        try simp only [List.set_cons_zero, List.set_cons_succ]
                        refine wp_goto (tgt := 72) dX12_isPaired_192 (by decide) ?_
                        have e0 : en = -1 := by omega
                        subst e0
                        have h01 := h01 (by omega)
                        refine wp_dropAt 5 rfl (wp_dropAt 6 rfl ?_)
                        first
                          | (have hx := sS_r I.1 (a := (n : Int) / 8) (r := (n : Int) % 8) (en := (n : Int) % 8) (by omega) (by omega) (by omega) (by omega) (by assumption) (by omega) (by omega) (by assumption) (Or.inl ⟨rfl, by omega⟩)
                             exact ihn (by omega) _ 1 _ ⟨hx.1, Or.inr ⟨rfl, by rcases I.2 with z | z; rw [← z.2.2.1]; exact hx.2; omega⟩⟩)
                          | (have hx := sS_r I.1 (a := (n : Int) / 8) (r := (n : Int) % 8) (en := -1) (by omega) (by omega) (by omega) (by omega) (by assumption) (by omega) (by omega) (by assumption) (Or.inr ⟨rfl, by omega⟩)
                             exact ihn (by omega) _ 1 _ ⟨hx.1, Or.inr ⟨rfl, by rcases I.2 with z | z; rw [← z.2.2.1]; exact hx.2; omega⟩⟩)
                          | (refine ihn (by omega) g mo (-1) ⟨I.1, ?_⟩
                             rcases I.2 with ⟨z1, z2, z3, z4⟩ | z
                             · refine Or.inl ⟨z1, z2, z3, fun i i0 i1 => ?_⟩
                               by_cases c : i = n
                               · subst c
                                 rw [← z3]
                                 rintro ⟨y1, y2, y3, y4, y5⟩
                                 first | contradiction | omega
                               · exact z4 i i0 (by omega)
                             · exact Or.inr z)
      have hen0 : en0 = -1 ∨ (0 ≤ en0 ∧ en0 < m 200 6) := by rcases Ss.2.2.2 with z | z; exact Or.inl z.1; exact Or.inr ⟨z.1, z.2.1⟩
      refine wp_iload_n rfl rfl dX12_isPaired_58 ?_
      refine wp_if_eq (tgt := 290) (by first | assumption | exact bI_in _ | exact ⟨by omega, by omega⟩ | exact iAnd_in | exact iOr_in | exact iShr_in | exact iShl_in | exact iXor_in | exact hxs _) dX12_isPaired_59 (by decide) (fun c20 => ?_) (fun c20 => ?_)
      · have hne : en0 ≠ -1 := by omega
        exact fin gs en0 mo0 Ss (Or.inl hne)
      · refine wp_iload_n rfl rfl dX12_isPaired_62 ?_
        refine wp_iconst dX12_isPaired_63 ?_
        refine wp_icmp_ne (tgt := 290) (by first | assumption | exact bI_in _ | exact ⟨by omega, by omega⟩ | exact iAnd_in | exact iOr_in | exact iShr_in | exact iShl_in | exact iXor_in | exact hxs _) (by first | assumption | exact bI_in _ | exact ⟨by omega, by omega⟩ | exact iAnd_in | exact iOr_in | exact iShr_in | exact iShl_in | exact iXor_in | exact hxs _) dX12_isPaired_64 (by decide) (fun c21 => ?_) (fun c21 => ?_)
        · have hne : en0 ≠ -1 := by omega
          exact fin gs en0 mo0 Ss (Or.inl hne)
        · refine wp_iconst dX12_isPaired_67 ?_
          refine wp_istore_n rfl dX12_isPaired_68 rfl (Nat.le_of_ble_eq_true rfl) rfl ?_
          try simp only [List.set_cons_zero, List.set_cons_succ]
          refine wp_iconst dX12_isPaired_69 ?_
          refine wp_istore dX12_isPaired_70 rfl (Nat.le_of_ble_eq_true rfl) rfl ?_
          try simp only [List.set_cons_zero, List.set_cons_succ]
          have e0 : en0 = -1 := by omega
          subst e0
          exact sw1 0 (by omega) gs 0 (-1) ⟨Ss, Or.inl ⟨rfl, rfl, rfl, fun i i0 i1 => by exfalso; omega⟩⟩
  have l2 : ∀ n : Nat, n ≤ (m 200 6).toNat → WP (gX (gq u)) MX12_isPaired (d + 3) b (fun r h1 => stM m h1 ∧ (∀ x k : Int, ¬ ((x = 245 ∨ x = 246 ∨ x = 247) ∧ 0 ≤ k) → h1 x k = h x k) ∧ ((r = (0, 1) ∧ ∀ a : Int, 0 ≤ a → a < m 200 10 → degP m (Mr h1) a = inc (degP m (Mr h)) fr a) ∨ (r = (0, 0) ∧ Mr h1 = Mr h ∧ ¬ Feas m (inc (degP m (Mr h)) fr)))) 25 [(2, 200), (0, fr), (0, (n : Int)), (9, 0), (9, 0), (9, 0), (9, 0)] [] (hset (hset h 246 (m 200 10).toNat (-1)) 247 n (-1)) := by
    refine loop_w (m 200 6).toNat (fun n hn2 ih => ?_)
    refine wp_iload_n rfl rfl dX12_isPaired_25 ?_
    refine wp_aload_n rfl rfl dX12_isPaired_26 ?_
    refine wp_getfield1 (z := 13) (kI := 6) fX12_7 dX12_isPaired_27 (by first | omega | (simp (disch := omega) only [up2_ne, up2_eq, hset_ne, e, st_200_m1 hS, st_200_m1 H.1, st_200_9 hS, st_200_9 H.1, st_200_45 hS, st_200_45 H.1, st_200_46 hS, st_200_46 H.1, st_200_47 hS, st_200_47 H.1, st_209_m2 hS, st_209_m2 H.1, st_209_m1 hS, st_209_m1 H.1, st_245_m2 hS, st_245_m2 H.1, st_245_m1 hS, st_245_m1 H.1, st_246_m2 hS, st_246_m2 H.1, st_246_m1 hS, st_246_m1 H.1, st_247_m2 hS, st_247_m2 H.1, st_247_m1 hS, st_247_m1 H.1]; first | done | omega)) (by first | assumption | (simp (disch := omega) only [up2_ne, up2_eq, hset_ne, e, st_200_m1 hS, st_200_m1 H.1, st_200_9 hS, st_200_9 H.1, st_200_45 hS, st_200_45 H.1, st_200_46 hS, st_200_46 H.1, st_200_47 hS, st_200_47 H.1, st_209_m2 hS, st_209_m2 H.1, st_209_m1 hS, st_209_m1 H.1, st_245_m2 hS, st_245_m2 H.1, st_245_m1 hS, st_245_m1 H.1, st_246_m2 hS, st_246_m2 H.1, st_246_m1 hS, st_246_m1 H.1, st_247_m2 hS, st_247_m2 H.1, st_247_m1 hS, st_247_m1 H.1]; first | done | rfl | omega)) rfl rfl ?_
    try simp (disch := omega) only [up2_ne, up2_eq, hset_ne, e, st_200_m1 hS, st_200_m1 H.1, st_200_9 hS, st_200_9 H.1, st_200_45 hS, st_200_45 H.1, st_200_46 hS, st_200_46 H.1, st_200_47 hS, st_200_47 H.1, st_209_m2 hS, st_209_m2 H.1, st_209_m1 hS, st_209_m1 H.1, st_245_m2 hS, st_245_m2 H.1, st_245_m1 hS, st_245_m1 H.1, st_246_m2 hS, st_246_m2 H.1, st_246_m1 hS, st_246_m1 H.1, st_247_m2 hS, st_247_m2 H.1, st_247_m1 hS, st_247_m1 H.1]
    refine wp_icmp_ge (tgt := 46) (by first | assumption | exact bI_in _ | exact ⟨by omega, by omega⟩ | exact iAnd_in | exact iOr_in | exact iShr_in | exact iShl_in | exact iXor_in | exact hxs _) (by first | assumption | exact bI_in _ | exact ⟨by omega, by omega⟩ | exact iAnd_in | exact iOr_in | exact iShr_in | exact iShl_in | exact iXor_in | exact hxs _) dX12_isPaired_30 (by decide) (fun c22 => ?_) (fun c22 => ?_)
    · refine wp_aload_n rfl rfl dX12_isPaired_46 ?_
      refine wp_getfield1 (z := 13) (kI := 46) fX12_192 dX12_isPaired_47 (by first | omega | (simp (disch := omega) only [up2_ne, up2_eq, hset_ne, e, st_200_m1 hS, st_200_m1 H.1, st_200_9 hS, st_200_9 H.1, st_200_45 hS, st_200_45 H.1, st_200_46 hS, st_200_46 H.1, st_200_47 hS, st_200_47 H.1, st_209_m2 hS, st_209_m2 H.1, st_209_m1 hS, st_209_m1 H.1, st_245_m2 hS, st_245_m2 H.1, st_245_m1 hS, st_245_m1 H.1, st_246_m2 hS, st_246_m2 H.1, st_246_m1 hS, st_246_m1 H.1, st_247_m2 hS, st_247_m2 H.1, st_247_m1 hS, st_247_m1 H.1]; first | done | omega)) (by first | assumption | (simp (disch := omega) only [up2_ne, up2_eq, hset_ne, e, st_200_m1 hS, st_200_m1 H.1, st_200_9 hS, st_200_9 H.1, st_200_45 hS, st_200_45 H.1, st_200_46 hS, st_200_46 H.1, st_200_47 hS, st_200_47 H.1, st_209_m2 hS, st_209_m2 H.1, st_209_m1 hS, st_209_m1 H.1, st_245_m2 hS, st_245_m2 H.1, st_245_m1 hS, st_245_m1 H.1, st_246_m2 hS, st_246_m2 H.1, st_246_m1 hS, st_246_m1 H.1, st_247_m2 hS, st_247_m2 H.1, st_247_m1 hS, st_247_m1 H.1]; first | done | rfl | omega)) rfl rfl ?_
      try simp (disch := omega) only [up2_ne, up2_eq, hset_ne, e, st_200_m1 hS, st_200_m1 H.1, st_200_9 hS, st_200_9 H.1, st_200_45 hS, st_200_45 H.1, st_200_46 hS, st_200_46 H.1, st_200_47 hS, st_200_47 H.1, st_209_m2 hS, st_209_m2 H.1, st_209_m1 hS, st_209_m1 H.1, st_245_m2 hS, st_245_m2 H.1, st_245_m1 hS, st_245_m1 H.1, st_246_m2 hS, st_246_m2 H.1, st_246_m1 hS, st_246_m1 H.1, st_247_m2 hS, st_247_m2 H.1, st_247_m1 hS, st_247_m1 H.1]
      refine wp_iload_n rfl rfl dX12_isPaired_50 ?_
      refine wp_bipush (by decide) dX12_isPaired_51 ?_
      refine wp_iastore1 dX12_isPaired_53 (by first | omega | (simp (disch := omega) only [up2_ne, up2_eq, hset_ne, e, st_200_m1 hS, st_200_m1 H.1, st_200_9 hS, st_200_9 H.1, st_200_45 hS, st_200_45 H.1, st_200_46 hS, st_200_46 H.1, st_200_47 hS, st_200_47 H.1, st_209_m2 hS, st_209_m2 H.1, st_209_m1 hS, st_209_m1 H.1, st_245_m2 hS, st_245_m2 H.1, st_245_m1 hS, st_245_m1 H.1, st_246_m2 hS, st_246_m2 H.1, st_246_m1 hS, st_246_m1 H.1, st_247_m2 hS, st_247_m2 H.1, st_247_m1 hS, st_247_m1 H.1]; first | done | omega)) (by first | assumption | (simp (disch := omega) only [up2_ne, up2_eq, hset_ne, e, st_200_m1 hS, st_200_m1 H.1, st_200_9 hS, st_200_9 H.1, st_200_45 hS, st_200_45 H.1, st_200_46 hS, st_200_46 H.1, st_200_47 hS, st_200_47 H.1, st_209_m2 hS, st_209_m2 H.1, st_209_m1 hS, st_209_m1 H.1, st_245_m2 hS, st_245_m2 H.1, st_245_m1 hS, st_245_m1 H.1, st_246_m2 hS, st_246_m2 H.1, st_246_m1 hS, st_246_m1 H.1, st_247_m2 hS, st_247_m2 H.1, st_247_m1 hS, st_247_m1 H.1]; first | done | rfl | omega)) (by first | omega | (simp (disch := omega) only [up2_ne, up2_eq, hset_ne, e, st_200_m1 hS, st_200_m1 H.1, st_200_9 hS, st_200_9 H.1, st_200_45 hS, st_200_45 H.1, st_200_46 hS, st_200_46 H.1, st_200_47 hS, st_200_47 H.1, st_209_m2 hS, st_209_m2 H.1, st_209_m1 hS, st_209_m1 H.1, st_245_m2 hS, st_245_m2 H.1, st_245_m1 hS, st_245_m1 H.1, st_246_m2 hS, st_246_m2 H.1, st_246_m1 hS, st_246_m1 H.1, st_247_m2 hS, st_247_m2 H.1, st_247_m1 hS, st_247_m1 H.1]; first | done | omega)) (by first | omega | (simp (disch := omega) only [up2_ne, up2_eq, hset_ne, e, st_200_m1 hS, st_200_m1 H.1, st_200_9 hS, st_200_9 H.1, st_200_45 hS, st_200_45 H.1, st_200_46 hS, st_200_46 H.1, st_200_47 hS, st_200_47 H.1, st_209_m2 hS, st_209_m2 H.1, st_209_m1 hS, st_209_m1 H.1, st_245_m2 hS, st_245_m2 H.1, st_245_m1 hS, st_245_m1 H.1, st_246_m2 hS, st_246_m2 H.1, st_246_m1 hS, st_246_m1 H.1, st_247_m2 hS, st_247_m2 H.1, st_247_m1 hS, st_247_m1 H.1]; first | done | omega)) ?_
      refine wp_iconst dX12_isPaired_54 ?_
      refine wp_istore_n rfl dX12_isPaired_55 rfl (Nat.le_of_ble_eq_true rfl) rfl ?_
      try simp only [List.set_cons_zero, List.set_cons_succ]
      refine wp_iconst dX12_isPaired_56 ?_
      refine wp_istore_n rfl dX12_isPaired_57 rfl (Nat.le_of_ble_eq_true rfl) rfl ?_
      try simp only [List.set_cons_zero, List.set_cons_succ]
      have en : n = (m 200 6).toNat := by omega
      subst en
      refine wh 23 _ (-1) 1 ⟨((hS.hset (by decide +kernel)).hset (by decide +kernel)).upA (by decide +kernel) (by omega), fun x k q => by rw [up2_ne (by omega), hset_ne (by omega), hset_ne (by omega)], ⟨fun _ => 0, fun _ => 0, fun a a0 a1 => ?_, fun r r0 r1 => ?_, up2_eq⟩, Or.inl ⟨rfl, fun r r0 r1 q => ?_⟩⟩ (by have := unR_b (m := m) (g := up2 (hset (hset h 246 (m 200 10).toNat (-1)) 247 (m 200 6).toNat (-1)) 246 fr 99) (by omega) (by omega); omega) rfl
      · by_cases c : a = fr
        · exact Or.inr (Or.inl ⟨c, by rw [c, up2_eq]⟩)
        · exact Or.inl (by rw [up2_ne (by omega), hset_ne (by omega), hset_eq (by omega) (by omega)])
      · exact Or.inl (by rw [up2_ne (by omega), hset_eq (by omega) (by omega)])
      · rw [up2_ne (by omega), hset_eq (by omega) (by omega)] at q
        exact absurd rfl q
    · refine wp_aload_n rfl rfl dX12_isPaired_33 ?_
      refine wp_getfield1 (z := 13) (kI := 47) fX12_195 dX12_isPaired_34 (by first | omega | (simp (disch := omega) only [up2_ne, up2_eq, hset_ne, e, st_200_m1 hS, st_200_m1 H.1, st_200_9 hS, st_200_9 H.1, st_200_45 hS, st_200_45 H.1, st_200_46 hS, st_200_46 H.1, st_200_47 hS, st_200_47 H.1, st_209_m2 hS, st_209_m2 H.1, st_209_m1 hS, st_209_m1 H.1, st_245_m2 hS, st_245_m2 H.1, st_245_m1 hS, st_245_m1 H.1, st_246_m2 hS, st_246_m2 H.1, st_246_m1 hS, st_246_m1 H.1, st_247_m2 hS, st_247_m2 H.1, st_247_m1 hS, st_247_m1 H.1]; first | done | omega)) (by first | assumption | (simp (disch := omega) only [up2_ne, up2_eq, hset_ne, e, st_200_m1 hS, st_200_m1 H.1, st_200_9 hS, st_200_9 H.1, st_200_45 hS, st_200_45 H.1, st_200_46 hS, st_200_46 H.1, st_200_47 hS, st_200_47 H.1, st_209_m2 hS, st_209_m2 H.1, st_209_m1 hS, st_209_m1 H.1, st_245_m2 hS, st_245_m2 H.1, st_245_m1 hS, st_245_m1 H.1, st_246_m2 hS, st_246_m2 H.1, st_246_m1 hS, st_246_m1 H.1, st_247_m2 hS, st_247_m2 H.1, st_247_m1 hS, st_247_m1 H.1]; first | done | rfl | omega)) rfl rfl ?_
      try simp (disch := omega) only [up2_ne, up2_eq, hset_ne, e, st_200_m1 hS, st_200_m1 H.1, st_200_9 hS, st_200_9 H.1, st_200_45 hS, st_200_45 H.1, st_200_46 hS, st_200_46 H.1, st_200_47 hS, st_200_47 H.1, st_209_m2 hS, st_209_m2 H.1, st_209_m1 hS, st_209_m1 H.1, st_245_m2 hS, st_245_m2 H.1, st_245_m1 hS, st_245_m1 H.1, st_246_m2 hS, st_246_m2 H.1, st_246_m1 hS, st_246_m1 H.1, st_247_m2 hS, st_247_m2 H.1, st_247_m1 hS, st_247_m1 H.1]
      refine wp_iload_n rfl rfl dX12_isPaired_37 ?_
      refine wp_iconst dX12_isPaired_38 ?_
      refine wp_iastore1 dX12_isPaired_39 (by first | omega | (simp (disch := omega) only [up2_ne, up2_eq, hset_ne, e, st_200_m1 hS, st_200_m1 H.1, st_200_9 hS, st_200_9 H.1, st_200_45 hS, st_200_45 H.1, st_200_46 hS, st_200_46 H.1, st_200_47 hS, st_200_47 H.1, st_209_m2 hS, st_209_m2 H.1, st_209_m1 hS, st_209_m1 H.1, st_245_m2 hS, st_245_m2 H.1, st_245_m1 hS, st_245_m1 H.1, st_246_m2 hS, st_246_m2 H.1, st_246_m1 hS, st_246_m1 H.1, st_247_m2 hS, st_247_m2 H.1, st_247_m1 hS, st_247_m1 H.1]; first | done | omega)) (by first | assumption | (simp (disch := omega) only [up2_ne, up2_eq, hset_ne, e, st_200_m1 hS, st_200_m1 H.1, st_200_9 hS, st_200_9 H.1, st_200_45 hS, st_200_45 H.1, st_200_46 hS, st_200_46 H.1, st_200_47 hS, st_200_47 H.1, st_209_m2 hS, st_209_m2 H.1, st_209_m1 hS, st_209_m1 H.1, st_245_m2 hS, st_245_m2 H.1, st_245_m1 hS, st_245_m1 H.1, st_246_m2 hS, st_246_m2 H.1, st_246_m1 hS, st_246_m1 H.1, st_247_m2 hS, st_247_m2 H.1, st_247_m1 hS, st_247_m1 H.1]; first | done | rfl | omega)) (by first | omega | (simp (disch := omega) only [up2_ne, up2_eq, hset_ne, e, st_200_m1 hS, st_200_m1 H.1, st_200_9 hS, st_200_9 H.1, st_200_45 hS, st_200_45 H.1, st_200_46 hS, st_200_46 H.1, st_200_47 hS, st_200_47 H.1, st_209_m2 hS, st_209_m2 H.1, st_209_m1 hS, st_209_m1 H.1, st_245_m2 hS, st_245_m2 H.1, st_245_m1 hS, st_245_m1 H.1, st_246_m2 hS, st_246_m2 H.1, st_246_m1 hS, st_246_m1 H.1, st_247_m2 hS, st_247_m2 H.1, st_247_m1 hS, st_247_m1 H.1]; first | done | omega)) (by first | omega | (simp (disch := omega) only [up2_ne, up2_eq, hset_ne, e, st_200_m1 hS, st_200_m1 H.1, st_200_9 hS, st_200_9 H.1, st_200_45 hS, st_200_45 H.1, st_200_46 hS, st_200_46 H.1, st_200_47 hS, st_200_47 H.1, st_209_m2 hS, st_209_m2 H.1, st_209_m1 hS, st_209_m1 H.1, st_245_m2 hS, st_245_m2 H.1, st_245_m1 hS, st_245_m1 H.1, st_246_m2 hS, st_246_m2 H.1, st_246_m1 hS, st_246_m1 H.1, st_247_m2 hS, st_247_m2 H.1, st_247_m1 hS, st_247_m1 H.1]; first | done | omega)) ?_
      refine wp_iinc rfl rfl dX12_isPaired_40 rfl rfl ?_
      try simp only [List.set_cons_zero, List.set_cons_succ]
      refine wp_goto (tgt := 25) dX12_isPaired_43 (by decide) ?_
      rw [hset_s (by omega)]
      exact ih (by omega)
  have l1 : ∀ n : Nat, n ≤ (m 200 10).toNat → WP (gX (gq u)) MX12_isPaired (d + 3) b (fun r h1 => stM m h1 ∧ (∀ x k : Int, ¬ ((x = 245 ∨ x = 246 ∨ x = 247) ∧ 0 ≤ k) → h1 x k = h x k) ∧ ((r = (0, 1) ∧ ∀ a : Int, 0 ≤ a → a < m 200 10 → degP m (Mr h1) a = inc (degP m (Mr h)) fr a) ∨ (r = (0, 0) ∧ Mr h1 = Mr h ∧ ¬ Feas m (inc (degP m (Mr h)) fr)))) 2 [(2, 200), (0, fr), (0, (n : Int)), (9, 0), (9, 0), (9, 0), (9, 0)] [] (hset h 246 n (-1)) := by
    refine loop_w (m 200 10).toNat (fun n hn2 ih => ?_)
    refine wp_iload_n rfl rfl dX12_isPaired_2 ?_
    refine wp_aload_n rfl rfl dX12_isPaired_3 ?_
    refine wp_getfield1 (z := 13) (kI := 10) fX12_10 dX12_isPaired_4 (by first | omega | (simp (disch := omega) only [up2_ne, up2_eq, hset_ne, e, st_200_m1 hS, st_200_m1 H.1, st_200_9 hS, st_200_9 H.1, st_200_45 hS, st_200_45 H.1, st_200_46 hS, st_200_46 H.1, st_200_47 hS, st_200_47 H.1, st_209_m2 hS, st_209_m2 H.1, st_209_m1 hS, st_209_m1 H.1, st_245_m2 hS, st_245_m2 H.1, st_245_m1 hS, st_245_m1 H.1, st_246_m2 hS, st_246_m2 H.1, st_246_m1 hS, st_246_m1 H.1, st_247_m2 hS, st_247_m2 H.1, st_247_m1 hS, st_247_m1 H.1]; first | done | omega)) (by first | assumption | (simp (disch := omega) only [up2_ne, up2_eq, hset_ne, e, st_200_m1 hS, st_200_m1 H.1, st_200_9 hS, st_200_9 H.1, st_200_45 hS, st_200_45 H.1, st_200_46 hS, st_200_46 H.1, st_200_47 hS, st_200_47 H.1, st_209_m2 hS, st_209_m2 H.1, st_209_m1 hS, st_209_m1 H.1, st_245_m2 hS, st_245_m2 H.1, st_245_m1 hS, st_245_m1 H.1, st_246_m2 hS, st_246_m2 H.1, st_246_m1 hS, st_246_m1 H.1, st_247_m2 hS, st_247_m2 H.1, st_247_m1 hS, st_247_m1 H.1]; first | done | rfl | omega)) rfl rfl ?_
    try simp (disch := omega) only [up2_ne, up2_eq, hset_ne, e, st_200_m1 hS, st_200_m1 H.1, st_200_9 hS, st_200_9 H.1, st_200_45 hS, st_200_45 H.1, st_200_46 hS, st_200_46 H.1, st_200_47 hS, st_200_47 H.1, st_209_m2 hS, st_209_m2 H.1, st_209_m1 hS, st_209_m1 H.1, st_245_m2 hS, st_245_m2 H.1, st_245_m1 hS, st_245_m1 H.1, st_246_m2 hS, st_246_m2 H.1, st_246_m1 hS, st_246_m1 H.1, st_247_m2 hS, st_247_m2 H.1, st_247_m1 hS, st_247_m1 H.1]
    refine wp_icmp_ge (tgt := 23) (by first | assumption | exact bI_in _ | exact ⟨by omega, by omega⟩ | exact iAnd_in | exact iOr_in | exact iShr_in | exact iShl_in | exact iXor_in | exact hxs _) (by first | assumption | exact bI_in _ | exact ⟨by omega, by omega⟩ | exact iAnd_in | exact iOr_in | exact iShr_in | exact iShl_in | exact iXor_in | exact hxs _) dX12_isPaired_7 (by decide) (fun c23 => ?_) (fun c23 => ?_)
    · refine wp_iconst dX12_isPaired_23 ?_
      refine wp_istore_n rfl dX12_isPaired_24 rfl (Nat.le_of_ble_eq_true rfl) rfl ?_
      try simp only [List.set_cons_zero, List.set_cons_succ]
      have en : n = (m 200 10).toNat := by omega
      subst en
      have z := l2 0 (by omega)
      rw [show (((0 : Nat) : Int)) = 0 from rfl, hset_0] at z
      exact z
    · refine wp_aload_n rfl rfl dX12_isPaired_10 ?_
      refine wp_getfield1 (z := 13) (kI := 46) fX12_192 dX12_isPaired_11 (by first | omega | (simp (disch := omega) only [up2_ne, up2_eq, hset_ne, e, st_200_m1 hS, st_200_m1 H.1, st_200_9 hS, st_200_9 H.1, st_200_45 hS, st_200_45 H.1, st_200_46 hS, st_200_46 H.1, st_200_47 hS, st_200_47 H.1, st_209_m2 hS, st_209_m2 H.1, st_209_m1 hS, st_209_m1 H.1, st_245_m2 hS, st_245_m2 H.1, st_245_m1 hS, st_245_m1 H.1, st_246_m2 hS, st_246_m2 H.1, st_246_m1 hS, st_246_m1 H.1, st_247_m2 hS, st_247_m2 H.1, st_247_m1 hS, st_247_m1 H.1]; first | done | omega)) (by first | assumption | (simp (disch := omega) only [up2_ne, up2_eq, hset_ne, e, st_200_m1 hS, st_200_m1 H.1, st_200_9 hS, st_200_9 H.1, st_200_45 hS, st_200_45 H.1, st_200_46 hS, st_200_46 H.1, st_200_47 hS, st_200_47 H.1, st_209_m2 hS, st_209_m2 H.1, st_209_m1 hS, st_209_m1 H.1, st_245_m2 hS, st_245_m2 H.1, st_245_m1 hS, st_245_m1 H.1, st_246_m2 hS, st_246_m2 H.1, st_246_m1 hS, st_246_m1 H.1, st_247_m2 hS, st_247_m2 H.1, st_247_m1 hS, st_247_m1 H.1]; first | done | rfl | omega)) rfl rfl ?_
      try simp (disch := omega) only [up2_ne, up2_eq, hset_ne, e, st_200_m1 hS, st_200_m1 H.1, st_200_9 hS, st_200_9 H.1, st_200_45 hS, st_200_45 H.1, st_200_46 hS, st_200_46 H.1, st_200_47 hS, st_200_47 H.1, st_209_m2 hS, st_209_m2 H.1, st_209_m1 hS, st_209_m1 H.1, st_245_m2 hS, st_245_m2 H.1, st_245_m1 hS, st_245_m1 H.1, st_246_m2 hS, st_246_m2 H.1, st_246_m1 hS, st_246_m1 H.1, st_247_m2 hS, st_247_m2 H.1, st_247_m1 hS, st_247_m1 H.1]
      refine wp_iload_n rfl rfl dX12_isPaired_14 ?_
      refine wp_iconst dX12_isPaired_15 ?_
      refine wp_iastore1 dX12_isPaired_16 (by first | omega | (simp (disch := omega) only [up2_ne, up2_eq, hset_ne, e, st_200_m1 hS, st_200_m1 H.1, st_200_9 hS, st_200_9 H.1, st_200_45 hS, st_200_45 H.1, st_200_46 hS, st_200_46 H.1, st_200_47 hS, st_200_47 H.1, st_209_m2 hS, st_209_m2 H.1, st_209_m1 hS, st_209_m1 H.1, st_245_m2 hS, st_245_m2 H.1, st_245_m1 hS, st_245_m1 H.1, st_246_m2 hS, st_246_m2 H.1, st_246_m1 hS, st_246_m1 H.1, st_247_m2 hS, st_247_m2 H.1, st_247_m1 hS, st_247_m1 H.1]; first | done | omega)) (by first | assumption | (simp (disch := omega) only [up2_ne, up2_eq, hset_ne, e, st_200_m1 hS, st_200_m1 H.1, st_200_9 hS, st_200_9 H.1, st_200_45 hS, st_200_45 H.1, st_200_46 hS, st_200_46 H.1, st_200_47 hS, st_200_47 H.1, st_209_m2 hS, st_209_m2 H.1, st_209_m1 hS, st_209_m1 H.1, st_245_m2 hS, st_245_m2 H.1, st_245_m1 hS, st_245_m1 H.1, st_246_m2 hS, st_246_m2 H.1, st_246_m1 hS, st_246_m1 H.1, st_247_m2 hS, st_247_m2 H.1, st_247_m1 hS, st_247_m1 H.1]; first | done | rfl | omega)) (by first | omega | (simp (disch := omega) only [up2_ne, up2_eq, hset_ne, e, st_200_m1 hS, st_200_m1 H.1, st_200_9 hS, st_200_9 H.1, st_200_45 hS, st_200_45 H.1, st_200_46 hS, st_200_46 H.1, st_200_47 hS, st_200_47 H.1, st_209_m2 hS, st_209_m2 H.1, st_209_m1 hS, st_209_m1 H.1, st_245_m2 hS, st_245_m2 H.1, st_245_m1 hS, st_245_m1 H.1, st_246_m2 hS, st_246_m2 H.1, st_246_m1 hS, st_246_m1 H.1, st_247_m2 hS, st_247_m2 H.1, st_247_m1 hS, st_247_m1 H.1]; first | done | omega)) (by first | omega | (simp (disch := omega) only [up2_ne, up2_eq, hset_ne, e, st_200_m1 hS, st_200_m1 H.1, st_200_9 hS, st_200_9 H.1, st_200_45 hS, st_200_45 H.1, st_200_46 hS, st_200_46 H.1, st_200_47 hS, st_200_47 H.1, st_209_m2 hS, st_209_m2 H.1, st_209_m1 hS, st_209_m1 H.1, st_245_m2 hS, st_245_m2 H.1, st_245_m1 hS, st_245_m1 H.1, st_246_m2 hS, st_246_m2 H.1, st_246_m1 hS, st_246_m1 H.1, st_247_m2 hS, st_247_m2 H.1, st_247_m1 hS, st_247_m1 H.1]; first | done | omega)) ?_
      refine wp_iinc rfl rfl dX12_isPaired_17 rfl rfl ?_
      try simp only [List.set_cons_zero, List.set_cons_succ]
      refine wp_goto (tgt := 2) dX12_isPaired_20 (by decide) ?_
      rw [hset_s (by omega)]
      exact ih (by omega)
  show WP (gX (gq u)) MX12_isPaired (d + 3) b _ 0 [(2, 200), (0, fr), (9, 0), (9, 0), (9, 0), (9, 0), (9, 0)] [] h
  refine wp_iconst dX12_isPaired_0 ?_
  refine wp_istore_n rfl dX12_isPaired_1 rfl (Nat.le_of_ble_eq_true rfl) rfl ?_
  try simp only [List.set_cons_zero, List.set_cons_succ]
  have z := l1 0 (by omega)
  rw [show (((0 : Nat) : Int)) = 0 from rfl, hset_0] at z
  exact z
