/-! ===== places: the reference, the pair ===== -/
theorem pairsOf_row {u : gT} {j : Nat} {m g : mH} {d b : Nat} (H : Inv j m) (ge : Cr g m) (gS : St g) (SM : stM m g) {a k : Int} (a0 : 0 ≤ a) (a1 : a < m 200 10) (hk : degP m (Mr g) a = k) : Det (gX (gq u)) MX12_pairsOf d b [(2, 200), (0, a)] g (0, k) g := by
  have hn := H.ns
  have := s_X12_pairsOf (u := u) (d := d) (b := b) (m := m) (g := g) gS (by omega) (by omega) (ge 200 6 (by omega)) (ge 200 10 (by omega)) SM.2.1 a0 a1
  rw [hk] at this
  exact this
theorem gPr_b {m : mH} : ∀ n : Nat, ∀ x : Int, 0 ≤ gPr m n x ∧ gPr m n x ≤ 3
  | 0, x => by
    have e : gPr m 0 x = 0 := rfl
    omega
  | n + 1, x => by
    have e : gPr m (n + 1) x = gTr m (gPr m n) n (needM (m 211 n)).toNat x := rfl
    have h1 := gPr_b (m := m) n x
    by_cases c : x = n
    · have h2 := gTr_b (m := m) (c := gPr m n) (a := (n : Int)) (needM (m 211 n)).toNat
      have h3 := gPr_0 (m := m) n n (by omega)
      have h4 := needM_b (k := m 211 n)
      rw [e, c]
      omega
    · rw [e, gTr_ne c]
      exact h1
abbrev K567 (h g : mH) : Prop := ∀ x k : Int, ¬ ((x = 245 ∨ x = 246 ∨ x = 247) ∧ 0 ≤ k) → g x k = h x k
set_option maxHeartbeats 1000000 in
theorem s_X12_places {u : gT} {j : Nat} {h m : mH} {d b : Nat} (H : Inv j m) (e : Cr h m) (hS : St h) : Rlt (gX (gq u)) MX12_places (d + 4) b [(2, 200)] h (fun r h1 => r = (0, sm (gPr m (m 200 10).toNat) (m 200 10).toNat) ∧ St h1 ∧ K567 h h1) := by
  refine Rlt.of ?_
  have hn := H.ns
  have loop : ∀ n : Nat, n ≤ (m 200 10).toNat → ∀ g1, K567 h g1 → stM m g1 → (∀ a : Int, 0 ≤ a → a < m 200 10 → degP m (Mr g1) a = gPr m n a) → WP (gX (gq u)) MX12_places (d + 4) b (fun r h1 => r = (0, sm (gPr m (m 200 10).toNat) (m 200 10).toNat) ∧ St h1 ∧ K567 h h1) 25 [(2, 200), (0, sm (gPr m n) (m 200 10).toNat), (0, (n : Int))] [] g1 := by
    refine loop_w (m 200 10).toNat (fun n hn2 ih => ?_)
    have hst : gPr m (n + 1) = gTr m (gPr m n) n (needM (m 211 n)).toNat := rfl
    rw [hst] at ih
    have hnb := needM_b (k := m 211 n)
    have inner : (n : Int) < m 200 10 → ∀ k : Nat, k ≤ (needM (m 211 n)).toNat → ∀ g1, K567 h g1 → stM m g1 → (∀ a : Int, 0 ≤ a → a < m 200 10 → degP m (Mr g1) a = gTr m (gPr m n) n k a) → gTr m (gPr m n) n k n = k → WP (gX (gq u)) MX12_places (d + 4) b (fun r h1 => r = (0, sm (gPr m (m 200 10).toNat) (m 200 10).toNat) ∧ St h1 ∧ K567 h h1) 33 [(2, 200), (0, sm (gTr m (gPr m n) n k) (m 200 10).toNat), (0, (n : Int))] [] g1 := by
      intro hnA
      refine loop_w (needM (m 211 n)).toNat (fun k hk2 ihk => ?_)
      intro g1 K1 SM hcd hk
      have gS := SM.1
      have ge : Cr g1 m := fun x k q => by rw [K1 x k (by omega)]; exact e x k q
      have hdg : degP m (Mr g1) n = k := by rw [hcd n (by omega) (by omega)]; exact hk
      refine wp_aload_n rfl rfl dX12_places_33 ?_
      refine wp_iload_n rfl rfl dX12_places_34 ?_
      refine wp_cV1 (ci := 12) okX12_pairsOf rfl rfl wX12_298 dX12_places_35 rfl (Nat.le_of_ble_eq_true rfl) (Nat.le_of_ble_eq_true rfl) (by first | omega | (simp (disch := omega) only [up2_ne, up2_eq, ge, st_200_m1 gS, st_200_m1 H.1, st_200_11 gS, st_200_11 H.1, st_200_45 gS, st_200_45 H.1, st_211_m2 gS, st_211_m2 H.1, st_211_m1 gS, st_211_m1 H.1, st_245_m2 gS, st_245_m2 H.1, st_245_m1 gS, st_245_m1 H.1]; first | done | omega)) (by first | assumption | (simp (disch := omega) only [up2_ne, up2_eq, ge, st_200_m1 gS, st_200_m1 H.1, st_200_11 gS, st_200_11 H.1, st_200_45 gS, st_200_45 H.1, st_211_m2 gS, st_211_m2 H.1, st_211_m1 gS, st_211_m1 H.1, st_245_m2 gS, st_245_m2 H.1, st_245_m1 gS, st_245_m1 H.1]; first | done | rfl | omega)) (pairsOf_row H ge gS SM (by omega) (by omega) hdg) (Nat.zero_le _) ?_
      try simp (disch := omega) only [up2_ne, up2_eq, ge, st_200_m1 gS, st_200_m1 H.1, st_200_11 gS, st_200_11 H.1, st_200_45 gS, st_200_45 H.1, st_211_m2 gS, st_211_m2 H.1, st_211_m1 gS, st_211_m1 H.1, st_245_m2 gS, st_245_m2 H.1, st_245_m1 gS, st_245_m1 H.1]
      refine wp_aload_n rfl rfl dX12_places_38 ?_
      refine wp_getfield1 (z := 13) (kI := 11) fX12_82 dX12_places_39 (by first | omega | (simp (disch := omega) only [up2_ne, up2_eq, ge, st_200_m1 gS, st_200_m1 H.1, st_200_11 gS, st_200_11 H.1, st_200_45 gS, st_200_45 H.1, st_211_m2 gS, st_211_m2 H.1, st_211_m1 gS, st_211_m1 H.1, st_245_m2 gS, st_245_m2 H.1, st_245_m1 gS, st_245_m1 H.1]; first | done | omega)) (by first | assumption | (simp (disch := omega) only [up2_ne, up2_eq, ge, st_200_m1 gS, st_200_m1 H.1, st_200_11 gS, st_200_11 H.1, st_200_45 gS, st_200_45 H.1, st_211_m2 gS, st_211_m2 H.1, st_211_m1 gS, st_211_m1 H.1, st_245_m2 gS, st_245_m2 H.1, st_245_m1 gS, st_245_m1 H.1]; first | done | rfl | omega)) rfl rfl ?_
      try simp (disch := omega) only [up2_ne, up2_eq, ge, st_200_m1 gS, st_200_m1 H.1, st_200_11 gS, st_200_11 H.1, st_200_45 gS, st_200_45 H.1, st_211_m2 gS, st_211_m2 H.1, st_211_m1 gS, st_211_m1 H.1, st_245_m2 gS, st_245_m2 H.1, st_245_m1 gS, st_245_m1 H.1]
      refine wp_iload_n rfl rfl dX12_places_42 ?_
      refine wp_iaload1 dX12_places_43 (by first | omega | (simp (disch := omega) only [up2_ne, up2_eq, ge, st_200_m1 gS, st_200_m1 H.1, st_200_11 gS, st_200_11 H.1, st_200_45 gS, st_200_45 H.1, st_211_m2 gS, st_211_m2 H.1, st_211_m1 gS, st_211_m1 H.1, st_245_m2 gS, st_245_m2 H.1, st_245_m1 gS, st_245_m1 H.1]; first | done | omega)) (by first | assumption | (simp (disch := omega) only [up2_ne, up2_eq, ge, st_200_m1 gS, st_200_m1 H.1, st_200_11 gS, st_200_11 H.1, st_200_45 gS, st_200_45 H.1, st_211_m2 gS, st_211_m2 H.1, st_211_m1 gS, st_211_m1 H.1, st_245_m2 gS, st_245_m2 H.1, st_245_m1 gS, st_245_m1 H.1]; first | done | rfl | omega)) (by first | omega | (simp (disch := omega) only [up2_ne, up2_eq, ge, st_200_m1 gS, st_200_m1 H.1, st_200_11 gS, st_200_11 H.1, st_200_45 gS, st_200_45 H.1, st_211_m2 gS, st_211_m2 H.1, st_211_m1 gS, st_211_m1 H.1, st_245_m2 gS, st_245_m2 H.1, st_245_m1 gS, st_245_m1 H.1]; first | done | omega)) (by first | omega | (simp (disch := omega) only [up2_ne, up2_eq, ge, st_200_m1 gS, st_200_m1 H.1, st_200_11 gS, st_200_11 H.1, st_200_45 gS, st_200_45 H.1, st_211_m2 gS, st_211_m2 H.1, st_211_m1 gS, st_211_m1 H.1, st_245_m2 gS, st_245_m2 H.1, st_245_m1 gS, st_245_m1 H.1]; first | done | omega)) ?_
      try simp (disch := omega) only [up2_ne, up2_eq, ge, st_200_m1 gS, st_200_m1 H.1, st_200_11 gS, st_200_11 H.1, st_200_45 gS, st_200_45 H.1, st_211_m2 gS, st_211_m2 H.1, st_211_m1 gS, st_211_m1 H.1, st_245_m2 gS, st_245_m2 H.1, st_245_m1 gS, st_245_m1 H.1]
      refine wp_cS1 okX12_needOf wX12_129 dX12_places_44 rfl (Nat.le_of_ble_eq_true rfl) (Nat.le_of_ble_eq_true rfl) (s_X12_needOf (by have := H.ra (a := (n : Int)) (by omega) (by omega); exact ⟨by omega, by omega⟩)) (Nat.zero_le _) ?_
      try simp (disch := omega) only [up2_ne, up2_eq, ge, st_200_m1 gS, st_200_m1 H.1, st_200_11 gS, st_200_11 H.1, st_200_45 gS, st_200_45 H.1, st_211_m2 gS, st_211_m2 H.1, st_211_m1 gS, st_211_m1 H.1, st_245_m2 gS, st_245_m2 H.1, st_245_m1 gS, st_245_m1 H.1]
      refine wp_icmp_ge (tgt := 64) (by first | assumption | exact bI_in _ | exact ⟨by omega, by omega⟩ | exact iAnd_in | exact iOr_in | exact iShr_in | exact iShl_in | exact iXor_in | exact hxs _) (by first | assumption | exact bI_in _ | exact ⟨by omega, by omega⟩ | exact iAnd_in | exact iOr_in | exact iShr_in | exact iShl_in | exact iXor_in | exact hxs _) dX12_places_47 (by decide) (fun c1 => ?_) (fun c1 => ?_)
      · refine wp_iinc rfl rfl dX12_places_64 rfl rfl ?_
        try simp only [List.set_cons_zero, List.set_cons_succ]
        refine wp_goto (tgt := 25) dX12_places_67 (by decide) ?_
        first
          | (have hde : ∀ a : Int, 0 ≤ a → a < m 200 10 → degP m (Mr h1) a = inc (gTr m (gPr m n) n k) n a := fun a a0 a1 => by rw [dg a a0 a1]; exact inc_cg hcd a a0 a1
             have hf : Feas m (inc (gTr m (gPr m n) n k) n) := ⟨Mr h1, S1.2.2.1, S1.2.2.2, hde⟩
             have z := ihk (by omega) h1 (fun x y q => by rw [KP x y q]; exact K1 x y q) S1 (fun a a0 a1 => by rw [gTr_t hf]; exact hde a a0 a1) (by rw [gTr_t hf]; unfold inc; rw [if_pos rfl]; omega)
             rw [gTr_t hf, sm_inc (by omega) (by omega)] at z
             exact z)
          | (have hf : ¬ Feas m (inc (gTr m (gPr m n) n k) n) := fun q => nf (Feas_cg (inc_cg (fun a a0 a1 => (hcd a a0 a1).symm)) q)
             have ee := gTr_x hf ((needM (m 211 n)).toNat - k)
             rw [show k + ((needM (m 211 n)).toNat - k) = (needM (m 211 n)).toNat by omega] at ee
             rw [ee] at ih
             exact ih (by omega) h1 (fun x y q => by rw [KP x y q]; exact K1 x y q) S1 (fun a a0 a1 => by rw [eM]; exact hcd a a0 a1))
          | (have ek : k = (needM (m 211 n)).toNat := by omega
             rw [← ek] at ih
             exact ih (by omega) g1 K1 SM hcd)
      · refine wp_aload_n rfl rfl dX12_places_50 ?_
        refine wp_iload_n rfl rfl dX12_places_51 ?_
        refine wp_cV1r (ci := 12) okX12_isPaired rfl rfl wX12_301 dX12_places_52 (Nat.le_of_ble_eq_true rfl) (Nat.le_of_ble_eq_true rfl) (by first | omega | (simp (disch := omega) only [up2_ne, up2_eq, ge, st_200_m1 gS, st_200_m1 H.1, st_200_11 gS, st_200_11 H.1, st_200_45 gS, st_200_45 H.1, st_211_m2 gS, st_211_m2 H.1, st_211_m1 gS, st_211_m1 H.1, st_245_m2 gS, st_245_m2 H.1, st_245_m1 gS, st_245_m1 H.1]; first | done | omega)) (by first | assumption | (simp (disch := omega) only [up2_ne, up2_eq, ge, st_200_m1 gS, st_200_m1 H.1, st_200_11 gS, st_200_11 H.1, st_200_45 gS, st_200_45 H.1, st_211_m2 gS, st_211_m2 H.1, st_211_m1 gS, st_211_m1 H.1, st_245_m2 gS, st_245_m2 H.1, st_245_m1 gS, st_245_m1 H.1]; first | done | rfl | omega)) (s_X12_isPaired H ge gS SM (by omega) (by omega)) (Nat.zero_le _) ?_
        rintro r h1 ⟨S1, KP, (⟨rfl, dg⟩ | ⟨rfl, eM, nf⟩)⟩ -
        · show WP _ _ _ _ _ _ _ ((0, 1) :: _) _
          refine wp_if_eq (tgt := 64) (by first | assumption | exact bI_in _ | exact ⟨by omega, by omega⟩ | exact iAnd_in | exact iOr_in | exact iShr_in | exact iShl_in | exact iXor_in | exact hxs _) dX12_places_55 (by decide) (fun hx => absurd hx (by decide)) (fun hx => ?_)
          refine wp_iinc rfl rfl dX12_places_58 rfl rfl ?_
          try simp only [List.set_cons_zero, List.set_cons_succ]
          refine wp_goto (tgt := 33) dX12_places_61 (by decide) ?_
          first
            | (have hde : ∀ a : Int, 0 ≤ a → a < m 200 10 → degP m (Mr h1) a = inc (gTr m (gPr m n) n k) n a := fun a a0 a1 => by rw [dg a a0 a1]; exact inc_cg hcd a a0 a1
               have hf : Feas m (inc (gTr m (gPr m n) n k) n) := ⟨Mr h1, S1.2.2.1, S1.2.2.2, hde⟩
               have z := ihk (by omega) h1 (fun x y q => by rw [KP x y q]; exact K1 x y q) S1 (fun a a0 a1 => by rw [gTr_t hf]; exact hde a a0 a1) (by rw [gTr_t hf]; unfold inc; rw [if_pos rfl]; omega)
               rw [gTr_t hf, sm_inc (by omega) (by omega)] at z
               exact z)
            | (have hf : ¬ Feas m (inc (gTr m (gPr m n) n k) n) := fun q => nf (Feas_cg (inc_cg (fun a a0 a1 => (hcd a a0 a1).symm)) q)
               have ee := gTr_x hf ((needM (m 211 n)).toNat - k)
               rw [show k + ((needM (m 211 n)).toNat - k) = (needM (m 211 n)).toNat by omega] at ee
               rw [ee] at ih
               exact ih (by omega) h1 (fun x y q => by rw [KP x y q]; exact K1 x y q) S1 (fun a a0 a1 => by rw [eM]; exact hcd a a0 a1))
            | (have ek : k = (needM (m 211 n)).toNat := by omega
               rw [← ek] at ih
               exact ih (by omega) g1 K1 SM hcd)
        · show WP _ _ _ _ _ _ _ ((0, 0) :: _) _
          refine wp_if_eq (tgt := 64) (by first | assumption | exact bI_in _ | exact ⟨by omega, by omega⟩ | exact iAnd_in | exact iOr_in | exact iShr_in | exact iShl_in | exact iXor_in | exact hxs _) dX12_places_55 (by decide) (fun hx => ?_) (fun hx => absurd hx (by decide))
          refine wp_iinc rfl rfl dX12_places_64 rfl rfl ?_
          try simp only [List.set_cons_zero, List.set_cons_succ]
          refine wp_goto (tgt := 25) dX12_places_67 (by decide) ?_
          first
            | (have hde : ∀ a : Int, 0 ≤ a → a < m 200 10 → degP m (Mr h1) a = inc (gTr m (gPr m n) n k) n a := fun a a0 a1 => by rw [dg a a0 a1]; exact inc_cg hcd a a0 a1
               have hf : Feas m (inc (gTr m (gPr m n) n k) n) := ⟨Mr h1, S1.2.2.1, S1.2.2.2, hde⟩
               have z := ihk (by omega) h1 (fun x y q => by rw [KP x y q]; exact K1 x y q) S1 (fun a a0 a1 => by rw [gTr_t hf]; exact hde a a0 a1) (by rw [gTr_t hf]; unfold inc; rw [if_pos rfl]; omega)
               rw [gTr_t hf, sm_inc (by omega) (by omega)] at z
               exact z)
            | (have hf : ¬ Feas m (inc (gTr m (gPr m n) n k) n) := fun q => nf (Feas_cg (inc_cg (fun a a0 a1 => (hcd a a0 a1).symm)) q)
               have ee := gTr_x hf ((needM (m 211 n)).toNat - k)
               rw [show k + ((needM (m 211 n)).toNat - k) = (needM (m 211 n)).toNat by omega] at ee
               rw [ee] at ih
               exact ih (by omega) h1 (fun x y q => by rw [KP x y q]; exact K1 x y q) S1 (fun a a0 a1 => by rw [eM]; exact hcd a a0 a1))
            | (have ek : k = (needM (m 211 n)).toNat := by omega
               rw [← ek] at ih
               exact ih (by omega) g1 K1 SM hcd)
    intro g1 K1 SM hcd
    have gS := SM.1
    have ge : Cr g1 m := fun x k q => by rw [K1 x k (by omega)]; exact e x k q
    refine wp_iload_n rfl rfl dX12_places_25 ?_
    refine wp_aload_n rfl rfl dX12_places_26 ?_
    refine wp_getfield1 (z := 13) (kI := 10) fX12_10 dX12_places_27 (by first | omega | (simp (disch := omega) only [up2_ne, up2_eq, ge, st_200_m1 gS, st_200_m1 H.1, st_200_11 gS, st_200_11 H.1, st_200_45 gS, st_200_45 H.1, st_211_m2 gS, st_211_m2 H.1, st_211_m1 gS, st_211_m1 H.1, st_245_m2 gS, st_245_m2 H.1, st_245_m1 gS, st_245_m1 H.1]; first | done | omega)) (by first | assumption | (simp (disch := omega) only [up2_ne, up2_eq, ge, st_200_m1 gS, st_200_m1 H.1, st_200_11 gS, st_200_11 H.1, st_200_45 gS, st_200_45 H.1, st_211_m2 gS, st_211_m2 H.1, st_211_m1 gS, st_211_m1 H.1, st_245_m2 gS, st_245_m2 H.1, st_245_m1 gS, st_245_m1 H.1]; first | done | rfl | omega)) rfl rfl ?_
    try simp (disch := omega) only [up2_ne, up2_eq, ge, st_200_m1 gS, st_200_m1 H.1, st_200_11 gS, st_200_11 H.1, st_200_45 gS, st_200_45 H.1, st_211_m2 gS, st_211_m2 H.1, st_211_m1 gS, st_211_m1 H.1, st_245_m2 gS, st_245_m2 H.1, st_245_m1 gS, st_245_m1 H.1]
    refine wp_icmp_ge (tgt := 70) (by first | assumption | exact bI_in _ | exact ⟨by omega, by omega⟩ | exact iAnd_in | exact iOr_in | exact iShr_in | exact iShl_in | exact iXor_in | exact hxs _) (by first | assumption | exact bI_in _ | exact ⟨by omega, by omega⟩ | exact iAnd_in | exact iOr_in | exact iShr_in | exact iShl_in | exact iXor_in | exact hxs _) dX12_places_30 (by decide) (fun c2 => ?_) (fun c2 => ?_)
    · refine wp_iload_n rfl rfl dX12_places_70 ?_
      refine wp_iret dX12_places_71 rfl ?_
      have en : n = (m 200 10).toNat := by omega
      rw [← en]
      exact ⟨rfl, SM.1, K1⟩
    · exact inner (by omega) 0 (by omega) g1 K1 SM hcd (gPr_0 n n (by omega))
  have l1 : ∀ n : Nat, n ≤ 112 → WP (gX (gq u)) MX12_places (d + 4) b (fun r h1 => r = (0, sm (gPr m (m 200 10).toNat) (m 200 10).toNat) ∧ St h1 ∧ K567 h h1) 2 [(2, 200), (0, (n : Int)), (9, 0)] [] (hset h 245 n 0) := by
    refine loop_w 112 (fun n hn2 ih => ?_)
    refine wp_iload_n rfl rfl dX12_places_2 ?_
    refine wp_bipush (by decide) dX12_places_3 ?_
    refine wp_icmp_ge (tgt := 21) (by first | assumption | exact bI_in _ | exact ⟨by omega, by omega⟩ | exact iAnd_in | exact iOr_in | exact iShr_in | exact iShl_in | exact iXor_in | exact hxs _) (by first | assumption | exact bI_in _ | exact ⟨by omega, by omega⟩ | exact iAnd_in | exact iOr_in | exact iShr_in | exact iShl_in | exact iXor_in | exact hxs _) dX12_places_5 (by decide) (fun c3 => ?_) (fun c3 => ?_)
    · refine wp_iconst dX12_places_21 ?_
      refine wp_istore_n rfl dX12_places_22 rfl (Nat.le_of_ble_eq_true rfl) rfl ?_
      try simp only [List.set_cons_zero, List.set_cons_succ]
      refine wp_iconst dX12_places_23 ?_
      refine wp_istore_n rfl dX12_places_24 rfl (Nat.le_of_ble_eq_true rfl) rfl ?_
      try simp only [List.set_cons_zero, List.set_cons_succ]
      have en : n = 112 := by omega
      subst en
      have hz : ∀ a r : Int, 0 ≤ a → a < m 200 10 → 0 ≤ r → r < 8 → hset h 245 (112 : Nat) 0 245 (8 * a + r) = 0 := fun a r a0 a1 r0 r1 => hset_eq (by omega) (by omega)
      have hd : ∀ a : Int, 0 ≤ a → a < m 200 10 → degP m (Mr (hset h 245 (112 : Nat) 0)) a = 0 := fun a a0 a1 => sm_zero _ (fun i hi => hz a i a0 a1 (by omega) (by omega))
      have z := loop 0 (by omega) (hset h 245 (112 : Nat) 0) (fun x k q => hset_ne (by omega)) ⟨hS.hset (by decide +kernel), fun a r a0 a1 r0 r1 => Or.inl (hz a r a0 a1 r0 r1), fun a r a0 a1 r0 r1 => Or.inl (hz a r a0 a1 r0 (by omega)), fun r r0 r1 => by have hl := H.rld r0 r1; have hu : useP m (Mr (hset h 245 (112 : Nat) 0)) r = 0 := sm_zero _ (fun i hi => hz i r (by omega) (by omega) r0 (by omega)); omega⟩ hd
      rw [show sm (gPr m 0) (m 200 10).toNat = 0 from sm_zero _ (fun _ _ => rfl)] at z
      exact z
    · refine wp_aload_n rfl rfl dX12_places_8 ?_
      refine wp_getfield1 (z := 13) (kI := 45) fX12_189 dX12_places_9 (by first | omega | (simp (disch := omega) only [up2_ne, up2_eq, hset_ne, e, st_200_m1 hS, st_200_m1 H.1, st_200_11 hS, st_200_11 H.1, st_200_45 hS, st_200_45 H.1, st_211_m2 hS, st_211_m2 H.1, st_211_m1 hS, st_211_m1 H.1, st_245_m2 hS, st_245_m2 H.1, st_245_m1 hS, st_245_m1 H.1]; first | done | omega)) (by first | assumption | (simp (disch := omega) only [up2_ne, up2_eq, hset_ne, e, st_200_m1 hS, st_200_m1 H.1, st_200_11 hS, st_200_11 H.1, st_200_45 hS, st_200_45 H.1, st_211_m2 hS, st_211_m2 H.1, st_211_m1 hS, st_211_m1 H.1, st_245_m2 hS, st_245_m2 H.1, st_245_m1 hS, st_245_m1 H.1]; first | done | rfl | omega)) rfl rfl ?_
      try simp (disch := omega) only [up2_ne, up2_eq, hset_ne, e, st_200_m1 hS, st_200_m1 H.1, st_200_11 hS, st_200_11 H.1, st_200_45 hS, st_200_45 H.1, st_211_m2 hS, st_211_m2 H.1, st_211_m1 hS, st_211_m1 H.1, st_245_m2 hS, st_245_m2 H.1, st_245_m1 hS, st_245_m1 H.1]
      refine wp_iload_n rfl rfl dX12_places_12 ?_
      refine wp_iconst dX12_places_13 ?_
      refine wp_zastore1 (by omega) dX12_places_14 (by first | omega | (simp (disch := omega) only [up2_ne, up2_eq, hset_ne, e, st_200_m1 hS, st_200_m1 H.1, st_200_11 hS, st_200_11 H.1, st_200_45 hS, st_200_45 H.1, st_211_m2 hS, st_211_m2 H.1, st_211_m1 hS, st_211_m1 H.1, st_245_m2 hS, st_245_m2 H.1, st_245_m1 hS, st_245_m1 H.1]; first | done | omega)) (by first | assumption | (simp (disch := omega) only [up2_ne, up2_eq, hset_ne, e, st_200_m1 hS, st_200_m1 H.1, st_200_11 hS, st_200_11 H.1, st_200_45 hS, st_200_45 H.1, st_211_m2 hS, st_211_m2 H.1, st_211_m1 hS, st_211_m1 H.1, st_245_m2 hS, st_245_m2 H.1, st_245_m1 hS, st_245_m1 H.1]; first | done | rfl | omega)) (by first | omega | (simp (disch := omega) only [up2_ne, up2_eq, hset_ne, e, st_200_m1 hS, st_200_m1 H.1, st_200_11 hS, st_200_11 H.1, st_200_45 hS, st_200_45 H.1, st_211_m2 hS, st_211_m2 H.1, st_211_m1 hS, st_211_m1 H.1, st_245_m2 hS, st_245_m2 H.1, st_245_m1 hS, st_245_m1 H.1]; first | done | omega)) (by first | omega | (simp (disch := omega) only [up2_ne, up2_eq, hset_ne, e, st_200_m1 hS, st_200_m1 H.1, st_200_11 hS, st_200_11 H.1, st_200_45 hS, st_200_45 H.1, st_211_m2 hS, st_211_m2 H.1, st_211_m1 hS, st_211_m1 H.1, st_245_m2 hS, st_245_m2 H.1, st_245_m1 hS, st_245_m1 H.1]; first | done | omega)) ?_
      refine wp_iinc rfl rfl dX12_places_15 rfl rfl ?_
      try simp only [List.set_cons_zero, List.set_cons_succ]
      refine wp_goto (tgt := 2) dX12_places_18 (by decide) ?_
      rw [hset_s (by omega)]
      exact ih (by omega)
  show WP (gX (gq u)) MX12_places (d + 4) b _ 0 [(2, 200), (9, 0), (9, 0)] [] h
  refine wp_iconst dX12_places_0 ?_
  refine wp_istore_n rfl dX12_places_1 rfl (Nat.le_of_ble_eq_true rfl) rfl ?_
  try simp only [List.set_cons_zero, List.set_cons_succ]
  have z := l1 0 (by omega)
  rw [show (((0 : Nat) : Int)) = 0 from rfl, hset_0] at z
  exact z
theorem p_places {u : gT} (j : Nat) (h : mH) (hj : j < 512) (hI : Inv j h) : PairI u Inv MX11_places MX12_places [] j h := by
  have hS := hI.1
  have hn := hI.ns
  refine (s_X11_places (d := 2026) (b := 300) hI Cl_rfl hS).mono ?_
  rintro r h1 ⟨rfl, gS, gK⟩ -
  have hb := sm_bnd (f := gPr h (h 200 10).toNat) (lo := 0) (hi := 3) (h 200 10).toNat (fun i hi => gPr_b _ i)
  refine ⟨_, rfl, ⟨by omega, by omega⟩, (s_X12_places (u := u) (d := 2043) (b := 0) (m := h) hI (fun y k z => gK y k (by omega)) gS).mono ?_⟩
  rintro r h2 ⟨rfl, gS2, gK2⟩ -
  refine ⟨rfl, Inv_scr gS2 (fun y k z => ?_) hI⟩
  unfold scr at z
  rw [gK2 y k (by omega), gK y k (by omega)]
