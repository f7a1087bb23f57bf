/-! ===== places: the reference's small methods; a pairing changed at one place ===== -/
def Mr (g : mH) : mP := fun a r => g 245 (8 * a + r)
def m01 (m g : mH) : Prop := ∀ a r : Int, 0 ≤ a → a < m 200 10 → 0 ≤ r → r < 8 → g 245 (8 * a + r) = 0 ∨ g 245 (8 * a + r) = 1
theorem M_upd {m : mH} {M M' : mP} {a0 p w : Int} (q0 : 0 ≤ a0) (q1 : a0 < m 200 10) (p0 : 0 ≤ p) (p1 : p < m 200 6) (h : ∀ a r : Int, 0 ≤ a → a < m 200 10 → 0 ≤ r → r < m 200 6 → M' a r = M a r + (if a = a0 ∧ r = p then w else 0)) : (∀ r : Int, 0 ≤ r → r < m 200 6 → useP m M' r = useP m M r + (if r = p then w else 0)) ∧ (∀ a : Int, 0 ≤ a → a < m 200 10 → degP m M' a = degP m M a + (if a = a0 then w else 0)) := by
  constructor
  · intro r r0 r1
    unfold useP
    have e1 : sm (fun a => M' a r) (m 200 10).toNat = sm (fun a => M a r + (if a = a0 then (if r = p then w else 0) else 0)) (m 200 10).toNat := by
      refine sm_congr _ (fun i hi => ?_)
      rw [h i r (by omega) (by omega) r0 r1]
      congr 1
      by_cases c : (i : Int) = a0
      · by_cases c2 : r = p
        · rw [if_pos ⟨c, c2⟩, if_pos c, if_pos c2]
        · rw [if_neg (fun z => c2 z.2), if_pos c, if_neg c2]
      · rw [if_neg (fun z => c z.1), if_neg c]
    rw [e1, sm_add, sm_one (g := fun _ => if r = p then w else 0) q0 _ (by omega)]
  · intro a a0' a1
    unfold degP
    have e1 : sm (fun r => M' a r) (m 200 6).toNat = sm (fun r => M a r + (if r = p then (if a = a0 then w else 0) else 0)) (m 200 6).toNat := by
      refine sm_congr _ (fun i hi => ?_)
      rw [h a i a0' a1 (by omega) (by omega)]
      congr 1
      by_cases c : a = a0
      · by_cases c2 : (i : Int) = p
        · rw [if_pos ⟨c, c2⟩, if_pos c2, if_pos c]
        · rw [if_neg (fun z => c2 z.2), if_neg c2]
      · rw [if_neg (fun z => c z.1), if_neg c]
        split <;> rfl
    rw [e1, sm_add, sm_one (g := fun _ => if a = a0 then w else 0) p0 _ (by omega)]
theorem Mr_up {g : mH} {a0 p v : Int} (p0 : 0 ≤ p) (p1 : p < 8) {a r : Int} (r0 : 0 ≤ r) (r1 : r < 8) : Mr (up2 g 245 (8 * a0 + p) v) a r = Mr g a r + (if a = a0 ∧ r = p then v - Mr g a0 p else 0) := by
  unfold Mr
  by_cases c : a = a0 ∧ r = p
  · rw [if_pos c, c.1, c.2, up2_eq]
    omega
  · rw [if_neg c, up2_ne (by omega)]
    omega
theorem s_X12_pairsOf {u : gT} {m g : mH} {d b : Nat} {a : Int} (gS : St g) (n0 : 0 ≤ m 200 6 ∧ m 200 6 ≤ 8) (n1 : 0 ≤ m 200 10 ∧ m 200 10 ≤ 14) (e6 : g 200 6 = m 200 6) (e10 : g 200 10 = m 200 10) (M1 : m01 m g) (a0 : 0 ≤ a) (a1 : a < m 200 10) : Det (gX (gq u)) MX12_pairsOf d b [(2, 200), (0, a)] g (0, degP m (Mr g) a) g := by
  intro Q hQ
  have loop : ∀ n : Nat, n ≤ (m 200 6).toNat → WP (gX (gq u)) MX12_pairsOf d b Q 4 [(2, 200), (0, a), (0, sm (fun z => Mr g a z) n), (0, (n : Int))] [] g := by
    refine loop_w (m 200 6).toNat (fun n hn2 ih => ?_)
    have h01 := fun z : n < (m 200 6).toNat => M1 a (n : Int) (by omega) (by omega) (by omega) (by omega)
    refine wp_iload_n rfl rfl dX12_pairsOf_4 ?_
    refine wp_aload_n rfl rfl dX12_pairsOf_5 ?_
    refine wp_getfield1 (z := 13) (kI := 6) fX12_7 dX12_pairsOf_6 (by first | omega | (simp (disch := omega) only [up2_ne, up2_eq, e6, e10, st_200_m1 gS, st_200_45 gS, st_245_m2 gS, st_245_m1 gS]; first | done | omega)) (by first | assumption | (simp (disch := omega) only [up2_ne, up2_eq, e6, e10, st_200_m1 gS, st_200_45 gS, st_245_m2 gS, st_245_m1 gS]; first | done | rfl | omega)) rfl rfl ?_
    try simp (disch := omega) only [up2_ne, up2_eq, e6, e10, st_200_m1 gS, st_200_45 gS, st_245_m2 gS, st_245_m1 gS]
    refine wp_icmp_ge (tgt := 40) (by first | assumption | exact bI_in _ | exact ⟨by omega, by omega⟩ | exact iAnd_in | exact iOr_in | exact iShr_in | exact iShl_in | exact iXor_in | exact hxs _) (by first | assumption | exact bI_in _ | exact ⟨by omega, by omega⟩ | exact iAnd_in | exact iOr_in | exact iShr_in | exact iShl_in | exact iXor_in | exact hxs _) dX12_pairsOf_9 (by decide) (fun c1 => ?_) (fun c1 => ?_)
    · refine wp_iload_n rfl rfl dX12_pairsOf_40 ?_
      refine wp_iret dX12_pairsOf_41 rfl ?_
      have en : n = (m 200 6).toNat := by omega
      subst en
      exact hQ
    · refine wp_iload_n rfl rfl dX12_pairsOf_12 ?_
      refine wp_aload_n rfl rfl dX12_pairsOf_13 ?_
      refine wp_getfield1 (z := 13) (kI := 45) fX12_189 dX12_pairsOf_14 (by first | omega | (simp (disch := omega) only [up2_ne, up2_eq, e6, e10, st_200_m1 gS, st_200_45 gS, st_245_m2 gS, st_245_m1 gS]; first | done | omega)) (by first | assumption | (simp (disch := omega) only [up2_ne, up2_eq, e6, e10, st_200_m1 gS, st_200_45 gS, st_245_m2 gS, st_245_m1 gS]; first | done | rfl | omega)) rfl rfl ?_
      try simp (disch := omega) only [up2_ne, up2_eq, e6, e10, st_200_m1 gS, st_200_45 gS, st_245_m2 gS, st_245_m1 gS]
      refine wp_bipush (by decide) dX12_pairsOf_17 ?_
      refine wp_iload_n rfl rfl dX12_pairsOf_19 ?_
      refine wp_imul dX12_pairsOf_20 ?_
      refine wp_iload_n rfl rfl dX12_pairsOf_21 ?_
      refine wp_iadd dX12_pairsOf_22 ?_
      refine wp_zaload1 dX12_pairsOf_23 (by first | omega | (simp (disch := omega) only [up2_ne, up2_eq, e6, e10, st_200_m1 gS, st_200_45 gS, st_245_m2 gS, st_245_m1 gS]; first | done | omega)) (by first | assumption | (simp (disch := omega) only [up2_ne, up2_eq, e6, e10, st_200_m1 gS, st_200_45 gS, st_245_m2 gS, st_245_m1 gS]; first | done | rfl | omega)) (by first | omega | (simp (disch := omega) only [up2_ne, up2_eq, e6, e10, st_200_m1 gS, st_200_45 gS, st_245_m2 gS, st_245_m1 gS]; first | done | omega)) (by first | omega | (simp (disch := omega) only [up2_ne, up2_eq, e6, e10, st_200_m1 gS, st_200_45 gS, st_245_m2 gS, st_245_m1 gS]; first | done | omega)) ?_
      try simp (disch := omega) only [up2_ne, up2_eq, e6, e10, st_200_m1 gS, st_200_45 gS, st_245_m2 gS, st_245_m1 gS]
      have h01 := h01 (by omega)
      refine wp_if_eq (tgt := 31) (by first | assumption | exact bI_in _ | exact ⟨by omega, by omega⟩ | exact iAnd_in | exact iOr_in | exact iShr_in | exact iShl_in | exact iXor_in | exact hxs _) dX12_pairsOf_24 (by decide) (fun c2 => ?_) (fun c2 => ?_)
      · refine wp_iconst dX12_pairsOf_31 ?_
        refine wp_iadd dX12_pairsOf_32 ?_
        refine wp_istore_n rfl dX12_pairsOf_33 rfl (Nat.le_of_ble_eq_true rfl) rfl ?_
        try simp only [List.set_cons_zero, List.set_cons_succ]
        refine wp_iinc rfl rfl dX12_pairsOf_34 rfl rfl ?_
        try simp only [List.set_cons_zero, List.set_cons_succ]
        refine wp_goto (tgt := 4) dX12_pairsOf_37 (by decide) ?_
        have hi := ih (by omega)
        first
          | (rw [smS (f := (fun z => Mr g a z)) (v := 1) (show Mr g a n = 1 by unfold Mr; omega)] at hi; exact hi)
          | (rw [smS (f := (fun z => Mr g a z)) (v := 0) (show Mr g a n = 0 by unfold Mr; omega)] at hi; exact hi)
      · refine wp_iconst dX12_pairsOf_27 ?_
        refine wp_goto (tgt := 32) dX12_pairsOf_28 (by decide) ?_
        refine wp_iadd dX12_pairsOf_32 ?_
        refine wp_istore_n rfl dX12_pairsOf_33 rfl (Nat.le_of_ble_eq_true rfl) rfl ?_
        try simp only [List.set_cons_zero, List.set_cons_succ]
        refine wp_iinc rfl rfl dX12_pairsOf_34 rfl rfl ?_
        try simp only [List.set_cons_zero, List.set_cons_succ]
        refine wp_goto (tgt := 4) dX12_pairsOf_37 (by decide) ?_
        have hi := ih (by omega)
        first
          | (rw [smS (f := (fun z => Mr g a z)) (v := 1) (show Mr g a n = 1 by unfold Mr; omega)] at hi; exact hi)
          | (rw [smS (f := (fun z => Mr g a z)) (v := 0) (show Mr g a n = 0 by unfold Mr; omega)] at hi; exact hi)
  show WP (gX (gq u)) MX12_pairsOf d b Q 0 [(2, 200), (0, a), (9, 0), (9, 0)] [] g
  refine wp_iconst dX12_pairsOf_0 ?_
  refine wp_istore_n rfl dX12_pairsOf_1 rfl (Nat.le_of_ble_eq_true rfl) rfl ?_
  try simp only [List.set_cons_zero, List.set_cons_succ]
  refine wp_iconst dX12_pairsOf_2 ?_
  refine wp_istore_n rfl dX12_pairsOf_3 rfl (Nat.le_of_ble_eq_true rfl) rfl ?_
  try simp only [List.set_cons_zero, List.set_cons_succ]
  exact loop 0 (by omega)
theorem s_X12_pairsBy {u : gT} {m g : mH} {d b : Nat} {r : Int} (gS : St g) (n0 : 0 ≤ m 200 6 ∧ m 200 6 ≤ 8) (n1 : 0 ≤ m 200 10 ∧ m 200 10 ≤ 14) (e6 : g 200 6 = m 200 6) (e10 : g 200 10 = m 200 10) (M1 : m01 m g) (r0 : 0 ≤ r) (r1 : r < m 200 6) : Det (gX (gq u)) MX12_pairsBy d b [(2, 200), (0, r)] g (0, useP m (Mr g) r) g := by
  intro Q hQ
  have loop : ∀ n : Nat, n ≤ (m 200 10).toNat → WP (gX (gq u)) MX12_pairsBy d b Q 4 [(2, 200), (0, r), (0, sm (fun z => Mr g z r) n), (0, (n : Int))] [] g := by
    refine loop_w (m 200 10).toNat (fun n hn2 ih => ?_)
    have h01 := fun z : n < (m 200 10).toNat => M1 (n : Int) r (by omega) (by omega) (by omega) (by omega)
    refine wp_iload_n rfl rfl dX12_pairsBy_4 ?_
    refine wp_aload_n rfl rfl dX12_pairsBy_5 ?_
    refine wp_getfield1 (z := 13) (kI := 10) fX12_10 dX12_pairsBy_6 (by first | omega | (simp (disch := omega) only [up2_ne, up2_eq, e6, e10, st_200_m1 gS, st_200_45 gS, st_245_m2 gS, st_245_m1 gS]; first | done | omega)) (by first | assumption | (simp (disch := omega) only [up2_ne, up2_eq, e6, e10, st_200_m1 gS, st_200_45 gS, st_245_m2 gS, st_245_m1 gS]; first | done | rfl | omega)) rfl rfl ?_
    try simp (disch := omega) only [up2_ne, up2_eq, e6, e10, st_200_m1 gS, st_200_45 gS, st_245_m2 gS, st_245_m1 gS]
    refine wp_icmp_ge (tgt := 40) (by first | assumption | exact bI_in _ | exact ⟨by omega, by omega⟩ | exact iAnd_in | exact iOr_in | exact iShr_in | exact iShl_in | exact iXor_in | exact hxs _) (by first | assumption | exact bI_in _ | exact ⟨by omega, by omega⟩ | exact iAnd_in | exact iOr_in | exact iShr_in | exact iShl_in | exact iXor_in | exact hxs _) dX12_pairsBy_9 (by decide) (fun c1 => ?_) (fun c1 => ?_)
    · refine wp_iload_n rfl rfl dX12_pairsBy_40 ?_
      refine wp_iret dX12_pairsBy_41 rfl ?_
      have en : n = (m 200 10).toNat := by omega
      subst en
      exact hQ
    · refine wp_iload_n rfl rfl dX12_pairsBy_12 ?_
      refine wp_aload_n rfl rfl dX12_pairsBy_13 ?_
      refine wp_getfield1 (z := 13) (kI := 45) fX12_189 dX12_pairsBy_14 (by first | omega | (simp (disch := omega) only [up2_ne, up2_eq, e6, e10, st_200_m1 gS, st_200_45 gS, st_245_m2 gS, st_245_m1 gS]; first | done | omega)) (by first | assumption | (simp (disch := omega) only [up2_ne, up2_eq, e6, e10, st_200_m1 gS, st_200_45 gS, st_245_m2 gS, st_245_m1 gS]; first | done | rfl | omega)) rfl rfl ?_
      try simp (disch := omega) only [up2_ne, up2_eq, e6, e10, st_200_m1 gS, st_200_45 gS, st_245_m2 gS, st_245_m1 gS]
      refine wp_bipush (by decide) dX12_pairsBy_17 ?_
      refine wp_iload_n rfl rfl dX12_pairsBy_19 ?_
      refine wp_imul dX12_pairsBy_20 ?_
      refine wp_iload_n rfl rfl dX12_pairsBy_21 ?_
      refine wp_iadd dX12_pairsBy_22 ?_
      refine wp_zaload1 dX12_pairsBy_23 (by first | omega | (simp (disch := omega) only [up2_ne, up2_eq, e6, e10, st_200_m1 gS, st_200_45 gS, st_245_m2 gS, st_245_m1 gS]; first | done | omega)) (by first | assumption | (simp (disch := omega) only [up2_ne, up2_eq, e6, e10, st_200_m1 gS, st_200_45 gS, st_245_m2 gS, st_245_m1 gS]; first | done | rfl | omega)) (by first | omega | (simp (disch := omega) only [up2_ne, up2_eq, e6, e10, st_200_m1 gS, st_200_45 gS, st_245_m2 gS, st_245_m1 gS]; first | done | omega)) (by first | omega | (simp (disch := omega) only [up2_ne, up2_eq, e6, e10, st_200_m1 gS, st_200_45 gS, st_245_m2 gS, st_245_m1 gS]; first | done | omega)) ?_
      try simp (disch := omega) only [up2_ne, up2_eq, e6, e10, st_200_m1 gS, st_200_45 gS, st_245_m2 gS, st_245_m1 gS]
      have h01 := h01 (by omega)
      refine wp_if_eq (tgt := 31) (by first | assumption | exact bI_in _ | exact ⟨by omega, by omega⟩ | exact iAnd_in | exact iOr_in | exact iShr_in | exact iShl_in | exact iXor_in | exact hxs _) dX12_pairsBy_24 (by decide) (fun c2 => ?_) (fun c2 => ?_)
      · refine wp_iconst dX12_pairsBy_31 ?_
        refine wp_iadd dX12_pairsBy_32 ?_
        refine wp_istore_n rfl dX12_pairsBy_33 rfl (Nat.le_of_ble_eq_true rfl) rfl ?_
        try simp only [List.set_cons_zero, List.set_cons_succ]
        refine wp_iinc rfl rfl dX12_pairsBy_34 rfl rfl ?_
        try simp only [List.set_cons_zero, List.set_cons_succ]
        refine wp_goto (tgt := 4) dX12_pairsBy_37 (by decide) ?_
        have hi := ih (by omega)
        first
          | (rw [smS (f := (fun z => Mr g z r)) (v := 1) (show Mr g n r = 1 by unfold Mr; omega)] at hi; exact hi)
          | (rw [smS (f := (fun z => Mr g z r)) (v := 0) (show Mr g n r = 0 by unfold Mr; omega)] at hi; exact hi)
      · refine wp_iconst dX12_pairsBy_27 ?_
        refine wp_goto (tgt := 32) dX12_pairsBy_28 (by decide) ?_
        refine wp_iadd dX12_pairsBy_32 ?_
        refine wp_istore_n rfl dX12_pairsBy_33 rfl (Nat.le_of_ble_eq_true rfl) rfl ?_
        try simp only [List.set_cons_zero, List.set_cons_succ]
        refine wp_iinc rfl rfl dX12_pairsBy_34 rfl rfl ?_
        try simp only [List.set_cons_zero, List.set_cons_succ]
        refine wp_goto (tgt := 4) dX12_pairsBy_37 (by decide) ?_
        have hi := ih (by omega)
        first
          | (rw [smS (f := (fun z => Mr g z r)) (v := 1) (show Mr g n r = 1 by unfold Mr; omega)] at hi; exact hi)
          | (rw [smS (f := (fun z => Mr g z r)) (v := 0) (show Mr g n r = 0 by unfold Mr; omega)] at hi; exact hi)
  show WP (gX (gq u)) MX12_pairsBy d b Q 0 [(2, 200), (0, r), (9, 0), (9, 0)] [] g
  refine wp_iconst dX12_pairsBy_0 ?_
  refine wp_istore_n rfl dX12_pairsBy_1 rfl (Nat.le_of_ble_eq_true rfl) rfl ?_
  try simp only [List.set_cons_zero, List.set_cons_succ]
  refine wp_iconst dX12_pairsBy_2 ?_
  refine wp_istore_n rfl dX12_pairsBy_3 rfl (Nat.le_of_ble_eq_true rfl) rfl ?_
  try simp only [List.set_cons_zero, List.set_cons_succ]
  exact loop 0 (by omega)
