/-! ===== told, readerTold, count: class and reference ===== -/
theorem Inv.gr {j : Nat} {h : mH} (H : Inv j h) {a : Int} (a0 : 0 ≤ a) (a1 : a < h 200 10) : (h (120 + a) 11 = -1 ∧ h 221 a = -1 ∧ h (160 + a) (-1) = 0 ∧ h 225 a = 0 ∧ h 226 a = 0 ∧ h 227 a = 0) ∨ (h (120 + a) 11 = 160 + a ∧ 0 ≤ h 221 a ∧ h 221 a < h 200 0 ∧ h (160 + a) (-1) = 4 ∧ h (160 + a) 0 = 100 + h 221 a ∧ h (160 + a) 1 = h 221 a ∧ h (160 + a) 6 = h 225 a ∧ h (160 + a) 7 = h 227 a ∧ h (160 + a) 8 = h 226 a) := by
  have hn := H.ns
  have := H.2.2.2.2.2.2.1 a a0 (by omega)
  rcases this with q | q | q
  · exact Or.inl ⟨by omega, by omega, by omega, by omega, by omega, by omega⟩
  · exact Or.inr ⟨by omega, by omega, by omega, by omega, by omega, by omega, by omega, by omega, by omega⟩
  · exfalso; omega
def grs (h : mH) : Int := sm (fun a => bI (h 221 a ≠ -1)) (h 200 10).toNat
theorem smB_t {p : Prop} [Decidable p] {f : Int → Int} {n : Nat} (e : f n = bI p) (q : p) : sm f (n + 1) = sm f n + 1 := by rw [sm, e, bI_t q]
theorem smB_f {p : Prop} [Decidable p] {f : Int → Int} {n : Nat} (e : f n = bI p) (q : ¬ p) : sm f (n + 1) = sm f n := by rw [sm, e, bI_f q, Int.add_zero]
theorem needKM {k : Int} (k0 : 0 ≤ k) (k1 : k ≤ 5) : needK k = needM k := by
  rcases (show k = 0 ∨ k = 1 ∨ k = 2 ∨ k = 3 ∨ k = 4 ∨ k = 5 by omega) with rfl | rfl | rfl | rfl | rfl | rfl <;> decide +kernel
theorem ndF_t {u : gT} {j : Nat} {h m : mH} {d b : Nat} (H : Inv j m) (e : Cl h m) (hS : St h) {n : Int} (n0 : 0 ≤ n) (n1 : n < m 200 0) : Det (gX (gq u)) MX11_findFund (d + 1) b [(2, 1), (0, n)] h (2, 100 + n) h := by
  have hn := H.ns
  have e1 := H.n11
  have e2 := e 1 11 (by omega)
  exact fF_t hS ⟨by omega, by omega⟩ (by omega) (by omega) n0 (by omega) (by rw [e _ _ (by omega)]; exact H.f2 n0 n1)
theorem ndF_f {u : gT} {j : Nat} {h m : mH} {d b : Nat} (H : Inv j m) (e : Cl h m) (hS : St h) {n : Int} (hi : InI n) (q : ¬ (0 ≤ n ∧ n < m 200 0)) : Det (gX (gq u)) MX11_findFund (d + 1) b [(2, 1), (0, n)] h (2, -1) h := by
  have hn := H.ns
  have e1 := H.n11
  have e2 := e 1 11 (by omega)
  exact fF_f hS hi (by omega) (by omega) (fun z => q ⟨z.1, by omega⟩)
theorem ndR_t {u : gT} {j : Nat} {h m : mH} {d b : Nat} (H : Inv j m) (e : Cl h m) (hS : St h) {n : Int} (n0 : 0 ≤ n) (n1 : n < m 200 6) : Det (gX (gq u)) MX11_findReader (d + 1) b [(2, 1), (0, n)] h (2, 110 + n) h := by
  have hn := H.ns
  have e1 := H.n12
  have e2 := e 1 12 (by omega)
  exact fR_t hS ⟨by omega, by omega⟩ (by omega) (by omega) n0 (by omega) (by rw [e _ _ (by omega)]; exact H.r3 n0 n1)
theorem ndR_f {u : gT} {j : Nat} {h m : mH} {d b : Nat} (H : Inv j m) (e : Cl h m) (hS : St h) {n : Int} (hi : InI n) (q : ¬ (0 ≤ n ∧ n < m 200 6)) : Det (gX (gq u)) MX11_findReader (d + 1) b [(2, 1), (0, n)] h (2, -1) h := by
  have hn := H.ns
  have e1 := H.n12
  have e2 := e 1 12 (by omega)
  exact fR_f hS hi (by omega) (by omega) (fun z => q ⟨z.1, by omega⟩)
theorem ndA_t {u : gT} {j : Nat} {h m : mH} {d b : Nat} (H : Inv j m) (e : Cl h m) (hS : St h) {n : Int} (n0 : 0 ≤ n) (n1 : n < m 200 10) : Det (gX (gq u)) MX11_findAsking (d + 1) b [(2, 1), (0, n)] h (2, 120 + n) h := by
  have hn := H.ns
  have e1 := H.n13
  have e2 := e 1 13 (by omega)
  exact fA_t hS ⟨by omega, by omega⟩ (by omega) (by omega) n0 (by omega) (by rw [e _ _ (by omega)]; exact H.a4 n0 n1)
theorem ndA_f {u : gT} {j : Nat} {h m : mH} {d b : Nat} (H : Inv j m) (e : Cl h m) (hS : St h) {n : Int} (hi : InI n) (q : ¬ (0 ≤ n ∧ n < m 200 10)) : Det (gX (gq u)) MX11_findAsking (d + 1) b [(2, 1), (0, n)] h (2, -1) h := by
  have hn := H.ns
  have e1 := H.n13
  have e2 := e 1 13 (by omega)
  exact fA_f hS hi (by omega) (by omega) (fun z => q ⟨z.1, by omega⟩)
theorem s_X11_allGrants {u : gT} {j : Nat} {h m : mH} {d b : Nat} (H : Inv j m) (e : Cl h m) (hS : St h) : Det (gX (gq u)) MX11_allGrants d b [(2, 1)] h (0, grs m) h := by
  intro Q hQ
  have hn := H.ns
  have e12 := H.n12
  have e13 := H.n13
  have e11 := H.n11
  have loop : ∀ n : Nat, n ≤ (m 200 10).toNat → WP (gX (gq u)) MX11_allGrants d b Q 4 [(2, 1), (0, sm (fun a => bI (m 221 a ≠ -1)) n), (0, (n : Int))] [] h := by
    refine loop_w ((m 200 10).toNat) (fun n hn2 ih => ?_)
    have hg : n < (m 200 10).toNat → _ := fun z => H.gr (a := (n : Int)) (by omega) (by omega)
    refine wp_iload_n rfl rfl dX11_allGrants_4 ?_
    refine wp_aload_n rfl rfl dX11_allGrants_5 ?_
    refine wp_getfield1 (z := 12) (kI := 13) fX11_172 dX11_allGrants_6 (by first | omega | (simp (disch := omega) only [up2_ne, up2_eq, e, e11, e12, e13, H.a4, H.az, H.r3, H.rz, st_1_m1 hS, st_1_m1 H.1, st_1_2 hS, st_1_2 H.1, st_4_m2 hS, st_4_m2 H.1, st_4_m1 hS, st_4_m1 H.1]; first | done | omega)) (by first | assumption | (simp (disch := omega) only [up2_ne, up2_eq, e, e11, e12, e13, H.a4, H.az, H.r3, H.rz, st_1_m1 hS, st_1_m1 H.1, st_1_2 hS, st_1_2 H.1, st_4_m2 hS, st_4_m2 H.1, st_4_m1 hS, st_4_m1 H.1]; first | done | rfl | omega)) rfl rfl ?_
    try simp (disch := omega) only [up2_ne, up2_eq, e, e11, e12, e13, H.a4, H.az, H.r3, H.rz, st_1_m1 hS, st_1_m1 H.1, st_1_2 hS, st_1_2 H.1, st_4_m2 hS, st_4_m2 H.1, st_4_m1 hS, st_4_m1 H.1]
    refine wp_icmp_ge (tgt := 33) (by first | assumption | exact bI_in _ | exact ⟨by omega, by omega⟩ | exact iAnd_in | exact iOr_in | exact iShr_in | exact iShl_in | exact iXor_in | exact hxs _) (by first | assumption | exact bI_in _ | exact ⟨by omega, by omega⟩ | exact iAnd_in | exact iOr_in | exact iShr_in | exact iShl_in | exact iXor_in | exact hxs _) dX11_allGrants_9 (by decide) (fun c1 => ?_) (fun c1 => ?_)
    · refine wp_iload_n rfl rfl dX11_allGrants_33 ?_
      refine wp_iret dX11_allGrants_34 rfl ?_
      have en : n = (m 200 10).toNat := by omega
      subst en
      exact hQ
    · refine wp_aload_n rfl rfl dX11_allGrants_12 ?_
      refine wp_getfield1 (z := 12) (kI := 2) fX11_23 dX11_allGrants_13 (by first | omega | (simp (disch := omega) only [up2_ne, up2_eq, e, e11, e12, e13, H.a4, H.az, H.r3, H.rz, st_1_m1 hS, st_1_m1 H.1, st_1_2 hS, st_1_2 H.1, st_4_m2 hS, st_4_m2 H.1, st_4_m1 hS, st_4_m1 H.1]; first | done | omega)) (by first | assumption | (simp (disch := omega) only [up2_ne, up2_eq, e, e11, e12, e13, H.a4, H.az, H.r3, H.rz, st_1_m1 hS, st_1_m1 H.1, st_1_2 hS, st_1_2 H.1, st_4_m2 hS, st_4_m2 H.1, st_4_m1 hS, st_4_m1 H.1]; first | done | rfl | omega)) rfl rfl ?_
      try simp (disch := omega) only [up2_ne, up2_eq, e, e11, e12, e13, H.a4, H.az, H.r3, H.rz, st_1_m1 hS, st_1_m1 H.1, st_1_2 hS, st_1_2 H.1, st_4_m2 hS, st_4_m2 H.1, st_4_m1 hS, st_4_m1 H.1]
      refine wp_iload_n rfl rfl dX11_allGrants_16 ?_
      refine wp_aaload1 dX11_allGrants_17 (by first | omega | (simp (disch := omega) only [up2_ne, up2_eq, e, e11, e12, e13, H.a4, H.az, H.r3, H.rz, st_1_m1 hS, st_1_m1 H.1, st_1_2 hS, st_1_2 H.1, st_4_m2 hS, st_4_m2 H.1, st_4_m1 hS, st_4_m1 H.1]; first | done | omega)) (by first | omega | (simp (disch := omega) only [up2_ne, up2_eq, e, e11, e12, e13, H.a4, H.az, H.r3, H.rz, st_1_m1 hS, st_1_m1 H.1, st_1_2 hS, st_1_2 H.1, st_4_m2 hS, st_4_m2 H.1, st_4_m1 hS, st_4_m1 H.1]; first | done | omega)) (by first | omega | (simp (disch := omega) only [up2_ne, up2_eq, e, e11, e12, e13, H.a4, H.az, H.r3, H.rz, st_1_m1 hS, st_1_m1 H.1, st_1_2 hS, st_1_2 H.1, st_4_m2 hS, st_4_m2 H.1, st_4_m1 hS, st_4_m1 H.1]; first | done | omega)) (by first | omega | (simp (disch := omega) only [up2_ne, up2_eq, e, e11, e12, e13, H.a4, H.az, H.r3, H.rz, st_1_m1 hS, st_1_m1 H.1, st_1_2 hS, st_1_2 H.1, st_4_m2 hS, st_4_m2 H.1, st_4_m1 hS, st_4_m1 H.1]; first | done | omega)) ?_
      try simp (disch := omega) only [up2_ne, up2_eq, e, e11, e12, e13, H.a4, H.az, H.r3, H.rz, st_1_m1 hS, st_1_m1 H.1, st_1_2 hS, st_1_2 H.1, st_4_m2 hS, st_4_m2 H.1, st_4_m1 hS, st_4_m1 H.1]
      refine wp_getfield1 (z := 1) (kI := 11) fX11_230 dX11_allGrants_18 (by first | omega | (simp (disch := omega) only [up2_ne, up2_eq, e, e11, e12, e13, H.a4, H.az, H.r3, H.rz, st_1_m1 hS, st_1_m1 H.1, st_1_2 hS, st_1_2 H.1, st_4_m2 hS, st_4_m2 H.1, st_4_m1 hS, st_4_m1 H.1]; first | done | omega)) (by first | assumption | (simp (disch := omega) only [up2_ne, up2_eq, e, e11, e12, e13, H.a4, H.az, H.r3, H.rz, st_1_m1 hS, st_1_m1 H.1, st_1_2 hS, st_1_2 H.1, st_4_m2 hS, st_4_m2 H.1, st_4_m1 hS, st_4_m1 H.1]; first | done | rfl | omega)) rfl rfl ?_
      try simp (disch := omega) only [up2_ne, up2_eq, e, e11, e12, e13, H.a4, H.az, H.r3, H.rz, st_1_m1 hS, st_1_m1 H.1, st_1_2 hS, st_1_2 H.1, st_4_m2 hS, st_4_m2 H.1, st_4_m1 hS, st_4_m1 H.1]
      refine wp_ifnull (tgt := 27) dX11_allGrants_21 (by decide) (fun c2 => ?_) (fun c2 => ?_)
      · refine wp_iinc rfl rfl dX11_allGrants_27 rfl rfl ?_
        try simp only [List.set_cons_zero, List.set_cons_succ]
        refine wp_goto (tgt := 4) dX11_allGrants_30 (by decide) ?_
        have hg := hg (by omega)
        have hi := ih (by omega)
        first
          | (rw [smB_t (f := (fun a => bI (m 221 a ≠ -1))) (n := n) rfl (by omega)] at hi; exact hi)
          | (rw [smB_f (f := (fun a => bI (m 221 a ≠ -1))) (n := n) rfl (by omega)] at hi; exact hi)
      · refine wp_iinc rfl rfl dX11_allGrants_24 rfl rfl ?_
        try simp only [List.set_cons_zero, List.set_cons_succ]
        refine wp_iinc rfl rfl dX11_allGrants_27 rfl rfl ?_
        try simp only [List.set_cons_zero, List.set_cons_succ]
        refine wp_goto (tgt := 4) dX11_allGrants_30 (by decide) ?_
        have hg := hg (by omega)
        have hi := ih (by omega)
        first
          | (rw [smB_t (f := (fun a => bI (m 221 a ≠ -1))) (n := n) rfl (by omega)] at hi; exact hi)
          | (rw [smB_f (f := (fun a => bI (m 221 a ≠ -1))) (n := n) rfl (by omega)] at hi; exact hi)
  show WP (gX (gq u)) MX11_allGrants d b Q 0 [(2, 1), (9, 0), (9, 0)] [] h
  refine wp_iconst dX11_allGrants_0 ?_
  refine wp_istore_n rfl dX11_allGrants_1 rfl (Nat.le_of_ble_eq_true rfl) rfl ?_
  try simp only [List.set_cons_zero, List.set_cons_succ]
  refine wp_iconst dX11_allGrants_2 ?_
  refine wp_istore_n rfl dX11_allGrants_3 rfl (Nat.le_of_ble_eq_true rfl) rfl ?_
  try simp only [List.set_cons_zero, List.set_cons_succ]
  exact loop 0 (by omega)
theorem gTold_n {u : gT} {h : mH} {d b : Nat} {what : Int} (iw : InI what) : Det (gX (gq u)) MX11_grantTold d b [(2, -1), (0, what)] h (0, if what = 9 then -1 else if what = 10 then 0 else if what = 11 then 0 else if what = 12 then 0 else -2) h := by
  intro Q hQ
  show WP (gX (gq u)) MX11_grantTold d b Q 0 [(2, -1), (0, what)] [] h
  refine wp_iload_n rfl rfl dX11_grantTold_0 ?_
  by_cases c1 : what < 9 ∨ 12 < what
  · refine wp_tabOut (tgt := 84) (by first | assumption | exact bI_in _ | exact ⟨by omega, by omega⟩ | exact iAnd_in | exact iOr_in | exact iShr_in | exact iShl_in | exact iXor_in | exact hxs _) dX11_grantTold_1 c1 (by decide) ?_
    refine wp_bipush (by decide) dX11_grantTold_84 ?_
    refine wp_iret dX11_grantTold_86 rfl ?_
    refine Q_eq hQ ?_ rfl
    congr 1
    repeat (first | rfl | rw [if_pos (by omega)] | rw [if_neg (by omega)])
  · rcases (show what = 9 ∨ what = 10 ∨ what = 11 ∨ what = 12 by omega) with c1x | c1x | c1x | c1x
    · refine wp_tabIn (off := 31) (tgt := 32) (by first | assumption | exact bI_in _ | exact ⟨by omega, by omega⟩ | exact iAnd_in | exact iOr_in | exact iShr_in | exact iShl_in | exact iXor_in | exact hxs _) dX11_grantTold_1 (by omega) (by omega) (by rw [c1x]; rfl) (by decide) ?_
      refine wp_aload_n rfl rfl dX11_grantTold_32 ?_
      refine wp_ifnonnull (tgt := 40) dX11_grantTold_33 (by decide) (fun hx => absurd rfl hx) (fun hx => ?_)
      refine wp_iconst dX11_grantTold_36 ?_
      refine wp_goto (tgt := 44) dX11_grantTold_37 (by decide) ?_
      refine wp_iret dX11_grantTold_44 rfl ?_
      refine Q_eq hQ ?_ rfl
      congr 1
      repeat (first | rfl | rw [if_pos (by omega)] | rw [if_neg (by omega)])
    · refine wp_tabIn (off := 44) (tgt := 45) (by first | assumption | exact bI_in _ | exact ⟨by omega, by omega⟩ | exact iAnd_in | exact iOr_in | exact iShr_in | exact iShl_in | exact iXor_in | exact hxs _) dX11_grantTold_1 (by omega) (by omega) (by rw [c1x]; rfl) (by decide) ?_
      refine wp_aload_n rfl rfl dX11_grantTold_45 ?_
      refine wp_ifnonnull (tgt := 53) dX11_grantTold_46 (by decide) (fun hx => absurd rfl hx) (fun hx => ?_)
      refine wp_iconst dX11_grantTold_49 ?_
      refine wp_goto (tgt := 57) dX11_grantTold_50 (by decide) ?_
      refine wp_iret dX11_grantTold_57 rfl ?_
      refine Q_eq hQ ?_ rfl
      congr 1
      repeat (first | rfl | rw [if_pos (by omega)] | rw [if_neg (by omega)])
    · refine wp_tabIn (off := 57) (tgt := 58) (by first | assumption | exact bI_in _ | exact ⟨by omega, by omega⟩ | exact iAnd_in | exact iOr_in | exact iShr_in | exact iShl_in | exact iXor_in | exact hxs _) dX11_grantTold_1 (by omega) (by omega) (by rw [c1x]; rfl) (by decide) ?_
      refine wp_aload_n rfl rfl dX11_grantTold_58 ?_
      refine wp_ifnonnull (tgt := 66) dX11_grantTold_59 (by decide) (fun hx => absurd rfl hx) (fun hx => ?_)
      refine wp_iconst dX11_grantTold_62 ?_
      refine wp_goto (tgt := 70) dX11_grantTold_63 (by decide) ?_
      refine wp_iret dX11_grantTold_70 rfl ?_
      refine Q_eq hQ ?_ rfl
      congr 1
      repeat (first | rfl | rw [if_pos (by omega)] | rw [if_neg (by omega)])
    · refine wp_tabIn (off := 70) (tgt := 71) (by first | assumption | exact bI_in _ | exact ⟨by omega, by omega⟩ | exact iAnd_in | exact iOr_in | exact iShr_in | exact iShl_in | exact iXor_in | exact hxs _) dX11_grantTold_1 (by omega) (by omega) (by rw [c1x]; rfl) (by decide) ?_
      refine wp_aload_n rfl rfl dX11_grantTold_71 ?_
      refine wp_ifnonnull (tgt := 79) dX11_grantTold_72 (by decide) (fun hx => absurd rfl hx) (fun hx => ?_)
      refine wp_iconst dX11_grantTold_75 ?_
      refine wp_goto (tgt := 83) dX11_grantTold_76 (by decide) ?_
      refine wp_iret dX11_grantTold_83 rfl ?_
      refine Q_eq hQ ?_ rfl
      congr 1
      repeat (first | rfl | rw [if_pos (by omega)] | rw [if_neg (by omega)])
theorem gTold_g {u : gT} {h : mH} {d b : Nat} {what g : Int} (iw : InI what) (g0 : 0 ≤ g) (gz : h g (-1) = 4) : Det (gX (gq u)) MX11_grantTold d b [(2, g), (0, what)] h (0, if what = 9 then h g 1 else if what = 10 then h g 6 else if what = 11 then h g 8 else if what = 12 then h g 7 else -2) h := by
  intro Q hQ
  show WP (gX (gq u)) MX11_grantTold d b Q 0 [(2, g), (0, what)] [] h
  refine wp_iload_n rfl rfl dX11_grantTold_0 ?_
  by_cases c1 : what < 9 ∨ 12 < what
  · refine wp_tabOut (tgt := 84) (by first | assumption | exact bI_in _ | exact ⟨by omega, by omega⟩ | exact iAnd_in | exact iOr_in | exact iShr_in | exact iShl_in | exact iXor_in | exact hxs _) dX11_grantTold_1 c1 (by decide) ?_
    refine wp_bipush (by decide) dX11_grantTold_84 ?_
    refine wp_iret dX11_grantTold_86 rfl ?_
    refine Q_eq hQ ?_ rfl
    congr 1
    repeat (first | rfl | rw [if_pos (by omega)] | rw [if_neg (by omega)])
  · rcases (show what = 9 ∨ what = 10 ∨ what = 11 ∨ what = 12 by omega) with c1x | c1x | c1x | c1x
    · refine wp_tabIn (off := 31) (tgt := 32) (by first | assumption | exact bI_in _ | exact ⟨by omega, by omega⟩ | exact iAnd_in | exact iOr_in | exact iShr_in | exact iShl_in | exact iXor_in | exact hxs _) dX11_grantTold_1 (by omega) (by omega) (by rw [c1x]; rfl) (by decide) ?_
      refine wp_aload_n rfl rfl dX11_grantTold_32 ?_
      refine wp_ifnonnull (tgt := 40) dX11_grantTold_33 (by decide) (fun hx => ?_) (fun hx => absurd hx (by omega))
      refine wp_aload_n rfl rfl dX11_grantTold_40 ?_
      refine wp_getfield1 (z := 4) (kI := 1) fX11_238 dX11_grantTold_41 (by first | omega | (simp (disch := omega) only [up2_ne, up2_eq, gz]; first | done | omega)) (by first | assumption | (simp (disch := omega) only [up2_ne, up2_eq, gz]; first | done | rfl | omega)) rfl rfl ?_
      try simp (disch := omega) only [up2_ne, up2_eq, gz]
      refine wp_iret dX11_grantTold_44 rfl ?_
      refine Q_eq hQ ?_ rfl
      congr 1
      repeat (first | rfl | rw [if_pos (by omega)] | rw [if_neg (by omega)])
    · refine wp_tabIn (off := 44) (tgt := 45) (by first | assumption | exact bI_in _ | exact ⟨by omega, by omega⟩ | exact iAnd_in | exact iOr_in | exact iShr_in | exact iShl_in | exact iXor_in | exact hxs _) dX11_grantTold_1 (by omega) (by omega) (by rw [c1x]; rfl) (by decide) ?_
      refine wp_aload_n rfl rfl dX11_grantTold_45 ?_
      refine wp_ifnonnull (tgt := 53) dX11_grantTold_46 (by decide) (fun hx => ?_) (fun hx => absurd hx (by omega))
      refine wp_aload_n rfl rfl dX11_grantTold_53 ?_
      refine wp_getfield1 (z := 4) (kI := 6) fX11_243 dX11_grantTold_54 (by first | omega | (simp (disch := omega) only [up2_ne, up2_eq, gz]; first | done | omega)) (by first | assumption | (simp (disch := omega) only [up2_ne, up2_eq, gz]; first | done | rfl | omega)) rfl rfl ?_
      try simp (disch := omega) only [up2_ne, up2_eq, gz]
      refine wp_iret dX11_grantTold_57 rfl ?_
      refine Q_eq hQ ?_ rfl
      congr 1
      repeat (first | rfl | rw [if_pos (by omega)] | rw [if_neg (by omega)])
    · refine wp_tabIn (off := 57) (tgt := 58) (by first | assumption | exact bI_in _ | exact ⟨by omega, by omega⟩ | exact iAnd_in | exact iOr_in | exact iShr_in | exact iShl_in | exact iXor_in | exact hxs _) dX11_grantTold_1 (by omega) (by omega) (by rw [c1x]; rfl) (by decide) ?_
      refine wp_aload_n rfl rfl dX11_grantTold_58 ?_
      refine wp_ifnonnull (tgt := 66) dX11_grantTold_59 (by decide) (fun hx => ?_) (fun hx => absurd hx (by omega))
      refine wp_aload_n rfl rfl dX11_grantTold_66 ?_
      refine wp_getfield1 (z := 4) (kI := 8) fX11_246 dX11_grantTold_67 (by first | omega | (simp (disch := omega) only [up2_ne, up2_eq, gz]; first | done | omega)) (by first | assumption | (simp (disch := omega) only [up2_ne, up2_eq, gz]; first | done | rfl | omega)) rfl rfl ?_
      try simp (disch := omega) only [up2_ne, up2_eq, gz]
      refine wp_iret dX11_grantTold_70 rfl ?_
      refine Q_eq hQ ?_ rfl
      congr 1
      repeat (first | rfl | rw [if_pos (by omega)] | rw [if_neg (by omega)])
    · refine wp_tabIn (off := 70) (tgt := 71) (by first | assumption | exact bI_in _ | exact ⟨by omega, by omega⟩ | exact iAnd_in | exact iOr_in | exact iShr_in | exact iShl_in | exact iXor_in | exact hxs _) dX11_grantTold_1 (by omega) (by omega) (by rw [c1x]; rfl) (by decide) ?_
      refine wp_aload_n rfl rfl dX11_grantTold_71 ?_
      refine wp_ifnonnull (tgt := 79) dX11_grantTold_72 (by decide) (fun hx => ?_) (fun hx => absurd hx (by omega))
      refine wp_aload_n rfl rfl dX11_grantTold_79 ?_
      refine wp_getfield1 (z := 4) (kI := 7) fX11_247 dX11_grantTold_80 (by first | omega | (simp (disch := omega) only [up2_ne, up2_eq, gz]; first | done | omega)) (by first | assumption | (simp (disch := omega) only [up2_ne, up2_eq, gz]; first | done | rfl | omega)) rfl rfl ?_
      try simp (disch := omega) only [up2_ne, up2_eq, gz]
      refine wp_iret dX11_grantTold_83 rfl ?_
      refine Q_eq hQ ?_ rfl
      congr 1
      repeat (first | rfl | rw [if_pos (by omega)] | rw [if_neg (by omega)])
theorem readerTold_t {u : gT} {j : Nat} {h m : mH} {d b : Nat} (H : Inv j m) (e : Cl h m) (hS : St h) {r what : Int} (r0 : 0 ≤ r) (r1 : r < m 200 6) (iw : InI what) : Det (gX (gq u)) MX11_readerTold (d + 4) b [(2, 1), (0, r), (0, what)] h (0, if what = 0 then m 207 r else if what = 1 then m 208 r else if what = 2 then m 209 r else if what = 3 then rds m r else if what = 4 then tR m w1 r else -2) h := by
  intro Q hQ
  have hn := H.ns
  have e12 := H.n12
  have e13 := H.n13
  have e11 := H.n11
  show WP (gX (gq u)) MX11_readerTold (d + 4) b Q 0 [(2, 1), (0, r), (0, what), (9, 0)] [] h
  refine wp_aload_n rfl rfl dX11_readerTold_0 ?_
  refine wp_iload_n rfl rfl dX11_readerTold_1 ?_
  refine wp_cV1 (ci := 11) okX11_findReader rfl rfl wX11_138 dX11_readerTold_2 rfl (Nat.le_of_ble_eq_true rfl) (Nat.le_of_ble_eq_true rfl) (by first | omega | (simp (disch := omega) only [up2_ne, up2_eq, e, e11, e12, e13, H.a4, H.az, H.r3, H.rz, H.rt, H.rh, H.rl, H.rr, H.ri, st_1_m1 hS, st_1_m1 H.1]; first | done | omega)) (by first | assumption | (simp (disch := omega) only [up2_ne, up2_eq, e, e11, e12, e13, H.a4, H.az, H.r3, H.rz, H.rt, H.rh, H.rl, H.rr, H.ri, st_1_m1 hS, st_1_m1 H.1]; first | done | rfl | omega)) (ndR_t H e hS r0 r1) (Nat.zero_le _) ?_
  try simp (disch := omega) only [up2_ne, up2_eq, e, e11, e12, e13, H.a4, H.az, H.r3, H.rz, H.rt, H.rh, H.rl, H.rr, H.ri, st_1_m1 hS, st_1_m1 H.1]
  refine wp_astore_n rfl dX11_readerTold_5 rfl (Nat.le_of_ble_eq_true rfl) rfl ?_
  try simp only [List.set_cons_zero, List.set_cons_succ]
  refine wp_aload_n rfl rfl dX11_readerTold_6 ?_
  refine wp_ifnonnull (tgt := 13) dX11_readerTold_7 (by decide) (fun hx => ?_) (fun hx => absurd hx (by omega))
  refine wp_iload_n rfl rfl dX11_readerTold_13 ?_
  by_cases c2 : what < 0 ∨ 4 < what
  · refine wp_tabOut (tgt := 74) (by first | assumption | exact bI_in _ | exact ⟨by omega, by omega⟩ | exact iAnd_in | exact iOr_in | exact iShr_in | exact iShl_in | exact iXor_in | exact hxs _) dX11_readerTold_14 c2 (by decide) ?_
    refine wp_bipush (by decide) dX11_readerTold_74 ?_
    refine wp_iret dX11_readerTold_76 rfl ?_
    refine Q_eq hQ ?_ rfl
    congr 1
    repeat (first | rfl | rw [if_pos (by omega)] | rw [if_neg (by omega)])
  · rcases (show what = 0 ∨ what = 1 ∨ what = 2 ∨ what = 3 ∨ what = 4 by omega) with c2x | c2x | c2x | c2x | c2x
    · refine wp_tabIn (off := 34) (tgt := 48) (by first | assumption | exact bI_in _ | exact ⟨by omega, by omega⟩ | exact iAnd_in | exact iOr_in | exact iShr_in | exact iShl_in | exact iXor_in | exact hxs _) dX11_readerTold_14 (by omega) (by omega) (by rw [c2x]; rfl) (by decide) ?_
      refine wp_aload_n rfl rfl dX11_readerTold_48 ?_
      refine wp_getfield1 (z := 7) (kI := 1) fX11_142 dX11_readerTold_49 (by first | omega | (simp (disch := omega) only [up2_ne, up2_eq, e, e11, e12, e13, H.a4, H.az, H.r3, H.rz, H.rt, H.rh, H.rl, H.rr, H.ri, st_1_m1 hS, st_1_m1 H.1]; first | done | omega)) (by first | assumption | (simp (disch := omega) only [up2_ne, up2_eq, e, e11, e12, e13, H.a4, H.az, H.r3, H.rz, H.rt, H.rh, H.rl, H.rr, H.ri, st_1_m1 hS, st_1_m1 H.1]; first | done | rfl | omega)) rfl rfl ?_
      try simp (disch := omega) only [up2_ne, up2_eq, e, e11, e12, e13, H.a4, H.az, H.r3, H.rz, H.rt, H.rh, H.rl, H.rr, H.ri, st_1_m1 hS, st_1_m1 H.1]
      refine wp_iret dX11_readerTold_52 rfl ?_
      refine Q_eq hQ ?_ rfl
      congr 1
      repeat (first | rfl | rw [if_pos (by omega)] | rw [if_neg (by omega)])
    · refine wp_tabIn (off := 39) (tgt := 53) (by first | assumption | exact bI_in _ | exact ⟨by omega, by omega⟩ | exact iAnd_in | exact iOr_in | exact iShr_in | exact iShl_in | exact iXor_in | exact hxs _) dX11_readerTold_14 (by omega) (by omega) (by rw [c2x]; rfl) (by decide) ?_
      refine wp_aload_n rfl rfl dX11_readerTold_53 ?_
      refine wp_getfield1 (z := 7) (kI := 2) fX11_145 dX11_readerTold_54 (by first | omega | (simp (disch := omega) only [up2_ne, up2_eq, e, e11, e12, e13, H.a4, H.az, H.r3, H.rz, H.rt, H.rh, H.rl, H.rr, H.ri, st_1_m1 hS, st_1_m1 H.1]; first | done | omega)) (by first | assumption | (simp (disch := omega) only [up2_ne, up2_eq, e, e11, e12, e13, H.a4, H.az, H.r3, H.rz, H.rt, H.rh, H.rl, H.rr, H.ri, st_1_m1 hS, st_1_m1 H.1]; first | done | rfl | omega)) rfl rfl ?_
      try simp (disch := omega) only [up2_ne, up2_eq, e, e11, e12, e13, H.a4, H.az, H.r3, H.rz, H.rt, H.rh, H.rl, H.rr, H.ri, st_1_m1 hS, st_1_m1 H.1]
      refine wp_iret dX11_readerTold_57 rfl ?_
      refine Q_eq hQ ?_ rfl
      congr 1
      repeat (first | rfl | rw [if_pos (by omega)] | rw [if_neg (by omega)])
    · refine wp_tabIn (off := 44) (tgt := 58) (by first | assumption | exact bI_in _ | exact ⟨by omega, by omega⟩ | exact iAnd_in | exact iOr_in | exact iShr_in | exact iShl_in | exact iXor_in | exact hxs _) dX11_readerTold_14 (by omega) (by omega) (by rw [c2x]; rfl) (by decide) ?_
      refine wp_aload_n rfl rfl dX11_readerTold_58 ?_
      refine wp_getfield1 (z := 7) (kI := 3) fX11_148 dX11_readerTold_59 (by first | omega | (simp (disch := omega) only [up2_ne, up2_eq, e, e11, e12, e13, H.a4, H.az, H.r3, H.rz, H.rt, H.rh, H.rl, H.rr, H.ri, st_1_m1 hS, st_1_m1 H.1]; first | done | omega)) (by first | assumption | (simp (disch := omega) only [up2_ne, up2_eq, e, e11, e12, e13, H.a4, H.az, H.r3, H.rz, H.rt, H.rh, H.rl, H.rr, H.ri, st_1_m1 hS, st_1_m1 H.1]; first | done | rfl | omega)) rfl rfl ?_
      try simp (disch := omega) only [up2_ne, up2_eq, e, e11, e12, e13, H.a4, H.az, H.r3, H.rz, H.rt, H.rh, H.rl, H.rr, H.ri, st_1_m1 hS, st_1_m1 H.1]
      refine wp_iret dX11_readerTold_62 rfl ?_
      refine Q_eq hQ ?_ rfl
      congr 1
      repeat (first | rfl | rw [if_pos (by omega)] | rw [if_neg (by omega)])
    · refine wp_tabIn (off := 49) (tgt := 63) (by first | assumption | exact bI_in _ | exact ⟨by omega, by omega⟩ | exact iAnd_in | exact iOr_in | exact iShr_in | exact iShl_in | exact iXor_in | exact hxs _) dX11_readerTold_14 (by omega) (by omega) (by rw [c2x]; rfl) (by decide) ?_
      refine wp_aload_n rfl rfl dX11_readerTold_63 ?_
      refine wp_getfield1 (z := 7) (kI := 4) fX11_151 dX11_readerTold_64 (by first | omega | (simp (disch := omega) only [up2_ne, up2_eq, e, e11, e12, e13, H.a4, H.az, H.r3, H.rz, H.rt, H.rh, H.rl, H.rr, H.ri, st_1_m1 hS, st_1_m1 H.1]; first | done | omega)) (by first | assumption | (simp (disch := omega) only [up2_ne, up2_eq, e, e11, e12, e13, H.a4, H.az, H.r3, H.rz, H.rt, H.rh, H.rl, H.rr, H.ri, st_1_m1 hS, st_1_m1 H.1]; first | done | rfl | omega)) rfl rfl ?_
      try simp (disch := omega) only [up2_ne, up2_eq, e, e11, e12, e13, H.a4, H.az, H.r3, H.rz, H.rt, H.rh, H.rl, H.rr, H.ri, st_1_m1 hS, st_1_m1 H.1]
      refine wp_iret dX11_readerTold_67 rfl ?_
      refine Q_eq hQ ?_ rfl
      congr 1
      repeat (first | rfl | rw [if_pos (by omega)] | rw [if_neg (by omega)])
    · refine wp_tabIn (off := 54) (tgt := 68) (by first | assumption | exact bI_in _ | exact ⟨by omega, by omega⟩ | exact iAnd_in | exact iOr_in | exact iShr_in | exact iShl_in | exact iXor_in | exact hxs _) dX11_readerTold_14 (by omega) (by omega) (by rw [c2x]; rfl) (by decide) ?_
      refine wp_aload_n rfl rfl dX11_readerTold_68 ?_
      refine wp_aload_n rfl rfl dX11_readerTold_69 ?_
      refine wp_cV1 (ci := 11) okX11_marksThatCountOf rfl rfl wX11_154 dX11_readerTold_70 rfl (Nat.le_of_ble_eq_true rfl) (Nat.le_of_ble_eq_true rfl) (by first | omega | (simp (disch := omega) only [up2_ne, up2_eq, e, e11, e12, e13, H.a4, H.az, H.r3, H.rz, H.rt, H.rh, H.rl, H.rr, H.ri, st_1_m1 hS, st_1_m1 H.1]; first | done | omega)) (by first | assumption | (simp (disch := omega) only [up2_ne, up2_eq, e, e11, e12, e13, H.a4, H.az, H.r3, H.rz, H.rt, H.rh, H.rl, H.rr, H.ri, st_1_m1 hS, st_1_m1 H.1]; first | done | rfl | omega)) (s_X11_marksThatCountOf H e hS r0 r1) (Nat.zero_le _) ?_
      try simp (disch := omega) only [up2_ne, up2_eq, e, e11, e12, e13, H.a4, H.az, H.r3, H.rz, H.rt, H.rh, H.rl, H.rr, H.ri, st_1_m1 hS, st_1_m1 H.1]
      refine wp_iret dX11_readerTold_73 rfl ?_
      refine Q_eq hQ ?_ rfl
      congr 1
      repeat (first | rfl | rw [if_pos (by omega)] | rw [if_neg (by omega)])
theorem readerTold_f {u : gT} {j : Nat} {h m : mH} {d b : Nat} (H : Inv j m) (e : Cl h m) (hS : St h) {r what : Int} (ir : InI r) (q : ¬ (0 ≤ r ∧ r < m 200 6)) (iw : InI what) : Det (gX (gq u)) MX11_readerTold (d + 4) b [(2, 1), (0, r), (0, what)] h (0, -2) h := by
  intro Q hQ
  have hn := H.ns
  have e12 := H.n12
  have e13 := H.n13
  have e11 := H.n11
  show WP (gX (gq u)) MX11_readerTold (d + 4) b Q 0 [(2, 1), (0, r), (0, what), (9, 0)] [] h
  refine wp_aload_n rfl rfl dX11_readerTold_0 ?_
  refine wp_iload_n rfl rfl dX11_readerTold_1 ?_
  refine wp_cV1 (ci := 11) okX11_findReader rfl rfl wX11_138 dX11_readerTold_2 rfl (Nat.le_of_ble_eq_true rfl) (Nat.le_of_ble_eq_true rfl) (by first | omega | (simp (disch := omega) only [up2_ne, up2_eq, e, e11, e12, e13, H.a4, H.az, H.r3, H.rz, H.rt, H.rh, H.rl, H.rr, H.ri, st_1_m1 hS, st_1_m1 H.1]; first | done | omega)) (by first | assumption | (simp (disch := omega) only [up2_ne, up2_eq, e, e11, e12, e13, H.a4, H.az, H.r3, H.rz, H.rt, H.rh, H.rl, H.rr, H.ri, st_1_m1 hS, st_1_m1 H.1]; first | done | rfl | omega)) (ndR_f H e hS ir q) (Nat.zero_le _) ?_
  try simp (disch := omega) only [up2_ne, up2_eq, e, e11, e12, e13, H.a4, H.az, H.r3, H.rz, H.rt, H.rh, H.rl, H.rr, H.ri, st_1_m1 hS, st_1_m1 H.1]
  refine wp_astore_n rfl dX11_readerTold_5 rfl (Nat.le_of_ble_eq_true rfl) rfl ?_
  try simp only [List.set_cons_zero, List.set_cons_succ]
  refine wp_aload_n rfl rfl dX11_readerTold_6 ?_
  refine wp_ifnonnull (tgt := 13) dX11_readerTold_7 (by decide) (fun hx => absurd rfl hx) (fun hx => ?_)
  refine wp_bipush (by decide) dX11_readerTold_10 ?_
  refine wp_iret dX11_readerTold_12 rfl ?_
  exact hQ
theorem told_n {u : gT} {j : Nat} {h m : mH} {d b : Nat} (H : Inv j m) (e : Cl h m) (hS : St h) {a : Int} (a0 : 0 ≤ a) (a1 : a < m 200 10) {what : Int} (iw : InI what) (g1 : m (120 + a) 11 = -1) : Det (gX (gq u)) MX11_told (d + 4) b [(2, 1), (0, a), (0, what)] h (0, if what = 0 then m 211 a else if what = 1 then m 212 a else if what = 2 then m 213 a else if what = 3 then m 214 a else if what = 4 then m 215 a else if what = 5 then m 216 a else if what = 6 then needM (m 211 a) else if what = 7 then m 218 a else if what = 8 then tA m w1 a else if what = 9 then m 221 a else if what = 10 then m 225 a else if what = 11 then m 226 a else if what = 12 then m 227 a else -2) h := by
  intro Q hQ
  have hn := H.ns
  have e12 := H.n12
  have e13 := H.n13
  have e11 := H.n11
  have hg := H.gr a0 a1
  have hr := H.ra a0 (by omega)
  have hnk := needKM hr.1.1 hr.1.2
  show WP (gX (gq u)) MX11_told (d + 4) b Q 0 [(2, 1), (0, a), (0, what), (9, 0)] [] h
  refine wp_aload_n rfl rfl dX11_told_0 ?_
  refine wp_iload_n rfl rfl dX11_told_1 ?_
  refine wp_cV1 (ci := 11) okX11_findAsking rfl rfl wX11_200 dX11_told_2 rfl (Nat.le_of_ble_eq_true rfl) (Nat.le_of_ble_eq_true rfl) (by first | omega | (simp (disch := omega) only [up2_ne, up2_eq, e, e11, e12, e13, H.a4, H.az, H.r3, H.rz, H.a0, H.a1, H.a2, H.a3, H.as, H.a5, H.a9, g1, hnk, st_1_m1 hS, st_1_m1 H.1]; first | done | omega)) (by first | assumption | (simp (disch := omega) only [up2_ne, up2_eq, e, e11, e12, e13, H.a4, H.az, H.r3, H.rz, H.a0, H.a1, H.a2, H.a3, H.as, H.a5, H.a9, g1, hnk, st_1_m1 hS, st_1_m1 H.1]; first | done | rfl | omega)) (ndA_t H e hS a0 a1) (Nat.zero_le _) ?_
  try simp (disch := omega) only [up2_ne, up2_eq, e, e11, e12, e13, H.a4, H.az, H.r3, H.rz, H.a0, H.a1, H.a2, H.a3, H.as, H.a5, H.a9, g1, hnk, st_1_m1 hS, st_1_m1 H.1]
  refine wp_astore_n rfl dX11_told_5 rfl (Nat.le_of_ble_eq_true rfl) rfl ?_
  try simp only [List.set_cons_zero, List.set_cons_succ]
  refine wp_aload_n rfl rfl dX11_told_6 ?_
  refine wp_ifnonnull (tgt := 13) dX11_told_7 (by decide) (fun hx => ?_) (fun hx => absurd hx (by omega))
  refine wp_iload_n rfl rfl dX11_told_13 ?_
  by_cases c2 : what < 0 ∨ 8 < what
  · refine wp_tabOut (tgt := 113) (by first | assumption | exact bI_in _ | exact ⟨by omega, by omega⟩ | exact iAnd_in | exact iOr_in | exact iShr_in | exact iShl_in | exact iXor_in | exact hxs _) dX11_told_14 c2 (by decide) ?_
    refine wp_aload_n rfl rfl dX11_told_113 ?_
    refine wp_getfield1 (z := 1) (kI := 11) fX11_230 dX11_told_114 (by first | omega | (simp (disch := omega) only [up2_ne, up2_eq, e, e11, e12, e13, H.a4, H.az, H.r3, H.rz, H.a0, H.a1, H.a2, H.a3, H.as, H.a5, H.a9, g1, hnk, st_1_m1 hS, st_1_m1 H.1]; first | done | omega)) (by first | assumption | (simp (disch := omega) only [up2_ne, up2_eq, e, e11, e12, e13, H.a4, H.az, H.r3, H.rz, H.a0, H.a1, H.a2, H.a3, H.as, H.a5, H.a9, g1, hnk, st_1_m1 hS, st_1_m1 H.1]; first | done | rfl | omega)) rfl rfl ?_
    try simp (disch := omega) only [up2_ne, up2_eq, e, e11, e12, e13, H.a4, H.az, H.r3, H.rz, H.a0, H.a1, H.a2, H.a3, H.as, H.a5, H.a9, g1, hnk, st_1_m1 hS, st_1_m1 H.1]
    refine wp_iload_n rfl rfl dX11_told_117 ?_
    refine wp_cS2 okX11_grantTold wX11_234 dX11_told_118 rfl (Nat.le_of_ble_eq_true rfl) (Nat.le_of_ble_eq_true rfl) (gTold_n iw) (Nat.zero_le _) ?_
    try simp (disch := omega) only [up2_ne, up2_eq, e, e11, e12, e13, H.a4, H.az, H.r3, H.rz, H.a0, H.a1, H.a2, H.a3, H.as, H.a5, H.a9, g1, hnk, st_1_m1 hS, st_1_m1 H.1]
    refine wp_iret dX11_told_121 rfl ?_
    refine Q_eq hQ ?_ rfl
    congr 1
    repeat (first | rfl | rw [if_pos (by omega)] | rw [if_neg (by omega)])
    all_goals (repeat' split)
    all_goals omega
  · rcases (show what = 0 ∨ what = 1 ∨ what = 2 ∨ what = 3 ∨ what = 4 ∨ what = 5 ∨ what = 6 ∨ what = 7 ∨ what = 8 by omega) with c2x | c2x | c2x | c2x | c2x | c2x | c2x | c2x | c2x
    · refine wp_tabIn (off := 50) (tgt := 64) (by first | assumption | exact bI_in _ | exact ⟨by omega, by omega⟩ | exact iAnd_in | exact iOr_in | exact iShr_in | exact iShl_in | exact iXor_in | exact hxs _) dX11_told_14 (by omega) (by omega) (by rw [c2x]; rfl) (by decide) ?_
      refine wp_aload_n rfl rfl dX11_told_64 ?_
      refine wp_getfield1 (z := 1) (kI := 0) fX11_204 dX11_told_65 (by first | omega | (simp (disch := omega) only [up2_ne, up2_eq, e, e11, e12, e13, H.a4, H.az, H.r3, H.rz, H.a0, H.a1, H.a2, H.a3, H.as, H.a5, H.a9, g1, hnk, st_1_m1 hS, st_1_m1 H.1]; first | done | omega)) (by first | assumption | (simp (disch := omega) only [up2_ne, up2_eq, e, e11, e12, e13, H.a4, H.az, H.r3, H.rz, H.a0, H.a1, H.a2, H.a3, H.as, H.a5, H.a9, g1, hnk, st_1_m1 hS, st_1_m1 H.1]; first | done | rfl | omega)) rfl rfl ?_
      try simp (disch := omega) only [up2_ne, up2_eq, e, e11, e12, e13, H.a4, H.az, H.r3, H.rz, H.a0, H.a1, H.a2, H.a3, H.as, H.a5, H.a9, g1, hnk, st_1_m1 hS, st_1_m1 H.1]
      refine wp_iret dX11_told_68 rfl ?_
      refine Q_eq hQ ?_ rfl
      congr 1
      repeat (first | rfl | rw [if_pos (by omega)] | rw [if_neg (by omega)])
      all_goals (repeat' split)
      all_goals omega
    · refine wp_tabIn (off := 55) (tgt := 69) (by first | assumption | exact bI_in _ | exact ⟨by omega, by omega⟩ | exact iAnd_in | exact iOr_in | exact iShr_in | exact iShl_in | exact iXor_in | exact hxs _) dX11_told_14 (by omega) (by omega) (by rw [c2x]; rfl) (by decide) ?_
      refine wp_aload_n rfl rfl dX11_told_69 ?_
      refine wp_getfield1 (z := 1) (kI := 1) fX11_207 dX11_told_70 (by first | omega | (simp (disch := omega) only [up2_ne, up2_eq, e, e11, e12, e13, H.a4, H.az, H.r3, H.rz, H.a0, H.a1, H.a2, H.a3, H.as, H.a5, H.a9, g1, hnk, st_1_m1 hS, st_1_m1 H.1]; first | done | omega)) (by first | assumption | (simp (disch := omega) only [up2_ne, up2_eq, e, e11, e12, e13, H.a4, H.az, H.r3, H.rz, H.a0, H.a1, H.a2, H.a3, H.as, H.a5, H.a9, g1, hnk, st_1_m1 hS, st_1_m1 H.1]; first | done | rfl | omega)) rfl rfl ?_
      try simp (disch := omega) only [up2_ne, up2_eq, e, e11, e12, e13, H.a4, H.az, H.r3, H.rz, H.a0, H.a1, H.a2, H.a3, H.as, H.a5, H.a9, g1, hnk, st_1_m1 hS, st_1_m1 H.1]
      refine wp_iret dX11_told_73 rfl ?_
      refine Q_eq hQ ?_ rfl
      congr 1
      repeat (first | rfl | rw [if_pos (by omega)] | rw [if_neg (by omega)])
      all_goals (repeat' split)
      all_goals omega
    · refine wp_tabIn (off := 60) (tgt := 74) (by first | assumption | exact bI_in _ | exact ⟨by omega, by omega⟩ | exact iAnd_in | exact iOr_in | exact iShr_in | exact iShl_in | exact iXor_in | exact hxs _) dX11_told_14 (by omega) (by omega) (by rw [c2x]; rfl) (by decide) ?_
      refine wp_aload_n rfl rfl dX11_told_74 ?_
      refine wp_getfield1 (z := 1) (kI := 2) fX11_208 dX11_told_75 (by first | omega | (simp (disch := omega) only [up2_ne, up2_eq, e, e11, e12, e13, H.a4, H.az, H.r3, H.rz, H.a0, H.a1, H.a2, H.a3, H.as, H.a5, H.a9, g1, hnk, st_1_m1 hS, st_1_m1 H.1]; first | done | omega)) (by first | assumption | (simp (disch := omega) only [up2_ne, up2_eq, e, e11, e12, e13, H.a4, H.az, H.r3, H.rz, H.a0, H.a1, H.a2, H.a3, H.as, H.a5, H.a9, g1, hnk, st_1_m1 hS, st_1_m1 H.1]; first | done | rfl | omega)) rfl rfl ?_
      try simp (disch := omega) only [up2_ne, up2_eq, e, e11, e12, e13, H.a4, H.az, H.r3, H.rz, H.a0, H.a1, H.a2, H.a3, H.as, H.a5, H.a9, g1, hnk, st_1_m1 hS, st_1_m1 H.1]
      refine wp_iret dX11_told_78 rfl ?_
      refine Q_eq hQ ?_ rfl
      congr 1
      repeat (first | rfl | rw [if_pos (by omega)] | rw [if_neg (by omega)])
      all_goals (repeat' split)
      all_goals omega
    · refine wp_tabIn (off := 65) (tgt := 79) (by first | assumption | exact bI_in _ | exact ⟨by omega, by omega⟩ | exact iAnd_in | exact iOr_in | exact iShr_in | exact iShl_in | exact iXor_in | exact hxs _) dX11_told_14 (by omega) (by omega) (by rw [c2x]; rfl) (by decide) ?_
      refine wp_aload_n rfl rfl dX11_told_79 ?_
      refine wp_getfield1 (z := 1) (kI := 3) fX11_211 dX11_told_80 (by first | omega | (simp (disch := omega) only [up2_ne, up2_eq, e, e11, e12, e13, H.a4, H.az, H.r3, H.rz, H.a0, H.a1, H.a2, H.a3, H.as, H.a5, H.a9, g1, hnk, st_1_m1 hS, st_1_m1 H.1]; first | done | omega)) (by first | assumption | (simp (disch := omega) only [up2_ne, up2_eq, e, e11, e12, e13, H.a4, H.az, H.r3, H.rz, H.a0, H.a1, H.a2, H.a3, H.as, H.a5, H.a9, g1, hnk, st_1_m1 hS, st_1_m1 H.1]; first | done | rfl | omega)) rfl rfl ?_
      try simp (disch := omega) only [up2_ne, up2_eq, e, e11, e12, e13, H.a4, H.az, H.r3, H.rz, H.a0, H.a1, H.a2, H.a3, H.as, H.a5, H.a9, g1, hnk, st_1_m1 hS, st_1_m1 H.1]
      refine wp_iret dX11_told_83 rfl ?_
      refine Q_eq hQ ?_ rfl
      congr 1
      repeat (first | rfl | rw [if_pos (by omega)] | rw [if_neg (by omega)])
      all_goals (repeat' split)
      all_goals omega
    · refine wp_tabIn (off := 70) (tgt := 84) (by first | assumption | exact bI_in _ | exact ⟨by omega, by omega⟩ | exact iAnd_in | exact iOr_in | exact iShr_in | exact iShl_in | exact iXor_in | exact hxs _) dX11_told_14 (by omega) (by omega) (by rw [c2x]; rfl) (by decide) ?_
      refine wp_aload_n rfl rfl dX11_told_84 ?_
      refine wp_getfield1 (z := 1) (kI := 4) fX11_214 dX11_told_85 (by first | omega | (simp (disch := omega) only [up2_ne, up2_eq, e, e11, e12, e13, H.a4, H.az, H.r3, H.rz, H.a0, H.a1, H.a2, H.a3, H.as, H.a5, H.a9, g1, hnk, st_1_m1 hS, st_1_m1 H.1]; first | done | omega)) (by first | assumption | (simp (disch := omega) only [up2_ne, up2_eq, e, e11, e12, e13, H.a4, H.az, H.r3, H.rz, H.a0, H.a1, H.a2, H.a3, H.as, H.a5, H.a9, g1, hnk, st_1_m1 hS, st_1_m1 H.1]; first | done | rfl | omega)) rfl rfl ?_
      try simp (disch := omega) only [up2_ne, up2_eq, e, e11, e12, e13, H.a4, H.az, H.r3, H.rz, H.a0, H.a1, H.a2, H.a3, H.as, H.a5, H.a9, g1, hnk, st_1_m1 hS, st_1_m1 H.1]
      refine wp_iret dX11_told_88 rfl ?_
      refine Q_eq hQ ?_ rfl
      congr 1
      repeat (first | rfl | rw [if_pos (by omega)] | rw [if_neg (by omega)])
      all_goals (repeat' split)
      all_goals omega
    · refine wp_tabIn (off := 75) (tgt := 89) (by first | assumption | exact bI_in _ | exact ⟨by omega, by omega⟩ | exact iAnd_in | exact iOr_in | exact iShr_in | exact iShl_in | exact iXor_in | exact hxs _) dX11_told_14 (by omega) (by omega) (by rw [c2x]; rfl) (by decide) ?_
      refine wp_aload_n rfl rfl dX11_told_89 ?_
      refine wp_getfield1 (z := 1) (kI := 5) fX11_217 dX11_told_90 (by first | omega | (simp (disch := omega) only [up2_ne, up2_eq, e, e11, e12, e13, H.a4, H.az, H.r3, H.rz, H.a0, H.a1, H.a2, H.a3, H.as, H.a5, H.a9, g1, hnk, st_1_m1 hS, st_1_m1 H.1]; first | done | omega)) (by first | assumption | (simp (disch := omega) only [up2_ne, up2_eq, e, e11, e12, e13, H.a4, H.az, H.r3, H.rz, H.a0, H.a1, H.a2, H.a3, H.as, H.a5, H.a9, g1, hnk, st_1_m1 hS, st_1_m1 H.1]; first | done | rfl | omega)) rfl rfl ?_
      try simp (disch := omega) only [up2_ne, up2_eq, e, e11, e12, e13, H.a4, H.az, H.r3, H.rz, H.a0, H.a1, H.a2, H.a3, H.as, H.a5, H.a9, g1, hnk, st_1_m1 hS, st_1_m1 H.1]
      refine wp_iret dX11_told_93 rfl ?_
      refine Q_eq hQ ?_ rfl
      congr 1
      repeat (first | rfl | rw [if_pos (by omega)] | rw [if_neg (by omega)])
      all_goals (repeat' split)
      all_goals omega
    · refine wp_tabIn (off := 80) (tgt := 94) (by first | assumption | exact bI_in _ | exact ⟨by omega, by omega⟩ | exact iAnd_in | exact iOr_in | exact iShr_in | exact iShl_in | exact iXor_in | exact hxs _) dX11_told_14 (by omega) (by omega) (by rw [c2x]; rfl) (by decide) ?_
      refine wp_aload_n rfl rfl dX11_told_94 ?_
      refine wp_getfield1 (z := 1) (kI := 0) fX11_204 dX11_told_95 (by first | omega | (simp (disch := omega) only [up2_ne, up2_eq, e, e11, e12, e13, H.a4, H.az, H.r3, H.rz, H.a0, H.a1, H.a2, H.a3, H.as, H.a5, H.a9, g1, hnk, st_1_m1 hS, st_1_m1 H.1]; first | done | omega)) (by first | assumption | (simp (disch := omega) only [up2_ne, up2_eq, e, e11, e12, e13, H.a4, H.az, H.r3, H.rz, H.a0, H.a1, H.a2, H.a3, H.as, H.a5, H.a9, g1, hnk, st_1_m1 hS, st_1_m1 H.1]; first | done | rfl | omega)) rfl rfl ?_
      try simp (disch := omega) only [up2_ne, up2_eq, e, e11, e12, e13, H.a4, H.az, H.r3, H.rz, H.a0, H.a1, H.a2, H.a3, H.as, H.a5, H.a9, g1, hnk, st_1_m1 hS, st_1_m1 H.1]
      refine wp_cS1 okX11_needOf wX11_220 dX11_told_98 rfl (Nat.le_of_ble_eq_true rfl) (Nat.le_of_ble_eq_true rfl) (s_X11_needOf ⟨by omega, by omega⟩) (Nat.zero_le _) ?_
      try simp (disch := omega) only [up2_ne, up2_eq, e, e11, e12, e13, H.a4, H.az, H.r3, H.rz, H.a0, H.a1, H.a2, H.a3, H.as, H.a5, H.a9, g1, hnk, st_1_m1 hS, st_1_m1 H.1]
      refine wp_iret dX11_told_101 rfl ?_
      refine Q_eq hQ ?_ rfl
      congr 1
      repeat (first | rfl | rw [if_pos (by omega)] | rw [if_neg (by omega)])
      all_goals (repeat' split)
      all_goals omega
    · refine wp_tabIn (off := 88) (tgt := 102) (by first | assumption | exact bI_in _ | exact ⟨by omega, by omega⟩ | exact iAnd_in | exact iOr_in | exact iShr_in | exact iShl_in | exact iXor_in | exact hxs _) dX11_told_14 (by omega) (by omega) (by rw [c2x]; rfl) (by decide) ?_
      refine wp_aload_n rfl rfl dX11_told_102 ?_
      refine wp_getfield1 (z := 1) (kI := 9) fX11_223 dX11_told_103 (by first | omega | (simp (disch := omega) only [up2_ne, up2_eq, e, e11, e12, e13, H.a4, H.az, H.r3, H.rz, H.a0, H.a1, H.a2, H.a3, H.as, H.a5, H.a9, g1, hnk, st_1_m1 hS, st_1_m1 H.1]; first | done | omega)) (by first | assumption | (simp (disch := omega) only [up2_ne, up2_eq, e, e11, e12, e13, H.a4, H.az, H.r3, H.rz, H.a0, H.a1, H.a2, H.a3, H.as, H.a5, H.a9, g1, hnk, st_1_m1 hS, st_1_m1 H.1]; first | done | rfl | omega)) rfl rfl ?_
      try simp (disch := omega) only [up2_ne, up2_eq, e, e11, e12, e13, H.a4, H.az, H.r3, H.rz, H.a0, H.a1, H.a2, H.a3, H.as, H.a5, H.a9, g1, hnk, st_1_m1 hS, st_1_m1 H.1]
      refine wp_iret dX11_told_106 rfl ?_
      refine Q_eq hQ ?_ rfl
      congr 1
      repeat (first | rfl | rw [if_pos (by omega)] | rw [if_neg (by omega)])
      all_goals (repeat' split)
      all_goals omega
    · refine wp_tabIn (off := 93) (tgt := 107) (by first | assumption | exact bI_in _ | exact ⟨by omega, by omega⟩ | exact iAnd_in | exact iOr_in | exact iShr_in | exact iShl_in | exact iXor_in | exact hxs _) dX11_told_14 (by omega) (by omega) (by rw [c2x]; rfl) (by decide) ?_
      refine wp_aload_n rfl rfl dX11_told_107 ?_
      refine wp_aload_n rfl rfl dX11_told_108 ?_
      refine wp_cV1 (ci := 11) okX11_marksThatCount rfl rfl wX11_226 dX11_told_109 rfl (Nat.le_of_ble_eq_true rfl) (Nat.le_of_ble_eq_true rfl) (by first | omega | (simp (disch := omega) only [up2_ne, up2_eq, e, e11, e12, e13, H.a4, H.az, H.r3, H.rz, H.a0, H.a1, H.a2, H.a3, H.as, H.a5, H.a9, g1, hnk, st_1_m1 hS, st_1_m1 H.1]; first | done | omega)) (by first | assumption | (simp (disch := omega) only [up2_ne, up2_eq, e, e11, e12, e13, H.a4, H.az, H.r3, H.rz, H.a0, H.a1, H.a2, H.a3, H.as, H.a5, H.a9, g1, hnk, st_1_m1 hS, st_1_m1 H.1]; first | done | rfl | omega)) (s_X11_marksThatCount H e hS a0 a1) (Nat.zero_le _) ?_
      try simp (disch := omega) only [up2_ne, up2_eq, e, e11, e12, e13, H.a4, H.az, H.r3, H.rz, H.a0, H.a1, H.a2, H.a3, H.as, H.a5, H.a9, g1, hnk, st_1_m1 hS, st_1_m1 H.1]
      refine wp_iret dX11_told_112 rfl ?_
      refine Q_eq hQ ?_ rfl
      congr 1
      repeat (first | rfl | rw [if_pos (by omega)] | rw [if_neg (by omega)])
      all_goals (repeat' split)
      all_goals omega
theorem told_g {u : gT} {j : Nat} {h m : mH} {d b : Nat} (H : Inv j m) (e : Cl h m) (hS : St h) {a : Int} (a0 : 0 ≤ a) (a1 : a < m 200 10) {what : Int} (iw : InI what) (g1 : m (120 + a) 11 = 160 + a) (g2 : m (160 + a) (-1) = 4) : Det (gX (gq u)) MX11_told (d + 4) b [(2, 1), (0, a), (0, what)] h (0, if what = 0 then m 211 a else if what = 1 then m 212 a else if what = 2 then m 213 a else if what = 3 then m 214 a else if what = 4 then m 215 a else if what = 5 then m 216 a else if what = 6 then needM (m 211 a) else if what = 7 then m 218 a else if what = 8 then tA m w1 a else if what = 9 then m 221 a else if what = 10 then m 225 a else if what = 11 then m 226 a else if what = 12 then m 227 a else -2) h := by
  intro Q hQ
  have hn := H.ns
  have e12 := H.n12
  have e13 := H.n13
  have e11 := H.n11
  have hg := H.gr a0 a1
  have hr := H.ra a0 (by omega)
  have hnk := needKM hr.1.1 hr.1.2
  show WP (gX (gq u)) MX11_told (d + 4) b Q 0 [(2, 1), (0, a), (0, what), (9, 0)] [] h
  refine wp_aload_n rfl rfl dX11_told_0 ?_
  refine wp_iload_n rfl rfl dX11_told_1 ?_
  refine wp_cV1 (ci := 11) okX11_findAsking rfl rfl wX11_200 dX11_told_2 rfl (Nat.le_of_ble_eq_true rfl) (Nat.le_of_ble_eq_true rfl) (by first | omega | (simp (disch := omega) only [up2_ne, up2_eq, e, e11, e12, e13, H.a4, H.az, H.r3, H.rz, H.a0, H.a1, H.a2, H.a3, H.as, H.a5, H.a9, g1, hnk, st_1_m1 hS, st_1_m1 H.1]; first | done | omega)) (by first | assumption | (simp (disch := omega) only [up2_ne, up2_eq, e, e11, e12, e13, H.a4, H.az, H.r3, H.rz, H.a0, H.a1, H.a2, H.a3, H.as, H.a5, H.a9, g1, hnk, st_1_m1 hS, st_1_m1 H.1]; first | done | rfl | omega)) (ndA_t H e hS a0 a1) (Nat.zero_le _) ?_
  try simp (disch := omega) only [up2_ne, up2_eq, e, e11, e12, e13, H.a4, H.az, H.r3, H.rz, H.a0, H.a1, H.a2, H.a3, H.as, H.a5, H.a9, g1, hnk, st_1_m1 hS, st_1_m1 H.1]
  refine wp_astore_n rfl dX11_told_5 rfl (Nat.le_of_ble_eq_true rfl) rfl ?_
  try simp only [List.set_cons_zero, List.set_cons_succ]
  refine wp_aload_n rfl rfl dX11_told_6 ?_
  refine wp_ifnonnull (tgt := 13) dX11_told_7 (by decide) (fun hx => ?_) (fun hx => absurd hx (by omega))
  refine wp_iload_n rfl rfl dX11_told_13 ?_
  by_cases c2 : what < 0 ∨ 8 < what
  · refine wp_tabOut (tgt := 113) (by first | assumption | exact bI_in _ | exact ⟨by omega, by omega⟩ | exact iAnd_in | exact iOr_in | exact iShr_in | exact iShl_in | exact iXor_in | exact hxs _) dX11_told_14 c2 (by decide) ?_
    refine wp_aload_n rfl rfl dX11_told_113 ?_
    refine wp_getfield1 (z := 1) (kI := 11) fX11_230 dX11_told_114 (by first | omega | (simp (disch := omega) only [up2_ne, up2_eq, e, e11, e12, e13, H.a4, H.az, H.r3, H.rz, H.a0, H.a1, H.a2, H.a3, H.as, H.a5, H.a9, g1, hnk, st_1_m1 hS, st_1_m1 H.1]; first | done | omega)) (by first | assumption | (simp (disch := omega) only [up2_ne, up2_eq, e, e11, e12, e13, H.a4, H.az, H.r3, H.rz, H.a0, H.a1, H.a2, H.a3, H.as, H.a5, H.a9, g1, hnk, st_1_m1 hS, st_1_m1 H.1]; first | done | rfl | omega)) rfl rfl ?_
    try simp (disch := omega) only [up2_ne, up2_eq, e, e11, e12, e13, H.a4, H.az, H.r3, H.rz, H.a0, H.a1, H.a2, H.a3, H.as, H.a5, H.a9, g1, hnk, st_1_m1 hS, st_1_m1 H.1]
    refine wp_iload_n rfl rfl dX11_told_117 ?_
    refine wp_cS2 okX11_grantTold wX11_234 dX11_told_118 rfl (Nat.le_of_ble_eq_true rfl) (Nat.le_of_ble_eq_true rfl) (gTold_g iw (by omega) (by rw [e _ _ (by omega)]; exact g2)) (Nat.zero_le _) ?_
    try simp (disch := omega) only [up2_ne, up2_eq, e, e11, e12, e13, H.a4, H.az, H.r3, H.rz, H.a0, H.a1, H.a2, H.a3, H.as, H.a5, H.a9, g1, hnk, st_1_m1 hS, st_1_m1 H.1]
    refine wp_iret dX11_told_121 rfl ?_
    refine Q_eq hQ ?_ rfl
    congr 1
    repeat (first | rfl | rw [if_pos (by omega)] | rw [if_neg (by omega)])
    all_goals (repeat' split)
    all_goals omega
  · rcases (show what = 0 ∨ what = 1 ∨ what = 2 ∨ what = 3 ∨ what = 4 ∨ what = 5 ∨ what = 6 ∨ what = 7 ∨ what = 8 by omega) with c2x | c2x | c2x | c2x | c2x | c2x | c2x | c2x | c2x
    · refine wp_tabIn (off := 50) (tgt := 64) (by first | assumption | exact bI_in _ | exact ⟨by omega, by omega⟩ | exact iAnd_in | exact iOr_in | exact iShr_in | exact iShl_in | exact iXor_in | exact hxs _) dX11_told_14 (by omega) (by omega) (by rw [c2x]; rfl) (by decide) ?_
      refine wp_aload_n rfl rfl dX11_told_64 ?_
      refine wp_getfield1 (z := 1) (kI := 0) fX11_204 dX11_told_65 (by first | omega | (simp (disch := omega) only [up2_ne, up2_eq, e, e11, e12, e13, H.a4, H.az, H.r3, H.rz, H.a0, H.a1, H.a2, H.a3, H.as, H.a5, H.a9, g1, hnk, st_1_m1 hS, st_1_m1 H.1]; first | done | omega)) (by first | assumption | (simp (disch := omega) only [up2_ne, up2_eq, e, e11, e12, e13, H.a4, H.az, H.r3, H.rz, H.a0, H.a1, H.a2, H.a3, H.as, H.a5, H.a9, g1, hnk, st_1_m1 hS, st_1_m1 H.1]; first | done | rfl | omega)) rfl rfl ?_
      try simp (disch := omega) only [up2_ne, up2_eq, e, e11, e12, e13, H.a4, H.az, H.r3, H.rz, H.a0, H.a1, H.a2, H.a3, H.as, H.a5, H.a9, g1, hnk, st_1_m1 hS, st_1_m1 H.1]
      refine wp_iret dX11_told_68 rfl ?_
      refine Q_eq hQ ?_ rfl
      congr 1
      repeat (first | rfl | rw [if_pos (by omega)] | rw [if_neg (by omega)])
      all_goals (repeat' split)
      all_goals omega
    · refine wp_tabIn (off := 55) (tgt := 69) (by first | assumption | exact bI_in _ | exact ⟨by omega, by omega⟩ | exact iAnd_in | exact iOr_in | exact iShr_in | exact iShl_in | exact iXor_in | exact hxs _) dX11_told_14 (by omega) (by omega) (by rw [c2x]; rfl) (by decide) ?_
      refine wp_aload_n rfl rfl dX11_told_69 ?_
      refine wp_getfield1 (z := 1) (kI := 1) fX11_207 dX11_told_70 (by first | omega | (simp (disch := omega) only [up2_ne, up2_eq, e, e11, e12, e13, H.a4, H.az, H.r3, H.rz, H.a0, H.a1, H.a2, H.a3, H.as, H.a5, H.a9, g1, hnk, st_1_m1 hS, st_1_m1 H.1]; first | done | omega)) (by first | assumption | (simp (disch := omega) only [up2_ne, up2_eq, e, e11, e12, e13, H.a4, H.az, H.r3, H.rz, H.a0, H.a1, H.a2, H.a3, H.as, H.a5, H.a9, g1, hnk, st_1_m1 hS, st_1_m1 H.1]; first | done | rfl | omega)) rfl rfl ?_
      try simp (disch := omega) only [up2_ne, up2_eq, e, e11, e12, e13, H.a4, H.az, H.r3, H.rz, H.a0, H.a1, H.a2, H.a3, H.as, H.a5, H.a9, g1, hnk, st_1_m1 hS, st_1_m1 H.1]
      refine wp_iret dX11_told_73 rfl ?_
      refine Q_eq hQ ?_ rfl
      congr 1
      repeat (first | rfl | rw [if_pos (by omega)] | rw [if_neg (by omega)])
      all_goals (repeat' split)
      all_goals omega
    · refine wp_tabIn (off := 60) (tgt := 74) (by first | assumption | exact bI_in _ | exact ⟨by omega, by omega⟩ | exact iAnd_in | exact iOr_in | exact iShr_in | exact iShl_in | exact iXor_in | exact hxs _) dX11_told_14 (by omega) (by omega) (by rw [c2x]; rfl) (by decide) ?_
      refine wp_aload_n rfl rfl dX11_told_74 ?_
      refine wp_getfield1 (z := 1) (kI := 2) fX11_208 dX11_told_75 (by first | omega | (simp (disch := omega) only [up2_ne, up2_eq, e, e11, e12, e13, H.a4, H.az, H.r3, H.rz, H.a0, H.a1, H.a2, H.a3, H.as, H.a5, H.a9, g1, hnk, st_1_m1 hS, st_1_m1 H.1]; first | done | omega)) (by first | assumption | (simp (disch := omega) only [up2_ne, up2_eq, e, e11, e12, e13, H.a4, H.az, H.r3, H.rz, H.a0, H.a1, H.a2, H.a3, H.as, H.a5, H.a9, g1, hnk, st_1_m1 hS, st_1_m1 H.1]; first | done | rfl | omega)) rfl rfl ?_
      try simp (disch := omega) only [up2_ne, up2_eq, e, e11, e12, e13, H.a4, H.az, H.r3, H.rz, H.a0, H.a1, H.a2, H.a3, H.as, H.a5, H.a9, g1, hnk, st_1_m1 hS, st_1_m1 H.1]
      refine wp_iret dX11_told_78 rfl ?_
      refine Q_eq hQ ?_ rfl
      congr 1
      repeat (first | rfl | rw [if_pos (by omega)] | rw [if_neg (by omega)])
      all_goals (repeat' split)
      all_goals omega
    · refine wp_tabIn (off := 65) (tgt := 79) (by first | assumption | exact bI_in _ | exact ⟨by omega, by omega⟩ | exact iAnd_in | exact iOr_in | exact iShr_in | exact iShl_in | exact iXor_in | exact hxs _) dX11_told_14 (by omega) (by omega) (by rw [c2x]; rfl) (by decide) ?_
      refine wp_aload_n rfl rfl dX11_told_79 ?_
      refine wp_getfield1 (z := 1) (kI := 3) fX11_211 dX11_told_80 (by first | omega | (simp (disch := omega) only [up2_ne, up2_eq, e, e11, e12, e13, H.a4, H.az, H.r3, H.rz, H.a0, H.a1, H.a2, H.a3, H.as, H.a5, H.a9, g1, hnk, st_1_m1 hS, st_1_m1 H.1]; first | done | omega)) (by first | assumption | (simp (disch := omega) only [up2_ne, up2_eq, e, e11, e12, e13, H.a4, H.az, H.r3, H.rz, H.a0, H.a1, H.a2, H.a3, H.as, H.a5, H.a9, g1, hnk, st_1_m1 hS, st_1_m1 H.1]; first | done | rfl | omega)) rfl rfl ?_
      try simp (disch := omega) only [up2_ne, up2_eq, e, e11, e12, e13, H.a4, H.az, H.r3, H.rz, H.a0, H.a1, H.a2, H.a3, H.as, H.a5, H.a9, g1, hnk, st_1_m1 hS, st_1_m1 H.1]
      refine wp_iret dX11_told_83 rfl ?_
      refine Q_eq hQ ?_ rfl
      congr 1
      repeat (first | rfl | rw [if_pos (by omega)] | rw [if_neg (by omega)])
      all_goals (repeat' split)
      all_goals omega
    · refine wp_tabIn (off := 70) (tgt := 84) (by first | assumption | exact bI_in _ | exact ⟨by omega, by omega⟩ | exact iAnd_in | exact iOr_in | exact iShr_in | exact iShl_in | exact iXor_in | exact hxs _) dX11_told_14 (by omega) (by omega) (by rw [c2x]; rfl) (by decide) ?_
      refine wp_aload_n rfl rfl dX11_told_84 ?_
      refine wp_getfield1 (z := 1) (kI := 4) fX11_214 dX11_told_85 (by first | omega | (simp (disch := omega) only [up2_ne, up2_eq, e, e11, e12, e13, H.a4, H.az, H.r3, H.rz, H.a0, H.a1, H.a2, H.a3, H.as, H.a5, H.a9, g1, hnk, st_1_m1 hS, st_1_m1 H.1]; first | done | omega)) (by first | assumption | (simp (disch := omega) only [up2_ne, up2_eq, e, e11, e12, e13, H.a4, H.az, H.r3, H.rz, H.a0, H.a1, H.a2, H.a3, H.as, H.a5, H.a9, g1, hnk, st_1_m1 hS, st_1_m1 H.1]; first | done | rfl | omega)) rfl rfl ?_
      try simp (disch := omega) only [up2_ne, up2_eq, e, e11, e12, e13, H.a4, H.az, H.r3, H.rz, H.a0, H.a1, H.a2, H.a3, H.as, H.a5, H.a9, g1, hnk, st_1_m1 hS, st_1_m1 H.1]
      refine wp_iret dX11_told_88 rfl ?_
      refine Q_eq hQ ?_ rfl
      congr 1
      repeat (first | rfl | rw [if_pos (by omega)] | rw [if_neg (by omega)])
      all_goals (repeat' split)
      all_goals omega
    · refine wp_tabIn (off := 75) (tgt := 89) (by first | assumption | exact bI_in _ | exact ⟨by omega, by omega⟩ | exact iAnd_in | exact iOr_in | exact iShr_in | exact iShl_in | exact iXor_in | exact hxs _) dX11_told_14 (by omega) (by omega) (by rw [c2x]; rfl) (by decide) ?_
      refine wp_aload_n rfl rfl dX11_told_89 ?_
      refine wp_getfield1 (z := 1) (kI := 5) fX11_217 dX11_told_90 (by first | omega | (simp (disch := omega) only [up2_ne, up2_eq, e, e11, e12, e13, H.a4, H.az, H.r3, H.rz, H.a0, H.a1, H.a2, H.a3, H.as, H.a5, H.a9, g1, hnk, st_1_m1 hS, st_1_m1 H.1]; first | done | omega)) (by first | assumption | (simp (disch := omega) only [up2_ne, up2_eq, e, e11, e12, e13, H.a4, H.az, H.r3, H.rz, H.a0, H.a1, H.a2, H.a3, H.as, H.a5, H.a9, g1, hnk, st_1_m1 hS, st_1_m1 H.1]; first | done | rfl | omega)) rfl rfl ?_
      try simp (disch := omega) only [up2_ne, up2_eq, e, e11, e12, e13, H.a4, H.az, H.r3, H.rz, H.a0, H.a1, H.a2, H.a3, H.as, H.a5, H.a9, g1, hnk, st_1_m1 hS, st_1_m1 H.1]
      refine wp_iret dX11_told_93 rfl ?_
      refine Q_eq hQ ?_ rfl
      congr 1
      repeat (first | rfl | rw [if_pos (by omega)] | rw [if_neg (by omega)])
      all_goals (repeat' split)
      all_goals omega
    · refine wp_tabIn (off := 80) (tgt := 94) (by first | assumption | exact bI_in _ | exact ⟨by omega, by omega⟩ | exact iAnd_in | exact iOr_in | exact iShr_in | exact iShl_in | exact iXor_in | exact hxs _) dX11_told_14 (by omega) (by omega) (by rw [c2x]; rfl) (by decide) ?_
      refine wp_aload_n rfl rfl dX11_told_94 ?_
      refine wp_getfield1 (z := 1) (kI := 0) fX11_204 dX11_told_95 (by first | omega | (simp (disch := omega) only [up2_ne, up2_eq, e, e11, e12, e13, H.a4, H.az, H.r3, H.rz, H.a0, H.a1, H.a2, H.a3, H.as, H.a5, H.a9, g1, hnk, st_1_m1 hS, st_1_m1 H.1]; first | done | omega)) (by first | assumption | (simp (disch := omega) only [up2_ne, up2_eq, e, e11, e12, e13, H.a4, H.az, H.r3, H.rz, H.a0, H.a1, H.a2, H.a3, H.as, H.a5, H.a9, g1, hnk, st_1_m1 hS, st_1_m1 H.1]; first | done | rfl | omega)) rfl rfl ?_
      try simp (disch := omega) only [up2_ne, up2_eq, e, e11, e12, e13, H.a4, H.az, H.r3, H.rz, H.a0, H.a1, H.a2, H.a3, H.as, H.a5, H.a9, g1, hnk, st_1_m1 hS, st_1_m1 H.1]
      refine wp_cS1 okX11_needOf wX11_220 dX11_told_98 rfl (Nat.le_of_ble_eq_true rfl) (Nat.le_of_ble_eq_true rfl) (s_X11_needOf ⟨by omega, by omega⟩) (Nat.zero_le _) ?_
      try simp (disch := omega) only [up2_ne, up2_eq, e, e11, e12, e13, H.a4, H.az, H.r3, H.rz, H.a0, H.a1, H.a2, H.a3, H.as, H.a5, H.a9, g1, hnk, st_1_m1 hS, st_1_m1 H.1]
      refine wp_iret dX11_told_101 rfl ?_
      refine Q_eq hQ ?_ rfl
      congr 1
      repeat (first | rfl | rw [if_pos (by omega)] | rw [if_neg (by omega)])
      all_goals (repeat' split)
      all_goals omega
    · refine wp_tabIn (off := 88) (tgt := 102) (by first | assumption | exact bI_in _ | exact ⟨by omega, by omega⟩ | exact iAnd_in | exact iOr_in | exact iShr_in | exact iShl_in | exact iXor_in | exact hxs _) dX11_told_14 (by omega) (by omega) (by rw [c2x]; rfl) (by decide) ?_
      refine wp_aload_n rfl rfl dX11_told_102 ?_
      refine wp_getfield1 (z := 1) (kI := 9) fX11_223 dX11_told_103 (by first | omega | (simp (disch := omega) only [up2_ne, up2_eq, e, e11, e12, e13, H.a4, H.az, H.r3, H.rz, H.a0, H.a1, H.a2, H.a3, H.as, H.a5, H.a9, g1, hnk, st_1_m1 hS, st_1_m1 H.1]; first | done | omega)) (by first | assumption | (simp (disch := omega) only [up2_ne, up2_eq, e, e11, e12, e13, H.a4, H.az, H.r3, H.rz, H.a0, H.a1, H.a2, H.a3, H.as, H.a5, H.a9, g1, hnk, st_1_m1 hS, st_1_m1 H.1]; first | done | rfl | omega)) rfl rfl ?_
      try simp (disch := omega) only [up2_ne, up2_eq, e, e11, e12, e13, H.a4, H.az, H.r3, H.rz, H.a0, H.a1, H.a2, H.a3, H.as, H.a5, H.a9, g1, hnk, st_1_m1 hS, st_1_m1 H.1]
      refine wp_iret dX11_told_106 rfl ?_
      refine Q_eq hQ ?_ rfl
      congr 1
      repeat (first | rfl | rw [if_pos (by omega)] | rw [if_neg (by omega)])
      all_goals (repeat' split)
      all_goals omega
    · refine wp_tabIn (off := 93) (tgt := 107) (by first | assumption | exact bI_in _ | exact ⟨by omega, by omega⟩ | exact iAnd_in | exact iOr_in | exact iShr_in | exact iShl_in | exact iXor_in | exact hxs _) dX11_told_14 (by omega) (by omega) (by rw [c2x]; rfl) (by decide) ?_
      refine wp_aload_n rfl rfl dX11_told_107 ?_
      refine wp_aload_n rfl rfl dX11_told_108 ?_
      refine wp_cV1 (ci := 11) okX11_marksThatCount rfl rfl wX11_226 dX11_told_109 rfl (Nat.le_of_ble_eq_true rfl) (Nat.le_of_ble_eq_true rfl) (by first | omega | (simp (disch := omega) only [up2_ne, up2_eq, e, e11, e12, e13, H.a4, H.az, H.r3, H.rz, H.a0, H.a1, H.a2, H.a3, H.as, H.a5, H.a9, g1, hnk, st_1_m1 hS, st_1_m1 H.1]; first | done | omega)) (by first | assumption | (simp (disch := omega) only [up2_ne, up2_eq, e, e11, e12, e13, H.a4, H.az, H.r3, H.rz, H.a0, H.a1, H.a2, H.a3, H.as, H.a5, H.a9, g1, hnk, st_1_m1 hS, st_1_m1 H.1]; first | done | rfl | omega)) (s_X11_marksThatCount H e hS a0 a1) (Nat.zero_le _) ?_
      try simp (disch := omega) only [up2_ne, up2_eq, e, e11, e12, e13, H.a4, H.az, H.r3, H.rz, H.a0, H.a1, H.a2, H.a3, H.as, H.a5, H.a9, g1, hnk, st_1_m1 hS, st_1_m1 H.1]
      refine wp_iret dX11_told_112 rfl ?_
      refine Q_eq hQ ?_ rfl
      congr 1
      repeat (first | rfl | rw [if_pos (by omega)] | rw [if_neg (by omega)])
      all_goals (repeat' split)
      all_goals omega
theorem told_f {u : gT} {j : Nat} {h m : mH} {d b : Nat} (H : Inv j m) (e : Cl h m) (hS : St h) {a what : Int} (ia : InI a) (q : ¬ (0 ≤ a ∧ a < m 200 10)) (iw : InI what) : Det (gX (gq u)) MX11_told (d + 4) b [(2, 1), (0, a), (0, what)] h (0, -2) h := by
  intro Q hQ
  have hn := H.ns
  have e12 := H.n12
  have e13 := H.n13
  have e11 := H.n11
  show WP (gX (gq u)) MX11_told (d + 4) b Q 0 [(2, 1), (0, a), (0, what), (9, 0)] [] h
  refine wp_aload_n rfl rfl dX11_told_0 ?_
  refine wp_iload_n rfl rfl dX11_told_1 ?_
  refine wp_cV1 (ci := 11) okX11_findAsking rfl rfl wX11_200 dX11_told_2 rfl (Nat.le_of_ble_eq_true rfl) (Nat.le_of_ble_eq_true rfl) (by first | omega | (simp (disch := omega) only [up2_ne, up2_eq, e, e11, e12, e13, H.a4, H.az, H.r3, H.rz, H.a0, H.a1, H.a2, H.a3, H.as, H.a5, H.a9, st_1_m1 hS, st_1_m1 H.1]; first | done | omega)) (by first | assumption | (simp (disch := omega) only [up2_ne, up2_eq, e, e11, e12, e13, H.a4, H.az, H.r3, H.rz, H.a0, H.a1, H.a2, H.a3, H.as, H.a5, H.a9, st_1_m1 hS, st_1_m1 H.1]; first | done | rfl | omega)) (ndA_f H e hS ia q) (Nat.zero_le _) ?_
  try simp (disch := omega) only [up2_ne, up2_eq, e, e11, e12, e13, H.a4, H.az, H.r3, H.rz, H.a0, H.a1, H.a2, H.a3, H.as, H.a5, H.a9, st_1_m1 hS, st_1_m1 H.1]
  refine wp_astore_n rfl dX11_told_5 rfl (Nat.le_of_ble_eq_true rfl) rfl ?_
  try simp only [List.set_cons_zero, List.set_cons_succ]
  refine wp_aload_n rfl rfl dX11_told_6 ?_
  refine wp_ifnonnull (tgt := 13) dX11_told_7 (by decide) (fun hx => absurd rfl hx) (fun hx => ?_)
  refine wp_bipush (by decide) dX11_told_10 ?_
  refine wp_iret dX11_told_12 rfl ?_
  exact hQ
theorem s_X11_count {u : gT} {j : Nat} {h m : mH} {d b : Nat} (H : Inv j m) (e : Cl h m) (hS : St h) {what : Int} (iw : InI what) : Det (gX (gq u)) MX11_count (d + 5) b [(2, 1), (0, what)] h (0, if what = 0 then m 200 0 else if what = 1 then m 200 6 else if what = 2 then m 200 10 else if what = 3 then m 200 30 else if what = 4 then m 200 29 else if what = 5 then tT m w1 else if what = 6 then grs m else if what = 7 then m 200 31 else -2) h := by
  intro Q hQ
  have hn := H.ns
  have e12 := H.n12
  have e13 := H.n13
  have e11 := H.n11
  show WP (gX (gq u)) MX11_count (d + 5) b Q 0 [(2, 1), (0, what)] [] h
  refine wp_iload_n rfl rfl dX11_count_0 ?_
  by_cases c1 : what < 0 ∨ 7 < what
  · refine wp_tabOut (tgt := 91) (by first | assumption | exact bI_in _ | exact ⟨by omega, by omega⟩ | exact iAnd_in | exact iOr_in | exact iShr_in | exact iShl_in | exact iXor_in | exact hxs _) dX11_count_1 c1 (by decide) ?_
    refine wp_bipush (by decide) dX11_count_91 ?_
    refine wp_iret dX11_count_93 rfl ?_
    refine Q_eq hQ ?_ rfl
    congr 1
    repeat (first | rfl | rw [if_pos (by omega)] | rw [if_neg (by omega)])
  · rcases (show what = 0 ∨ what = 1 ∨ what = 2 ∨ what = 3 ∨ what = 4 ∨ what = 5 ∨ what = 6 ∨ what = 7 by omega) with c1x | c1x | c1x | c1x | c1x | c1x | c1x | c1x
    · refine wp_tabIn (off := 47) (tgt := 48) (by first | assumption | exact bI_in _ | exact ⟨by omega, by omega⟩ | exact iAnd_in | exact iOr_in | exact iShr_in | exact iShl_in | exact iXor_in | exact hxs _) dX11_count_1 (by omega) (by omega) (by rw [c1x]; rfl) (by decide) ?_
      refine wp_aload_n rfl rfl dX11_count_48 ?_
      refine wp_getfield1 (z := 12) (kI := 11) fX11_102 dX11_count_49 (by first | omega | (simp (disch := omega) only [up2_ne, up2_eq, e, e11, e12, e13, H.a4, H.az, H.r3, H.rz, H.n14, H.n15, H.n71, st_1_m1 hS, st_1_m1 H.1, st_1_5 hS, st_1_5 H.1, st_7_m1 hS, st_7_m1 H.1]; first | done | omega)) (by first | assumption | (simp (disch := omega) only [up2_ne, up2_eq, e, e11, e12, e13, H.a4, H.az, H.r3, H.rz, H.n14, H.n15, H.n71, st_1_m1 hS, st_1_m1 H.1, st_1_5 hS, st_1_5 H.1, st_7_m1 hS, st_7_m1 H.1]; first | done | rfl | omega)) rfl rfl ?_
      try simp (disch := omega) only [up2_ne, up2_eq, e, e11, e12, e13, H.a4, H.az, H.r3, H.rz, H.n14, H.n15, H.n71, st_1_m1 hS, st_1_m1 H.1, st_1_5 hS, st_1_5 H.1, st_7_m1 hS, st_7_m1 H.1]
      refine wp_iret dX11_count_52 rfl ?_
      refine Q_eq hQ ?_ rfl
      congr 1
      repeat (first | rfl | rw [if_pos (by omega)] | rw [if_neg (by omega)])
    · refine wp_tabIn (off := 52) (tgt := 53) (by first | assumption | exact bI_in _ | exact ⟨by omega, by omega⟩ | exact iAnd_in | exact iOr_in | exact iShr_in | exact iShl_in | exact iXor_in | exact hxs _) dX11_count_1 (by omega) (by omega) (by rw [c1x]; rfl) (by decide) ?_
      refine wp_aload_n rfl rfl dX11_count_53 ?_
      refine wp_getfield1 (z := 12) (kI := 12) fX11_132 dX11_count_54 (by first | omega | (simp (disch := omega) only [up2_ne, up2_eq, e, e11, e12, e13, H.a4, H.az, H.r3, H.rz, H.n14, H.n15, H.n71, st_1_m1 hS, st_1_m1 H.1, st_1_5 hS, st_1_5 H.1, st_7_m1 hS, st_7_m1 H.1]; first | done | omega)) (by first | assumption | (simp (disch := omega) only [up2_ne, up2_eq, e, e11, e12, e13, H.a4, H.az, H.r3, H.rz, H.n14, H.n15, H.n71, st_1_m1 hS, st_1_m1 H.1, st_1_5 hS, st_1_5 H.1, st_7_m1 hS, st_7_m1 H.1]; first | done | rfl | omega)) rfl rfl ?_
      try simp (disch := omega) only [up2_ne, up2_eq, e, e11, e12, e13, H.a4, H.az, H.r3, H.rz, H.n14, H.n15, H.n71, st_1_m1 hS, st_1_m1 H.1, st_1_5 hS, st_1_5 H.1, st_7_m1 hS, st_7_m1 H.1]
      refine wp_iret dX11_count_57 rfl ?_
      refine Q_eq hQ ?_ rfl
      congr 1
      repeat (first | rfl | rw [if_pos (by omega)] | rw [if_neg (by omega)])
    · refine wp_tabIn (off := 57) (tgt := 58) (by first | assumption | exact bI_in _ | exact ⟨by omega, by omega⟩ | exact iAnd_in | exact iOr_in | exact iShr_in | exact iShl_in | exact iXor_in | exact hxs _) dX11_count_1 (by omega) (by omega) (by rw [c1x]; rfl) (by decide) ?_
      refine wp_aload_n rfl rfl dX11_count_58 ?_
      refine wp_getfield1 (z := 12) (kI := 13) fX11_172 dX11_count_59 (by first | omega | (simp (disch := omega) only [up2_ne, up2_eq, e, e11, e12, e13, H.a4, H.az, H.r3, H.rz, H.n14, H.n15, H.n71, st_1_m1 hS, st_1_m1 H.1, st_1_5 hS, st_1_5 H.1, st_7_m1 hS, st_7_m1 H.1]; first | done | omega)) (by first | assumption | (simp (disch := omega) only [up2_ne, up2_eq, e, e11, e12, e13, H.a4, H.az, H.r3, H.rz, H.n14, H.n15, H.n71, st_1_m1 hS, st_1_m1 H.1, st_1_5 hS, st_1_5 H.1, st_7_m1 hS, st_7_m1 H.1]; first | done | rfl | omega)) rfl rfl ?_
      try simp (disch := omega) only [up2_ne, up2_eq, e, e11, e12, e13, H.a4, H.az, H.r3, H.rz, H.n14, H.n15, H.n71, st_1_m1 hS, st_1_m1 H.1, st_1_5 hS, st_1_5 H.1, st_7_m1 hS, st_7_m1 H.1]
      refine wp_iret dX11_count_62 rfl ?_
      refine Q_eq hQ ?_ rfl
      congr 1
      repeat (first | rfl | rw [if_pos (by omega)] | rw [if_neg (by omega)])
    · refine wp_tabIn (off := 62) (tgt := 63) (by first | assumption | exact bI_in _ | exact ⟨by omega, by omega⟩ | exact iAnd_in | exact iOr_in | exact iShr_in | exact iShl_in | exact iXor_in | exact hxs _) dX11_count_1 (by omega) (by omega) (by rw [c1x]; rfl) (by decide) ?_
      refine wp_aload_n rfl rfl dX11_count_63 ?_
      refine wp_getfield1 (z := 12) (kI := 14) fX11_82 dX11_count_64 (by first | omega | (simp (disch := omega) only [up2_ne, up2_eq, e, e11, e12, e13, H.a4, H.az, H.r3, H.rz, H.n14, H.n15, H.n71, st_1_m1 hS, st_1_m1 H.1, st_1_5 hS, st_1_5 H.1, st_7_m1 hS, st_7_m1 H.1]; first | done | omega)) (by first | assumption | (simp (disch := omega) only [up2_ne, up2_eq, e, e11, e12, e13, H.a4, H.az, H.r3, H.rz, H.n14, H.n15, H.n71, st_1_m1 hS, st_1_m1 H.1, st_1_5 hS, st_1_5 H.1, st_7_m1 hS, st_7_m1 H.1]; first | done | rfl | omega)) rfl rfl ?_
      try simp (disch := omega) only [up2_ne, up2_eq, e, e11, e12, e13, H.a4, H.az, H.r3, H.rz, H.n14, H.n15, H.n71, st_1_m1 hS, st_1_m1 H.1, st_1_5 hS, st_1_5 H.1, st_7_m1 hS, st_7_m1 H.1]
      refine wp_iret dX11_count_67 rfl ?_
      refine Q_eq hQ ?_ rfl
      congr 1
      repeat (first | rfl | rw [if_pos (by omega)] | rw [if_neg (by omega)])
    · refine wp_tabIn (off := 67) (tgt := 68) (by first | assumption | exact bI_in _ | exact ⟨by omega, by omega⟩ | exact iAnd_in | exact iOr_in | exact iShr_in | exact iShl_in | exact iXor_in | exact hxs _) dX11_count_1 (by omega) (by omega) (by rw [c1x]; rfl) (by decide) ?_
      refine wp_aload_n rfl rfl dX11_count_68 ?_
      refine wp_getfield1 (z := 12) (kI := 5) fX11_42 dX11_count_69 (by first | omega | (simp (disch := omega) only [up2_ne, up2_eq, e, e11, e12, e13, H.a4, H.az, H.r3, H.rz, H.n14, H.n15, H.n71, st_1_m1 hS, st_1_m1 H.1, st_1_5 hS, st_1_5 H.1, st_7_m1 hS, st_7_m1 H.1]; first | done | omega)) (by first | assumption | (simp (disch := omega) only [up2_ne, up2_eq, e, e11, e12, e13, H.a4, H.az, H.r3, H.rz, H.n14, H.n15, H.n71, st_1_m1 hS, st_1_m1 H.1, st_1_5 hS, st_1_5 H.1, st_7_m1 hS, st_7_m1 H.1]; first | done | rfl | omega)) rfl rfl ?_
      try simp (disch := omega) only [up2_ne, up2_eq, e, e11, e12, e13, H.a4, H.az, H.r3, H.rz, H.n14, H.n15, H.n71, st_1_m1 hS, st_1_m1 H.1, st_1_5 hS, st_1_5 H.1, st_7_m1 hS, st_7_m1 H.1]
      refine wp_getfield1 (z := 10) (kI := 1) fX11_248 dX11_count_72 (by first | omega | (simp (disch := omega) only [up2_ne, up2_eq, e, e11, e12, e13, H.a4, H.az, H.r3, H.rz, H.n14, H.n15, H.n71, st_1_m1 hS, st_1_m1 H.1, st_1_5 hS, st_1_5 H.1, st_7_m1 hS, st_7_m1 H.1]; first | done | omega)) (by first | assumption | (simp (disch := omega) only [up2_ne, up2_eq, e, e11, e12, e13, H.a4, H.az, H.r3, H.rz, H.n14, H.n15, H.n71, st_1_m1 hS, st_1_m1 H.1, st_1_5 hS, st_1_5 H.1, st_7_m1 hS, st_7_m1 H.1]; first | done | rfl | omega)) rfl rfl ?_
      try simp (disch := omega) only [up2_ne, up2_eq, e, e11, e12, e13, H.a4, H.az, H.r3, H.rz, H.n14, H.n15, H.n71, st_1_m1 hS, st_1_m1 H.1, st_1_5 hS, st_1_5 H.1, st_7_m1 hS, st_7_m1 H.1]
      refine wp_iret dX11_count_75 rfl ?_
      refine Q_eq hQ ?_ rfl
      congr 1
      repeat (first | rfl | rw [if_pos (by omega)] | rw [if_neg (by omega)])
    · refine wp_tabIn (off := 75) (tgt := 76) (by first | assumption | exact bI_in _ | exact ⟨by omega, by omega⟩ | exact iAnd_in | exact iOr_in | exact iShr_in | exact iShl_in | exact iXor_in | exact hxs _) dX11_count_1 (by omega) (by omega) (by rw [c1x]; rfl) (by decide) ?_
      refine wp_aload_n rfl rfl dX11_count_76 ?_
      refine wp_cV0 (ci := 11) okX11_allMarksThatCount rfl rfl wX11_359 dX11_count_77 rfl (Nat.le_of_ble_eq_true rfl) (Nat.le_of_ble_eq_true rfl) (by first | omega | (simp (disch := omega) only [up2_ne, up2_eq, e, e11, e12, e13, H.a4, H.az, H.r3, H.rz, H.n14, H.n15, H.n71, st_1_m1 hS, st_1_m1 H.1, st_1_5 hS, st_1_5 H.1, st_7_m1 hS, st_7_m1 H.1]; first | done | omega)) (by first | assumption | (simp (disch := omega) only [up2_ne, up2_eq, e, e11, e12, e13, H.a4, H.az, H.r3, H.rz, H.n14, H.n15, H.n71, st_1_m1 hS, st_1_m1 H.1, st_1_5 hS, st_1_5 H.1, st_7_m1 hS, st_7_m1 H.1]; first | done | rfl | omega)) (s_X11_allMarksThatCount H e hS) (Nat.zero_le _) ?_
      try simp (disch := omega) only [up2_ne, up2_eq, e, e11, e12, e13, H.a4, H.az, H.r3, H.rz, H.n14, H.n15, H.n71, st_1_m1 hS, st_1_m1 H.1, st_1_5 hS, st_1_5 H.1, st_7_m1 hS, st_7_m1 H.1]
      refine wp_iret dX11_count_80 rfl ?_
      refine Q_eq hQ ?_ rfl
      congr 1
      repeat (first | rfl | rw [if_pos (by omega)] | rw [if_neg (by omega)])
    · refine wp_tabIn (off := 80) (tgt := 81) (by first | assumption | exact bI_in _ | exact ⟨by omega, by omega⟩ | exact iAnd_in | exact iOr_in | exact iShr_in | exact iShl_in | exact iXor_in | exact hxs _) dX11_count_1 (by omega) (by omega) (by rw [c1x]; rfl) (by decide) ?_
      refine wp_aload_n rfl rfl dX11_count_81 ?_
      refine wp_cV0 (ci := 11) okX11_allGrants rfl rfl wX11_362 dX11_count_82 rfl (Nat.le_of_ble_eq_true rfl) (Nat.le_of_ble_eq_true rfl) (by first | omega | (simp (disch := omega) only [up2_ne, up2_eq, e, e11, e12, e13, H.a4, H.az, H.r3, H.rz, H.n14, H.n15, H.n71, st_1_m1 hS, st_1_m1 H.1, st_1_5 hS, st_1_5 H.1, st_7_m1 hS, st_7_m1 H.1]; first | done | omega)) (by first | assumption | (simp (disch := omega) only [up2_ne, up2_eq, e, e11, e12, e13, H.a4, H.az, H.r3, H.rz, H.n14, H.n15, H.n71, st_1_m1 hS, st_1_m1 H.1, st_1_5 hS, st_1_5 H.1, st_7_m1 hS, st_7_m1 H.1]; first | done | rfl | omega)) (s_X11_allGrants H e hS) (Nat.zero_le _) ?_
      try simp (disch := omega) only [up2_ne, up2_eq, e, e11, e12, e13, H.a4, H.az, H.r3, H.rz, H.n14, H.n15, H.n71, st_1_m1 hS, st_1_m1 H.1, st_1_5 hS, st_1_5 H.1, st_7_m1 hS, st_7_m1 H.1]
      refine wp_iret dX11_count_85 rfl ?_
      refine Q_eq hQ ?_ rfl
      congr 1
      repeat (first | rfl | rw [if_pos (by omega)] | rw [if_neg (by omega)])
    · refine wp_tabIn (off := 85) (tgt := 86) (by first | assumption | exact bI_in _ | exact ⟨by omega, by omega⟩ | exact iAnd_in | exact iOr_in | exact iShr_in | exact iShl_in | exact iXor_in | exact hxs _) dX11_count_1 (by omega) (by omega) (by rw [c1x]; rfl) (by decide) ?_
      refine wp_aload_n rfl rfl dX11_count_86 ?_
      refine wp_getfield1 (z := 12) (kI := 15) fX11_165 dX11_count_87 (by first | omega | (simp (disch := omega) only [up2_ne, up2_eq, e, e11, e12, e13, H.a4, H.az, H.r3, H.rz, H.n14, H.n15, H.n71, st_1_m1 hS, st_1_m1 H.1, st_1_5 hS, st_1_5 H.1, st_7_m1 hS, st_7_m1 H.1]; first | done | omega)) (by first | assumption | (simp (disch := omega) only [up2_ne, up2_eq, e, e11, e12, e13, H.a4, H.az, H.r3, H.rz, H.n14, H.n15, H.n71, st_1_m1 hS, st_1_m1 H.1, st_1_5 hS, st_1_5 H.1, st_7_m1 hS, st_7_m1 H.1]; first | done | rfl | omega)) rfl rfl ?_
      try simp (disch := omega) only [up2_ne, up2_eq, e, e11, e12, e13, H.a4, H.az, H.r3, H.rz, H.n14, H.n15, H.n71, st_1_m1 hS, st_1_m1 H.1, st_1_5 hS, st_1_5 H.1, st_7_m1 hS, st_7_m1 H.1]
      refine wp_iret dX11_count_90 rfl ?_
      refine Q_eq hQ ?_ rfl
      congr 1
      repeat (first | rfl | rw [if_pos (by omega)] | rw [if_neg (by omega)])
