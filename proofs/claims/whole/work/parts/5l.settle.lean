/-! ===== the scale: settle; weigh ===== -/
theorem gcd_abs {x y : Int} : Int.gcd (if 0 < x then x else -x) y = Int.gcd x y := by
  split
  · rfl
  · exact Int.neg_gcd
theorem gcd_bnd {x y : Int} (x0 : -9000000000000000000 ≤ x) (x1 : x ≤ 9000000000000000000) (y0 : 0 ≤ y) (y1 : y < 131072) : 0 ≤ ((Int.gcd x y : Nat) : Int) ∧ ((Int.gcd x y : Nat) : Int) ≤ 9000000000000000000 := by
  refine ⟨Int.natCast_nonneg _, ?_⟩
  by_cases c : y = 0
  · subst c
    rw [Int.gcd_zero]
    omega
  · have := Int.gcd_le_right x (show 0 < y by omega)
    omega
theorem s_X7_settle {u : gT} {h : mH} {d b : Nat} {S C o n p q : Int} (hS : St h) (f2 : h 10 2 = S) (f3 : h 10 3 = C) (f4 : h 10 4 = o) (f5 : h 10 5 = n) (hp : o * C + 60 * n * S = p) (hq : 60 * n * C = q) (s0 : InI S) (c0 : InI C) (n0 : InI n) (p0 : -9000000000000000000 ≤ p) (p1 : p ≤ 9000000000000000000) (q0 : 0 ≤ q) (q1 : q < 131072) : Rlt (gX (gq u)) MX7_settle (d + 1) b [(2, 10)] h (fun x h1 => x = (9, 0) ∧ h1 10 6 = p.tdiv ((Int.gcd p q : Nat) : Int) ∧ h1 10 7 = q.tdiv ((Int.gcd p q : Nat) : Int) ∧ ∀ x k, ¬ (x = 10 ∧ (k = 6 ∨ k = 7)) → h1 x k = h x k) := by
  refine Rlt.of ?_
  have hg := gcd_bnd p0 p1 q0 q1
  show WP (gX (gq u)) MX7_settle (d + 1) b _ 0 [(2, 10), (9, 0), (9, 0)] [] h
  refine wp_aload_n rfl rfl dX7_settle_0 ?_
  refine wp_aload_n rfl rfl dX7_settle_1 ?_
  refine wp_getfield1 (z := 8) (kI := 4) fX7_25 dX7_settle_2 (by first | omega | (simp (disch := omega) only [up2_ne, up2_eq, f2, f3, f4, f5, hp, hq, gcd_abs, st_10_m1 hS]; first | done | omega)) (by first | assumption | (simp (disch := omega) only [up2_ne, up2_eq, f2, f3, f4, f5, hp, hq, gcd_abs, st_10_m1 hS]; first | done | rfl | omega)) rfl rfl ?_
  try simp (disch := omega) only [up2_ne, up2_eq, f2, f3, f4, f5, hp, hq, gcd_abs, st_10_m1 hS]
  refine wp_aload_n rfl rfl dX7_settle_5 ?_
  refine wp_getfield1 (z := 8) (kI := 3) fX7_22 dX7_settle_6 (by first | omega | (simp (disch := omega) only [up2_ne, up2_eq, f2, f3, f4, f5, hp, hq, gcd_abs, st_10_m1 hS]; first | done | omega)) (by first | assumption | (simp (disch := omega) only [up2_ne, up2_eq, f2, f3, f4, f5, hp, hq, gcd_abs, st_10_m1 hS]; first | done | rfl | omega)) rfl rfl ?_
  try simp (disch := omega) only [up2_ne, up2_eq, f2, f3, f4, f5, hp, hq, gcd_abs, st_10_m1 hS]
  refine wp_i2l (by first | assumption | exact bI_in _ | exact ⟨by omega, by omega⟩ | exact iAnd_in | exact iOr_in | exact iShr_in | exact iShl_in | exact iXor_in | exact hxs _) dX7_settle_9 ?_
  refine wp_lmul dX7_settle_10 ?_
  refine wp_ldc2 kX7_36 dX7_settle_11 ?_
  refine wp_aload_n rfl rfl dX7_settle_14 ?_
  refine wp_getfield1 (z := 8) (kI := 5) fX7_29 dX7_settle_15 (by first | omega | (simp (disch := omega) only [up2_ne, up2_eq, f2, f3, f4, f5, hp, hq, gcd_abs, st_10_m1 hS]; first | done | omega)) (by first | assumption | (simp (disch := omega) only [up2_ne, up2_eq, f2, f3, f4, f5, hp, hq, gcd_abs, st_10_m1 hS]; first | done | rfl | omega)) rfl rfl ?_
  try simp (disch := omega) only [up2_ne, up2_eq, f2, f3, f4, f5, hp, hq, gcd_abs, st_10_m1 hS]
  refine wp_i2l (by first | assumption | exact bI_in _ | exact ⟨by omega, by omega⟩ | exact iAnd_in | exact iOr_in | exact iShr_in | exact iShl_in | exact iXor_in | exact hxs _) dX7_settle_18 ?_
  refine wp_lmul dX7_settle_19 ?_
  refine wp_aload_n rfl rfl dX7_settle_20 ?_
  refine wp_getfield1 (z := 8) (kI := 2) fX7_18 dX7_settle_21 (by first | omega | (simp (disch := omega) only [up2_ne, up2_eq, f2, f3, f4, f5, hp, hq, gcd_abs, st_10_m1 hS]; first | done | omega)) (by first | assumption | (simp (disch := omega) only [up2_ne, up2_eq, f2, f3, f4, f5, hp, hq, gcd_abs, st_10_m1 hS]; first | done | rfl | omega)) rfl rfl ?_
  try simp (disch := omega) only [up2_ne, up2_eq, f2, f3, f4, f5, hp, hq, gcd_abs, st_10_m1 hS]
  refine wp_i2l (by first | assumption | exact bI_in _ | exact ⟨by omega, by omega⟩ | exact iAnd_in | exact iOr_in | exact iShr_in | exact iShl_in | exact iXor_in | exact hxs _) dX7_settle_24 ?_
  refine wp_lmul dX7_settle_25 ?_
  refine wp_ladd dX7_settle_26 ?_
  refine wp_putfield1 (z := 8) (kI := 6) fX7_38 dX7_settle_27 (by first | omega | (simp (disch := omega) only [up2_ne, up2_eq, f2, f3, f4, f5, hp, hq, gcd_abs, st_10_m1 hS]; first | done | omega)) (by first | assumption | (simp (disch := omega) only [up2_ne, up2_eq, f2, f3, f4, f5, hp, hq, gcd_abs, st_10_m1 hS]; first | done | rfl | omega)) rfl rfl ?_
  refine wp_aload_n rfl rfl dX7_settle_30 ?_
  refine wp_ldc2 kX7_36 dX7_settle_31 ?_
  refine wp_aload_n rfl rfl dX7_settle_34 ?_
  refine wp_getfield1 (z := 8) (kI := 5) fX7_29 dX7_settle_35 (by first | omega | (simp (disch := omega) only [up2_ne, up2_eq, f2, f3, f4, f5, hp, hq, gcd_abs, st_10_m1 hS]; first | done | omega)) (by first | assumption | (simp (disch := omega) only [up2_ne, up2_eq, f2, f3, f4, f5, hp, hq, gcd_abs, st_10_m1 hS]; first | done | rfl | omega)) rfl rfl ?_
  try simp (disch := omega) only [up2_ne, up2_eq, f2, f3, f4, f5, hp, hq, gcd_abs, st_10_m1 hS]
  refine wp_i2l (by first | assumption | exact bI_in _ | exact ⟨by omega, by omega⟩ | exact iAnd_in | exact iOr_in | exact iShr_in | exact iShl_in | exact iXor_in | exact hxs _) dX7_settle_38 ?_
  refine wp_lmul dX7_settle_39 ?_
  refine wp_aload_n rfl rfl dX7_settle_40 ?_
  refine wp_getfield1 (z := 8) (kI := 3) fX7_22 dX7_settle_41 (by first | omega | (simp (disch := omega) only [up2_ne, up2_eq, f2, f3, f4, f5, hp, hq, gcd_abs, st_10_m1 hS]; first | done | omega)) (by first | assumption | (simp (disch := omega) only [up2_ne, up2_eq, f2, f3, f4, f5, hp, hq, gcd_abs, st_10_m1 hS]; first | done | rfl | omega)) rfl rfl ?_
  try simp (disch := omega) only [up2_ne, up2_eq, f2, f3, f4, f5, hp, hq, gcd_abs, st_10_m1 hS]
  refine wp_i2l (by first | assumption | exact bI_in _ | exact ⟨by omega, by omega⟩ | exact iAnd_in | exact iOr_in | exact iShr_in | exact iShl_in | exact iXor_in | exact hxs _) dX7_settle_44 ?_
  refine wp_lmul dX7_settle_45 ?_
  refine wp_putfield1 (z := 8) (kI := 7) fX7_41 dX7_settle_46 (by first | omega | (simp (disch := omega) only [up2_ne, up2_eq, f2, f3, f4, f5, hp, hq, gcd_abs, st_10_m1 hS]; first | done | omega)) (by first | assumption | (simp (disch := omega) only [up2_ne, up2_eq, f2, f3, f4, f5, hp, hq, gcd_abs, st_10_m1 hS]; first | done | rfl | omega)) rfl rfl ?_
  refine wp_aload_n rfl rfl dX7_settle_49 ?_
  refine wp_getfield1 (z := 8) (kI := 6) fX7_38 dX7_settle_50 (by first | omega | (simp (disch := omega) only [up2_ne, up2_eq, f2, f3, f4, f5, hp, hq, gcd_abs, st_10_m1 hS]; first | done | omega)) (by first | assumption | (simp (disch := omega) only [up2_ne, up2_eq, f2, f3, f4, f5, hp, hq, gcd_abs, st_10_m1 hS]; first | done | rfl | omega)) rfl rfl ?_
  try simp (disch := omega) only [up2_ne, up2_eq, f2, f3, f4, f5, hp, hq, gcd_abs, st_10_m1 hS]
  refine wp_absL (by first | assumption | exact ⟨by omega, by omega⟩) wX7_44 dX7_settle_53 (Nat.le_of_ble_eq_true rfl) ?_
  refine wp_aload_n rfl rfl dX7_settle_56 ?_
  refine wp_getfield1 (z := 8) (kI := 7) fX7_41 dX7_settle_57 (by first | omega | (simp (disch := omega) only [up2_ne, up2_eq, f2, f3, f4, f5, hp, hq, gcd_abs, st_10_m1 hS]; first | done | omega)) (by first | assumption | (simp (disch := omega) only [up2_ne, up2_eq, f2, f3, f4, f5, hp, hq, gcd_abs, st_10_m1 hS]; first | done | rfl | omega)) rfl rfl ?_
  try simp (disch := omega) only [up2_ne, up2_eq, f2, f3, f4, f5, hp, hq, gcd_abs, st_10_m1 hS]
  refine wp_cS2 okX7_commonDivisor wX7_50 dX7_settle_60 rfl (Nat.le_of_ble_eq_true rfl) (Nat.le_of_ble_eq_true rfl) (s_X7_commonDivisor (by split <;> omega) (by split <;> omega) q0 q1) (Nat.zero_le _) ?_
  try simp (disch := omega) only [up2_ne, up2_eq, f2, f3, f4, f5, hp, hq, gcd_abs, st_10_m1 hS]
  refine wp_lstore_n rfl dX7_settle_63 rfl (Nat.le_of_ble_eq_true rfl) rfl ?_
  try simp only [List.set_cons_zero, List.set_cons_succ]
  refine wp_lload_n rfl rfl dX7_settle_64 ?_
  refine wp_lconst (v := 0) rfl dX7_settle_65 ?_
  refine wp_lcif_le (tgt := 90) (by first | assumption | exact ⟨by omega, by omega⟩) (by first | assumption | exact ⟨by omega, by omega⟩) dX7_settle_66 dX7_settle_67 (by decide) (fun c1 => ?_) (fun c1 => ?_)
  · refine wp_vret dX7_settle_90 rfl ?_
    first
      | (refine ⟨rfl, ?_, ?_, fun x k z => ?_⟩
         · simp (disch := omega) only [up2_ne, up2_eq]
         · simp (disch := omega) only [up2_ne, up2_eq]
         · simp (disch := omega) only [up2_ne])
      | (have hz := Int.gcd_eq_zero_iff.mp (show Int.gcd p q = 0 by omega)
         refine ⟨rfl, ?_, ?_, fun x k z => ?_⟩
         · simp (disch := omega) only [up2_ne, up2_eq]
           rw [hz.1, Int.zero_tdiv]
         · simp (disch := omega) only [up2_ne, up2_eq]
           rw [hz.2, Int.zero_tdiv]
         · simp (disch := omega) only [up2_ne])
  · refine wp_aload_n rfl rfl dX7_settle_70 ?_
    refine wp_aload_n rfl rfl dX7_settle_71 ?_
    refine wp_getfield1 (z := 8) (kI := 6) fX7_38 dX7_settle_72 (by first | omega | (simp (disch := omega) only [up2_ne, up2_eq, f2, f3, f4, f5, hp, hq, gcd_abs, st_10_m1 hS]; first | done | omega)) (by first | assumption | (simp (disch := omega) only [up2_ne, up2_eq, f2, f3, f4, f5, hp, hq, gcd_abs, st_10_m1 hS]; first | done | rfl | omega)) rfl rfl ?_
    try simp (disch := omega) only [up2_ne, up2_eq, f2, f3, f4, f5, hp, hq, gcd_abs, st_10_m1 hS]
    refine wp_lload_n rfl rfl dX7_settle_75 ?_
    refine wp_ldiv (by first | assumption | exact ⟨by omega, by omega⟩) (by first | assumption | exact ⟨by omega, by omega⟩) (by omega) dX7_settle_76 ?_
    try simp (disch := omega) only [up2_ne, up2_eq, f2, f3, f4, f5, hp, hq, gcd_abs, st_10_m1 hS]
    refine wp_putfield1 (z := 8) (kI := 6) fX7_38 dX7_settle_77 (by first | omega | (simp (disch := omega) only [up2_ne, up2_eq, f2, f3, f4, f5, hp, hq, gcd_abs, st_10_m1 hS]; first | done | omega)) (by first | assumption | (simp (disch := omega) only [up2_ne, up2_eq, f2, f3, f4, f5, hp, hq, gcd_abs, st_10_m1 hS]; first | done | rfl | omega)) rfl rfl ?_
    refine wp_aload_n rfl rfl dX7_settle_80 ?_
    refine wp_aload_n rfl rfl dX7_settle_81 ?_
    refine wp_getfield1 (z := 8) (kI := 7) fX7_41 dX7_settle_82 (by first | omega | (simp (disch := omega) only [up2_ne, up2_eq, f2, f3, f4, f5, hp, hq, gcd_abs, st_10_m1 hS]; first | done | omega)) (by first | assumption | (simp (disch := omega) only [up2_ne, up2_eq, f2, f3, f4, f5, hp, hq, gcd_abs, st_10_m1 hS]; first | done | rfl | omega)) rfl rfl ?_
    try simp (disch := omega) only [up2_ne, up2_eq, f2, f3, f4, f5, hp, hq, gcd_abs, st_10_m1 hS]
    refine wp_lload_n rfl rfl dX7_settle_85 ?_
    refine wp_ldiv (by first | assumption | exact ⟨by omega, by omega⟩) (by first | assumption | exact ⟨by omega, by omega⟩) (by omega) dX7_settle_86 ?_
    try simp (disch := omega) only [up2_ne, up2_eq, f2, f3, f4, f5, hp, hq, gcd_abs, st_10_m1 hS]
    refine wp_putfield1 (z := 8) (kI := 7) fX7_41 dX7_settle_87 (by first | omega | (simp (disch := omega) only [up2_ne, up2_eq, f2, f3, f4, f5, hp, hq, gcd_abs, st_10_m1 hS]; first | done | omega)) (by first | assumption | (simp (disch := omega) only [up2_ne, up2_eq, f2, f3, f4, f5, hp, hq, gcd_abs, st_10_m1 hS]; first | done | rfl | omega)) rfl rfl ?_
    refine wp_vret dX7_settle_90 rfl ?_
    first
      | (refine ⟨rfl, ?_, ?_, fun x k z => ?_⟩
         · simp (disch := omega) only [up2_ne, up2_eq]
         · simp (disch := omega) only [up2_ne, up2_eq]
         · simp (disch := omega) only [up2_ne])
      | (have hz := Int.gcd_eq_zero_iff.mp (show Int.gcd p q = 0 by omega)
         refine ⟨rfl, ?_, ?_, fun x k z => ?_⟩
         · simp (disch := omega) only [up2_ne, up2_eq]
           rw [hz.1, Int.zero_tdiv]
         · simp (disch := omega) only [up2_ne, up2_eq]
           rw [hz.2, Int.zero_tdiv]
         · simp (disch := omega) only [up2_ne])
theorem s_X7_hasWorth {u : gT} {h : mH} {d b : Nat} {q : Int} (hS : St h) (f7 : h 10 7 = q) (q0 : InL q) : Det (gX (gq u)) MX7_hasWorth d b [(2, 10)] h (0, bI (0 < q)) h := by
  intro Q hQ
  show WP (gX (gq u)) MX7_hasWorth d b Q 0 [(2, 10)] [] h
  refine wp_aload_n rfl rfl dX7_hasWorth_0 ?_
  refine wp_getfield1 (z := 8) (kI := 7) fX7_41 dX7_hasWorth_1 (by first | omega | (simp (disch := omega) only [up2_ne, up2_eq, f7, st_10_m1 hS]; first | done | omega)) (by first | assumption | (simp (disch := omega) only [up2_ne, up2_eq, f7, st_10_m1 hS]; first | done | rfl | omega)) rfl rfl ?_
  try simp (disch := omega) only [up2_ne, up2_eq, f7, st_10_m1 hS]
  refine wp_lconst (v := 0) rfl dX7_hasWorth_4 ?_
  refine wp_lcif_le (tgt := 13) (by first | assumption | exact ⟨by omega, by omega⟩) (by first | assumption | exact ⟨by omega, by omega⟩) dX7_hasWorth_5 dX7_hasWorth_6 (by decide) (fun c1 => ?_) (fun c1 => ?_)
  · refine wp_iconst dX7_hasWorth_13 ?_
    refine wp_zret (by first | exact Or.inl rfl | exact Or.inr rfl | omega) dX7_hasWorth_14 rfl ?_
    first | exact QB_t hQ (by omega) | exact QB_f hQ (by omega)
  · refine wp_iconst dX7_hasWorth_9 ?_
    refine wp_goto (tgt := 14) dX7_hasWorth_10 (by decide) ?_
    refine wp_zret (by first | exact Or.inl rfl | exact Or.inr rfl | omega) dX7_hasWorth_14 rfl ?_
    first | exact QB_t hQ (by omega) | exact QB_f hQ (by omega)
theorem s_X7_cutWorth {u : gT} {h : mH} {d b : Nat} {p q : Int} (hS : St h) (f6 : h 10 6 = p) (f7 : h 10 7 = q) (p0 : InL p) (q0 : InL q) : Det (gX (gq u)) MX7_cutWorth d b [(2, 10)] h (0, if 0 < q then p.tdiv q else 0) h := by
  intro Q hQ
  show WP (gX (gq u)) MX7_cutWorth d b Q 0 [(2, 10)] [] h
  refine wp_aload_n rfl rfl dX7_cutWorth_0 ?_
  refine wp_getfield1 (z := 8) (kI := 7) fX7_41 dX7_cutWorth_1 (by first | omega | (simp (disch := omega) only [up2_ne, up2_eq, f6, f7, st_10_m1 hS]; first | done | omega)) (by first | assumption | (simp (disch := omega) only [up2_ne, up2_eq, f6, f7, st_10_m1 hS]; first | done | rfl | omega)) rfl rfl ?_
  try simp (disch := omega) only [up2_ne, up2_eq, f6, f7, st_10_m1 hS]
  refine wp_lconst (v := 0) rfl dX7_cutWorth_4 ?_
  refine wp_lcif_le (tgt := 22) (by first | assumption | exact ⟨by omega, by omega⟩) (by first | assumption | exact ⟨by omega, by omega⟩) dX7_cutWorth_5 dX7_cutWorth_6 (by decide) (fun c1 => ?_) (fun c1 => ?_)
  · refine wp_iconst dX7_cutWorth_22 ?_
    refine wp_iret dX7_cutWorth_23 rfl ?_
    first | exact QI_t hQ (by first | assumption | omega) | exact QI_f hQ (by first | assumption | omega)
  · refine wp_aload_n rfl rfl dX7_cutWorth_9 ?_
    refine wp_getfield1 (z := 8) (kI := 6) fX7_38 dX7_cutWorth_10 (by first | omega | (simp (disch := omega) only [up2_ne, up2_eq, f6, f7, st_10_m1 hS]; first | done | omega)) (by first | assumption | (simp (disch := omega) only [up2_ne, up2_eq, f6, f7, st_10_m1 hS]; first | done | rfl | omega)) rfl rfl ?_
    try simp (disch := omega) only [up2_ne, up2_eq, f6, f7, st_10_m1 hS]
    refine wp_aload_n rfl rfl dX7_cutWorth_13 ?_
    refine wp_getfield1 (z := 8) (kI := 7) fX7_41 dX7_cutWorth_14 (by first | omega | (simp (disch := omega) only [up2_ne, up2_eq, f6, f7, st_10_m1 hS]; first | done | omega)) (by first | assumption | (simp (disch := omega) only [up2_ne, up2_eq, f6, f7, st_10_m1 hS]; first | done | rfl | omega)) rfl rfl ?_
    try simp (disch := omega) only [up2_ne, up2_eq, f6, f7, st_10_m1 hS]
    refine wp_ldiv (by first | assumption | exact ⟨by omega, by omega⟩) (by first | assumption | exact ⟨by omega, by omega⟩) (by omega) dX7_cutWorth_17 ?_
    try simp (disch := omega) only [up2_ne, up2_eq, f6, f7, st_10_m1 hS]
    refine wp_l2i dX7_cutWorth_18 ?_
    refine wp_goto (tgt := 23) dX7_cutWorth_19 (by decide) ?_
    refine wp_iret dX7_cutWorth_23 rfl ?_
    first | exact QI_t hQ (by first | assumption | omega) | exact QI_f hQ (by first | assumption | omega)
def wO (m : mH) (a r : Int) : Int := if kc m r a then 60 * m 220 (8 * a + r) - (60 : Int).tdiv (tR m w1 r) * tR m (m 220) r else 0
def wOs (m : mH) (a : Int) : Int := sm (wO m a) (m 200 6).toNat
def wP (m : mH) (a : Int) : Int := wOs m a * tT m w1 + 60 * tA m w1 a * tT m (m 220)
def wQ (m : mH) (a : Int) : Int := 60 * tA m w1 a * tT m w1
def wU (m : mH) (a : Int) : Int := (wP m a).tdiv ((Int.gcd (wP m a) (wQ m a) : Nat) : Int)
def wL (m : mH) (a : Int) : Int := (wQ m a).tdiv ((Int.gcd (wP m a) (wQ m a) : Nat) : Int)
def wC (m : mH) (a : Int) : Int := if 0 < wL m a then (wU m a).tdiv (wL m a) else 0
theorem sm_le {f g : Int → Int} : ∀ n : Nat, (∀ i : Nat, i < n → f i ≤ g i) → sm f n ≤ sm g n
  | 0, _ => Int.le_refl _
  | n + 1, h => by
    have h1 := sm_le n (fun i hi => h i (by omega))
    have h2 := h n (by omega)
    rw [sm, sm]
    omega
theorem sm_ge1 {f : Int → Int} : ∀ n : Nat, (∀ i : Nat, i < n → 0 ≤ f i) → ∀ i : Nat, i < n → f i ≤ sm f n
  | 0, _, i, hi => by omega
  | n + 1, h, i, hi => by
    rw [sm]
    have h0 := sm_bnd (f := f) (lo := 0) (hi := sm f n) n
    by_cases c : i = n
    · subst c
      have : sm (fun _ => 0) i ≤ sm f i := sm_le i (fun k hk => h k (by omega))
      rw [sm_zero i (fun _ _ => rfl)] at this
      omega
    · have h1 := sm_ge1 n (fun k hk => h k (by omega)) i (by omega)
      have h2 := h n (by omega)
      omega
theorem kv1_01 {m : mH} {r a : Int} : 0 ≤ kv m w1 r a ∧ kv m w1 r a ≤ 1 := by
  unfold kv w1
  split <;> omega
theorem mkb {j : Nat} {m : mH} (H : Inv j m) {r a : Int} (a0 : 0 ≤ a) (a1 : a < m 200 10) (r0 : 0 ≤ r) (r1 : r < m 200 6) (k : kc m r a) : 0 ≤ m 220 (8 * a + r) ∧ m 220 (8 * a + r) ≤ 100 ∧ bt (m 218 a) r = 1 := by
  have hn := H.ns
  have h1 := H.rm a0 (by omega) r0 (by omega)
  have h2 := H.mk a0 a1 r0 r1
  have h3 := k.1
  rcases h2 with q | q
  · omega
  · exact ⟨by omega, by omega, q.2.2.2⟩
theorem kvm_b {j : Nat} {m : mH} (H : Inv j m) {r a : Int} (a0 : 0 ≤ a) (a1 : a < m 200 10) (r0 : 0 ≤ r) (r1 : r < m 200 6) : 0 ≤ kv m (m 220) r a ∧ kv m (m 220) r a ≤ 100 := by
  unfold kv
  split
  · rename_i k
    have := mkb H a0 a1 r0 r1 k
    omega
  · omega
theorem tR_6 {j : Nat} {m : mH} (H : Inv j m) {r : Int} (r0 : 0 ≤ r) (r1 : r < m 200 6) : 0 ≤ tR m w1 r ∧ tR m w1 r ≤ 6 ∧ 0 ≤ tR m (m 220) r ∧ tR m (m 220) r ≤ 1400 := by
  have hn := H.ns
  have h1 : tR m w1 r ≤ rds m r := by
    unfold tR rds
    refine sm_le _ (fun i hi => ?_)
    have hb := H.ra (a := (i : Int)) (by omega) (by omega)
    have hb01 := bt_01 (x := m 218 i) (i := r) (by omega) (by omega) r0 (by omega)
    unfold rdsF kv w1
    split
    · rename_i k
      have := mkb H (a := (i : Int)) (by omega) (by omega) r0 r1 k
      omega
    · omega
  have h2 := (H.2.2.2.1 r r0 (by omega)).1
  have h3 := sm_bnd (f := fun a => kv m w1 r a) (lo := 0) (hi := 1) (m 200 10).toNat (fun i hi => kv1_01)
  have h4 := sm_bnd (f := fun a => kv m (m 220) r a) (lo := 0) (hi := 100) (m 200 10).toNat (fun i hi => kvm_b H (by omega) (by omega) r0 r1)
  unfold tR at h1 ⊢
  refine ⟨by omega, ?_, by omega, by omega⟩
  rcases h2 with q | q
  · omega
  · omega
theorem tR_1 {j : Nat} {m : mH} (H : Inv j m) {r a : Int} (a0 : 0 ≤ a) (a1 : a < m 200 10) (r0 : 0 ≤ r) (r1 : r < m 200 6) (k : kc m r a) : 1 ≤ tR m w1 r := by
  have h1 := sm_ge1 (f := fun a => kv m w1 r a) (m 200 10).toNat (fun i hi => kv1_01.1) a.toNat (by omega)
  have h2 : kv m w1 r ((a.toNat : Nat) : Int) = 1 := by
    rw [toN a0]
    unfold kv
    rw [if_pos k]
    rfl
  unfold tR
  omega
theorem tA_8 {j : Nat} {m : mH} (H : Inv j m) {a : Int} (a0 : 0 ≤ a) (a1 : a < m 200 10) : 0 ≤ tA m w1 a ∧ tA m w1 a ≤ 8 ∧ 0 ≤ tA m (m 220) a ∧ tA m (m 220) a ≤ 800 := by
  have hn := H.ns
  have h3 := sm_bnd (f := fun r => kv m w1 r a) (lo := 0) (hi := 1) (m 200 6).toNat (fun i hi => kv1_01)
  have h4 := sm_bnd (f := fun r => kv m (m 220) r a) (lo := 0) (hi := 100) (m 200 6).toNat (fun i hi => kvm_b H a0 a1 (by omega) (by omega))
  unfold tA
  omega
theorem tT_rng {j : Nat} {m : mH} (H : Inv j m) : 0 ≤ tT m w1 ∧ tT m w1 ≤ 112 ∧ 0 ≤ tT m (m 220) ∧ tT m (m 220) ≤ 11200 := by
  have hn := H.ns
  have h3 := sm_bnd (f := fun a => tA m w1 a) (lo := 0) (hi := 8) (m 200 10).toNat (fun i hi => ⟨(tA_8 H (by omega) (by omega)).1, (tA_8 H (by omega) (by omega)).2.1⟩)
  have h4 := sm_bnd (f := fun a => tA m (m 220) a) (lo := 0) (hi := 800) (m 200 10).toNat (fun i hi => ⟨(tA_8 H (by omega) (by omega)).2.2.1, (tA_8 H (by omega) (by omega)).2.2.2⟩)
  unfold tT
  omega
theorem tT_ge {j : Nat} {m : mH} (H : Inv j m) {a : Int} (a0 : 0 ≤ a) (a1 : a < m 200 10) : tA m w1 a ≤ tT m w1 := by
  have hn := H.ns
  have h1 := sm_ge1 (f := fun a => tA m w1 a) (m 200 10).toNat (fun i hi => (tA_8 H (by omega) (by omega)).1) a.toNat (by omega)
  rw [toN a0] at h1
  exact h1
theorem t60 {c : Int} (c0 : 1 ≤ c) (c1 : c ≤ 6) : c * (60 : Int).tdiv c = 60 ∧ 10 ≤ (60 : Int).tdiv c ∧ (60 : Int).tdiv c ≤ 60 := by
  rcases (show c = 1 ∨ c = 2 ∨ c = 3 ∨ c = 4 ∨ c = 5 ∨ c = 6 by omega) with rfl | rfl | rfl | rfl | rfl | rfl <;> decide
theorem t60s {j : Nat} {m : mH} (H : Inv j m) {r a : Int} (a0 : 0 ≤ a) (a1 : a < m 200 10) (r0 : 0 ≤ r) (r1 : r < m 200 6) (k : kc m r a) : 0 ≤ (60 : Int).tdiv (tR m w1 r) * tR m (m 220) r ∧ (60 : Int).tdiv (tR m w1 r) * tR m (m 220) r ≤ 84000 := by
  have h1 := tR_6 H r0 r1
  have h2 := t60 (tR_1 H a0 a1 r0 r1 k) h1.2.1
  have h3 : (60 : Int).tdiv (tR m w1 r) * tR m (m 220) r ≤ 60 * 1400 := Int.mul_le_mul (by omega) (by omega) (by omega) (by omega)
  have h4 : 0 ≤ (60 : Int).tdiv (tR m w1 r) * tR m (m 220) r := Int.mul_nonneg (by omega) (by omega)
  omega
theorem wO_b {j : Nat} {m : mH} (H : Inv j m) {r a : Int} (a0 : 0 ≤ a) (a1 : a < m 200 10) (r0 : 0 ≤ r) (r1 : r < m 200 6) : -84000 ≤ wO m a r ∧ wO m a r ≤ 6000 := by
  unfold wO
  split
  · rename_i k
    have h1 := t60s H a0 a1 r0 r1 k
    have h2 := mkb H a0 a1 r0 r1 k
    omega
  · omega
theorem wOs_b {j : Nat} {m : mH} (H : Inv j m) {a : Int} (a0 : 0 ≤ a) (a1 : a < m 200 10) : -672000 ≤ wOs m a ∧ wOs m a ≤ 48000 := by
  have hn := H.ns
  have h3 := sm_bnd (f := wO m a) (lo := -84000) (hi := 6000) (m 200 6).toNat (fun i hi => wO_b H a0 a1 (by omega) (by omega))
  unfold wOs
  omega
theorem wPQ_b {j : Nat} {m : mH} (H : Inv j m) {a : Int} (a0 : 0 ≤ a) (a1 : a < m 200 10) : -100000000 ≤ wP m a ∧ wP m a ≤ 100000000 ∧ 0 ≤ wQ m a ∧ wQ m a ≤ 53760 := by
  have h1 := wOs_b H a0 a1
  have h2 := tT_rng H
  have h3 := tA_8 H a0 a1
  have e1 : wOs m a * tT m w1 ≤ 48000 * 112 := by
    have := Int.mul_le_mul_of_nonneg_right h1.2 h2.1
    have := Int.mul_le_mul_of_nonneg_left h2.2.1 (show (0 : Int) ≤ 48000 by decide)
    omega
  have e2 : -672000 * 112 ≤ wOs m a * tT m w1 := by
    have := Int.mul_le_mul_of_nonneg_right h1.1 h2.1
    omega
  have e3 : 0 ≤ tA m w1 a * tT m (m 220) := Int.mul_nonneg h3.1 h2.2.2.1
  have e4 : tA m w1 a * tT m (m 220) ≤ 8 * 11200 := Int.mul_le_mul h3.2.1 h2.2.2.2 h2.2.2.1 (by decide)
  have e5 : 0 ≤ tA m w1 a * tT m w1 := Int.mul_nonneg h3.1 h2.1
  have e6 : tA m w1 a * tT m w1 ≤ 8 * 112 := Int.mul_le_mul h3.2.1 h2.2.1 h2.1 (by decide)
  unfold wP wQ
  rw [Int.mul_assoc, Int.mul_assoc 60]
  omega
