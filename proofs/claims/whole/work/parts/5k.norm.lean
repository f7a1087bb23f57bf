/-! ===== values taken into range, locals forgotten; the greatest common divisor; fractions ===== -/
theorem wp_norm {X : mX} {M : mD} {d b pc : Nat} {Q : mV → mH → Prop} {L S : List mV} {h : mH} {x y : Int} (e : Int32.ofInt x = Int32.ofInt y) (k : WP X M d b Q pc L ((0, y) :: S) h) : WP X M d b Q pc L ((0, x) :: S) h := by
  intro p l e1 R s m args below meth c H locs cells slots Z ad ls mx hA hR hV h1 h2 h3 h4 hL hS hF
  have q := k p l e1 R s m args below meth c H locs cells slots Z ad ls mx hA hR hV h1 h2 h3 h4 hL (mStk.cons okV_0 hS.tail) hF
  have ee : enV ad (0, x) = enV ad (0, y) := by
    show Value.int (Int32.ofInt x) = Value.int (Int32.ofInt y)
    rw [e]
  rw [show ((0, x) :: S).map (enV ad) = ((0, y) :: S).map (enV ad) from by rw [List.map_cons, List.map_cons, ee]]
  exact q
theorem wp_wI {X : mX} {M : mD} {d b pc : Nat} {Q : mV → mH → Prop} {L S : List mV} {h : mH} {x : Int} (k : WP X M d b Q pc L ((0, wI x) :: S) h) : WP X M d b Q pc L ((0, x) :: S) h := wp_norm (ofI_wI x).symm k
theorem wp_dropAt {X : mX} {M : mD} {d b pc : Nat} {Q : mV → mH → Prop} {L S : List mV} {h : mH} (i : Nat) {L' : List mV} (hL : L.set i (9, 0) = L') (k : WP X M d b Q pc L' S h) : WP X M d b Q pc L S h := by
  subst hL
  refine wp_drop List.length_set (fun j v hv ht => ?_) k
  rw [List.getElem?_set] at hv
  split at hv
  · split at hv
    · cases hv
      exact absurd ht (by decide)
    · cases hv
  · exact hv
theorem gcd_step {l s : Int} (hl : 0 ≤ l) (hs : 0 < s) : Int.gcd s (l.tmod s) = Int.gcd l s := by
  rw [Int.tmod_eq_emod_of_nonneg hl]
  obtain ⟨L, rfl⟩ := Int.eq_ofNat_of_zero_le hl
  obtain ⟨S, rfl⟩ := Int.eq_ofNat_of_zero_le (Int.le_of_lt hs)
  show Nat.gcd S (L % S) = Nat.gcd L S
  rw [Nat.gcd_comm S, ← Nat.gcd_rec, Nat.gcd_comm]
theorem tmod_rng {l s : Int} (hl : 0 ≤ l) (hs : 0 < s) : 0 ≤ l.tmod s ∧ l.tmod s < s := ⟨Int.tmod_nonneg _ hl, Int.tmod_lt_of_pos _ hs⟩
theorem gcd_half {l s : Int} {j : Nat} (hs : 0 < s) (hl : s < l) (hj : l * s < 2 ^ (j + 1)) : s * l.tmod s < 2 ^ j := by
  have hr := tmod_rng (l := l) (by omega) hs
  have e : l.tmod s ≤ l - s := by
    have e1 := Int.mul_tdiv_add_tmod l s
    have e2 : 1 ≤ l.tdiv s := by
      rw [Int.tdiv_eq_ediv_of_nonneg (by omega)]
      exact (Int.le_ediv_iff_mul_le hs).mpr (by omega)
    have e3 : s * 1 ≤ s * l.tdiv s := Int.mul_le_mul_of_nonneg_left e2 (by omega)
    omega
  have e4 : s * (2 * l.tmod s) ≤ s * (l - 1) := Int.mul_le_mul_of_nonneg_left (by omega) (by omega)
  have e5 : s * (2 * l.tmod s) = 2 * (s * l.tmod s) := by rw [Int.mul_left_comm]
  have e6 : s * (l - 1) = l * s - s := by rw [Int.mul_sub, Int.mul_comm, Int.mul_one]
  have e7 : (2 : Int) ^ (j + 1) = 2 * 2 ^ j := by rw [Int.pow_succ, Int.mul_comm]
  omega
theorem gcd_s0 {l : Int} (hl : 0 ≤ l) : ((Int.gcd l 0 : Nat) : Int) = l := by
  rw [Int.gcd_zero]
  exact Int.natAbs_of_nonneg hl
theorem s_X7_commonDivisor {u : gT} {h : mH} {d b : Nat} {x y : Int} (x0 : 0 ≤ x) (x1 : x ≤ 9223372036854775807) (y0 : 0 ≤ y) (y1 : y < 131072) : Det (gX (gq u)) MX7_commonDivisor d b [(1, x), (1, y)] h (1, ((Int.gcd x y : Nat) : Int)) h := by
  intro Q hQ
  have loop : ∀ (j : Nat) (i l s : Int), 0 ≤ i → (j : Int) + i ≤ 199 → 0 ≤ s → s < l → l ≤ 9223372036854775807 → l * s < 2 ^ j → Q (1, ((Int.gcd l s : Nat) : Int)) h → WP (gX (gq u)) MX7_commonDivisor d b Q 9 [(1, x), (9, 0), (1, y), (9, 0), (1, l), (9, 0), (1, s), (9, 0), (0, i), (9, 0), (9, 0)] [] h := by
    intro j
    induction j with
    | zero =>
      intro i l s i0 ij s0 sl lm hj hq
      have hs0 : s = 0 := by
        by_cases c : s = 0
        · exact c
        · have : 1 * 1 ≤ l * s := Int.mul_le_mul (by omega) (by omega) (by decide) (by omega)
          have e : (2 : Int) ^ 0 = 1 := rfl
          omega
      refine wp_iload rfl dX7_commonDivisor_9 ?_
      refine wp_sipush (by decide) dX7_commonDivisor_11 ?_
      refine wp_icmp_ge (tgt := 45) (by first | assumption | exact bI_in _ | exact ⟨by omega, by omega⟩ | exact iAnd_in | exact iOr_in | exact iShr_in | exact iShl_in | exact iXor_in | exact hxs _) (by first | assumption | exact bI_in _ | exact ⟨by omega, by omega⟩ | exact iAnd_in | exact iOr_in | exact iShr_in | exact iShl_in | exact iXor_in | exact hxs _) dX7_commonDivisor_14 (by decide) (fun c1 => ?_) (fun c1 => ?_)
      · refine wp_lload rfl dX7_commonDivisor_45 ?_
        refine wp_lret dX7_commonDivisor_47 rfl ?_
        first
          | (have es : s = 0 := by omega
             subst es
             rw [gcd_s0 (by omega)] at hq
             exact hq)
          | (exfalso; omega)
      · refine wp_lload rfl dX7_commonDivisor_17 ?_
        refine wp_lconst (v := 0) rfl dX7_commonDivisor_19 ?_
        refine wp_lcif_le (tgt := 45) (by first | assumption | exact ⟨by omega, by omega⟩) (by first | assumption | exact ⟨by omega, by omega⟩) dX7_commonDivisor_20 dX7_commonDivisor_21 (by decide) (fun c2 => ?_) (fun c2 => ?_)
        · refine wp_lload rfl dX7_commonDivisor_45 ?_
          refine wp_lret dX7_commonDivisor_47 rfl ?_
          first
            | (have es : s = 0 := by omega
               subst es
               rw [gcd_s0 (by omega)] at hq
               exact hq)
            | (exfalso; omega)
        · refine wp_lload rfl dX7_commonDivisor_24 ?_
          refine wp_lload rfl dX7_commonDivisor_26 ?_
          refine wp_lrem (by first | assumption | exact ⟨by omega, by omega⟩) (by first | assumption | exact ⟨by omega, by omega⟩) (by omega) dX7_commonDivisor_28 ?_
          try simp (disch := omega) only [up2_ne, up2_eq]
          refine wp_lstore dX7_commonDivisor_29 rfl (Nat.le_of_ble_eq_true rfl) rfl ?_
          try simp only [List.set_cons_zero, List.set_cons_succ]
          refine wp_lload rfl dX7_commonDivisor_31 ?_
          refine wp_lstore dX7_commonDivisor_33 rfl (Nat.le_of_ble_eq_true rfl) rfl ?_
          try simp only [List.set_cons_zero, List.set_cons_succ]
          refine wp_lload rfl dX7_commonDivisor_35 ?_
          refine wp_lstore dX7_commonDivisor_37 rfl (Nat.le_of_ble_eq_true rfl) rfl ?_
          try simp only [List.set_cons_zero, List.set_cons_succ]
          refine wp_iinc rfl rfl dX7_commonDivisor_39 rfl rfl ?_
          try simp only [List.set_cons_zero, List.set_cons_succ]
          refine wp_goto (tgt := 9) dX7_commonDivisor_42 (by decide) ?_
          exfalso
          omega
    | succ j ih =>
      intro i l s i0 ij s0 sl lm hj hq
      refine wp_iload rfl dX7_commonDivisor_9 ?_
      refine wp_sipush (by decide) dX7_commonDivisor_11 ?_
      refine wp_icmp_ge (tgt := 45) (by first | assumption | exact bI_in _ | exact ⟨by omega, by omega⟩ | exact iAnd_in | exact iOr_in | exact iShr_in | exact iShl_in | exact iXor_in | exact hxs _) (by first | assumption | exact bI_in _ | exact ⟨by omega, by omega⟩ | exact iAnd_in | exact iOr_in | exact iShr_in | exact iShl_in | exact iXor_in | exact hxs _) dX7_commonDivisor_14 (by decide) (fun c3 => ?_) (fun c3 => ?_)
      · refine wp_lload rfl dX7_commonDivisor_45 ?_
        refine wp_lret dX7_commonDivisor_47 rfl ?_
        first
          | (have es : s = 0 := by omega
             subst es
             rw [gcd_s0 (by omega)] at hq
             exact hq)
          | (exfalso; omega)
      · refine wp_lload rfl dX7_commonDivisor_17 ?_
        refine wp_lconst (v := 0) rfl dX7_commonDivisor_19 ?_
        refine wp_lcif_le (tgt := 45) (by first | assumption | exact ⟨by omega, by omega⟩) (by first | assumption | exact ⟨by omega, by omega⟩) dX7_commonDivisor_20 dX7_commonDivisor_21 (by decide) (fun c4 => ?_) (fun c4 => ?_)
        · refine wp_lload rfl dX7_commonDivisor_45 ?_
          refine wp_lret dX7_commonDivisor_47 rfl ?_
          first
            | (have es : s = 0 := by omega
               subst es
               rw [gcd_s0 (by omega)] at hq
               exact hq)
            | (exfalso; omega)
        · refine wp_lload rfl dX7_commonDivisor_24 ?_
          refine wp_lload rfl dX7_commonDivisor_26 ?_
          refine wp_lrem (by first | assumption | exact ⟨by omega, by omega⟩) (by first | assumption | exact ⟨by omega, by omega⟩) (by omega) dX7_commonDivisor_28 ?_
          try simp (disch := omega) only [up2_ne, up2_eq]
          refine wp_lstore dX7_commonDivisor_29 rfl (Nat.le_of_ble_eq_true rfl) rfl ?_
          try simp only [List.set_cons_zero, List.set_cons_succ]
          refine wp_lload rfl dX7_commonDivisor_31 ?_
          refine wp_lstore dX7_commonDivisor_33 rfl (Nat.le_of_ble_eq_true rfl) rfl ?_
          try simp only [List.set_cons_zero, List.set_cons_succ]
          refine wp_lload rfl dX7_commonDivisor_35 ?_
          refine wp_lstore dX7_commonDivisor_37 rfl (Nat.le_of_ble_eq_true rfl) rfl ?_
          try simp only [List.set_cons_zero, List.set_cons_succ]
          refine wp_iinc rfl rfl dX7_commonDivisor_39 rfl rfl ?_
          try simp only [List.set_cons_zero, List.set_cons_succ]
          refine wp_goto (tgt := 9) dX7_commonDivisor_42 (by decide) ?_
          have hr := tmod_rng (l := l) (s := s) (by omega) (by omega)
          refine wp_dropAt 9 rfl ?_
          exact ih (i + 1) s (l.tmod s) (by omega) (by omega) hr.1 hr.2 (by omega) (gcd_half (by omega) sl hj) (by rw [gcd_step (by omega) (by omega)]; exact hq)
  have one : ∀ i : Int, i = 0 → Q (1, ((Int.gcd x y : Nat) : Int)) h → WP (gX (gq u)) MX7_commonDivisor d b Q 9 [(1, x), (9, 0), (1, y), (9, 0), (1, x), (9, 0), (1, y), (9, 0), (0, i), (9, 0), (9, 0)] [] h := by
    intro i hi hq
    refine wp_iload rfl dX7_commonDivisor_9 ?_
    refine wp_sipush (by decide) dX7_commonDivisor_11 ?_
    refine wp_icmp_ge (tgt := 45) (by first | assumption | exact bI_in _ | exact ⟨by omega, by omega⟩ | exact iAnd_in | exact iOr_in | exact iShr_in | exact iShl_in | exact iXor_in | exact hxs _) (by first | assumption | exact bI_in _ | exact ⟨by omega, by omega⟩ | exact iAnd_in | exact iOr_in | exact iShr_in | exact iShl_in | exact iXor_in | exact hxs _) dX7_commonDivisor_14 (by decide) (fun c5 => ?_) (fun c5 => ?_)
    · refine wp_lload rfl dX7_commonDivisor_45 ?_
      refine wp_lret dX7_commonDivisor_47 rfl ?_
      first
        | (have es : y = 0 := by omega
           subst es
           rw [gcd_s0 (by omega)] at hq
           exact hq)
        | (exfalso; omega)
    · refine wp_lload rfl dX7_commonDivisor_17 ?_
      refine wp_lconst (v := 0) rfl dX7_commonDivisor_19 ?_
      refine wp_lcif_le (tgt := 45) (by first | assumption | exact ⟨by omega, by omega⟩) (by first | assumption | exact ⟨by omega, by omega⟩) dX7_commonDivisor_20 dX7_commonDivisor_21 (by decide) (fun c6 => ?_) (fun c6 => ?_)
      · refine wp_lload rfl dX7_commonDivisor_45 ?_
        refine wp_lret dX7_commonDivisor_47 rfl ?_
        first
          | (have es : y = 0 := by omega
             subst es
             rw [gcd_s0 (by omega)] at hq
             exact hq)
          | (exfalso; omega)
      · refine wp_lload rfl dX7_commonDivisor_24 ?_
        refine wp_lload rfl dX7_commonDivisor_26 ?_
        refine wp_lrem (by first | assumption | exact ⟨by omega, by omega⟩) (by first | assumption | exact ⟨by omega, by omega⟩) (by omega) dX7_commonDivisor_28 ?_
        try simp (disch := omega) only [up2_ne, up2_eq]
        refine wp_lstore dX7_commonDivisor_29 rfl (Nat.le_of_ble_eq_true rfl) rfl ?_
        try simp only [List.set_cons_zero, List.set_cons_succ]
        refine wp_lload rfl dX7_commonDivisor_31 ?_
        refine wp_lstore dX7_commonDivisor_33 rfl (Nat.le_of_ble_eq_true rfl) rfl ?_
        try simp only [List.set_cons_zero, List.set_cons_succ]
        refine wp_lload rfl dX7_commonDivisor_35 ?_
        refine wp_lstore dX7_commonDivisor_37 rfl (Nat.le_of_ble_eq_true rfl) rfl ?_
        try simp only [List.set_cons_zero, List.set_cons_succ]
        refine wp_iinc rfl rfl dX7_commonDivisor_39 rfl rfl ?_
        try simp only [List.set_cons_zero, List.set_cons_succ]
        refine wp_goto (tgt := 9) dX7_commonDivisor_42 (by decide) ?_
        have hr := tmod_rng (l := x) (s := y) (by omega) (by omega)
        refine wp_dropAt 9 rfl ?_
        exact loop 34 (i + 1) y (x.tmod y) (by omega) (by omega) hr.1 hr.2 (by omega) (by have := Int.mul_le_mul (show y ≤ 131071 by omega) (show x.tmod y ≤ 131071 by omega) hr.1 (by decide); have e : (2 : Int) ^ 34 = 17179869184 := rfl; omega) (by rw [gcd_step (by omega) (by omega)]; exact hq)
  show WP (gX (gq u)) MX7_commonDivisor d b Q 0 [(1, x), (9, 0), (1, y), (9, 0), (9, 0), (9, 0), (9, 0), (9, 0), (9, 0), (9, 0), (9, 0)] [] h
  refine wp_lload_n rfl rfl dX7_commonDivisor_0 ?_
  refine wp_lstore dX7_commonDivisor_1 rfl (Nat.le_of_ble_eq_true rfl) rfl ?_
  try simp only [List.set_cons_zero, List.set_cons_succ]
  refine wp_lload_n rfl rfl dX7_commonDivisor_3 ?_
  refine wp_lstore dX7_commonDivisor_4 rfl (Nat.le_of_ble_eq_true rfl) rfl ?_
  try simp only [List.set_cons_zero, List.set_cons_succ]
  refine wp_iconst dX7_commonDivisor_6 ?_
  refine wp_istore dX7_commonDivisor_7 rfl (Nat.le_of_ble_eq_true rfl) rfl ?_
  try simp only [List.set_cons_zero, List.set_cons_succ]
  exact one 0 rfl hQ
theorem s_X12_divisor {u : gT} {h : mH} {d b : Nat} {x y : Int} (x0 : -9223372036854775807 ≤ x) (x1 : x ≤ 9223372036854775807) (y0 : 0 ≤ y) (y1 : y ≤ 9223372036854775807) : Det (gX (gq u)) MX12_divisor d b [(1, x), (1, y)] h (1, ((Int.gcd x y : Nat) : Int)) h := by
  intro Q hQ
  have loop : ∀ (n : Nat) (l s : Int), 0 ≤ s → s < n → 0 ≤ l → l ≤ 9223372036854775807 → s ≤ 9223372036854775807 → Q (1, ((Int.gcd l s : Nat) : Int)) h → WP (gX (gq u)) MX12_divisor d b Q 17 [(1, x), (9, 0), (1, y), (9, 0), (1, l), (9, 0), (1, s), (9, 0), (9, 0), (9, 0)] [] h := by
    intro n
    induction n with
    | zero =>
      intro l s s0 sn
      exfalso
      omega
    | succ n ih =>
      intro l s s0 sn l0 lm sm hq
      refine wp_lload rfl dX12_divisor_17 ?_
      refine wp_lconst (v := 0) rfl dX12_divisor_19 ?_
      refine wp_lcif_eq (tgt := 42) (by first | assumption | exact ⟨by omega, by omega⟩) (by first | assumption | exact ⟨by omega, by omega⟩) dX12_divisor_20 dX12_divisor_21 (by decide) (fun c1 => ?_) (fun c1 => ?_)
      · refine wp_lload rfl dX12_divisor_42 ?_
        refine wp_lret dX12_divisor_44 rfl ?_
        first
          | (have es : s = 0 := by omega
             subst es
             rw [gcd_s0 (by omega)] at hq
             exact hq)
          | (exfalso; omega)
      · refine wp_lload rfl dX12_divisor_24 ?_
        refine wp_lload rfl dX12_divisor_26 ?_
        refine wp_lrem (by first | assumption | exact ⟨by omega, by omega⟩) (by first | assumption | exact ⟨by omega, by omega⟩) (by omega) dX12_divisor_28 ?_
        try simp (disch := omega) only [up2_ne, up2_eq]
        refine wp_lstore dX12_divisor_29 rfl (Nat.le_of_ble_eq_true rfl) rfl ?_
        try simp only [List.set_cons_zero, List.set_cons_succ]
        refine wp_lload rfl dX12_divisor_31 ?_
        refine wp_lstore dX12_divisor_33 rfl (Nat.le_of_ble_eq_true rfl) rfl ?_
        try simp only [List.set_cons_zero, List.set_cons_succ]
        refine wp_lload rfl dX12_divisor_35 ?_
        refine wp_lstore dX12_divisor_37 rfl (Nat.le_of_ble_eq_true rfl) rfl ?_
        try simp only [List.set_cons_zero, List.set_cons_succ]
        refine wp_goto (tgt := 17) dX12_divisor_39 (by decide) ?_
        have hr := tmod_rng (l := l) (s := s) (by omega) (by omega)
        refine wp_dropAt 8 rfl ?_
        exact ih s (l.tmod s) hr.1 (by omega) (by omega) (by omega) (by omega) (by rw [gcd_step (by omega) (by omega)]; exact hq)
  show WP (gX (gq u)) MX12_divisor d b Q 0 [(1, x), (9, 0), (1, y), (9, 0), (9, 0), (9, 0), (9, 0), (9, 0), (9, 0), (9, 0)] [] h
  refine wp_lload_n rfl rfl dX12_divisor_0 ?_
  refine wp_lconst (v := 0) rfl dX12_divisor_1 ?_
  refine wp_lcif_ge (tgt := 11) (by first | assumption | exact ⟨by omega, by omega⟩) (by first | assumption | exact ⟨by omega, by omega⟩) dX12_divisor_2 dX12_divisor_3 (by decide) (fun c2 => ?_) (fun c2 => ?_)
  · refine wp_lload_n rfl rfl dX12_divisor_11 ?_
    refine wp_lstore dX12_divisor_12 rfl (Nat.le_of_ble_eq_true rfl) rfl ?_
    try simp only [List.set_cons_zero, List.set_cons_succ]
    refine wp_lload_n rfl rfl dX12_divisor_14 ?_
    refine wp_lstore dX12_divisor_15 rfl (Nat.le_of_ble_eq_true rfl) rfl ?_
    try simp only [List.set_cons_zero, List.set_cons_succ]
    first
      | exact loop (y.toNat + 1) x y y0 (by omega) (by omega) (by omega) (by omega) hQ
      | exact loop (y.toNat + 1) (-x) y y0 (by omega) (by omega) (by omega) (by omega) (by rw [Int.neg_gcd]; exact hQ)
  · refine wp_lload_n rfl rfl dX12_divisor_6 ?_
    refine wp_lneg dX12_divisor_7 ?_
    refine wp_goto (tgt := 12) dX12_divisor_8 (by decide) ?_
    refine wp_lstore dX12_divisor_12 rfl (Nat.le_of_ble_eq_true rfl) rfl ?_
    try simp only [List.set_cons_zero, List.set_cons_succ]
    refine wp_lload_n rfl rfl dX12_divisor_14 ?_
    refine wp_lstore dX12_divisor_15 rfl (Nat.le_of_ble_eq_true rfl) rfl ?_
    try simp only [List.set_cons_zero, List.set_cons_succ]
    first
      | exact loop (y.toNat + 1) x y y0 (by omega) (by omega) (by omega) (by omega) hQ
      | exact loop (y.toNat + 1) (-x) y y0 (by omega) (by omega) (by omega) (by omega) (by rw [Int.neg_gcd]; exact hQ)
/-- a fraction in lowest terms is told by its worth -/
theorem fr_c {U L p D : Int} (hD : 0 < D) (hL : 0 < L) (hg : Int.gcd U L = 1) (he : U * D = p * L) : ∃ c : Int, 1 ≤ c ∧ p = U * c ∧ D = L * c := by
  have h1 : L ∣ U * D := ⟨p, by rw [he, Int.mul_comm]⟩
  have h2 : L ∣ D := by
    rw [← Int.gcd_eq_left_iff_dvd (Int.le_of_lt hL)]
    have e1 : Int.gcd L (U * D) = Int.gcd L D := Int.gcd_mul_right_right_of_gcd_eq_one (by rw [Int.gcd_comm]; exact hg)
    rw [← e1]
    exact (Int.gcd_eq_left_iff_dvd (Int.le_of_lt hL)).mpr h1
  obtain ⟨c, hc⟩ := h2
  have hc0 : 1 ≤ c := by
    by_cases z : 0 < c
    · exact z
    · exfalso
      have : L * c ≤ L * 0 := Int.mul_le_mul_of_nonneg_left (by omega) (by omega)
      omega
  refine ⟨c, hc0, ?_, hc⟩
  have : (U * c) * L = p * L := by rw [← he, hc, Int.mul_assoc, Int.mul_comm c L]
  exact (Int.eq_of_mul_eq_mul_right (by omega) this).symm
theorem fr_uniq {U L p D : Int} (hD : 0 < D) (hL : 0 < L) (hg : Int.gcd U L = 1) (he : U * D = p * L) : U = p.tdiv ((Int.gcd p D : Nat) : Int) ∧ L = D.tdiv ((Int.gcd p D : Nat) : Int) := by
  obtain ⟨c, hc0, hp, hc⟩ := fr_c hD hL hg he
  have hgc : ((Int.gcd p D : Nat) : Int) = c := by
    rw [hp, hc, Int.gcd_mul_right, hg, Nat.one_mul]
    exact Int.natAbs_of_nonneg (by omega)
  rw [hgc, hp, hc, Int.mul_tdiv_cancel _ (by omega), Int.mul_tdiv_cancel _ (by omega)]
  exact ⟨rfl, rfl⟩
theorem fr_bnd {U L p D K : Int} (hD : 0 < D) (hL : 0 < L) (hg : Int.gcd U L = 1) (he : U * D = p * L) (k0 : -K ≤ p) (k1 : p ≤ K) : L ≤ D ∧ -K ≤ U ∧ U ≤ K := by
  obtain ⟨c, hc0, hp, hc⟩ := fr_c hD hL hg he
  have e1 : L * 1 ≤ L * c := Int.mul_le_mul_of_nonneg_left hc0 (by omega)
  refine ⟨by omega, ?_⟩
  by_cases z : 0 ≤ U
  · have e2 : U * 1 ≤ U * c := Int.mul_le_mul_of_nonneg_left hc0 z
    omega
  · have e2 : (-U) * 1 ≤ (-U) * c := Int.mul_le_mul_of_nonneg_left hc0 (by omega)
    rw [Int.neg_mul, Int.neg_mul] at e2
    omega
theorem fr_step {U L p D a b t : Int} (hL : 0 < L) (hb : 0 < b) (he : U * D = p * L) (ht : b * t = D) : 0 < (L * b).tdiv ((Int.gcd (U * b + a * L) (L * b) : Nat) : Int) ∧ Int.gcd ((U * b + a * L).tdiv ((Int.gcd (U * b + a * L) (L * b) : Nat) : Int)) ((L * b).tdiv ((Int.gcd (U * b + a * L) (L * b) : Nat) : Int)) = 1 ∧ (U * b + a * L).tdiv ((Int.gcd (U * b + a * L) (L * b) : Nat) : Int) * D = (p + a * t) * (L * b).tdiv ((Int.gcd (U * b + a * L) (L * b) : Nat) : Int) := by
  have hM : 0 < L * b := Int.mul_pos hL hb
  have hN : U * b + a * L = U * b + a * L := rfl
  generalize hNe : U * b + a * L = N at *
  generalize hMe : L * b = M at *
  have g0 : 0 < Int.gcd N M := Int.gcd_pos_of_ne_zero_right N (by omega)
  have gN := Int.mul_tdiv_cancel' (Int.gcd_dvd_left N M)
  have gM := Int.mul_tdiv_cancel' (Int.gcd_dvd_right N M)
  have hgg : Int.gcd (((Int.gcd N M : Nat) : Int) * N.tdiv ((Int.gcd N M : Nat) : Int)) (((Int.gcd N M : Nat) : Int) * M.tdiv ((Int.gcd N M : Nat) : Int)) = Int.gcd N M := by rw [gN, gM]
  rw [Int.gcd_mul_left, Int.natAbs_natCast] at hgg
  generalize Int.gcd N M = G at *
  generalize N.tdiv (G : Int) = N1 at *
  generalize M.tdiv (G : Int) = M1 at *
  refine ⟨?_, ?_, ?_⟩
  · by_cases z : 0 < M1
    · exact z
    · exfalso
      have : (G : Int) * M1 ≤ (G : Int) * 0 := Int.mul_le_mul_of_nonneg_left (by omega) (by omega)
      omega
  · exact Nat.eq_of_mul_eq_mul_left g0 (by rw [hgg, Nat.mul_one])
  · have hG : (G : Int) ≠ 0 := by omega
    refine Int.eq_of_mul_eq_mul_right hG ?_
    have e1 : N1 * D * (G : Int) = N * D := by rw [← gN, Int.mul_comm (N1 * D), Int.mul_assoc]
    have e2 : (p + a * t) * M1 * (G : Int) = (p + a * t) * M := by rw [← gM, Int.mul_assoc, Int.mul_comm M1]
    rw [e1, e2, ← hNe, ← hMe, Int.add_mul, Int.add_mul]
    have e3 : U * b * D = p * (L * b) := by rw [Int.mul_right_comm, he, Int.mul_assoc]
    have e4 : a * L * D = a * t * (L * b) := by
      rw [← ht, Int.mul_assoc, Int.mul_assoc]
      congr 1
      rw [Int.mul_comm t, Int.mul_assoc]
    rw [e3, e4]

