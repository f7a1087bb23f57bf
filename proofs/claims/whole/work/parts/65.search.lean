/-! ===== choose: the class's search ===== -/
theorem or_sum {x y q : Int} {k : Nat} (x0 : 0 ≤ x) (x1 : x < 2 ^ k) (q0 : 0 ≤ q) (hy : y = 2 ^ k * q) (y1 : y < 16384) (k14 : k ≤ 14) : iOr x y = x + y := by
  have hk : (2 : Int) ^ k = ((2 ^ k : Nat) : Int) := by rw [Int.natCast_pow]; rfl
  have hk2 : 2 ^ k ≤ 2 ^ 14 := Nat.pow_le_pow_right (by decide) k14
  rw [hk] at x1 hy
  obtain ⟨n, rfl⟩ := Int.eq_ofNat_of_zero_le q0
  obtain ⟨z, rfl⟩ := Int.eq_ofNat_of_zero_le x0
  have hy2 : y = ((2 ^ k * n : Nat) : Int) := by rw [hy, Int.natCast_mul]
  have e1 := Nat.two_pow_add_eq_or_of_lt (i := k) (b := z) (by omega) n
  rw [hy2] at y1 ⊢
  rw [iOr_nat (by omega) (by generalize 2 ^ k = p at *; omega) (Int.natCast_nonneg _) (by omega)]
  rw [Int.toNat_natCast, Int.toNat_natCast, Nat.or_comm, ← e1]
  omega
theorem p2_pos {k : Nat} : (1 : Int) ≤ 2 ^ k := by
  have hk : (2 : Int) ^ k = ((2 ^ k : Nat) : Int) := by rw [Int.natCast_pow]; rfl
  have := Nat.one_le_two_pow (n := k)
  rw [hk]
  omega
theorem p2_le {a b : Nat} (h : a ≤ b) : (2 : Int) ^ a ≤ 2 ^ b := by
  have e : ∀ k : Nat, (2 : Int) ^ k = ((2 ^ k : Nat) : Int) := fun k => by rw [Int.natCast_pow]; rfl
  rw [e, e]
  have := Nat.pow_le_pow_right (n := 2) (by decide) h
  omega
theorem p2_14 {a : Nat} (h : a ≤ 14) : (2 : Int) ^ a ≤ 16384 := p2_le h
theorem shl_1 {a : Int} (a0 : 0 ≤ a) (a1 : a < 14) : iShl 1 a = 2 ^ a.toNat := by
  have := p2_14 (a := a.toNat) (by omega)
  rw [iShl_eq (by decide) a0 (by omega) (by omega), Int.one_mul]
def ti (m : mH) (a : Int) : tri := (wC m a, m 215 a, 2 ^ a.toNat)
abbrev tl (m : mH) (t : List Int) : tri := tsum (t.map (ti m))
def asc : Int → List Int → Prop
  | _, [] => True
  | lo, a :: t => lo ≤ a ∧ a < 14 ∧ asc (a + 1) t
theorem tl_bits {m : mH} : ∀ (t : List Int) {lo : Int}, 0 ≤ lo → lo ≤ 14 → asc lo t → ∃ q : Int, 0 ≤ q ∧ (tl m t).2.2 = 2 ^ lo.toNat * q ∧ (tl m t).2.2 + 2 ^ lo.toNat ≤ 16384
  | [], lo, h0, h1, _ => ⟨0, Int.le_refl _, (Int.mul_zero _).symm, by have := p2_14 (a := lo.toNat) (by omega); show (0 : Int) + _ ≤ _; omega⟩
  | a :: t, lo, h0, h1, h => by
    obtain ⟨q, q0, q1, q2⟩ := tl_bits (m := m) t (lo := a + 1) (by have := h.1; omega) (by have := h.2.1; omega) h.2.2
    have ha := h.1
    have e1 : (tl m (a :: t)).2.2 = 2 ^ a.toNat + (tl m t).2.2 := rfl
    have e2 : (a + 1).toNat = a.toNat + 1 := by omega
    rw [e2, Int.pow_succ] at q1 q2
    have e3 : (2 : Int) ^ a.toNat = 2 ^ lo.toNat * 2 ^ (a.toNat - lo.toNat) := by rw [← Int.pow_add]; congr 1; omega
    refine ⟨2 ^ (a.toNat - lo.toNat) * (1 + 2 * q), Int.mul_nonneg (by have := p2_pos (k := a.toNat - lo.toNat); omega) (by omega), ?_, ?_⟩
    · rw [e1, q1, ← Int.mul_assoc, ← e3, Int.mul_add, Int.mul_one, Int.mul_assoc]
    · have := p2_le (a := lo.toNat) (b := a.toNat) (by omega)
      rw [e1]
      omega
abbrev itm (m : mH) (a : Int) : Prop := (0 < wC m a ∧ wC m a ≤ 100000000) ∧ 1 ≤ m 215 a ∧ m 215 a ≤ 9999
theorem tl_b {m : mH} : ∀ (t : List Int), (∀ a ∈ t, itm m a) → 0 ≤ (tl m t).1 ∧ (tl m t).1 ≤ 100000000 * (t.length : Int) ∧ 0 ≤ (tl m t).2.1 ∧ (tl m t).2.1 ≤ 9999 * (t.length : Int)
  | [], _ => ⟨Int.le_refl _, Int.le_refl _, Int.le_refl _, Int.le_refl _⟩
  | a :: t, h => by
    have ih := tl_b t (fun x hx => h x (List.mem_cons_of_mem _ hx))
    have ha := h a List.mem_cons_self
    have e1 : (tl m (a :: t)).1 = wC m a + (tl m t).1 := rfl
    have e2 : (tl m (a :: t)).2.1 = m 215 a + (tl m t).2.1 := rfl
    rw [e1, e2, List.length_cons]
    omega
/-- what stands in the arrays from the i-th item on -/
def sfx (m g : mH) : Int → List Int → Prop
  | i, [] => g 11 6 = i ∧ g 22 i = 0 ∧ g 23 i = 0 ∧ g 24 i = 0
  | i, a :: t => (i < g 11 6 ∧ g 19 i = a ∧ g 20 i = m 215 a ∧ g 21 i = wC m a ∧ g 22 i = (tl m (a :: t)).2.1 ∧ g 23 i = (tl m (a :: t)).1 ∧ g 24 i = (tl m (a :: t)).2.2) ∧ sfx m g (i + 1) t
theorem sfx_len {m g : mH} : ∀ (t : List Int) {i : Int}, sfx m g i t → g 11 6 = i + (t.length : Int)
  | [], i, h => by rw [h.1, List.length_nil]; omega
  | a :: t, i, h => by rw [sfx_len t h.2, List.length_cons]; omega
theorem sfx_up {m g g' : mH} : ∀ (t : List Int) {i : Int}, sfx m g i t → (∀ x k, (x = 11 ∧ k = 6) ∨ (19 ≤ x ∧ x ≤ 24 ∧ i ≤ k) → g' x k = g x k) → sfx m g' i t
  | [], i, h, e => by
    unfold sfx at h ⊢
    rw [e 11 6 (by omega), e 22 i (by omega), e 23 i (by omega), e 24 i (by omega)]
    exact h
  | a :: t, i, h, e => by
    refine ⟨?_, sfx_up t h.2 (fun x k q => e x k (by omega))⟩
    rw [e 11 6 (by omega), e 19 i (by omega), e 20 i (by omega), e 21 i (by omega), e 22 i (by omega), e 23 i (by omega), e 24 i (by omega)]
    exact h.1
abbrev tr3 (g : mH) : tri := (g 11 8, g 11 9, g 11 10)
abbrev tbI (g : mH) : Prop := (0 ≤ g 11 8 ∧ g 11 8 ≤ 1400000000) ∧ (0 ≤ g 11 9 ∧ g 11 9 ≤ 139986) ∧ (0 ≤ g 11 10 ∧ g 11 10 < 16384)
abbrev Kc (g h1 : mH) : Prop := ∀ x k : Int, ¬ (x = 11 ∧ 8 ≤ k ∧ k ≤ 10) → h1 x k = g x k
theorem s_X1_keepBetter {u : gT} {g : mH} {d b : Nat} {w s bb : Int} (gS : St g) (hb : tbI g) (w0 : 0 ≤ w ∧ w ≤ 1400000000) (s0 : 0 ≤ s ∧ s ≤ 139986) (b0 : 0 ≤ bb ∧ bb < 16384) : Rlt (gX (gq u)) MX1_keepBetter d b [(2, 11), (0, w), (0, s), (0, bb)] g (fun r h1 => r = (9, 0) ∧ St h1 ∧ Kc g h1 ∧ tr3 h1 = bet (w, s, bb) (tr3 g) ∧ tbI h1) := by
  refine Rlt.of ?_
  have hb2 := hb
  unfold tbI at hb2
  show WP (gX (gq u)) MX1_keepBetter d b _ 0 [(2, 11), (0, w), (0, s), (0, bb), (9, 0)] [] g
  refine wp_iload_n rfl rfl dX1_keepBetter_0 ?_
  refine wp_aload_n rfl rfl dX1_keepBetter_1 ?_
  refine wp_getfield1 (z := 2) (kI := 8) fX1_37 dX1_keepBetter_2 (by first | omega | (simp (disch := omega) only [up2_ne, up2_eq, st_11_m1 gS]; first | done | omega)) (by first | assumption | (simp (disch := omega) only [up2_ne, up2_eq, st_11_m1 gS]; first | done | rfl | omega)) rfl rfl ?_
  try simp (disch := omega) only [up2_ne, up2_eq, st_11_m1 gS]
  refine wp_icmp_gt (tgt := 40) (by first | assumption | exact bI_in _ | exact ⟨by omega, by omega⟩ | exact iAnd_in | exact iOr_in | exact iShr_in | exact iShl_in | exact iXor_in | exact hxs _) (by first | assumption | exact bI_in _ | exact ⟨by omega, by omega⟩ | exact iAnd_in | exact iOr_in | exact iShr_in | exact iShl_in | exact iXor_in | exact hxs _) dX1_keepBetter_5 (by decide) (fun c1 => ?_) (fun c1 => ?_)
  · refine wp_iconst dX1_keepBetter_40 ?_
    refine wp_goto (tgt := 45) dX1_keepBetter_41 (by decide) ?_
    refine wp_istore dX1_keepBetter_45 rfl (Nat.le_of_ble_eq_true rfl) rfl ?_
    try simp only [List.set_cons_zero, List.set_cons_succ]
    refine wp_iload rfl dX1_keepBetter_47 ?_
    refine wp_if_eq (tgt := 67) (by first | assumption | exact bI_in _ | exact ⟨by omega, by omega⟩ | exact iAnd_in | exact iOr_in | exact iShr_in | exact iShl_in | exact iXor_in | exact hxs _) dX1_keepBetter_49 (by decide) (fun hx => absurd hx (by decide)) (fun hx => ?_)
    refine wp_aload_n rfl rfl dX1_keepBetter_52 ?_
    refine wp_iload_n rfl rfl dX1_keepBetter_53 ?_
    refine wp_putfield1 (z := 2) (kI := 8) fX1_37 dX1_keepBetter_54 (by first | omega | (simp (disch := omega) only [up2_ne, up2_eq, st_11_m1 gS]; first | done | omega)) (by first | assumption | (simp (disch := omega) only [up2_ne, up2_eq, st_11_m1 gS]; first | done | rfl | omega)) rfl rfl ?_
    refine wp_aload_n rfl rfl dX1_keepBetter_57 ?_
    refine wp_iload_n rfl rfl dX1_keepBetter_58 ?_
    refine wp_putfield1 (z := 2) (kI := 9) fX1_40 dX1_keepBetter_59 (by first | omega | (simp (disch := omega) only [up2_ne, up2_eq, st_11_m1 gS]; first | done | omega)) (by first | assumption | (simp (disch := omega) only [up2_ne, up2_eq, st_11_m1 gS]; first | done | rfl | omega)) rfl rfl ?_
    refine wp_aload_n rfl rfl dX1_keepBetter_62 ?_
    refine wp_iload_n rfl rfl dX1_keepBetter_63 ?_
    refine wp_putfield1 (z := 2) (kI := 10) fX1_43 dX1_keepBetter_64 (by first | omega | (simp (disch := omega) only [up2_ne, up2_eq, st_11_m1 gS]; first | done | omega)) (by first | assumption | (simp (disch := omega) only [up2_ne, up2_eq, st_11_m1 gS]; first | done | rfl | omega)) rfl rfl ?_
    refine wp_vret dX1_keepBetter_67 rfl ?_
    first
      | (exfalso; omega)
      | (have q : tgt (w, s, bb) (tr3 g) := by show g 11 8 < w ∨ (w = g 11 8 ∧ (s < g 11 9 ∨ (s = g 11 9 ∧ bb < g 11 10))); omega
         refine ⟨rfl, ((gS.up (by decide +kernel)).up (by decide +kernel)).up (by decide +kernel), fun x k z => ?_, ?_, ?_⟩
         · simp (disch := omega) only [up2_ne]
         · unfold bet
           rw [if_pos q]
           unfold tr3
           simp (disch := omega) only [up2_ne, up2_eq]
         · unfold tbI
           simp (disch := omega) only [up2_ne, up2_eq]
           omega)
      | (have q : ¬ tgt (w, s, bb) (tr3 g) := by show ¬ (g 11 8 < w ∨ (w = g 11 8 ∧ (s < g 11 9 ∨ (s = g 11 9 ∧ bb < g 11 10)))); omega
         refine ⟨rfl, gS, fun x k z => rfl, ?_, hb⟩
         unfold bet
         rw [if_neg q])
  · refine wp_iload_n rfl rfl dX1_keepBetter_8 ?_
    refine wp_aload_n rfl rfl dX1_keepBetter_9 ?_
    refine wp_getfield1 (z := 2) (kI := 8) fX1_37 dX1_keepBetter_10 (by first | omega | (simp (disch := omega) only [up2_ne, up2_eq, st_11_m1 gS]; first | done | omega)) (by first | assumption | (simp (disch := omega) only [up2_ne, up2_eq, st_11_m1 gS]; first | done | rfl | omega)) rfl rfl ?_
    try simp (disch := omega) only [up2_ne, up2_eq, st_11_m1 gS]
    refine wp_icmp_ne (tgt := 44) (by first | assumption | exact bI_in _ | exact ⟨by omega, by omega⟩ | exact iAnd_in | exact iOr_in | exact iShr_in | exact iShl_in | exact iXor_in | exact hxs _) (by first | assumption | exact bI_in _ | exact ⟨by omega, by omega⟩ | exact iAnd_in | exact iOr_in | exact iShr_in | exact iShl_in | exact iXor_in | exact hxs _) dX1_keepBetter_13 (by decide) (fun c2 => ?_) (fun c2 => ?_)
    · refine wp_iconst dX1_keepBetter_44 ?_
      refine wp_istore dX1_keepBetter_45 rfl (Nat.le_of_ble_eq_true rfl) rfl ?_
      try simp only [List.set_cons_zero, List.set_cons_succ]
      refine wp_iload rfl dX1_keepBetter_47 ?_
      refine wp_if_eq (tgt := 67) (by first | assumption | exact bI_in _ | exact ⟨by omega, by omega⟩ | exact iAnd_in | exact iOr_in | exact iShr_in | exact iShl_in | exact iXor_in | exact hxs _) dX1_keepBetter_49 (by decide) (fun hx => ?_) (fun hx => absurd hx (by decide))
      refine wp_vret dX1_keepBetter_67 rfl ?_
      first
        | (exfalso; omega)
        | (have q : tgt (w, s, bb) (tr3 g) := by show g 11 8 < w ∨ (w = g 11 8 ∧ (s < g 11 9 ∨ (s = g 11 9 ∧ bb < g 11 10))); omega
           refine ⟨rfl, ((gS.up (by decide +kernel)).up (by decide +kernel)).up (by decide +kernel), fun x k z => ?_, ?_, ?_⟩
           · simp (disch := omega) only [up2_ne]
           · unfold bet
             rw [if_pos q]
             unfold tr3
             simp (disch := omega) only [up2_ne, up2_eq]
           · unfold tbI
             simp (disch := omega) only [up2_ne, up2_eq]
             omega)
        | (have q : ¬ tgt (w, s, bb) (tr3 g) := by show ¬ (g 11 8 < w ∨ (w = g 11 8 ∧ (s < g 11 9 ∨ (s = g 11 9 ∧ bb < g 11 10)))); omega
           refine ⟨rfl, gS, fun x k z => rfl, ?_, hb⟩
           unfold bet
           rw [if_neg q])
    · refine wp_iload_n rfl rfl dX1_keepBetter_16 ?_
      refine wp_aload_n rfl rfl dX1_keepBetter_17 ?_
      refine wp_getfield1 (z := 2) (kI := 9) fX1_40 dX1_keepBetter_18 (by first | omega | (simp (disch := omega) only [up2_ne, up2_eq, st_11_m1 gS]; first | done | omega)) (by first | assumption | (simp (disch := omega) only [up2_ne, up2_eq, st_11_m1 gS]; first | done | rfl | omega)) rfl rfl ?_
      try simp (disch := omega) only [up2_ne, up2_eq, st_11_m1 gS]
      refine wp_icmp_lt (tgt := 40) (by first | assumption | exact bI_in _ | exact ⟨by omega, by omega⟩ | exact iAnd_in | exact iOr_in | exact iShr_in | exact iShl_in | exact iXor_in | exact hxs _) (by first | assumption | exact bI_in _ | exact ⟨by omega, by omega⟩ | exact iAnd_in | exact iOr_in | exact iShr_in | exact iShl_in | exact iXor_in | exact hxs _) dX1_keepBetter_21 (by decide) (fun c3 => ?_) (fun c3 => ?_)
      · refine wp_iconst dX1_keepBetter_40 ?_
        refine wp_goto (tgt := 45) dX1_keepBetter_41 (by decide) ?_
        refine wp_istore dX1_keepBetter_45 rfl (Nat.le_of_ble_eq_true rfl) rfl ?_
        try simp only [List.set_cons_zero, List.set_cons_succ]
        refine wp_iload rfl dX1_keepBetter_47 ?_
        refine wp_if_eq (tgt := 67) (by first | assumption | exact bI_in _ | exact ⟨by omega, by omega⟩ | exact iAnd_in | exact iOr_in | exact iShr_in | exact iShl_in | exact iXor_in | exact hxs _) dX1_keepBetter_49 (by decide) (fun hx => absurd hx (by decide)) (fun hx => ?_)
        refine wp_aload_n rfl rfl dX1_keepBetter_52 ?_
        refine wp_iload_n rfl rfl dX1_keepBetter_53 ?_
        refine wp_putfield1 (z := 2) (kI := 8) fX1_37 dX1_keepBetter_54 (by first | omega | (simp (disch := omega) only [up2_ne, up2_eq, st_11_m1 gS]; first | done | omega)) (by first | assumption | (simp (disch := omega) only [up2_ne, up2_eq, st_11_m1 gS]; first | done | rfl | omega)) rfl rfl ?_
        refine wp_aload_n rfl rfl dX1_keepBetter_57 ?_
        refine wp_iload_n rfl rfl dX1_keepBetter_58 ?_
        refine wp_putfield1 (z := 2) (kI := 9) fX1_40 dX1_keepBetter_59 (by first | omega | (simp (disch := omega) only [up2_ne, up2_eq, st_11_m1 gS]; first | done | omega)) (by first | assumption | (simp (disch := omega) only [up2_ne, up2_eq, st_11_m1 gS]; first | done | rfl | omega)) rfl rfl ?_
        refine wp_aload_n rfl rfl dX1_keepBetter_62 ?_
        refine wp_iload_n rfl rfl dX1_keepBetter_63 ?_
        refine wp_putfield1 (z := 2) (kI := 10) fX1_43 dX1_keepBetter_64 (by first | omega | (simp (disch := omega) only [up2_ne, up2_eq, st_11_m1 gS]; first | done | omega)) (by first | assumption | (simp (disch := omega) only [up2_ne, up2_eq, st_11_m1 gS]; first | done | rfl | omega)) rfl rfl ?_
        refine wp_vret dX1_keepBetter_67 rfl ?_
        first
          | (exfalso; omega)
          | (have q : tgt (w, s, bb) (tr3 g) := by show g 11 8 < w ∨ (w = g 11 8 ∧ (s < g 11 9 ∨ (s = g 11 9 ∧ bb < g 11 10))); omega
             refine ⟨rfl, ((gS.up (by decide +kernel)).up (by decide +kernel)).up (by decide +kernel), fun x k z => ?_, ?_, ?_⟩
             · simp (disch := omega) only [up2_ne]
             · unfold bet
               rw [if_pos q]
               unfold tr3
               simp (disch := omega) only [up2_ne, up2_eq]
             · unfold tbI
               simp (disch := omega) only [up2_ne, up2_eq]
               omega)
          | (have q : ¬ tgt (w, s, bb) (tr3 g) := by show ¬ (g 11 8 < w ∨ (w = g 11 8 ∧ (s < g 11 9 ∨ (s = g 11 9 ∧ bb < g 11 10)))); omega
             refine ⟨rfl, gS, fun x k z => rfl, ?_, hb⟩
             unfold bet
             rw [if_neg q])
      · refine wp_iload_n rfl rfl dX1_keepBetter_24 ?_
        refine wp_aload_n rfl rfl dX1_keepBetter_25 ?_
        refine wp_getfield1 (z := 2) (kI := 9) fX1_40 dX1_keepBetter_26 (by first | omega | (simp (disch := omega) only [up2_ne, up2_eq, st_11_m1 gS]; first | done | omega)) (by first | assumption | (simp (disch := omega) only [up2_ne, up2_eq, st_11_m1 gS]; first | done | rfl | omega)) rfl rfl ?_
        try simp (disch := omega) only [up2_ne, up2_eq, st_11_m1 gS]
        refine wp_icmp_ne (tgt := 44) (by first | assumption | exact bI_in _ | exact ⟨by omega, by omega⟩ | exact iAnd_in | exact iOr_in | exact iShr_in | exact iShl_in | exact iXor_in | exact hxs _) (by first | assumption | exact bI_in _ | exact ⟨by omega, by omega⟩ | exact iAnd_in | exact iOr_in | exact iShr_in | exact iShl_in | exact iXor_in | exact hxs _) dX1_keepBetter_29 (by decide) (fun c4 => ?_) (fun c4 => ?_)
        · refine wp_iconst dX1_keepBetter_44 ?_
          refine wp_istore dX1_keepBetter_45 rfl (Nat.le_of_ble_eq_true rfl) rfl ?_
          try simp only [List.set_cons_zero, List.set_cons_succ]
          refine wp_iload rfl dX1_keepBetter_47 ?_
          refine wp_if_eq (tgt := 67) (by first | assumption | exact bI_in _ | exact ⟨by omega, by omega⟩ | exact iAnd_in | exact iOr_in | exact iShr_in | exact iShl_in | exact iXor_in | exact hxs _) dX1_keepBetter_49 (by decide) (fun hx => ?_) (fun hx => absurd hx (by decide))
          refine wp_vret dX1_keepBetter_67 rfl ?_
          first
            | (exfalso; omega)
            | (have q : tgt (w, s, bb) (tr3 g) := by show g 11 8 < w ∨ (w = g 11 8 ∧ (s < g 11 9 ∨ (s = g 11 9 ∧ bb < g 11 10))); omega
               refine ⟨rfl, ((gS.up (by decide +kernel)).up (by decide +kernel)).up (by decide +kernel), fun x k z => ?_, ?_, ?_⟩
               · simp (disch := omega) only [up2_ne]
               · unfold bet
                 rw [if_pos q]
                 unfold tr3
                 simp (disch := omega) only [up2_ne, up2_eq]
               · unfold tbI
                 simp (disch := omega) only [up2_ne, up2_eq]
                 omega)
            | (have q : ¬ tgt (w, s, bb) (tr3 g) := by show ¬ (g 11 8 < w ∨ (w = g 11 8 ∧ (s < g 11 9 ∨ (s = g 11 9 ∧ bb < g 11 10)))); omega
               refine ⟨rfl, gS, fun x k z => rfl, ?_, hb⟩
               unfold bet
               rw [if_neg q])
        · refine wp_iload_n rfl rfl dX1_keepBetter_32 ?_
          refine wp_aload_n rfl rfl dX1_keepBetter_33 ?_
          refine wp_getfield1 (z := 2) (kI := 10) fX1_43 dX1_keepBetter_34 (by first | omega | (simp (disch := omega) only [up2_ne, up2_eq, st_11_m1 gS]; first | done | omega)) (by first | assumption | (simp (disch := omega) only [up2_ne, up2_eq, st_11_m1 gS]; first | done | rfl | omega)) rfl rfl ?_
          try simp (disch := omega) only [up2_ne, up2_eq, st_11_m1 gS]
          refine wp_icmp_ge (tgt := 44) (by first | assumption | exact bI_in _ | exact ⟨by omega, by omega⟩ | exact iAnd_in | exact iOr_in | exact iShr_in | exact iShl_in | exact iXor_in | exact hxs _) (by first | assumption | exact bI_in _ | exact ⟨by omega, by omega⟩ | exact iAnd_in | exact iOr_in | exact iShr_in | exact iShl_in | exact iXor_in | exact hxs _) dX1_keepBetter_37 (by decide) (fun c5 => ?_) (fun c5 => ?_)
          · refine wp_iconst dX1_keepBetter_44 ?_
            refine wp_istore dX1_keepBetter_45 rfl (Nat.le_of_ble_eq_true rfl) rfl ?_
            try simp only [List.set_cons_zero, List.set_cons_succ]
            refine wp_iload rfl dX1_keepBetter_47 ?_
            refine wp_if_eq (tgt := 67) (by first | assumption | exact bI_in _ | exact ⟨by omega, by omega⟩ | exact iAnd_in | exact iOr_in | exact iShr_in | exact iShl_in | exact iXor_in | exact hxs _) dX1_keepBetter_49 (by decide) (fun hx => ?_) (fun hx => absurd hx (by decide))
            refine wp_vret dX1_keepBetter_67 rfl ?_
            first
              | (exfalso; omega)
              | (have q : tgt (w, s, bb) (tr3 g) := by show g 11 8 < w ∨ (w = g 11 8 ∧ (s < g 11 9 ∨ (s = g 11 9 ∧ bb < g 11 10))); omega
                 refine ⟨rfl, ((gS.up (by decide +kernel)).up (by decide +kernel)).up (by decide +kernel), fun x k z => ?_, ?_, ?_⟩
                 · simp (disch := omega) only [up2_ne]
                 · unfold bet
                   rw [if_pos q]
                   unfold tr3
                   simp (disch := omega) only [up2_ne, up2_eq]
                 · unfold tbI
                   simp (disch := omega) only [up2_ne, up2_eq]
                   omega)
              | (have q : ¬ tgt (w, s, bb) (tr3 g) := by show ¬ (g 11 8 < w ∨ (w = g 11 8 ∧ (s < g 11 9 ∨ (s = g 11 9 ∧ bb < g 11 10)))); omega
                 refine ⟨rfl, gS, fun x k z => rfl, ?_, hb⟩
                 unfold bet
                 rw [if_neg q])
          · refine wp_iconst dX1_keepBetter_40 ?_
            refine wp_goto (tgt := 45) dX1_keepBetter_41 (by decide) ?_
            refine wp_istore dX1_keepBetter_45 rfl (Nat.le_of_ble_eq_true rfl) rfl ?_
            try simp only [List.set_cons_zero, List.set_cons_succ]
            refine wp_iload rfl dX1_keepBetter_47 ?_
            refine wp_if_eq (tgt := 67) (by first | assumption | exact bI_in _ | exact ⟨by omega, by omega⟩ | exact iAnd_in | exact iOr_in | exact iShr_in | exact iShl_in | exact iXor_in | exact hxs _) dX1_keepBetter_49 (by decide) (fun hx => absurd hx (by decide)) (fun hx => ?_)
            refine wp_aload_n rfl rfl dX1_keepBetter_52 ?_
            refine wp_iload_n rfl rfl dX1_keepBetter_53 ?_
            refine wp_putfield1 (z := 2) (kI := 8) fX1_37 dX1_keepBetter_54 (by first | omega | (simp (disch := omega) only [up2_ne, up2_eq, st_11_m1 gS]; first | done | omega)) (by first | assumption | (simp (disch := omega) only [up2_ne, up2_eq, st_11_m1 gS]; first | done | rfl | omega)) rfl rfl ?_
            refine wp_aload_n rfl rfl dX1_keepBetter_57 ?_
            refine wp_iload_n rfl rfl dX1_keepBetter_58 ?_
            refine wp_putfield1 (z := 2) (kI := 9) fX1_40 dX1_keepBetter_59 (by first | omega | (simp (disch := omega) only [up2_ne, up2_eq, st_11_m1 gS]; first | done | omega)) (by first | assumption | (simp (disch := omega) only [up2_ne, up2_eq, st_11_m1 gS]; first | done | rfl | omega)) rfl rfl ?_
            refine wp_aload_n rfl rfl dX1_keepBetter_62 ?_
            refine wp_iload_n rfl rfl dX1_keepBetter_63 ?_
            refine wp_putfield1 (z := 2) (kI := 10) fX1_43 dX1_keepBetter_64 (by first | omega | (simp (disch := omega) only [up2_ne, up2_eq, st_11_m1 gS]; first | done | omega)) (by first | assumption | (simp (disch := omega) only [up2_ne, up2_eq, st_11_m1 gS]; first | done | rfl | omega)) rfl rfl ?_
            refine wp_vret dX1_keepBetter_67 rfl ?_
            first
              | (exfalso; omega)
              | (have q : tgt (w, s, bb) (tr3 g) := by show g 11 8 < w ∨ (w = g 11 8 ∧ (s < g 11 9 ∨ (s = g 11 9 ∧ bb < g 11 10))); omega
                 refine ⟨rfl, ((gS.up (by decide +kernel)).up (by decide +kernel)).up (by decide +kernel), fun x k z => ?_, ?_, ?_⟩
                 · simp (disch := omega) only [up2_ne]
                 · unfold bet
                   rw [if_pos q]
                   unfold tr3
                   simp (disch := omega) only [up2_ne, up2_eq]
                 · unfold tbI
                   simp (disch := omega) only [up2_ne, up2_eq]
                   omega)
              | (have q : ¬ tgt (w, s, bb) (tr3 g) := by show ¬ (g 11 8 < w ∨ (w = g 11 8 ∧ (s < g 11 9 ∨ (s = g 11 9 ∧ bb < g 11 10)))); omega
                 refine ⟨rfl, gS, fun x k z => rfl, ?_, hb⟩
                 unfold bet
                 rw [if_neg q])
set_option maxHeartbeats 1000000 in
theorem search_row {u : gT} {m : mH} {L : Int} (L0 : -600000000 ≤ L) (L1 : L ≤ 600000000) : ∀ (t : List Int) {d b : Nat} {g : mH} {i lo : Int} {c : tri}, St g → sfx m g i t → 0 ≤ i → i + (t.length : Int) ≤ 14 → g 11 7 = L → 0 ≤ lo → lo ≤ 14 → asc lo t → (∀ a ∈ t, itm m a) → (0 ≤ c.1 ∧ c.1 ≤ 100000000 * i) → (0 ≤ c.2.1 ∧ c.2.1 ≤ 9999 * i) → (0 ≤ c.2.2 ∧ c.2.2 < 2 ^ lo.toNat) → tbI g → Rlt (gX (gq u)) MX1_search (d + t.length + 1) b [(2, 11), (0, i), (0, c.1), (0, c.2.1), (0, c.2.2)] g (fun r h1 => r = (9, 0) ∧ St h1 ∧ Kc g h1 ∧ tr3 h1 = sch L (t.map (ti m)) c (tr3 g) ∧ tbI h1) := by
  intro t
  induction t with
  | nil =>
    intro d b g i lo c gS hf i0 i14 hL lo0 lo1 has hit hc1 hc2 hc3 hb
    obtain ⟨q6, q22, q23, q24⟩ := hf
    have hb2 := hb
    unfold tbI at hb2
    have h14 : i ≤ 14 := by simpa using i14
    have hp := p2_14 (a := lo.toNat) (by omega)
    have hor : iOr c.2.2 0 = c.2.2 + 0 := or_sum (q := 0) hc3.1 hc3.2 (Int.le_refl _) (Int.mul_zero _).symm (by decide) (by omega)
    refine Rlt.of ?_
    show WP (gX (gq u)) MX1_search (d + 0 + 1) b _ 0 [(2, 11), (0, i), (0, c.1), (0, c.2.1), (0, c.2.2)] [] g
    refine wp_iload_n rfl rfl dX1_search_0 ?_
    refine wp_if_lt (tgt := 12) (by first | assumption | exact bI_in _ | exact ⟨by omega, by omega⟩ | exact iAnd_in | exact iOr_in | exact iShr_in | exact iShl_in | exact iXor_in | exact hxs _) dX1_search_1 (by decide) (fun c1 => by exfalso; omega) (fun c1 => ?_)
    refine wp_iload_n rfl rfl dX1_search_4 ?_
    refine wp_aload_n rfl rfl dX1_search_5 ?_
    refine wp_getfield1 (z := 2) (kI := 6) fX1_34 dX1_search_6 (by first | omega | (simp (disch := omega) only [up2_ne, up2_eq, q6, q22, q23, q24, hL, st_11_m1 gS, st_11_3 gS, st_11_4 gS, st_11_5 gS, st_22_m2 gS, st_22_m1 gS, st_23_m2 gS, st_23_m1 gS, st_24_m2 gS, st_24_m1 gS]; first | done | omega)) (by first | assumption | (simp (disch := omega) only [up2_ne, up2_eq, q6, q22, q23, q24, hL, st_11_m1 gS, st_11_3 gS, st_11_4 gS, st_11_5 gS, st_22_m2 gS, st_22_m1 gS, st_23_m2 gS, st_23_m1 gS, st_24_m2 gS, st_24_m1 gS]; first | done | rfl | omega)) rfl rfl ?_
    try simp (disch := omega) only [up2_ne, up2_eq, q6, q22, q23, q24, hL, st_11_m1 gS, st_11_3 gS, st_11_4 gS, st_11_5 gS, st_22_m2 gS, st_22_m1 gS, st_23_m2 gS, st_23_m1 gS, st_24_m2 gS, st_24_m1 gS]
    refine wp_icmp_le (tgt := 13) (by first | assumption | exact bI_in _ | exact ⟨by omega, by omega⟩ | exact iAnd_in | exact iOr_in | exact iShr_in | exact iShl_in | exact iXor_in | exact hxs _) (by first | assumption | exact bI_in _ | exact ⟨by omega, by omega⟩ | exact iAnd_in | exact iOr_in | exact iShr_in | exact iShl_in | exact iXor_in | exact hxs _) dX1_search_9 (by decide) (fun c2 => ?_) (fun c2 => by exfalso; omega)
    refine wp_iload_n rfl rfl dX1_search_13 ?_
    refine wp_aload_n rfl rfl dX1_search_14 ?_
    refine wp_getfield1 (z := 2) (kI := 3) fX1_21 dX1_search_15 (by first | omega | (simp (disch := omega) only [up2_ne, up2_eq, q6, q22, q23, q24, hL, st_11_m1 gS, st_11_3 gS, st_11_4 gS, st_11_5 gS, st_22_m2 gS, st_22_m1 gS, st_23_m2 gS, st_23_m1 gS, st_24_m2 gS, st_24_m1 gS]; first | done | omega)) (by first | assumption | (simp (disch := omega) only [up2_ne, up2_eq, q6, q22, q23, q24, hL, st_11_m1 gS, st_11_3 gS, st_11_4 gS, st_11_5 gS, st_22_m2 gS, st_22_m1 gS, st_23_m2 gS, st_23_m1 gS, st_24_m2 gS, st_24_m1 gS]; first | done | rfl | omega)) rfl rfl ?_
    try simp (disch := omega) only [up2_ne, up2_eq, q6, q22, q23, q24, hL, st_11_m1 gS, st_11_3 gS, st_11_4 gS, st_11_5 gS, st_22_m2 gS, st_22_m1 gS, st_23_m2 gS, st_23_m1 gS, st_24_m2 gS, st_24_m1 gS]
    refine wp_iload_n rfl rfl dX1_search_18 ?_
    refine wp_iaload1 dX1_search_19 (by first | omega | (simp (disch := omega) only [up2_ne, up2_eq, q6, q22, q23, q24, hL, st_11_m1 gS, st_11_3 gS, st_11_4 gS, st_11_5 gS, st_22_m2 gS, st_22_m1 gS, st_23_m2 gS, st_23_m1 gS, st_24_m2 gS, st_24_m1 gS]; first | done | omega)) (by first | assumption | (simp (disch := omega) only [up2_ne, up2_eq, q6, q22, q23, q24, hL, st_11_m1 gS, st_11_3 gS, st_11_4 gS, st_11_5 gS, st_22_m2 gS, st_22_m1 gS, st_23_m2 gS, st_23_m1 gS, st_24_m2 gS, st_24_m1 gS]; first | done | rfl | omega)) (by first | omega | (simp (disch := omega) only [up2_ne, up2_eq, q6, q22, q23, q24, hL, st_11_m1 gS, st_11_3 gS, st_11_4 gS, st_11_5 gS, st_22_m2 gS, st_22_m1 gS, st_23_m2 gS, st_23_m1 gS, st_24_m2 gS, st_24_m1 gS]; first | done | omega)) (by first | omega | (simp (disch := omega) only [up2_ne, up2_eq, q6, q22, q23, q24, hL, st_11_m1 gS, st_11_3 gS, st_11_4 gS, st_11_5 gS, st_22_m2 gS, st_22_m1 gS, st_23_m2 gS, st_23_m1 gS, st_24_m2 gS, st_24_m1 gS]; first | done | omega)) ?_
    try simp (disch := omega) only [up2_ne, up2_eq, q6, q22, q23, q24, hL, st_11_m1 gS, st_11_3 gS, st_11_4 gS, st_11_5 gS, st_22_m2 gS, st_22_m1 gS, st_23_m2 gS, st_23_m1 gS, st_24_m2 gS, st_24_m1 gS]
    refine wp_iadd dX1_search_20 ?_
    refine wp_aload_n rfl rfl dX1_search_21 ?_
    refine wp_getfield1 (z := 2) (kI := 7) fX1_30 dX1_search_22 (by first | omega | (simp (disch := omega) only [up2_ne, up2_eq, q6, q22, q23, q24, hL, st_11_m1 gS, st_11_3 gS, st_11_4 gS, st_11_5 gS, st_22_m2 gS, st_22_m1 gS, st_23_m2 gS, st_23_m1 gS, st_24_m2 gS, st_24_m1 gS]; first | done | omega)) (by first | assumption | (simp (disch := omega) only [up2_ne, up2_eq, q6, q22, q23, q24, hL, st_11_m1 gS, st_11_3 gS, st_11_4 gS, st_11_5 gS, st_22_m2 gS, st_22_m1 gS, st_23_m2 gS, st_23_m1 gS, st_24_m2 gS, st_24_m1 gS]; first | done | rfl | omega)) rfl rfl ?_
    try simp (disch := omega) only [up2_ne, up2_eq, q6, q22, q23, q24, hL, st_11_m1 gS, st_11_3 gS, st_11_4 gS, st_11_5 gS, st_22_m2 gS, st_22_m1 gS, st_23_m2 gS, st_23_m1 gS, st_24_m2 gS, st_24_m1 gS]
    refine wp_icmp_gt (tgt := 58) (by first | assumption | exact bI_in _ | exact ⟨by omega, by omega⟩ | exact iAnd_in | exact iOr_in | exact iShr_in | exact iShl_in | exact iXor_in | exact hxs _) (by first | assumption | exact bI_in _ | exact ⟨by omega, by omega⟩ | exact iAnd_in | exact iOr_in | exact iShr_in | exact iShl_in | exact iXor_in | exact hxs _) dX1_search_25 (by decide) (fun c3 => ?_) (fun c3 => ?_)
    · refine wp_iload_n rfl rfl dX1_search_58 ?_
      refine wp_aload_n rfl rfl dX1_search_59 ?_
      refine wp_getfield1 (z := 2) (kI := 4) fX1_24 dX1_search_60 (by first | omega | (simp (disch := omega) only [up2_ne, up2_eq, q6, q22, q23, q24, hL, st_11_m1 gS, st_11_3 gS, st_11_4 gS, st_11_5 gS, st_22_m2 gS, st_22_m1 gS, st_23_m2 gS, st_23_m1 gS, st_24_m2 gS, st_24_m1 gS]; first | done | omega)) (by first | assumption | (simp (disch := omega) only [up2_ne, up2_eq, q6, q22, q23, q24, hL, st_11_m1 gS, st_11_3 gS, st_11_4 gS, st_11_5 gS, st_22_m2 gS, st_22_m1 gS, st_23_m2 gS, st_23_m1 gS, st_24_m2 gS, st_24_m1 gS]; first | done | rfl | omega)) rfl rfl ?_
      try simp (disch := omega) only [up2_ne, up2_eq, q6, q22, q23, q24, hL, st_11_m1 gS, st_11_3 gS, st_11_4 gS, st_11_5 gS, st_22_m2 gS, st_22_m1 gS, st_23_m2 gS, st_23_m1 gS, st_24_m2 gS, st_24_m1 gS]
      refine wp_iload_n rfl rfl dX1_search_63 ?_
      refine wp_iaload1 dX1_search_64 (by first | omega | (simp (disch := omega) only [up2_ne, up2_eq, q6, q22, q23, q24, hL, st_11_m1 gS, st_11_3 gS, st_11_4 gS, st_11_5 gS, st_22_m2 gS, st_22_m1 gS, st_23_m2 gS, st_23_m1 gS, st_24_m2 gS, st_24_m1 gS]; first | done | omega)) (by first | assumption | (simp (disch := omega) only [up2_ne, up2_eq, q6, q22, q23, q24, hL, st_11_m1 gS, st_11_3 gS, st_11_4 gS, st_11_5 gS, st_22_m2 gS, st_22_m1 gS, st_23_m2 gS, st_23_m1 gS, st_24_m2 gS, st_24_m1 gS]; first | done | rfl | omega)) (by first | omega | (simp (disch := omega) only [up2_ne, up2_eq, q6, q22, q23, q24, hL, st_11_m1 gS, st_11_3 gS, st_11_4 gS, st_11_5 gS, st_22_m2 gS, st_22_m1 gS, st_23_m2 gS, st_23_m1 gS, st_24_m2 gS, st_24_m1 gS]; first | done | omega)) (by first | omega | (simp (disch := omega) only [up2_ne, up2_eq, q6, q22, q23, q24, hL, st_11_m1 gS, st_11_3 gS, st_11_4 gS, st_11_5 gS, st_22_m2 gS, st_22_m1 gS, st_23_m2 gS, st_23_m1 gS, st_24_m2 gS, st_24_m1 gS]; first | done | omega)) ?_
      try simp (disch := omega) only [up2_ne, up2_eq, q6, q22, q23, q24, hL, st_11_m1 gS, st_11_3 gS, st_11_4 gS, st_11_5 gS, st_22_m2 gS, st_22_m1 gS, st_23_m2 gS, st_23_m1 gS, st_24_m2 gS, st_24_m1 gS]
      refine wp_iadd dX1_search_65 ?_
      refine wp_aload_n rfl rfl dX1_search_66 ?_
      refine wp_getfield1 (z := 2) (kI := 8) fX1_37 dX1_search_67 (by first | omega | (simp (disch := omega) only [up2_ne, up2_eq, q6, q22, q23, q24, hL, st_11_m1 gS, st_11_3 gS, st_11_4 gS, st_11_5 gS, st_22_m2 gS, st_22_m1 gS, st_23_m2 gS, st_23_m1 gS, st_24_m2 gS, st_24_m1 gS]; first | done | omega)) (by first | assumption | (simp (disch := omega) only [up2_ne, up2_eq, q6, q22, q23, q24, hL, st_11_m1 gS, st_11_3 gS, st_11_4 gS, st_11_5 gS, st_22_m2 gS, st_22_m1 gS, st_23_m2 gS, st_23_m1 gS, st_24_m2 gS, st_24_m1 gS]; first | done | rfl | omega)) rfl rfl ?_
      try simp (disch := omega) only [up2_ne, up2_eq, q6, q22, q23, q24, hL, st_11_m1 gS, st_11_3 gS, st_11_4 gS, st_11_5 gS, st_22_m2 gS, st_22_m1 gS, st_23_m2 gS, st_23_m1 gS, st_24_m2 gS, st_24_m1 gS]
      refine wp_icmp_le (tgt := 81) (by first | assumption | exact bI_in _ | exact ⟨by omega, by omega⟩ | exact iAnd_in | exact iOr_in | exact iShr_in | exact iShl_in | exact iXor_in | exact hxs _) (by first | assumption | exact bI_in _ | exact ⟨by omega, by omega⟩ | exact iAnd_in | exact iOr_in | exact iShr_in | exact iShl_in | exact iXor_in | exact hxs _) dX1_search_70 (by decide) (fun c4 => ?_) (fun c4 => ?_)
      · refine wp_vret dX1_search_81 rfl ?_
        first
          | (exfalso; omega)
          | (refine ⟨rfl, S1, K1, ?_, B1⟩
             rw [T1]
             show _ = (if c.2.1 ≤ L then bet c (tr3 g) else tr3 g)
             rw [if_pos (by omega), Int.add_zero, Int.add_zero, Int.add_zero])
          | (refine ⟨rfl, gS, fun _ _ _ => rfl, ?_, hb⟩
             show _ = (if c.2.1 ≤ L then bet c (tr3 g) else tr3 g)
             rw [if_neg (by omega)])
      · refine wp_iload_n rfl rfl dX1_search_73 ?_
        refine wp_aload_n rfl rfl dX1_search_74 ?_
        refine wp_getfield1 (z := 2) (kI := 6) fX1_34 dX1_search_75 (by first | omega | (simp (disch := omega) only [up2_ne, up2_eq, q6, q22, q23, q24, hL, st_11_m1 gS, st_11_3 gS, st_11_4 gS, st_11_5 gS, st_22_m2 gS, st_22_m1 gS, st_23_m2 gS, st_23_m1 gS, st_24_m2 gS, st_24_m1 gS]; first | done | omega)) (by first | assumption | (simp (disch := omega) only [up2_ne, up2_eq, q6, q22, q23, q24, hL, st_11_m1 gS, st_11_3 gS, st_11_4 gS, st_11_5 gS, st_22_m2 gS, st_22_m1 gS, st_23_m2 gS, st_23_m1 gS, st_24_m2 gS, st_24_m1 gS]; first | done | rfl | omega)) rfl rfl ?_
        try simp (disch := omega) only [up2_ne, up2_eq, q6, q22, q23, q24, hL, st_11_m1 gS, st_11_3 gS, st_11_4 gS, st_11_5 gS, st_22_m2 gS, st_22_m1 gS, st_23_m2 gS, st_23_m1 gS, st_24_m2 gS, st_24_m1 gS]
        refine wp_icmp_ne (tgt := 82) (by first | assumption | exact bI_in _ | exact ⟨by omega, by omega⟩ | exact iAnd_in | exact iOr_in | exact iShr_in | exact iShl_in | exact iXor_in | exact hxs _) (by first | assumption | exact bI_in _ | exact ⟨by omega, by omega⟩ | exact iAnd_in | exact iOr_in | exact iShr_in | exact iShl_in | exact iXor_in | exact hxs _) dX1_search_78 (by decide) (fun c5 => by exfalso; omega) (fun c5 => ?_)
        refine wp_vret dX1_search_81 rfl ?_
        first
          | (exfalso; omega)
          | (refine ⟨rfl, S1, K1, ?_, B1⟩
             rw [T1]
             show _ = (if c.2.1 ≤ L then bet c (tr3 g) else tr3 g)
             rw [if_pos (by omega), Int.add_zero, Int.add_zero, Int.add_zero])
          | (refine ⟨rfl, gS, fun _ _ _ => rfl, ?_, hb⟩
             show _ = (if c.2.1 ≤ L then bet c (tr3 g) else tr3 g)
             rw [if_neg (by omega)])
    · refine wp_aload_n rfl rfl dX1_search_28 ?_
      refine wp_iload_n rfl rfl dX1_search_29 ?_
      refine wp_aload_n rfl rfl dX1_search_30 ?_
      refine wp_getfield1 (z := 2) (kI := 4) fX1_24 dX1_search_31 (by first | omega | (simp (disch := omega) only [up2_ne, up2_eq, q6, q22, q23, q24, hL, st_11_m1 gS, st_11_3 gS, st_11_4 gS, st_11_5 gS, st_22_m2 gS, st_22_m1 gS, st_23_m2 gS, st_23_m1 gS, st_24_m2 gS, st_24_m1 gS]; first | done | omega)) (by first | assumption | (simp (disch := omega) only [up2_ne, up2_eq, q6, q22, q23, q24, hL, st_11_m1 gS, st_11_3 gS, st_11_4 gS, st_11_5 gS, st_22_m2 gS, st_22_m1 gS, st_23_m2 gS, st_23_m1 gS, st_24_m2 gS, st_24_m1 gS]; first | done | rfl | omega)) rfl rfl ?_
      try simp (disch := omega) only [up2_ne, up2_eq, q6, q22, q23, q24, hL, st_11_m1 gS, st_11_3 gS, st_11_4 gS, st_11_5 gS, st_22_m2 gS, st_22_m1 gS, st_23_m2 gS, st_23_m1 gS, st_24_m2 gS, st_24_m1 gS]
      refine wp_iload_n rfl rfl dX1_search_34 ?_
      refine wp_iaload1 dX1_search_35 (by first | omega | (simp (disch := omega) only [up2_ne, up2_eq, q6, q22, q23, q24, hL, st_11_m1 gS, st_11_3 gS, st_11_4 gS, st_11_5 gS, st_22_m2 gS, st_22_m1 gS, st_23_m2 gS, st_23_m1 gS, st_24_m2 gS, st_24_m1 gS]; first | done | omega)) (by first | assumption | (simp (disch := omega) only [up2_ne, up2_eq, q6, q22, q23, q24, hL, st_11_m1 gS, st_11_3 gS, st_11_4 gS, st_11_5 gS, st_22_m2 gS, st_22_m1 gS, st_23_m2 gS, st_23_m1 gS, st_24_m2 gS, st_24_m1 gS]; first | done | rfl | omega)) (by first | omega | (simp (disch := omega) only [up2_ne, up2_eq, q6, q22, q23, q24, hL, st_11_m1 gS, st_11_3 gS, st_11_4 gS, st_11_5 gS, st_22_m2 gS, st_22_m1 gS, st_23_m2 gS, st_23_m1 gS, st_24_m2 gS, st_24_m1 gS]; first | done | omega)) (by first | omega | (simp (disch := omega) only [up2_ne, up2_eq, q6, q22, q23, q24, hL, st_11_m1 gS, st_11_3 gS, st_11_4 gS, st_11_5 gS, st_22_m2 gS, st_22_m1 gS, st_23_m2 gS, st_23_m1 gS, st_24_m2 gS, st_24_m1 gS]; first | done | omega)) ?_
      try simp (disch := omega) only [up2_ne, up2_eq, q6, q22, q23, q24, hL, st_11_m1 gS, st_11_3 gS, st_11_4 gS, st_11_5 gS, st_22_m2 gS, st_22_m1 gS, st_23_m2 gS, st_23_m1 gS, st_24_m2 gS, st_24_m1 gS]
      refine wp_iadd dX1_search_36 ?_
      refine wp_iload_n rfl rfl dX1_search_37 ?_
      refine wp_aload_n rfl rfl dX1_search_38 ?_
      refine wp_getfield1 (z := 2) (kI := 3) fX1_21 dX1_search_39 (by first | omega | (simp (disch := omega) only [up2_ne, up2_eq, q6, q22, q23, q24, hL, st_11_m1 gS, st_11_3 gS, st_11_4 gS, st_11_5 gS, st_22_m2 gS, st_22_m1 gS, st_23_m2 gS, st_23_m1 gS, st_24_m2 gS, st_24_m1 gS]; first | done | omega)) (by first | assumption | (simp (disch := omega) only [up2_ne, up2_eq, q6, q22, q23, q24, hL, st_11_m1 gS, st_11_3 gS, st_11_4 gS, st_11_5 gS, st_22_m2 gS, st_22_m1 gS, st_23_m2 gS, st_23_m1 gS, st_24_m2 gS, st_24_m1 gS]; first | done | rfl | omega)) rfl rfl ?_
      try simp (disch := omega) only [up2_ne, up2_eq, q6, q22, q23, q24, hL, st_11_m1 gS, st_11_3 gS, st_11_4 gS, st_11_5 gS, st_22_m2 gS, st_22_m1 gS, st_23_m2 gS, st_23_m1 gS, st_24_m2 gS, st_24_m1 gS]
      refine wp_iload_n rfl rfl dX1_search_42 ?_
      refine wp_iaload1 dX1_search_43 (by first | omega | (simp (disch := omega) only [up2_ne, up2_eq, q6, q22, q23, q24, hL, st_11_m1 gS, st_11_3 gS, st_11_4 gS, st_11_5 gS, st_22_m2 gS, st_22_m1 gS, st_23_m2 gS, st_23_m1 gS, st_24_m2 gS, st_24_m1 gS]; first | done | omega)) (by first | assumption | (simp (disch := omega) only [up2_ne, up2_eq, q6, q22, q23, q24, hL, st_11_m1 gS, st_11_3 gS, st_11_4 gS, st_11_5 gS, st_22_m2 gS, st_22_m1 gS, st_23_m2 gS, st_23_m1 gS, st_24_m2 gS, st_24_m1 gS]; first | done | rfl | omega)) (by first | omega | (simp (disch := omega) only [up2_ne, up2_eq, q6, q22, q23, q24, hL, st_11_m1 gS, st_11_3 gS, st_11_4 gS, st_11_5 gS, st_22_m2 gS, st_22_m1 gS, st_23_m2 gS, st_23_m1 gS, st_24_m2 gS, st_24_m1 gS]; first | done | omega)) (by first | omega | (simp (disch := omega) only [up2_ne, up2_eq, q6, q22, q23, q24, hL, st_11_m1 gS, st_11_3 gS, st_11_4 gS, st_11_5 gS, st_22_m2 gS, st_22_m1 gS, st_23_m2 gS, st_23_m1 gS, st_24_m2 gS, st_24_m1 gS]; first | done | omega)) ?_
      try simp (disch := omega) only [up2_ne, up2_eq, q6, q22, q23, q24, hL, st_11_m1 gS, st_11_3 gS, st_11_4 gS, st_11_5 gS, st_22_m2 gS, st_22_m1 gS, st_23_m2 gS, st_23_m1 gS, st_24_m2 gS, st_24_m1 gS]
      refine wp_iadd dX1_search_44 ?_
      refine wp_iload rfl dX1_search_45 ?_
      refine wp_aload_n rfl rfl dX1_search_47 ?_
      refine wp_getfield1 (z := 2) (kI := 5) fX1_27 dX1_search_48 (by first | omega | (simp (disch := omega) only [up2_ne, up2_eq, q6, q22, q23, q24, hL, st_11_m1 gS, st_11_3 gS, st_11_4 gS, st_11_5 gS, st_22_m2 gS, st_22_m1 gS, st_23_m2 gS, st_23_m1 gS, st_24_m2 gS, st_24_m1 gS]; first | done | omega)) (by first | assumption | (simp (disch := omega) only [up2_ne, up2_eq, q6, q22, q23, q24, hL, st_11_m1 gS, st_11_3 gS, st_11_4 gS, st_11_5 gS, st_22_m2 gS, st_22_m1 gS, st_23_m2 gS, st_23_m1 gS, st_24_m2 gS, st_24_m1 gS]; first | done | rfl | omega)) rfl rfl ?_
      try simp (disch := omega) only [up2_ne, up2_eq, q6, q22, q23, q24, hL, st_11_m1 gS, st_11_3 gS, st_11_4 gS, st_11_5 gS, st_22_m2 gS, st_22_m1 gS, st_23_m2 gS, st_23_m1 gS, st_24_m2 gS, st_24_m1 gS]
      refine wp_iload_n rfl rfl dX1_search_51 ?_
      refine wp_iaload1 dX1_search_52 (by first | omega | (simp (disch := omega) only [up2_ne, up2_eq, q6, q22, q23, q24, hL, st_11_m1 gS, st_11_3 gS, st_11_4 gS, st_11_5 gS, st_22_m2 gS, st_22_m1 gS, st_23_m2 gS, st_23_m1 gS, st_24_m2 gS, st_24_m1 gS]; first | done | omega)) (by first | assumption | (simp (disch := omega) only [up2_ne, up2_eq, q6, q22, q23, q24, hL, st_11_m1 gS, st_11_3 gS, st_11_4 gS, st_11_5 gS, st_22_m2 gS, st_22_m1 gS, st_23_m2 gS, st_23_m1 gS, st_24_m2 gS, st_24_m1 gS]; first | done | rfl | omega)) (by first | omega | (simp (disch := omega) only [up2_ne, up2_eq, q6, q22, q23, q24, hL, st_11_m1 gS, st_11_3 gS, st_11_4 gS, st_11_5 gS, st_22_m2 gS, st_22_m1 gS, st_23_m2 gS, st_23_m1 gS, st_24_m2 gS, st_24_m1 gS]; first | done | omega)) (by first | omega | (simp (disch := omega) only [up2_ne, up2_eq, q6, q22, q23, q24, hL, st_11_m1 gS, st_11_3 gS, st_11_4 gS, st_11_5 gS, st_22_m2 gS, st_22_m1 gS, st_23_m2 gS, st_23_m1 gS, st_24_m2 gS, st_24_m1 gS]; first | done | omega)) ?_
      try simp (disch := omega) only [up2_ne, up2_eq, q6, q22, q23, q24, hL, st_11_m1 gS, st_11_3 gS, st_11_4 gS, st_11_5 gS, st_22_m2 gS, st_22_m1 gS, st_23_m2 gS, st_23_m1 gS, st_24_m2 gS, st_24_m1 gS]
      refine wp_ior dX1_search_53 ?_
      rw [hor]
      refine wp_cV3r (ci := 1) okX1_keepBetter rfl rfl wX1_50 dX1_search_54 (Nat.le_of_ble_eq_true rfl) (Nat.le_of_ble_eq_true rfl) (by first | omega | (simp (disch := omega) only [up2_ne, up2_eq, q6, q22, q23, q24, hL, st_11_m1 gS, st_11_3 gS, st_11_4 gS, st_11_5 gS, st_22_m2 gS, st_22_m1 gS, st_23_m2 gS, st_23_m1 gS, st_24_m2 gS, st_24_m1 gS]; first | done | omega)) (by first | assumption | (simp (disch := omega) only [up2_ne, up2_eq, q6, q22, q23, q24, hL, st_11_m1 gS, st_11_3 gS, st_11_4 gS, st_11_5 gS, st_22_m2 gS, st_22_m1 gS, st_23_m2 gS, st_23_m1 gS, st_24_m2 gS, st_24_m1 gS]; first | done | rfl | omega)) (s_X1_keepBetter gS hb (by omega) (by omega) (by omega)) (Nat.zero_le _) ?_
      rintro r g1 ⟨rfl, S1, K1, T1, B1⟩ -
      show WP _ _ _ _ _ _ _ [] _
      refine wp_vret dX1_search_57 rfl ?_
      first
        | (exfalso; omega)
        | (refine ⟨rfl, S1, K1, ?_, B1⟩
           rw [T1]
           show _ = (if c.2.1 ≤ L then bet c (tr3 g) else tr3 g)
           rw [if_pos (by omega), Int.add_zero, Int.add_zero, Int.add_zero])
        | (refine ⟨rfl, gS, fun _ _ _ => rfl, ?_, hb⟩
           show _ = (if c.2.1 ≤ L then bet c (tr3 g) else tr3 g)
           rw [if_neg (by omega)])
  | cons a t ih =>
    intro d b g i lo c gS hf i0 i14 hL lo0 lo1 has hit hc1 hc2 hc3 hb
    have hlen := sfx_len _ hf
    rw [List.length_cons] at hlen
    obtain ⟨q6, q19, q20, q21, q22, q23, q24⟩ := hf.1
    have hb2 := hb
    unfold tbI at hb2
    rw [List.length_cons] at i14
    have ha := hit a List.mem_cons_self
    have ha2 := has.1
    have ha3 := has.2.1
    have htb := tl_b (m := m) (a :: t) hit
    rw [List.length_cons] at htb
    obtain ⟨q, q0, q1, q2⟩ := tl_bits (m := m) (a :: t) lo0 lo1 has
    have hp := p2_14 (a := lo.toNat) (by omega)
    have hp0 := p2_pos (k := lo.toNat)
    have hpa := p2_le (a := lo.toNat) (b := a.toNat) (by omega)
    have hpa1 : (2 : Int) ^ (a + 1).toNat = 2 ^ a.toNat * 2 := by rw [show (a + 1).toNat = a.toNat + 1 by omega, Int.pow_succ]
    have hpa2 := p2_14 (a := (a + 1).toNat) (by omega)
    have hor : iOr c.2.2 (tl m (a :: t)).2.2 = c.2.2 + (tl m (a :: t)).2.2 := or_sum hc3.1 hc3.2 q0 q1 (by omega) (by omega)
    have hor1 : iOr c.2.2 (iShl 1 a) = c.2.2 + 2 ^ a.toNat := by
      rw [shl_1 (by omega) ha3]
      exact or_sum (k := a.toNat) (q := 1) hc3.1 (by omega) (by decide) (Int.mul_one _).symm (by omega) (by omega)
    have hqq : 0 ≤ (tl m (a :: t)).2.2 := by rw [q1]; exact Int.mul_nonneg (by omega) q0
    have hE : sch L ((a :: t).map (ti m)) c (tr3 g) = (if c.2.1 + (tl m (a :: t)).2.1 ≤ L then bet (tadd c (tl m (a :: t))) (tr3 g) else if c.1 + (tl m (a :: t)).1 ≤ g 11 8 then tr3 g else sch L (t.map (ti m)) c (if c.2.1 + m 215 a ≤ L then sch L (t.map (ti m)) (tadd c (ti m a)) (tr3 g) else tr3 g)) := rfl
    have hsum : c.2.2 + (tl m (a :: t)).2.2 < 16384 := by omega
    clear q1 q2
    generalize hTL : tl m (a :: t) = TL at *
    refine Rlt.of ?_
    show WP (gX (gq u)) MX1_search (d + (t.length + 1) + 1) b _ 0 [(2, 11), (0, i), (0, c.1), (0, c.2.1), (0, c.2.2)] [] g
    refine wp_iload_n rfl rfl dX1_search_0 ?_
    refine wp_if_lt (tgt := 12) (by first | assumption | exact bI_in _ | exact ⟨by omega, by omega⟩ | exact iAnd_in | exact iOr_in | exact iShr_in | exact iShl_in | exact iXor_in | exact hxs _) dX1_search_1 (by decide) (fun c1 => by exfalso; omega) (fun c1 => ?_)
    refine wp_iload_n rfl rfl dX1_search_4 ?_
    refine wp_aload_n rfl rfl dX1_search_5 ?_
    refine wp_getfield1 (z := 2) (kI := 6) fX1_34 dX1_search_6 (by first | omega | (simp (disch := omega) only [up2_ne, up2_eq, q6, q19, q20, q21, q22, q23, q24, hL, st_11_m1 gS, st_11_0 gS, st_11_1 gS, st_11_2 gS, st_11_3 gS, st_11_4 gS, st_11_5 gS, st_19_m2 gS, st_19_m1 gS, st_20_m2 gS, st_20_m1 gS, st_21_m2 gS, st_21_m1 gS, st_22_m2 gS, st_22_m1 gS, st_23_m2 gS, st_23_m1 gS, st_24_m2 gS, st_24_m1 gS]; first | done | omega)) (by first | assumption | (simp (disch := omega) only [up2_ne, up2_eq, q6, q19, q20, q21, q22, q23, q24, hL, st_11_m1 gS, st_11_0 gS, st_11_1 gS, st_11_2 gS, st_11_3 gS, st_11_4 gS, st_11_5 gS, st_19_m2 gS, st_19_m1 gS, st_20_m2 gS, st_20_m1 gS, st_21_m2 gS, st_21_m1 gS, st_22_m2 gS, st_22_m1 gS, st_23_m2 gS, st_23_m1 gS, st_24_m2 gS, st_24_m1 gS]; first | done | rfl | omega)) rfl rfl ?_
    try simp (disch := omega) only [up2_ne, up2_eq, q6, q19, q20, q21, q22, q23, q24, hL, st_11_m1 gS, st_11_0 gS, st_11_1 gS, st_11_2 gS, st_11_3 gS, st_11_4 gS, st_11_5 gS, st_19_m2 gS, st_19_m1 gS, st_20_m2 gS, st_20_m1 gS, st_21_m2 gS, st_21_m1 gS, st_22_m2 gS, st_22_m1 gS, st_23_m2 gS, st_23_m1 gS, st_24_m2 gS, st_24_m1 gS]
    refine wp_icmp_le (tgt := 13) (by first | assumption | exact bI_in _ | exact ⟨by omega, by omega⟩ | exact iAnd_in | exact iOr_in | exact iShr_in | exact iShl_in | exact iXor_in | exact hxs _) (by first | assumption | exact bI_in _ | exact ⟨by omega, by omega⟩ | exact iAnd_in | exact iOr_in | exact iShr_in | exact iShl_in | exact iXor_in | exact hxs _) dX1_search_9 (by decide) (fun c2 => ?_) (fun c2 => by exfalso; omega)
    refine wp_iload_n rfl rfl dX1_search_13 ?_
    refine wp_aload_n rfl rfl dX1_search_14 ?_
    refine wp_getfield1 (z := 2) (kI := 3) fX1_21 dX1_search_15 (by first | omega | (simp (disch := omega) only [up2_ne, up2_eq, q6, q19, q20, q21, q22, q23, q24, hL, st_11_m1 gS, st_11_0 gS, st_11_1 gS, st_11_2 gS, st_11_3 gS, st_11_4 gS, st_11_5 gS, st_19_m2 gS, st_19_m1 gS, st_20_m2 gS, st_20_m1 gS, st_21_m2 gS, st_21_m1 gS, st_22_m2 gS, st_22_m1 gS, st_23_m2 gS, st_23_m1 gS, st_24_m2 gS, st_24_m1 gS]; first | done | omega)) (by first | assumption | (simp (disch := omega) only [up2_ne, up2_eq, q6, q19, q20, q21, q22, q23, q24, hL, st_11_m1 gS, st_11_0 gS, st_11_1 gS, st_11_2 gS, st_11_3 gS, st_11_4 gS, st_11_5 gS, st_19_m2 gS, st_19_m1 gS, st_20_m2 gS, st_20_m1 gS, st_21_m2 gS, st_21_m1 gS, st_22_m2 gS, st_22_m1 gS, st_23_m2 gS, st_23_m1 gS, st_24_m2 gS, st_24_m1 gS]; first | done | rfl | omega)) rfl rfl ?_
    try simp (disch := omega) only [up2_ne, up2_eq, q6, q19, q20, q21, q22, q23, q24, hL, st_11_m1 gS, st_11_0 gS, st_11_1 gS, st_11_2 gS, st_11_3 gS, st_11_4 gS, st_11_5 gS, st_19_m2 gS, st_19_m1 gS, st_20_m2 gS, st_20_m1 gS, st_21_m2 gS, st_21_m1 gS, st_22_m2 gS, st_22_m1 gS, st_23_m2 gS, st_23_m1 gS, st_24_m2 gS, st_24_m1 gS]
    refine wp_iload_n rfl rfl dX1_search_18 ?_
    refine wp_iaload1 dX1_search_19 (by first | omega | (simp (disch := omega) only [up2_ne, up2_eq, q6, q19, q20, q21, q22, q23, q24, hL, st_11_m1 gS, st_11_0 gS, st_11_1 gS, st_11_2 gS, st_11_3 gS, st_11_4 gS, st_11_5 gS, st_19_m2 gS, st_19_m1 gS, st_20_m2 gS, st_20_m1 gS, st_21_m2 gS, st_21_m1 gS, st_22_m2 gS, st_22_m1 gS, st_23_m2 gS, st_23_m1 gS, st_24_m2 gS, st_24_m1 gS]; first | done | omega)) (by first | assumption | (simp (disch := omega) only [up2_ne, up2_eq, q6, q19, q20, q21, q22, q23, q24, hL, st_11_m1 gS, st_11_0 gS, st_11_1 gS, st_11_2 gS, st_11_3 gS, st_11_4 gS, st_11_5 gS, st_19_m2 gS, st_19_m1 gS, st_20_m2 gS, st_20_m1 gS, st_21_m2 gS, st_21_m1 gS, st_22_m2 gS, st_22_m1 gS, st_23_m2 gS, st_23_m1 gS, st_24_m2 gS, st_24_m1 gS]; first | done | rfl | omega)) (by first | omega | (simp (disch := omega) only [up2_ne, up2_eq, q6, q19, q20, q21, q22, q23, q24, hL, st_11_m1 gS, st_11_0 gS, st_11_1 gS, st_11_2 gS, st_11_3 gS, st_11_4 gS, st_11_5 gS, st_19_m2 gS, st_19_m1 gS, st_20_m2 gS, st_20_m1 gS, st_21_m2 gS, st_21_m1 gS, st_22_m2 gS, st_22_m1 gS, st_23_m2 gS, st_23_m1 gS, st_24_m2 gS, st_24_m1 gS]; first | done | omega)) (by first | omega | (simp (disch := omega) only [up2_ne, up2_eq, q6, q19, q20, q21, q22, q23, q24, hL, st_11_m1 gS, st_11_0 gS, st_11_1 gS, st_11_2 gS, st_11_3 gS, st_11_4 gS, st_11_5 gS, st_19_m2 gS, st_19_m1 gS, st_20_m2 gS, st_20_m1 gS, st_21_m2 gS, st_21_m1 gS, st_22_m2 gS, st_22_m1 gS, st_23_m2 gS, st_23_m1 gS, st_24_m2 gS, st_24_m1 gS]; first | done | omega)) ?_
    try simp (disch := omega) only [up2_ne, up2_eq, q6, q19, q20, q21, q22, q23, q24, hL, st_11_m1 gS, st_11_0 gS, st_11_1 gS, st_11_2 gS, st_11_3 gS, st_11_4 gS, st_11_5 gS, st_19_m2 gS, st_19_m1 gS, st_20_m2 gS, st_20_m1 gS, st_21_m2 gS, st_21_m1 gS, st_22_m2 gS, st_22_m1 gS, st_23_m2 gS, st_23_m1 gS, st_24_m2 gS, st_24_m1 gS]
    refine wp_iadd dX1_search_20 ?_
    refine wp_aload_n rfl rfl dX1_search_21 ?_
    refine wp_getfield1 (z := 2) (kI := 7) fX1_30 dX1_search_22 (by first | omega | (simp (disch := omega) only [up2_ne, up2_eq, q6, q19, q20, q21, q22, q23, q24, hL, st_11_m1 gS, st_11_0 gS, st_11_1 gS, st_11_2 gS, st_11_3 gS, st_11_4 gS, st_11_5 gS, st_19_m2 gS, st_19_m1 gS, st_20_m2 gS, st_20_m1 gS, st_21_m2 gS, st_21_m1 gS, st_22_m2 gS, st_22_m1 gS, st_23_m2 gS, st_23_m1 gS, st_24_m2 gS, st_24_m1 gS]; first | done | omega)) (by first | assumption | (simp (disch := omega) only [up2_ne, up2_eq, q6, q19, q20, q21, q22, q23, q24, hL, st_11_m1 gS, st_11_0 gS, st_11_1 gS, st_11_2 gS, st_11_3 gS, st_11_4 gS, st_11_5 gS, st_19_m2 gS, st_19_m1 gS, st_20_m2 gS, st_20_m1 gS, st_21_m2 gS, st_21_m1 gS, st_22_m2 gS, st_22_m1 gS, st_23_m2 gS, st_23_m1 gS, st_24_m2 gS, st_24_m1 gS]; first | done | rfl | omega)) rfl rfl ?_
    try simp (disch := omega) only [up2_ne, up2_eq, q6, q19, q20, q21, q22, q23, q24, hL, st_11_m1 gS, st_11_0 gS, st_11_1 gS, st_11_2 gS, st_11_3 gS, st_11_4 gS, st_11_5 gS, st_19_m2 gS, st_19_m1 gS, st_20_m2 gS, st_20_m1 gS, st_21_m2 gS, st_21_m1 gS, st_22_m2 gS, st_22_m1 gS, st_23_m2 gS, st_23_m1 gS, st_24_m2 gS, st_24_m1 gS]
    refine wp_icmp_gt (tgt := 58) (by first | assumption | exact bI_in _ | exact ⟨by omega, by omega⟩ | exact iAnd_in | exact iOr_in | exact iShr_in | exact iShl_in | exact iXor_in | exact hxs _) (by first | assumption | exact bI_in _ | exact ⟨by omega, by omega⟩ | exact iAnd_in | exact iOr_in | exact iShr_in | exact iShl_in | exact iXor_in | exact hxs _) dX1_search_25 (by decide) (fun c3 => ?_) (fun c3 => ?_)
    · refine wp_iload_n rfl rfl dX1_search_58 ?_
      refine wp_aload_n rfl rfl dX1_search_59 ?_
      refine wp_getfield1 (z := 2) (kI := 4) fX1_24 dX1_search_60 (by first | omega | (simp (disch := omega) only [up2_ne, up2_eq, q6, q19, q20, q21, q22, q23, q24, hL, st_11_m1 gS, st_11_0 gS, st_11_1 gS, st_11_2 gS, st_11_3 gS, st_11_4 gS, st_11_5 gS, st_19_m2 gS, st_19_m1 gS, st_20_m2 gS, st_20_m1 gS, st_21_m2 gS, st_21_m1 gS, st_22_m2 gS, st_22_m1 gS, st_23_m2 gS, st_23_m1 gS, st_24_m2 gS, st_24_m1 gS]; first | done | omega)) (by first | assumption | (simp (disch := omega) only [up2_ne, up2_eq, q6, q19, q20, q21, q22, q23, q24, hL, st_11_m1 gS, st_11_0 gS, st_11_1 gS, st_11_2 gS, st_11_3 gS, st_11_4 gS, st_11_5 gS, st_19_m2 gS, st_19_m1 gS, st_20_m2 gS, st_20_m1 gS, st_21_m2 gS, st_21_m1 gS, st_22_m2 gS, st_22_m1 gS, st_23_m2 gS, st_23_m1 gS, st_24_m2 gS, st_24_m1 gS]; first | done | rfl | omega)) rfl rfl ?_
      try simp (disch := omega) only [up2_ne, up2_eq, q6, q19, q20, q21, q22, q23, q24, hL, st_11_m1 gS, st_11_0 gS, st_11_1 gS, st_11_2 gS, st_11_3 gS, st_11_4 gS, st_11_5 gS, st_19_m2 gS, st_19_m1 gS, st_20_m2 gS, st_20_m1 gS, st_21_m2 gS, st_21_m1 gS, st_22_m2 gS, st_22_m1 gS, st_23_m2 gS, st_23_m1 gS, st_24_m2 gS, st_24_m1 gS]
      refine wp_iload_n rfl rfl dX1_search_63 ?_
      refine wp_iaload1 dX1_search_64 (by first | omega | (simp (disch := omega) only [up2_ne, up2_eq, q6, q19, q20, q21, q22, q23, q24, hL, st_11_m1 gS, st_11_0 gS, st_11_1 gS, st_11_2 gS, st_11_3 gS, st_11_4 gS, st_11_5 gS, st_19_m2 gS, st_19_m1 gS, st_20_m2 gS, st_20_m1 gS, st_21_m2 gS, st_21_m1 gS, st_22_m2 gS, st_22_m1 gS, st_23_m2 gS, st_23_m1 gS, st_24_m2 gS, st_24_m1 gS]; first | done | omega)) (by first | assumption | (simp (disch := omega) only [up2_ne, up2_eq, q6, q19, q20, q21, q22, q23, q24, hL, st_11_m1 gS, st_11_0 gS, st_11_1 gS, st_11_2 gS, st_11_3 gS, st_11_4 gS, st_11_5 gS, st_19_m2 gS, st_19_m1 gS, st_20_m2 gS, st_20_m1 gS, st_21_m2 gS, st_21_m1 gS, st_22_m2 gS, st_22_m1 gS, st_23_m2 gS, st_23_m1 gS, st_24_m2 gS, st_24_m1 gS]; first | done | rfl | omega)) (by first | omega | (simp (disch := omega) only [up2_ne, up2_eq, q6, q19, q20, q21, q22, q23, q24, hL, st_11_m1 gS, st_11_0 gS, st_11_1 gS, st_11_2 gS, st_11_3 gS, st_11_4 gS, st_11_5 gS, st_19_m2 gS, st_19_m1 gS, st_20_m2 gS, st_20_m1 gS, st_21_m2 gS, st_21_m1 gS, st_22_m2 gS, st_22_m1 gS, st_23_m2 gS, st_23_m1 gS, st_24_m2 gS, st_24_m1 gS]; first | done | omega)) (by first | omega | (simp (disch := omega) only [up2_ne, up2_eq, q6, q19, q20, q21, q22, q23, q24, hL, st_11_m1 gS, st_11_0 gS, st_11_1 gS, st_11_2 gS, st_11_3 gS, st_11_4 gS, st_11_5 gS, st_19_m2 gS, st_19_m1 gS, st_20_m2 gS, st_20_m1 gS, st_21_m2 gS, st_21_m1 gS, st_22_m2 gS, st_22_m1 gS, st_23_m2 gS, st_23_m1 gS, st_24_m2 gS, st_24_m1 gS]; first | done | omega)) ?_
      try simp (disch := omega) only [up2_ne, up2_eq, q6, q19, q20, q21, q22, q23, q24, hL, st_11_m1 gS, st_11_0 gS, st_11_1 gS, st_11_2 gS, st_11_3 gS, st_11_4 gS, st_11_5 gS, st_19_m2 gS, st_19_m1 gS, st_20_m2 gS, st_20_m1 gS, st_21_m2 gS, st_21_m1 gS, st_22_m2 gS, st_22_m1 gS, st_23_m2 gS, st_23_m1 gS, st_24_m2 gS, st_24_m1 gS]
      refine wp_iadd dX1_search_65 ?_
      refine wp_aload_n rfl rfl dX1_search_66 ?_
      refine wp_getfield1 (z := 2) (kI := 8) fX1_37 dX1_search_67 (by first | omega | (simp (disch := omega) only [up2_ne, up2_eq, q6, q19, q20, q21, q22, q23, q24, hL, st_11_m1 gS, st_11_0 gS, st_11_1 gS, st_11_2 gS, st_11_3 gS, st_11_4 gS, st_11_5 gS, st_19_m2 gS, st_19_m1 gS, st_20_m2 gS, st_20_m1 gS, st_21_m2 gS, st_21_m1 gS, st_22_m2 gS, st_22_m1 gS, st_23_m2 gS, st_23_m1 gS, st_24_m2 gS, st_24_m1 gS]; first | done | omega)) (by first | assumption | (simp (disch := omega) only [up2_ne, up2_eq, q6, q19, q20, q21, q22, q23, q24, hL, st_11_m1 gS, st_11_0 gS, st_11_1 gS, st_11_2 gS, st_11_3 gS, st_11_4 gS, st_11_5 gS, st_19_m2 gS, st_19_m1 gS, st_20_m2 gS, st_20_m1 gS, st_21_m2 gS, st_21_m1 gS, st_22_m2 gS, st_22_m1 gS, st_23_m2 gS, st_23_m1 gS, st_24_m2 gS, st_24_m1 gS]; first | done | rfl | omega)) rfl rfl ?_
      try simp (disch := omega) only [up2_ne, up2_eq, q6, q19, q20, q21, q22, q23, q24, hL, st_11_m1 gS, st_11_0 gS, st_11_1 gS, st_11_2 gS, st_11_3 gS, st_11_4 gS, st_11_5 gS, st_19_m2 gS, st_19_m1 gS, st_20_m2 gS, st_20_m1 gS, st_21_m2 gS, st_21_m1 gS, st_22_m2 gS, st_22_m1 gS, st_23_m2 gS, st_23_m1 gS, st_24_m2 gS, st_24_m1 gS]
      refine wp_icmp_le (tgt := 81) (by first | assumption | exact bI_in _ | exact ⟨by omega, by omega⟩ | exact iAnd_in | exact iOr_in | exact iShr_in | exact iShl_in | exact iXor_in | exact hxs _) (by first | assumption | exact bI_in _ | exact ⟨by omega, by omega⟩ | exact iAnd_in | exact iOr_in | exact iShr_in | exact iShl_in | exact iXor_in | exact hxs _) dX1_search_70 (by decide) (fun c4 => ?_) (fun c4 => ?_)
      · refine wp_vret dX1_search_81 rfl ?_
        first
          | (exfalso; omega)
          | (refine ⟨rfl, S1, K1, ?_, B1⟩
             rw [T1, hE, if_pos (by omega)]
             rfl)
          | (refine ⟨rfl, gS, fun _ _ _ => rfl, ?_, hb⟩
             rw [hE, if_neg (by omega), if_pos (by omega)])
          | (refine ⟨rfl, S2, fun x k z => (K2 x k z).trans (K1 x k z), ?_, B2⟩
             rw [T2, T1, hE, if_neg (by omega), if_neg (by omega), if_pos (by omega)])
          | (refine ⟨rfl, S2, K2, ?_, B2⟩
             rw [T2, hE, if_neg (by omega), if_neg (by omega), if_neg (by omega)])
      · refine wp_iload_n rfl rfl dX1_search_73 ?_
        refine wp_aload_n rfl rfl dX1_search_74 ?_
        refine wp_getfield1 (z := 2) (kI := 6) fX1_34 dX1_search_75 (by first | omega | (simp (disch := omega) only [up2_ne, up2_eq, q6, q19, q20, q21, q22, q23, q24, hL, st_11_m1 gS, st_11_0 gS, st_11_1 gS, st_11_2 gS, st_11_3 gS, st_11_4 gS, st_11_5 gS, st_19_m2 gS, st_19_m1 gS, st_20_m2 gS, st_20_m1 gS, st_21_m2 gS, st_21_m1 gS, st_22_m2 gS, st_22_m1 gS, st_23_m2 gS, st_23_m1 gS, st_24_m2 gS, st_24_m1 gS]; first | done | omega)) (by first | assumption | (simp (disch := omega) only [up2_ne, up2_eq, q6, q19, q20, q21, q22, q23, q24, hL, st_11_m1 gS, st_11_0 gS, st_11_1 gS, st_11_2 gS, st_11_3 gS, st_11_4 gS, st_11_5 gS, st_19_m2 gS, st_19_m1 gS, st_20_m2 gS, st_20_m1 gS, st_21_m2 gS, st_21_m1 gS, st_22_m2 gS, st_22_m1 gS, st_23_m2 gS, st_23_m1 gS, st_24_m2 gS, st_24_m1 gS]; first | done | rfl | omega)) rfl rfl ?_
        try simp (disch := omega) only [up2_ne, up2_eq, q6, q19, q20, q21, q22, q23, q24, hL, st_11_m1 gS, st_11_0 gS, st_11_1 gS, st_11_2 gS, st_11_3 gS, st_11_4 gS, st_11_5 gS, st_19_m2 gS, st_19_m1 gS, st_20_m2 gS, st_20_m1 gS, st_21_m2 gS, st_21_m1 gS, st_22_m2 gS, st_22_m1 gS, st_23_m2 gS, st_23_m1 gS, st_24_m2 gS, st_24_m1 gS]
        refine wp_icmp_ne (tgt := 82) (by first | assumption | exact bI_in _ | exact ⟨by omega, by omega⟩ | exact iAnd_in | exact iOr_in | exact iShr_in | exact iShl_in | exact iXor_in | exact hxs _) (by first | assumption | exact bI_in _ | exact ⟨by omega, by omega⟩ | exact iAnd_in | exact iOr_in | exact iShr_in | exact iShl_in | exact iXor_in | exact hxs _) dX1_search_78 (by decide) (fun c5 => ?_) (fun c5 => by exfalso; omega)
        refine wp_iload_n rfl rfl dX1_search_82 ?_
        refine wp_aload_n rfl rfl dX1_search_83 ?_
        refine wp_getfield1 (z := 2) (kI := 1) fX1_15 dX1_search_84 (by first | omega | (simp (disch := omega) only [up2_ne, up2_eq, q6, q19, q20, q21, q22, q23, q24, hL, st_11_m1 gS, st_11_0 gS, st_11_1 gS, st_11_2 gS, st_11_3 gS, st_11_4 gS, st_11_5 gS, st_19_m2 gS, st_19_m1 gS, st_20_m2 gS, st_20_m1 gS, st_21_m2 gS, st_21_m1 gS, st_22_m2 gS, st_22_m1 gS, st_23_m2 gS, st_23_m1 gS, st_24_m2 gS, st_24_m1 gS]; first | done | omega)) (by first | assumption | (simp (disch := omega) only [up2_ne, up2_eq, q6, q19, q20, q21, q22, q23, q24, hL, st_11_m1 gS, st_11_0 gS, st_11_1 gS, st_11_2 gS, st_11_3 gS, st_11_4 gS, st_11_5 gS, st_19_m2 gS, st_19_m1 gS, st_20_m2 gS, st_20_m1 gS, st_21_m2 gS, st_21_m1 gS, st_22_m2 gS, st_22_m1 gS, st_23_m2 gS, st_23_m1 gS, st_24_m2 gS, st_24_m1 gS]; first | done | rfl | omega)) rfl rfl ?_
        try simp (disch := omega) only [up2_ne, up2_eq, q6, q19, q20, q21, q22, q23, q24, hL, st_11_m1 gS, st_11_0 gS, st_11_1 gS, st_11_2 gS, st_11_3 gS, st_11_4 gS, st_11_5 gS, st_19_m2 gS, st_19_m1 gS, st_20_m2 gS, st_20_m1 gS, st_21_m2 gS, st_21_m1 gS, st_22_m2 gS, st_22_m1 gS, st_23_m2 gS, st_23_m1 gS, st_24_m2 gS, st_24_m1 gS]
        refine wp_iload_n rfl rfl dX1_search_87 ?_
        refine wp_iaload1 dX1_search_88 (by first | omega | (simp (disch := omega) only [up2_ne, up2_eq, q6, q19, q20, q21, q22, q23, q24, hL, st_11_m1 gS, st_11_0 gS, st_11_1 gS, st_11_2 gS, st_11_3 gS, st_11_4 gS, st_11_5 gS, st_19_m2 gS, st_19_m1 gS, st_20_m2 gS, st_20_m1 gS, st_21_m2 gS, st_21_m1 gS, st_22_m2 gS, st_22_m1 gS, st_23_m2 gS, st_23_m1 gS, st_24_m2 gS, st_24_m1 gS]; first | done | omega)) (by first | assumption | (simp (disch := omega) only [up2_ne, up2_eq, q6, q19, q20, q21, q22, q23, q24, hL, st_11_m1 gS, st_11_0 gS, st_11_1 gS, st_11_2 gS, st_11_3 gS, st_11_4 gS, st_11_5 gS, st_19_m2 gS, st_19_m1 gS, st_20_m2 gS, st_20_m1 gS, st_21_m2 gS, st_21_m1 gS, st_22_m2 gS, st_22_m1 gS, st_23_m2 gS, st_23_m1 gS, st_24_m2 gS, st_24_m1 gS]; first | done | rfl | omega)) (by first | omega | (simp (disch := omega) only [up2_ne, up2_eq, q6, q19, q20, q21, q22, q23, q24, hL, st_11_m1 gS, st_11_0 gS, st_11_1 gS, st_11_2 gS, st_11_3 gS, st_11_4 gS, st_11_5 gS, st_19_m2 gS, st_19_m1 gS, st_20_m2 gS, st_20_m1 gS, st_21_m2 gS, st_21_m1 gS, st_22_m2 gS, st_22_m1 gS, st_23_m2 gS, st_23_m1 gS, st_24_m2 gS, st_24_m1 gS]; first | done | omega)) (by first | omega | (simp (disch := omega) only [up2_ne, up2_eq, q6, q19, q20, q21, q22, q23, q24, hL, st_11_m1 gS, st_11_0 gS, st_11_1 gS, st_11_2 gS, st_11_3 gS, st_11_4 gS, st_11_5 gS, st_19_m2 gS, st_19_m1 gS, st_20_m2 gS, st_20_m1 gS, st_21_m2 gS, st_21_m1 gS, st_22_m2 gS, st_22_m1 gS, st_23_m2 gS, st_23_m1 gS, st_24_m2 gS, st_24_m1 gS]; first | done | omega)) ?_
        try simp (disch := omega) only [up2_ne, up2_eq, q6, q19, q20, q21, q22, q23, q24, hL, st_11_m1 gS, st_11_0 gS, st_11_1 gS, st_11_2 gS, st_11_3 gS, st_11_4 gS, st_11_5 gS, st_19_m2 gS, st_19_m1 gS, st_20_m2 gS, st_20_m1 gS, st_21_m2 gS, st_21_m1 gS, st_22_m2 gS, st_22_m1 gS, st_23_m2 gS, st_23_m1 gS, st_24_m2 gS, st_24_m1 gS]
        refine wp_iadd dX1_search_89 ?_
        refine wp_aload_n rfl rfl dX1_search_90 ?_
        refine wp_getfield1 (z := 2) (kI := 7) fX1_30 dX1_search_91 (by first | omega | (simp (disch := omega) only [up2_ne, up2_eq, q6, q19, q20, q21, q22, q23, q24, hL, st_11_m1 gS, st_11_0 gS, st_11_1 gS, st_11_2 gS, st_11_3 gS, st_11_4 gS, st_11_5 gS, st_19_m2 gS, st_19_m1 gS, st_20_m2 gS, st_20_m1 gS, st_21_m2 gS, st_21_m1 gS, st_22_m2 gS, st_22_m1 gS, st_23_m2 gS, st_23_m1 gS, st_24_m2 gS, st_24_m1 gS]; first | done | omega)) (by first | assumption | (simp (disch := omega) only [up2_ne, up2_eq, q6, q19, q20, q21, q22, q23, q24, hL, st_11_m1 gS, st_11_0 gS, st_11_1 gS, st_11_2 gS, st_11_3 gS, st_11_4 gS, st_11_5 gS, st_19_m2 gS, st_19_m1 gS, st_20_m2 gS, st_20_m1 gS, st_21_m2 gS, st_21_m1 gS, st_22_m2 gS, st_22_m1 gS, st_23_m2 gS, st_23_m1 gS, st_24_m2 gS, st_24_m1 gS]; first | done | rfl | omega)) rfl rfl ?_
        try simp (disch := omega) only [up2_ne, up2_eq, q6, q19, q20, q21, q22, q23, q24, hL, st_11_m1 gS, st_11_0 gS, st_11_1 gS, st_11_2 gS, st_11_3 gS, st_11_4 gS, st_11_5 gS, st_19_m2 gS, st_19_m1 gS, st_20_m2 gS, st_20_m1 gS, st_21_m2 gS, st_21_m1 gS, st_22_m2 gS, st_22_m1 gS, st_23_m2 gS, st_23_m1 gS, st_24_m2 gS, st_24_m1 gS]
        refine wp_icmp_gt (tgt := 131) (by first | assumption | exact bI_in _ | exact ⟨by omega, by omega⟩ | exact iAnd_in | exact iOr_in | exact iShr_in | exact iShl_in | exact iXor_in | exact hxs _) (by first | assumption | exact bI_in _ | exact ⟨by omega, by omega⟩ | exact iAnd_in | exact iOr_in | exact iShr_in | exact iShl_in | exact iXor_in | exact hxs _) dX1_search_94 (by decide) (fun c6 => ?_) (fun c6 => ?_)
        · refine wp_aload_n rfl rfl dX1_search_131 ?_
          refine wp_iload_n rfl rfl dX1_search_132 ?_
          refine wp_iconst dX1_search_133 ?_
          refine wp_iadd dX1_search_134 ?_
          refine wp_iload_n rfl rfl dX1_search_135 ?_
          refine wp_iload_n rfl rfl dX1_search_136 ?_
          refine wp_iload rfl dX1_search_137 ?_
          refine wp_cS5r okX1_search wX1_46 dX1_search_139 (Nat.le_of_ble_eq_true rfl) (Nat.le_of_ble_eq_true rfl) (ih (d := d) (b := 0) (g := g) (i := i + 1) (lo := a + 1) (c := c) gS hf.2 (by omega) (by omega) hL (by omega) (by omega) has.2.2 (fun x hx => hit x (List.mem_cons_of_mem _ hx)) ⟨by omega, by omega⟩ ⟨by omega, by omega⟩ ⟨by omega, by omega⟩ hb) (Nat.zero_le _) ?_
          rintro r g2 ⟨rfl, S2, K2, T2, B2⟩ -
          show WP _ _ _ _ _ _ _ [] _
          refine wp_vret dX1_search_142 rfl ?_
          first
            | (exfalso; omega)
            | (refine ⟨rfl, S1, K1, ?_, B1⟩
               rw [T1, hE, if_pos (by omega)]
               rfl)
            | (refine ⟨rfl, gS, fun _ _ _ => rfl, ?_, hb⟩
               rw [hE, if_neg (by omega), if_pos (by omega)])
            | (refine ⟨rfl, S2, fun x k z => (K2 x k z).trans (K1 x k z), ?_, B2⟩
               rw [T2, T1, hE, if_neg (by omega), if_neg (by omega), if_pos (by omega)])
            | (refine ⟨rfl, S2, K2, ?_, B2⟩
               rw [T2, hE, if_neg (by omega), if_neg (by omega), if_neg (by omega)])
        · refine wp_aload_n rfl rfl dX1_search_97 ?_
          refine wp_iload_n rfl rfl dX1_search_98 ?_
          refine wp_iconst dX1_search_99 ?_
          refine wp_iadd dX1_search_100 ?_
          refine wp_iload_n rfl rfl dX1_search_101 ?_
          refine wp_aload_n rfl rfl dX1_search_102 ?_
          refine wp_getfield1 (z := 2) (kI := 2) fX1_18 dX1_search_103 (by first | omega | (simp (disch := omega) only [up2_ne, up2_eq, q6, q19, q20, q21, q22, q23, q24, hL, st_11_m1 gS, st_11_0 gS, st_11_1 gS, st_11_2 gS, st_11_3 gS, st_11_4 gS, st_11_5 gS, st_19_m2 gS, st_19_m1 gS, st_20_m2 gS, st_20_m1 gS, st_21_m2 gS, st_21_m1 gS, st_22_m2 gS, st_22_m1 gS, st_23_m2 gS, st_23_m1 gS, st_24_m2 gS, st_24_m1 gS]; first | done | omega)) (by first | assumption | (simp (disch := omega) only [up2_ne, up2_eq, q6, q19, q20, q21, q22, q23, q24, hL, st_11_m1 gS, st_11_0 gS, st_11_1 gS, st_11_2 gS, st_11_3 gS, st_11_4 gS, st_11_5 gS, st_19_m2 gS, st_19_m1 gS, st_20_m2 gS, st_20_m1 gS, st_21_m2 gS, st_21_m1 gS, st_22_m2 gS, st_22_m1 gS, st_23_m2 gS, st_23_m1 gS, st_24_m2 gS, st_24_m1 gS]; first | done | rfl | omega)) rfl rfl ?_
          try simp (disch := omega) only [up2_ne, up2_eq, q6, q19, q20, q21, q22, q23, q24, hL, st_11_m1 gS, st_11_0 gS, st_11_1 gS, st_11_2 gS, st_11_3 gS, st_11_4 gS, st_11_5 gS, st_19_m2 gS, st_19_m1 gS, st_20_m2 gS, st_20_m1 gS, st_21_m2 gS, st_21_m1 gS, st_22_m2 gS, st_22_m1 gS, st_23_m2 gS, st_23_m1 gS, st_24_m2 gS, st_24_m1 gS]
          refine wp_iload_n rfl rfl dX1_search_106 ?_
          refine wp_iaload1 dX1_search_107 (by first | omega | (simp (disch := omega) only [up2_ne, up2_eq, q6, q19, q20, q21, q22, q23, q24, hL, st_11_m1 gS, st_11_0 gS, st_11_1 gS, st_11_2 gS, st_11_3 gS, st_11_4 gS, st_11_5 gS, st_19_m2 gS, st_19_m1 gS, st_20_m2 gS, st_20_m1 gS, st_21_m2 gS, st_21_m1 gS, st_22_m2 gS, st_22_m1 gS, st_23_m2 gS, st_23_m1 gS, st_24_m2 gS, st_24_m1 gS]; first | done | omega)) (by first | assumption | (simp (disch := omega) only [up2_ne, up2_eq, q6, q19, q20, q21, q22, q23, q24, hL, st_11_m1 gS, st_11_0 gS, st_11_1 gS, st_11_2 gS, st_11_3 gS, st_11_4 gS, st_11_5 gS, st_19_m2 gS, st_19_m1 gS, st_20_m2 gS, st_20_m1 gS, st_21_m2 gS, st_21_m1 gS, st_22_m2 gS, st_22_m1 gS, st_23_m2 gS, st_23_m1 gS, st_24_m2 gS, st_24_m1 gS]; first | done | rfl | omega)) (by first | omega | (simp (disch := omega) only [up2_ne, up2_eq, q6, q19, q20, q21, q22, q23, q24, hL, st_11_m1 gS, st_11_0 gS, st_11_1 gS, st_11_2 gS, st_11_3 gS, st_11_4 gS, st_11_5 gS, st_19_m2 gS, st_19_m1 gS, st_20_m2 gS, st_20_m1 gS, st_21_m2 gS, st_21_m1 gS, st_22_m2 gS, st_22_m1 gS, st_23_m2 gS, st_23_m1 gS, st_24_m2 gS, st_24_m1 gS]; first | done | omega)) (by first | omega | (simp (disch := omega) only [up2_ne, up2_eq, q6, q19, q20, q21, q22, q23, q24, hL, st_11_m1 gS, st_11_0 gS, st_11_1 gS, st_11_2 gS, st_11_3 gS, st_11_4 gS, st_11_5 gS, st_19_m2 gS, st_19_m1 gS, st_20_m2 gS, st_20_m1 gS, st_21_m2 gS, st_21_m1 gS, st_22_m2 gS, st_22_m1 gS, st_23_m2 gS, st_23_m1 gS, st_24_m2 gS, st_24_m1 gS]; first | done | omega)) ?_
          try simp (disch := omega) only [up2_ne, up2_eq, q6, q19, q20, q21, q22, q23, q24, hL, st_11_m1 gS, st_11_0 gS, st_11_1 gS, st_11_2 gS, st_11_3 gS, st_11_4 gS, st_11_5 gS, st_19_m2 gS, st_19_m1 gS, st_20_m2 gS, st_20_m1 gS, st_21_m2 gS, st_21_m1 gS, st_22_m2 gS, st_22_m1 gS, st_23_m2 gS, st_23_m1 gS, st_24_m2 gS, st_24_m1 gS]
          refine wp_iadd dX1_search_108 ?_
          refine wp_iload_n rfl rfl dX1_search_109 ?_
          refine wp_aload_n rfl rfl dX1_search_110 ?_
          refine wp_getfield1 (z := 2) (kI := 1) fX1_15 dX1_search_111 (by first | omega | (simp (disch := omega) only [up2_ne, up2_eq, q6, q19, q20, q21, q22, q23, q24, hL, st_11_m1 gS, st_11_0 gS, st_11_1 gS, st_11_2 gS, st_11_3 gS, st_11_4 gS, st_11_5 gS, st_19_m2 gS, st_19_m1 gS, st_20_m2 gS, st_20_m1 gS, st_21_m2 gS, st_21_m1 gS, st_22_m2 gS, st_22_m1 gS, st_23_m2 gS, st_23_m1 gS, st_24_m2 gS, st_24_m1 gS]; first | done | omega)) (by first | assumption | (simp (disch := omega) only [up2_ne, up2_eq, q6, q19, q20, q21, q22, q23, q24, hL, st_11_m1 gS, st_11_0 gS, st_11_1 gS, st_11_2 gS, st_11_3 gS, st_11_4 gS, st_11_5 gS, st_19_m2 gS, st_19_m1 gS, st_20_m2 gS, st_20_m1 gS, st_21_m2 gS, st_21_m1 gS, st_22_m2 gS, st_22_m1 gS, st_23_m2 gS, st_23_m1 gS, st_24_m2 gS, st_24_m1 gS]; first | done | rfl | omega)) rfl rfl ?_
          try simp (disch := omega) only [up2_ne, up2_eq, q6, q19, q20, q21, q22, q23, q24, hL, st_11_m1 gS, st_11_0 gS, st_11_1 gS, st_11_2 gS, st_11_3 gS, st_11_4 gS, st_11_5 gS, st_19_m2 gS, st_19_m1 gS, st_20_m2 gS, st_20_m1 gS, st_21_m2 gS, st_21_m1 gS, st_22_m2 gS, st_22_m1 gS, st_23_m2 gS, st_23_m1 gS, st_24_m2 gS, st_24_m1 gS]
          refine wp_iload_n rfl rfl dX1_search_114 ?_
          refine wp_iaload1 dX1_search_115 (by first | omega | (simp (disch := omega) only [up2_ne, up2_eq, q6, q19, q20, q21, q22, q23, q24, hL, st_11_m1 gS, st_11_0 gS, st_11_1 gS, st_11_2 gS, st_11_3 gS, st_11_4 gS, st_11_5 gS, st_19_m2 gS, st_19_m1 gS, st_20_m2 gS, st_20_m1 gS, st_21_m2 gS, st_21_m1 gS, st_22_m2 gS, st_22_m1 gS, st_23_m2 gS, st_23_m1 gS, st_24_m2 gS, st_24_m1 gS]; first | done | omega)) (by first | assumption | (simp (disch := omega) only [up2_ne, up2_eq, q6, q19, q20, q21, q22, q23, q24, hL, st_11_m1 gS, st_11_0 gS, st_11_1 gS, st_11_2 gS, st_11_3 gS, st_11_4 gS, st_11_5 gS, st_19_m2 gS, st_19_m1 gS, st_20_m2 gS, st_20_m1 gS, st_21_m2 gS, st_21_m1 gS, st_22_m2 gS, st_22_m1 gS, st_23_m2 gS, st_23_m1 gS, st_24_m2 gS, st_24_m1 gS]; first | done | rfl | omega)) (by first | omega | (simp (disch := omega) only [up2_ne, up2_eq, q6, q19, q20, q21, q22, q23, q24, hL, st_11_m1 gS, st_11_0 gS, st_11_1 gS, st_11_2 gS, st_11_3 gS, st_11_4 gS, st_11_5 gS, st_19_m2 gS, st_19_m1 gS, st_20_m2 gS, st_20_m1 gS, st_21_m2 gS, st_21_m1 gS, st_22_m2 gS, st_22_m1 gS, st_23_m2 gS, st_23_m1 gS, st_24_m2 gS, st_24_m1 gS]; first | done | omega)) (by first | omega | (simp (disch := omega) only [up2_ne, up2_eq, q6, q19, q20, q21, q22, q23, q24, hL, st_11_m1 gS, st_11_0 gS, st_11_1 gS, st_11_2 gS, st_11_3 gS, st_11_4 gS, st_11_5 gS, st_19_m2 gS, st_19_m1 gS, st_20_m2 gS, st_20_m1 gS, st_21_m2 gS, st_21_m1 gS, st_22_m2 gS, st_22_m1 gS, st_23_m2 gS, st_23_m1 gS, st_24_m2 gS, st_24_m1 gS]; first | done | omega)) ?_
          try simp (disch := omega) only [up2_ne, up2_eq, q6, q19, q20, q21, q22, q23, q24, hL, st_11_m1 gS, st_11_0 gS, st_11_1 gS, st_11_2 gS, st_11_3 gS, st_11_4 gS, st_11_5 gS, st_19_m2 gS, st_19_m1 gS, st_20_m2 gS, st_20_m1 gS, st_21_m2 gS, st_21_m1 gS, st_22_m2 gS, st_22_m1 gS, st_23_m2 gS, st_23_m1 gS, st_24_m2 gS, st_24_m1 gS]
          refine wp_iadd dX1_search_116 ?_
          refine wp_iload rfl dX1_search_117 ?_
          refine wp_iconst dX1_search_119 ?_
          refine wp_aload_n rfl rfl dX1_search_120 ?_
          refine wp_getfield1 (z := 2) (kI := 0) fX1_9 dX1_search_121 (by first | omega | (simp (disch := omega) only [up2_ne, up2_eq, q6, q19, q20, q21, q22, q23, q24, hL, st_11_m1 gS, st_11_0 gS, st_11_1 gS, st_11_2 gS, st_11_3 gS, st_11_4 gS, st_11_5 gS, st_19_m2 gS, st_19_m1 gS, st_20_m2 gS, st_20_m1 gS, st_21_m2 gS, st_21_m1 gS, st_22_m2 gS, st_22_m1 gS, st_23_m2 gS, st_23_m1 gS, st_24_m2 gS, st_24_m1 gS]; first | done | omega)) (by first | assumption | (simp (disch := omega) only [up2_ne, up2_eq, q6, q19, q20, q21, q22, q23, q24, hL, st_11_m1 gS, st_11_0 gS, st_11_1 gS, st_11_2 gS, st_11_3 gS, st_11_4 gS, st_11_5 gS, st_19_m2 gS, st_19_m1 gS, st_20_m2 gS, st_20_m1 gS, st_21_m2 gS, st_21_m1 gS, st_22_m2 gS, st_22_m1 gS, st_23_m2 gS, st_23_m1 gS, st_24_m2 gS, st_24_m1 gS]; first | done | rfl | omega)) rfl rfl ?_
          try simp (disch := omega) only [up2_ne, up2_eq, q6, q19, q20, q21, q22, q23, q24, hL, st_11_m1 gS, st_11_0 gS, st_11_1 gS, st_11_2 gS, st_11_3 gS, st_11_4 gS, st_11_5 gS, st_19_m2 gS, st_19_m1 gS, st_20_m2 gS, st_20_m1 gS, st_21_m2 gS, st_21_m1 gS, st_22_m2 gS, st_22_m1 gS, st_23_m2 gS, st_23_m1 gS, st_24_m2 gS, st_24_m1 gS]
          refine wp_iload_n rfl rfl dX1_search_124 ?_
          refine wp_iaload1 dX1_search_125 (by first | omega | (simp (disch := omega) only [up2_ne, up2_eq, q6, q19, q20, q21, q22, q23, q24, hL, st_11_m1 gS, st_11_0 gS, st_11_1 gS, st_11_2 gS, st_11_3 gS, st_11_4 gS, st_11_5 gS, st_19_m2 gS, st_19_m1 gS, st_20_m2 gS, st_20_m1 gS, st_21_m2 gS, st_21_m1 gS, st_22_m2 gS, st_22_m1 gS, st_23_m2 gS, st_23_m1 gS, st_24_m2 gS, st_24_m1 gS]; first | done | omega)) (by first | assumption | (simp (disch := omega) only [up2_ne, up2_eq, q6, q19, q20, q21, q22, q23, q24, hL, st_11_m1 gS, st_11_0 gS, st_11_1 gS, st_11_2 gS, st_11_3 gS, st_11_4 gS, st_11_5 gS, st_19_m2 gS, st_19_m1 gS, st_20_m2 gS, st_20_m1 gS, st_21_m2 gS, st_21_m1 gS, st_22_m2 gS, st_22_m1 gS, st_23_m2 gS, st_23_m1 gS, st_24_m2 gS, st_24_m1 gS]; first | done | rfl | omega)) (by first | omega | (simp (disch := omega) only [up2_ne, up2_eq, q6, q19, q20, q21, q22, q23, q24, hL, st_11_m1 gS, st_11_0 gS, st_11_1 gS, st_11_2 gS, st_11_3 gS, st_11_4 gS, st_11_5 gS, st_19_m2 gS, st_19_m1 gS, st_20_m2 gS, st_20_m1 gS, st_21_m2 gS, st_21_m1 gS, st_22_m2 gS, st_22_m1 gS, st_23_m2 gS, st_23_m1 gS, st_24_m2 gS, st_24_m1 gS]; first | done | omega)) (by first | omega | (simp (disch := omega) only [up2_ne, up2_eq, q6, q19, q20, q21, q22, q23, q24, hL, st_11_m1 gS, st_11_0 gS, st_11_1 gS, st_11_2 gS, st_11_3 gS, st_11_4 gS, st_11_5 gS, st_19_m2 gS, st_19_m1 gS, st_20_m2 gS, st_20_m1 gS, st_21_m2 gS, st_21_m1 gS, st_22_m2 gS, st_22_m1 gS, st_23_m2 gS, st_23_m1 gS, st_24_m2 gS, st_24_m1 gS]; first | done | omega)) ?_
          try simp (disch := omega) only [up2_ne, up2_eq, q6, q19, q20, q21, q22, q23, q24, hL, st_11_m1 gS, st_11_0 gS, st_11_1 gS, st_11_2 gS, st_11_3 gS, st_11_4 gS, st_11_5 gS, st_19_m2 gS, st_19_m1 gS, st_20_m2 gS, st_20_m1 gS, st_21_m2 gS, st_21_m1 gS, st_22_m2 gS, st_22_m1 gS, st_23_m2 gS, st_23_m1 gS, st_24_m2 gS, st_24_m1 gS]
          refine wp_ishl dX1_search_126 ?_
          refine wp_ior dX1_search_127 ?_
          rw [hor1]
          refine wp_cS5r okX1_search wX1_46 dX1_search_128 (Nat.le_of_ble_eq_true rfl) (Nat.le_of_ble_eq_true rfl) (ih (d := d) (b := 0) (g := g) (i := i + 1) (lo := a + 1) (c := tadd c (ti m a)) gS hf.2 (by omega) (by omega) hL (by omega) (by omega) has.2.2 (fun x hx => hit x (List.mem_cons_of_mem _ hx)) ⟨by show 0 ≤ c.1 + wC m a; omega, by show c.1 + wC m a ≤ _; omega⟩ ⟨by show 0 ≤ c.2.1 + m 215 a; omega, by show c.2.1 + m 215 a ≤ _; omega⟩ ⟨by show 0 ≤ c.2.2 + 2 ^ a.toNat; omega, by show c.2.2 + 2 ^ a.toNat < _; omega⟩ hb) (Nat.zero_le _) ?_
          rintro r g1 ⟨rfl, S1, K1, T1, B1⟩ -
          show WP _ _ _ _ _ _ _ [] _
          refine wp_aload_n rfl rfl dX1_search_131 ?_
          refine wp_iload_n rfl rfl dX1_search_132 ?_
          refine wp_iconst dX1_search_133 ?_
          refine wp_iadd dX1_search_134 ?_
          refine wp_iload_n rfl rfl dX1_search_135 ?_
          refine wp_iload_n rfl rfl dX1_search_136 ?_
          refine wp_iload rfl dX1_search_137 ?_
          refine wp_cS5r okX1_search wX1_46 dX1_search_139 (Nat.le_of_ble_eq_true rfl) (Nat.le_of_ble_eq_true rfl) (ih (d := d) (b := 0) (g := g1) (i := i + 1) (lo := a + 1) (c := c) S1 (sfx_up t hf.2 (fun x k z => K1 x k (by omega))) (by omega) (by omega) ((K1 11 7 (by omega)).trans hL) (by omega) (by omega) has.2.2 (fun x hx => hit x (List.mem_cons_of_mem _ hx)) ⟨by omega, by omega⟩ ⟨by omega, by omega⟩ ⟨by omega, by omega⟩ B1) (Nat.zero_le _) ?_
          rintro r g2 ⟨rfl, S2, K2, T2, B2⟩ -
          show WP _ _ _ _ _ _ _ [] _
          refine wp_vret dX1_search_142 rfl ?_
          first
            | (exfalso; omega)
            | (refine ⟨rfl, S1, K1, ?_, B1⟩
               rw [T1, hE, if_pos (by omega)]
               rfl)
            | (refine ⟨rfl, gS, fun _ _ _ => rfl, ?_, hb⟩
               rw [hE, if_neg (by omega), if_pos (by omega)])
            | (refine ⟨rfl, S2, fun x k z => (K2 x k z).trans (K1 x k z), ?_, B2⟩
               rw [T2, T1, hE, if_neg (by omega), if_neg (by omega), if_pos (by omega)])
            | (refine ⟨rfl, S2, K2, ?_, B2⟩
               rw [T2, hE, if_neg (by omega), if_neg (by omega), if_neg (by omega)])
    · refine wp_aload_n rfl rfl dX1_search_28 ?_
      refine wp_iload_n rfl rfl dX1_search_29 ?_
      refine wp_aload_n rfl rfl dX1_search_30 ?_
      refine wp_getfield1 (z := 2) (kI := 4) fX1_24 dX1_search_31 (by first | omega | (simp (disch := omega) only [up2_ne, up2_eq, q6, q19, q20, q21, q22, q23, q24, hL, st_11_m1 gS, st_11_0 gS, st_11_1 gS, st_11_2 gS, st_11_3 gS, st_11_4 gS, st_11_5 gS, st_19_m2 gS, st_19_m1 gS, st_20_m2 gS, st_20_m1 gS, st_21_m2 gS, st_21_m1 gS, st_22_m2 gS, st_22_m1 gS, st_23_m2 gS, st_23_m1 gS, st_24_m2 gS, st_24_m1 gS]; first | done | omega)) (by first | assumption | (simp (disch := omega) only [up2_ne, up2_eq, q6, q19, q20, q21, q22, q23, q24, hL, st_11_m1 gS, st_11_0 gS, st_11_1 gS, st_11_2 gS, st_11_3 gS, st_11_4 gS, st_11_5 gS, st_19_m2 gS, st_19_m1 gS, st_20_m2 gS, st_20_m1 gS, st_21_m2 gS, st_21_m1 gS, st_22_m2 gS, st_22_m1 gS, st_23_m2 gS, st_23_m1 gS, st_24_m2 gS, st_24_m1 gS]; first | done | rfl | omega)) rfl rfl ?_
      try simp (disch := omega) only [up2_ne, up2_eq, q6, q19, q20, q21, q22, q23, q24, hL, st_11_m1 gS, st_11_0 gS, st_11_1 gS, st_11_2 gS, st_11_3 gS, st_11_4 gS, st_11_5 gS, st_19_m2 gS, st_19_m1 gS, st_20_m2 gS, st_20_m1 gS, st_21_m2 gS, st_21_m1 gS, st_22_m2 gS, st_22_m1 gS, st_23_m2 gS, st_23_m1 gS, st_24_m2 gS, st_24_m1 gS]
      refine wp_iload_n rfl rfl dX1_search_34 ?_
      refine wp_iaload1 dX1_search_35 (by first | omega | (simp (disch := omega) only [up2_ne, up2_eq, q6, q19, q20, q21, q22, q23, q24, hL, st_11_m1 gS, st_11_0 gS, st_11_1 gS, st_11_2 gS, st_11_3 gS, st_11_4 gS, st_11_5 gS, st_19_m2 gS, st_19_m1 gS, st_20_m2 gS, st_20_m1 gS, st_21_m2 gS, st_21_m1 gS, st_22_m2 gS, st_22_m1 gS, st_23_m2 gS, st_23_m1 gS, st_24_m2 gS, st_24_m1 gS]; first | done | omega)) (by first | assumption | (simp (disch := omega) only [up2_ne, up2_eq, q6, q19, q20, q21, q22, q23, q24, hL, st_11_m1 gS, st_11_0 gS, st_11_1 gS, st_11_2 gS, st_11_3 gS, st_11_4 gS, st_11_5 gS, st_19_m2 gS, st_19_m1 gS, st_20_m2 gS, st_20_m1 gS, st_21_m2 gS, st_21_m1 gS, st_22_m2 gS, st_22_m1 gS, st_23_m2 gS, st_23_m1 gS, st_24_m2 gS, st_24_m1 gS]; first | done | rfl | omega)) (by first | omega | (simp (disch := omega) only [up2_ne, up2_eq, q6, q19, q20, q21, q22, q23, q24, hL, st_11_m1 gS, st_11_0 gS, st_11_1 gS, st_11_2 gS, st_11_3 gS, st_11_4 gS, st_11_5 gS, st_19_m2 gS, st_19_m1 gS, st_20_m2 gS, st_20_m1 gS, st_21_m2 gS, st_21_m1 gS, st_22_m2 gS, st_22_m1 gS, st_23_m2 gS, st_23_m1 gS, st_24_m2 gS, st_24_m1 gS]; first | done | omega)) (by first | omega | (simp (disch := omega) only [up2_ne, up2_eq, q6, q19, q20, q21, q22, q23, q24, hL, st_11_m1 gS, st_11_0 gS, st_11_1 gS, st_11_2 gS, st_11_3 gS, st_11_4 gS, st_11_5 gS, st_19_m2 gS, st_19_m1 gS, st_20_m2 gS, st_20_m1 gS, st_21_m2 gS, st_21_m1 gS, st_22_m2 gS, st_22_m1 gS, st_23_m2 gS, st_23_m1 gS, st_24_m2 gS, st_24_m1 gS]; first | done | omega)) ?_
      try simp (disch := omega) only [up2_ne, up2_eq, q6, q19, q20, q21, q22, q23, q24, hL, st_11_m1 gS, st_11_0 gS, st_11_1 gS, st_11_2 gS, st_11_3 gS, st_11_4 gS, st_11_5 gS, st_19_m2 gS, st_19_m1 gS, st_20_m2 gS, st_20_m1 gS, st_21_m2 gS, st_21_m1 gS, st_22_m2 gS, st_22_m1 gS, st_23_m2 gS, st_23_m1 gS, st_24_m2 gS, st_24_m1 gS]
      refine wp_iadd dX1_search_36 ?_
      refine wp_iload_n rfl rfl dX1_search_37 ?_
      refine wp_aload_n rfl rfl dX1_search_38 ?_
      refine wp_getfield1 (z := 2) (kI := 3) fX1_21 dX1_search_39 (by first | omega | (simp (disch := omega) only [up2_ne, up2_eq, q6, q19, q20, q21, q22, q23, q24, hL, st_11_m1 gS, st_11_0 gS, st_11_1 gS, st_11_2 gS, st_11_3 gS, st_11_4 gS, st_11_5 gS, st_19_m2 gS, st_19_m1 gS, st_20_m2 gS, st_20_m1 gS, st_21_m2 gS, st_21_m1 gS, st_22_m2 gS, st_22_m1 gS, st_23_m2 gS, st_23_m1 gS, st_24_m2 gS, st_24_m1 gS]; first | done | omega)) (by first | assumption | (simp (disch := omega) only [up2_ne, up2_eq, q6, q19, q20, q21, q22, q23, q24, hL, st_11_m1 gS, st_11_0 gS, st_11_1 gS, st_11_2 gS, st_11_3 gS, st_11_4 gS, st_11_5 gS, st_19_m2 gS, st_19_m1 gS, st_20_m2 gS, st_20_m1 gS, st_21_m2 gS, st_21_m1 gS, st_22_m2 gS, st_22_m1 gS, st_23_m2 gS, st_23_m1 gS, st_24_m2 gS, st_24_m1 gS]; first | done | rfl | omega)) rfl rfl ?_
      try simp (disch := omega) only [up2_ne, up2_eq, q6, q19, q20, q21, q22, q23, q24, hL, st_11_m1 gS, st_11_0 gS, st_11_1 gS, st_11_2 gS, st_11_3 gS, st_11_4 gS, st_11_5 gS, st_19_m2 gS, st_19_m1 gS, st_20_m2 gS, st_20_m1 gS, st_21_m2 gS, st_21_m1 gS, st_22_m2 gS, st_22_m1 gS, st_23_m2 gS, st_23_m1 gS, st_24_m2 gS, st_24_m1 gS]
      refine wp_iload_n rfl rfl dX1_search_42 ?_
      refine wp_iaload1 dX1_search_43 (by first | omega | (simp (disch := omega) only [up2_ne, up2_eq, q6, q19, q20, q21, q22, q23, q24, hL, st_11_m1 gS, st_11_0 gS, st_11_1 gS, st_11_2 gS, st_11_3 gS, st_11_4 gS, st_11_5 gS, st_19_m2 gS, st_19_m1 gS, st_20_m2 gS, st_20_m1 gS, st_21_m2 gS, st_21_m1 gS, st_22_m2 gS, st_22_m1 gS, st_23_m2 gS, st_23_m1 gS, st_24_m2 gS, st_24_m1 gS]; first | done | omega)) (by first | assumption | (simp (disch := omega) only [up2_ne, up2_eq, q6, q19, q20, q21, q22, q23, q24, hL, st_11_m1 gS, st_11_0 gS, st_11_1 gS, st_11_2 gS, st_11_3 gS, st_11_4 gS, st_11_5 gS, st_19_m2 gS, st_19_m1 gS, st_20_m2 gS, st_20_m1 gS, st_21_m2 gS, st_21_m1 gS, st_22_m2 gS, st_22_m1 gS, st_23_m2 gS, st_23_m1 gS, st_24_m2 gS, st_24_m1 gS]; first | done | rfl | omega)) (by first | omega | (simp (disch := omega) only [up2_ne, up2_eq, q6, q19, q20, q21, q22, q23, q24, hL, st_11_m1 gS, st_11_0 gS, st_11_1 gS, st_11_2 gS, st_11_3 gS, st_11_4 gS, st_11_5 gS, st_19_m2 gS, st_19_m1 gS, st_20_m2 gS, st_20_m1 gS, st_21_m2 gS, st_21_m1 gS, st_22_m2 gS, st_22_m1 gS, st_23_m2 gS, st_23_m1 gS, st_24_m2 gS, st_24_m1 gS]; first | done | omega)) (by first | omega | (simp (disch := omega) only [up2_ne, up2_eq, q6, q19, q20, q21, q22, q23, q24, hL, st_11_m1 gS, st_11_0 gS, st_11_1 gS, st_11_2 gS, st_11_3 gS, st_11_4 gS, st_11_5 gS, st_19_m2 gS, st_19_m1 gS, st_20_m2 gS, st_20_m1 gS, st_21_m2 gS, st_21_m1 gS, st_22_m2 gS, st_22_m1 gS, st_23_m2 gS, st_23_m1 gS, st_24_m2 gS, st_24_m1 gS]; first | done | omega)) ?_
      try simp (disch := omega) only [up2_ne, up2_eq, q6, q19, q20, q21, q22, q23, q24, hL, st_11_m1 gS, st_11_0 gS, st_11_1 gS, st_11_2 gS, st_11_3 gS, st_11_4 gS, st_11_5 gS, st_19_m2 gS, st_19_m1 gS, st_20_m2 gS, st_20_m1 gS, st_21_m2 gS, st_21_m1 gS, st_22_m2 gS, st_22_m1 gS, st_23_m2 gS, st_23_m1 gS, st_24_m2 gS, st_24_m1 gS]
      refine wp_iadd dX1_search_44 ?_
      refine wp_iload rfl dX1_search_45 ?_
      refine wp_aload_n rfl rfl dX1_search_47 ?_
      refine wp_getfield1 (z := 2) (kI := 5) fX1_27 dX1_search_48 (by first | omega | (simp (disch := omega) only [up2_ne, up2_eq, q6, q19, q20, q21, q22, q23, q24, hL, st_11_m1 gS, st_11_0 gS, st_11_1 gS, st_11_2 gS, st_11_3 gS, st_11_4 gS, st_11_5 gS, st_19_m2 gS, st_19_m1 gS, st_20_m2 gS, st_20_m1 gS, st_21_m2 gS, st_21_m1 gS, st_22_m2 gS, st_22_m1 gS, st_23_m2 gS, st_23_m1 gS, st_24_m2 gS, st_24_m1 gS]; first | done | omega)) (by first | assumption | (simp (disch := omega) only [up2_ne, up2_eq, q6, q19, q20, q21, q22, q23, q24, hL, st_11_m1 gS, st_11_0 gS, st_11_1 gS, st_11_2 gS, st_11_3 gS, st_11_4 gS, st_11_5 gS, st_19_m2 gS, st_19_m1 gS, st_20_m2 gS, st_20_m1 gS, st_21_m2 gS, st_21_m1 gS, st_22_m2 gS, st_22_m1 gS, st_23_m2 gS, st_23_m1 gS, st_24_m2 gS, st_24_m1 gS]; first | done | rfl | omega)) rfl rfl ?_
      try simp (disch := omega) only [up2_ne, up2_eq, q6, q19, q20, q21, q22, q23, q24, hL, st_11_m1 gS, st_11_0 gS, st_11_1 gS, st_11_2 gS, st_11_3 gS, st_11_4 gS, st_11_5 gS, st_19_m2 gS, st_19_m1 gS, st_20_m2 gS, st_20_m1 gS, st_21_m2 gS, st_21_m1 gS, st_22_m2 gS, st_22_m1 gS, st_23_m2 gS, st_23_m1 gS, st_24_m2 gS, st_24_m1 gS]
      refine wp_iload_n rfl rfl dX1_search_51 ?_
      refine wp_iaload1 dX1_search_52 (by first | omega | (simp (disch := omega) only [up2_ne, up2_eq, q6, q19, q20, q21, q22, q23, q24, hL, st_11_m1 gS, st_11_0 gS, st_11_1 gS, st_11_2 gS, st_11_3 gS, st_11_4 gS, st_11_5 gS, st_19_m2 gS, st_19_m1 gS, st_20_m2 gS, st_20_m1 gS, st_21_m2 gS, st_21_m1 gS, st_22_m2 gS, st_22_m1 gS, st_23_m2 gS, st_23_m1 gS, st_24_m2 gS, st_24_m1 gS]; first | done | omega)) (by first | assumption | (simp (disch := omega) only [up2_ne, up2_eq, q6, q19, q20, q21, q22, q23, q24, hL, st_11_m1 gS, st_11_0 gS, st_11_1 gS, st_11_2 gS, st_11_3 gS, st_11_4 gS, st_11_5 gS, st_19_m2 gS, st_19_m1 gS, st_20_m2 gS, st_20_m1 gS, st_21_m2 gS, st_21_m1 gS, st_22_m2 gS, st_22_m1 gS, st_23_m2 gS, st_23_m1 gS, st_24_m2 gS, st_24_m1 gS]; first | done | rfl | omega)) (by first | omega | (simp (disch := omega) only [up2_ne, up2_eq, q6, q19, q20, q21, q22, q23, q24, hL, st_11_m1 gS, st_11_0 gS, st_11_1 gS, st_11_2 gS, st_11_3 gS, st_11_4 gS, st_11_5 gS, st_19_m2 gS, st_19_m1 gS, st_20_m2 gS, st_20_m1 gS, st_21_m2 gS, st_21_m1 gS, st_22_m2 gS, st_22_m1 gS, st_23_m2 gS, st_23_m1 gS, st_24_m2 gS, st_24_m1 gS]; first | done | omega)) (by first | omega | (simp (disch := omega) only [up2_ne, up2_eq, q6, q19, q20, q21, q22, q23, q24, hL, st_11_m1 gS, st_11_0 gS, st_11_1 gS, st_11_2 gS, st_11_3 gS, st_11_4 gS, st_11_5 gS, st_19_m2 gS, st_19_m1 gS, st_20_m2 gS, st_20_m1 gS, st_21_m2 gS, st_21_m1 gS, st_22_m2 gS, st_22_m1 gS, st_23_m2 gS, st_23_m1 gS, st_24_m2 gS, st_24_m1 gS]; first | done | omega)) ?_
      try simp (disch := omega) only [up2_ne, up2_eq, q6, q19, q20, q21, q22, q23, q24, hL, st_11_m1 gS, st_11_0 gS, st_11_1 gS, st_11_2 gS, st_11_3 gS, st_11_4 gS, st_11_5 gS, st_19_m2 gS, st_19_m1 gS, st_20_m2 gS, st_20_m1 gS, st_21_m2 gS, st_21_m1 gS, st_22_m2 gS, st_22_m1 gS, st_23_m2 gS, st_23_m1 gS, st_24_m2 gS, st_24_m1 gS]
      refine wp_ior dX1_search_53 ?_
      rw [hor]
      refine wp_cV3r (ci := 1) okX1_keepBetter rfl rfl wX1_50 dX1_search_54 (Nat.le_of_ble_eq_true rfl) (Nat.le_of_ble_eq_true rfl) (by first | omega | (simp (disch := omega) only [up2_ne, up2_eq, q6, q19, q20, q21, q22, q23, q24, hL, st_11_m1 gS, st_11_0 gS, st_11_1 gS, st_11_2 gS, st_11_3 gS, st_11_4 gS, st_11_5 gS, st_19_m2 gS, st_19_m1 gS, st_20_m2 gS, st_20_m1 gS, st_21_m2 gS, st_21_m1 gS, st_22_m2 gS, st_22_m1 gS, st_23_m2 gS, st_23_m1 gS, st_24_m2 gS, st_24_m1 gS]; first | done | omega)) (by first | assumption | (simp (disch := omega) only [up2_ne, up2_eq, q6, q19, q20, q21, q22, q23, q24, hL, st_11_m1 gS, st_11_0 gS, st_11_1 gS, st_11_2 gS, st_11_3 gS, st_11_4 gS, st_11_5 gS, st_19_m2 gS, st_19_m1 gS, st_20_m2 gS, st_20_m1 gS, st_21_m2 gS, st_21_m1 gS, st_22_m2 gS, st_22_m1 gS, st_23_m2 gS, st_23_m1 gS, st_24_m2 gS, st_24_m1 gS]; first | done | rfl | omega)) (s_X1_keepBetter gS hb (by omega) (by omega) (by omega)) (Nat.zero_le _) ?_
      rintro r g1 ⟨rfl, S1, K1, T1, B1⟩ -
      show WP _ _ _ _ _ _ _ [] _
      refine wp_vret dX1_search_57 rfl ?_
      first
        | (exfalso; omega)
        | (refine ⟨rfl, S1, K1, ?_, B1⟩
           rw [T1, hE, if_pos (by omega)]
           rfl)
        | (refine ⟨rfl, gS, fun _ _ _ => rfl, ?_, hb⟩
           rw [hE, if_neg (by omega), if_pos (by omega)])
        | (refine ⟨rfl, S2, fun x k z => (K2 x k z).trans (K1 x k z), ?_, B2⟩
           rw [T2, T1, hE, if_neg (by omega), if_neg (by omega), if_pos (by omega)])
        | (refine ⟨rfl, S2, K2, ?_, B2⟩
           rw [T2, hE, if_neg (by omega), if_neg (by omega), if_neg (by omega)])
