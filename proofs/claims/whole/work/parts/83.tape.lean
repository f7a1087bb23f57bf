/-! ===== text: the class's tape, its tokens ===== -/
def Tp (h : mH) (tc tb : Int) : Prop := h tc (-1) = 10 ∧ h tc 0 = tb ∧ h tc 2 = tb + 1 ∧ h tc 3 = tb + 2 ∧ h tc 4 = tb + 3 ∧ h tb (-1) = 21 ∧ h tb (-2) = 160 ∧ h (tb + 1) (-1) = 20 ∧ h (tb + 1) (-2) = 161 ∧ h (tb + 2) (-1) = 20 ∧ h (tb + 2) (-2) = 161 ∧ h (tb + 3) (-1) = 20 ∧ h (tb + 3) (-2) = 161
abbrev tcb (tc tb : Int) : Prop := (tc = 7 ∧ tb = 13) ∨ (tc = 30 ∧ tb = 31)
theorem tpq_a {h : mH} {tc tb : Int} (T : Tp h tc tb) : h tc (-1) = 10 := T.1
theorem tpq_b {h : mH} {tc tb : Int} (T : Tp h tc tb) : h tc 0 = tb := T.2.1
theorem tpq_c {h : mH} {tc tb : Int} (T : Tp h tc tb) : h tc 2 = tb + 1 := T.2.2.1
theorem tpq_d {h : mH} {tc tb : Int} (T : Tp h tc tb) : h tc 3 = tb + 2 := T.2.2.2.1
theorem tpq_e {h : mH} {tc tb : Int} (T : Tp h tc tb) : h tc 4 = tb + 3 := T.2.2.2.2.1
theorem tpq_f {h : mH} {tc tb : Int} (T : Tp h tc tb) : h tb (-1) = 21 := T.2.2.2.2.2.1
theorem tpq_g {h : mH} {tc tb : Int} (T : Tp h tc tb) : h tb (-2) = 160 := T.2.2.2.2.2.2.1
theorem tpq_h {h : mH} {tc tb : Int} (T : Tp h tc tb) : h (tb + 1) (-1) = 20 := T.2.2.2.2.2.2.2.1
theorem tpq_i {h : mH} {tc tb : Int} (T : Tp h tc tb) : h (tb + 1) (-2) = 161 := T.2.2.2.2.2.2.2.2.1
theorem tpq_j {h : mH} {tc tb : Int} (T : Tp h tc tb) : h (tb + 2) (-1) = 20 := T.2.2.2.2.2.2.2.2.2.1
theorem tpq_k {h : mH} {tc tb : Int} (T : Tp h tc tb) : h (tb + 2) (-2) = 161 := T.2.2.2.2.2.2.2.2.2.2.1
theorem tpq_l {h : mH} {tc tb : Int} (T : Tp h tc tb) : h (tb + 3) (-1) = 20 := T.2.2.2.2.2.2.2.2.2.2.2.1
theorem tpq_m {h : mH} {tc tb : Int} (T : Tp h tc tb) : h (tb + 3) (-2) = 161 := T.2.2.2.2.2.2.2.2.2.2.2.2
theorem Tp_cg {h g : mH} {tc tb : Int} (T : Tp h tc tb) (e : ∀ x k : Int, (x = tc ∧ k ≤ 4) ∨ x = tb ∨ (tb + 1 ≤ x ∧ x ≤ tb + 3 ∧ k < 0) → g x k = h x k) : Tp g tc tb := by
  refine ⟨?_, ?_, ?_, ?_, ?_, ?_, ?_, ?_, ?_, ?_, ?_, ?_, ?_⟩
  · rw [e _ _ (by omega)]; exact tpq_a T
  · rw [e _ _ (by omega)]; exact tpq_b T
  · rw [e _ _ (by omega)]; exact tpq_c T
  · rw [e _ _ (by omega)]; exact tpq_d T
  · rw [e _ _ (by omega)]; exact tpq_e T
  · rw [e _ _ (by omega)]; exact tpq_f T
  · rw [e _ _ (by omega)]; exact tpq_g T
  · rw [e _ _ (by omega)]; exact tpq_h T
  · rw [e _ _ (by omega)]; exact tpq_i T
  · rw [e _ _ (by omega)]; exact tpq_j T
  · rw [e _ _ (by omega)]; exact tpq_k T
  · rw [e _ _ (by omega)]; exact tpq_l T
  · rw [e _ _ (by omega)]; exact tpq_m T
/-- a tape of n bytes, told by f -/
def tF (h : mH) (tc tb n : Int) (f : Int → Int) : Prop := tcb tc tb ∧ Tp h tc tb ∧ h tc 1 = n ∧ LF f n ∧ ∀ k : Int, 0 ≤ k → k < n → h tb k = sgn (f k)
theorem tF_cg {h g : mH} {tc tb n : Int} {f : Int → Int} (TF : tF h tc tb n f) (e : ∀ x k : Int, (x = tc ∧ k ≤ 4) ∨ x = tb ∨ (tb + 1 ≤ x ∧ x ≤ tb + 3 ∧ k < 0) → g x k = h x k) : tF g tc tb n f := by
  obtain ⟨h1, h2, h3, h4, h5⟩ := TF
  exact ⟨h1, Tp_cg h2 e, by rw [e _ _ (by omega)]; exact h3, h4, fun k k0 k1 => by rw [e _ _ (by omega)]; exact h5 k k0 k1⟩
theorem tF_up {h : mH} {tc tb n k v : Int} {f : Int → Int} (TF : tF h tc tb n f) (hk : 5 ≤ k) : tF (up2 h tc k v) tc tb n f := tF_cg TF (fun x y q => by
  have := TF.1
  rw [up2_ne (by omega)])
theorem sgn_c {f : Int → Int} {n k : Int} (F : LF f n) (k0 : 0 ≤ k) : (-1 ≤ f k ∧ f k ≤ 255) ∧ ((f k ≤ 127 ∧ sgn (f k) = f k) ∨ (127 < f k ∧ sgn (f k) = f k - 256)) := by
  refine ⟨F.rng k0, ?_⟩
  unfold sgn
  split <;> omega
theorem sgn_m : sgn (-1) = -1 := rfl
theorem s_X9_isLetter {u : gT} {h : mH} {d b : Nat} {c : Int} (i1 : InI c) : Det (gX (gq u)) MX9_isLetter d b [(0, c)] h (0, bI (97 ≤ c ∧ c ≤ 122)) h := by
  intro Q hQ
  show WP (gX (gq u)) MX9_isLetter d b Q 0 [(0, c)] [] h
  refine wp_iload_n rfl rfl dX9_isLetter_0 ?_
  refine wp_bipush (by decide) dX9_isLetter_1 ?_
  refine wp_icmp_lt (tgt := 16) (by first | assumption | exact bI_in _ | exact ⟨by omega, by omega⟩ | exact iAnd_in | exact iOr_in | exact iShr_in | exact iShl_in | exact iXor_in | exact hxs _) (by first | assumption | exact bI_in _ | exact ⟨by omega, by omega⟩ | exact iAnd_in | exact iOr_in | exact iShr_in | exact iShl_in | exact iXor_in | exact hxs _) dX9_isLetter_3 (by decide) (fun c1 => ?_) (fun c1 => ?_)
  · refine wp_iconst dX9_isLetter_16 ?_
    refine wp_zret (by first | exact Or.inl rfl | exact Or.inr rfl | omega) dX9_isLetter_17 rfl ?_
    first | exact QB_t hQ (by omega) | exact QB_f hQ (by omega)
  · refine wp_iload_n rfl rfl dX9_isLetter_6 ?_
    refine wp_bipush (by decide) dX9_isLetter_7 ?_
    refine wp_icmp_gt (tgt := 16) (by first | assumption | exact bI_in _ | exact ⟨by omega, by omega⟩ | exact iAnd_in | exact iOr_in | exact iShr_in | exact iShl_in | exact iXor_in | exact hxs _) (by first | assumption | exact bI_in _ | exact ⟨by omega, by omega⟩ | exact iAnd_in | exact iOr_in | exact iShr_in | exact iShl_in | exact iXor_in | exact hxs _) dX9_isLetter_9 (by decide) (fun c2 => ?_) (fun c2 => ?_)
    · refine wp_iconst dX9_isLetter_16 ?_
      refine wp_zret (by first | exact Or.inl rfl | exact Or.inr rfl | omega) dX9_isLetter_17 rfl ?_
      first | exact QB_t hQ (by omega) | exact QB_f hQ (by omega)
    · refine wp_iconst dX9_isLetter_12 ?_
      refine wp_goto (tgt := 17) dX9_isLetter_13 (by decide) ?_
      refine wp_zret (by first | exact Or.inl rfl | exact Or.inr rfl | omega) dX9_isLetter_17 rfl ?_
      first | exact QB_t hQ (by omega) | exact QB_f hQ (by omega)
theorem s_X9_isDigit {u : gT} {h : mH} {d b : Nat} {c : Int} (i1 : InI c) : Det (gX (gq u)) MX9_isDigit d b [(0, c)] h (0, bI (48 ≤ c ∧ c ≤ 57)) h := by
  intro Q hQ
  show WP (gX (gq u)) MX9_isDigit d b Q 0 [(0, c)] [] h
  refine wp_iload_n rfl rfl dX9_isDigit_0 ?_
  refine wp_bipush (by decide) dX9_isDigit_1 ?_
  refine wp_icmp_lt (tgt := 16) (by first | assumption | exact bI_in _ | exact ⟨by omega, by omega⟩ | exact iAnd_in | exact iOr_in | exact iShr_in | exact iShl_in | exact iXor_in | exact hxs _) (by first | assumption | exact bI_in _ | exact ⟨by omega, by omega⟩ | exact iAnd_in | exact iOr_in | exact iShr_in | exact iShl_in | exact iXor_in | exact hxs _) dX9_isDigit_3 (by decide) (fun c1 => ?_) (fun c1 => ?_)
  · refine wp_iconst dX9_isDigit_16 ?_
    refine wp_zret (by first | exact Or.inl rfl | exact Or.inr rfl | omega) dX9_isDigit_17 rfl ?_
    first | exact QB_t hQ (by omega) | exact QB_f hQ (by omega)
  · refine wp_iload_n rfl rfl dX9_isDigit_6 ?_
    refine wp_bipush (by decide) dX9_isDigit_7 ?_
    refine wp_icmp_gt (tgt := 16) (by first | assumption | exact bI_in _ | exact ⟨by omega, by omega⟩ | exact iAnd_in | exact iOr_in | exact iShr_in | exact iShl_in | exact iXor_in | exact hxs _) (by first | assumption | exact bI_in _ | exact ⟨by omega, by omega⟩ | exact iAnd_in | exact iOr_in | exact iShr_in | exact iShl_in | exact iXor_in | exact hxs _) dX9_isDigit_9 (by decide) (fun c2 => ?_) (fun c2 => ?_)
    · refine wp_iconst dX9_isDigit_16 ?_
      refine wp_zret (by first | exact Or.inl rfl | exact Or.inr rfl | omega) dX9_isDigit_17 rfl ?_
      first | exact QB_t hQ (by omega) | exact QB_f hQ (by omega)
    · refine wp_iconst dX9_isDigit_12 ?_
      refine wp_goto (tgt := 17) dX9_isDigit_13 (by decide) ?_
      refine wp_zret (by first | exact Or.inl rfl | exact Or.inr rfl | omega) dX9_isDigit_17 rfl ?_
      first | exact QB_t hQ (by omega) | exact QB_f hQ (by omega)
theorem s_X9_clear {u : gT} {h : mH} {d b : Nat} {tc tb : Int} (hcb : tcb tc tb) (T : Tp h tc tb) : Det (gX (gq u)) MX9_clear d b [(2, tc)] h (9, 0) (up2 h tc 1 0) := by
  intro Q hQ
  show WP (gX (gq u)) MX9_clear d b Q 0 [(2, tc)] [] h
  refine wp_aload_n rfl rfl dX9_clear_0 ?_
  refine wp_iconst dX9_clear_1 ?_
  refine wp_putfield1 (z := 10) (kI := 1) fX9_25 dX9_clear_2 (by first | omega | (simp (disch := omega) only [up2_ne, up2_eq, tpq_a T]; first | done | omega)) (by first | assumption | (simp (disch := omega) only [up2_ne, up2_eq, tpq_a T]; first | done | rfl | omega)) rfl rfl ?_
  refine wp_vret dX9_clear_5 rfl ?_
  exact hQ
theorem s_X9_byteAt {u : gT} {h : mH} {d b : Nat} {tc tb n : Int} {f : Int → Int} (TF : tF h tc tb n f) {i : Int} (i0 : 0 ≤ i) (i1 : i ≤ 2000) : Det (gX (gq u)) MX9_byteAt (d + 1) b [(2, tc), (0, i)] h (0, sgn (f i)) h := by
  intro Q hQ
  obtain ⟨hcb, T, hn, F, hB⟩ := id TF
  have hn1 := F.1
  have hn2 := F.2.1
  show WP (gX (gq u)) MX9_byteAt (d + 1) b Q 0 [(2, tc), (0, i)] [] h
  refine wp_iload_n rfl rfl dX9_byteAt_0 ?_
  refine wp_iconst dX9_byteAt_1 ?_
  refine wp_aload_n rfl rfl dX9_byteAt_2 ?_
  refine wp_getfield1 (z := 10) (kI := 1) fX9_25 dX9_byteAt_3 (by first | omega | (simp (disch := omega) only [up2_ne, up2_eq, tpq_a T, tpq_b T, tpq_c T, tpq_d T, tpq_e T, tpq_f T, tpq_g T, tpq_h T, tpq_i T, tpq_j T, tpq_k T, tpq_l T, tpq_m T, hn]; first | done | omega)) (by first | assumption | (simp (disch := omega) only [up2_ne, up2_eq, tpq_a T, tpq_b T, tpq_c T, tpq_d T, tpq_e T, tpq_f T, tpq_g T, tpq_h T, tpq_i T, tpq_j T, tpq_k T, tpq_l T, tpq_m T, hn]; first | done | rfl | omega)) rfl rfl ?_
  try simp (disch := omega) only [up2_ne, up2_eq, tpq_a T, tpq_b T, tpq_c T, tpq_d T, tpq_e T, tpq_f T, tpq_g T, tpq_h T, tpq_i T, tpq_j T, tpq_k T, tpq_l T, tpq_m T, hn]
  refine wp_iconst dX9_byteAt_6 ?_
  refine wp_isub dX9_byteAt_7 ?_
  refine wp_cSN3 okX11_isWithin wX9_63 dX9_byteAt_8 rfl (Nat.le_of_ble_eq_true rfl) (Nat.le_of_ble_eq_true rfl) (s_X11_isWithin ⟨by omega, by omega⟩ In0 ⟨by omega, by omega⟩) (Nat.zero_le _) ?_
  try simp (disch := omega) only [up2_ne, up2_eq, tpq_a T, tpq_b T, tpq_c T, tpq_d T, tpq_e T, tpq_f T, tpq_g T, tpq_h T, tpq_i T, tpq_j T, tpq_k T, tpq_l T, tpq_m T, hn]
  refine wp_ifB_eq (tgt := 23) dX9_byteAt_11 (by decide) (fun c1 => ?_) (fun c1 => ?_)
  · refine wp_iconst dX9_byteAt_23 ?_
    refine wp_iret dX9_byteAt_24 rfl ?_
    first
      | (rw [← hB i (by omega) (by omega)] at hQ; exact hQ)
      | (rw [F.2.2.2 i (by omega), sgn_m] at hQ; exact hQ)
  · refine wp_aload_n rfl rfl dX9_byteAt_14 ?_
    refine wp_getfield1 (z := 10) (kI := 0) fX9_9 dX9_byteAt_15 (by first | omega | (simp (disch := omega) only [up2_ne, up2_eq, tpq_a T, tpq_b T, tpq_c T, tpq_d T, tpq_e T, tpq_f T, tpq_g T, tpq_h T, tpq_i T, tpq_j T, tpq_k T, tpq_l T, tpq_m T, hn]; first | done | omega)) (by first | assumption | (simp (disch := omega) only [up2_ne, up2_eq, tpq_a T, tpq_b T, tpq_c T, tpq_d T, tpq_e T, tpq_f T, tpq_g T, tpq_h T, tpq_i T, tpq_j T, tpq_k T, tpq_l T, tpq_m T, hn]; first | done | rfl | omega)) rfl rfl ?_
    try simp (disch := omega) only [up2_ne, up2_eq, tpq_a T, tpq_b T, tpq_c T, tpq_d T, tpq_e T, tpq_f T, tpq_g T, tpq_h T, tpq_i T, tpq_j T, tpq_k T, tpq_l T, tpq_m T, hn]
    refine wp_iload_n rfl rfl dX9_byteAt_18 ?_
    refine wp_baload1 dX9_byteAt_19 (by first | omega | (simp (disch := omega) only [up2_ne, up2_eq, tpq_a T, tpq_b T, tpq_c T, tpq_d T, tpq_e T, tpq_f T, tpq_g T, tpq_h T, tpq_i T, tpq_j T, tpq_k T, tpq_l T, tpq_m T, hn]; first | done | omega)) (by first | assumption | (simp (disch := omega) only [up2_ne, up2_eq, tpq_a T, tpq_b T, tpq_c T, tpq_d T, tpq_e T, tpq_f T, tpq_g T, tpq_h T, tpq_i T, tpq_j T, tpq_k T, tpq_l T, tpq_m T, hn]; first | done | rfl | omega)) (by first | omega | (simp (disch := omega) only [up2_ne, up2_eq, tpq_a T, tpq_b T, tpq_c T, tpq_d T, tpq_e T, tpq_f T, tpq_g T, tpq_h T, tpq_i T, tpq_j T, tpq_k T, tpq_l T, tpq_m T, hn]; first | done | omega)) (by first | omega | (simp (disch := omega) only [up2_ne, up2_eq, tpq_a T, tpq_b T, tpq_c T, tpq_d T, tpq_e T, tpq_f T, tpq_g T, tpq_h T, tpq_i T, tpq_j T, tpq_k T, tpq_l T, tpq_m T, hn]; first | done | omega)) ?_
    try simp (disch := omega) only [up2_ne, up2_eq, tpq_a T, tpq_b T, tpq_c T, tpq_d T, tpq_e T, tpq_f T, tpq_g T, tpq_h T, tpq_i T, tpq_j T, tpq_k T, tpq_l T, tpq_m T, hn]
    refine wp_goto (tgt := 24) dX9_byteAt_20 (by decide) ?_
    refine wp_iret dX9_byteAt_24 rfl ?_
    first
      | (rw [← hB i (by omega) (by omega)] at hQ; exact hQ)
      | (rw [F.2.2.2 i (by omega), sgn_m] at hQ; exact hQ)
theorem s_X9_skipBlanks {u : gT} {h : mH} {d b : Nat} {tc tb n : Int} {f : Int → Int} (TF : tF h tc tb n f) {p : Int} (hp : h tc 6 = p) (p0 : 0 ≤ p) (p1 : p ≤ n) : Det (gX (gq u)) MX9_skipBlanks (d + 2) b [(2, tc)] h (9, 0) (up2 h tc 6 (tB f p)) := by
  intro Q hQ
  obtain ⟨hcb, T, hn, F, hB⟩ := id TF
  have hn1 := F.1
  have hn2 := F.2.1
  have loop : ∀ j : Nat, j ≤ (n - p).toNat → tB f (p + j) = tB f p → WP (gX (gq u)) MX9_skipBlanks (d + 2) b Q 0 [(2, tc)] [] (up2 h tc 6 (p + j)) := by
    refine loop_w (n - p).toNat (fun j hj ih => ?_)
    intro he
    have hs := sgn_c F (k := p + j) (by omega)
    have TG : tF (up2 h tc 6 (p + j)) tc tb n f := tF_up TF (by omega)
    refine wp_aload_n rfl rfl dX9_skipBlanks_0 ?_
    refine wp_getfield1 (z := 10) (kI := 6) fX9_46 dX9_skipBlanks_1 (by first | omega | (simp (disch := omega) only [up2_ne, up2_eq, tpq_a T, tpq_b T, tpq_c T, tpq_d T, tpq_e T, tpq_f T, tpq_g T, tpq_h T, tpq_i T, tpq_j T, tpq_k T, tpq_l T, tpq_m T, hn, hp]; first | done | omega)) (by first | assumption | (simp (disch := omega) only [up2_ne, up2_eq, tpq_a T, tpq_b T, tpq_c T, tpq_d T, tpq_e T, tpq_f T, tpq_g T, tpq_h T, tpq_i T, tpq_j T, tpq_k T, tpq_l T, tpq_m T, hn, hp]; first | done | rfl | omega)) rfl rfl ?_
    try simp (disch := omega) only [up2_ne, up2_eq, tpq_a T, tpq_b T, tpq_c T, tpq_d T, tpq_e T, tpq_f T, tpq_g T, tpq_h T, tpq_i T, tpq_j T, tpq_k T, tpq_l T, tpq_m T, hn, hp]
    refine wp_aload_n rfl rfl dX9_skipBlanks_4 ?_
    refine wp_getfield1 (z := 10) (kI := 1) fX9_25 dX9_skipBlanks_5 (by first | omega | (simp (disch := omega) only [up2_ne, up2_eq, tpq_a T, tpq_b T, tpq_c T, tpq_d T, tpq_e T, tpq_f T, tpq_g T, tpq_h T, tpq_i T, tpq_j T, tpq_k T, tpq_l T, tpq_m T, hn, hp]; first | done | omega)) (by first | assumption | (simp (disch := omega) only [up2_ne, up2_eq, tpq_a T, tpq_b T, tpq_c T, tpq_d T, tpq_e T, tpq_f T, tpq_g T, tpq_h T, tpq_i T, tpq_j T, tpq_k T, tpq_l T, tpq_m T, hn, hp]; first | done | rfl | omega)) rfl rfl ?_
    try simp (disch := omega) only [up2_ne, up2_eq, tpq_a T, tpq_b T, tpq_c T, tpq_d T, tpq_e T, tpq_f T, tpq_g T, tpq_h T, tpq_i T, tpq_j T, tpq_k T, tpq_l T, tpq_m T, hn, hp]
    refine wp_icmp_ge (tgt := 50) (by first | assumption | exact bI_in _ | exact ⟨by omega, by omega⟩ | exact iAnd_in | exact iOr_in | exact iShr_in | exact iShl_in | exact iXor_in | exact hxs _) (by first | assumption | exact bI_in _ | exact ⟨by omega, by omega⟩ | exact iAnd_in | exact iOr_in | exact iShr_in | exact iShl_in | exact iXor_in | exact hxs _) dX9_skipBlanks_8 (by decide) (fun c1 => ?_) (fun c1 => ?_)
    · refine wp_vret dX9_skipBlanks_50 rfl ?_
      have hz : tB f (p + j) = p + j := by first | exact tB_f (F.pB _ (by omega)) | exact tB_f (decide_eq_false (by omega))
      rw [← he, hz] at hQ
      exact hQ
    · refine wp_aload_n rfl rfl dX9_skipBlanks_11 ?_
      refine wp_aload_n rfl rfl dX9_skipBlanks_12 ?_
      refine wp_getfield1 (z := 10) (kI := 6) fX9_46 dX9_skipBlanks_13 (by first | omega | (simp (disch := omega) only [up2_ne, up2_eq, tpq_a T, tpq_b T, tpq_c T, tpq_d T, tpq_e T, tpq_f T, tpq_g T, tpq_h T, tpq_i T, tpq_j T, tpq_k T, tpq_l T, tpq_m T, hn, hp]; first | done | omega)) (by first | assumption | (simp (disch := omega) only [up2_ne, up2_eq, tpq_a T, tpq_b T, tpq_c T, tpq_d T, tpq_e T, tpq_f T, tpq_g T, tpq_h T, tpq_i T, tpq_j T, tpq_k T, tpq_l T, tpq_m T, hn, hp]; first | done | rfl | omega)) rfl rfl ?_
      try simp (disch := omega) only [up2_ne, up2_eq, tpq_a T, tpq_b T, tpq_c T, tpq_d T, tpq_e T, tpq_f T, tpq_g T, tpq_h T, tpq_i T, tpq_j T, tpq_k T, tpq_l T, tpq_m T, hn, hp]
      refine wp_cV1 (ci := 9) okX9_byteAt rfl rfl wX9_67 dX9_skipBlanks_16 rfl (Nat.le_of_ble_eq_true rfl) (Nat.le_of_ble_eq_true rfl) (by first | omega | (simp (disch := omega) only [up2_ne, up2_eq, tpq_a T, tpq_b T, tpq_c T, tpq_d T, tpq_e T, tpq_f T, tpq_g T, tpq_h T, tpq_i T, tpq_j T, tpq_k T, tpq_l T, tpq_m T, hn, hp]; first | done | omega)) (by first | assumption | (simp (disch := omega) only [up2_ne, up2_eq, tpq_a T, tpq_b T, tpq_c T, tpq_d T, tpq_e T, tpq_f T, tpq_g T, tpq_h T, tpq_i T, tpq_j T, tpq_k T, tpq_l T, tpq_m T, hn, hp]; first | done | rfl | omega)) (s_X9_byteAt TG (by omega) (by omega)) (Nat.zero_le _) ?_
      try simp (disch := omega) only [up2_ne, up2_eq, tpq_a T, tpq_b T, tpq_c T, tpq_d T, tpq_e T, tpq_f T, tpq_g T, tpq_h T, tpq_i T, tpq_j T, tpq_k T, tpq_l T, tpq_m T, hn, hp]
      refine wp_bipush (by decide) dX9_skipBlanks_19 ?_
      refine wp_icmp_eq (tgt := 37) (by first | assumption | exact bI_in _ | exact ⟨by omega, by omega⟩ | exact iAnd_in | exact iOr_in | exact iShr_in | exact iShl_in | exact iXor_in | exact hxs _) (by first | assumption | exact bI_in _ | exact ⟨by omega, by omega⟩ | exact iAnd_in | exact iOr_in | exact iShr_in | exact iShl_in | exact iXor_in | exact hxs _) dX9_skipBlanks_21 (by decide) (fun c2 => ?_) (fun c2 => ?_)
      · refine wp_aload_n rfl rfl dX9_skipBlanks_37 ?_
        refine wp_dup (by decide) dX9_skipBlanks_38 ?_
        refine wp_getfield1 (z := 10) (kI := 6) fX9_46 dX9_skipBlanks_39 (by first | omega | (simp (disch := omega) only [up2_ne, up2_eq, tpq_a T, tpq_b T, tpq_c T, tpq_d T, tpq_e T, tpq_f T, tpq_g T, tpq_h T, tpq_i T, tpq_j T, tpq_k T, tpq_l T, tpq_m T, hn, hp]; first | done | omega)) (by first | assumption | (simp (disch := omega) only [up2_ne, up2_eq, tpq_a T, tpq_b T, tpq_c T, tpq_d T, tpq_e T, tpq_f T, tpq_g T, tpq_h T, tpq_i T, tpq_j T, tpq_k T, tpq_l T, tpq_m T, hn, hp]; first | done | rfl | omega)) rfl rfl ?_
        try simp (disch := omega) only [up2_ne, up2_eq, tpq_a T, tpq_b T, tpq_c T, tpq_d T, tpq_e T, tpq_f T, tpq_g T, tpq_h T, tpq_i T, tpq_j T, tpq_k T, tpq_l T, tpq_m T, hn, hp]
        refine wp_iconst dX9_skipBlanks_42 ?_
        refine wp_iadd dX9_skipBlanks_43 ?_
        refine wp_putfield1 (z := 10) (kI := 6) fX9_46 dX9_skipBlanks_44 (by first | omega | (simp (disch := omega) only [up2_ne, up2_eq, tpq_a T, tpq_b T, tpq_c T, tpq_d T, tpq_e T, tpq_f T, tpq_g T, tpq_h T, tpq_i T, tpq_j T, tpq_k T, tpq_l T, tpq_m T, hn, hp]; first | done | omega)) (by first | assumption | (simp (disch := omega) only [up2_ne, up2_eq, tpq_a T, tpq_b T, tpq_c T, tpq_d T, tpq_e T, tpq_f T, tpq_g T, tpq_h T, tpq_i T, tpq_j T, tpq_k T, tpq_l T, tpq_m T, hn, hp]; first | done | rfl | omega)) rfl rfl ?_
        refine wp_goto (tgt := 0) dX9_skipBlanks_47 (by decide) ?_
        have z := ih (by omega) (by rw [show p + ((j + 1 : Nat) : Int) = p + j + 1 by omega, tB_s F (by omega) (decide_eq_true (by omega))]; exact he)
        rw [up2_up2, show p + j + 1 = p + ((j + 1 : Nat) : Int) by omega]
        exact z
      · refine wp_aload_n rfl rfl dX9_skipBlanks_24 ?_
        refine wp_aload_n rfl rfl dX9_skipBlanks_25 ?_
        refine wp_getfield1 (z := 10) (kI := 6) fX9_46 dX9_skipBlanks_26 (by first | omega | (simp (disch := omega) only [up2_ne, up2_eq, tpq_a T, tpq_b T, tpq_c T, tpq_d T, tpq_e T, tpq_f T, tpq_g T, tpq_h T, tpq_i T, tpq_j T, tpq_k T, tpq_l T, tpq_m T, hn, hp]; first | done | omega)) (by first | assumption | (simp (disch := omega) only [up2_ne, up2_eq, tpq_a T, tpq_b T, tpq_c T, tpq_d T, tpq_e T, tpq_f T, tpq_g T, tpq_h T, tpq_i T, tpq_j T, tpq_k T, tpq_l T, tpq_m T, hn, hp]; first | done | rfl | omega)) rfl rfl ?_
        try simp (disch := omega) only [up2_ne, up2_eq, tpq_a T, tpq_b T, tpq_c T, tpq_d T, tpq_e T, tpq_f T, tpq_g T, tpq_h T, tpq_i T, tpq_j T, tpq_k T, tpq_l T, tpq_m T, hn, hp]
        refine wp_cV1 (ci := 9) okX9_byteAt rfl rfl wX9_67 dX9_skipBlanks_29 rfl (Nat.le_of_ble_eq_true rfl) (Nat.le_of_ble_eq_true rfl) (by first | omega | (simp (disch := omega) only [up2_ne, up2_eq, tpq_a T, tpq_b T, tpq_c T, tpq_d T, tpq_e T, tpq_f T, tpq_g T, tpq_h T, tpq_i T, tpq_j T, tpq_k T, tpq_l T, tpq_m T, hn, hp]; first | done | omega)) (by first | assumption | (simp (disch := omega) only [up2_ne, up2_eq, tpq_a T, tpq_b T, tpq_c T, tpq_d T, tpq_e T, tpq_f T, tpq_g T, tpq_h T, tpq_i T, tpq_j T, tpq_k T, tpq_l T, tpq_m T, hn, hp]; first | done | rfl | omega)) (s_X9_byteAt TG (by omega) (by omega)) (Nat.zero_le _) ?_
        try simp (disch := omega) only [up2_ne, up2_eq, tpq_a T, tpq_b T, tpq_c T, tpq_d T, tpq_e T, tpq_f T, tpq_g T, tpq_h T, tpq_i T, tpq_j T, tpq_k T, tpq_l T, tpq_m T, hn, hp]
        refine wp_bipush (by decide) dX9_skipBlanks_32 ?_
        refine wp_icmp_ne (tgt := 50) (by first | assumption | exact bI_in _ | exact ⟨by omega, by omega⟩ | exact iAnd_in | exact iOr_in | exact iShr_in | exact iShl_in | exact iXor_in | exact hxs _) (by first | assumption | exact bI_in _ | exact ⟨by omega, by omega⟩ | exact iAnd_in | exact iOr_in | exact iShr_in | exact iShl_in | exact iXor_in | exact hxs _) dX9_skipBlanks_34 (by decide) (fun c3 => ?_) (fun c3 => ?_)
        · refine wp_vret dX9_skipBlanks_50 rfl ?_
          have hz : tB f (p + j) = p + j := by first | exact tB_f (F.pB _ (by omega)) | exact tB_f (decide_eq_false (by omega))
          rw [← he, hz] at hQ
          exact hQ
        · refine wp_aload_n rfl rfl dX9_skipBlanks_37 ?_
          refine wp_dup (by decide) dX9_skipBlanks_38 ?_
          refine wp_getfield1 (z := 10) (kI := 6) fX9_46 dX9_skipBlanks_39 (by first | omega | (simp (disch := omega) only [up2_ne, up2_eq, tpq_a T, tpq_b T, tpq_c T, tpq_d T, tpq_e T, tpq_f T, tpq_g T, tpq_h T, tpq_i T, tpq_j T, tpq_k T, tpq_l T, tpq_m T, hn, hp]; first | done | omega)) (by first | assumption | (simp (disch := omega) only [up2_ne, up2_eq, tpq_a T, tpq_b T, tpq_c T, tpq_d T, tpq_e T, tpq_f T, tpq_g T, tpq_h T, tpq_i T, tpq_j T, tpq_k T, tpq_l T, tpq_m T, hn, hp]; first | done | rfl | omega)) rfl rfl ?_
          try simp (disch := omega) only [up2_ne, up2_eq, tpq_a T, tpq_b T, tpq_c T, tpq_d T, tpq_e T, tpq_f T, tpq_g T, tpq_h T, tpq_i T, tpq_j T, tpq_k T, tpq_l T, tpq_m T, hn, hp]
          refine wp_iconst dX9_skipBlanks_42 ?_
          refine wp_iadd dX9_skipBlanks_43 ?_
          refine wp_putfield1 (z := 10) (kI := 6) fX9_46 dX9_skipBlanks_44 (by first | omega | (simp (disch := omega) only [up2_ne, up2_eq, tpq_a T, tpq_b T, tpq_c T, tpq_d T, tpq_e T, tpq_f T, tpq_g T, tpq_h T, tpq_i T, tpq_j T, tpq_k T, tpq_l T, tpq_m T, hn, hp]; first | done | omega)) (by first | assumption | (simp (disch := omega) only [up2_ne, up2_eq, tpq_a T, tpq_b T, tpq_c T, tpq_d T, tpq_e T, tpq_f T, tpq_g T, tpq_h T, tpq_i T, tpq_j T, tpq_k T, tpq_l T, tpq_m T, hn, hp]; first | done | rfl | omega)) rfl rfl ?_
          refine wp_goto (tgt := 0) dX9_skipBlanks_47 (by decide) ?_
          have z := ih (by omega) (by rw [show p + ((j + 1 : Nat) : Int) = p + j + 1 by omega, tB_s F (by omega) (decide_eq_true (by omega))]; exact he)
          rw [up2_up2, show p + j + 1 = p + ((j + 1 : Nat) : Int) by omega]
          exact z
  have z := loop 0 (by omega) (by rw [show p + ((0 : Nat) : Int) = p by omega])
  rw [show p + ((0 : Nat) : Int) = p by omega, up2_same hp] at z
  exact z
def WOL : List Nat := [0, 0, 0, 0, 0, 1, 1, 1, 1, 2, 2, 2, 2, 2, 2, 3, 3, 3, 3, 4, 4, 4, 4, 4, 5, 5, 5, 5, 5, 5, 5, 5, 6, 6, 6, 6, 6, 6, 6, 7, 7, 7, 7, 8, 8, 8, 8, 8, 9, 9, 9, 9, 9, 10, 10, 10, 11, 11, 11, 11, 12, 12, 12, 12, 13]
def KOL : List Nat := [0, 1, 2, 3, 4, 0, 1, 2, 3, 0, 1, 2, 3, 4, 5, 0, 1, 2, 3, 0, 1, 2, 3, 4, 0, 1, 2, 3, 4, 5, 6, 7, 0, 1, 2, 3, 4, 5, 6, 0, 1, 2, 3, 0, 1, 2, 3, 4, 0, 1, 2, 3, 4, 0, 1, 2, 0, 1, 2, 3, 0, 1, 2, 3, 0]
theorem wd_tab : ∀ i : Nat, i < 64 → (0 ≤ strF strL2 i ∧ strF strL2 i ≤ 127) ∧ WOL.getD i 0 < 13 ∧ (strF strL2 i ≠ 32 → WOL.getD (i + 1) 0 = WOL.getD i 0 ∧ KOL.getD (i + 1) 0 = KOL.getD i 0 + 1 ∧ strF strL2 i = LETL.getD (BGL.getD (WOL.getD i 0) 0 + KOL.getD i 0) 0) ∧ (strF strL2 i = 32 → KOL.getD i 0 = SZL.getD (WOL.getD i 0) 0 ∧ WOL.getD (i + 1) 0 = WOL.getD i 0 + 1 ∧ KOL.getD (i + 1) 0 = 0) := by decide +kernel
theorem let_b : ∀ k : Nat, k < 51 → 97 ≤ LETL.getD k 0 ∧ LETL.getD k 0 ≤ 122 := by decide +kernel
theorem wd_rng : ∀ w : Nat, w < 13 → ∀ k : Nat, k < SZL.getD w 0 → BGL.getD w 0 + k < 51 := by decide +kernel
theorem ko_b : ∀ i : Nat, i < 65 → KOL.getD i 0 ≤ 7 := by decide +kernel
/-- the letters up to the k-th are the word's -/
def wPr (f : Int → Int) (p e : Int) (w k : Nat) : Prop := ∀ j : Nat, j < k → p + j < e ∧ f (p + j) = LETL.getD (BGL.getD w 0 + j) 0
theorem wPr_s {f : Int → Int} {p e : Int} {w k : Nat} : wPr f p e w (k + 1) ↔ wPr f p e w k ∧ p + k < e ∧ f (p + k) = LETL.getD (BGL.getD w 0 + k) 0 := by
  constructor
  · intro h
    exact ⟨fun j hj => h j (by omega), h k (by omega)⟩
  · intro h j hj
    by_cases c : j = k
    · rw [c]
      exact h.2
    · exact h.1 j (by omega)
theorem wPr_m {f : Int → Int} {p e : Int} {w : Nat} (h : p ≤ e) : (wPr f p e w (SZL.getD w 0) ∧ p + (SZL.getD w 0 : Nat) = e) ↔ wMt f p (e - p).toNat w := by
  constructor
  · intro q
    refine ⟨by omega, fun k hk => (q.1 k (by omega)).2⟩
  · intro q
    have h1 := q.1
    exact ⟨fun j hj => ⟨by omega, q.2 j (by omega)⟩, by omega⟩
theorem wF_w {f : Int → Int} {p : Int} {m w : Nat} (hw : w < 13) (h : ¬ wMt f p m w) : wF f p m (13 - w) = wF f p m (13 - (w + 1)) := by
  have e1 : 13 - w = (12 - w) + 1 := by omega
  have e2 : 13 - (w + 1) = 12 - w := by omega
  rw [e1, e2]
  exact wF_f (by rw [show 12 - (12 - w) = w by omega]; exact h)
theorem wF_y {f : Int → Int} {p : Int} {m w : Nat} (hw : w < 13) (h : wMt f p m w) : wF f p m (13 - w) = w := by
  have e1 : 13 - w = (12 - w) + 1 := by omega
  rw [e1, wF_t (by rw [show 12 - (12 - w) = w by omega]; exact h), show 12 - (12 - w) = w by omega]
set_option maxHeartbeats 1000000 in
theorem s_X9_wordIn {u : gT} {h : mH} {d b : Nat} {tc tb n : Int} {f : Int → Int} (TF : tF h tc tb n f) {p ee : Int} (hfm : u.2.2.2.2.2 ≤ -10 ∨ u.2.2.2.2.2 = -1) (he : h tc 6 = ee) (p0 : 0 ≤ p) (he1 : p ≤ ee) (he2 : ee ≤ n) : Det (gX (gq u)) MX9_wordIn (d + 4) b [(2, tc), (0, p)] h (0, wF f p (ee - p).toNat 13) h := by
  intro Q hQ
  obtain ⟨hcb, T, hn, F, hB⟩ := id TF
  have hn1 := F.1
  have hn2 := F.2.1
  have loop : ∀ i : Nat, i ≤ 64 → ∀ sv : Int, (sv = 0 ∨ sv = 1) → (sv = 1 ↔ wPr f p ee (WOL.getD i 0) (KOL.getD i 0)) → wF f p (ee - p).toNat (13 - WOL.getD i 0) = wF f p (ee - p).toNat 13 → WP (gX (gq u)) MX9_wordIn (d + 4) b Q 10 [(2, tc), (0, p), (0, ((WOL.getD i 0 : Nat) : Int)), (0, p + ((KOL.getD i 0 : Nat) : Int)), (0, sv), (0, (i : Int)), (9, 0)] [] h := by
    refine loop_w 64 (fun i hi ih => ?_)
    intro sv hsv hpr hw
    have ht := fun z : i < 64 => wd_tab i z
    have hkb := ko_b i (by omega)
    have hs := sgn_c F (k := p + ((KOL.getD i 0 : Nat) : Int)) (by omega)
    generalize hW : WOL.getD i 0 = wi at *
    generalize hK : KOL.getD i 0 = ki at *
    refine wp_iload rfl dX9_wordIn_10 ?_
    refine wp_ldcS (List.mem_of_getElem? (i := 2) rfl) dX9_wordIn_12 ?_
    refine wp_cR0 okJ0_length_8abf5 rfl (show (-22 : Int) ∈ ([-20, -21, -22] : List Int) by decide) wX9_29 dX9_wordIn_14 rfl (Nat.le_of_ble_eq_true rfl) (Nat.le_of_ble_eq_true rfl) (by first | assumption | decide) (s_J0_length_8abf5 isStr2) (Nat.zero_le _) ?_
    try simp (disch := omega) only [up2_ne, up2_eq, tpq_a T, tpq_b T, tpq_c T, tpq_d T, tpq_e T, tpq_f T, tpq_g T, tpq_h T, tpq_i T, tpq_j T, tpq_k T, tpq_l T, tpq_m T, hn, he, Int.toNat_natCast]
    refine wp_icmp_ge (tgt := 101) (by first | assumption | exact bI_in _ | exact ⟨by omega, by omega⟩ | exact iAnd_in | exact iOr_in | exact iShr_in | exact iShl_in | exact iXor_in | exact hxs _) (by first | assumption | exact bI_in _ | exact ⟨by omega, by omega⟩ | exact iAnd_in | exact iOr_in | exact iShr_in | exact iShl_in | exact iXor_in | exact hxs _) dX9_wordIn_17 (by decide) (fun c1 => ?_) (fun c1 => ?_)
    · refine wp_bipush (by decide) dX9_wordIn_101 ?_
      refine wp_iret dX9_wordIn_103 rfl ?_
      first
        | (have h4 := ht.2.2.2 (by assumption)
           have y := (wPr_m (w := wi) he1).mp ⟨by rw [← h4.1]; exact hpr.mp (by omega), by omega⟩
           rw [← hw, wF_y ht.2.1 y] at hQ
           exact hQ)
        | (have e64 : i = 64 := by omega
           subst e64
           have ew : wi = 13 := by rw [← hW]; rfl
           subst ew
           rw [← hw] at hQ
           exact hQ)
    · refine wp_ldcS (List.mem_of_getElem? (i := 2) rfl) dX9_wordIn_20 ?_
      have ht := ht (by omega)
      refine wp_iload rfl dX9_wordIn_22 ?_
      refine wp_cR1 okJ0_charAt_5068e rfl (show (-22 : Int) ∈ ([-20, -21, -22] : List Int) by decide) wX9_35 dX9_wordIn_24 rfl (Nat.le_of_ble_eq_true rfl) (Nat.le_of_ble_eq_true rfl) (by first | assumption | decide) (s_J0_charAt_5068e isStr2 hfm (by omega) (by omega)) (Nat.zero_le _) ?_
      try simp (disch := omega) only [up2_ne, up2_eq, tpq_a T, tpq_b T, tpq_c T, tpq_d T, tpq_e T, tpq_f T, tpq_g T, tpq_h T, tpq_i T, tpq_j T, tpq_k T, tpq_l T, tpq_m T, hn, he, Int.toNat_natCast]
      refine wp_istore dX9_wordIn_27 rfl (Nat.le_of_ble_eq_true rfl) rfl ?_
      try simp only [List.set_cons_zero, List.set_cons_succ]
      refine wp_iload rfl dX9_wordIn_29 ?_
      refine wp_bipush (by decide) dX9_wordIn_31 ?_
      refine wp_icmp_eq (tgt := 72) (by first | assumption | exact bI_in _ | exact ⟨by omega, by omega⟩ | exact iAnd_in | exact iOr_in | exact iShr_in | exact iShl_in | exact iXor_in | exact hxs _) (by first | assumption | exact bI_in _ | exact ⟨by omega, by omega⟩ | exact iAnd_in | exact iOr_in | exact iShr_in | exact iShl_in | exact iXor_in | exact hxs _) dX9_wordIn_33 (by decide) (fun c2 => ?_) (fun c2 => ?_)
      · refine wp_iload rfl dX9_wordIn_72 ?_
        refine wp_if_eq (tgt := 87) (by first | assumption | exact bI_in _ | exact ⟨by omega, by omega⟩ | exact iAnd_in | exact iOr_in | exact iShr_in | exact iShl_in | exact iXor_in | exact hxs _) dX9_wordIn_74 (by decide) (fun c3 => ?_) (fun c3 => ?_)
        · refine wp_iinc rfl rfl dX9_wordIn_87 rfl rfl ?_
          try simp only [List.set_cons_zero, List.set_cons_succ]
          refine wp_iload_n rfl rfl dX9_wordIn_90 ?_
          refine wp_istore_n rfl dX9_wordIn_91 rfl (Nat.le_of_ble_eq_true rfl) rfl ?_
          try simp only [List.set_cons_zero, List.set_cons_succ]
          refine wp_iconst dX9_wordIn_92 ?_
          refine wp_istore dX9_wordIn_93 rfl (Nat.le_of_ble_eq_true rfl) rfl ?_
          try simp only [List.set_cons_zero, List.set_cons_succ]
          refine wp_iinc rfl rfl dX9_wordIn_95 rfl rfl ?_
          try simp only [List.set_cons_zero, List.set_cons_succ]
          refine wp_goto (tgt := 10) dX9_wordIn_98 (by decide) ?_
          refine wp_dropAt 6 rfl ?_
          first
            | (have h3 := ht.2.2.1 (by assumption)
               have z := ih (by omega)
               rw [h3.1, h3.2.1, show p + ((ki + 1 : Nat) : Int) = p + (ki : Int) + 1 by omega, show ((i + 1 : Nat) : Int) = (i : Int) + 1 by omega] at z
               exact z _ (by first | exact Or.inl rfl | exact Or.inr rfl) (by
                 rw [wPr_s, ← hpr, ← h3.2.2]
                 constructor
                 · intro y
                   first | (exfalso; omega) | exact ⟨by omega, by omega, by omega⟩
                 · intro y
                   first | rfl | (exfalso; omega)) hw)
            | (have h4 := ht.2.2.2 (by assumption)
               have z := ih (by omega)
               rw [h4.2.1, h4.2.2, show p + ((0 : Nat) : Int) = p from Int.add_zero p, show ((wi + 1 : Nat) : Int) = (wi : Int) + 1 by omega, show ((i + 1 : Nat) : Int) = (i : Int) + 1 by omega] at z
               refine z 1 (Or.inr rfl) ⟨fun _ j hj => absurd hj (Nat.not_lt_zero j), fun _ => rfl⟩ ?_
               rw [← hw]
               refine (wF_w ht.2.1 (fun y => ?_)).symm
               have y2 := (wPr_m he1).mpr y
               rw [← h4.1, ← hpr] at y2
               omega)
        · refine wp_iload_n rfl rfl dX9_wordIn_77 ?_
          refine wp_aload_n rfl rfl dX9_wordIn_78 ?_
          refine wp_getfield1 (z := 10) (kI := 6) fX9_46 dX9_wordIn_79 (by first | omega | (simp (disch := omega) only [up2_ne, up2_eq, tpq_a T, tpq_b T, tpq_c T, tpq_d T, tpq_e T, tpq_f T, tpq_g T, tpq_h T, tpq_i T, tpq_j T, tpq_k T, tpq_l T, tpq_m T, hn, he, Int.toNat_natCast]; first | done | omega)) (by first | assumption | (simp (disch := omega) only [up2_ne, up2_eq, tpq_a T, tpq_b T, tpq_c T, tpq_d T, tpq_e T, tpq_f T, tpq_g T, tpq_h T, tpq_i T, tpq_j T, tpq_k T, tpq_l T, tpq_m T, hn, he, Int.toNat_natCast]; first | done | rfl | omega)) rfl rfl ?_
          try simp (disch := omega) only [up2_ne, up2_eq, tpq_a T, tpq_b T, tpq_c T, tpq_d T, tpq_e T, tpq_f T, tpq_g T, tpq_h T, tpq_i T, tpq_j T, tpq_k T, tpq_l T, tpq_m T, hn, he, Int.toNat_natCast]
          refine wp_icmp_ne (tgt := 87) (by first | assumption | exact bI_in _ | exact ⟨by omega, by omega⟩ | exact iAnd_in | exact iOr_in | exact iShr_in | exact iShl_in | exact iXor_in | exact hxs _) (by first | assumption | exact bI_in _ | exact ⟨by omega, by omega⟩ | exact iAnd_in | exact iOr_in | exact iShr_in | exact iShl_in | exact iXor_in | exact hxs _) dX9_wordIn_82 (by decide) (fun c4 => ?_) (fun c4 => ?_)
          · refine wp_iinc rfl rfl dX9_wordIn_87 rfl rfl ?_
            try simp only [List.set_cons_zero, List.set_cons_succ]
            refine wp_iload_n rfl rfl dX9_wordIn_90 ?_
            refine wp_istore_n rfl dX9_wordIn_91 rfl (Nat.le_of_ble_eq_true rfl) rfl ?_
            try simp only [List.set_cons_zero, List.set_cons_succ]
            refine wp_iconst dX9_wordIn_92 ?_
            refine wp_istore dX9_wordIn_93 rfl (Nat.le_of_ble_eq_true rfl) rfl ?_
            try simp only [List.set_cons_zero, List.set_cons_succ]
            refine wp_iinc rfl rfl dX9_wordIn_95 rfl rfl ?_
            try simp only [List.set_cons_zero, List.set_cons_succ]
            refine wp_goto (tgt := 10) dX9_wordIn_98 (by decide) ?_
            refine wp_dropAt 6 rfl ?_
            first
              | (have h3 := ht.2.2.1 (by assumption)
                 have z := ih (by omega)
                 rw [h3.1, h3.2.1, show p + ((ki + 1 : Nat) : Int) = p + (ki : Int) + 1 by omega, show ((i + 1 : Nat) : Int) = (i : Int) + 1 by omega] at z
                 exact z _ (by first | exact Or.inl rfl | exact Or.inr rfl) (by
                   rw [wPr_s, ← hpr, ← h3.2.2]
                   constructor
                   · intro y
                     first | (exfalso; omega) | exact ⟨by omega, by omega, by omega⟩
                   · intro y
                     first | rfl | (exfalso; omega)) hw)
              | (have h4 := ht.2.2.2 (by assumption)
                 have z := ih (by omega)
                 rw [h4.2.1, h4.2.2, show p + ((0 : Nat) : Int) = p from Int.add_zero p, show ((wi + 1 : Nat) : Int) = (wi : Int) + 1 by omega, show ((i + 1 : Nat) : Int) = (i : Int) + 1 by omega] at z
                 refine z 1 (Or.inr rfl) ⟨fun _ j hj => absurd hj (Nat.not_lt_zero j), fun _ => rfl⟩ ?_
                 rw [← hw]
                 refine (wF_w ht.2.1 (fun y => ?_)).symm
                 have y2 := (wPr_m he1).mpr y
                 rw [← h4.1, ← hpr] at y2
                 omega)
          · refine wp_iload_n rfl rfl dX9_wordIn_85 ?_
            refine wp_iret dX9_wordIn_86 rfl ?_
            first
              | (have h4 := ht.2.2.2 (by assumption)
                 have y := (wPr_m (w := wi) he1).mp ⟨by rw [← h4.1]; exact hpr.mp (by omega), by omega⟩
                 rw [← hw, wF_y ht.2.1 y] at hQ
                 exact hQ)
              | (have e64 : i = 64 := by omega
                 subst e64
                 have ew : wi = 13 := by rw [← hW]; rfl
                 subst ew
                 rw [← hw] at hQ
                 exact hQ)
      · refine wp_iload rfl dX9_wordIn_36 ?_
        refine wp_if_eq (tgt := 63) (by first | assumption | exact bI_in _ | exact ⟨by omega, by omega⟩ | exact iAnd_in | exact iOr_in | exact iShr_in | exact iShl_in | exact iXor_in | exact hxs _) dX9_wordIn_38 (by decide) (fun c5 => ?_) (fun c5 => ?_)
        · refine wp_iconst dX9_wordIn_63 ?_
          refine wp_istore dX9_wordIn_64 rfl (Nat.le_of_ble_eq_true rfl) rfl ?_
          try simp only [List.set_cons_zero, List.set_cons_succ]
          refine wp_iinc rfl rfl dX9_wordIn_66 rfl rfl ?_
          try simp only [List.set_cons_zero, List.set_cons_succ]
          refine wp_goto (tgt := 95) dX9_wordIn_69 (by decide) ?_
          refine wp_iinc rfl rfl dX9_wordIn_95 rfl rfl ?_
          try simp only [List.set_cons_zero, List.set_cons_succ]
          refine wp_goto (tgt := 10) dX9_wordIn_98 (by decide) ?_
          refine wp_dropAt 6 rfl ?_
          first
            | (have h3 := ht.2.2.1 (by assumption)
               have z := ih (by omega)
               rw [h3.1, h3.2.1, show p + ((ki + 1 : Nat) : Int) = p + (ki : Int) + 1 by omega, show ((i + 1 : Nat) : Int) = (i : Int) + 1 by omega] at z
               exact z _ (by first | exact Or.inl rfl | exact Or.inr rfl) (by
                 rw [wPr_s, ← hpr, ← h3.2.2]
                 constructor
                 · intro y
                   first | (exfalso; omega) | exact ⟨by omega, by omega, by omega⟩
                 · intro y
                   first | rfl | (exfalso; omega)) hw)
            | (have h4 := ht.2.2.2 (by assumption)
               have z := ih (by omega)
               rw [h4.2.1, h4.2.2, show p + ((0 : Nat) : Int) = p from Int.add_zero p, show ((wi + 1 : Nat) : Int) = (wi : Int) + 1 by omega, show ((i + 1 : Nat) : Int) = (i : Int) + 1 by omega] at z
               refine z 1 (Or.inr rfl) ⟨fun _ j hj => absurd hj (Nat.not_lt_zero j), fun _ => rfl⟩ ?_
               rw [← hw]
               refine (wF_w ht.2.1 (fun y => ?_)).symm
               have y2 := (wPr_m he1).mpr y
               rw [← h4.1, ← hpr] at y2
               omega)
        · refine wp_iload_n rfl rfl dX9_wordIn_41 ?_
          refine wp_aload_n rfl rfl dX9_wordIn_42 ?_
          refine wp_getfield1 (z := 10) (kI := 6) fX9_46 dX9_wordIn_43 (by first | omega | (simp (disch := omega) only [up2_ne, up2_eq, tpq_a T, tpq_b T, tpq_c T, tpq_d T, tpq_e T, tpq_f T, tpq_g T, tpq_h T, tpq_i T, tpq_j T, tpq_k T, tpq_l T, tpq_m T, hn, he, Int.toNat_natCast]; first | done | omega)) (by first | assumption | (simp (disch := omega) only [up2_ne, up2_eq, tpq_a T, tpq_b T, tpq_c T, tpq_d T, tpq_e T, tpq_f T, tpq_g T, tpq_h T, tpq_i T, tpq_j T, tpq_k T, tpq_l T, tpq_m T, hn, he, Int.toNat_natCast]; first | done | rfl | omega)) rfl rfl ?_
          try simp (disch := omega) only [up2_ne, up2_eq, tpq_a T, tpq_b T, tpq_c T, tpq_d T, tpq_e T, tpq_f T, tpq_g T, tpq_h T, tpq_i T, tpq_j T, tpq_k T, tpq_l T, tpq_m T, hn, he, Int.toNat_natCast]
          refine wp_icmp_ge (tgt := 63) (by first | assumption | exact bI_in _ | exact ⟨by omega, by omega⟩ | exact iAnd_in | exact iOr_in | exact iShr_in | exact iShl_in | exact iXor_in | exact hxs _) (by first | assumption | exact bI_in _ | exact ⟨by omega, by omega⟩ | exact iAnd_in | exact iOr_in | exact iShr_in | exact iShl_in | exact iXor_in | exact hxs _) dX9_wordIn_46 (by decide) (fun c6 => ?_) (fun c6 => ?_)
          · refine wp_iconst dX9_wordIn_63 ?_
            refine wp_istore dX9_wordIn_64 rfl (Nat.le_of_ble_eq_true rfl) rfl ?_
            try simp only [List.set_cons_zero, List.set_cons_succ]
            refine wp_iinc rfl rfl dX9_wordIn_66 rfl rfl ?_
            try simp only [List.set_cons_zero, List.set_cons_succ]
            refine wp_goto (tgt := 95) dX9_wordIn_69 (by decide) ?_
            refine wp_iinc rfl rfl dX9_wordIn_95 rfl rfl ?_
            try simp only [List.set_cons_zero, List.set_cons_succ]
            refine wp_goto (tgt := 10) dX9_wordIn_98 (by decide) ?_
            refine wp_dropAt 6 rfl ?_
            first
              | (have h3 := ht.2.2.1 (by assumption)
                 have z := ih (by omega)
                 rw [h3.1, h3.2.1, show p + ((ki + 1 : Nat) : Int) = p + (ki : Int) + 1 by omega, show ((i + 1 : Nat) : Int) = (i : Int) + 1 by omega] at z
                 exact z _ (by first | exact Or.inl rfl | exact Or.inr rfl) (by
                   rw [wPr_s, ← hpr, ← h3.2.2]
                   constructor
                   · intro y
                     first | (exfalso; omega) | exact ⟨by omega, by omega, by omega⟩
                   · intro y
                     first | rfl | (exfalso; omega)) hw)
              | (have h4 := ht.2.2.2 (by assumption)
                 have z := ih (by omega)
                 rw [h4.2.1, h4.2.2, show p + ((0 : Nat) : Int) = p from Int.add_zero p, show ((wi + 1 : Nat) : Int) = (wi : Int) + 1 by omega, show ((i + 1 : Nat) : Int) = (i : Int) + 1 by omega] at z
                 refine z 1 (Or.inr rfl) ⟨fun _ j hj => absurd hj (Nat.not_lt_zero j), fun _ => rfl⟩ ?_
                 rw [← hw]
                 refine (wF_w ht.2.1 (fun y => ?_)).symm
                 have y2 := (wPr_m he1).mpr y
                 rw [← h4.1, ← hpr] at y2
                 omega)
          · refine wp_aload_n rfl rfl dX9_wordIn_49 ?_
            refine wp_iload_n rfl rfl dX9_wordIn_50 ?_
            refine wp_cV1 (ci := 9) okX9_byteAt rfl rfl wX9_67 dX9_wordIn_51 rfl (Nat.le_of_ble_eq_true rfl) (Nat.le_of_ble_eq_true rfl) (by first | omega | (simp (disch := omega) only [up2_ne, up2_eq, tpq_a T, tpq_b T, tpq_c T, tpq_d T, tpq_e T, tpq_f T, tpq_g T, tpq_h T, tpq_i T, tpq_j T, tpq_k T, tpq_l T, tpq_m T, hn, he, Int.toNat_natCast]; first | done | omega)) (by first | assumption | (simp (disch := omega) only [up2_ne, up2_eq, tpq_a T, tpq_b T, tpq_c T, tpq_d T, tpq_e T, tpq_f T, tpq_g T, tpq_h T, tpq_i T, tpq_j T, tpq_k T, tpq_l T, tpq_m T, hn, he, Int.toNat_natCast]; first | done | rfl | omega)) (s_X9_byteAt TF (by omega) (by omega)) (Nat.zero_le _) ?_
            try simp (disch := omega) only [up2_ne, up2_eq, tpq_a T, tpq_b T, tpq_c T, tpq_d T, tpq_e T, tpq_f T, tpq_g T, tpq_h T, tpq_i T, tpq_j T, tpq_k T, tpq_l T, tpq_m T, hn, he, Int.toNat_natCast]
            refine wp_iload rfl dX9_wordIn_54 ?_
            refine wp_icmp_ne (tgt := 63) (by first | assumption | exact bI_in _ | exact ⟨by omega, by omega⟩ | exact iAnd_in | exact iOr_in | exact iShr_in | exact iShl_in | exact iXor_in | exact hxs _) (by first | assumption | exact bI_in _ | exact ⟨by omega, by omega⟩ | exact iAnd_in | exact iOr_in | exact iShr_in | exact iShl_in | exact iXor_in | exact hxs _) dX9_wordIn_56 (by decide) (fun c7 => ?_) (fun c7 => ?_)
            · refine wp_iconst dX9_wordIn_63 ?_
              refine wp_istore dX9_wordIn_64 rfl (Nat.le_of_ble_eq_true rfl) rfl ?_
              try simp only [List.set_cons_zero, List.set_cons_succ]
              refine wp_iinc rfl rfl dX9_wordIn_66 rfl rfl ?_
              try simp only [List.set_cons_zero, List.set_cons_succ]
              refine wp_goto (tgt := 95) dX9_wordIn_69 (by decide) ?_
              refine wp_iinc rfl rfl dX9_wordIn_95 rfl rfl ?_
              try simp only [List.set_cons_zero, List.set_cons_succ]
              refine wp_goto (tgt := 10) dX9_wordIn_98 (by decide) ?_
              refine wp_dropAt 6 rfl ?_
              first
                | (have h3 := ht.2.2.1 (by assumption)
                   have z := ih (by omega)
                   rw [h3.1, h3.2.1, show p + ((ki + 1 : Nat) : Int) = p + (ki : Int) + 1 by omega, show ((i + 1 : Nat) : Int) = (i : Int) + 1 by omega] at z
                   exact z _ (by first | exact Or.inl rfl | exact Or.inr rfl) (by
                     rw [wPr_s, ← hpr, ← h3.2.2]
                     constructor
                     · intro y
                       first | (exfalso; omega) | exact ⟨by omega, by omega, by omega⟩
                     · intro y
                       first | rfl | (exfalso; omega)) hw)
                | (have h4 := ht.2.2.2 (by assumption)
                   have z := ih (by omega)
                   rw [h4.2.1, h4.2.2, show p + ((0 : Nat) : Int) = p from Int.add_zero p, show ((wi + 1 : Nat) : Int) = (wi : Int) + 1 by omega, show ((i + 1 : Nat) : Int) = (i : Int) + 1 by omega] at z
                   refine z 1 (Or.inr rfl) ⟨fun _ j hj => absurd hj (Nat.not_lt_zero j), fun _ => rfl⟩ ?_
                   rw [← hw]
                   refine (wF_w ht.2.1 (fun y => ?_)).symm
                   have y2 := (wPr_m he1).mpr y
                   rw [← h4.1, ← hpr] at y2
                   omega)
            · refine wp_iconst dX9_wordIn_59 ?_
              refine wp_goto (tgt := 64) dX9_wordIn_60 (by decide) ?_
              refine wp_istore dX9_wordIn_64 rfl (Nat.le_of_ble_eq_true rfl) rfl ?_
              try simp only [List.set_cons_zero, List.set_cons_succ]
              refine wp_iinc rfl rfl dX9_wordIn_66 rfl rfl ?_
              try simp only [List.set_cons_zero, List.set_cons_succ]
              refine wp_goto (tgt := 95) dX9_wordIn_69 (by decide) ?_
              refine wp_iinc rfl rfl dX9_wordIn_95 rfl rfl ?_
              try simp only [List.set_cons_zero, List.set_cons_succ]
              refine wp_goto (tgt := 10) dX9_wordIn_98 (by decide) ?_
              refine wp_dropAt 6 rfl ?_
              first
                | (have h3 := ht.2.2.1 (by assumption)
                   have z := ih (by omega)
                   rw [h3.1, h3.2.1, show p + ((ki + 1 : Nat) : Int) = p + (ki : Int) + 1 by omega, show ((i + 1 : Nat) : Int) = (i : Int) + 1 by omega] at z
                   exact z _ (by first | exact Or.inl rfl | exact Or.inr rfl) (by
                     rw [wPr_s, ← hpr, ← h3.2.2]
                     constructor
                     · intro y
                       first | (exfalso; omega) | exact ⟨by omega, by omega, by omega⟩
                     · intro y
                       first | rfl | (exfalso; omega)) hw)
                | (have h4 := ht.2.2.2 (by assumption)
                   have z := ih (by omega)
                   rw [h4.2.1, h4.2.2, show p + ((0 : Nat) : Int) = p from Int.add_zero p, show ((wi + 1 : Nat) : Int) = (wi : Int) + 1 by omega, show ((i + 1 : Nat) : Int) = (i : Int) + 1 by omega] at z
                   refine z 1 (Or.inr rfl) ⟨fun _ j hj => absurd hj (Nat.not_lt_zero j), fun _ => rfl⟩ ?_
                   rw [← hw]
                   refine (wF_w ht.2.1 (fun y => ?_)).symm
                   have y2 := (wPr_m he1).mpr y
                   rw [← h4.1, ← hpr] at y2
                   omega)
  show WP (gX (gq u)) MX9_wordIn (d + 4) b Q 0 [(2, tc), (0, p), (9, 0), (9, 0), (9, 0), (9, 0), (9, 0)] [] h
  refine wp_iconst dX9_wordIn_0 ?_
  refine wp_istore_n rfl dX9_wordIn_1 rfl (Nat.le_of_ble_eq_true rfl) rfl ?_
  try simp only [List.set_cons_zero, List.set_cons_succ]
  refine wp_iload_n rfl rfl dX9_wordIn_2 ?_
  refine wp_istore_n rfl dX9_wordIn_3 rfl (Nat.le_of_ble_eq_true rfl) rfl ?_
  try simp only [List.set_cons_zero, List.set_cons_succ]
  refine wp_iconst dX9_wordIn_4 ?_
  refine wp_istore dX9_wordIn_5 rfl (Nat.le_of_ble_eq_true rfl) rfl ?_
  try simp only [List.set_cons_zero, List.set_cons_succ]
  refine wp_iconst dX9_wordIn_7 ?_
  refine wp_istore dX9_wordIn_8 rfl (Nat.le_of_ble_eq_true rfl) rfl ?_
  try simp only [List.set_cons_zero, List.set_cons_succ]
  have z := loop 0 (by omega) 1 (Or.inr rfl) ⟨fun _ j hj => absurd hj (Nat.not_lt_zero j), fun _ => rfl⟩ rfl
  rw [show p + ((KOL.getD 0 0 : Nat) : Int) = p from Int.add_zero p] at z
  exact z
theorem s_X9_numberOf {u : gT} {h : mH} {d b : Nat} {tc tb n : Int} {f : Int → Int} (TF : tF h tc tb n f) {p ee : Int} (he : h tc 6 = ee) (p0 : 0 ≤ p) (he1 : p ≤ ee) (he2 : ee ≤ n) (hd : ∀ i : Int, p ≤ i → i < ee → isD (f i) = true) : Det (gX (gq u)) MX9_numberOf (d + 2) b [(2, tc), (0, p)] h (0, nV f p (ee - p).toNat) h := by
  intro Q hQ
  obtain ⟨hcb, T, hn, F, hB⟩ := id TF
  have hn1 := F.1
  have hn2 := F.2.1
  have loop : ∀ k : Nat, k ≤ (ee - p).toNat → WP (gX (gq u)) MX9_numberOf (d + 2) b Q 4 [(2, tc), (0, p), (0, nV f p k), (0, p + (k : Int))] [] h := by
    refine loop_w (ee - p).toNat (fun k hk ih => ?_)
    have hs := sgn_c F (k := p + (k : Int)) (by omega)
    refine wp_iload_n rfl rfl dX9_numberOf_4 ?_
    refine wp_aload_n rfl rfl dX9_numberOf_5 ?_
    refine wp_getfield1 (z := 10) (kI := 6) fX9_46 dX9_numberOf_6 (by first | omega | (simp (disch := omega) only [up2_ne, up2_eq, tpq_a T, tpq_b T, tpq_c T, tpq_d T, tpq_e T, tpq_f T, tpq_g T, tpq_h T, tpq_i T, tpq_j T, tpq_k T, tpq_l T, tpq_m T, hn, he]; first | done | omega)) (by first | assumption | (simp (disch := omega) only [up2_ne, up2_eq, tpq_a T, tpq_b T, tpq_c T, tpq_d T, tpq_e T, tpq_f T, tpq_g T, tpq_h T, tpq_i T, tpq_j T, tpq_k T, tpq_l T, tpq_m T, hn, he]; first | done | rfl | omega)) rfl rfl ?_
    try simp (disch := omega) only [up2_ne, up2_eq, tpq_a T, tpq_b T, tpq_c T, tpq_d T, tpq_e T, tpq_f T, tpq_g T, tpq_h T, tpq_i T, tpq_j T, tpq_k T, tpq_l T, tpq_m T, hn, he]
    refine wp_icmp_ge (tgt := 32) (by first | assumption | exact bI_in _ | exact ⟨by omega, by omega⟩ | exact iAnd_in | exact iOr_in | exact iShr_in | exact iShl_in | exact iXor_in | exact hxs _) (by first | assumption | exact bI_in _ | exact ⟨by omega, by omega⟩ | exact iAnd_in | exact iOr_in | exact iShr_in | exact iShl_in | exact iXor_in | exact hxs _) dX9_numberOf_9 (by decide) (fun c1 => ?_) (fun c1 => ?_)
    · refine wp_iload_n rfl rfl dX9_numberOf_32 ?_
      refine wp_iret dX9_numberOf_33 rfl ?_
      have ek : k = (ee - p).toNat := by omega
      rw [← ek] at hQ
      exact hQ
    · refine wp_iload_n rfl rfl dX9_numberOf_12 ?_
      refine wp_bipush (by decide) dX9_numberOf_13 ?_
      refine wp_imul dX9_numberOf_15 ?_
      refine wp_aload_n rfl rfl dX9_numberOf_16 ?_
      refine wp_iload_n rfl rfl dX9_numberOf_17 ?_
      refine wp_cV1 (ci := 9) okX9_byteAt rfl rfl wX9_67 dX9_numberOf_18 rfl (Nat.le_of_ble_eq_true rfl) (Nat.le_of_ble_eq_true rfl) (by first | omega | (simp (disch := omega) only [up2_ne, up2_eq, tpq_a T, tpq_b T, tpq_c T, tpq_d T, tpq_e T, tpq_f T, tpq_g T, tpq_h T, tpq_i T, tpq_j T, tpq_k T, tpq_l T, tpq_m T, hn, he]; first | done | omega)) (by first | assumption | (simp (disch := omega) only [up2_ne, up2_eq, tpq_a T, tpq_b T, tpq_c T, tpq_d T, tpq_e T, tpq_f T, tpq_g T, tpq_h T, tpq_i T, tpq_j T, tpq_k T, tpq_l T, tpq_m T, hn, he]; first | done | rfl | omega)) (s_X9_byteAt TF (by omega) (by omega)) (Nat.zero_le _) ?_
      try simp (disch := omega) only [up2_ne, up2_eq, tpq_a T, tpq_b T, tpq_c T, tpq_d T, tpq_e T, tpq_f T, tpq_g T, tpq_h T, tpq_i T, tpq_j T, tpq_k T, tpq_l T, tpq_m T, hn, he]
      refine wp_iadd dX9_numberOf_21 ?_
      refine wp_bipush (by decide) dX9_numberOf_22 ?_
      refine wp_isub dX9_numberOf_24 ?_
      refine wp_istore_n rfl dX9_numberOf_25 rfl (Nat.le_of_ble_eq_true rfl) rfl ?_
      try simp only [List.set_cons_zero, List.set_cons_succ]
      refine wp_iinc rfl rfl dX9_numberOf_26 rfl rfl ?_
      try simp only [List.set_cons_zero, List.set_cons_succ]
      refine wp_goto (tgt := 4) dX9_numberOf_29 (by decide) ?_
      have hdk := of_decide_eq_true (hd (p + (k : Int)) (by omega) (by omega))
      have z := ih (by omega)
      rw [nV] at z
      rw [show nV f p k * 10 + sgn (f (p + (k : Int))) - 48 = 10 * nV f p k + f (p + (k : Int)) - 48 by omega, show p + (k : Int) + 1 = p + ((k + 1 : Nat) : Int) by omega]
      exact z
  show WP (gX (gq u)) MX9_numberOf (d + 2) b Q 0 [(2, tc), (0, p), (9, 0), (9, 0)] [] h
  refine wp_iconst dX9_numberOf_0 ?_
  refine wp_istore_n rfl dX9_numberOf_1 rfl (Nat.le_of_ble_eq_true rfl) rfl ?_
  try simp only [List.set_cons_zero, List.set_cons_succ]
  refine wp_iload_n rfl rfl dX9_numberOf_2 ?_
  refine wp_istore_n rfl dX9_numberOf_3 rfl (Nat.le_of_ble_eq_true rfl) rfl ?_
  try simp only [List.set_cons_zero, List.set_cons_succ]
  have z := loop 0 (by omega)
  rw [show p + ((0 : Nat) : Int) = p by omega] at z
  exact z
theorem sg_at {x : Int} (x0 : -1 ≤ x) (x1 : x ≤ 255) : ∀ j : Nat, j < 8 → strF strL1 j = sgn x → sgT x = 14 + j := by
  have key : ∀ j : Nat, j < 8 → sgT (strF strL1 j) = 14 + j ∧ 0 ≤ strF strL1 j ∧ strF strL1 j ≤ 127 := by decide +kernel
  intro j hj h
  have k := key j hj
  have e : x = strF strL1 j := by
    rw [h] at k ⊢
    unfold sgn at *
    split at * <;> omega
  rw [e]
  exact k.1
theorem sg_no {x : Int} (h : ∀ j : Nat, j < 8 → strF strL1 j ≠ sgn x) : sgT x = 23 := by
  have e : ∀ j : Nat, j < 8 → strF strL1 j ≤ 127 := by decide +kernel
  have h' : ∀ j : Nat, j < 8 → x ≠ strF strL1 j := fun j hj q => h j hj (by rw [← q]; unfold sgn; have := e j hj; rw [if_neg (by omega)])
  have h0 : x ≠ 40 := h' 0 (by omega)
  have h1 : x ≠ 41 := h' 1 (by omega)
  have h2 : x ≠ 59 := h' 2 (by omega)
  have h3 : x ≠ 43 := h' 3 (by omega)
  have h4 : x ≠ 45 := h' 4 (by omega)
  have h5 : x ≠ 42 := h' 5 (by omega)
  have h6 : x ≠ 60 := h' 6 (by omega)
  have h7 : x ≠ 61 := h' 7 (by omega)
  unfold sgT
  rw [if_neg h0, if_neg h1, if_neg h2, if_neg h3, if_neg h4, if_neg h5, if_neg h6, if_neg h7]
theorem str1_b : ∀ j : Nat, j < 8 → 0 ≤ strF strL1 j ∧ strF strL1 j ≤ 127 := by decide +kernel
set_option maxHeartbeats 2000000 in
theorem s_X9_takeToken {u : gT} {h : mH} {d b : Nat} {tc tb n : Int} {f : Int → Int} (TF : tF h tc tb n f) {p : Int} (hfm : u.2.2.2.2.2 ≤ -10 ∨ u.2.2.2.2.2 = -1) (hp : h tc 6 = p) (p0 : 0 ≤ p) (p1 : p ≤ n) (hb : tB f p = p) : Det (gX (gq u)) MX9_takeToken (d + 5) b [(2, tc)] h (0, tK f p) (up2 h tc 6 (tE f p)) := by
  intro Q hQ
  obtain ⟨hcb, T, hn, F, hB⟩ := id TF
  have hn1 := F.1
  have hn2 := F.2.1
  have sgL : 0 ≤ f p → isL (f p) = false → isD (f p) = false → ∀ j : Nat, j ≤ 8 → (∀ i : Nat, i < j → strF strL1 i ≠ sgn (f p)) → WP (gX (gq u)) MX9_takeToken (d + 5) b Q 154 [(2, tc), (0, p), (0, sgn (f p)), (0, (j : Int))] [] (up2 h tc 6 (p + 1)) := by
    intro c0 cL cD
    have hK : tK f p = sgT (f p) := by unfold tK; rw [hb, if_neg (by omega), if_neg (by rw [cL]; decide), if_neg (by rw [cD]; decide)]
    have hE : tE f p = p + 1 := by unfold tE; rw [hb, if_neg (by omega), if_neg (by rw [cL]; decide), if_neg (by rw [cD]; decide)]
    rw [hK, hE] at hQ
    refine loop_w 8 (fun j hj ih => ?_)
    intro hne
    have hc := fun z : j < 8 => str1_b j z
    refine wp_iload_n rfl rfl dX9_takeToken_154 ?_
    refine wp_ldcS (List.mem_of_getElem? (i := 1) rfl) dX9_takeToken_155 ?_
    refine wp_cR0 okJ0_length_8abf5 rfl (show (-21 : Int) ∈ ([-20, -21, -22] : List Int) by decide) wX9_29 dX9_takeToken_157 rfl (Nat.le_of_ble_eq_true rfl) (Nat.le_of_ble_eq_true rfl) (by first | assumption | decide) (s_J0_length_8abf5 isStr1) (Nat.zero_le _) ?_
    try simp (disch := omega) only [up2_ne, up2_eq, tpq_a T, tpq_b T, tpq_c T, tpq_d T, tpq_e T, tpq_f T, tpq_g T, tpq_h T, tpq_i T, tpq_j T, tpq_k T, tpq_l T, tpq_m T, hn, hp, Int.toNat_natCast]
    refine wp_icmp_ge (tgt := 184) (by first | assumption | exact bI_in _ | exact ⟨by omega, by omega⟩ | exact iAnd_in | exact iOr_in | exact iShr_in | exact iShl_in | exact iXor_in | exact hxs _) (by first | assumption | exact bI_in _ | exact ⟨by omega, by omega⟩ | exact iAnd_in | exact iOr_in | exact iShr_in | exact iShl_in | exact iXor_in | exact hxs _) dX9_takeToken_160 (by decide) (fun c1 => ?_) (fun c1 => ?_)
    · refine wp_bipush (by decide) dX9_takeToken_184 ?_
      refine wp_iret dX9_takeToken_186 rfl ?_
      first
        | (rw [sg_at (by omega) (by omega) j (by omega) (by assumption)] at hQ
           exact hQ)
        | (rw [sg_no (fun i hi => hne i (by omega))] at hQ
           exact hQ)
    · refine wp_ldcS (List.mem_of_getElem? (i := 1) rfl) dX9_takeToken_163 ?_
      refine wp_iload_n rfl rfl dX9_takeToken_165 ?_
      refine wp_cR1 okJ0_charAt_5068e rfl (show (-21 : Int) ∈ ([-20, -21, -22] : List Int) by decide) wX9_35 dX9_takeToken_166 rfl (Nat.le_of_ble_eq_true rfl) (Nat.le_of_ble_eq_true rfl) (by first | assumption | decide) (s_J0_charAt_5068e isStr1 hfm (by omega) (by omega)) (Nat.zero_le _) ?_
      try simp (disch := omega) only [up2_ne, up2_eq, tpq_a T, tpq_b T, tpq_c T, tpq_d T, tpq_e T, tpq_f T, tpq_g T, tpq_h T, tpq_i T, tpq_j T, tpq_k T, tpq_l T, tpq_m T, hn, hp, Int.toNat_natCast]
      have hc := hc (by omega)
      have hsp := sgn_c F (k := p) p0
      refine wp_iload_n rfl rfl dX9_takeToken_169 ?_
      refine wp_icmp_ne (tgt := 178) (by first | assumption | exact bI_in _ | exact ⟨by omega, by omega⟩ | exact iAnd_in | exact iOr_in | exact iShr_in | exact iShl_in | exact iXor_in | exact hxs _) (by first | assumption | exact bI_in _ | exact ⟨by omega, by omega⟩ | exact iAnd_in | exact iOr_in | exact iShr_in | exact iShl_in | exact iXor_in | exact hxs _) dX9_takeToken_170 (by decide) (fun c2 => ?_) (fun c2 => ?_)
      · refine wp_iinc rfl rfl dX9_takeToken_178 rfl rfl ?_
        try simp only [List.set_cons_zero, List.set_cons_succ]
        refine wp_goto (tgt := 154) dX9_takeToken_181 (by decide) ?_
        have z := ih (by omega) (fun i hi => by
          by_cases y : i = j
          · rw [y]
            assumption
          · exact hne i (by omega))
        rw [show ((j + 1 : Nat) : Int) = (j : Int) + 1 by omega] at z
        exact z
      · refine wp_bipush (by decide) dX9_takeToken_173 ?_
        refine wp_iload_n rfl rfl dX9_takeToken_175 ?_
        refine wp_iadd dX9_takeToken_176 ?_
        refine wp_iret dX9_takeToken_177 rfl ?_
        first
          | (rw [sg_at (by omega) (by omega) j (by omega) (by assumption)] at hQ
             exact hQ)
          | (rw [sg_no (fun i hi => hne i (by omega))] at hQ
             exact hQ)
  have lpD : 0 ≤ f p → isL (f p) = false → isD (f p) = true → ∀ j : Nat, j ≤ (n - (p + 1)).toNat → eD f (p + 1 + j) = eD f p → WP (gX (gq u)) MX9_takeToken (d + 5) b Q 96 [(2, tc), (0, p), (0, sgn (f p)), (9, 0)] [] (up2 h tc 6 (p + 1 + j)) := by
    intro c0 cL cD
    have hpn : p < n := by have := F.out p0; omega
    have hE : tE f p = eD f p := by unfold tE; rw [hb, if_neg (by omega), if_neg (by rw [cL]; decide), if_pos cD]
    have hK : tK f p = if 4 < eD f p - p then 23 else 13 := by unfold tK; rw [hE, hb, if_neg (by omega), if_neg (by rw [cL]; decide), if_pos cD]
    rw [hK, hE] at hQ
    refine loop_w (n - (p + 1)).toNat (fun j hj ih => ?_)
    intro he
    have hs := sgn_c F (k := p + 1 + j) (by omega)
    have TG : tF (up2 h tc 6 (p + 1 + j)) tc tb n f := tF_up TF (by omega)
    refine wp_aload_n rfl rfl dX9_takeToken_96 ?_
    refine wp_getfield1 (z := 10) (kI := 6) fX9_46 dX9_takeToken_97 (by first | omega | (simp (disch := omega) only [up2_ne, up2_eq, tpq_a T, tpq_b T, tpq_c T, tpq_d T, tpq_e T, tpq_f T, tpq_g T, tpq_h T, tpq_i T, tpq_j T, tpq_k T, tpq_l T, tpq_m T, hn, hp, Int.toNat_natCast]; first | done | omega)) (by first | assumption | (simp (disch := omega) only [up2_ne, up2_eq, tpq_a T, tpq_b T, tpq_c T, tpq_d T, tpq_e T, tpq_f T, tpq_g T, tpq_h T, tpq_i T, tpq_j T, tpq_k T, tpq_l T, tpq_m T, hn, hp, Int.toNat_natCast]; first | done | rfl | omega)) rfl rfl ?_
    try simp (disch := omega) only [up2_ne, up2_eq, tpq_a T, tpq_b T, tpq_c T, tpq_d T, tpq_e T, tpq_f T, tpq_g T, tpq_h T, tpq_i T, tpq_j T, tpq_k T, tpq_l T, tpq_m T, hn, hp, Int.toNat_natCast]
    refine wp_aload_n rfl rfl dX9_takeToken_100 ?_
    refine wp_getfield1 (z := 10) (kI := 1) fX9_25 dX9_takeToken_101 (by first | omega | (simp (disch := omega) only [up2_ne, up2_eq, tpq_a T, tpq_b T, tpq_c T, tpq_d T, tpq_e T, tpq_f T, tpq_g T, tpq_h T, tpq_i T, tpq_j T, tpq_k T, tpq_l T, tpq_m T, hn, hp, Int.toNat_natCast]; first | done | omega)) (by first | assumption | (simp (disch := omega) only [up2_ne, up2_eq, tpq_a T, tpq_b T, tpq_c T, tpq_d T, tpq_e T, tpq_f T, tpq_g T, tpq_h T, tpq_i T, tpq_j T, tpq_k T, tpq_l T, tpq_m T, hn, hp, Int.toNat_natCast]; first | done | rfl | omega)) rfl rfl ?_
    try simp (disch := omega) only [up2_ne, up2_eq, tpq_a T, tpq_b T, tpq_c T, tpq_d T, tpq_e T, tpq_f T, tpq_g T, tpq_h T, tpq_i T, tpq_j T, tpq_k T, tpq_l T, tpq_m T, hn, hp, Int.toNat_natCast]
    refine wp_icmp_ge (tgt := 134) (by first | assumption | exact bI_in _ | exact ⟨by omega, by omega⟩ | exact iAnd_in | exact iOr_in | exact iShr_in | exact iShl_in | exact iXor_in | exact hxs _) (by first | assumption | exact bI_in _ | exact ⟨by omega, by omega⟩ | exact iAnd_in | exact iOr_in | exact iShr_in | exact iShl_in | exact iXor_in | exact hxs _) dX9_takeToken_104 (by decide) (fun c3 => ?_) (fun c3 => ?_)
    · refine wp_aload_n rfl rfl dX9_takeToken_134 ?_
      refine wp_getfield1 (z := 10) (kI := 6) fX9_46 dX9_takeToken_135 (by first | omega | (simp (disch := omega) only [up2_ne, up2_eq, tpq_a T, tpq_b T, tpq_c T, tpq_d T, tpq_e T, tpq_f T, tpq_g T, tpq_h T, tpq_i T, tpq_j T, tpq_k T, tpq_l T, tpq_m T, hn, hp, Int.toNat_natCast]; first | done | omega)) (by first | assumption | (simp (disch := omega) only [up2_ne, up2_eq, tpq_a T, tpq_b T, tpq_c T, tpq_d T, tpq_e T, tpq_f T, tpq_g T, tpq_h T, tpq_i T, tpq_j T, tpq_k T, tpq_l T, tpq_m T, hn, hp, Int.toNat_natCast]; first | done | rfl | omega)) rfl rfl ?_
      try simp (disch := omega) only [up2_ne, up2_eq, tpq_a T, tpq_b T, tpq_c T, tpq_d T, tpq_e T, tpq_f T, tpq_g T, tpq_h T, tpq_i T, tpq_j T, tpq_k T, tpq_l T, tpq_m T, hn, hp, Int.toNat_natCast]
      refine wp_iload_n rfl rfl dX9_takeToken_138 ?_
      refine wp_isub dX9_takeToken_139 ?_
      refine wp_iconst dX9_takeToken_140 ?_
      refine wp_icmp_le (tgt := 149) (by first | assumption | exact bI_in _ | exact ⟨by omega, by omega⟩ | exact iAnd_in | exact iOr_in | exact iShr_in | exact iShl_in | exact iXor_in | exact hxs _) (by first | assumption | exact bI_in _ | exact ⟨by omega, by omega⟩ | exact iAnd_in | exact iOr_in | exact iShr_in | exact iShl_in | exact iXor_in | exact hxs _) dX9_takeToken_141 (by decide) (fun c4 => ?_) (fun c4 => ?_)
      · refine wp_bipush (by decide) dX9_takeToken_149 ?_
        refine wp_iret dX9_takeToken_151 rfl ?_
        have hz : eD f p = p + 1 + j := by rw [← he]; first | exact eD_f (F.pD _ (by omega)) | exact eD_f (decide_eq_false (by omega))
        rw [hz] at hQ
        first | exact QI_t hQ (by omega) | exact QI_f hQ (by omega)
      · refine wp_bipush (by decide) dX9_takeToken_144 ?_
        refine wp_goto (tgt := 151) dX9_takeToken_146 (by decide) ?_
        refine wp_iret dX9_takeToken_151 rfl ?_
        have hz : eD f p = p + 1 + j := by rw [← he]; first | exact eD_f (F.pD _ (by omega)) | exact eD_f (decide_eq_false (by omega))
        rw [hz] at hQ
        first | exact QI_t hQ (by omega) | exact QI_f hQ (by omega)
    · refine wp_aload_n rfl rfl dX9_takeToken_107 ?_
      refine wp_aload_n rfl rfl dX9_takeToken_108 ?_
      refine wp_getfield1 (z := 10) (kI := 6) fX9_46 dX9_takeToken_109 (by first | omega | (simp (disch := omega) only [up2_ne, up2_eq, tpq_a T, tpq_b T, tpq_c T, tpq_d T, tpq_e T, tpq_f T, tpq_g T, tpq_h T, tpq_i T, tpq_j T, tpq_k T, tpq_l T, tpq_m T, hn, hp, Int.toNat_natCast]; first | done | omega)) (by first | assumption | (simp (disch := omega) only [up2_ne, up2_eq, tpq_a T, tpq_b T, tpq_c T, tpq_d T, tpq_e T, tpq_f T, tpq_g T, tpq_h T, tpq_i T, tpq_j T, tpq_k T, tpq_l T, tpq_m T, hn, hp, Int.toNat_natCast]; first | done | rfl | omega)) rfl rfl ?_
      try simp (disch := omega) only [up2_ne, up2_eq, tpq_a T, tpq_b T, tpq_c T, tpq_d T, tpq_e T, tpq_f T, tpq_g T, tpq_h T, tpq_i T, tpq_j T, tpq_k T, tpq_l T, tpq_m T, hn, hp, Int.toNat_natCast]
      refine wp_cV1 (ci := 9) okX9_byteAt rfl rfl wX9_67 dX9_takeToken_112 rfl (Nat.le_of_ble_eq_true rfl) (Nat.le_of_ble_eq_true rfl) (by first | omega | (simp (disch := omega) only [up2_ne, up2_eq, tpq_a T, tpq_b T, tpq_c T, tpq_d T, tpq_e T, tpq_f T, tpq_g T, tpq_h T, tpq_i T, tpq_j T, tpq_k T, tpq_l T, tpq_m T, hn, hp, Int.toNat_natCast]; first | done | omega)) (by first | assumption | (simp (disch := omega) only [up2_ne, up2_eq, tpq_a T, tpq_b T, tpq_c T, tpq_d T, tpq_e T, tpq_f T, tpq_g T, tpq_h T, tpq_i T, tpq_j T, tpq_k T, tpq_l T, tpq_m T, hn, hp, Int.toNat_natCast]; first | done | rfl | omega)) (s_X9_byteAt TG (by omega) (by omega)) (Nat.zero_le _) ?_
      try simp (disch := omega) only [up2_ne, up2_eq, tpq_a T, tpq_b T, tpq_c T, tpq_d T, tpq_e T, tpq_f T, tpq_g T, tpq_h T, tpq_i T, tpq_j T, tpq_k T, tpq_l T, tpq_m T, hn, hp, Int.toNat_natCast]
      refine wp_cS1 okX9_isDigit wX9_77 dX9_takeToken_115 rfl (Nat.le_of_ble_eq_true rfl) (Nat.le_of_ble_eq_true rfl) (s_X9_isDigit ⟨by omega, by omega⟩) (Nat.zero_le _) ?_
      try simp (disch := omega) only [up2_ne, up2_eq, tpq_a T, tpq_b T, tpq_c T, tpq_d T, tpq_e T, tpq_f T, tpq_g T, tpq_h T, tpq_i T, tpq_j T, tpq_k T, tpq_l T, tpq_m T, hn, hp, Int.toNat_natCast]
      refine wp_ifB_eq (tgt := 134) dX9_takeToken_118 (by decide) (fun c5 => ?_) (fun c5 => ?_)
      · refine wp_aload_n rfl rfl dX9_takeToken_134 ?_
        refine wp_getfield1 (z := 10) (kI := 6) fX9_46 dX9_takeToken_135 (by first | omega | (simp (disch := omega) only [up2_ne, up2_eq, tpq_a T, tpq_b T, tpq_c T, tpq_d T, tpq_e T, tpq_f T, tpq_g T, tpq_h T, tpq_i T, tpq_j T, tpq_k T, tpq_l T, tpq_m T, hn, hp, Int.toNat_natCast]; first | done | omega)) (by first | assumption | (simp (disch := omega) only [up2_ne, up2_eq, tpq_a T, tpq_b T, tpq_c T, tpq_d T, tpq_e T, tpq_f T, tpq_g T, tpq_h T, tpq_i T, tpq_j T, tpq_k T, tpq_l T, tpq_m T, hn, hp, Int.toNat_natCast]; first | done | rfl | omega)) rfl rfl ?_
        try simp (disch := omega) only [up2_ne, up2_eq, tpq_a T, tpq_b T, tpq_c T, tpq_d T, tpq_e T, tpq_f T, tpq_g T, tpq_h T, tpq_i T, tpq_j T, tpq_k T, tpq_l T, tpq_m T, hn, hp, Int.toNat_natCast]
        refine wp_iload_n rfl rfl dX9_takeToken_138 ?_
        refine wp_isub dX9_takeToken_139 ?_
        refine wp_iconst dX9_takeToken_140 ?_
        refine wp_icmp_le (tgt := 149) (by first | assumption | exact bI_in _ | exact ⟨by omega, by omega⟩ | exact iAnd_in | exact iOr_in | exact iShr_in | exact iShl_in | exact iXor_in | exact hxs _) (by first | assumption | exact bI_in _ | exact ⟨by omega, by omega⟩ | exact iAnd_in | exact iOr_in | exact iShr_in | exact iShl_in | exact iXor_in | exact hxs _) dX9_takeToken_141 (by decide) (fun c6 => ?_) (fun c6 => ?_)
        · refine wp_bipush (by decide) dX9_takeToken_149 ?_
          refine wp_iret dX9_takeToken_151 rfl ?_
          have hz : eD f p = p + 1 + j := by rw [← he]; first | exact eD_f (F.pD _ (by omega)) | exact eD_f (decide_eq_false (by omega))
          rw [hz] at hQ
          first | exact QI_t hQ (by omega) | exact QI_f hQ (by omega)
        · refine wp_bipush (by decide) dX9_takeToken_144 ?_
          refine wp_goto (tgt := 151) dX9_takeToken_146 (by decide) ?_
          refine wp_iret dX9_takeToken_151 rfl ?_
          have hz : eD f p = p + 1 + j := by rw [← he]; first | exact eD_f (F.pD _ (by omega)) | exact eD_f (decide_eq_false (by omega))
          rw [hz] at hQ
          first | exact QI_t hQ (by omega) | exact QI_f hQ (by omega)
      · refine wp_aload_n rfl rfl dX9_takeToken_121 ?_
        refine wp_dup (by decide) dX9_takeToken_122 ?_
        refine wp_getfield1 (z := 10) (kI := 6) fX9_46 dX9_takeToken_123 (by first | omega | (simp (disch := omega) only [up2_ne, up2_eq, tpq_a T, tpq_b T, tpq_c T, tpq_d T, tpq_e T, tpq_f T, tpq_g T, tpq_h T, tpq_i T, tpq_j T, tpq_k T, tpq_l T, tpq_m T, hn, hp, Int.toNat_natCast]; first | done | omega)) (by first | assumption | (simp (disch := omega) only [up2_ne, up2_eq, tpq_a T, tpq_b T, tpq_c T, tpq_d T, tpq_e T, tpq_f T, tpq_g T, tpq_h T, tpq_i T, tpq_j T, tpq_k T, tpq_l T, tpq_m T, hn, hp, Int.toNat_natCast]; first | done | rfl | omega)) rfl rfl ?_
        try simp (disch := omega) only [up2_ne, up2_eq, tpq_a T, tpq_b T, tpq_c T, tpq_d T, tpq_e T, tpq_f T, tpq_g T, tpq_h T, tpq_i T, tpq_j T, tpq_k T, tpq_l T, tpq_m T, hn, hp, Int.toNat_natCast]
        refine wp_iconst dX9_takeToken_126 ?_
        refine wp_iadd dX9_takeToken_127 ?_
        refine wp_putfield1 (z := 10) (kI := 6) fX9_46 dX9_takeToken_128 (by first | omega | (simp (disch := omega) only [up2_ne, up2_eq, tpq_a T, tpq_b T, tpq_c T, tpq_d T, tpq_e T, tpq_f T, tpq_g T, tpq_h T, tpq_i T, tpq_j T, tpq_k T, tpq_l T, tpq_m T, hn, hp, Int.toNat_natCast]; first | done | omega)) (by first | assumption | (simp (disch := omega) only [up2_ne, up2_eq, tpq_a T, tpq_b T, tpq_c T, tpq_d T, tpq_e T, tpq_f T, tpq_g T, tpq_h T, tpq_i T, tpq_j T, tpq_k T, tpq_l T, tpq_m T, hn, hp, Int.toNat_natCast]; first | done | rfl | omega)) rfl rfl ?_
        refine wp_goto (tgt := 96) dX9_takeToken_131 (by decide) ?_
        have z := ih (by omega) (by rw [show p + 1 + ((j + 1 : Nat) : Int) = p + 1 + j + 1 by omega, eD_s F (by omega) (decide_eq_true (by omega))]; exact he)
        rw [up2_up2, show p + 1 + (j : Int) + 1 = p + 1 + ((j + 1 : Nat) : Int) by omega]
        exact z
  have lpL : 0 ≤ f p → isL (f p) = true → ∀ j : Nat, j ≤ (n - (p + 1)).toNat → eL f (p + 1 + j) = eL f p → WP (gX (gq u)) MX9_takeToken (d + 5) b Q 45 [(2, tc), (0, p), (0, sgn (f p)), (9, 0)] [] (up2 h tc 6 (p + 1 + j)) := by
    intro c0 cL
    have hpn : p < n := by have := F.out p0; omega
    have hE : tE f p = eL f p := by unfold tE; rw [hb, if_neg (by omega), if_pos cL]
    have hK : tK f p = wF f p (eL f p - p).toNat 13 := by unfold tK; rw [hE, hb, if_neg (by omega), if_pos cL]
    rw [hK, hE] at hQ
    refine loop_w (n - (p + 1)).toNat (fun j hj ih => ?_)
    intro he
    have hs := sgn_c F (k := p + 1 + j) (by omega)
    have TG : tF (up2 h tc 6 (p + 1 + j)) tc tb n f := tF_up TF (by omega)
    refine wp_aload_n rfl rfl dX9_takeToken_45 ?_
    refine wp_getfield1 (z := 10) (kI := 6) fX9_46 dX9_takeToken_46 (by first | omega | (simp (disch := omega) only [up2_ne, up2_eq, tpq_a T, tpq_b T, tpq_c T, tpq_d T, tpq_e T, tpq_f T, tpq_g T, tpq_h T, tpq_i T, tpq_j T, tpq_k T, tpq_l T, tpq_m T, hn, hp, Int.toNat_natCast]; first | done | omega)) (by first | assumption | (simp (disch := omega) only [up2_ne, up2_eq, tpq_a T, tpq_b T, tpq_c T, tpq_d T, tpq_e T, tpq_f T, tpq_g T, tpq_h T, tpq_i T, tpq_j T, tpq_k T, tpq_l T, tpq_m T, hn, hp, Int.toNat_natCast]; first | done | rfl | omega)) rfl rfl ?_
    try simp (disch := omega) only [up2_ne, up2_eq, tpq_a T, tpq_b T, tpq_c T, tpq_d T, tpq_e T, tpq_f T, tpq_g T, tpq_h T, tpq_i T, tpq_j T, tpq_k T, tpq_l T, tpq_m T, hn, hp, Int.toNat_natCast]
    refine wp_aload_n rfl rfl dX9_takeToken_49 ?_
    refine wp_getfield1 (z := 10) (kI := 1) fX9_25 dX9_takeToken_50 (by first | omega | (simp (disch := omega) only [up2_ne, up2_eq, tpq_a T, tpq_b T, tpq_c T, tpq_d T, tpq_e T, tpq_f T, tpq_g T, tpq_h T, tpq_i T, tpq_j T, tpq_k T, tpq_l T, tpq_m T, hn, hp, Int.toNat_natCast]; first | done | omega)) (by first | assumption | (simp (disch := omega) only [up2_ne, up2_eq, tpq_a T, tpq_b T, tpq_c T, tpq_d T, tpq_e T, tpq_f T, tpq_g T, tpq_h T, tpq_i T, tpq_j T, tpq_k T, tpq_l T, tpq_m T, hn, hp, Int.toNat_natCast]; first | done | rfl | omega)) rfl rfl ?_
    try simp (disch := omega) only [up2_ne, up2_eq, tpq_a T, tpq_b T, tpq_c T, tpq_d T, tpq_e T, tpq_f T, tpq_g T, tpq_h T, tpq_i T, tpq_j T, tpq_k T, tpq_l T, tpq_m T, hn, hp, Int.toNat_natCast]
    refine wp_icmp_ge (tgt := 83) (by first | assumption | exact bI_in _ | exact ⟨by omega, by omega⟩ | exact iAnd_in | exact iOr_in | exact iShr_in | exact iShl_in | exact iXor_in | exact hxs _) (by first | assumption | exact bI_in _ | exact ⟨by omega, by omega⟩ | exact iAnd_in | exact iOr_in | exact iShr_in | exact iShl_in | exact iXor_in | exact hxs _) dX9_takeToken_53 (by decide) (fun c7 => ?_) (fun c7 => ?_)
    · have hz : eL f p = p + 1 + j := by rw [← he]; first | exact eL_f (F.pL _ (by omega)) | exact eL_f (decide_eq_false (by omega))
      refine wp_aload_n rfl rfl dX9_takeToken_83 ?_
      refine wp_iload_n rfl rfl dX9_takeToken_84 ?_
      refine wp_cV1 (ci := 9) okX9_wordIn rfl rfl wX9_74 dX9_takeToken_85 rfl (Nat.le_of_ble_eq_true rfl) (Nat.le_of_ble_eq_true rfl) (by first | omega | (simp (disch := omega) only [up2_ne, up2_eq, tpq_a T, tpq_b T, tpq_c T, tpq_d T, tpq_e T, tpq_f T, tpq_g T, tpq_h T, tpq_i T, tpq_j T, tpq_k T, tpq_l T, tpq_m T, hn, hp, Int.toNat_natCast]; first | done | omega)) (by first | assumption | (simp (disch := omega) only [up2_ne, up2_eq, tpq_a T, tpq_b T, tpq_c T, tpq_d T, tpq_e T, tpq_f T, tpq_g T, tpq_h T, tpq_i T, tpq_j T, tpq_k T, tpq_l T, tpq_m T, hn, hp, Int.toNat_natCast]; first | done | rfl | omega)) (s_X9_wordIn TG hfm up2_eq p0 (by omega) (by omega)) (Nat.zero_le _) ?_
      try simp (disch := omega) only [up2_ne, up2_eq, tpq_a T, tpq_b T, tpq_c T, tpq_d T, tpq_e T, tpq_f T, tpq_g T, tpq_h T, tpq_i T, tpq_j T, tpq_k T, tpq_l T, tpq_m T, hn, hp, Int.toNat_natCast]
      refine wp_iret dX9_takeToken_88 rfl ?_
      rw [hz] at hQ
      exact hQ
    · refine wp_aload_n rfl rfl dX9_takeToken_56 ?_
      refine wp_aload_n rfl rfl dX9_takeToken_57 ?_
      refine wp_getfield1 (z := 10) (kI := 6) fX9_46 dX9_takeToken_58 (by first | omega | (simp (disch := omega) only [up2_ne, up2_eq, tpq_a T, tpq_b T, tpq_c T, tpq_d T, tpq_e T, tpq_f T, tpq_g T, tpq_h T, tpq_i T, tpq_j T, tpq_k T, tpq_l T, tpq_m T, hn, hp, Int.toNat_natCast]; first | done | omega)) (by first | assumption | (simp (disch := omega) only [up2_ne, up2_eq, tpq_a T, tpq_b T, tpq_c T, tpq_d T, tpq_e T, tpq_f T, tpq_g T, tpq_h T, tpq_i T, tpq_j T, tpq_k T, tpq_l T, tpq_m T, hn, hp, Int.toNat_natCast]; first | done | rfl | omega)) rfl rfl ?_
      try simp (disch := omega) only [up2_ne, up2_eq, tpq_a T, tpq_b T, tpq_c T, tpq_d T, tpq_e T, tpq_f T, tpq_g T, tpq_h T, tpq_i T, tpq_j T, tpq_k T, tpq_l T, tpq_m T, hn, hp, Int.toNat_natCast]
      refine wp_cV1 (ci := 9) okX9_byteAt rfl rfl wX9_67 dX9_takeToken_61 rfl (Nat.le_of_ble_eq_true rfl) (Nat.le_of_ble_eq_true rfl) (by first | omega | (simp (disch := omega) only [up2_ne, up2_eq, tpq_a T, tpq_b T, tpq_c T, tpq_d T, tpq_e T, tpq_f T, tpq_g T, tpq_h T, tpq_i T, tpq_j T, tpq_k T, tpq_l T, tpq_m T, hn, hp, Int.toNat_natCast]; first | done | omega)) (by first | assumption | (simp (disch := omega) only [up2_ne, up2_eq, tpq_a T, tpq_b T, tpq_c T, tpq_d T, tpq_e T, tpq_f T, tpq_g T, tpq_h T, tpq_i T, tpq_j T, tpq_k T, tpq_l T, tpq_m T, hn, hp, Int.toNat_natCast]; first | done | rfl | omega)) (s_X9_byteAt TG (by omega) (by omega)) (Nat.zero_le _) ?_
      try simp (disch := omega) only [up2_ne, up2_eq, tpq_a T, tpq_b T, tpq_c T, tpq_d T, tpq_e T, tpq_f T, tpq_g T, tpq_h T, tpq_i T, tpq_j T, tpq_k T, tpq_l T, tpq_m T, hn, hp, Int.toNat_natCast]
      refine wp_cS1 okX9_isLetter wX9_70 dX9_takeToken_64 rfl (Nat.le_of_ble_eq_true rfl) (Nat.le_of_ble_eq_true rfl) (s_X9_isLetter ⟨by omega, by omega⟩) (Nat.zero_le _) ?_
      try simp (disch := omega) only [up2_ne, up2_eq, tpq_a T, tpq_b T, tpq_c T, tpq_d T, tpq_e T, tpq_f T, tpq_g T, tpq_h T, tpq_i T, tpq_j T, tpq_k T, tpq_l T, tpq_m T, hn, hp, Int.toNat_natCast]
      refine wp_ifB_eq (tgt := 83) dX9_takeToken_67 (by decide) (fun c8 => ?_) (fun c8 => ?_)
      · have hz : eL f p = p + 1 + j := by rw [← he]; first | exact eL_f (F.pL _ (by omega)) | exact eL_f (decide_eq_false (by omega))
        refine wp_aload_n rfl rfl dX9_takeToken_83 ?_
        refine wp_iload_n rfl rfl dX9_takeToken_84 ?_
        refine wp_cV1 (ci := 9) okX9_wordIn rfl rfl wX9_74 dX9_takeToken_85 rfl (Nat.le_of_ble_eq_true rfl) (Nat.le_of_ble_eq_true rfl) (by first | omega | (simp (disch := omega) only [up2_ne, up2_eq, tpq_a T, tpq_b T, tpq_c T, tpq_d T, tpq_e T, tpq_f T, tpq_g T, tpq_h T, tpq_i T, tpq_j T, tpq_k T, tpq_l T, tpq_m T, hn, hp, Int.toNat_natCast]; first | done | omega)) (by first | assumption | (simp (disch := omega) only [up2_ne, up2_eq, tpq_a T, tpq_b T, tpq_c T, tpq_d T, tpq_e T, tpq_f T, tpq_g T, tpq_h T, tpq_i T, tpq_j T, tpq_k T, tpq_l T, tpq_m T, hn, hp, Int.toNat_natCast]; first | done | rfl | omega)) (s_X9_wordIn TG hfm up2_eq p0 (by omega) (by omega)) (Nat.zero_le _) ?_
        try simp (disch := omega) only [up2_ne, up2_eq, tpq_a T, tpq_b T, tpq_c T, tpq_d T, tpq_e T, tpq_f T, tpq_g T, tpq_h T, tpq_i T, tpq_j T, tpq_k T, tpq_l T, tpq_m T, hn, hp, Int.toNat_natCast]
        refine wp_iret dX9_takeToken_88 rfl ?_
        rw [hz] at hQ
        exact hQ
      · refine wp_aload_n rfl rfl dX9_takeToken_70 ?_
        refine wp_dup (by decide) dX9_takeToken_71 ?_
        refine wp_getfield1 (z := 10) (kI := 6) fX9_46 dX9_takeToken_72 (by first | omega | (simp (disch := omega) only [up2_ne, up2_eq, tpq_a T, tpq_b T, tpq_c T, tpq_d T, tpq_e T, tpq_f T, tpq_g T, tpq_h T, tpq_i T, tpq_j T, tpq_k T, tpq_l T, tpq_m T, hn, hp, Int.toNat_natCast]; first | done | omega)) (by first | assumption | (simp (disch := omega) only [up2_ne, up2_eq, tpq_a T, tpq_b T, tpq_c T, tpq_d T, tpq_e T, tpq_f T, tpq_g T, tpq_h T, tpq_i T, tpq_j T, tpq_k T, tpq_l T, tpq_m T, hn, hp, Int.toNat_natCast]; first | done | rfl | omega)) rfl rfl ?_
        try simp (disch := omega) only [up2_ne, up2_eq, tpq_a T, tpq_b T, tpq_c T, tpq_d T, tpq_e T, tpq_f T, tpq_g T, tpq_h T, tpq_i T, tpq_j T, tpq_k T, tpq_l T, tpq_m T, hn, hp, Int.toNat_natCast]
        refine wp_iconst dX9_takeToken_75 ?_
        refine wp_iadd dX9_takeToken_76 ?_
        refine wp_putfield1 (z := 10) (kI := 6) fX9_46 dX9_takeToken_77 (by first | omega | (simp (disch := omega) only [up2_ne, up2_eq, tpq_a T, tpq_b T, tpq_c T, tpq_d T, tpq_e T, tpq_f T, tpq_g T, tpq_h T, tpq_i T, tpq_j T, tpq_k T, tpq_l T, tpq_m T, hn, hp, Int.toNat_natCast]; first | done | omega)) (by first | assumption | (simp (disch := omega) only [up2_ne, up2_eq, tpq_a T, tpq_b T, tpq_c T, tpq_d T, tpq_e T, tpq_f T, tpq_g T, tpq_h T, tpq_i T, tpq_j T, tpq_k T, tpq_l T, tpq_m T, hn, hp, Int.toNat_natCast]; first | done | rfl | omega)) rfl rfl ?_
        refine wp_goto (tgt := 45) dX9_takeToken_80 (by decide) ?_
        have z := ih (by omega) (by rw [show p + 1 + ((j + 1 : Nat) : Int) = p + 1 + j + 1 by omega, eL_s F (by omega) (decide_eq_true (by omega))]; exact he)
        rw [up2_up2, show p + 1 + (j : Int) + 1 = p + 1 + ((j + 1 : Nat) : Int) by omega]
        exact z
  have hs := sgn_c F (k := p) p0
  show WP (gX (gq u)) MX9_takeToken (d + 5) b Q 0 [(2, tc), (9, 0), (9, 0), (9, 0)] [] h
  refine wp_aload_n rfl rfl dX9_takeToken_0 ?_
  refine wp_getfield1 (z := 10) (kI := 6) fX9_46 dX9_takeToken_1 (by first | omega | (simp (disch := omega) only [up2_ne, up2_eq, tpq_a T, tpq_b T, tpq_c T, tpq_d T, tpq_e T, tpq_f T, tpq_g T, tpq_h T, tpq_i T, tpq_j T, tpq_k T, tpq_l T, tpq_m T, hn, hp, Int.toNat_natCast]; first | done | omega)) (by first | assumption | (simp (disch := omega) only [up2_ne, up2_eq, tpq_a T, tpq_b T, tpq_c T, tpq_d T, tpq_e T, tpq_f T, tpq_g T, tpq_h T, tpq_i T, tpq_j T, tpq_k T, tpq_l T, tpq_m T, hn, hp, Int.toNat_natCast]; first | done | rfl | omega)) rfl rfl ?_
  try simp (disch := omega) only [up2_ne, up2_eq, tpq_a T, tpq_b T, tpq_c T, tpq_d T, tpq_e T, tpq_f T, tpq_g T, tpq_h T, tpq_i T, tpq_j T, tpq_k T, tpq_l T, tpq_m T, hn, hp, Int.toNat_natCast]
  refine wp_aload_n rfl rfl dX9_takeToken_4 ?_
  refine wp_getfield1 (z := 10) (kI := 1) fX9_25 dX9_takeToken_5 (by first | omega | (simp (disch := omega) only [up2_ne, up2_eq, tpq_a T, tpq_b T, tpq_c T, tpq_d T, tpq_e T, tpq_f T, tpq_g T, tpq_h T, tpq_i T, tpq_j T, tpq_k T, tpq_l T, tpq_m T, hn, hp, Int.toNat_natCast]; first | done | omega)) (by first | assumption | (simp (disch := omega) only [up2_ne, up2_eq, tpq_a T, tpq_b T, tpq_c T, tpq_d T, tpq_e T, tpq_f T, tpq_g T, tpq_h T, tpq_i T, tpq_j T, tpq_k T, tpq_l T, tpq_m T, hn, hp, Int.toNat_natCast]; first | done | rfl | omega)) rfl rfl ?_
  try simp (disch := omega) only [up2_ne, up2_eq, tpq_a T, tpq_b T, tpq_c T, tpq_d T, tpq_e T, tpq_f T, tpq_g T, tpq_h T, tpq_i T, tpq_j T, tpq_k T, tpq_l T, tpq_m T, hn, hp, Int.toNat_natCast]
  refine wp_icmp_lt (tgt := 14) (by first | assumption | exact bI_in _ | exact ⟨by omega, by omega⟩ | exact iAnd_in | exact iOr_in | exact iShr_in | exact iShl_in | exact iXor_in | exact hxs _) (by first | assumption | exact bI_in _ | exact ⟨by omega, by omega⟩ | exact iAnd_in | exact iOr_in | exact iShr_in | exact iShl_in | exact iXor_in | exact hxs _) dX9_takeToken_8 (by decide) (fun c9 => ?_) (fun c9 => ?_)
  · refine wp_aload_n rfl rfl dX9_takeToken_14 ?_
    refine wp_getfield1 (z := 10) (kI := 6) fX9_46 dX9_takeToken_15 (by first | omega | (simp (disch := omega) only [up2_ne, up2_eq, tpq_a T, tpq_b T, tpq_c T, tpq_d T, tpq_e T, tpq_f T, tpq_g T, tpq_h T, tpq_i T, tpq_j T, tpq_k T, tpq_l T, tpq_m T, hn, hp, Int.toNat_natCast]; first | done | omega)) (by first | assumption | (simp (disch := omega) only [up2_ne, up2_eq, tpq_a T, tpq_b T, tpq_c T, tpq_d T, tpq_e T, tpq_f T, tpq_g T, tpq_h T, tpq_i T, tpq_j T, tpq_k T, tpq_l T, tpq_m T, hn, hp, Int.toNat_natCast]; first | done | rfl | omega)) rfl rfl ?_
    try simp (disch := omega) only [up2_ne, up2_eq, tpq_a T, tpq_b T, tpq_c T, tpq_d T, tpq_e T, tpq_f T, tpq_g T, tpq_h T, tpq_i T, tpq_j T, tpq_k T, tpq_l T, tpq_m T, hn, hp, Int.toNat_natCast]
    refine wp_istore_n rfl dX9_takeToken_18 rfl (Nat.le_of_ble_eq_true rfl) rfl ?_
    try simp only [List.set_cons_zero, List.set_cons_succ]
    refine wp_aload_n rfl rfl dX9_takeToken_19 ?_
    refine wp_aload_n rfl rfl dX9_takeToken_20 ?_
    refine wp_getfield1 (z := 10) (kI := 6) fX9_46 dX9_takeToken_21 (by first | omega | (simp (disch := omega) only [up2_ne, up2_eq, tpq_a T, tpq_b T, tpq_c T, tpq_d T, tpq_e T, tpq_f T, tpq_g T, tpq_h T, tpq_i T, tpq_j T, tpq_k T, tpq_l T, tpq_m T, hn, hp, Int.toNat_natCast]; first | done | omega)) (by first | assumption | (simp (disch := omega) only [up2_ne, up2_eq, tpq_a T, tpq_b T, tpq_c T, tpq_d T, tpq_e T, tpq_f T, tpq_g T, tpq_h T, tpq_i T, tpq_j T, tpq_k T, tpq_l T, tpq_m T, hn, hp, Int.toNat_natCast]; first | done | rfl | omega)) rfl rfl ?_
    try simp (disch := omega) only [up2_ne, up2_eq, tpq_a T, tpq_b T, tpq_c T, tpq_d T, tpq_e T, tpq_f T, tpq_g T, tpq_h T, tpq_i T, tpq_j T, tpq_k T, tpq_l T, tpq_m T, hn, hp, Int.toNat_natCast]
    refine wp_cV1 (ci := 9) okX9_byteAt rfl rfl wX9_67 dX9_takeToken_24 rfl (Nat.le_of_ble_eq_true rfl) (Nat.le_of_ble_eq_true rfl) (by first | omega | (simp (disch := omega) only [up2_ne, up2_eq, tpq_a T, tpq_b T, tpq_c T, tpq_d T, tpq_e T, tpq_f T, tpq_g T, tpq_h T, tpq_i T, tpq_j T, tpq_k T, tpq_l T, tpq_m T, hn, hp, Int.toNat_natCast]; first | done | omega)) (by first | assumption | (simp (disch := omega) only [up2_ne, up2_eq, tpq_a T, tpq_b T, tpq_c T, tpq_d T, tpq_e T, tpq_f T, tpq_g T, tpq_h T, tpq_i T, tpq_j T, tpq_k T, tpq_l T, tpq_m T, hn, hp, Int.toNat_natCast]; first | done | rfl | omega)) (s_X9_byteAt TF (by omega) (by omega)) (Nat.zero_le _) ?_
    try simp (disch := omega) only [up2_ne, up2_eq, tpq_a T, tpq_b T, tpq_c T, tpq_d T, tpq_e T, tpq_f T, tpq_g T, tpq_h T, tpq_i T, tpq_j T, tpq_k T, tpq_l T, tpq_m T, hn, hp, Int.toNat_natCast]
    refine wp_istore_n rfl dX9_takeToken_27 rfl (Nat.le_of_ble_eq_true rfl) rfl ?_
    try simp only [List.set_cons_zero, List.set_cons_succ]
    refine wp_aload_n rfl rfl dX9_takeToken_28 ?_
    refine wp_dup (by decide) dX9_takeToken_29 ?_
    refine wp_getfield1 (z := 10) (kI := 6) fX9_46 dX9_takeToken_30 (by first | omega | (simp (disch := omega) only [up2_ne, up2_eq, tpq_a T, tpq_b T, tpq_c T, tpq_d T, tpq_e T, tpq_f T, tpq_g T, tpq_h T, tpq_i T, tpq_j T, tpq_k T, tpq_l T, tpq_m T, hn, hp, Int.toNat_natCast]; first | done | omega)) (by first | assumption | (simp (disch := omega) only [up2_ne, up2_eq, tpq_a T, tpq_b T, tpq_c T, tpq_d T, tpq_e T, tpq_f T, tpq_g T, tpq_h T, tpq_i T, tpq_j T, tpq_k T, tpq_l T, tpq_m T, hn, hp, Int.toNat_natCast]; first | done | rfl | omega)) rfl rfl ?_
    try simp (disch := omega) only [up2_ne, up2_eq, tpq_a T, tpq_b T, tpq_c T, tpq_d T, tpq_e T, tpq_f T, tpq_g T, tpq_h T, tpq_i T, tpq_j T, tpq_k T, tpq_l T, tpq_m T, hn, hp, Int.toNat_natCast]
    refine wp_iconst dX9_takeToken_33 ?_
    refine wp_iadd dX9_takeToken_34 ?_
    refine wp_putfield1 (z := 10) (kI := 6) fX9_46 dX9_takeToken_35 (by first | omega | (simp (disch := omega) only [up2_ne, up2_eq, tpq_a T, tpq_b T, tpq_c T, tpq_d T, tpq_e T, tpq_f T, tpq_g T, tpq_h T, tpq_i T, tpq_j T, tpq_k T, tpq_l T, tpq_m T, hn, hp, Int.toNat_natCast]; first | done | omega)) (by first | assumption | (simp (disch := omega) only [up2_ne, up2_eq, tpq_a T, tpq_b T, tpq_c T, tpq_d T, tpq_e T, tpq_f T, tpq_g T, tpq_h T, tpq_i T, tpq_j T, tpq_k T, tpq_l T, tpq_m T, hn, hp, Int.toNat_natCast]; first | done | rfl | omega)) rfl rfl ?_
    refine wp_iload_n rfl rfl dX9_takeToken_38 ?_
    refine wp_cS1 okX9_isLetter wX9_70 dX9_takeToken_39 rfl (Nat.le_of_ble_eq_true rfl) (Nat.le_of_ble_eq_true rfl) (s_X9_isLetter ⟨by omega, by omega⟩) (Nat.zero_le _) ?_
    try simp (disch := omega) only [up2_ne, up2_eq, tpq_a T, tpq_b T, tpq_c T, tpq_d T, tpq_e T, tpq_f T, tpq_g T, tpq_h T, tpq_i T, tpq_j T, tpq_k T, tpq_l T, tpq_m T, hn, hp, Int.toNat_natCast]
    refine wp_ifB_eq (tgt := 89) dX9_takeToken_42 (by decide) (fun c10 => ?_) (fun c10 => ?_)
    · refine wp_iload_n rfl rfl dX9_takeToken_89 ?_
      refine wp_cS1 okX9_isDigit wX9_77 dX9_takeToken_90 rfl (Nat.le_of_ble_eq_true rfl) (Nat.le_of_ble_eq_true rfl) (s_X9_isDigit ⟨by omega, by omega⟩) (Nat.zero_le _) ?_
      try simp (disch := omega) only [up2_ne, up2_eq, tpq_a T, tpq_b T, tpq_c T, tpq_d T, tpq_e T, tpq_f T, tpq_g T, tpq_h T, tpq_i T, tpq_j T, tpq_k T, tpq_l T, tpq_m T, hn, hp, Int.toNat_natCast]
      refine wp_ifB_eq (tgt := 152) dX9_takeToken_93 (by decide) (fun c11 => ?_) (fun c11 => ?_)
      · refine wp_iconst dX9_takeToken_152 ?_
        refine wp_istore_n rfl dX9_takeToken_153 rfl (Nat.le_of_ble_eq_true rfl) rfl ?_
        try simp only [List.set_cons_zero, List.set_cons_succ]
        exact sgL (by have := F.out p0; omega) (decide_eq_false (by omega)) (decide_eq_false (by omega)) 0 (by omega) (fun i hi => absurd hi (Nat.not_lt_zero i))
      · have z := lpD (by have := F.out p0; omega) (decide_eq_false (by omega)) (decide_eq_true (by omega)) 0 (by omega) (by rw [show p + 1 + ((0 : Nat) : Int) = p + 1 by omega, eD_s F p0 (decide_eq_true (by omega))])
        rw [show p + 1 + ((0 : Nat) : Int) = p + 1 by omega] at z
        exact z
    · have z := lpL (by have := F.out p0; omega) (decide_eq_true (by omega)) 0 (by omega) (by rw [show p + 1 + ((0 : Nat) : Int) = p + 1 by omega, eL_s F p0 (decide_eq_true (by omega))])
      rw [show p + 1 + ((0 : Nat) : Int) = p + 1 by omega] at z
      exact z
  · refine wp_bipush (by decide) dX9_takeToken_11 ?_
    refine wp_iret dX9_takeToken_13 rfl ?_
    have hpn : n ≤ p := by omega
    have hc := (F.out p0).mpr hpn
    have hK : tK f p = 22 := by unfold tK; rw [hb, if_pos hc]
    have hE : tE f p = p := by unfold tE; rw [hb, if_pos hc]
    rw [hK, hE, up2_same hp] at hQ
    exact hQ
theorem s_X9_addToken {u : gT} {h : mH} {d b : Nat} {tc tb N t pl v : Int} (hcb : tcb tc tb) (T : Tp h tc tb) (hN : h tc 5 = N) (N0 : 0 ≤ N) (N1 : N < 161) : Det (gX (gq u)) MX9_addToken d b [(2, tc), (0, t), (0, pl), (0, v)] h (9, 0) (up2 (up2 (up2 (up2 h (tb + 1) N t) (tb + 2) N pl) (tb + 3) N v) tc 5 (N + 1)) := by
  intro Q hQ
  show WP (gX (gq u)) MX9_addToken d b Q 0 [(2, tc), (0, t), (0, pl), (0, v)] [] h
  refine wp_aload_n rfl rfl dX9_addToken_0 ?_
  refine wp_getfield1 (z := 10) (kI := 5) fX9_43 dX9_addToken_1 (by first | omega | (simp (disch := omega) only [up2_ne, up2_eq, tpq_a T, tpq_b T, tpq_c T, tpq_d T, tpq_e T, tpq_f T, tpq_g T, tpq_h T, tpq_i T, tpq_j T, tpq_k T, tpq_l T, tpq_m T, hN]; first | done | omega)) (by first | assumption | (simp (disch := omega) only [up2_ne, up2_eq, tpq_a T, tpq_b T, tpq_c T, tpq_d T, tpq_e T, tpq_f T, tpq_g T, tpq_h T, tpq_i T, tpq_j T, tpq_k T, tpq_l T, tpq_m T, hN]; first | done | rfl | omega)) rfl rfl ?_
  try simp (disch := omega) only [up2_ne, up2_eq, tpq_a T, tpq_b T, tpq_c T, tpq_d T, tpq_e T, tpq_f T, tpq_g T, tpq_h T, tpq_i T, tpq_j T, tpq_k T, tpq_l T, tpq_m T, hN]
  refine wp_aload_n rfl rfl dX9_addToken_4 ?_
  refine wp_getfield1 (z := 10) (kI := 2) fX9_15 dX9_addToken_5 (by first | omega | (simp (disch := omega) only [up2_ne, up2_eq, tpq_a T, tpq_b T, tpq_c T, tpq_d T, tpq_e T, tpq_f T, tpq_g T, tpq_h T, tpq_i T, tpq_j T, tpq_k T, tpq_l T, tpq_m T, hN]; first | done | omega)) (by first | assumption | (simp (disch := omega) only [up2_ne, up2_eq, tpq_a T, tpq_b T, tpq_c T, tpq_d T, tpq_e T, tpq_f T, tpq_g T, tpq_h T, tpq_i T, tpq_j T, tpq_k T, tpq_l T, tpq_m T, hN]; first | done | rfl | omega)) rfl rfl ?_
  try simp (disch := omega) only [up2_ne, up2_eq, tpq_a T, tpq_b T, tpq_c T, tpq_d T, tpq_e T, tpq_f T, tpq_g T, tpq_h T, tpq_i T, tpq_j T, tpq_k T, tpq_l T, tpq_m T, hN]
  refine wp_alen1 dX9_addToken_8 (by first | omega | (simp (disch := omega) only [up2_ne, up2_eq, tpq_a T, tpq_b T, tpq_c T, tpq_d T, tpq_e T, tpq_f T, tpq_g T, tpq_h T, tpq_i T, tpq_j T, tpq_k T, tpq_l T, tpq_m T, hN]; first | done | omega)) (by first | omega | (simp (disch := omega) only [up2_ne, up2_eq, tpq_a T, tpq_b T, tpq_c T, tpq_d T, tpq_e T, tpq_f T, tpq_g T, tpq_h T, tpq_i T, tpq_j T, tpq_k T, tpq_l T, tpq_m T, hN]; first | done | omega)) ?_
  try simp (disch := omega) only [up2_ne, up2_eq, tpq_a T, tpq_b T, tpq_c T, tpq_d T, tpq_e T, tpq_f T, tpq_g T, tpq_h T, tpq_i T, tpq_j T, tpq_k T, tpq_l T, tpq_m T, hN]
  refine wp_icmp_ge (tgt := 52) (by first | assumption | exact bI_in _ | exact ⟨by omega, by omega⟩ | exact iAnd_in | exact iOr_in | exact iShr_in | exact iShl_in | exact iXor_in | exact hxs _) (by first | assumption | exact bI_in _ | exact ⟨by omega, by omega⟩ | exact iAnd_in | exact iOr_in | exact iShr_in | exact iShl_in | exact iXor_in | exact hxs _) dX9_addToken_9 (by decide) (fun c1 => ?_) (fun c1 => ?_)
  · refine wp_vret dX9_addToken_52 rfl ?_
    first | exact hQ | (exfalso; omega)
  · refine wp_aload_n rfl rfl dX9_addToken_12 ?_
    refine wp_getfield1 (z := 10) (kI := 2) fX9_15 dX9_addToken_13 (by first | omega | (simp (disch := omega) only [up2_ne, up2_eq, tpq_a T, tpq_b T, tpq_c T, tpq_d T, tpq_e T, tpq_f T, tpq_g T, tpq_h T, tpq_i T, tpq_j T, tpq_k T, tpq_l T, tpq_m T, hN]; first | done | omega)) (by first | assumption | (simp (disch := omega) only [up2_ne, up2_eq, tpq_a T, tpq_b T, tpq_c T, tpq_d T, tpq_e T, tpq_f T, tpq_g T, tpq_h T, tpq_i T, tpq_j T, tpq_k T, tpq_l T, tpq_m T, hN]; first | done | rfl | omega)) rfl rfl ?_
    try simp (disch := omega) only [up2_ne, up2_eq, tpq_a T, tpq_b T, tpq_c T, tpq_d T, tpq_e T, tpq_f T, tpq_g T, tpq_h T, tpq_i T, tpq_j T, tpq_k T, tpq_l T, tpq_m T, hN]
    refine wp_aload_n rfl rfl dX9_addToken_16 ?_
    refine wp_getfield1 (z := 10) (kI := 5) fX9_43 dX9_addToken_17 (by first | omega | (simp (disch := omega) only [up2_ne, up2_eq, tpq_a T, tpq_b T, tpq_c T, tpq_d T, tpq_e T, tpq_f T, tpq_g T, tpq_h T, tpq_i T, tpq_j T, tpq_k T, tpq_l T, tpq_m T, hN]; first | done | omega)) (by first | assumption | (simp (disch := omega) only [up2_ne, up2_eq, tpq_a T, tpq_b T, tpq_c T, tpq_d T, tpq_e T, tpq_f T, tpq_g T, tpq_h T, tpq_i T, tpq_j T, tpq_k T, tpq_l T, tpq_m T, hN]; first | done | rfl | omega)) rfl rfl ?_
    try simp (disch := omega) only [up2_ne, up2_eq, tpq_a T, tpq_b T, tpq_c T, tpq_d T, tpq_e T, tpq_f T, tpq_g T, tpq_h T, tpq_i T, tpq_j T, tpq_k T, tpq_l T, tpq_m T, hN]
    refine wp_iload_n rfl rfl dX9_addToken_20 ?_
    refine wp_iastore1 dX9_addToken_21 (by first | omega | (simp (disch := omega) only [up2_ne, up2_eq, tpq_a T, tpq_b T, tpq_c T, tpq_d T, tpq_e T, tpq_f T, tpq_g T, tpq_h T, tpq_i T, tpq_j T, tpq_k T, tpq_l T, tpq_m T, hN]; first | done | omega)) (by first | assumption | (simp (disch := omega) only [up2_ne, up2_eq, tpq_a T, tpq_b T, tpq_c T, tpq_d T, tpq_e T, tpq_f T, tpq_g T, tpq_h T, tpq_i T, tpq_j T, tpq_k T, tpq_l T, tpq_m T, hN]; first | done | rfl | omega)) (by first | omega | (simp (disch := omega) only [up2_ne, up2_eq, tpq_a T, tpq_b T, tpq_c T, tpq_d T, tpq_e T, tpq_f T, tpq_g T, tpq_h T, tpq_i T, tpq_j T, tpq_k T, tpq_l T, tpq_m T, hN]; first | done | omega)) (by first | omega | (simp (disch := omega) only [up2_ne, up2_eq, tpq_a T, tpq_b T, tpq_c T, tpq_d T, tpq_e T, tpq_f T, tpq_g T, tpq_h T, tpq_i T, tpq_j T, tpq_k T, tpq_l T, tpq_m T, hN]; first | done | omega)) ?_
    refine wp_aload_n rfl rfl dX9_addToken_22 ?_
    refine wp_getfield1 (z := 10) (kI := 3) fX9_19 dX9_addToken_23 (by first | omega | (simp (disch := omega) only [up2_ne, up2_eq, tpq_a T, tpq_b T, tpq_c T, tpq_d T, tpq_e T, tpq_f T, tpq_g T, tpq_h T, tpq_i T, tpq_j T, tpq_k T, tpq_l T, tpq_m T, hN]; first | done | omega)) (by first | assumption | (simp (disch := omega) only [up2_ne, up2_eq, tpq_a T, tpq_b T, tpq_c T, tpq_d T, tpq_e T, tpq_f T, tpq_g T, tpq_h T, tpq_i T, tpq_j T, tpq_k T, tpq_l T, tpq_m T, hN]; first | done | rfl | omega)) rfl rfl ?_
    try simp (disch := omega) only [up2_ne, up2_eq, tpq_a T, tpq_b T, tpq_c T, tpq_d T, tpq_e T, tpq_f T, tpq_g T, tpq_h T, tpq_i T, tpq_j T, tpq_k T, tpq_l T, tpq_m T, hN]
    refine wp_aload_n rfl rfl dX9_addToken_26 ?_
    refine wp_getfield1 (z := 10) (kI := 5) fX9_43 dX9_addToken_27 (by first | omega | (simp (disch := omega) only [up2_ne, up2_eq, tpq_a T, tpq_b T, tpq_c T, tpq_d T, tpq_e T, tpq_f T, tpq_g T, tpq_h T, tpq_i T, tpq_j T, tpq_k T, tpq_l T, tpq_m T, hN]; first | done | omega)) (by first | assumption | (simp (disch := omega) only [up2_ne, up2_eq, tpq_a T, tpq_b T, tpq_c T, tpq_d T, tpq_e T, tpq_f T, tpq_g T, tpq_h T, tpq_i T, tpq_j T, tpq_k T, tpq_l T, tpq_m T, hN]; first | done | rfl | omega)) rfl rfl ?_
    try simp (disch := omega) only [up2_ne, up2_eq, tpq_a T, tpq_b T, tpq_c T, tpq_d T, tpq_e T, tpq_f T, tpq_g T, tpq_h T, tpq_i T, tpq_j T, tpq_k T, tpq_l T, tpq_m T, hN]
    refine wp_iload_n rfl rfl dX9_addToken_30 ?_
    refine wp_iastore1 dX9_addToken_31 (by first | omega | (simp (disch := omega) only [up2_ne, up2_eq, tpq_a T, tpq_b T, tpq_c T, tpq_d T, tpq_e T, tpq_f T, tpq_g T, tpq_h T, tpq_i T, tpq_j T, tpq_k T, tpq_l T, tpq_m T, hN]; first | done | omega)) (by first | assumption | (simp (disch := omega) only [up2_ne, up2_eq, tpq_a T, tpq_b T, tpq_c T, tpq_d T, tpq_e T, tpq_f T, tpq_g T, tpq_h T, tpq_i T, tpq_j T, tpq_k T, tpq_l T, tpq_m T, hN]; first | done | rfl | omega)) (by first | omega | (simp (disch := omega) only [up2_ne, up2_eq, tpq_a T, tpq_b T, tpq_c T, tpq_d T, tpq_e T, tpq_f T, tpq_g T, tpq_h T, tpq_i T, tpq_j T, tpq_k T, tpq_l T, tpq_m T, hN]; first | done | omega)) (by first | omega | (simp (disch := omega) only [up2_ne, up2_eq, tpq_a T, tpq_b T, tpq_c T, tpq_d T, tpq_e T, tpq_f T, tpq_g T, tpq_h T, tpq_i T, tpq_j T, tpq_k T, tpq_l T, tpq_m T, hN]; first | done | omega)) ?_
    refine wp_aload_n rfl rfl dX9_addToken_32 ?_
    refine wp_getfield1 (z := 10) (kI := 4) fX9_22 dX9_addToken_33 (by first | omega | (simp (disch := omega) only [up2_ne, up2_eq, tpq_a T, tpq_b T, tpq_c T, tpq_d T, tpq_e T, tpq_f T, tpq_g T, tpq_h T, tpq_i T, tpq_j T, tpq_k T, tpq_l T, tpq_m T, hN]; first | done | omega)) (by first | assumption | (simp (disch := omega) only [up2_ne, up2_eq, tpq_a T, tpq_b T, tpq_c T, tpq_d T, tpq_e T, tpq_f T, tpq_g T, tpq_h T, tpq_i T, tpq_j T, tpq_k T, tpq_l T, tpq_m T, hN]; first | done | rfl | omega)) rfl rfl ?_
    try simp (disch := omega) only [up2_ne, up2_eq, tpq_a T, tpq_b T, tpq_c T, tpq_d T, tpq_e T, tpq_f T, tpq_g T, tpq_h T, tpq_i T, tpq_j T, tpq_k T, tpq_l T, tpq_m T, hN]
    refine wp_aload_n rfl rfl dX9_addToken_36 ?_
    refine wp_getfield1 (z := 10) (kI := 5) fX9_43 dX9_addToken_37 (by first | omega | (simp (disch := omega) only [up2_ne, up2_eq, tpq_a T, tpq_b T, tpq_c T, tpq_d T, tpq_e T, tpq_f T, tpq_g T, tpq_h T, tpq_i T, tpq_j T, tpq_k T, tpq_l T, tpq_m T, hN]; first | done | omega)) (by first | assumption | (simp (disch := omega) only [up2_ne, up2_eq, tpq_a T, tpq_b T, tpq_c T, tpq_d T, tpq_e T, tpq_f T, tpq_g T, tpq_h T, tpq_i T, tpq_j T, tpq_k T, tpq_l T, tpq_m T, hN]; first | done | rfl | omega)) rfl rfl ?_
    try simp (disch := omega) only [up2_ne, up2_eq, tpq_a T, tpq_b T, tpq_c T, tpq_d T, tpq_e T, tpq_f T, tpq_g T, tpq_h T, tpq_i T, tpq_j T, tpq_k T, tpq_l T, tpq_m T, hN]
    refine wp_iload_n rfl rfl dX9_addToken_40 ?_
    refine wp_iastore1 dX9_addToken_41 (by first | omega | (simp (disch := omega) only [up2_ne, up2_eq, tpq_a T, tpq_b T, tpq_c T, tpq_d T, tpq_e T, tpq_f T, tpq_g T, tpq_h T, tpq_i T, tpq_j T, tpq_k T, tpq_l T, tpq_m T, hN]; first | done | omega)) (by first | assumption | (simp (disch := omega) only [up2_ne, up2_eq, tpq_a T, tpq_b T, tpq_c T, tpq_d T, tpq_e T, tpq_f T, tpq_g T, tpq_h T, tpq_i T, tpq_j T, tpq_k T, tpq_l T, tpq_m T, hN]; first | done | rfl | omega)) (by first | omega | (simp (disch := omega) only [up2_ne, up2_eq, tpq_a T, tpq_b T, tpq_c T, tpq_d T, tpq_e T, tpq_f T, tpq_g T, tpq_h T, tpq_i T, tpq_j T, tpq_k T, tpq_l T, tpq_m T, hN]; first | done | omega)) (by first | omega | (simp (disch := omega) only [up2_ne, up2_eq, tpq_a T, tpq_b T, tpq_c T, tpq_d T, tpq_e T, tpq_f T, tpq_g T, tpq_h T, tpq_i T, tpq_j T, tpq_k T, tpq_l T, tpq_m T, hN]; first | done | omega)) ?_
    refine wp_aload_n rfl rfl dX9_addToken_42 ?_
    refine wp_dup (by decide) dX9_addToken_43 ?_
    refine wp_getfield1 (z := 10) (kI := 5) fX9_43 dX9_addToken_44 (by first | omega | (simp (disch := omega) only [up2_ne, up2_eq, tpq_a T, tpq_b T, tpq_c T, tpq_d T, tpq_e T, tpq_f T, tpq_g T, tpq_h T, tpq_i T, tpq_j T, tpq_k T, tpq_l T, tpq_m T, hN]; first | done | omega)) (by first | assumption | (simp (disch := omega) only [up2_ne, up2_eq, tpq_a T, tpq_b T, tpq_c T, tpq_d T, tpq_e T, tpq_f T, tpq_g T, tpq_h T, tpq_i T, tpq_j T, tpq_k T, tpq_l T, tpq_m T, hN]; first | done | rfl | omega)) rfl rfl ?_
    try simp (disch := omega) only [up2_ne, up2_eq, tpq_a T, tpq_b T, tpq_c T, tpq_d T, tpq_e T, tpq_f T, tpq_g T, tpq_h T, tpq_i T, tpq_j T, tpq_k T, tpq_l T, tpq_m T, hN]
    refine wp_iconst dX9_addToken_47 ?_
    refine wp_iadd dX9_addToken_48 ?_
    refine wp_putfield1 (z := 10) (kI := 5) fX9_43 dX9_addToken_49 (by first | omega | (simp (disch := omega) only [up2_ne, up2_eq, tpq_a T, tpq_b T, tpq_c T, tpq_d T, tpq_e T, tpq_f T, tpq_g T, tpq_h T, tpq_i T, tpq_j T, tpq_k T, tpq_l T, tpq_m T, hN]; first | done | omega)) (by first | assumption | (simp (disch := omega) only [up2_ne, up2_eq, tpq_a T, tpq_b T, tpq_c T, tpq_d T, tpq_e T, tpq_f T, tpq_g T, tpq_h T, tpq_i T, tpq_j T, tpq_k T, tpq_l T, tpq_m T, hN]; first | done | rfl | omega)) rfl rfl ?_
    refine wp_vret dX9_addToken_52 rfl ?_
    first | exact hQ | (exfalso; omega)
abbrev tfr (h g : mH) (tc tb : Int) : Prop := ∀ x k : Int, ¬ (0 ≤ k ∧ ((x = tc ∧ 5 ≤ k) ∨ (tb + 1 ≤ x ∧ x ≤ tb + 3))) → g x k = h x k
/-- the i-th token as it is laid -/
abbrev tCl (f : Int → Int) (g : mH) (tb : Int) (i : Nat) : Prop := g (tb + 1) i = tk f i ∧ g (tb + 2) i = tB f (tP f i) ∧ (tk f i = 13 → g (tb + 3) i = tN f (tP f i))
def sTk (h g : mH) (tc tb : Int) (f : Int → Int) (j : Nat) : Prop := tfr h g tc tb ∧ g tc 5 = j ∧ g tc 6 = tP f j ∧ (∀ i : Nat, i < j → tk f i ≠ 22 ∧ tk f i ≠ 23) ∧ ∀ i : Nat, i < j → tCl f g tb i
def eTk (h g : mH) (tc tb : Int) (f : Int → Int) (N : Nat) : Prop := tfr h g tc tb ∧ g tc 5 = N + 1 ∧ isN f N ∧ ∀ i : Nat, i ≤ N → tCl f g tb i
theorem tfr_tF {h g : mH} {tc tb n : Int} {f : Int → Int} (TF : tF h tc tb n f) (K : tfr h g tc tb) : tF g tc tb n f := tF_cg TF (fun x k q => K x k (by have := TF.1; omega))
theorem tB_tB {f : Int → Int} {n p : Int} (F : LF f n) (p0 : 0 ≤ p) (p1 : p ≤ n) : tB f (tB f p) = tB f p := tB_f (tB_b F p0 p1).2.2
theorem tK_tB {f : Int → Int} {n p : Int} (F : LF f n) (p0 : 0 ≤ p) (p1 : p ≤ n) : tK f (tB f p) = tK f p ∧ tE f (tB f p) = tE f p := by
  have e : tE f (tB f p) = tE f p := by
    unfold tE
    rw [tB_tB F p0 p1]
  refine ⟨?_, e⟩
  unfold tK
  rw [e, tB_tB F p0 p1]
/-- one token more -/
noncomputable def tG (g : mH) (tc tb : Int) (f : Int → Int) (j : Nat) : mH := up2 (up2 (up2 (up2 (up2 g tc 6 (tP f (j + 1))) (tb + 1) j (tk f j)) (tb + 2) j (tB f (tP f j))) (tb + 3) j (if tk f j = 13 then tN f (tP f j) else 0)) tc 5 (j + 1)
theorem tG_ok {h g : mH} {tc tb : Int} {f : Int → Int} {j : Nat} (hcb : tcb tc tb) (I : sTk h g tc tb f j) : tfr h (tG g tc tb f j) tc tb ∧ tG g tc tb f j tc 5 = j + 1 ∧ tG g tc tb f j tc 6 = tP f (j + 1) ∧ ∀ i : Nat, i < j + 1 → tCl f (tG g tc tb f j) tb i := by
  obtain ⟨i1, i2, i3, i4, i5⟩ := I
  unfold tG
  refine ⟨fun x k q => ?_, up2_eq, ?_, fun i hi => ?_⟩
  · rw [up2_ne (by omega), up2_ne (by omega), up2_ne (by omega), up2_ne (by omega), up2_ne (by omega)]
    exact i1 x k q
  · rw [up2_ne (by omega), up2_ne (by omega), up2_ne (by omega), up2_ne (by omega), up2_eq]
  · by_cases c : i = j
    · subst c
      refine ⟨?_, ?_, fun q => ?_⟩
      · rw [up2_ne (by omega), up2_ne (by omega), up2_ne (by omega), up2_eq]
      · rw [up2_ne (by omega), up2_ne (by omega), up2_eq]
      · rw [up2_ne (by omega), up2_eq, if_pos q]
    · have h5 := i5 i (by omega)
      refine ⟨?_, ?_, fun q => ?_⟩
      · rw [up2_ne (by omega), up2_ne (by omega), up2_ne (by omega), up2_ne (by omega), up2_ne (by omega)]
        exact h5.1
      · rw [up2_ne (by omega), up2_ne (by omega), up2_ne (by omega), up2_ne (by omega), up2_ne (by omega)]
        exact h5.2.1
      · rw [up2_ne (by omega), up2_ne (by omega), up2_ne (by omega), up2_ne (by omega), up2_ne (by omega)]
        exact h5.2.2 q
set_option maxHeartbeats 2000000 in
theorem s_X9_split {u : gT} {h : mH} {d b : Nat} {tc tb n : Int} {f : Int → Int} (TF : tF h tc tb n f) (hfm : u.2.2.2.2.2 ≤ -10 ∨ u.2.2.2.2.2 = -1) : Rlt (gX (gq u)) MX9_split (d + 6) b [(2, tc)] h (fun r g => r = (9, 0) ∧ ∃ N : Nat, eTk h g tc tb f N) := by
  refine Rlt.of ?_
  obtain ⟨hcb, T, hn, F, hB⟩ := id TF
  have hn1 := F.1
  have hn2 := F.2.1
  have ex : ∀ (g : mH) (i : Int), 0 ≤ i → i ≤ 161 → (∃ N : Nat, eTk h g tc tb f N) → WP (gX (gq u)) MX9_split (d + 6) b (fun r g => r = (9, 0) ∧ ∃ N : Nat, eTk h g tc tb f N) 14 [(2, tc), (0, 0), (0, i), (9, 0), (9, 0)] [] g := by
    intro g i i0 i1 hex
    refine wp_iload_n rfl rfl dX9_split_14 ?_
    refine wp_sipush (by decide) dX9_split_15 ?_
    refine wp_icmp_gt (tgt := 89) (by first | assumption | exact bI_in _ | exact ⟨by omega, by omega⟩ | exact iAnd_in | exact iOr_in | exact iShr_in | exact iShl_in | exact iXor_in | exact hxs _) (by first | assumption | exact bI_in _ | exact ⟨by omega, by omega⟩ | exact iAnd_in | exact iOr_in | exact iShr_in | exact iShl_in | exact iXor_in | exact hxs _) dX9_split_18 (by decide) (fun c1 => ?_) (fun c1 => ?_)
    · refine wp_vret dX9_split_89 rfl ?_
      exact ⟨rfl, hex⟩
    · refine wp_iload_n rfl rfl dX9_split_21 ?_
      refine wp_if_eq (tgt := 89) (by first | assumption | exact bI_in _ | exact ⟨by omega, by omega⟩ | exact iAnd_in | exact iOr_in | exact iShr_in | exact iShl_in | exact iXor_in | exact hxs _) dX9_split_22 (by decide) (fun hx => ?_) (fun hx => absurd hx (by decide))
      refine wp_vret dX9_split_89 rfl ?_
      exact ⟨rfl, hex⟩
  have loop : ∀ j : Nat, j ≤ 160 → ∀ g, sTk h g tc tb f j → WP (gX (gq u)) MX9_split (d + 6) b (fun r g => r = (9, 0) ∧ ∃ N : Nat, eTk h g tc tb f N) 14 [(2, tc), (0, 1), (0, (j : Int)), (9, 0), (9, 0)] [] g := by
    refine loop_w 160 (fun j hj ih => ?_)
    intro g I
    have TG := tfr_tF TF I.1
    have gT := TG.2.1
    have g5 : g tc 5 = j := I.2.1
    have g6 : g tc 6 = tP f j := I.2.2.1
    have hpb := tP_b F j
    have hpb1 := tP_b F (j + 1)
    have hpi := tP_i F j (fun k hk => (I.2.2.2.1 k hk).1)
    have hbb := tB_b F hpb.1 hpb.2
    have heb := tE_b F hpb.1 hpb.2
    have htk : 0 ≤ tk f j ∧ tk f j ≤ 23 := tK_b
    have hkk := tK_tB F hpb.1 hpb.2
    have hOK := tG_ok hcb I
    have hP1 : tP f (j + 1) = tE f (tP f j) := rfl
    have T1 : tF (up2 g tc 6 (tB f (tP f j))) tc tb n f := tF_up TG (by omega)
    have T2 : tF (up2 g tc 6 (tP f (j + 1))) tc tb n f := tF_up TG (by omega)
    have T2p := T2.2.1
    have row2 : ∀ d' b' : Nat, Det (gX (gq u)) MX9_takeToken (d' + 5) b' [(2, tc)] (up2 g tc 6 (tB f (tP f j))) (0, tk f j) (up2 g tc 6 (tP f (j + 1))) := by
      intro d' b'
      have := s_X9_takeToken (u := u) (d := d') (b := b') T1 hfm up2_eq (by omega) hbb.2.1 (tB_tB F hpb.1 hpb.2)
      rw [hkk.1, hkk.2, up2_up2] at this
      exact this
    have row3 : tk f j = 13 → ∀ d' b' : Nat, Det (gX (gq u)) MX9_numberOf (d' + 2) b' [(2, tc), (0, tB f (tP f j))] (up2 g tc 6 (tP f (j + 1))) (0, if tk f j = 13 then tN f (tP f j) else 0) (up2 g tc 6 (tP f (j + 1))) := by
      intro q d' b'
      have hd := tN_b F hpb.1 hpb.2 q
      rw [if_pos q]
      refine s_X9_numberOf T2 up2_eq (by omega) (by omega) hpb1.2 (fun i h1 h2 => (eD_b F (p := tB f (tP f j)) (by omega) hbb.2.1).2.2.2 i h1 (by rw [← hd.2.2.2.2.2.1]; exact h2))
    refine wp_iload_n rfl rfl dX9_split_14 ?_
    refine wp_sipush (by decide) dX9_split_15 ?_
    refine wp_icmp_gt (tgt := 89) (by first | assumption | exact bI_in _ | exact ⟨by omega, by omega⟩ | exact iAnd_in | exact iOr_in | exact iShr_in | exact iShl_in | exact iXor_in | exact hxs _) (by first | assumption | exact bI_in _ | exact ⟨by omega, by omega⟩ | exact iAnd_in | exact iOr_in | exact iShr_in | exact iShl_in | exact iXor_in | exact hxs _) dX9_split_18 (by decide) (fun c2 => by exfalso; omega) (fun c2 => ?_)
    refine wp_iload_n rfl rfl dX9_split_21 ?_
    refine wp_if_eq (tgt := 89) (by first | assumption | exact bI_in _ | exact ⟨by omega, by omega⟩ | exact iAnd_in | exact iOr_in | exact iShr_in | exact iShl_in | exact iXor_in | exact hxs _) dX9_split_22 (by decide) (fun hx => absurd hx (by decide)) (fun hx => ?_)
    refine wp_aload_n rfl rfl dX9_split_25 ?_
    refine wp_cV0v (ci := 9) okX9_skipBlanks rfl rfl wX9_49 dX9_split_26 (Nat.le_of_ble_eq_true rfl) (Nat.le_of_ble_eq_true rfl) (by first | omega | (simp (disch := omega) only [up2_ne, up2_eq, tpq_a gT, tpq_b gT, tpq_c gT, tpq_d gT, tpq_e gT, tpq_f gT, tpq_g gT, tpq_h gT, tpq_i gT, tpq_j gT, tpq_k gT, tpq_l gT, tpq_m gT, g5, g6]; first | done | omega)) (by first | assumption | (simp (disch := omega) only [up2_ne, up2_eq, tpq_a gT, tpq_b gT, tpq_c gT, tpq_d gT, tpq_e gT, tpq_f gT, tpq_g gT, tpq_h gT, tpq_i gT, tpq_j gT, tpq_k gT, tpq_l gT, tpq_m gT, g5, g6]; first | done | rfl | omega)) (s_X9_skipBlanks TG g6 hpb.1 hpb.2) (Nat.zero_le _) ?_
    try simp (disch := omega) only [up2_ne, up2_eq, tpq_a gT, tpq_b gT, tpq_c gT, tpq_d gT, tpq_e gT, tpq_f gT, tpq_g gT, tpq_h gT, tpq_i gT, tpq_j gT, tpq_k gT, tpq_l gT, tpq_m gT, g5, g6]
    refine wp_aload_n rfl rfl dX9_split_29 ?_
    refine wp_getfield1 (z := 10) (kI := 6) fX9_46 dX9_split_30 (by first | omega | (simp (disch := omega) only [up2_ne, up2_eq, tpq_a gT, tpq_b gT, tpq_c gT, tpq_d gT, tpq_e gT, tpq_f gT, tpq_g gT, tpq_h gT, tpq_i gT, tpq_j gT, tpq_k gT, tpq_l gT, tpq_m gT, g5, g6]; first | done | omega)) (by first | assumption | (simp (disch := omega) only [up2_ne, up2_eq, tpq_a gT, tpq_b gT, tpq_c gT, tpq_d gT, tpq_e gT, tpq_f gT, tpq_g gT, tpq_h gT, tpq_i gT, tpq_j gT, tpq_k gT, tpq_l gT, tpq_m gT, g5, g6]; first | done | rfl | omega)) rfl rfl ?_
    try simp (disch := omega) only [up2_ne, up2_eq, tpq_a gT, tpq_b gT, tpq_c gT, tpq_d gT, tpq_e gT, tpq_f gT, tpq_g gT, tpq_h gT, tpq_i gT, tpq_j gT, tpq_k gT, tpq_l gT, tpq_m gT, g5, g6]
    refine wp_istore_n rfl dX9_split_33 rfl (Nat.le_of_ble_eq_true rfl) rfl ?_
    try simp only [List.set_cons_zero, List.set_cons_succ]
    refine wp_aload_n rfl rfl dX9_split_34 ?_
    refine wp_cV0 (ci := 9) okX9_takeToken rfl rfl wX9_52 dX9_split_35 rfl (Nat.le_of_ble_eq_true rfl) (Nat.le_of_ble_eq_true rfl) (by first | omega | (simp (disch := omega) only [up2_ne, up2_eq, tpq_a gT, tpq_b gT, tpq_c gT, tpq_d gT, tpq_e gT, tpq_f gT, tpq_g gT, tpq_h gT, tpq_i gT, tpq_j gT, tpq_k gT, tpq_l gT, tpq_m gT, g5, g6]; first | done | omega)) (by first | assumption | (simp (disch := omega) only [up2_ne, up2_eq, tpq_a gT, tpq_b gT, tpq_c gT, tpq_d gT, tpq_e gT, tpq_f gT, tpq_g gT, tpq_h gT, tpq_i gT, tpq_j gT, tpq_k gT, tpq_l gT, tpq_m gT, g5, g6]; first | done | rfl | omega)) (row2 _ _) (Nat.zero_le _) ?_
    try simp (disch := omega) only [up2_ne, up2_eq, tpq_a gT, tpq_b gT, tpq_c gT, tpq_d gT, tpq_e gT, tpq_f gT, tpq_g gT, tpq_h gT, tpq_i gT, tpq_j gT, tpq_k gT, tpq_l gT, tpq_m gT, g5, g6]
    refine wp_istore dX9_split_38 rfl (Nat.le_of_ble_eq_true rfl) rfl ?_
    try simp only [List.set_cons_zero, List.set_cons_succ]
    refine wp_aload_n rfl rfl dX9_split_40 ?_
    refine wp_iload rfl dX9_split_41 ?_
    refine wp_iload_n rfl rfl dX9_split_43 ?_
    refine wp_iload rfl dX9_split_44 ?_
    refine wp_bipush (by decide) dX9_split_46 ?_
    refine wp_icmp_ne (tgt := 59) (by first | assumption | exact bI_in _ | exact ⟨by omega, by omega⟩ | exact iAnd_in | exact iOr_in | exact iShr_in | exact iShl_in | exact iXor_in | exact hxs _) (by first | assumption | exact bI_in _ | exact ⟨by omega, by omega⟩ | exact iAnd_in | exact iOr_in | exact iShr_in | exact iShl_in | exact iXor_in | exact hxs _) dX9_split_48 (by decide) (fun c3 => ?_) (fun c3 => ?_)
    · refine wp_iconst dX9_split_59 ?_
      refine wp_cV3v (ci := 9) okX9_addToken rfl rfl wX9_59 dX9_split_60 (Nat.le_of_ble_eq_true rfl) (Nat.le_of_ble_eq_true rfl) (by first | omega | (simp (disch := omega) only [up2_ne, up2_eq, tpq_a gT, tpq_b gT, tpq_c gT, tpq_d gT, tpq_e gT, tpq_f gT, tpq_g gT, tpq_h gT, tpq_i gT, tpq_j gT, tpq_k gT, tpq_l gT, tpq_m gT, g5, g6]; first | done | omega)) (by first | assumption | (simp (disch := omega) only [up2_ne, up2_eq, tpq_a gT, tpq_b gT, tpq_c gT, tpq_d gT, tpq_e gT, tpq_f gT, tpq_g gT, tpq_h gT, tpq_i gT, tpq_j gT, tpq_k gT, tpq_l gT, tpq_m gT, g5, g6]; first | done | rfl | omega)) (s_X9_addToken hcb T2p ((up2_ne (by omega)).trans g5) (by omega) (by omega)) (Nat.zero_le _) ?_
      try simp (disch := omega) only [up2_ne, up2_eq, tpq_a gT, tpq_b gT, tpq_c gT, tpq_d gT, tpq_e gT, tpq_f gT, tpq_g gT, tpq_h gT, tpq_i gT, tpq_j gT, tpq_k gT, tpq_l gT, tpq_m gT, g5, g6]
      refine wp_iload rfl dX9_split_63 ?_
      refine wp_bipush (by decide) dX9_split_65 ?_
      refine wp_icmp_eq (tgt := 81) (by first | assumption | exact bI_in _ | exact ⟨by omega, by omega⟩ | exact iAnd_in | exact iOr_in | exact iShr_in | exact iShl_in | exact iXor_in | exact hxs _) (by first | assumption | exact bI_in _ | exact ⟨by omega, by omega⟩ | exact iAnd_in | exact iOr_in | exact iShr_in | exact iShl_in | exact iXor_in | exact hxs _) dX9_split_67 (by decide) (fun c4 => ?_) (fun c4 => ?_)
      · refine wp_iconst dX9_split_81 ?_
        refine wp_istore_n rfl dX9_split_82 rfl (Nat.le_of_ble_eq_true rfl) rfl ?_
        try simp only [List.set_cons_zero, List.set_cons_succ]
        refine wp_iinc rfl rfl dX9_split_83 rfl rfl ?_
        try simp only [List.set_cons_zero, List.set_cons_succ]
        refine wp_goto (tgt := 14) dX9_split_86 (by decide) ?_
        refine wp_dropAt 3 rfl (wp_dropAt 4 rfl ?_)
        have eG : ∀ vv : Int, vv = (if tk f j = 13 then tN f (tP f j) else 0) → up2 (up2 (up2 (up2 (up2 g tc 6 (tP f (j + 1))) (tb + 1) j (tk f j)) (tb + 2) j (tB f (tP f j))) (tb + 3) j vv) tc 5 (j + 1) = tG g tc tb f j := fun vv q => by rw [q]; rfl
        rw [eG _ (by first | rfl | (rw [if_neg (by assumption)]))]
        first
        | (have hex : ∃ N : Nat, eTk h (tG g tc tb f j) tc tb f N := ⟨j, hOK.1, hOK.2.1, ⟨I.2.2.2.1, by first | exact Or.inl (by assumption) | exact Or.inr (by assumption)⟩, fun i hi => hOK.2.2.2 i (by omega)⟩
           exact ex _ _ (by omega) (by omega) hex)
        | (have hg : tk f j ≠ 22 ∧ tk f j ≠ 23 := ⟨by assumption, by assumption⟩
           have hlt : j < 160 := by have := heb.2.2.1 hg.1; omega
           have z := ih hlt (tG g tc tb f j) ⟨hOK.1, hOK.2.1, hOK.2.2.1, fun i hi => by
             by_cases y : i = j
             · rw [y]
               exact hg
             · exact I.2.2.2.1 i (by omega), hOK.2.2.2⟩
           exact z)
      · refine wp_iload rfl dX9_split_70 ?_
        refine wp_bipush (by decide) dX9_split_72 ?_
        refine wp_icmp_eq (tgt := 81) (by first | assumption | exact bI_in _ | exact ⟨by omega, by omega⟩ | exact iAnd_in | exact iOr_in | exact iShr_in | exact iShl_in | exact iXor_in | exact hxs _) (by first | assumption | exact bI_in _ | exact ⟨by omega, by omega⟩ | exact iAnd_in | exact iOr_in | exact iShr_in | exact iShl_in | exact iXor_in | exact hxs _) dX9_split_74 (by decide) (fun c5 => ?_) (fun c5 => ?_)
        · refine wp_iconst dX9_split_81 ?_
          refine wp_istore_n rfl dX9_split_82 rfl (Nat.le_of_ble_eq_true rfl) rfl ?_
          try simp only [List.set_cons_zero, List.set_cons_succ]
          refine wp_iinc rfl rfl dX9_split_83 rfl rfl ?_
          try simp only [List.set_cons_zero, List.set_cons_succ]
          refine wp_goto (tgt := 14) dX9_split_86 (by decide) ?_
          refine wp_dropAt 3 rfl (wp_dropAt 4 rfl ?_)
          have eG : ∀ vv : Int, vv = (if tk f j = 13 then tN f (tP f j) else 0) → up2 (up2 (up2 (up2 (up2 g tc 6 (tP f (j + 1))) (tb + 1) j (tk f j)) (tb + 2) j (tB f (tP f j))) (tb + 3) j vv) tc 5 (j + 1) = tG g tc tb f j := fun vv q => by rw [q]; rfl
          rw [eG _ (by first | rfl | (rw [if_neg (by assumption)]))]
          first
          | (have hex : ∃ N : Nat, eTk h (tG g tc tb f j) tc tb f N := ⟨j, hOK.1, hOK.2.1, ⟨I.2.2.2.1, by first | exact Or.inl (by assumption) | exact Or.inr (by assumption)⟩, fun i hi => hOK.2.2.2 i (by omega)⟩
             exact ex _ _ (by omega) (by omega) hex)
          | (have hg : tk f j ≠ 22 ∧ tk f j ≠ 23 := ⟨by assumption, by assumption⟩
             have hlt : j < 160 := by have := heb.2.2.1 hg.1; omega
             have z := ih hlt (tG g tc tb f j) ⟨hOK.1, hOK.2.1, hOK.2.2.1, fun i hi => by
               by_cases y : i = j
               · rw [y]
                 exact hg
               · exact I.2.2.2.1 i (by omega), hOK.2.2.2⟩
             exact z)
        · refine wp_iconst dX9_split_77 ?_
          refine wp_goto (tgt := 82) dX9_split_78 (by decide) ?_
          refine wp_istore_n rfl dX9_split_82 rfl (Nat.le_of_ble_eq_true rfl) rfl ?_
          try simp only [List.set_cons_zero, List.set_cons_succ]
          refine wp_iinc rfl rfl dX9_split_83 rfl rfl ?_
          try simp only [List.set_cons_zero, List.set_cons_succ]
          refine wp_goto (tgt := 14) dX9_split_86 (by decide) ?_
          refine wp_dropAt 3 rfl (wp_dropAt 4 rfl ?_)
          have eG : ∀ vv : Int, vv = (if tk f j = 13 then tN f (tP f j) else 0) → up2 (up2 (up2 (up2 (up2 g tc 6 (tP f (j + 1))) (tb + 1) j (tk f j)) (tb + 2) j (tB f (tP f j))) (tb + 3) j vv) tc 5 (j + 1) = tG g tc tb f j := fun vv q => by rw [q]; rfl
          rw [eG _ (by first | rfl | (rw [if_neg (by assumption)]))]
          first
          | (have hex : ∃ N : Nat, eTk h (tG g tc tb f j) tc tb f N := ⟨j, hOK.1, hOK.2.1, ⟨I.2.2.2.1, by first | exact Or.inl (by assumption) | exact Or.inr (by assumption)⟩, fun i hi => hOK.2.2.2 i (by omega)⟩
             exact ex _ _ (by omega) (by omega) hex)
          | (have hg : tk f j ≠ 22 ∧ tk f j ≠ 23 := ⟨by assumption, by assumption⟩
             have hlt : j < 160 := by have := heb.2.2.1 hg.1; omega
             have z := ih hlt (tG g tc tb f j) ⟨hOK.1, hOK.2.1, hOK.2.2.1, fun i hi => by
               by_cases y : i = j
               · rw [y]
                 exact hg
               · exact I.2.2.2.1 i (by omega), hOK.2.2.2⟩
             exact z)
    · refine wp_aload_n rfl rfl dX9_split_51 ?_
      refine wp_iload_n rfl rfl dX9_split_52 ?_
      refine wp_cV1 (ci := 9) okX9_numberOf rfl rfl wX9_55 dX9_split_53 rfl (Nat.le_of_ble_eq_true rfl) (Nat.le_of_ble_eq_true rfl) (by first | omega | (simp (disch := omega) only [up2_ne, up2_eq, tpq_a gT, tpq_b gT, tpq_c gT, tpq_d gT, tpq_e gT, tpq_f gT, tpq_g gT, tpq_h gT, tpq_i gT, tpq_j gT, tpq_k gT, tpq_l gT, tpq_m gT, g5, g6]; first | done | omega)) (by first | assumption | (simp (disch := omega) only [up2_ne, up2_eq, tpq_a gT, tpq_b gT, tpq_c gT, tpq_d gT, tpq_e gT, tpq_f gT, tpq_g gT, tpq_h gT, tpq_i gT, tpq_j gT, tpq_k gT, tpq_l gT, tpq_m gT, g5, g6]; first | done | rfl | omega)) (row3 (by assumption) _ _) (Nat.zero_le _) ?_
      try simp (disch := omega) only [up2_ne, up2_eq, tpq_a gT, tpq_b gT, tpq_c gT, tpq_d gT, tpq_e gT, tpq_f gT, tpq_g gT, tpq_h gT, tpq_i gT, tpq_j gT, tpq_k gT, tpq_l gT, tpq_m gT, g5, g6]
      refine wp_goto (tgt := 60) dX9_split_56 (by decide) ?_
      refine wp_cV3v (ci := 9) okX9_addToken rfl rfl wX9_59 dX9_split_60 (Nat.le_of_ble_eq_true rfl) (Nat.le_of_ble_eq_true rfl) (by first | omega | (simp (disch := omega) only [up2_ne, up2_eq, tpq_a gT, tpq_b gT, tpq_c gT, tpq_d gT, tpq_e gT, tpq_f gT, tpq_g gT, tpq_h gT, tpq_i gT, tpq_j gT, tpq_k gT, tpq_l gT, tpq_m gT, g5, g6]; first | done | omega)) (by first | assumption | (simp (disch := omega) only [up2_ne, up2_eq, tpq_a gT, tpq_b gT, tpq_c gT, tpq_d gT, tpq_e gT, tpq_f gT, tpq_g gT, tpq_h gT, tpq_i gT, tpq_j gT, tpq_k gT, tpq_l gT, tpq_m gT, g5, g6]; first | done | rfl | omega)) (s_X9_addToken hcb T2p ((up2_ne (by omega)).trans g5) (by omega) (by omega)) (Nat.zero_le _) ?_
      try simp (disch := omega) only [up2_ne, up2_eq, tpq_a gT, tpq_b gT, tpq_c gT, tpq_d gT, tpq_e gT, tpq_f gT, tpq_g gT, tpq_h gT, tpq_i gT, tpq_j gT, tpq_k gT, tpq_l gT, tpq_m gT, g5, g6]
      refine wp_iload rfl dX9_split_63 ?_
      refine wp_bipush (by decide) dX9_split_65 ?_
      refine wp_icmp_eq (tgt := 81) (by first | assumption | exact bI_in _ | exact ⟨by omega, by omega⟩ | exact iAnd_in | exact iOr_in | exact iShr_in | exact iShl_in | exact iXor_in | exact hxs _) (by first | assumption | exact bI_in _ | exact ⟨by omega, by omega⟩ | exact iAnd_in | exact iOr_in | exact iShr_in | exact iShl_in | exact iXor_in | exact hxs _) dX9_split_67 (by decide) (fun c6 => ?_) (fun c6 => ?_)
      · refine wp_iconst dX9_split_81 ?_
        refine wp_istore_n rfl dX9_split_82 rfl (Nat.le_of_ble_eq_true rfl) rfl ?_
        try simp only [List.set_cons_zero, List.set_cons_succ]
        refine wp_iinc rfl rfl dX9_split_83 rfl rfl ?_
        try simp only [List.set_cons_zero, List.set_cons_succ]
        refine wp_goto (tgt := 14) dX9_split_86 (by decide) ?_
        refine wp_dropAt 3 rfl (wp_dropAt 4 rfl ?_)
        have eG : ∀ vv : Int, vv = (if tk f j = 13 then tN f (tP f j) else 0) → up2 (up2 (up2 (up2 (up2 g tc 6 (tP f (j + 1))) (tb + 1) j (tk f j)) (tb + 2) j (tB f (tP f j))) (tb + 3) j vv) tc 5 (j + 1) = tG g tc tb f j := fun vv q => by rw [q]; rfl
        rw [eG _ (by first | rfl | (rw [if_neg (by assumption)]))]
        first
        | (have hex : ∃ N : Nat, eTk h (tG g tc tb f j) tc tb f N := ⟨j, hOK.1, hOK.2.1, ⟨I.2.2.2.1, by first | exact Or.inl (by assumption) | exact Or.inr (by assumption)⟩, fun i hi => hOK.2.2.2 i (by omega)⟩
           exact ex _ _ (by omega) (by omega) hex)
        | (have hg : tk f j ≠ 22 ∧ tk f j ≠ 23 := ⟨by assumption, by assumption⟩
           have hlt : j < 160 := by have := heb.2.2.1 hg.1; omega
           have z := ih hlt (tG g tc tb f j) ⟨hOK.1, hOK.2.1, hOK.2.2.1, fun i hi => by
             by_cases y : i = j
             · rw [y]
               exact hg
             · exact I.2.2.2.1 i (by omega), hOK.2.2.2⟩
           exact z)
      · refine wp_iload rfl dX9_split_70 ?_
        refine wp_bipush (by decide) dX9_split_72 ?_
        refine wp_icmp_eq (tgt := 81) (by first | assumption | exact bI_in _ | exact ⟨by omega, by omega⟩ | exact iAnd_in | exact iOr_in | exact iShr_in | exact iShl_in | exact iXor_in | exact hxs _) (by first | assumption | exact bI_in _ | exact ⟨by omega, by omega⟩ | exact iAnd_in | exact iOr_in | exact iShr_in | exact iShl_in | exact iXor_in | exact hxs _) dX9_split_74 (by decide) (fun c7 => ?_) (fun c7 => ?_)
        · refine wp_iconst dX9_split_81 ?_
          refine wp_istore_n rfl dX9_split_82 rfl (Nat.le_of_ble_eq_true rfl) rfl ?_
          try simp only [List.set_cons_zero, List.set_cons_succ]
          refine wp_iinc rfl rfl dX9_split_83 rfl rfl ?_
          try simp only [List.set_cons_zero, List.set_cons_succ]
          refine wp_goto (tgt := 14) dX9_split_86 (by decide) ?_
          refine wp_dropAt 3 rfl (wp_dropAt 4 rfl ?_)
          have eG : ∀ vv : Int, vv = (if tk f j = 13 then tN f (tP f j) else 0) → up2 (up2 (up2 (up2 (up2 g tc 6 (tP f (j + 1))) (tb + 1) j (tk f j)) (tb + 2) j (tB f (tP f j))) (tb + 3) j vv) tc 5 (j + 1) = tG g tc tb f j := fun vv q => by rw [q]; rfl
          rw [eG _ (by first | rfl | (rw [if_neg (by assumption)]))]
          first
          | (have hex : ∃ N : Nat, eTk h (tG g tc tb f j) tc tb f N := ⟨j, hOK.1, hOK.2.1, ⟨I.2.2.2.1, by first | exact Or.inl (by assumption) | exact Or.inr (by assumption)⟩, fun i hi => hOK.2.2.2 i (by omega)⟩
             exact ex _ _ (by omega) (by omega) hex)
          | (have hg : tk f j ≠ 22 ∧ tk f j ≠ 23 := ⟨by assumption, by assumption⟩
             have hlt : j < 160 := by have := heb.2.2.1 hg.1; omega
             have z := ih hlt (tG g tc tb f j) ⟨hOK.1, hOK.2.1, hOK.2.2.1, fun i hi => by
               by_cases y : i = j
               · rw [y]
                 exact hg
               · exact I.2.2.2.1 i (by omega), hOK.2.2.2⟩
             exact z)
        · refine wp_iconst dX9_split_77 ?_
          refine wp_goto (tgt := 82) dX9_split_78 (by decide) ?_
          refine wp_istore_n rfl dX9_split_82 rfl (Nat.le_of_ble_eq_true rfl) rfl ?_
          try simp only [List.set_cons_zero, List.set_cons_succ]
          refine wp_iinc rfl rfl dX9_split_83 rfl rfl ?_
          try simp only [List.set_cons_zero, List.set_cons_succ]
          refine wp_goto (tgt := 14) dX9_split_86 (by decide) ?_
          refine wp_dropAt 3 rfl (wp_dropAt 4 rfl ?_)
          have eG : ∀ vv : Int, vv = (if tk f j = 13 then tN f (tP f j) else 0) → up2 (up2 (up2 (up2 (up2 g tc 6 (tP f (j + 1))) (tb + 1) j (tk f j)) (tb + 2) j (tB f (tP f j))) (tb + 3) j vv) tc 5 (j + 1) = tG g tc tb f j := fun vv q => by rw [q]; rfl
          rw [eG _ (by first | rfl | (rw [if_neg (by assumption)]))]
          first
          | (have hex : ∃ N : Nat, eTk h (tG g tc tb f j) tc tb f N := ⟨j, hOK.1, hOK.2.1, ⟨I.2.2.2.1, by first | exact Or.inl (by assumption) | exact Or.inr (by assumption)⟩, fun i hi => hOK.2.2.2 i (by omega)⟩
             exact ex _ _ (by omega) (by omega) hex)
          | (have hg : tk f j ≠ 22 ∧ tk f j ≠ 23 := ⟨by assumption, by assumption⟩
             have hlt : j < 160 := by have := heb.2.2.1 hg.1; omega
             have z := ih hlt (tG g tc tb f j) ⟨hOK.1, hOK.2.1, hOK.2.2.1, fun i hi => by
               by_cases y : i = j
               · rw [y]
                 exact hg
               · exact I.2.2.2.1 i (by omega), hOK.2.2.2⟩
             exact z)
  show WP (gX (gq u)) MX9_split (d + 6) b _ 0 [(2, tc), (9, 0), (9, 0), (9, 0), (9, 0)] [] h
  refine wp_aload_n rfl rfl dX9_split_0 ?_
  refine wp_iconst dX9_split_1 ?_
  refine wp_putfield1 (z := 10) (kI := 5) fX9_43 dX9_split_2 (by first | omega | (simp (disch := omega) only [up2_ne, up2_eq, tpq_a T, tpq_b T, tpq_c T, tpq_d T, tpq_e T, tpq_f T, tpq_g T, tpq_h T, tpq_i T, tpq_j T, tpq_k T, tpq_l T, tpq_m T, hn]; first | done | omega)) (by first | assumption | (simp (disch := omega) only [up2_ne, up2_eq, tpq_a T, tpq_b T, tpq_c T, tpq_d T, tpq_e T, tpq_f T, tpq_g T, tpq_h T, tpq_i T, tpq_j T, tpq_k T, tpq_l T, tpq_m T, hn]; first | done | rfl | omega)) rfl rfl ?_
  refine wp_aload_n rfl rfl dX9_split_5 ?_
  refine wp_iconst dX9_split_6 ?_
  refine wp_putfield1 (z := 10) (kI := 6) fX9_46 dX9_split_7 (by first | omega | (simp (disch := omega) only [up2_ne, up2_eq, tpq_a T, tpq_b T, tpq_c T, tpq_d T, tpq_e T, tpq_f T, tpq_g T, tpq_h T, tpq_i T, tpq_j T, tpq_k T, tpq_l T, tpq_m T, hn]; first | done | omega)) (by first | assumption | (simp (disch := omega) only [up2_ne, up2_eq, tpq_a T, tpq_b T, tpq_c T, tpq_d T, tpq_e T, tpq_f T, tpq_g T, tpq_h T, tpq_i T, tpq_j T, tpq_k T, tpq_l T, tpq_m T, hn]; first | done | rfl | omega)) rfl rfl ?_
  refine wp_iconst dX9_split_10 ?_
  refine wp_istore_n rfl dX9_split_11 rfl (Nat.le_of_ble_eq_true rfl) rfl ?_
  try simp only [List.set_cons_zero, List.set_cons_succ]
  refine wp_iconst dX9_split_12 ?_
  refine wp_istore_n rfl dX9_split_13 rfl (Nat.le_of_ble_eq_true rfl) rfl ?_
  try simp only [List.set_cons_zero, List.set_cons_succ]
  exact loop 0 (by omega) _ ⟨fun x k q => by rw [up2_ne (by omega), up2_ne (by omega)], by rw [up2_ne (by omega), up2_eq]; rfl, by rw [up2_eq]; rfl, fun i hi => absurd hi (Nat.not_lt_zero i), fun i hi => absurd hi (Nat.not_lt_zero i)⟩
theorem eTk_tok {h g : mH} {tc tb : Int} {f : Int → Int} {N : Nat} (E : eTk h g tc tb f N) {i : Nat} (hi : i ≤ N) : g (tb + 1) i = tk f i := (E.2.2.2 i hi).1
theorem tk_in {f : Int → Int} {i : Nat} : InI (tk f i) := by
  have : 0 ≤ tk f i ∧ tk f i ≤ 23 := tK_b
  exact ⟨by omega, by omega⟩
theorem s_X9_token {u : gT} {h g : mH} {d b : Nat} {tc tb n : Int} {f : Int → Int} {N i : Nat} (TG : tF g tc tb n f) (E : eTk h g tc tb f N) (hi : i ≤ N) : Det (gX (gq u)) MX9_token d b [(2, tc), (0, (i : Int))] g (0, tk f i) g := by
  intro Q hQ
  obtain ⟨hcb, T, hn, F, hB⟩ := id TG
  have hn2 := F.2.1
  have hN := isN_b F E.2.2.1
  have g5 := E.2.1
  have C := E.2.2.2 i hi
  show WP (gX (gq u)) MX9_token d b Q 0 [(2, tc), (0, (i : Int))] [] g
  refine wp_iload_n rfl rfl dX9_token_0 ?_
  refine wp_if_lt (tgt := 21) (by first | assumption | exact bI_in _ | exact ⟨by omega, by omega⟩ | exact iAnd_in | exact iOr_in | exact iShr_in | exact iShl_in | exact iXor_in | exact hxs _) dX9_token_1 (by decide) (fun c1 => ?_) (fun c1 => ?_)
  · refine wp_bipush (by decide) dX9_token_21 ?_
    refine wp_iret dX9_token_23 rfl ?_
    first | exact hQ | (exfalso; omega) | (rw [C.1]; exact hQ)
  · refine wp_iload_n rfl rfl dX9_token_4 ?_
    refine wp_aload_n rfl rfl dX9_token_5 ?_
    refine wp_getfield1 (z := 10) (kI := 5) fX9_43 dX9_token_6 (by first | omega | (simp (disch := omega) only [up2_ne, up2_eq, tpq_a T, tpq_b T, tpq_c T, tpq_d T, tpq_e T, tpq_f T, tpq_g T, tpq_h T, tpq_i T, tpq_j T, tpq_k T, tpq_l T, tpq_m T, hn, g5]; first | done | omega)) (by first | assumption | (simp (disch := omega) only [up2_ne, up2_eq, tpq_a T, tpq_b T, tpq_c T, tpq_d T, tpq_e T, tpq_f T, tpq_g T, tpq_h T, tpq_i T, tpq_j T, tpq_k T, tpq_l T, tpq_m T, hn, g5]; first | done | rfl | omega)) rfl rfl ?_
    try simp (disch := omega) only [up2_ne, up2_eq, tpq_a T, tpq_b T, tpq_c T, tpq_d T, tpq_e T, tpq_f T, tpq_g T, tpq_h T, tpq_i T, tpq_j T, tpq_k T, tpq_l T, tpq_m T, hn, g5]
    refine wp_icmp_ge (tgt := 21) (by first | assumption | exact bI_in _ | exact ⟨by omega, by omega⟩ | exact iAnd_in | exact iOr_in | exact iShr_in | exact iShl_in | exact iXor_in | exact hxs _) (by first | assumption | exact bI_in _ | exact ⟨by omega, by omega⟩ | exact iAnd_in | exact iOr_in | exact iShr_in | exact iShl_in | exact iXor_in | exact hxs _) dX9_token_9 (by decide) (fun c2 => ?_) (fun c2 => ?_)
    · refine wp_bipush (by decide) dX9_token_21 ?_
      refine wp_iret dX9_token_23 rfl ?_
      first | exact hQ | (exfalso; omega) | (rw [C.1]; exact hQ)
    · refine wp_aload_n rfl rfl dX9_token_12 ?_
      refine wp_getfield1 (z := 10) (kI := 2) fX9_15 dX9_token_13 (by first | omega | (simp (disch := omega) only [up2_ne, up2_eq, tpq_a T, tpq_b T, tpq_c T, tpq_d T, tpq_e T, tpq_f T, tpq_g T, tpq_h T, tpq_i T, tpq_j T, tpq_k T, tpq_l T, tpq_m T, hn, g5]; first | done | omega)) (by first | assumption | (simp (disch := omega) only [up2_ne, up2_eq, tpq_a T, tpq_b T, tpq_c T, tpq_d T, tpq_e T, tpq_f T, tpq_g T, tpq_h T, tpq_i T, tpq_j T, tpq_k T, tpq_l T, tpq_m T, hn, g5]; first | done | rfl | omega)) rfl rfl ?_
      try simp (disch := omega) only [up2_ne, up2_eq, tpq_a T, tpq_b T, tpq_c T, tpq_d T, tpq_e T, tpq_f T, tpq_g T, tpq_h T, tpq_i T, tpq_j T, tpq_k T, tpq_l T, tpq_m T, hn, g5]
      refine wp_iload_n rfl rfl dX9_token_16 ?_
      refine wp_iaload1 dX9_token_17 (by first | omega | (simp (disch := omega) only [up2_ne, up2_eq, tpq_a T, tpq_b T, tpq_c T, tpq_d T, tpq_e T, tpq_f T, tpq_g T, tpq_h T, tpq_i T, tpq_j T, tpq_k T, tpq_l T, tpq_m T, hn, g5]; first | done | omega)) (by first | assumption | (simp (disch := omega) only [up2_ne, up2_eq, tpq_a T, tpq_b T, tpq_c T, tpq_d T, tpq_e T, tpq_f T, tpq_g T, tpq_h T, tpq_i T, tpq_j T, tpq_k T, tpq_l T, tpq_m T, hn, g5]; first | done | rfl | omega)) (by first | omega | (simp (disch := omega) only [up2_ne, up2_eq, tpq_a T, tpq_b T, tpq_c T, tpq_d T, tpq_e T, tpq_f T, tpq_g T, tpq_h T, tpq_i T, tpq_j T, tpq_k T, tpq_l T, tpq_m T, hn, g5]; first | done | omega)) (by first | omega | (simp (disch := omega) only [up2_ne, up2_eq, tpq_a T, tpq_b T, tpq_c T, tpq_d T, tpq_e T, tpq_f T, tpq_g T, tpq_h T, tpq_i T, tpq_j T, tpq_k T, tpq_l T, tpq_m T, hn, g5]; first | done | omega)) ?_
      try simp (disch := omega) only [up2_ne, up2_eq, tpq_a T, tpq_b T, tpq_c T, tpq_d T, tpq_e T, tpq_f T, tpq_g T, tpq_h T, tpq_i T, tpq_j T, tpq_k T, tpq_l T, tpq_m T, hn, g5]
      refine wp_goto (tgt := 23) dX9_token_18 (by decide) ?_
      refine wp_iret dX9_token_23 rfl ?_
      first | exact hQ | (exfalso; omega) | (rw [C.1]; exact hQ)
theorem s_X9_placeOf {u : gT} {h g : mH} {d b : Nat} {tc tb n : Int} {f : Int → Int} {N i : Nat} (TG : tF g tc tb n f) (E : eTk h g tc tb f N) (hi : i ≤ N) : Det (gX (gq u)) MX9_placeOf (d + 1) b [(2, tc), (0, (i : Int))] g (0, tB f (tP f i)) g := by
  intro Q hQ
  obtain ⟨hcb, T, hn, F, hB⟩ := id TG
  have hn2 := F.2.1
  have hN := isN_b F E.2.2.1
  have g5 := E.2.1
  have C := E.2.2.2 i hi
  show WP (gX (gq u)) MX9_placeOf (d + 1) b Q 0 [(2, tc), (0, (i : Int))] [] g
  refine wp_iload_n rfl rfl dX9_placeOf_0 ?_
  refine wp_iconst dX9_placeOf_1 ?_
  refine wp_aload_n rfl rfl dX9_placeOf_2 ?_
  refine wp_getfield1 (z := 10) (kI := 5) fX9_43 dX9_placeOf_3 (by first | omega | (simp (disch := omega) only [up2_ne, up2_eq, tpq_a T, tpq_b T, tpq_c T, tpq_d T, tpq_e T, tpq_f T, tpq_g T, tpq_h T, tpq_i T, tpq_j T, tpq_k T, tpq_l T, tpq_m T, hn, g5]; first | done | omega)) (by first | assumption | (simp (disch := omega) only [up2_ne, up2_eq, tpq_a T, tpq_b T, tpq_c T, tpq_d T, tpq_e T, tpq_f T, tpq_g T, tpq_h T, tpq_i T, tpq_j T, tpq_k T, tpq_l T, tpq_m T, hn, g5]; first | done | rfl | omega)) rfl rfl ?_
  try simp (disch := omega) only [up2_ne, up2_eq, tpq_a T, tpq_b T, tpq_c T, tpq_d T, tpq_e T, tpq_f T, tpq_g T, tpq_h T, tpq_i T, tpq_j T, tpq_k T, tpq_l T, tpq_m T, hn, g5]
  refine wp_iconst dX9_placeOf_6 ?_
  refine wp_isub dX9_placeOf_7 ?_
  refine wp_cSN3 okX11_isWithin wX9_63 dX9_placeOf_8 rfl (Nat.le_of_ble_eq_true rfl) (Nat.le_of_ble_eq_true rfl) (s_X11_isWithin ⟨by omega, by omega⟩ In0 ⟨by omega, by omega⟩) (Nat.zero_le _) ?_
  try simp (disch := omega) only [up2_ne, up2_eq, tpq_a T, tpq_b T, tpq_c T, tpq_d T, tpq_e T, tpq_f T, tpq_g T, tpq_h T, tpq_i T, tpq_j T, tpq_k T, tpq_l T, tpq_m T, hn, g5]
  refine wp_ifB_eq (tgt := 23) dX9_placeOf_11 (by decide) (fun c1 => ?_) (fun c1 => ?_)
  · refine wp_aload_n rfl rfl dX9_placeOf_23 ?_
    refine wp_getfield1 (z := 10) (kI := 1) fX9_25 dX9_placeOf_24 (by first | omega | (simp (disch := omega) only [up2_ne, up2_eq, tpq_a T, tpq_b T, tpq_c T, tpq_d T, tpq_e T, tpq_f T, tpq_g T, tpq_h T, tpq_i T, tpq_j T, tpq_k T, tpq_l T, tpq_m T, hn, g5]; first | done | omega)) (by first | assumption | (simp (disch := omega) only [up2_ne, up2_eq, tpq_a T, tpq_b T, tpq_c T, tpq_d T, tpq_e T, tpq_f T, tpq_g T, tpq_h T, tpq_i T, tpq_j T, tpq_k T, tpq_l T, tpq_m T, hn, g5]; first | done | rfl | omega)) rfl rfl ?_
    try simp (disch := omega) only [up2_ne, up2_eq, tpq_a T, tpq_b T, tpq_c T, tpq_d T, tpq_e T, tpq_f T, tpq_g T, tpq_h T, tpq_i T, tpq_j T, tpq_k T, tpq_l T, tpq_m T, hn, g5]
    refine wp_iret dX9_placeOf_27 rfl ?_
    first | exact hQ | (exfalso; omega) | (rw [C.2.1]; exact hQ)
  · refine wp_aload_n rfl rfl dX9_placeOf_14 ?_
    refine wp_getfield1 (z := 10) (kI := 3) fX9_19 dX9_placeOf_15 (by first | omega | (simp (disch := omega) only [up2_ne, up2_eq, tpq_a T, tpq_b T, tpq_c T, tpq_d T, tpq_e T, tpq_f T, tpq_g T, tpq_h T, tpq_i T, tpq_j T, tpq_k T, tpq_l T, tpq_m T, hn, g5]; first | done | omega)) (by first | assumption | (simp (disch := omega) only [up2_ne, up2_eq, tpq_a T, tpq_b T, tpq_c T, tpq_d T, tpq_e T, tpq_f T, tpq_g T, tpq_h T, tpq_i T, tpq_j T, tpq_k T, tpq_l T, tpq_m T, hn, g5]; first | done | rfl | omega)) rfl rfl ?_
    try simp (disch := omega) only [up2_ne, up2_eq, tpq_a T, tpq_b T, tpq_c T, tpq_d T, tpq_e T, tpq_f T, tpq_g T, tpq_h T, tpq_i T, tpq_j T, tpq_k T, tpq_l T, tpq_m T, hn, g5]
    refine wp_iload_n rfl rfl dX9_placeOf_18 ?_
    refine wp_iaload1 dX9_placeOf_19 (by first | omega | (simp (disch := omega) only [up2_ne, up2_eq, tpq_a T, tpq_b T, tpq_c T, tpq_d T, tpq_e T, tpq_f T, tpq_g T, tpq_h T, tpq_i T, tpq_j T, tpq_k T, tpq_l T, tpq_m T, hn, g5]; first | done | omega)) (by first | assumption | (simp (disch := omega) only [up2_ne, up2_eq, tpq_a T, tpq_b T, tpq_c T, tpq_d T, tpq_e T, tpq_f T, tpq_g T, tpq_h T, tpq_i T, tpq_j T, tpq_k T, tpq_l T, tpq_m T, hn, g5]; first | done | rfl | omega)) (by first | omega | (simp (disch := omega) only [up2_ne, up2_eq, tpq_a T, tpq_b T, tpq_c T, tpq_d T, tpq_e T, tpq_f T, tpq_g T, tpq_h T, tpq_i T, tpq_j T, tpq_k T, tpq_l T, tpq_m T, hn, g5]; first | done | omega)) (by first | omega | (simp (disch := omega) only [up2_ne, up2_eq, tpq_a T, tpq_b T, tpq_c T, tpq_d T, tpq_e T, tpq_f T, tpq_g T, tpq_h T, tpq_i T, tpq_j T, tpq_k T, tpq_l T, tpq_m T, hn, g5]; first | done | omega)) ?_
    try simp (disch := omega) only [up2_ne, up2_eq, tpq_a T, tpq_b T, tpq_c T, tpq_d T, tpq_e T, tpq_f T, tpq_g T, tpq_h T, tpq_i T, tpq_j T, tpq_k T, tpq_l T, tpq_m T, hn, g5]
    refine wp_goto (tgt := 27) dX9_placeOf_20 (by decide) ?_
    refine wp_iret dX9_placeOf_27 rfl ?_
    first | exact hQ | (exfalso; omega) | (rw [C.2.1]; exact hQ)
theorem s_X9_numberAt {u : gT} {h g : mH} {d b : Nat} {tc tb n : Int} {f : Int → Int} {N i : Nat} (TG : tF g tc tb n f) (E : eTk h g tc tb f N) (hi : i ≤ N) (h13 : tk f i = 13) : Det (gX (gq u)) MX9_numberAt (d + 1) b [(2, tc), (0, (i : Int))] g (0, tN f (tP f i)) g := by
  intro Q hQ
  obtain ⟨hcb, T, hn, F, hB⟩ := id TG
  have hn2 := F.2.1
  have hN := isN_b F E.2.2.1
  have g5 := E.2.1
  have C := E.2.2.2 i hi
  show WP (gX (gq u)) MX9_numberAt (d + 1) b Q 0 [(2, tc), (0, (i : Int))] [] g
  refine wp_iload_n rfl rfl dX9_numberAt_0 ?_
  refine wp_iconst dX9_numberAt_1 ?_
  refine wp_aload_n rfl rfl dX9_numberAt_2 ?_
  refine wp_getfield1 (z := 10) (kI := 5) fX9_43 dX9_numberAt_3 (by first | omega | (simp (disch := omega) only [up2_ne, up2_eq, tpq_a T, tpq_b T, tpq_c T, tpq_d T, tpq_e T, tpq_f T, tpq_g T, tpq_h T, tpq_i T, tpq_j T, tpq_k T, tpq_l T, tpq_m T, hn, g5]; first | done | omega)) (by first | assumption | (simp (disch := omega) only [up2_ne, up2_eq, tpq_a T, tpq_b T, tpq_c T, tpq_d T, tpq_e T, tpq_f T, tpq_g T, tpq_h T, tpq_i T, tpq_j T, tpq_k T, tpq_l T, tpq_m T, hn, g5]; first | done | rfl | omega)) rfl rfl ?_
  try simp (disch := omega) only [up2_ne, up2_eq, tpq_a T, tpq_b T, tpq_c T, tpq_d T, tpq_e T, tpq_f T, tpq_g T, tpq_h T, tpq_i T, tpq_j T, tpq_k T, tpq_l T, tpq_m T, hn, g5]
  refine wp_iconst dX9_numberAt_6 ?_
  refine wp_isub dX9_numberAt_7 ?_
  refine wp_cSN3 okX11_isWithin wX9_63 dX9_numberAt_8 rfl (Nat.le_of_ble_eq_true rfl) (Nat.le_of_ble_eq_true rfl) (s_X11_isWithin ⟨by omega, by omega⟩ In0 ⟨by omega, by omega⟩) (Nat.zero_le _) ?_
  try simp (disch := omega) only [up2_ne, up2_eq, tpq_a T, tpq_b T, tpq_c T, tpq_d T, tpq_e T, tpq_f T, tpq_g T, tpq_h T, tpq_i T, tpq_j T, tpq_k T, tpq_l T, tpq_m T, hn, g5]
  refine wp_ifB_eq (tgt := 23) dX9_numberAt_11 (by decide) (fun c1 => ?_) (fun c1 => ?_)
  · refine wp_iconst dX9_numberAt_23 ?_
    refine wp_iret dX9_numberAt_24 rfl ?_
    first | exact hQ | (exfalso; omega) | (rw [C.2.2 h13]; exact hQ)
  · refine wp_aload_n rfl rfl dX9_numberAt_14 ?_
    refine wp_getfield1 (z := 10) (kI := 4) fX9_22 dX9_numberAt_15 (by first | omega | (simp (disch := omega) only [up2_ne, up2_eq, tpq_a T, tpq_b T, tpq_c T, tpq_d T, tpq_e T, tpq_f T, tpq_g T, tpq_h T, tpq_i T, tpq_j T, tpq_k T, tpq_l T, tpq_m T, hn, g5]; first | done | omega)) (by first | assumption | (simp (disch := omega) only [up2_ne, up2_eq, tpq_a T, tpq_b T, tpq_c T, tpq_d T, tpq_e T, tpq_f T, tpq_g T, tpq_h T, tpq_i T, tpq_j T, tpq_k T, tpq_l T, tpq_m T, hn, g5]; first | done | rfl | omega)) rfl rfl ?_
    try simp (disch := omega) only [up2_ne, up2_eq, tpq_a T, tpq_b T, tpq_c T, tpq_d T, tpq_e T, tpq_f T, tpq_g T, tpq_h T, tpq_i T, tpq_j T, tpq_k T, tpq_l T, tpq_m T, hn, g5]
    refine wp_iload_n rfl rfl dX9_numberAt_18 ?_
    refine wp_iaload1 dX9_numberAt_19 (by first | omega | (simp (disch := omega) only [up2_ne, up2_eq, tpq_a T, tpq_b T, tpq_c T, tpq_d T, tpq_e T, tpq_f T, tpq_g T, tpq_h T, tpq_i T, tpq_j T, tpq_k T, tpq_l T, tpq_m T, hn, g5]; first | done | omega)) (by first | assumption | (simp (disch := omega) only [up2_ne, up2_eq, tpq_a T, tpq_b T, tpq_c T, tpq_d T, tpq_e T, tpq_f T, tpq_g T, tpq_h T, tpq_i T, tpq_j T, tpq_k T, tpq_l T, tpq_m T, hn, g5]; first | done | rfl | omega)) (by first | omega | (simp (disch := omega) only [up2_ne, up2_eq, tpq_a T, tpq_b T, tpq_c T, tpq_d T, tpq_e T, tpq_f T, tpq_g T, tpq_h T, tpq_i T, tpq_j T, tpq_k T, tpq_l T, tpq_m T, hn, g5]; first | done | omega)) (by first | omega | (simp (disch := omega) only [up2_ne, up2_eq, tpq_a T, tpq_b T, tpq_c T, tpq_d T, tpq_e T, tpq_f T, tpq_g T, tpq_h T, tpq_i T, tpq_j T, tpq_k T, tpq_l T, tpq_m T, hn, g5]; first | done | omega)) ?_
    try simp (disch := omega) only [up2_ne, up2_eq, tpq_a T, tpq_b T, tpq_c T, tpq_d T, tpq_e T, tpq_f T, tpq_g T, tpq_h T, tpq_i T, tpq_j T, tpq_k T, tpq_l T, tpq_m T, hn, g5]
    refine wp_goto (tgt := 24) dX9_numberAt_20 (by decide) ?_
    refine wp_iret dX9_numberAt_24 rfl ?_
    first | exact hQ | (exfalso; omega) | (rw [C.2.2 h13]; exact hQ)
