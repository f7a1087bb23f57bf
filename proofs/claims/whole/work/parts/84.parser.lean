/-! ===== text: the class's parser, its small methods ===== -/
def Tx (h : mH) (x : Int) : Prop := h (40 + x) (-1) = 11 ∧ h (40 + x) 0 = 50 + x ∧ h (40 + x) 1 = 60 + x ∧ h (50 + x) (-1) = 20 ∧ h (50 + x) (-2) = 160 ∧ h (60 + x) (-1) = 20 ∧ h (60 + x) (-2) = 3
theorem txq_a {h : mH} {x : Int} (X : Tx h x) : h (40 + x) (-1) = 11 := X.1
theorem txq_b {h : mH} {x : Int} (X : Tx h x) : h (40 + x) 0 = 50 + x := X.2.1
theorem txq_c {h : mH} {x : Int} (X : Tx h x) : h (40 + x) 1 = 60 + x := X.2.2.1
theorem txq_d {h : mH} {x : Int} (X : Tx h x) : h (50 + x) (-1) = 20 := X.2.2.2.1
theorem txq_e {h : mH} {x : Int} (X : Tx h x) : h (50 + x) (-2) = 160 := X.2.2.2.2.1
theorem txq_f {h : mH} {x : Int} (X : Tx h x) : h (60 + x) (-1) = 20 := X.2.2.2.2.2.1
theorem txq_g {h : mH} {x : Int} (X : Tx h x) : h (60 + x) (-2) = 3 := X.2.2.2.2.2.2
theorem Tx_cg {h g : mH} {x : Int} (X : Tx h x) (e : ∀ y k : Int, (y = 40 + x ∧ k ≤ 2) ∨ (y = 50 + x ∧ k < 0) ∨ (y = 60 + x ∧ k < 0) → g y k = h y k) : Tx g x := by
  refine ⟨?_, ?_, ?_, ?_, ?_, ?_, ?_⟩
  · rw [e _ _ (by omega)]; exact txq_a X
  · rw [e _ _ (by omega)]; exact txq_b X
  · rw [e _ _ (by omega)]; exact txq_c X
  · rw [e _ _ (by omega)]; exact txq_d X
  · rw [e _ _ (by omega)]; exact txq_e X
  · rw [e _ _ (by omega)]; exact txq_f X
  · rw [e _ _ (by omega)]; exact txq_g X
/-- tape with tokens, parser, text -/
def qC (g : mH) (tc tb pa x n : Int) (f : Int → Int) (N : Nat) : Prop := tF g tc tb n f ∧ eTk g g tc tb f N ∧ ((pa = 8 ∨ pa = 35) ∧ g pa (-1) = 6) ∧ (0 ≤ x ∧ x < 6) ∧ Tx g x
abbrev qfr (g g' : mH) (pa x s : Int) : Prop := ∀ y k : Int, ¬ (0 ≤ k ∧ (y = pa ∨ (y = 40 + x ∧ k = 3) ∨ (y = 50 + x ∧ s ≤ k))) → g' y k = g y k
/-- how the parser stands: at a fault, or at a token with the code so far -/
def qS (g : mH) (pa x s : Int) (op N : Nat) : pR → Prop
  | .inl j => g pa 2 = j ∧ j ≤ N ∧ 0 ≤ s ∧ s ≤ g (40 + x) 3 ∧ g (40 + x) 3 ≤ 160
  | .inr y => g pa 0 = y.1 ∧ g pa 1 = op ∧ g pa 2 = -1 ∧ g (40 + x) 3 = s + y.2.length ∧ 0 ≤ s ∧ s + y.2.length ≤ 160 ∧ ∀ k : Nat, k < y.2.length → g (50 + x) (s + k) = y.2.getD k 0
noncomputable def cu (f : Int → Int) : pR → Int
  | .inl _ => 23
  | .inr y => tk f y.1
theorem cu_b {f : Int → Int} {st : pR} : 0 ≤ cu f st ∧ cu f st ≤ 23 := by
  rcases st with j | y
  · show (0 : Int) ≤ 23 ∧ (23 : Int) ≤ 23
    decide
  · exact tK_b
theorem qfr_trans {g g1 g2 : mH} {pa x s : Int} (h1 : qfr g g1 pa x s) (h2 : qfr g1 g2 pa x s) : qfr g g2 pa x s := fun y k q => by rw [h2 y k q, h1 y k q]
theorem qC_cg {g g' : mH} {tc tb pa x n : Int} {f : Int → Int} {N : Nat} (C : qC g tc tb pa x n f N) (e : ∀ y k : Int, ¬ (0 ≤ k ∧ (y = pa ∨ (y = 40 + x ∧ k = 3) ∨ y = 50 + x ∨ y = 60 + x)) → g' y k = g y k) : qC g' tc tb pa x n f N := by
  obtain ⟨c1, c2, c3, c4, c5⟩ := C
  have hcb := c1.1
  refine ⟨tF_cg c1 (fun y k q => e y k (by omega)), ⟨fun _ _ _ => rfl, by rw [e _ _ (by omega)]; exact c2.2.1, c2.2.2.1, fun i hi => ?_⟩, ⟨c3.1, by rw [e _ _ (by omega)]; exact c3.2⟩, c4, Tx_cg c5 (fun y k q => e y k (by omega))⟩
  have h := c2.2.2.2 i hi
  refine ⟨by rw [e _ _ (by omega)]; exact h.1, by rw [e _ _ (by omega)]; exact h.2.1, fun q => by rw [e _ _ (by omega)]; exact h.2.2 q⟩
theorem qC_fr {g g' : mH} {tc tb pa x n s : Int} {f : Int → Int} {N : Nat} (C : qC g tc tb pa x n f N) (K : qfr g g' pa x s) : qC g' tc tb pa x n f N := qC_cg C (fun y k q => K y k (by omega))
theorem qC_N {g : mH} {tc tb pa x n : Int} {f : Int → Int} {N : Nat} (C : qC g tc tb pa x n f N) : (N : Int) ≤ n ∧ n ≤ 160 := ⟨isN_b C.1.2.2.2.1 C.2.1.2.2.1, C.1.2.2.2.1.2.1⟩
theorem qC_tok {g : mH} {tc tb pa x n : Int} {f : Int → Int} {N : Nat} (C : qC g tc tb pa x n f N) : TOK (tk f) (fun i => tN f (tP f i)) N := by
  have F := C.1.2.2.2.1
  have hN := qC_N C
  exact ⟨by omega, fun i => tK_b, C.2.1.2.2.1.1, C.2.1.2.2.1.2, fun i q => by
    have hp := tP_b F i
    have := tN_b F hp.1 hp.2 q
    exact ⟨this.1, this.2.1⟩⟩
theorem cur_t {u : gT} {g : mH} {d b : Nat} {tc tb pa x n : Int} {f : Int → Int} {N : Nat} (C : qC g tc tb pa x n f N) {i : Nat} (hi : i ≤ N) (h0 : g pa 0 = i) (h2 : g pa 2 = -1) : Det (gX (gq u)) MX5_current (d + 1) b [(2, pa), (2, tc)] g (0, tk f i) g := by
  intro Q hQ
  have hcb := C.1.1
  have T := C.1.2.1
  have hpa := C.2.2.1.1
  have h6 := C.2.2.1.2
  have hx := C.2.2.2.1
  have X := C.2.2.2.2
  have hN := qC_N C
  show WP (gX (gq u)) MX5_current (d + 1) b Q 0 [(2, pa), (2, tc)] [] g
  refine wp_aload_n rfl rfl dX5_current_0 ?_
  refine wp_getfield1 (z := 6) (kI := 2) fX5_28 dX5_current_1 (by first | omega | (simp (disch := omega) only [up2_ne, up2_eq, tpq_a T, h6, txq_a X, txq_b X, txq_c X, txq_d X, txq_e X, txq_f X, txq_g X, h0, h2]; first | done | omega)) (by first | assumption | (simp (disch := omega) only [up2_ne, up2_eq, tpq_a T, h6, txq_a X, txq_b X, txq_c X, txq_d X, txq_e X, txq_f X, txq_g X, h0, h2]; first | done | rfl | omega)) rfl rfl ?_
  try simp (disch := omega) only [up2_ne, up2_eq, tpq_a T, h6, txq_a X, txq_b X, txq_c X, txq_d X, txq_e X, txq_f X, txq_g X, h0, h2]
  refine wp_iconst dX5_current_4 ?_
  refine wp_icmp_ne (tgt := 19) (by first | assumption | exact bI_in _ | exact ⟨by omega, by omega⟩ | exact iAnd_in | exact iOr_in | exact iShr_in | exact iShl_in | exact iXor_in | exact hxs _) (by first | assumption | exact bI_in _ | exact ⟨by omega, by omega⟩ | exact iAnd_in | exact iOr_in | exact iShr_in | exact iShl_in | exact iXor_in | exact hxs _) dX5_current_5 (by decide) (fun c1 => ?_) (fun c1 => ?_)
  · refine wp_bipush (by decide) dX5_current_19 ?_
    refine wp_iret dX5_current_21 rfl ?_
    first | exact hQ | (exfalso; omega)
  · refine wp_aload_n rfl rfl dX5_current_8 ?_
    refine wp_aload_n rfl rfl dX5_current_9 ?_
    refine wp_getfield1 (z := 6) (kI := 0) fX5_19 dX5_current_10 (by first | omega | (simp (disch := omega) only [up2_ne, up2_eq, tpq_a T, h6, txq_a X, txq_b X, txq_c X, txq_d X, txq_e X, txq_f X, txq_g X, h0, h2]; first | done | omega)) (by first | assumption | (simp (disch := omega) only [up2_ne, up2_eq, tpq_a T, h6, txq_a X, txq_b X, txq_c X, txq_d X, txq_e X, txq_f X, txq_g X, h0, h2]; first | done | rfl | omega)) rfl rfl ?_
    try simp (disch := omega) only [up2_ne, up2_eq, tpq_a T, h6, txq_a X, txq_b X, txq_c X, txq_d X, txq_e X, txq_f X, txq_g X, h0, h2]
    refine wp_cV1 (ci := 9) okX9_token rfl rfl wX5_74 dX5_current_13 rfl (Nat.le_of_ble_eq_true rfl) (Nat.le_of_ble_eq_true rfl) (by first | omega | (simp (disch := omega) only [up2_ne, up2_eq, tpq_a T, h6, txq_a X, txq_b X, txq_c X, txq_d X, txq_e X, txq_f X, txq_g X, h0, h2]; first | done | omega)) (by first | assumption | (simp (disch := omega) only [up2_ne, up2_eq, tpq_a T, h6, txq_a X, txq_b X, txq_c X, txq_d X, txq_e X, txq_f X, txq_g X, h0, h2]; first | done | rfl | omega)) (s_X9_token C.1 C.2.1 hi) (Nat.zero_le _) ?_
    try simp (disch := omega) only [up2_ne, up2_eq, tpq_a T, h6, txq_a X, txq_b X, txq_c X, txq_d X, txq_e X, txq_f X, txq_g X, h0, h2]
    refine wp_goto (tgt := 21) dX5_current_16 (by decide) ?_
    refine wp_iret dX5_current_21 rfl ?_
    first | exact hQ | (exfalso; omega)
theorem cur_f {u : gT} {g : mH} {d b : Nat} {tc tb pa x n : Int} {f : Int → Int} {N : Nat} (C : qC g tc tb pa x n f N) {j : Nat} (hj : j ≤ N) (h2 : g pa 2 = j) : Det (gX (gq u)) MX5_current (d + 1) b [(2, pa), (2, tc)] g (0, 23) g := by
  intro Q hQ
  have hcb := C.1.1
  have T := C.1.2.1
  have hpa := C.2.2.1.1
  have h6 := C.2.2.1.2
  have hx := C.2.2.2.1
  have X := C.2.2.2.2
  have hN := qC_N C
  show WP (gX (gq u)) MX5_current (d + 1) b Q 0 [(2, pa), (2, tc)] [] g
  refine wp_aload_n rfl rfl dX5_current_0 ?_
  refine wp_getfield1 (z := 6) (kI := 2) fX5_28 dX5_current_1 (by first | omega | (simp (disch := omega) only [up2_ne, up2_eq, tpq_a T, h6, txq_a X, txq_b X, txq_c X, txq_d X, txq_e X, txq_f X, txq_g X, h2]; first | done | omega)) (by first | assumption | (simp (disch := omega) only [up2_ne, up2_eq, tpq_a T, h6, txq_a X, txq_b X, txq_c X, txq_d X, txq_e X, txq_f X, txq_g X, h2]; first | done | rfl | omega)) rfl rfl ?_
  try simp (disch := omega) only [up2_ne, up2_eq, tpq_a T, h6, txq_a X, txq_b X, txq_c X, txq_d X, txq_e X, txq_f X, txq_g X, h2]
  refine wp_iconst dX5_current_4 ?_
  refine wp_icmp_ne (tgt := 19) (by first | assumption | exact bI_in _ | exact ⟨by omega, by omega⟩ | exact iAnd_in | exact iOr_in | exact iShr_in | exact iShl_in | exact iXor_in | exact hxs _) (by first | assumption | exact bI_in _ | exact ⟨by omega, by omega⟩ | exact iAnd_in | exact iOr_in | exact iShr_in | exact iShl_in | exact iXor_in | exact hxs _) dX5_current_5 (by decide) (fun c1 => ?_) (fun c1 => ?_)
  · refine wp_bipush (by decide) dX5_current_19 ?_
    refine wp_iret dX5_current_21 rfl ?_
    first | exact hQ | (exfalso; omega)
  · exfalso; omega
theorem cur_row {u : gT} {g : mH} {d b : Nat} {tc tb pa x n : Int} {f : Int → Int} {N : Nat} (C : qC g tc tb pa x n f N) {s : Int} {op : Nat} {st : pR} (S : qS g pa x s op N st) (hi : ∀ y, st = .inr y → y.1 ≤ N) : Det (gX (gq u)) MX5_current (d + 1) b [(2, pa), (2, tc)] g (0, cu f st) g := by
  rcases st with j | y
  · exact cur_f C S.2.1 S.1
  · exact cur_t C (hi y rfl) S.1 S.2.2.1
theorem fail_t {u : gT} {g : mH} {d b : Nat} {pa i : Int} (hpa : pa = 8 ∨ pa = 35) (h6 : g pa (-1) = 6) (h0 : g pa 0 = i) (h2 : g pa 2 = -1) : Det (gX (gq u)) MX5_fail d b [(2, pa)] g (9, 0) (up2 g pa 2 i) := by
  intro Q hQ
  show WP (gX (gq u)) MX5_fail d b Q 0 [(2, pa)] [] g
  refine wp_aload_n rfl rfl dX5_fail_0 ?_
  refine wp_getfield1 (z := 6) (kI := 2) fX5_28 dX5_fail_1 (by first | omega | (simp (disch := omega) only [up2_ne, up2_eq, h6, h0, h2]; first | done | omega)) (by first | assumption | (simp (disch := omega) only [up2_ne, up2_eq, h6, h0, h2]; first | done | rfl | omega)) rfl rfl ?_
  try simp (disch := omega) only [up2_ne, up2_eq, h6, h0, h2]
  refine wp_iconst dX5_fail_4 ?_
  refine wp_icmp_ne (tgt := 16) (by first | assumption | exact bI_in _ | exact ⟨by omega, by omega⟩ | exact iAnd_in | exact iOr_in | exact iShr_in | exact iShl_in | exact iXor_in | exact hxs _) (by first | assumption | exact bI_in _ | exact ⟨by omega, by omega⟩ | exact iAnd_in | exact iOr_in | exact iShr_in | exact iShl_in | exact iXor_in | exact hxs _) dX5_fail_5 (by decide) (fun c1 => ?_) (fun c1 => ?_)
  · refine wp_vret dX5_fail_16 rfl ?_
    first | exact hQ | (exfalso; omega)
  · refine wp_aload_n rfl rfl dX5_fail_8 ?_
    refine wp_aload_n rfl rfl dX5_fail_9 ?_
    refine wp_getfield1 (z := 6) (kI := 0) fX5_19 dX5_fail_10 (by first | omega | (simp (disch := omega) only [up2_ne, up2_eq, h6, h0, h2]; first | done | omega)) (by first | assumption | (simp (disch := omega) only [up2_ne, up2_eq, h6, h0, h2]; first | done | rfl | omega)) rfl rfl ?_
    try simp (disch := omega) only [up2_ne, up2_eq, h6, h0, h2]
    refine wp_putfield1 (z := 6) (kI := 2) fX5_28 dX5_fail_13 (by first | omega | (simp (disch := omega) only [up2_ne, up2_eq, h6, h0, h2]; first | done | omega)) (by first | assumption | (simp (disch := omega) only [up2_ne, up2_eq, h6, h0, h2]; first | done | rfl | omega)) rfl rfl ?_
    refine wp_vret dX5_fail_16 rfl ?_
    first | exact hQ | (exfalso; omega)
theorem fail_f {u : gT} {g : mH} {d b : Nat} {pa : Int} {j : Nat} (hpa : pa = 8 ∨ pa = 35) (h6 : g pa (-1) = 6) (hj : j ≤ 160) (h2 : g pa 2 = j) : Det (gX (gq u)) MX5_fail d b [(2, pa)] g (9, 0) g := by
  intro Q hQ
  show WP (gX (gq u)) MX5_fail d b Q 0 [(2, pa)] [] g
  refine wp_aload_n rfl rfl dX5_fail_0 ?_
  refine wp_getfield1 (z := 6) (kI := 2) fX5_28 dX5_fail_1 (by first | omega | (simp (disch := omega) only [up2_ne, up2_eq, h6, h2]; first | done | omega)) (by first | assumption | (simp (disch := omega) only [up2_ne, up2_eq, h6, h2]; first | done | rfl | omega)) rfl rfl ?_
  try simp (disch := omega) only [up2_ne, up2_eq, h6, h2]
  refine wp_iconst dX5_fail_4 ?_
  refine wp_icmp_ne (tgt := 16) (by first | assumption | exact bI_in _ | exact ⟨by omega, by omega⟩ | exact iAnd_in | exact iOr_in | exact iShr_in | exact iShl_in | exact iXor_in | exact hxs _) (by first | assumption | exact bI_in _ | exact ⟨by omega, by omega⟩ | exact iAnd_in | exact iOr_in | exact iShr_in | exact iShl_in | exact iXor_in | exact hxs _) dX5_fail_5 (by decide) (fun c1 => ?_) (fun c1 => ?_)
  · refine wp_vret dX5_fail_16 rfl ?_
    first | exact hQ | (exfalso; omega)
  · refine wp_aload_n rfl rfl dX5_fail_8 ?_
    refine wp_aload_n rfl rfl dX5_fail_9 ?_
    refine wp_getfield1 (z := 6) (kI := 0) fX5_19 dX5_fail_10 (by first | omega | (simp (disch := omega) only [up2_ne, up2_eq, h6, h2]; first | done | omega)) (by first | assumption | (simp (disch := omega) only [up2_ne, up2_eq, h6, h2]; first | done | rfl | omega)) rfl rfl ?_
    try simp (disch := omega) only [up2_ne, up2_eq, h6, h2]
    refine wp_putfield1 (z := 6) (kI := 2) fX5_28 dX5_fail_13 (by first | omega | (simp (disch := omega) only [up2_ne, up2_eq, h6, h2]; first | done | omega)) (by first | assumption | (simp (disch := omega) only [up2_ne, up2_eq, h6, h2]; first | done | rfl | omega)) rfl rfl ?_
    refine wp_vret dX5_fail_16 rfl ?_
    first | exact hQ | (exfalso; omega)
noncomputable def qX (f : Int → Int) (t : Int) : Nat → List Int → pR := fun i o => if tk f i = t then .inr (i + 1, o) else .inl i
theorem qS_at {g : mH} {pa x s : Int} {op N i : Nat} {o : List Int} (hx : 0 ≤ x ∧ x < 6) (hpa : pa = 8 ∨ pa = 35) (S : qS g pa x s op N (.inr (i, o))) : qS (up2 g pa 0 (i + 1)) pa x s op N (.inr (i + 1, o)) := by
  obtain ⟨s1, s2, s3, s4, s5, s6, s7⟩ := S
  refine ⟨by rw [up2_eq]; rfl, by rw [up2_ne (by omega)]; exact s2, by rw [up2_ne (by omega)]; exact s3, by rw [up2_ne (by omega)]; exact s4, s5, s6, fun k hk => by rw [up2_ne (by omega)]; exact s7 k hk⟩
theorem qS_fail {g : mH} {pa x s : Int} {op op' N i : Nat} {o : List Int} (hx : 0 ≤ x ∧ x < 6) (hpa : pa = 8 ∨ pa = 35) (hi : i ≤ N) (S : qS g pa x s op N (.inr (i, o))) : qS (up2 g pa 2 i) pa x s op' N (.inl i) := by
  obtain ⟨s1, s2, s3, s4, s5, s6, s7⟩ := S
  exact ⟨up2_eq, hi, s5, by rw [up2_ne (by omega)]; omega, by rw [up2_ne (by omega)]; omega⟩
theorem qfr_pa {g : mH} {pa x s k v : Int} (k0 : 0 ≤ k) : qfr g (up2 g pa k v) pa x s := fun y z q => by rw [up2_ne (by omega)]
theorem exp_t {u : gT} {g : mH} {d b : Nat} {tc tb pa x n : Int} {f : Int → Int} {N : Nat} (C : qC g tc tb pa x n f N) {s t : Int} {op i : Nat} {oo : List Int} (S : qS g pa x s op N (.inr (i, oo))) (hi : i ≤ N) (t0 : 0 ≤ t) (t1 : t ≤ 22) : Rlt (gX (gq u)) MX5_expect (d + 2) b [(2, pa), (2, tc), (0, t)] g (fun r g1 => r = (9, 0) ∧ qS g1 pa x s op N (bd (.inr (i, oo)) (qX f t)) ∧ qfr g g1 pa x s) := by
  refine Rlt.of ?_
  have hcb := C.1.1
  have T := C.1.2.1
  have hpa := C.2.2.1.1
  have h6 := C.2.2.1.2
  have hx := C.2.2.2.1
  have X := C.2.2.2.2
  have hN := qC_N C
  have h0 : g pa 0 = i := S.1
  have h2 := S.2.2.1
  have htk : 0 ≤ tk f i ∧ tk f i ≤ 23 := tK_b
  show WP (gX (gq u)) MX5_expect (d + 2) b _ 0 [(2, pa), (2, tc), (0, t)] [] g
  refine wp_aload_n rfl rfl dX5_expect_0 ?_
  refine wp_aload_n rfl rfl dX5_expect_1 ?_
  refine wp_cV1 (ci := 5) okX5_current rfl rfl wX5_51 dX5_expect_2 rfl (Nat.le_of_ble_eq_true rfl) (Nat.le_of_ble_eq_true rfl) (by first | omega | (simp (disch := omega) only [up2_ne, up2_eq, tpq_a T, h6, txq_a X, txq_b X, txq_c X, txq_d X, txq_e X, txq_f X, txq_g X, h0, h2]; first | done | omega)) (by first | assumption | (simp (disch := omega) only [up2_ne, up2_eq, tpq_a T, h6, txq_a X, txq_b X, txq_c X, txq_d X, txq_e X, txq_f X, txq_g X, h0, h2]; first | done | rfl | omega)) (cur_t C hi h0 h2) (Nat.zero_le _) ?_
  try simp (disch := omega) only [up2_ne, up2_eq, tpq_a T, h6, txq_a X, txq_b X, txq_c X, txq_d X, txq_e X, txq_f X, txq_g X, h0, h2]
  refine wp_iload_n rfl rfl dX5_expect_5 ?_
  refine wp_icmp_ne (tgt := 22) (by first | assumption | exact bI_in _ | exact ⟨by omega, by omega⟩ | exact iAnd_in | exact iOr_in | exact iShr_in | exact iShl_in | exact iXor_in | exact hxs _) (by first | assumption | exact bI_in _ | exact ⟨by omega, by omega⟩ | exact iAnd_in | exact iOr_in | exact iShr_in | exact iShl_in | exact iXor_in | exact hxs _) dX5_expect_6 (by decide) (fun c1 => ?_) (fun c1 => ?_)
  · refine wp_aload_n rfl rfl dX5_expect_22 ?_
    refine wp_cV0v (ci := 5) okX5_fail rfl rfl wX5_71 dX5_expect_23 (Nat.le_of_ble_eq_true rfl) (Nat.le_of_ble_eq_true rfl) (by first | omega | (simp (disch := omega) only [up2_ne, up2_eq, tpq_a T, h6, txq_a X, txq_b X, txq_c X, txq_d X, txq_e X, txq_f X, txq_g X, h0, h2]; first | done | omega)) (by first | assumption | (simp (disch := omega) only [up2_ne, up2_eq, tpq_a T, h6, txq_a X, txq_b X, txq_c X, txq_d X, txq_e X, txq_f X, txq_g X, h0, h2]; first | done | rfl | omega)) (fail_t hpa h6 h0 h2) (Nat.zero_le _) ?_
    try simp (disch := omega) only [up2_ne, up2_eq, tpq_a T, h6, txq_a X, txq_b X, txq_c X, txq_d X, txq_e X, txq_f X, txq_g X, h0, h2]
    refine wp_vret dX5_expect_26 rfl ?_
    first
      | (refine ⟨rfl, ?_, qfr_pa (by omega)⟩
         show qS _ pa x s op N (if tk f i = t then .inr (i + 1, oo) else .inl i)
         rw [if_neg (by omega)]
         exact qS_fail hx hpa hi S)
      | (refine ⟨rfl, ?_, qfr_pa (by omega)⟩
         show qS _ pa x s op N (if tk f i = t then .inr (i + 1, oo) else .inl i)
         rw [if_pos (by omega)]
         exact qS_at hx hpa S)
  · refine wp_aload_n rfl rfl dX5_expect_9 ?_
    refine wp_dup (by decide) dX5_expect_10 ?_
    refine wp_getfield1 (z := 6) (kI := 0) fX5_19 dX5_expect_11 (by first | omega | (simp (disch := omega) only [up2_ne, up2_eq, tpq_a T, h6, txq_a X, txq_b X, txq_c X, txq_d X, txq_e X, txq_f X, txq_g X, h0, h2]; first | done | omega)) (by first | assumption | (simp (disch := omega) only [up2_ne, up2_eq, tpq_a T, h6, txq_a X, txq_b X, txq_c X, txq_d X, txq_e X, txq_f X, txq_g X, h0, h2]; first | done | rfl | omega)) rfl rfl ?_
    try simp (disch := omega) only [up2_ne, up2_eq, tpq_a T, h6, txq_a X, txq_b X, txq_c X, txq_d X, txq_e X, txq_f X, txq_g X, h0, h2]
    refine wp_iconst dX5_expect_14 ?_
    refine wp_iadd dX5_expect_15 ?_
    refine wp_putfield1 (z := 6) (kI := 0) fX5_19 dX5_expect_16 (by first | omega | (simp (disch := omega) only [up2_ne, up2_eq, tpq_a T, h6, txq_a X, txq_b X, txq_c X, txq_d X, txq_e X, txq_f X, txq_g X, h0, h2]; first | done | omega)) (by first | assumption | (simp (disch := omega) only [up2_ne, up2_eq, tpq_a T, h6, txq_a X, txq_b X, txq_c X, txq_d X, txq_e X, txq_f X, txq_g X, h0, h2]; first | done | rfl | omega)) rfl rfl ?_
    refine wp_goto (tgt := 26) dX5_expect_19 (by decide) ?_
    refine wp_vret dX5_expect_26 rfl ?_
    first
      | (refine ⟨rfl, ?_, qfr_pa (by omega)⟩
         show qS _ pa x s op N (if tk f i = t then .inr (i + 1, oo) else .inl i)
         rw [if_neg (by omega)]
         exact qS_fail hx hpa hi S)
      | (refine ⟨rfl, ?_, qfr_pa (by omega)⟩
         show qS _ pa x s op N (if tk f i = t then .inr (i + 1, oo) else .inl i)
         rw [if_pos (by omega)]
         exact qS_at hx hpa S)
theorem exp_f {u : gT} {g : mH} {d b : Nat} {tc tb pa x n : Int} {f : Int → Int} {N : Nat} (C : qC g tc tb pa x n f N) {s t : Int} {op j : Nat} (S : qS g pa x s op N (.inl j)) (t0 : 0 ≤ t) (t1 : t ≤ 22) : Rlt (gX (gq u)) MX5_expect (d + 2) b [(2, pa), (2, tc), (0, t)] g (fun r g1 => r = (9, 0) ∧ qS g1 pa x s op N (bd (.inl j) (qX f t)) ∧ qfr g g1 pa x s) := by
  refine Rlt.of ?_
  have hcb := C.1.1
  have T := C.1.2.1
  have hpa := C.2.2.1.1
  have h6 := C.2.2.1.2
  have hx := C.2.2.2.1
  have X := C.2.2.2.2
  have hN := qC_N C
  have h2 : g pa 2 = j := S.1
  have hj := S.2.1
  show WP (gX (gq u)) MX5_expect (d + 2) b _ 0 [(2, pa), (2, tc), (0, t)] [] g
  refine wp_aload_n rfl rfl dX5_expect_0 ?_
  refine wp_aload_n rfl rfl dX5_expect_1 ?_
  refine wp_cV1 (ci := 5) okX5_current rfl rfl wX5_51 dX5_expect_2 rfl (Nat.le_of_ble_eq_true rfl) (Nat.le_of_ble_eq_true rfl) (by first | omega | (simp (disch := omega) only [up2_ne, up2_eq, tpq_a T, h6, txq_a X, txq_b X, txq_c X, txq_d X, txq_e X, txq_f X, txq_g X, h2]; first | done | omega)) (by first | assumption | (simp (disch := omega) only [up2_ne, up2_eq, tpq_a T, h6, txq_a X, txq_b X, txq_c X, txq_d X, txq_e X, txq_f X, txq_g X, h2]; first | done | rfl | omega)) (cur_f C hj h2) (Nat.zero_le _) ?_
  try simp (disch := omega) only [up2_ne, up2_eq, tpq_a T, h6, txq_a X, txq_b X, txq_c X, txq_d X, txq_e X, txq_f X, txq_g X, h2]
  refine wp_iload_n rfl rfl dX5_expect_5 ?_
  refine wp_icmp_ne (tgt := 22) (by first | assumption | exact bI_in _ | exact ⟨by omega, by omega⟩ | exact iAnd_in | exact iOr_in | exact iShr_in | exact iShl_in | exact iXor_in | exact hxs _) (by first | assumption | exact bI_in _ | exact ⟨by omega, by omega⟩ | exact iAnd_in | exact iOr_in | exact iShr_in | exact iShl_in | exact iXor_in | exact hxs _) dX5_expect_6 (by decide) (fun c1 => ?_) (fun c1 => ?_)
  · refine wp_aload_n rfl rfl dX5_expect_22 ?_
    refine wp_cV0v (ci := 5) okX5_fail rfl rfl wX5_71 dX5_expect_23 (Nat.le_of_ble_eq_true rfl) (Nat.le_of_ble_eq_true rfl) (by first | omega | (simp (disch := omega) only [up2_ne, up2_eq, tpq_a T, h6, txq_a X, txq_b X, txq_c X, txq_d X, txq_e X, txq_f X, txq_g X, h2]; first | done | omega)) (by first | assumption | (simp (disch := omega) only [up2_ne, up2_eq, tpq_a T, h6, txq_a X, txq_b X, txq_c X, txq_d X, txq_e X, txq_f X, txq_g X, h2]; first | done | rfl | omega)) (fail_f hpa h6 (by omega) h2) (Nat.zero_le _) ?_
    try simp (disch := omega) only [up2_ne, up2_eq, tpq_a T, h6, txq_a X, txq_b X, txq_c X, txq_d X, txq_e X, txq_f X, txq_g X, h2]
    refine wp_vret dX5_expect_26 rfl ?_
    first
      | (exfalso; omega)
      | exact ⟨rfl, S, fun _ _ _ => rfl⟩
  · refine wp_aload_n rfl rfl dX5_expect_9 ?_
    refine wp_dup (by decide) dX5_expect_10 ?_
    refine wp_getfield1 (z := 6) (kI := 0) fX5_19 dX5_expect_11 (by first | omega | (simp (disch := omega) only [up2_ne, up2_eq, tpq_a T, h6, txq_a X, txq_b X, txq_c X, txq_d X, txq_e X, txq_f X, txq_g X, h2]; first | done | omega)) (by first | assumption | (simp (disch := omega) only [up2_ne, up2_eq, tpq_a T, h6, txq_a X, txq_b X, txq_c X, txq_d X, txq_e X, txq_f X, txq_g X, h2]; first | done | rfl | omega)) rfl rfl ?_
    try simp (disch := omega) only [up2_ne, up2_eq, tpq_a T, h6, txq_a X, txq_b X, txq_c X, txq_d X, txq_e X, txq_f X, txq_g X, h2]
    refine wp_iconst dX5_expect_14 ?_
    refine wp_iadd dX5_expect_15 ?_
    refine wp_putfield1 (z := 6) (kI := 0) fX5_19 dX5_expect_16 (by first | omega | (simp (disch := omega) only [up2_ne, up2_eq, tpq_a T, h6, txq_a X, txq_b X, txq_c X, txq_d X, txq_e X, txq_f X, txq_g X, h2]; first | done | omega)) (by first | assumption | (simp (disch := omega) only [up2_ne, up2_eq, tpq_a T, h6, txq_a X, txq_b X, txq_c X, txq_d X, txq_e X, txq_f X, txq_g X, h2]; first | done | rfl | omega)) rfl rfl ?_
    refine wp_goto (tgt := 26) dX5_expect_19 (by decide) ?_
    refine wp_vret dX5_expect_26 rfl ?_
    first
      | (exfalso; omega)
      | exact ⟨rfl, S, fun _ _ _ => rfl⟩
theorem exp_row {u : gT} {g : mH} {d b : Nat} {tc tb pa x n : Int} {f : Int → Int} {N : Nat} (C : qC g tc tb pa x n f N) {s t : Int} {op : Nat} {st : pR} (S : qS g pa x s op N st) (hi : ∀ y, st = .inr y → y.1 ≤ N) (t0 : 0 ≤ t) (t1 : t ≤ 22) : Rlt (gX (gq u)) MX5_expect (d + 2) b [(2, pa), (2, tc), (0, t)] g (fun r g1 => r = (9, 0) ∧ qS g1 pa x s op N (bd st (qX f t)) ∧ qfr g g1 pa x s) := by
  rcases st with j | y
  · exact exp_f C S t0 t1
  · exact exp_t C S (hi y rfl) t0 t1
theorem opens_row {u : gT} {g : mH} {d b : Nat} {tc tb pa x n : Int} {f : Int → Int} {N : Nat} (C : qC g tc tb pa x n f N) {s : Int} {op i : Nat} {oo : List Int} (S : qS g pa x s op N (.inr (i, oo))) (hi : i ≤ N) (ho : op ≤ 5) : Rlt (gX (gq u)) MX5_opens (d + 1) b [(2, pa), (2, tc)] g (fun r g1 => (r = (0, 1) ∧ op < 5 ∧ qS g1 pa x s (op + 1) N (.inr (i + 1, oo)) ∧ qfr g g1 pa x s) ∨ (r = (0, 0) ∧ 5 ≤ op ∧ qS g1 pa x s op N (.inl i) ∧ qfr g g1 pa x s)) := by
  refine Rlt.of ?_
  have hcb := C.1.1
  have T := C.1.2.1
  have hpa := C.2.2.1.1
  have h6 := C.2.2.1.2
  have hx := C.2.2.2.1
  have X := C.2.2.2.2
  have hN := qC_N C
  have h0 : g pa 0 = i := S.1
  have h1 : g pa 1 = op := S.2.1
  have h2 := S.2.2.1
  show WP (gX (gq u)) MX5_opens (d + 1) b _ 0 [(2, pa), (2, tc)] [] g
  refine wp_aload_n rfl rfl dX5_opens_0 ?_
  refine wp_getfield1 (z := 6) (kI := 1) fX5_25 dX5_opens_1 (by first | omega | (simp (disch := omega) only [up2_ne, up2_eq, tpq_a T, h6, txq_a X, txq_b X, txq_c X, txq_d X, txq_e X, txq_f X, txq_g X, h0, h1, h2]; first | done | omega)) (by first | assumption | (simp (disch := omega) only [up2_ne, up2_eq, tpq_a T, h6, txq_a X, txq_b X, txq_c X, txq_d X, txq_e X, txq_f X, txq_g X, h0, h1, h2]; first | done | rfl | omega)) rfl rfl ?_
  try simp (disch := omega) only [up2_ne, up2_eq, tpq_a T, h6, txq_a X, txq_b X, txq_c X, txq_d X, txq_e X, txq_f X, txq_g X, h0, h1, h2]
  refine wp_iconst dX5_opens_4 ?_
  refine wp_icmp_lt (tgt := 14) (by first | assumption | exact bI_in _ | exact ⟨by omega, by omega⟩ | exact iAnd_in | exact iOr_in | exact iShr_in | exact iShl_in | exact iXor_in | exact hxs _) (by first | assumption | exact bI_in _ | exact ⟨by omega, by omega⟩ | exact iAnd_in | exact iOr_in | exact iShr_in | exact iShl_in | exact iXor_in | exact hxs _) dX5_opens_5 (by decide) (fun c1 => ?_) (fun c1 => ?_)
  · refine wp_aload_n rfl rfl dX5_opens_14 ?_
    refine wp_dup (by decide) dX5_opens_15 ?_
    refine wp_getfield1 (z := 6) (kI := 1) fX5_25 dX5_opens_16 (by first | omega | (simp (disch := omega) only [up2_ne, up2_eq, tpq_a T, h6, txq_a X, txq_b X, txq_c X, txq_d X, txq_e X, txq_f X, txq_g X, h0, h1, h2]; first | done | omega)) (by first | assumption | (simp (disch := omega) only [up2_ne, up2_eq, tpq_a T, h6, txq_a X, txq_b X, txq_c X, txq_d X, txq_e X, txq_f X, txq_g X, h0, h1, h2]; first | done | rfl | omega)) rfl rfl ?_
    try simp (disch := omega) only [up2_ne, up2_eq, tpq_a T, h6, txq_a X, txq_b X, txq_c X, txq_d X, txq_e X, txq_f X, txq_g X, h0, h1, h2]
    refine wp_iconst dX5_opens_19 ?_
    refine wp_iadd dX5_opens_20 ?_
    refine wp_putfield1 (z := 6) (kI := 1) fX5_25 dX5_opens_21 (by first | omega | (simp (disch := omega) only [up2_ne, up2_eq, tpq_a T, h6, txq_a X, txq_b X, txq_c X, txq_d X, txq_e X, txq_f X, txq_g X, h0, h1, h2]; first | done | omega)) (by first | assumption | (simp (disch := omega) only [up2_ne, up2_eq, tpq_a T, h6, txq_a X, txq_b X, txq_c X, txq_d X, txq_e X, txq_f X, txq_g X, h0, h1, h2]; first | done | rfl | omega)) rfl rfl ?_
    refine wp_aload_n rfl rfl dX5_opens_24 ?_
    refine wp_dup (by decide) dX5_opens_25 ?_
    refine wp_getfield1 (z := 6) (kI := 0) fX5_19 dX5_opens_26 (by first | omega | (simp (disch := omega) only [up2_ne, up2_eq, tpq_a T, h6, txq_a X, txq_b X, txq_c X, txq_d X, txq_e X, txq_f X, txq_g X, h0, h1, h2]; first | done | omega)) (by first | assumption | (simp (disch := omega) only [up2_ne, up2_eq, tpq_a T, h6, txq_a X, txq_b X, txq_c X, txq_d X, txq_e X, txq_f X, txq_g X, h0, h1, h2]; first | done | rfl | omega)) rfl rfl ?_
    try simp (disch := omega) only [up2_ne, up2_eq, tpq_a T, h6, txq_a X, txq_b X, txq_c X, txq_d X, txq_e X, txq_f X, txq_g X, h0, h1, h2]
    refine wp_iconst dX5_opens_29 ?_
    refine wp_iadd dX5_opens_30 ?_
    refine wp_putfield1 (z := 6) (kI := 0) fX5_19 dX5_opens_31 (by first | omega | (simp (disch := omega) only [up2_ne, up2_eq, tpq_a T, h6, txq_a X, txq_b X, txq_c X, txq_d X, txq_e X, txq_f X, txq_g X, h0, h1, h2]; first | done | omega)) (by first | assumption | (simp (disch := omega) only [up2_ne, up2_eq, tpq_a T, h6, txq_a X, txq_b X, txq_c X, txq_d X, txq_e X, txq_f X, txq_g X, h0, h1, h2]; first | done | rfl | omega)) rfl rfl ?_
    refine wp_iconst dX5_opens_34 ?_
    refine wp_zret (by first | exact Or.inl rfl | exact Or.inr rfl | omega) dX5_opens_35 rfl ?_
    first
      | exact Or.inr ⟨rfl, by omega, qS_fail hx hpa hi S, qfr_pa (by omega)⟩
      | (refine Or.inl ⟨rfl, by omega, ?_, fun y k q => by rw [up2_ne (by omega), up2_ne (by omega)]⟩
         obtain ⟨s1, s2, s3, s4, s5, s6, s7⟩ := S
         exact ⟨up2_eq, by rw [up2_ne (by omega), up2_eq]; rfl, by rw [up2_ne (by omega), up2_ne (by omega)]; exact s3, by rw [up2_ne (by omega), up2_ne (by omega)]; exact s4, s5, s6, fun k hk => by rw [up2_ne (by omega), up2_ne (by omega)]; exact s7 k hk⟩)
  · refine wp_aload_n rfl rfl dX5_opens_8 ?_
    refine wp_cV0v (ci := 5) okX5_fail rfl rfl wX5_71 dX5_opens_9 (Nat.le_of_ble_eq_true rfl) (Nat.le_of_ble_eq_true rfl) (by first | omega | (simp (disch := omega) only [up2_ne, up2_eq, tpq_a T, h6, txq_a X, txq_b X, txq_c X, txq_d X, txq_e X, txq_f X, txq_g X, h0, h1, h2]; first | done | omega)) (by first | assumption | (simp (disch := omega) only [up2_ne, up2_eq, tpq_a T, h6, txq_a X, txq_b X, txq_c X, txq_d X, txq_e X, txq_f X, txq_g X, h0, h1, h2]; first | done | rfl | omega)) (fail_t hpa h6 h0 h2) (Nat.zero_le _) ?_
    try simp (disch := omega) only [up2_ne, up2_eq, tpq_a T, h6, txq_a X, txq_b X, txq_c X, txq_d X, txq_e X, txq_f X, txq_g X, h0, h1, h2]
    refine wp_iconst dX5_opens_12 ?_
    refine wp_zret (by first | exact Or.inl rfl | exact Or.inr rfl | omega) dX5_opens_13 rfl ?_
    first
      | exact Or.inr ⟨rfl, by omega, qS_fail hx hpa hi S, qfr_pa (by omega)⟩
      | (refine Or.inl ⟨rfl, by omega, ?_, fun y k q => by rw [up2_ne (by omega), up2_ne (by omega)]⟩
         obtain ⟨s1, s2, s3, s4, s5, s6, s7⟩ := S
         exact ⟨up2_eq, by rw [up2_ne (by omega), up2_eq]; rfl, by rw [up2_ne (by omega), up2_ne (by omega)]; exact s3, by rw [up2_ne (by omega), up2_ne (by omega)]; exact s4, s5, s6, fun k hk => by rw [up2_ne (by omega), up2_ne (by omega)]; exact s7 k hk⟩)
theorem s_X5_levelOf {u : gT} {h : mH} {d b : Nat} {t : Int} (i1 : InI t) : Det (gX (gq u)) MX5_levelOf d b [(0, t)] h (0, lvT t) h := by
  intro Q hQ
  show WP (gX (gq u)) MX5_levelOf d b Q 0 [(0, t)] [] h
  refine wp_iload_n rfl rfl dX5_levelOf_0 ?_
  by_cases c1 : t < 10 ∨ 21 < t
  · refine wp_tabOut (tgt := 74) (by first | assumption | exact bI_in _ | exact ⟨by omega, by omega⟩ | exact iAnd_in | exact iOr_in | exact iShr_in | exact iShl_in | exact iXor_in | exact hxs _) dX5_levelOf_1 c1 (by decide) ?_
    refine wp_iconst dX5_levelOf_74 ?_
    refine wp_iret dX5_levelOf_75 rfl ?_
    first
      | (subst_vars; exact hQ)
      | (have e : lvT t = -1 := by
           unfold lvT
           rw [if_neg (by omega), if_neg (by omega), if_neg (by omega), if_neg (by omega), if_neg (by omega)]
         rw [e] at hQ
         exact hQ)
  · rcases (show t = 10 ∨ t = 11 ∨ t = 12 ∨ t = 13 ∨ t = 14 ∨ t = 15 ∨ t = 16 ∨ t = 17 ∨ t = 18 ∨ t = 19 ∨ t = 20 ∨ t = 21 by omega) with c1x | c1x | c1x | c1x | c1x | c1x | c1x | c1x | c1x | c1x | c1x | c1x
    · refine wp_tabIn (off := 63) (tgt := 64) (by first | assumption | exact bI_in _ | exact ⟨by omega, by omega⟩ | exact iAnd_in | exact iOr_in | exact iShr_in | exact iShl_in | exact iXor_in | exact hxs _) dX5_levelOf_1 (by omega) (by omega) (by rw [c1x]; rfl) (by decide) ?_
      refine wp_iconst dX5_levelOf_64 ?_
      refine wp_iret dX5_levelOf_65 rfl ?_
      first
        | (subst_vars; exact hQ)
        | (have e : lvT t = -1 := by
             unfold lvT
             rw [if_neg (by omega), if_neg (by omega), if_neg (by omega), if_neg (by omega), if_neg (by omega)]
           rw [e] at hQ
           exact hQ)
    · refine wp_tabIn (off := 65) (tgt := 66) (by first | assumption | exact bI_in _ | exact ⟨by omega, by omega⟩ | exact iAnd_in | exact iOr_in | exact iShr_in | exact iShl_in | exact iXor_in | exact hxs _) dX5_levelOf_1 (by omega) (by omega) (by rw [c1x]; rfl) (by decide) ?_
      refine wp_iconst dX5_levelOf_66 ?_
      refine wp_iret dX5_levelOf_67 rfl ?_
      first
        | (subst_vars; exact hQ)
        | (have e : lvT t = -1 := by
             unfold lvT
             rw [if_neg (by omega), if_neg (by omega), if_neg (by omega), if_neg (by omega), if_neg (by omega)]
           rw [e] at hQ
           exact hQ)
    · refine wp_tabIn (off := 73) (tgt := 74) (by first | assumption | exact bI_in _ | exact ⟨by omega, by omega⟩ | exact iAnd_in | exact iOr_in | exact iShr_in | exact iShl_in | exact iXor_in | exact hxs _) dX5_levelOf_1 (by omega) (by omega) (by rw [c1x]; rfl) (by decide) ?_
      refine wp_iconst dX5_levelOf_74 ?_
      refine wp_iret dX5_levelOf_75 rfl ?_
      first
        | (subst_vars; exact hQ)
        | (have e : lvT t = -1 := by
             unfold lvT
             rw [if_neg (by omega), if_neg (by omega), if_neg (by omega), if_neg (by omega), if_neg (by omega)]
           rw [e] at hQ
           exact hQ)
    · refine wp_tabIn (off := 73) (tgt := 74) (by first | assumption | exact bI_in _ | exact ⟨by omega, by omega⟩ | exact iAnd_in | exact iOr_in | exact iShr_in | exact iShl_in | exact iXor_in | exact hxs _) dX5_levelOf_1 (by omega) (by omega) (by rw [c1x]; rfl) (by decide) ?_
      refine wp_iconst dX5_levelOf_74 ?_
      refine wp_iret dX5_levelOf_75 rfl ?_
      first
        | (subst_vars; exact hQ)
        | (have e : lvT t = -1 := by
             unfold lvT
             rw [if_neg (by omega), if_neg (by omega), if_neg (by omega), if_neg (by omega), if_neg (by omega)]
           rw [e] at hQ
           exact hQ)
    · refine wp_tabIn (off := 73) (tgt := 74) (by first | assumption | exact bI_in _ | exact ⟨by omega, by omega⟩ | exact iAnd_in | exact iOr_in | exact iShr_in | exact iShl_in | exact iXor_in | exact hxs _) dX5_levelOf_1 (by omega) (by omega) (by rw [c1x]; rfl) (by decide) ?_
      refine wp_iconst dX5_levelOf_74 ?_
      refine wp_iret dX5_levelOf_75 rfl ?_
      first
        | (subst_vars; exact hQ)
        | (have e : lvT t = -1 := by
             unfold lvT
             rw [if_neg (by omega), if_neg (by omega), if_neg (by omega), if_neg (by omega), if_neg (by omega)]
           rw [e] at hQ
           exact hQ)
    · refine wp_tabIn (off := 73) (tgt := 74) (by first | assumption | exact bI_in _ | exact ⟨by omega, by omega⟩ | exact iAnd_in | exact iOr_in | exact iShr_in | exact iShl_in | exact iXor_in | exact hxs _) dX5_levelOf_1 (by omega) (by omega) (by rw [c1x]; rfl) (by decide) ?_
      refine wp_iconst dX5_levelOf_74 ?_
      refine wp_iret dX5_levelOf_75 rfl ?_
      first
        | (subst_vars; exact hQ)
        | (have e : lvT t = -1 := by
             unfold lvT
             rw [if_neg (by omega), if_neg (by omega), if_neg (by omega), if_neg (by omega), if_neg (by omega)]
           rw [e] at hQ
           exact hQ)
    · refine wp_tabIn (off := 73) (tgt := 74) (by first | assumption | exact bI_in _ | exact ⟨by omega, by omega⟩ | exact iAnd_in | exact iOr_in | exact iShr_in | exact iShl_in | exact iXor_in | exact hxs _) dX5_levelOf_1 (by omega) (by omega) (by rw [c1x]; rfl) (by decide) ?_
      refine wp_iconst dX5_levelOf_74 ?_
      refine wp_iret dX5_levelOf_75 rfl ?_
      first
        | (subst_vars; exact hQ)
        | (have e : lvT t = -1 := by
             unfold lvT
             rw [if_neg (by omega), if_neg (by omega), if_neg (by omega), if_neg (by omega), if_neg (by omega)]
           rw [e] at hQ
           exact hQ)
    · refine wp_tabIn (off := 69) (tgt := 70) (by first | assumption | exact bI_in _ | exact ⟨by omega, by omega⟩ | exact iAnd_in | exact iOr_in | exact iShr_in | exact iShl_in | exact iXor_in | exact hxs _) dX5_levelOf_1 (by omega) (by omega) (by rw [c1x]; rfl) (by decide) ?_
      refine wp_iconst dX5_levelOf_70 ?_
      refine wp_iret dX5_levelOf_71 rfl ?_
      first
        | (subst_vars; exact hQ)
        | (have e : lvT t = -1 := by
             unfold lvT
             rw [if_neg (by omega), if_neg (by omega), if_neg (by omega), if_neg (by omega), if_neg (by omega)]
           rw [e] at hQ
           exact hQ)
    · refine wp_tabIn (off := 69) (tgt := 70) (by first | assumption | exact bI_in _ | exact ⟨by omega, by omega⟩ | exact iAnd_in | exact iOr_in | exact iShr_in | exact iShl_in | exact iXor_in | exact hxs _) dX5_levelOf_1 (by omega) (by omega) (by rw [c1x]; rfl) (by decide) ?_
      refine wp_iconst dX5_levelOf_70 ?_
      refine wp_iret dX5_levelOf_71 rfl ?_
      first
        | (subst_vars; exact hQ)
        | (have e : lvT t = -1 := by
             unfold lvT
             rw [if_neg (by omega), if_neg (by omega), if_neg (by omega), if_neg (by omega), if_neg (by omega)]
           rw [e] at hQ
           exact hQ)
    · refine wp_tabIn (off := 71) (tgt := 72) (by first | assumption | exact bI_in _ | exact ⟨by omega, by omega⟩ | exact iAnd_in | exact iOr_in | exact iShr_in | exact iShl_in | exact iXor_in | exact hxs _) dX5_levelOf_1 (by omega) (by omega) (by rw [c1x]; rfl) (by decide) ?_
      refine wp_iconst dX5_levelOf_72 ?_
      refine wp_iret dX5_levelOf_73 rfl ?_
      first
        | (subst_vars; exact hQ)
        | (have e : lvT t = -1 := by
             unfold lvT
             rw [if_neg (by omega), if_neg (by omega), if_neg (by omega), if_neg (by omega), if_neg (by omega)]
           rw [e] at hQ
           exact hQ)
    · refine wp_tabIn (off := 67) (tgt := 68) (by first | assumption | exact bI_in _ | exact ⟨by omega, by omega⟩ | exact iAnd_in | exact iOr_in | exact iShr_in | exact iShl_in | exact iXor_in | exact hxs _) dX5_levelOf_1 (by omega) (by omega) (by rw [c1x]; rfl) (by decide) ?_
      refine wp_iconst dX5_levelOf_68 ?_
      refine wp_iret dX5_levelOf_69 rfl ?_
      first
        | (subst_vars; exact hQ)
        | (have e : lvT t = -1 := by
             unfold lvT
             rw [if_neg (by omega), if_neg (by omega), if_neg (by omega), if_neg (by omega), if_neg (by omega)]
           rw [e] at hQ
           exact hQ)
    · refine wp_tabIn (off := 67) (tgt := 68) (by first | assumption | exact bI_in _ | exact ⟨by omega, by omega⟩ | exact iAnd_in | exact iOr_in | exact iShr_in | exact iShl_in | exact iXor_in | exact hxs _) dX5_levelOf_1 (by omega) (by omega) (by rw [c1x]; rfl) (by decide) ?_
      refine wp_iconst dX5_levelOf_68 ?_
      refine wp_iret dX5_levelOf_69 rfl ?_
      first
        | (subst_vars; exact hQ)
        | (have e : lvT t = -1 := by
             unfold lvT
             rw [if_neg (by omega), if_neg (by omega), if_neg (by omega), if_neg (by omega), if_neg (by omega)]
           rw [e] at hQ
           exact hQ)
theorem s_X10_clear {u : gT} {g : mH} {d b : Nat} {x : Int} (hx : 0 ≤ x ∧ x < 6) (X : Tx g x) : Det (gX (gq u)) MX10_clear d b [(2, 40 + x)] g (9, 0) (up2 g (40 + x) 3 0) := by
  intro Q hQ
  show WP (gX (gq u)) MX10_clear d b Q 0 [(2, 40 + x)] [] g
  refine wp_aload_n rfl rfl dX10_clear_0 ?_
  refine wp_iconst dX10_clear_1 ?_
  refine wp_putfield1 (z := 11) (kI := 3) fX10_21 dX10_clear_2 (by first | omega | (simp (disch := omega) only [up2_ne, up2_eq, txq_a X, txq_b X, txq_c X, txq_d X, txq_e X, txq_f X, txq_g X]; first | done | omega)) (by first | assumption | (simp (disch := omega) only [up2_ne, up2_eq, txq_a X, txq_b X, txq_c X, txq_d X, txq_e X, txq_f X, txq_g X]; first | done | rfl | omega)) rfl rfl ?_
  refine wp_vret dX10_clear_5 rfl ?_
  exact hQ
theorem s_X10_endPart {u : gT} {g : mH} {d b : Nat} {x : Int} (hx : 0 ≤ x ∧ x < 6) (X : Tx g x) {p : Int} (p0 : 0 ≤ p) (p1 : p ≤ 2) : Det (gX (gq u)) MX10_endPart (d + 1) b [(2, 40 + x), (0, p)] g (9, 0) (up2 g (60 + x) p (g (40 + x) 3)) := by
  intro Q hQ
  show WP (gX (gq u)) MX10_endPart (d + 1) b Q 0 [(2, 40 + x), (0, p)] [] g
  refine wp_iload_n rfl rfl dX10_endPart_0 ?_
  refine wp_iconst dX10_endPart_1 ?_
  refine wp_aload_n rfl rfl dX10_endPart_2 ?_
  refine wp_getfield1 (z := 11) (kI := 1) fX10_15 dX10_endPart_3 (by first | omega | (simp (disch := omega) only [up2_ne, up2_eq, txq_a X, txq_b X, txq_c X, txq_d X, txq_e X, txq_f X, txq_g X]; first | done | omega)) (by first | assumption | (simp (disch := omega) only [up2_ne, up2_eq, txq_a X, txq_b X, txq_c X, txq_d X, txq_e X, txq_f X, txq_g X]; first | done | rfl | omega)) rfl rfl ?_
  try simp (disch := omega) only [up2_ne, up2_eq, txq_a X, txq_b X, txq_c X, txq_d X, txq_e X, txq_f X, txq_g X]
  refine wp_alen1 dX10_endPart_6 (by first | omega | (simp (disch := omega) only [up2_ne, up2_eq, txq_a X, txq_b X, txq_c X, txq_d X, txq_e X, txq_f X, txq_g X]; first | done | omega)) (by first | omega | (simp (disch := omega) only [up2_ne, up2_eq, txq_a X, txq_b X, txq_c X, txq_d X, txq_e X, txq_f X, txq_g X]; first | done | omega)) ?_
  try simp (disch := omega) only [up2_ne, up2_eq, txq_a X, txq_b X, txq_c X, txq_d X, txq_e X, txq_f X, txq_g X]
  refine wp_iconst dX10_endPart_7 ?_
  refine wp_isub dX10_endPart_8 ?_
  refine wp_cSN3 okX11_isWithin wX10_25 dX10_endPart_9 rfl (Nat.le_of_ble_eq_true rfl) (Nat.le_of_ble_eq_true rfl) (s_X11_isWithin ⟨by omega, by omega⟩ In0 ⟨by omega, by omega⟩) (Nat.zero_le _) ?_
  try simp (disch := omega) only [up2_ne, up2_eq, txq_a X, txq_b X, txq_c X, txq_d X, txq_e X, txq_f X, txq_g X]
  refine wp_ifB_eq (tgt := 25) dX10_endPart_12 (by decide) (fun c1 => ?_) (fun c1 => ?_)
  · refine wp_vret dX10_endPart_25 rfl ?_
    first | exact hQ | (exfalso; omega)
  · refine wp_aload_n rfl rfl dX10_endPart_15 ?_
    refine wp_getfield1 (z := 11) (kI := 1) fX10_15 dX10_endPart_16 (by first | omega | (simp (disch := omega) only [up2_ne, up2_eq, txq_a X, txq_b X, txq_c X, txq_d X, txq_e X, txq_f X, txq_g X]; first | done | omega)) (by first | assumption | (simp (disch := omega) only [up2_ne, up2_eq, txq_a X, txq_b X, txq_c X, txq_d X, txq_e X, txq_f X, txq_g X]; first | done | rfl | omega)) rfl rfl ?_
    try simp (disch := omega) only [up2_ne, up2_eq, txq_a X, txq_b X, txq_c X, txq_d X, txq_e X, txq_f X, txq_g X]
    refine wp_iload_n rfl rfl dX10_endPart_19 ?_
    refine wp_aload_n rfl rfl dX10_endPart_20 ?_
    refine wp_getfield1 (z := 11) (kI := 3) fX10_21 dX10_endPart_21 (by first | omega | (simp (disch := omega) only [up2_ne, up2_eq, txq_a X, txq_b X, txq_c X, txq_d X, txq_e X, txq_f X, txq_g X]; first | done | omega)) (by first | assumption | (simp (disch := omega) only [up2_ne, up2_eq, txq_a X, txq_b X, txq_c X, txq_d X, txq_e X, txq_f X, txq_g X]; first | done | rfl | omega)) rfl rfl ?_
    try simp (disch := omega) only [up2_ne, up2_eq, txq_a X, txq_b X, txq_c X, txq_d X, txq_e X, txq_f X, txq_g X]
    refine wp_iastore1 dX10_endPart_24 (by first | omega | (simp (disch := omega) only [up2_ne, up2_eq, txq_a X, txq_b X, txq_c X, txq_d X, txq_e X, txq_f X, txq_g X]; first | done | omega)) (by first | assumption | (simp (disch := omega) only [up2_ne, up2_eq, txq_a X, txq_b X, txq_c X, txq_d X, txq_e X, txq_f X, txq_g X]; first | done | rfl | omega)) (by first | omega | (simp (disch := omega) only [up2_ne, up2_eq, txq_a X, txq_b X, txq_c X, txq_d X, txq_e X, txq_f X, txq_g X]; first | done | omega)) (by first | omega | (simp (disch := omega) only [up2_ne, up2_eq, txq_a X, txq_b X, txq_c X, txq_d X, txq_e X, txq_f X, txq_g X]; first | done | omega)) ?_
    refine wp_vret dX10_endPart_25 rfl ?_
    first | exact hQ | (exfalso; omega)
theorem xadd {u : gT} {g : mH} {d b : Nat} {x : Int} (hx : 0 ≤ x ∧ x < 6) (X : Tx g x) {v z : Int} (hz : g (40 + x) 3 = z) (z0 : 0 ≤ z) (z1 : z ≤ 160) : Rlt (gX (gq u)) MX10_add d b [(2, 40 + x), (0, v)] g (fun r g1 => r = (9, 0) ∧ ((z < 160 ∧ g1 = up2 (up2 g (50 + x) z v) (40 + x) 3 (z + 1)) ∨ (z = 160 ∧ g1 = g))) := by
  refine Rlt.of ?_
  show WP (gX (gq u)) MX10_add d b _ 0 [(2, 40 + x), (0, v)] [] g
  refine wp_aload_n rfl rfl dX10_add_0 ?_
  refine wp_getfield1 (z := 11) (kI := 3) fX10_21 dX10_add_1 (by first | omega | (simp (disch := omega) only [up2_ne, up2_eq, txq_a X, txq_b X, txq_c X, txq_d X, txq_e X, txq_f X, txq_g X, hz]; first | done | omega)) (by first | assumption | (simp (disch := omega) only [up2_ne, up2_eq, txq_a X, txq_b X, txq_c X, txq_d X, txq_e X, txq_f X, txq_g X, hz]; first | done | rfl | omega)) rfl rfl ?_
  try simp (disch := omega) only [up2_ne, up2_eq, txq_a X, txq_b X, txq_c X, txq_d X, txq_e X, txq_f X, txq_g X, hz]
  refine wp_aload_n rfl rfl dX10_add_4 ?_
  refine wp_getfield1 (z := 11) (kI := 0) fX10_9 dX10_add_5 (by first | omega | (simp (disch := omega) only [up2_ne, up2_eq, txq_a X, txq_b X, txq_c X, txq_d X, txq_e X, txq_f X, txq_g X, hz]; first | done | omega)) (by first | assumption | (simp (disch := omega) only [up2_ne, up2_eq, txq_a X, txq_b X, txq_c X, txq_d X, txq_e X, txq_f X, txq_g X, hz]; first | done | rfl | omega)) rfl rfl ?_
  try simp (disch := omega) only [up2_ne, up2_eq, txq_a X, txq_b X, txq_c X, txq_d X, txq_e X, txq_f X, txq_g X, hz]
  refine wp_alen1 dX10_add_8 (by first | omega | (simp (disch := omega) only [up2_ne, up2_eq, txq_a X, txq_b X, txq_c X, txq_d X, txq_e X, txq_f X, txq_g X, hz]; first | done | omega)) (by first | omega | (simp (disch := omega) only [up2_ne, up2_eq, txq_a X, txq_b X, txq_c X, txq_d X, txq_e X, txq_f X, txq_g X, hz]; first | done | omega)) ?_
  try simp (disch := omega) only [up2_ne, up2_eq, txq_a X, txq_b X, txq_c X, txq_d X, txq_e X, txq_f X, txq_g X, hz]
  refine wp_icmp_ge (tgt := 32) (by first | assumption | exact bI_in _ | exact ⟨by omega, by omega⟩ | exact iAnd_in | exact iOr_in | exact iShr_in | exact iShl_in | exact iXor_in | exact hxs _) (by first | assumption | exact bI_in _ | exact ⟨by omega, by omega⟩ | exact iAnd_in | exact iOr_in | exact iShr_in | exact iShl_in | exact iXor_in | exact hxs _) dX10_add_9 (by decide) (fun c1 => ?_) (fun c1 => ?_)
  · refine wp_vret dX10_add_32 rfl ?_
    first | exact ⟨rfl, Or.inr ⟨by omega, rfl⟩⟩ | exact ⟨rfl, Or.inl ⟨by omega, rfl⟩⟩
  · refine wp_aload_n rfl rfl dX10_add_12 ?_
    refine wp_getfield1 (z := 11) (kI := 0) fX10_9 dX10_add_13 (by first | omega | (simp (disch := omega) only [up2_ne, up2_eq, txq_a X, txq_b X, txq_c X, txq_d X, txq_e X, txq_f X, txq_g X, hz]; first | done | omega)) (by first | assumption | (simp (disch := omega) only [up2_ne, up2_eq, txq_a X, txq_b X, txq_c X, txq_d X, txq_e X, txq_f X, txq_g X, hz]; first | done | rfl | omega)) rfl rfl ?_
    try simp (disch := omega) only [up2_ne, up2_eq, txq_a X, txq_b X, txq_c X, txq_d X, txq_e X, txq_f X, txq_g X, hz]
    refine wp_aload_n rfl rfl dX10_add_16 ?_
    refine wp_getfield1 (z := 11) (kI := 3) fX10_21 dX10_add_17 (by first | omega | (simp (disch := omega) only [up2_ne, up2_eq, txq_a X, txq_b X, txq_c X, txq_d X, txq_e X, txq_f X, txq_g X, hz]; first | done | omega)) (by first | assumption | (simp (disch := omega) only [up2_ne, up2_eq, txq_a X, txq_b X, txq_c X, txq_d X, txq_e X, txq_f X, txq_g X, hz]; first | done | rfl | omega)) rfl rfl ?_
    try simp (disch := omega) only [up2_ne, up2_eq, txq_a X, txq_b X, txq_c X, txq_d X, txq_e X, txq_f X, txq_g X, hz]
    refine wp_iload_n rfl rfl dX10_add_20 ?_
    refine wp_iastore1 dX10_add_21 (by first | omega | (simp (disch := omega) only [up2_ne, up2_eq, txq_a X, txq_b X, txq_c X, txq_d X, txq_e X, txq_f X, txq_g X, hz]; first | done | omega)) (by first | assumption | (simp (disch := omega) only [up2_ne, up2_eq, txq_a X, txq_b X, txq_c X, txq_d X, txq_e X, txq_f X, txq_g X, hz]; first | done | rfl | omega)) (by first | omega | (simp (disch := omega) only [up2_ne, up2_eq, txq_a X, txq_b X, txq_c X, txq_d X, txq_e X, txq_f X, txq_g X, hz]; first | done | omega)) (by first | omega | (simp (disch := omega) only [up2_ne, up2_eq, txq_a X, txq_b X, txq_c X, txq_d X, txq_e X, txq_f X, txq_g X, hz]; first | done | omega)) ?_
    refine wp_aload_n rfl rfl dX10_add_22 ?_
    refine wp_dup (by decide) dX10_add_23 ?_
    refine wp_getfield1 (z := 11) (kI := 3) fX10_21 dX10_add_24 (by first | omega | (simp (disch := omega) only [up2_ne, up2_eq, txq_a X, txq_b X, txq_c X, txq_d X, txq_e X, txq_f X, txq_g X, hz]; first | done | omega)) (by first | assumption | (simp (disch := omega) only [up2_ne, up2_eq, txq_a X, txq_b X, txq_c X, txq_d X, txq_e X, txq_f X, txq_g X, hz]; first | done | rfl | omega)) rfl rfl ?_
    try simp (disch := omega) only [up2_ne, up2_eq, txq_a X, txq_b X, txq_c X, txq_d X, txq_e X, txq_f X, txq_g X, hz]
    refine wp_iconst dX10_add_27 ?_
    refine wp_iadd dX10_add_28 ?_
    refine wp_putfield1 (z := 11) (kI := 3) fX10_21 dX10_add_29 (by first | omega | (simp (disch := omega) only [up2_ne, up2_eq, txq_a X, txq_b X, txq_c X, txq_d X, txq_e X, txq_f X, txq_g X, hz]; first | done | omega)) (by first | assumption | (simp (disch := omega) only [up2_ne, up2_eq, txq_a X, txq_b X, txq_c X, txq_d X, txq_e X, txq_f X, txq_g X, hz]; first | done | rfl | omega)) rfl rfl ?_
    refine wp_vret dX10_add_32 rfl ?_
    first | exact ⟨rfl, Or.inr ⟨by omega, rfl⟩⟩ | exact ⟨rfl, Or.inl ⟨by omega, rfl⟩⟩
theorem qS_add {g : mH} {pa x s v : Int} {op N : Nat} {st : pR} (hx : 0 ≤ x ∧ x < 6) (hpa : pa = 8 ∨ pa = 35) (S : qS g pa x s op N st) (hz : g (40 + x) 3 < 160) : qS (up2 (up2 g (50 + x) (g (40 + x) 3) v) (40 + x) 3 (g (40 + x) 3 + 1)) pa x s op N (bd st (fun i o => .inr (i, o ++ [v]))) := by
  rcases st with j | ⟨i, oo⟩
  · obtain ⟨s1, s2, s3, s4, s5⟩ := S
    exact ⟨by rw [up2_ne (by omega), up2_ne (by omega)]; exact s1, s2, s3, by rw [up2_eq]; omega, by rw [up2_eq]; omega⟩
  · obtain ⟨s1, s2, s3, s4, s5, s6, s7⟩ := S
    dsimp only at s1 s2 s3 s4 s6 s7
    have hl : (oo ++ [v]).length = oo.length + 1 := by rw [List.length_append, List.length_singleton]
    refine ⟨by rw [up2_ne (by omega), up2_ne (by omega)]; exact s1, by rw [up2_ne (by omega), up2_ne (by omega)]; exact s2, by rw [up2_ne (by omega), up2_ne (by omega)]; exact s3, ?_, s5, ?_, fun k hk => ?_⟩
    · rw [up2_eq, s4]
      show _ = s + ((oo ++ [v]).length : Nat)
      rw [hl]
      omega
    · show s + ((oo ++ [v]).length : Nat) ≤ 160
      rw [hl]
      omega
    · dsimp only at hk ⊢
      rw [up2_ne (by omega)]
      by_cases c : k = oo.length
      · rw [c, getD_e, s4, up2_eq]
      · rw [getD_l (by omega), up2_ne (by omega)]
        exact s7 k (by omega)
theorem add_row {u : gT} {g : mH} {d b : Nat} {tc tb pa x n : Int} {f : Int → Int} {N : Nat} (C : qC g tc tb pa x n f N) {s v : Int} {op : Nat} {st : pR} (S : qS g pa x s op N st) (hz : ∀ y, st = .inr y → s + y.2.length < 160) : Rlt (gX (gq u)) MX10_add d b [(2, 40 + x), (0, v)] g (fun r g1 => r = (9, 0) ∧ qS g1 pa x s op N (bd st (fun i o => .inr (i, o ++ [v]))) ∧ qfr g g1 pa x s) := by
  have hb : 0 ≤ s ∧ s ≤ g (40 + x) 3 ∧ g (40 + x) 3 ≤ 160 := by
    rcases st with j | y
    · exact ⟨S.2.2.1, S.2.2.2.1, S.2.2.2.2⟩
    · have h1 := S.2.2.2.1
      have h2 := S.2.2.2.2.1
      have h3 := S.2.2.2.2.2.1
      omega
  refine (xadd C.2.2.2.1 C.2.2.2.2 rfl (by omega) hb.2.2).mono ?_
  rintro r g1 ⟨rfl, (⟨h1, rfl⟩ | ⟨h1, rfl⟩)⟩ -
  · exact ⟨rfl, qS_add C.2.2.2.1 C.2.2.1.1 S h1, fun y k q => by rw [up2_ne (by omega), up2_ne (by omega)]⟩
  · refine ⟨rfl, ?_, fun _ _ _ => rfl⟩
    rcases st with j | y
    · exact S
    · exfalso
      have := hz y rfl
      have := S.2.2.2.1
      omega
theorem qS_cl {g : mH} {pa x s : Int} {op N : Nat} {st : pR} (hx : 0 ≤ x ∧ x < 6) (hpa : pa = 8 ∨ pa = 35) (S : qS g pa x s (op + 1) N st) : qS (up2 g pa 1 (g pa 1 - 1)) pa x s op N st := by
  rcases st with j | ⟨i, oo⟩
  · obtain ⟨s1, s2, s3, s4, s5⟩ := S
    exact ⟨by rw [up2_ne (by omega)]; exact s1, s2, s3, by rw [up2_ne (by omega)]; exact s4, by rw [up2_ne (by omega)]; exact s5⟩
  · obtain ⟨s1, s2, s3, s4, s5, s6, s7⟩ := S
    exact ⟨by rw [up2_ne (by omega)]; exact s1, by rw [up2_eq]; omega, by rw [up2_ne (by omega)]; exact s3, by rw [up2_ne (by omega)]; exact s4, s5, s6, fun k hk => by rw [up2_ne (by omega)]; exact s7 k hk⟩
