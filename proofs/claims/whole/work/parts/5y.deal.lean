/-! ===== deal ===== -/
def dlM (m : mH) (a p : Int) : mH := fun x k => if (x = 120 + a ∧ k = 9) ∨ (x = 218 ∧ k = a) then p else if 110 ≤ x ∧ x < 110 + m 200 6 ∧ k = 4 then m x k + bt p (x - 110) else m x k
theorem dlM_ne {m : mH} {a p x k : Int} (q1 : ¬ ((x = 120 + a ∧ k = 9) ∨ (x = 218 ∧ k = a))) (q2 : ¬ (110 ≤ x ∧ x < 110 + m 200 6 ∧ k = 4)) : dlM m a p x k = m x k := (if_neg q1).trans (if_neg q2)
theorem dlM_p {m : mH} {a p x k : Int} (q1 : (x = 120 + a ∧ k = 9) ∨ (x = 218 ∧ k = a)) : dlM m a p x k = p := if_pos q1
theorem dlM_r {m : mH} {a p r : Int} (a0 : 0 ≤ a) (a1 : a < 14) (r0 : 0 ≤ r) (r1 : r < m 200 6) (R8 : m 200 6 ≤ 8) : dlM m a p (110 + r) 4 = m (110 + r) 4 + bt p r := by
  unfold dlM
  rw [if_neg (by omega), if_pos (by omega), show 110 + r - 110 = r by omega]
theorem sm_add {f g : Int → Int} : ∀ n : Nat, sm (fun i => f i + g i) n = sm f n + sm g n
  | 0 => rfl
  | n + 1 => by
    rw [sm, sm, sm, sm_add n]
    omega
theorem bt_z {r : Int} (r0 : 0 ≤ r) (r1 : r < 32) : bt 0 r = 0 := by
  rw [bt_eq (by decide) (by decide) r0 r1, Int.zero_ediv]
  rfl
theorem rds_dl {m : mH} {a p r : Int} (a0 : 0 ≤ a) (a1 : a < m 200 10) (A14 : m 200 10 ≤ 14) (R8 : m 200 6 ≤ 8) (z : m 218 a = 0) (r0 : 0 ≤ r) (r1 : r < 8) : rds (dlM m a p) r = rds m r + bt p r := by
  have e0 : dlM m a p 200 10 = m 200 10 := dlM_ne (by omega) (by omega)
  unfold rds
  rw [e0, sm_congr (g := fun i => rdsF m r i + (if i = a then bt p r else 0)), sm_add, sm_one (g := fun _ => bt p r) a0 _ (by omega)]
  intro i hi
  show bt (dlM m a p 218 i) r = bt (m 218 i) r + _
  by_cases c : (i : Int) = a
  · rw [dlM_p (Or.inr ⟨rfl, c⟩), if_pos c, c, z, bt_z r0 (by omega)]
    omega
  · rw [dlM_ne (by omega) (by omega), if_neg c]
    omega
theorem statL_218 : ∀ q ∈ statL, ¬ (q.1 = 218 ∧ 0 ≤ q.2.1) := by decide +kernel
def pOk (m : mH) (p : Int) : Prop := 0 ≤ p ∧ p < 256 ∧ ∀ r : Int, 0 ≤ r → r < 8 → bt p r = 1 → r < m 200 6 ∧ rds m r < m 209 r
set_option maxHeartbeats 1000000 in
theorem Inv_deal {j : Nat} {m : mH} (H : Inv j m) {a p : Int} (a0 : 0 ≤ a) (a1 : a < m 200 10) (z : m 218 a = 0) (hp : pOk m p) : Inv j (dlM m a p) := by
  have hn := H.ns
  obtain ⟨hS, aN, aF, aR, aA, aB, aG, aS, aP, aT⟩ := H
  have n1 : ∀ x k : Int, x < 110 ∨ (118 ≤ x ∧ x < 120) ∨ 134 ≤ x ∧ x ≠ 218 → dlM m a p x k = m x k := fun x k q => dlM_ne (by omega) (by omega)
  have n2 : ∀ x k : Int, k ≠ 4 → k ≠ 9 → x ≠ 218 → dlM m a p x k = m x k := fun x k q1 q2 q3 => dlM_ne (by omega) (by omega)
  have hb := fun r r0 r1 => bt_01 (x := p) (i := r) hp.1 (by have := hp.2.1; omega) r0 r1
  refine ⟨hS.of (fun q hq => ?_), ?_, iF_cg (n1 _ _ (by omega)) (fun x k q => n1 x k (by omega)) aF, ?_, ?_, ?_, iG_cg (n1 _ _ (by omega)) (by rw [n1 _ _ (by omega)]; exact Int.le_refl _) (fun x k q => dlM_ne (by omega) (by omega)) aG, iS_cg (fun x k q => n1 x k (by omega)) aS, iP_cg (n1 _ _ (by omega)) (fun x k q => n1 x k (by omega)) aP, iT_cg (n1 _ _ (by omega)) (by omega) (fun x k q => n1 x k (by omega)) aT⟩
  · have h1 := statL_dyn q hq
    have h2 := statL_218 q hq
    exact dlM_ne (by omega) (by omega)
  · unfold iN at aN ⊢
    rw [n1 200 0 (by omega), n1 200 6 (by omega), n1 200 10 (by omega), n1 200 30 (by omega), n1 200 31 (by omega), n1 200 29 (by omega), n1 1 11 (by omega), n1 1 12 (by omega), n1 1 13 (by omega), n1 1 14 (by omega), n1 1 15 (by omega), n1 7 1 (by omega)]
    exact aN
  · intro i i0 i1
    have hi := aR i i0 i1
    have hbi := hb i i0 (by omega)
    have hpi := hp.2.2 i i0 i1
    rw [rds_dl a0 a1 (by omega) (by omega) z i0 i1, n1 200 6 (by omega), n1 3 i (by omega), n2 (110 + i) (-1) (by decide) (by decide) (by omega), n2 (110 + i) 0 (by decide) (by decide) (by omega), n2 (110 + i) 1 (by decide) (by decide) (by omega), n2 (110 + i) 2 (by decide) (by decide) (by omega), n2 (110 + i) 3 (by decide) (by decide) (by omega), n1 207 i (by omega), n1 208 i (by omega), n1 209 i (by omega)]
    rcases hi with ⟨w | w, w2⟩
    · rw [dlM_r a0 (by omega) i0 w.1 (by omega)]
      exact ⟨Or.inl ⟨w.1, w.2.1, w.2.2.1, w.2.2.2.1, w.2.2.2.2.1, w.2.2.2.2.2.1, w.2.2.2.2.2.2.1, by omega, w.2.2.2.2.2.2.2.2.1, w.2.2.2.2.2.2.2.2.2.1, by omega⟩, w2⟩
    · exact ⟨Or.inr ⟨w.1, w.2.1, by omega⟩, w2⟩
  · intro b b0 b1
    have hbb := aA b b0 b1
    rw [n1 200 10 (by omega), n1 200 30 (by omega), n1 4 b (by omega), n2 (120 + b) (-1) (by decide) (by decide) (by omega), n2 (120 + b) 0 (by decide) (by decide) (by omega), n2 (120 + b) 1 (by decide) (by decide) (by omega), n2 (120 + b) 2 (by decide) (by decide) (by omega), n2 (120 + b) 3 (by decide) (by decide) (by omega), dlM_ne (x := 120 + b) (k := 4) (by omega) (by omega), n2 (120 + b) 5 (by decide) (by decide) (by omega), n2 (120 + b) 6 (by decide) (by decide) (by omega), n2 (120 + b) 7 (by decide) (by decide) (by omega), n1 (140 + b) (-1) (by omega), n1 (140 + b) (-2) (by omega), n1 211 b (by omega), n1 212 b (by omega), n1 213 b (by omega), n1 214 b (by omega), n1 215 b (by omega), n1 216 b (by omega), n1 217 b (by omega)]
    by_cases c : b = a
    · subst c
      rw [dlM_p (x := 120 + b) (k := 9) (Or.inl ⟨rfl, rfl⟩), dlM_p (x := 218) (k := b) (Or.inr ⟨rfl, rfl⟩)]
      have hp1 := hp.1
      have hp2 := hp.2.1
      rcases hbb with ⟨w | w, w2⟩
      · obtain ⟨v1, v2, v3, v4, v5, v6, v7, v8, v9, v10, v11, v12, v13, v14, v15⟩ := w
        refine ⟨Or.inl ⟨v1, v2, v3, v4, v5, v6, v7, v8, v9, v10, v11, v12, v13, rfl, v15⟩, ?_⟩
        omega
      · exfalso; omega
    · rw [dlM_ne (x := 120 + b) (k := 9) (by omega) (by omega), dlM_ne (x := 218) (k := b) (by omega) (by omega)]
      exact hbb
  · intro b r b0 b1 r0 r1
    have hbb := aB b r b0 b1 r0 r1
    rw [n1 200 10 (by omega), n1 200 6 (by omega), n2 (120 + b) 8 (by decide) (by decide) (by omega), n2 (120 + b) 10 (by decide) (by decide) (by omega), n1 (140 + b) r (by omega), n1 219 _ (by omega), n1 220 _ (by omega)]
    by_cases c : b = a
    · subst c
      rw [dlM_p (x := 218) (k := b) (Or.inr ⟨rfl, rfl⟩)]
      have hpi := hp.2.2 r r0 r1
      rcases hbb with ⟨w | w, w2⟩
      · refine ⟨Or.inl ⟨w.1, w.2.1, w.2.2.1, w.2.2.2.1, w.2.2.2.2.1, w.2.2.2.2.2.1, fun y => (hpi y).1, ?_⟩, w2⟩
        rcases w.2.2.2.2.2.2.2 with v | v
        · exact Or.inl v
        · exfalso
          have v4 := v.2.2.2
          rw [z, bt_z r0 (by omega)] at v4
          omega
      · exfalso; omega
    · rw [dlM_ne (x := 218) (k := b) (by omega) (by omega)]
      exact hbb
def nd (m : mH) (a : Int) : Nat := (needM (m 211 a)).toNat
abbrev dOk (m : mH) (a : Int) : Prop := m 218 a = 0 ∧ pks m a (nd m a) ≠ -1
def dlS (m : mH) (a : Int) : mH := if dOk m a then dlM m a (pks m a (nd m a)) else m
def dlN (m : mH) : Nat → mH
  | 0 => m
  | n + 1 => dlS (dlN m n) n
def dlC (m : mH) : Nat → Int
  | 0 => 0
  | n + 1 => dlC m n + bI (dOk (dlN m n) n)
theorem dlS_200 {m : mH} {a k : Int} (R8 : m 200 6 ≤ 8) (a0 : 0 ≤ a) (a1 : a < 14) : dlS m a 200 k = m 200 k := by
  unfold dlS
  split
  · exact dlM_ne (by omega) (by omega)
  · rfl
theorem Inv_dlS {j : Nat} {m : mH} (H : Inv j m) {a : Int} (a0 : 0 ≤ a) (a1 : a < m 200 10) : Inv j (dlS m a) := by
  unfold dlS
  split
  · rename_i q
    rcases pks_b H (a := a) (nd m a) with w | w
    · exact absurd w q.2
    · exact Inv_deal H a0 a1 q.1 ⟨w.1, w.2.1, w.2.2.1⟩
  · exact H
theorem Inv_dlN {j : Nat} {m : mH} (H : Inv j m) : ∀ n : Nat, (n : Int) ≤ m 200 10 → Inv j (dlN m n) ∧ (∀ k, dlN m n 200 k = m 200 k)
  | 0, _ => ⟨H, fun _ => rfl⟩
  | n + 1, hn => by
    have hN := H.ns
    have ih := Inv_dlN H n (by omega)
    refine ⟨Inv_dlS ih.1 (by omega) (by rw [ih.2]; omega), fun k => ?_⟩
    show dlS (dlN m n) n 200 k = _
    rw [dlS_200 (by rw [ih.2]; omega) (by omega) (by omega), ih.2]
theorem dlC_b {m : mH} : ∀ n : Nat, 0 ≤ dlC m n ∧ dlC m n ≤ n
  | 0 => ⟨Int.le_refl _, Int.le_refl _⟩
  | n + 1 => by
    have ih := dlC_b (m := m) n
    rw [dlC]
    unfold bI
    split <;> omega
def dtI (h g : mH) (a p : Int) (n : Nat) : Prop := St g ∧ (∀ x k : Int, ¬ (x = 120 + a ∧ k = 9) → ¬ (110 ≤ x ∧ x < 118 ∧ k = 4) → g x k = h x k) ∧ g (120 + a) 9 = p ∧ ∀ r : Int, 0 ≤ r → r < 8 → g (110 + r) 4 = h (110 + r) 4 + (if r < (n : Int) then bt p r else 0)
theorem dtI_t {h g : mH} {a p : Int} {n : Nat} (I : dtI h g a p n) (a0 : 0 ≤ a) (n8 : n < 8) (q : bt p n = 1) : dtI h (up2 g (110 + n) 4 (g (110 + n) 4 + 1)) a p (n + 1) := by
  obtain ⟨i1, i2, i3, i4⟩ := I
  refine ⟨i1.upD (by omega), fun x k q1 q2 => ?_, ?_, fun r r0 r1 => ?_⟩
  · rw [up2_ne (by omega)]
    exact i2 x k q1 q2
  · rw [up2_ne (by omega)]
    exact i3
  · by_cases c : r = n
    · subst c
      rw [up2_eq, i4 _ r0 r1, if_neg (by omega), if_pos (by omega), q]
      omega
    · rw [up2_ne (by omega), i4 r r0 r1]
      by_cases c2 : r < (n : Int)
      · rw [if_pos c2, if_pos (by omega)]
      · rw [if_neg c2, if_neg (by omega)]
theorem dtI_f {h g : mH} {a p : Int} {n : Nat} (I : dtI h g a p n) (q : bt p n = 0) : dtI h g a p (n + 1) := by
  obtain ⟨i1, i2, i3, i4⟩ := I
  refine ⟨i1, i2, i3, fun r r0 r1 => ?_⟩
  rw [i4 r r0 r1]
  by_cases c : r = n
  · rw [if_neg (by omega), if_pos (by omega), c, q]
  · by_cases c2 : r < (n : Int)
    · rw [if_pos c2, if_pos (by omega)]
    · rw [if_neg c2, if_neg (by omega)]
theorem dt_cl {j : Nat} {h g m : mH} {a : Int} (H : Inv j m) (e : Cl h m) (a0 : 0 ≤ a) (a1 : a < m 200 10) (z : m 218 a = 0) (I : dtI h g a (pkR m a) (m 200 6).toNat) : Cl g (dlS m a) := by
  have hn := H.ns
  obtain ⟨i1, i2, i3, i4⟩ := I
  have hz := H.a9 a0 a1
  intro x k q
  unfold dlS
  by_cases c : dOk m a
  · rw [if_pos c]
    have ep : pkR m a = pks m a (nd m a) := if_neg c.2
    rw [ep] at i3 i4
    by_cases c1 : x = 120 + a ∧ k = 9
    · rw [dlM_p (Or.inl c1), c1.1, c1.2, i3]
    · by_cases c2 : 110 ≤ x ∧ x < 118 ∧ k = 4
      · have h4 := i4 (x - 110) (by omega) (by omega)
        rw [show 110 + (x - 110) = x by omega] at h4
        rw [c2.2.2, h4, e _ _ (by omega)]
        by_cases c3 : x - 110 < m 200 6
        · rw [if_pos (by omega)]
          unfold dlM
          rw [if_neg (by omega), if_pos (by omega)]
        · rw [if_neg (by omega), dlM_ne (by omega) (by omega)]
          omega
      · rw [i2 x k c1 c2, dlM_ne (by omega) (by omega)]
        exact e x k q
  · rw [if_neg c]
    have ep : pkR m a = 0 := if_pos (by
      by_cases w : pks m a (nd m a) = -1
      · exact w
      · exact absurd ⟨z, w⟩ c)
    rw [ep] at i3 i4
    by_cases c1 : x = 120 + a ∧ k = 9
    · rw [c1.1, c1.2, i3, hz, z]
    · by_cases c2 : 110 ≤ x ∧ x < 118 ∧ k = 4
      · have h4 := i4 (x - 110) (by omega) (by omega)
        rw [show 110 + (x - 110) = x by omega, bt_z (by omega) (by omega)] at h4
        rw [c2.2.2, h4, e _ _ (by omega)]
        split <;> omega
      · rw [i2 x k c1 c2]
        exact e x k q
theorem s_X11_dealTo {u : gT} {j : Nat} {h m : mH} {d b : Nat} (H : Inv j m) (e : Cl h m) (hS : St h) {a : Int} (a0 : 0 ≤ a) (a1 : a < m 200 10) {p : Int} (p0 : 0 ≤ p) (p1 : p < 256) : Rlt (gX (gq u)) MX11_dealTo (d + 1) b [(2, 1), (2, 120 + a), (0, p)] h (fun x h1 => x = (9, 0) ∧ dtI h h1 a p (m 200 6).toNat) := by
  refine Rlt.of ?_
  have hn := H.ns
  have e12 := H.n12
  have e13 := H.n13
  have e11 := H.n11
  have loop : ∀ n : Nat, n ≤ (m 200 6).toNat → ∀ g, dtI h g a p n → WP (gX (gq u)) MX11_dealTo (d + 1) b (fun x h1 => x = (9, 0) ∧ dtI h h1 a p (m 200 6).toNat) 7 [(2, 1), (2, 120 + a), (0, p), (0, (n : Int))] [] g := by
    refine loop_w (m 200 6).toNat (fun n hn2 ih => ?_)
    intro g I
    have ge : ∀ x k : Int, x = 1 ∨ x = 3 ∨ (110 ≤ x ∧ x < 118 ∧ k < 0) → g x k = m x k := fun x k q => by rw [I.2.1 x k (by omega) (by omega)]; exact e x k (by omega)
    have hb01 := fun z : (n : Int) < 8 => bt_01 (x := p) (i := (n : Int)) p0 (by omega) (by omega) (by omega)
    refine wp_iload_n rfl rfl dX11_dealTo_7 ?_
    refine wp_aload_n rfl rfl dX11_dealTo_8 ?_
    refine wp_getfield1 (z := 12) (kI := 12) fX11_132 dX11_dealTo_9 (by first | omega | (simp (disch := omega) only [up2_ne, up2_eq, ge, e11, e12, e13, H.r3, H.rz, st_1_m1 I.1, st_1_m1 H.1, st_1_1 I.1, st_1_1 H.1, st_3_m2 I.1, st_3_m2 H.1, st_3_m1 I.1, st_3_m1 H.1]; first | done | omega)) (by first | assumption | (simp (disch := omega) only [up2_ne, up2_eq, ge, e11, e12, e13, H.r3, H.rz, st_1_m1 I.1, st_1_m1 H.1, st_1_1 I.1, st_1_1 H.1, st_3_m2 I.1, st_3_m2 H.1, st_3_m1 I.1, st_3_m1 H.1]; first | done | rfl | omega)) rfl rfl ?_
    try simp (disch := omega) only [up2_ne, up2_eq, ge, e11, e12, e13, H.r3, H.rz, st_1_m1 I.1, st_1_m1 H.1, st_1_1 I.1, st_1_1 H.1, st_3_m2 I.1, st_3_m2 H.1, st_3_m1 I.1, st_3_m1 H.1]
    refine wp_icmp_ge (tgt := 44) (by first | assumption | exact bI_in _ | exact ⟨by omega, by omega⟩ | exact iAnd_in | exact iOr_in | exact iShr_in | exact iShl_in | exact iXor_in | exact hxs _) (by first | assumption | exact bI_in _ | exact ⟨by omega, by omega⟩ | exact iAnd_in | exact iOr_in | exact iShr_in | exact iShl_in | exact iXor_in | exact hxs _) dX11_dealTo_12 (by decide) (fun c1 => ?_) (fun c1 => ?_)
    · refine wp_vret dX11_dealTo_44 rfl ?_
      have en : n = (m 200 6).toNat := by omega
      rw [← en]
      exact ⟨rfl, I⟩
    · refine wp_iload_n rfl rfl dX11_dealTo_15 ?_
      refine wp_iload_n rfl rfl dX11_dealTo_16 ?_
      refine wp_cS2 okX11_hasBit wX11_270 dX11_dealTo_17 rfl (Nat.le_of_ble_eq_true rfl) (Nat.le_of_ble_eq_true rfl) (s_X11_hasBit) (Nat.zero_le _) ?_
      try simp (disch := omega) only [up2_ne, up2_eq, ge, e11, e12, e13, H.r3, H.rz, st_1_m1 I.1, st_1_m1 H.1, st_1_1 I.1, st_1_1 H.1, st_3_m2 I.1, st_3_m2 H.1, st_3_m1 I.1, st_3_m1 H.1]
      refine wp_ifB_eq (tgt := 38) dX11_dealTo_20 (by decide) (fun c2 => ?_) (fun c2 => ?_)
      · refine wp_iinc rfl rfl dX11_dealTo_38 rfl rfl ?_
        try simp only [List.set_cons_zero, List.set_cons_succ]
        refine wp_goto (tgt := 7) dX11_dealTo_41 (by decide) ?_
        have hb01 := hb01 (by omega)
        first
          | exact ih (by omega) _ (dtI_t I a0 (by omega) (by omega))
          | exact ih (by omega) _ (dtI_f I (by omega))
      · refine wp_aload_n rfl rfl dX11_dealTo_23 ?_
        refine wp_getfield1 (z := 12) (kI := 1) fX11_17 dX11_dealTo_24 (by first | omega | (simp (disch := omega) only [up2_ne, up2_eq, ge, e11, e12, e13, H.r3, H.rz, st_1_m1 I.1, st_1_m1 H.1, st_1_1 I.1, st_1_1 H.1, st_3_m2 I.1, st_3_m2 H.1, st_3_m1 I.1, st_3_m1 H.1]; first | done | omega)) (by first | assumption | (simp (disch := omega) only [up2_ne, up2_eq, ge, e11, e12, e13, H.r3, H.rz, st_1_m1 I.1, st_1_m1 H.1, st_1_1 I.1, st_1_1 H.1, st_3_m2 I.1, st_3_m2 H.1, st_3_m1 I.1, st_3_m1 H.1]; first | done | rfl | omega)) rfl rfl ?_
        try simp (disch := omega) only [up2_ne, up2_eq, ge, e11, e12, e13, H.r3, H.rz, st_1_m1 I.1, st_1_m1 H.1, st_1_1 I.1, st_1_1 H.1, st_3_m2 I.1, st_3_m2 H.1, st_3_m1 I.1, st_3_m1 H.1]
        refine wp_iload_n rfl rfl dX11_dealTo_27 ?_
        refine wp_aaload1 dX11_dealTo_28 (by first | omega | (simp (disch := omega) only [up2_ne, up2_eq, ge, e11, e12, e13, H.r3, H.rz, st_1_m1 I.1, st_1_m1 H.1, st_1_1 I.1, st_1_1 H.1, st_3_m2 I.1, st_3_m2 H.1, st_3_m1 I.1, st_3_m1 H.1]; first | done | omega)) (by first | omega | (simp (disch := omega) only [up2_ne, up2_eq, ge, e11, e12, e13, H.r3, H.rz, st_1_m1 I.1, st_1_m1 H.1, st_1_1 I.1, st_1_1 H.1, st_3_m2 I.1, st_3_m2 H.1, st_3_m1 I.1, st_3_m1 H.1]; first | done | omega)) (by first | omega | (simp (disch := omega) only [up2_ne, up2_eq, ge, e11, e12, e13, H.r3, H.rz, st_1_m1 I.1, st_1_m1 H.1, st_1_1 I.1, st_1_1 H.1, st_3_m2 I.1, st_3_m2 H.1, st_3_m1 I.1, st_3_m1 H.1]; first | done | omega)) (by first | omega | (simp (disch := omega) only [up2_ne, up2_eq, ge, e11, e12, e13, H.r3, H.rz, st_1_m1 I.1, st_1_m1 H.1, st_1_1 I.1, st_1_1 H.1, st_3_m2 I.1, st_3_m2 H.1, st_3_m1 I.1, st_3_m1 H.1]; first | done | omega)) ?_
        try simp (disch := omega) only [up2_ne, up2_eq, ge, e11, e12, e13, H.r3, H.rz, st_1_m1 I.1, st_1_m1 H.1, st_1_1 I.1, st_1_1 H.1, st_3_m2 I.1, st_3_m2 H.1, st_3_m1 I.1, st_3_m1 H.1]
        refine wp_dup (by decide) dX11_dealTo_29 ?_
        refine wp_getfield1 (z := 7) (kI := 4) fX11_151 dX11_dealTo_30 (by first | omega | (simp (disch := omega) only [up2_ne, up2_eq, ge, e11, e12, e13, H.r3, H.rz, st_1_m1 I.1, st_1_m1 H.1, st_1_1 I.1, st_1_1 H.1, st_3_m2 I.1, st_3_m2 H.1, st_3_m1 I.1, st_3_m1 H.1]; first | done | omega)) (by first | assumption | (simp (disch := omega) only [up2_ne, up2_eq, ge, e11, e12, e13, H.r3, H.rz, st_1_m1 I.1, st_1_m1 H.1, st_1_1 I.1, st_1_1 H.1, st_3_m2 I.1, st_3_m2 H.1, st_3_m1 I.1, st_3_m1 H.1]; first | done | rfl | omega)) rfl rfl ?_
        try simp (disch := omega) only [up2_ne, up2_eq, ge, e11, e12, e13, H.r3, H.rz, st_1_m1 I.1, st_1_m1 H.1, st_1_1 I.1, st_1_1 H.1, st_3_m2 I.1, st_3_m2 H.1, st_3_m1 I.1, st_3_m1 H.1]
        refine wp_iconst dX11_dealTo_33 ?_
        refine wp_iadd dX11_dealTo_34 ?_
        refine wp_putfield1 (z := 7) (kI := 4) fX11_151 dX11_dealTo_35 (by first | omega | (simp (disch := omega) only [up2_ne, up2_eq, ge, e11, e12, e13, H.r3, H.rz, st_1_m1 I.1, st_1_m1 H.1, st_1_1 I.1, st_1_1 H.1, st_3_m2 I.1, st_3_m2 H.1, st_3_m1 I.1, st_3_m1 H.1]; first | done | omega)) (by first | assumption | (simp (disch := omega) only [up2_ne, up2_eq, ge, e11, e12, e13, H.r3, H.rz, st_1_m1 I.1, st_1_m1 H.1, st_1_1 I.1, st_1_1 H.1, st_3_m2 I.1, st_3_m2 H.1, st_3_m1 I.1, st_3_m1 H.1]; first | done | rfl | omega)) rfl rfl ?_
        refine wp_iinc rfl rfl dX11_dealTo_38 rfl rfl ?_
        try simp only [List.set_cons_zero, List.set_cons_succ]
        refine wp_goto (tgt := 7) dX11_dealTo_41 (by decide) ?_
        have hb01 := hb01 (by omega)
        first
          | exact ih (by omega) _ (dtI_t I a0 (by omega) (by omega))
          | exact ih (by omega) _ (dtI_f I (by omega))
  show WP (gX (gq u)) MX11_dealTo (d + 1) b _ 0 [(2, 1), (2, 120 + a), (0, p), (9, 0)] [] h
  refine wp_aload_n rfl rfl dX11_dealTo_0 ?_
  refine wp_iload_n rfl rfl dX11_dealTo_1 ?_
  refine wp_putfield1 (z := 1) (kI := 9) fX11_223 dX11_dealTo_2 (by first | omega | (simp (disch := omega) only [up2_ne, up2_eq, e, e11, e12, e13, H.a4, H.az, H.r3, H.rz, st_1_m1 hS, st_1_m1 H.1, st_1_1 hS, st_1_1 H.1, st_3_m2 hS, st_3_m2 H.1, st_3_m1 hS, st_3_m1 H.1]; first | done | omega)) (by first | assumption | (simp (disch := omega) only [up2_ne, up2_eq, e, e11, e12, e13, H.a4, H.az, H.r3, H.rz, st_1_m1 hS, st_1_m1 H.1, st_1_1 hS, st_1_1 H.1, st_3_m2 hS, st_3_m2 H.1, st_3_m1 hS, st_3_m1 H.1]; first | done | rfl | omega)) rfl rfl ?_
  refine wp_iconst dX11_dealTo_5 ?_
  refine wp_istore_n rfl dX11_dealTo_6 rfl (Nat.le_of_ble_eq_true rfl) rfl ?_
  try simp only [List.set_cons_zero, List.set_cons_succ]
  refine loop 0 (by omega) _ ⟨hS.upD (by omega), fun x k q1 q2 => up2_ne (by omega), up2_eq, fun r r0 r1 => ?_⟩
  rw [up2_ne (by omega), if_neg (by omega)]
  omega
theorem pkR_b {j : Nat} {m : mH} (H : Inv j m) {a : Int} : 0 ≤ pkR m a ∧ pkR m a < 256 := by
  unfold pkR
  split
  · decide
  · rename_i q
    rcases pks_b H (a := a) (needM (m 211 a)).toNat with w | w
    · exact absurd w q
    · exact ⟨w.1, w.2.1⟩
set_option maxHeartbeats 1000000 in
theorem s_X11_deal {u : gT} {j : Nat} {h m : mH} {d b : Nat} (H : Inv j m) (e : Cl h m) (hS : St h) : Rlt (gX (gq u)) MX11_deal (d + 4) b [(2, 1)] h (fun r h1 => r = (0, dlC m (m 200 10).toNat) ∧ St h1 ∧ Cl h1 (dlN m (m 200 10).toNat) ∧ Re h h1) := by
  refine Rlt.of ?_
  have hn := H.ns
  have loop : ∀ n : Nat, n ≤ (m 200 10).toNat → ∀ g, St g → Cl g (dlN m n) → Re h g → WP (gX (gq u)) MX11_deal (d + 4) b (fun r h1 => r = (0, dlC m (m 200 10).toNat) ∧ St h1 ∧ Cl h1 (dlN m (m 200 10).toNat) ∧ Re h h1) 4 [(2, 1), (0, dlC m n), (0, (n : Int)), (9, 0)] [] g := by
    refine loop_w (m 200 10).toNat (fun n hn2 ih => ?_)
    intro g gS ge gR
    have hI2 := Inv_dlN H n (by omega)
    have H2 := hI2.1
    have hA2 := hI2.2 10
    have hra := H2.ra (a := (n : Int)) (by omega)
    have e13 := H2.n13
    have hC1 : dlC m (n + 1) = dlC m n + bI (dOk (dlN m n) n) := rfl
    have hN1 : dlN m (n + 1) = dlS (dlN m n) n := rfl
    rw [hC1, hN1] at ih
    generalize hm2 : dlN m n = m2 at *
    refine wp_iload_n rfl rfl dX11_deal_4 ?_
    refine wp_aload_n rfl rfl dX11_deal_5 ?_
    refine wp_getfield1 (z := 12) (kI := 13) fX11_172 dX11_deal_6 (by first | omega | (simp (disch := omega) only [up2_ne, up2_eq, ge, e13, hA2, H2.a4, H2.az, H2.a9, st_1_m1 gS, st_1_m1 H2.1, st_1_2 gS, st_1_2 H2.1, st_4_m2 gS, st_4_m2 H2.1, st_4_m1 gS, st_4_m1 H2.1]; first | done | omega)) (by first | assumption | (simp (disch := omega) only [up2_ne, up2_eq, ge, e13, hA2, H2.a4, H2.az, H2.a9, st_1_m1 gS, st_1_m1 H2.1, st_1_2 gS, st_1_2 H2.1, st_4_m2 gS, st_4_m2 H2.1, st_4_m1 gS, st_4_m1 H2.1]; first | done | rfl | omega)) rfl rfl ?_
    try simp (disch := omega) only [up2_ne, up2_eq, ge, e13, hA2, H2.a4, H2.az, H2.a9, st_1_m1 gS, st_1_m1 H2.1, st_1_2 gS, st_1_2 H2.1, st_4_m2 gS, st_4_m2 H2.1, st_4_m1 gS, st_4_m1 H2.1]
    refine wp_icmp_ge (tgt := 57) (by first | assumption | exact bI_in _ | exact ⟨by omega, by omega⟩ | exact iAnd_in | exact iOr_in | exact iShr_in | exact iShl_in | exact iXor_in | exact hxs _) (by first | assumption | exact bI_in _ | exact ⟨by omega, by omega⟩ | exact iAnd_in | exact iOr_in | exact iShr_in | exact iShl_in | exact iXor_in | exact hxs _) dX11_deal_9 (by decide) (fun c1 => ?_) (fun c1 => ?_)
    · refine wp_iload_n rfl rfl dX11_deal_57 ?_
      refine wp_iret dX11_deal_58 rfl ?_
      have en : n = (m 200 10).toNat := by omega
      rw [← en]
      subst hm2
      exact ⟨rfl, gS, ge, gR⟩
    · refine wp_aload_n rfl rfl dX11_deal_12 ?_
      refine wp_getfield1 (z := 12) (kI := 2) fX11_23 dX11_deal_13 (by first | omega | (simp (disch := omega) only [up2_ne, up2_eq, ge, e13, hA2, H2.a4, H2.az, H2.a9, st_1_m1 gS, st_1_m1 H2.1, st_1_2 gS, st_1_2 H2.1, st_4_m2 gS, st_4_m2 H2.1, st_4_m1 gS, st_4_m1 H2.1]; first | done | omega)) (by first | assumption | (simp (disch := omega) only [up2_ne, up2_eq, ge, e13, hA2, H2.a4, H2.az, H2.a9, st_1_m1 gS, st_1_m1 H2.1, st_1_2 gS, st_1_2 H2.1, st_4_m2 gS, st_4_m2 H2.1, st_4_m1 gS, st_4_m1 H2.1]; first | done | rfl | omega)) rfl rfl ?_
      try simp (disch := omega) only [up2_ne, up2_eq, ge, e13, hA2, H2.a4, H2.az, H2.a9, st_1_m1 gS, st_1_m1 H2.1, st_1_2 gS, st_1_2 H2.1, st_4_m2 gS, st_4_m2 H2.1, st_4_m1 gS, st_4_m1 H2.1]
      refine wp_iload_n rfl rfl dX11_deal_16 ?_
      refine wp_aaload1 dX11_deal_17 (by first | omega | (simp (disch := omega) only [up2_ne, up2_eq, ge, e13, hA2, H2.a4, H2.az, H2.a9, st_1_m1 gS, st_1_m1 H2.1, st_1_2 gS, st_1_2 H2.1, st_4_m2 gS, st_4_m2 H2.1, st_4_m1 gS, st_4_m1 H2.1]; first | done | omega)) (by first | omega | (simp (disch := omega) only [up2_ne, up2_eq, ge, e13, hA2, H2.a4, H2.az, H2.a9, st_1_m1 gS, st_1_m1 H2.1, st_1_2 gS, st_1_2 H2.1, st_4_m2 gS, st_4_m2 H2.1, st_4_m1 gS, st_4_m1 H2.1]; first | done | omega)) (by first | omega | (simp (disch := omega) only [up2_ne, up2_eq, ge, e13, hA2, H2.a4, H2.az, H2.a9, st_1_m1 gS, st_1_m1 H2.1, st_1_2 gS, st_1_2 H2.1, st_4_m2 gS, st_4_m2 H2.1, st_4_m1 gS, st_4_m1 H2.1]; first | done | omega)) (by first | omega | (simp (disch := omega) only [up2_ne, up2_eq, ge, e13, hA2, H2.a4, H2.az, H2.a9, st_1_m1 gS, st_1_m1 H2.1, st_1_2 gS, st_1_2 H2.1, st_4_m2 gS, st_4_m2 H2.1, st_4_m1 gS, st_4_m1 H2.1]; first | done | omega)) ?_
      try simp (disch := omega) only [up2_ne, up2_eq, ge, e13, hA2, H2.a4, H2.az, H2.a9, st_1_m1 gS, st_1_m1 H2.1, st_1_2 gS, st_1_2 H2.1, st_4_m2 gS, st_4_m2 H2.1, st_4_m1 gS, st_4_m1 H2.1]
      refine wp_astore_n rfl dX11_deal_18 rfl (Nat.le_of_ble_eq_true rfl) rfl ?_
      try simp only [List.set_cons_zero, List.set_cons_succ]
      refine wp_aload_n rfl rfl dX11_deal_19 ?_
      refine wp_getfield1 (z := 1) (kI := 9) fX11_223 dX11_deal_20 (by first | omega | (simp (disch := omega) only [up2_ne, up2_eq, ge, e13, hA2, H2.a4, H2.az, H2.a9, st_1_m1 gS, st_1_m1 H2.1, st_1_2 gS, st_1_2 H2.1, st_4_m2 gS, st_4_m2 H2.1, st_4_m1 gS, st_4_m1 H2.1]; first | done | omega)) (by first | assumption | (simp (disch := omega) only [up2_ne, up2_eq, ge, e13, hA2, H2.a4, H2.az, H2.a9, st_1_m1 gS, st_1_m1 H2.1, st_1_2 gS, st_1_2 H2.1, st_4_m2 gS, st_4_m2 H2.1, st_4_m1 gS, st_4_m1 H2.1]; first | done | rfl | omega)) rfl rfl ?_
      try simp (disch := omega) only [up2_ne, up2_eq, ge, e13, hA2, H2.a4, H2.az, H2.a9, st_1_m1 gS, st_1_m1 H2.1, st_1_2 gS, st_1_2 H2.1, st_4_m2 gS, st_4_m2 H2.1, st_4_m1 gS, st_4_m1 H2.1]
      refine wp_if_ne (tgt := 51) (by first | assumption | exact bI_in _ | exact ⟨by omega, by omega⟩ | exact iAnd_in | exact iOr_in | exact iShr_in | exact iShl_in | exact iXor_in | exact hxs _) dX11_deal_23 (by decide) (fun c2 => ?_) (fun c2 => ?_)
      · refine wp_iinc rfl rfl dX11_deal_51 rfl rfl ?_
        try simp only [List.set_cons_zero, List.set_cons_succ]
        refine wp_goto (tgt := 4) dX11_deal_54 (by decide) ?_
        refine wp_dropAt 3 rfl ?_
        have ih := ih (by omega)
        first
          | (have hd : ¬ dOk m2 n := fun z => by have := z.1; omega
             have z := ih g gS (by unfold dlS; rw [if_neg hd]; exact ge) gR
             rw [bI_f hd, Int.add_zero] at z
             exact z)
          | (have hd : ¬ dOk m2 n := fun z => by
               have e1 : pkR m2 n = pks m2 n (nd m2 n) := if_neg z.2
               have e2 : pks m2 n (nd m2 n) = pkR m2 n := e1.symm
               rcases pks_b H2 (a := (n : Int)) (nd m2 n) with w | w
               · exact z.2 w
               · exact w.2.2.2 (by have := needM_b (k := m2 211 n); unfold nd; omega) (by omega)
             have z := ih g2 I.1 (dt_cl H2 ge (by omega) (by omega) (by omega) I) (fun x k y => by rw [I.2.1 x k (by omega) (by omega)]; exact gR x k y)
             rw [bI_f hd] at z
             exact z)
          | (have hd : dOk m2 n := ⟨by omega, fun w => by
               have e1 : pkR m2 n = 0 := if_pos w
               omega⟩
             have z := ih g2 I.1 (dt_cl H2 ge (by omega) (by omega) (by omega) I) (fun x k y => by rw [I.2.1 x k (by omega) (by omega)]; exact gR x k y)
             rw [bI_t hd] at z
             exact z)
      · refine wp_aload_n rfl rfl dX11_deal_26 ?_
        refine wp_aload_n rfl rfl dX11_deal_27 ?_
        refine wp_aload_n rfl rfl dX11_deal_28 ?_
        refine wp_aload_n rfl rfl dX11_deal_29 ?_
        refine wp_cV1 (ci := 11) okX11_pickReaders rfl rfl wX11_278 dX11_deal_30 rfl (Nat.le_of_ble_eq_true rfl) (Nat.le_of_ble_eq_true rfl) (by first | omega | (simp (disch := omega) only [up2_ne, up2_eq, ge, e13, hA2, H2.a4, H2.az, H2.a9, st_1_m1 gS, st_1_m1 H2.1, st_1_2 gS, st_1_2 H2.1, st_4_m2 gS, st_4_m2 H2.1, st_4_m1 gS, st_4_m1 H2.1]; first | done | omega)) (by first | assumption | (simp (disch := omega) only [up2_ne, up2_eq, ge, e13, hA2, H2.a4, H2.az, H2.a9, st_1_m1 gS, st_1_m1 H2.1, st_1_2 gS, st_1_2 H2.1, st_4_m2 gS, st_4_m2 H2.1, st_4_m1 gS, st_4_m1 H2.1]; first | done | rfl | omega)) (s_X11_pickReaders H2 ge gS (by omega) (by omega)) (Nat.zero_le _) ?_
        try simp (disch := omega) only [up2_ne, up2_eq, ge, e13, hA2, H2.a4, H2.az, H2.a9, st_1_m1 gS, st_1_m1 H2.1, st_1_2 gS, st_1_2 H2.1, st_4_m2 gS, st_4_m2 H2.1, st_4_m1 gS, st_4_m1 H2.1]
        refine wp_cV2r (ci := 11) okX11_dealTo rfl rfl wX11_281 dX11_deal_33 (Nat.le_of_ble_eq_true rfl) (Nat.le_of_ble_eq_true rfl) (by first | omega | (simp (disch := omega) only [up2_ne, up2_eq, ge, e13, hA2, H2.a4, H2.az, H2.a9, st_1_m1 gS, st_1_m1 H2.1, st_1_2 gS, st_1_2 H2.1, st_4_m2 gS, st_4_m2 H2.1, st_4_m1 gS, st_4_m1 H2.1]; first | done | omega)) (by first | assumption | (simp (disch := omega) only [up2_ne, up2_eq, ge, e13, hA2, H2.a4, H2.az, H2.a9, st_1_m1 gS, st_1_m1 H2.1, st_1_2 gS, st_1_2 H2.1, st_4_m2 gS, st_4_m2 H2.1, st_4_m1 gS, st_4_m1 H2.1]; first | done | rfl | omega)) (s_X11_dealTo H2 ge gS (by omega) (by omega) (pkR_b H2).1 (pkR_b H2).2) (Nat.zero_le _) ?_
        rintro x g2 ⟨rfl, I⟩ -
        show WP _ _ _ _ _ _ _ [] _
        have ge2 : ∀ x k : Int, (x = 120 + (n : Int) ∧ k ≠ 9) → g2 x k = m2 x k := fun x k q => by rw [I.2.1 x k (by omega) (by omega)]; exact ge x k (by omega)
        have hpk := pkR_b H2 (a := (n : Int))
        refine wp_iload_n rfl rfl dX11_deal_36 ?_
        refine wp_aload_n rfl rfl dX11_deal_37 ?_
        refine wp_getfield1 (z := 1) (kI := 9) fX11_223 dX11_deal_38 (by first | omega | (simp (disch := omega) only [up2_ne, up2_eq, I.2.2.1, ge2, e13, hA2, H2.a4, H2.az, H2.a9, st_1_m1 I.1, st_1_m1 gS, st_1_m1 H2.1, st_1_2 I.1, st_1_2 gS, st_1_2 H2.1, st_4_m2 I.1, st_4_m2 gS, st_4_m2 H2.1, st_4_m1 I.1, st_4_m1 gS, st_4_m1 H2.1]; first | done | omega)) (by first | assumption | (simp (disch := omega) only [up2_ne, up2_eq, I.2.2.1, ge2, e13, hA2, H2.a4, H2.az, H2.a9, st_1_m1 I.1, st_1_m1 gS, st_1_m1 H2.1, st_1_2 I.1, st_1_2 gS, st_1_2 H2.1, st_4_m2 I.1, st_4_m2 gS, st_4_m2 H2.1, st_4_m1 I.1, st_4_m1 gS, st_4_m1 H2.1]; first | done | rfl | omega)) rfl rfl ?_
        try simp (disch := omega) only [up2_ne, up2_eq, I.2.2.1, ge2, e13, hA2, H2.a4, H2.az, H2.a9, st_1_m1 I.1, st_1_m1 gS, st_1_m1 H2.1, st_1_2 I.1, st_1_2 gS, st_1_2 H2.1, st_4_m2 I.1, st_4_m2 gS, st_4_m2 H2.1, st_4_m1 I.1, st_4_m1 gS, st_4_m1 H2.1]
        refine wp_if_ne (tgt := 48) (by first | assumption | exact bI_in _ | exact ⟨by omega, by omega⟩ | exact iAnd_in | exact iOr_in | exact iShr_in | exact iShl_in | exact iXor_in | exact hxs _) dX11_deal_41 (by decide) (fun c3 => ?_) (fun c3 => ?_)
        · refine wp_iconst dX11_deal_48 ?_
          refine wp_iadd dX11_deal_49 ?_
          refine wp_istore_n rfl dX11_deal_50 rfl (Nat.le_of_ble_eq_true rfl) rfl ?_
          try simp only [List.set_cons_zero, List.set_cons_succ]
          refine wp_iinc rfl rfl dX11_deal_51 rfl rfl ?_
          try simp only [List.set_cons_zero, List.set_cons_succ]
          refine wp_goto (tgt := 4) dX11_deal_54 (by decide) ?_
          refine wp_dropAt 3 rfl ?_
          have ih := ih (by omega)
          first
            | (have hd : ¬ dOk m2 n := fun z => by have := z.1; omega
               have z := ih g gS (by unfold dlS; rw [if_neg hd]; exact ge) gR
               rw [bI_f hd, Int.add_zero] at z
               exact z)
            | (have hd : ¬ dOk m2 n := fun z => by
                 have e1 : pkR m2 n = pks m2 n (nd m2 n) := if_neg z.2
                 have e2 : pks m2 n (nd m2 n) = pkR m2 n := e1.symm
                 rcases pks_b H2 (a := (n : Int)) (nd m2 n) with w | w
                 · exact z.2 w
                 · exact w.2.2.2 (by have := needM_b (k := m2 211 n); unfold nd; omega) (by omega)
               have z := ih g2 I.1 (dt_cl H2 ge (by omega) (by omega) (by omega) I) (fun x k y => by rw [I.2.1 x k (by omega) (by omega)]; exact gR x k y)
               rw [bI_f hd] at z
               exact z)
            | (have hd : dOk m2 n := ⟨by omega, fun w => by
                 have e1 : pkR m2 n = 0 := if_pos w
                 omega⟩
               have z := ih g2 I.1 (dt_cl H2 ge (by omega) (by omega) (by omega) I) (fun x k y => by rw [I.2.1 x k (by omega) (by omega)]; exact gR x k y)
               rw [bI_t hd] at z
               exact z)
        · refine wp_iconst dX11_deal_44 ?_
          refine wp_goto (tgt := 49) dX11_deal_45 (by decide) ?_
          refine wp_iadd dX11_deal_49 ?_
          refine wp_istore_n rfl dX11_deal_50 rfl (Nat.le_of_ble_eq_true rfl) rfl ?_
          try simp only [List.set_cons_zero, List.set_cons_succ]
          refine wp_iinc rfl rfl dX11_deal_51 rfl rfl ?_
          try simp only [List.set_cons_zero, List.set_cons_succ]
          refine wp_goto (tgt := 4) dX11_deal_54 (by decide) ?_
          refine wp_dropAt 3 rfl ?_
          have ih := ih (by omega)
          first
            | (have hd : ¬ dOk m2 n := fun z => by have := z.1; omega
               have z := ih g gS (by unfold dlS; rw [if_neg hd]; exact ge) gR
               rw [bI_f hd, Int.add_zero] at z
               exact z)
            | (have hd : ¬ dOk m2 n := fun z => by
                 have e1 : pkR m2 n = pks m2 n (nd m2 n) := if_neg z.2
                 have e2 : pks m2 n (nd m2 n) = pkR m2 n := e1.symm
                 rcases pks_b H2 (a := (n : Int)) (nd m2 n) with w | w
                 · exact z.2 w
                 · exact w.2.2.2 (by have := needM_b (k := m2 211 n); unfold nd; omega) (by omega)
               have z := ih g2 I.1 (dt_cl H2 ge (by omega) (by omega) (by omega) I) (fun x k y => by rw [I.2.1 x k (by omega) (by omega)]; exact gR x k y)
               rw [bI_f hd] at z
               exact z)
            | (have hd : dOk m2 n := ⟨by omega, fun w => by
                 have e1 : pkR m2 n = 0 := if_pos w
                 omega⟩
               have z := ih g2 I.1 (dt_cl H2 ge (by omega) (by omega) (by omega) I) (fun x k y => by rw [I.2.1 x k (by omega) (by omega)]; exact gR x k y)
               rw [bI_t hd] at z
               exact z)
  show WP (gX (gq u)) MX11_deal (d + 4) b _ 0 [(2, 1), (9, 0), (9, 0), (9, 0)] [] h
  refine wp_iconst dX11_deal_0 ?_
  refine wp_istore_n rfl dX11_deal_1 rfl (Nat.le_of_ble_eq_true rfl) rfl ?_
  try simp only [List.set_cons_zero, List.set_cons_succ]
  refine wp_iconst dX11_deal_2 ?_
  refine wp_istore_n rfl dX11_deal_3 rfl (Nat.le_of_ble_eq_true rfl) rfl ?_
  try simp only [List.set_cons_zero, List.set_cons_succ]
  exact loop 0 (by omega) h hS e (fun _ _ _ => rfl)
