/-! ===== feed: class, reference ===== -/
def bv (w i : Int) : Int := ((lShr w (8 * i)).bmod 256).bmod 256
theorem bv_in {w i : Int} : -128 ≤ bv w i ∧ bv w i ≤ 127 := by
  unfold bv
  have e1 := Int.bmod_lt (x := (lShr w (8 * i)).bmod 256) (m := 256) (by decide)
  have e2 := Int.le_bmod (x := (lShr w (8 * i)).bmod 256) (m := 256) (by decide)
  omega
def hfs (h : mH) (a lo n : Int) (f : Int → Int) : mH := fun x k => if x = a ∧ lo ≤ k ∧ k < lo + n then f (k - lo) else h x k
theorem hfs_0 {h : mH} {a lo : Int} {f : Int → Int} : hfs h a lo 0 f = h := by
  funext x k
  exact if_neg (fun q => by omega)
theorem hfs_ne {h : mH} {a lo n x k : Int} {f : Int → Int} (q : x ≠ a ∨ k < lo ∨ lo + n ≤ k) : hfs h a lo n f x k = h x k := if_neg (fun z => by omega)
theorem hfs_eq {h : mH} {a lo n k : Int} {f : Int → Int} (q : lo ≤ k) (q2 : k < lo + n) : hfs h a lo n f a k = f (k - lo) := if_pos ⟨rfl, q, q2⟩
theorem hfs_s {h : mH} {a lo n : Int} {f : Int → Int} (hn : 0 ≤ n) : up2 (hfs h a lo n f) a (lo + n) (f n) = hfs h a lo (n + 1) f := by
  funext x k
  unfold up2 hfs
  by_cases c : x = a ∧ k = lo + n
  · rw [if_pos c, if_pos ⟨c.1, by omega, by omega⟩, c.2, show lo + n - lo = n by omega]
  · rw [if_neg c]
    by_cases c2 : x = a ∧ lo ≤ k ∧ k < lo + n
    · rw [if_pos c2, if_pos ⟨c2.1, c2.2.1, by omega⟩]
    · rw [if_neg c2, if_neg (fun q => by omega)]
theorem up2_same {h : mH} {a k v : Int} (q : h a k = v) : up2 h a k v = h := by
  funext x y
  unfold up2
  split
  · rename_i c
    rw [c.1, c.2, q]
  · rfl
theorem up_feed {h : mH} {a b k p v x y : Int} (hab : a ≠ b) : up2 (up2 (up2 h a k x) b p v) a k y = up2 (up2 h b p v) a k y := by
  funext s t
  unfold up2
  by_cases c : s = a ∧ t = k
  · simp only [if_pos c]
  · by_cases c2 : s = b ∧ t = p
    · simp only [if_neg c, if_pos c2]
    · simp only [if_neg c, if_neg c2]
theorem s_X9_add {u : gT} {h : mH} {d b : Nat} {v s : Int} (hS : St h) (hs : h 7 1 = s) (s0 : 0 ≤ s) (s1 : s < 160) : Det (gX (gq u)) MX9_add d b [(2, 7), (0, v)] h (9, 0) (up2 (up2 h 13 s (v.bmod 256)) 7 1 (s + 1)) := by
  intro Q hQ
  show WP (gX (gq u)) MX9_add d b Q 0 [(2, 7), (0, v)] [] h
  refine wp_aload_n rfl rfl dX9_add_0 ?_
  refine wp_getfield1 (z := 10) (kI := 1) fX9_25 dX9_add_1 (by first | omega | (simp (disch := omega) only [up2_ne, up2_eq, hs, st_7_m1 hS, st_7_0 hS, st_13_m2 hS, st_13_m1 hS]; first | done | omega)) (by first | assumption | (simp (disch := omega) only [up2_ne, up2_eq, hs, st_7_m1 hS, st_7_0 hS, st_13_m2 hS, st_13_m1 hS]; first | done | rfl | omega)) rfl rfl ?_
  try simp (disch := omega) only [up2_ne, up2_eq, hs, st_7_m1 hS, st_7_0 hS, st_13_m2 hS, st_13_m1 hS]
  refine wp_aload_n rfl rfl dX9_add_4 ?_
  refine wp_getfield1 (z := 10) (kI := 0) fX9_9 dX9_add_5 (by first | omega | (simp (disch := omega) only [up2_ne, up2_eq, hs, st_7_m1 hS, st_7_0 hS, st_13_m2 hS, st_13_m1 hS]; first | done | omega)) (by first | assumption | (simp (disch := omega) only [up2_ne, up2_eq, hs, st_7_m1 hS, st_7_0 hS, st_13_m2 hS, st_13_m1 hS]; first | done | rfl | omega)) rfl rfl ?_
  try simp (disch := omega) only [up2_ne, up2_eq, hs, st_7_m1 hS, st_7_0 hS, st_13_m2 hS, st_13_m1 hS]
  refine wp_alen1 dX9_add_8 (by first | omega | (simp (disch := omega) only [up2_ne, up2_eq, hs, st_7_m1 hS, st_7_0 hS, st_13_m2 hS, st_13_m1 hS]; first | done | omega)) (by first | omega | (simp (disch := omega) only [up2_ne, up2_eq, hs, st_7_m1 hS, st_7_0 hS, st_13_m2 hS, st_13_m1 hS]; first | done | omega)) ?_
  try simp (disch := omega) only [up2_ne, up2_eq, hs, st_7_m1 hS, st_7_0 hS, st_13_m2 hS, st_13_m1 hS]
  refine wp_icmp_ge (tgt := 32) (by first | assumption | exact bI_in _ | exact ⟨by omega, by omega⟩ | exact iAnd_in | exact iOr_in | exact iShr_in | exact iShl_in | exact iXor_in | exact hxs _) (by first | assumption | exact bI_in _ | exact ⟨by omega, by omega⟩ | exact iAnd_in | exact iOr_in | exact iShr_in | exact iShl_in | exact iXor_in | exact hxs _) dX9_add_9 (by decide) (fun c1 => ?_) (fun c1 => ?_)
  · refine wp_vret dX9_add_32 rfl ?_
    first | exact hQ | (exfalso; omega)
  · refine wp_aload_n rfl rfl dX9_add_12 ?_
    refine wp_getfield1 (z := 10) (kI := 0) fX9_9 dX9_add_13 (by first | omega | (simp (disch := omega) only [up2_ne, up2_eq, hs, st_7_m1 hS, st_7_0 hS, st_13_m2 hS, st_13_m1 hS]; first | done | omega)) (by first | assumption | (simp (disch := omega) only [up2_ne, up2_eq, hs, st_7_m1 hS, st_7_0 hS, st_13_m2 hS, st_13_m1 hS]; first | done | rfl | omega)) rfl rfl ?_
    try simp (disch := omega) only [up2_ne, up2_eq, hs, st_7_m1 hS, st_7_0 hS, st_13_m2 hS, st_13_m1 hS]
    refine wp_aload_n rfl rfl dX9_add_16 ?_
    refine wp_getfield1 (z := 10) (kI := 1) fX9_25 dX9_add_17 (by first | omega | (simp (disch := omega) only [up2_ne, up2_eq, hs, st_7_m1 hS, st_7_0 hS, st_13_m2 hS, st_13_m1 hS]; first | done | omega)) (by first | assumption | (simp (disch := omega) only [up2_ne, up2_eq, hs, st_7_m1 hS, st_7_0 hS, st_13_m2 hS, st_13_m1 hS]; first | done | rfl | omega)) rfl rfl ?_
    try simp (disch := omega) only [up2_ne, up2_eq, hs, st_7_m1 hS, st_7_0 hS, st_13_m2 hS, st_13_m1 hS]
    refine wp_iload_n rfl rfl dX9_add_20 ?_
    refine wp_bastore1 dX9_add_21 (by first | omega | (simp (disch := omega) only [up2_ne, up2_eq, hs, st_7_m1 hS, st_7_0 hS, st_13_m2 hS, st_13_m1 hS]; first | done | omega)) (by first | assumption | (simp (disch := omega) only [up2_ne, up2_eq, hs, st_7_m1 hS, st_7_0 hS, st_13_m2 hS, st_13_m1 hS]; first | done | rfl | omega)) (by first | omega | (simp (disch := omega) only [up2_ne, up2_eq, hs, st_7_m1 hS, st_7_0 hS, st_13_m2 hS, st_13_m1 hS]; first | done | omega)) (by first | omega | (simp (disch := omega) only [up2_ne, up2_eq, hs, st_7_m1 hS, st_7_0 hS, st_13_m2 hS, st_13_m1 hS]; first | done | omega)) ?_
    refine wp_aload_n rfl rfl dX9_add_22 ?_
    refine wp_dup (by decide) dX9_add_23 ?_
    refine wp_getfield1 (z := 10) (kI := 1) fX9_25 dX9_add_24 (by first | omega | (simp (disch := omega) only [up2_ne, up2_eq, hs, st_7_m1 hS, st_7_0 hS, st_13_m2 hS, st_13_m1 hS]; first | done | omega)) (by first | assumption | (simp (disch := omega) only [up2_ne, up2_eq, hs, st_7_m1 hS, st_7_0 hS, st_13_m2 hS, st_13_m1 hS]; first | done | rfl | omega)) rfl rfl ?_
    try simp (disch := omega) only [up2_ne, up2_eq, hs, st_7_m1 hS, st_7_0 hS, st_13_m2 hS, st_13_m1 hS]
    refine wp_iconst dX9_add_27 ?_
    refine wp_iadd dX9_add_28 ?_
    refine wp_putfield1 (z := 10) (kI := 1) fX9_25 dX9_add_29 (by first | omega | (simp (disch := omega) only [up2_ne, up2_eq, hs, st_7_m1 hS, st_7_0 hS, st_13_m2 hS, st_13_m1 hS]; first | done | omega)) (by first | assumption | (simp (disch := omega) only [up2_ne, up2_eq, hs, st_7_m1 hS, st_7_0 hS, st_13_m2 hS, st_13_m1 hS]; first | done | rfl | omega)) rfl rfl ?_
    refine wp_vret dX9_add_32 rfl ?_
    first | exact hQ | (exfalso; omega)
theorem St.hfs {h : mH} {a lo n : Int} {f : Int → Int} (H : St h) (hn : stA a = true) (hk : 0 ≤ lo) : St (hfs h a lo n f) := by
  intro q hq
  have h1 := List.all_eq_true.mp hn q hq
  rw [hfs_ne]
  · exact H q hq
  · by_cases e : q.1 = a
    · simp [e] at h1
      omega
    · exact Or.inl e
theorem s_X11_feed {u : gT} {j : Nat} {h m : mH} {d b : Nat} (H : Inv j m) (e : Cl h m) (hS : St h) {n w : Int} (i1 : InI n) : Rlt (gX (gq u)) MX11_feed (d + 2) b [(2, 1), (0, n), (1, w)] h (fun x h1 => (¬ (1 ≤ n ∧ n ≤ 8) ∧ x = (0, -2) ∧ h1 = h) ∨ ((1 ≤ n ∧ n ≤ 8) ∧ 160 < m 200 29 + n ∧ x = (0, -4) ∧ h1 = h) ∨ ((1 ≤ n ∧ n ≤ 8) ∧ m 200 29 + n ≤ 160 ∧ x = (0, m 200 29 + n) ∧ h1 = up2 (hfs h 13 (m 200 29) n (bv w)) 7 1 (m 200 29 + n))) := by
  refine Rlt.of ?_
  have hn := H.ns
  have e71 := e 7 1 (by omega)
  have n71 := H.n71
  have loop : (1 ≤ n ∧ n ≤ 8) → m 200 29 + n ≤ 160 → ∀ i : Nat, i ≤ n.toNat → WP (gX (gq u)) MX11_feed (d + 2) b (fun x h1 => (¬ (1 ≤ n ∧ n ≤ 8) ∧ x = (0, -2) ∧ h1 = h) ∨ ((1 ≤ n ∧ n ≤ 8) ∧ 160 < m 200 29 + n ∧ x = (0, -4) ∧ h1 = h) ∨ ((1 ≤ n ∧ n ≤ 8) ∧ m 200 29 + n ≤ 160 ∧ x = (0, m 200 29 + n) ∧ h1 = up2 (hfs h 13 (m 200 29) n (bv w)) 7 1 (m 200 29 + n))) 34 [(2, 1), (0, n), (1, w), (9, 0), (0, (i : Int))] [] (up2 (hfs h 13 (m 200 29) (i : Int) (bv w)) 7 1 (m 200 29 + (i : Int))) := by
    intro n1 n2
    refine loop_w n.toNat (fun i hi ih => ?_)
    have hs7 : up2 (hfs h 13 (m 200 29) (i : Int) (bv w)) 7 1 (m 200 29 + (i : Int)) 7 1 = m 200 29 + (i : Int) := up2_eq
    have hSi : St (up2 (hfs h 13 (m 200 29) (i : Int) (bv w)) 7 1 (m 200 29 + (i : Int))) := (hS.hfs (by decide +kernel) (by omega)).up (by decide +kernel)
    refine wp_iload rfl dX11_feed_34 ?_
    refine wp_iload_n rfl rfl dX11_feed_36 ?_
    refine wp_icmp_ge (tgt := 62) (by first | assumption | exact bI_in _ | exact ⟨by omega, by omega⟩ | exact iAnd_in | exact iOr_in | exact iShr_in | exact iShl_in | exact iXor_in | exact hxs _) (by first | assumption | exact bI_in _ | exact ⟨by omega, by omega⟩ | exact iAnd_in | exact iOr_in | exact iShr_in | exact iShl_in | exact iXor_in | exact hxs _) dX11_feed_37 (by decide) (fun c1 => ?_) (fun c1 => ?_)
    · refine wp_aload_n rfl rfl dX11_feed_62 ?_
      refine wp_getfield1 (z := 12) (kI := 5) fX11_42 dX11_feed_63 (by first | omega | (simp (disch := omega) only [up2_ne, up2_eq, e71, n71, hfs_ne, st_1_m1 hS, st_1_5 hS, st_7_m1 hS]; first | done | omega)) (by first | assumption | (simp (disch := omega) only [up2_ne, up2_eq, e71, n71, hfs_ne, st_1_m1 hS, st_1_5 hS, st_7_m1 hS]; first | done | rfl | omega)) rfl rfl ?_
      try simp (disch := omega) only [up2_ne, up2_eq, e71, n71, hfs_ne, st_1_m1 hS, st_1_5 hS, st_7_m1 hS]
      refine wp_getfield1 (z := 10) (kI := 1) fX11_248 dX11_feed_66 (by first | omega | (simp (disch := omega) only [up2_ne, up2_eq, e71, n71, hfs_ne, st_1_m1 hS, st_1_5 hS, st_7_m1 hS]; first | done | omega)) (by first | assumption | (simp (disch := omega) only [up2_ne, up2_eq, e71, n71, hfs_ne, st_1_m1 hS, st_1_5 hS, st_7_m1 hS]; first | done | rfl | omega)) rfl rfl ?_
      try simp (disch := omega) only [up2_ne, up2_eq, e71, n71, hfs_ne, st_1_m1 hS, st_1_5 hS, st_7_m1 hS]
      refine wp_iret dX11_feed_69 rfl ?_
      have en : n = (i : Int) := by omega
      subst en
      exact Or.inr (Or.inr ⟨n1, n2, by first | rfl | (congr 1; omega), rfl⟩)
    · refine wp_aload_n rfl rfl dX11_feed_40 ?_
      refine wp_getfield1 (z := 12) (kI := 5) fX11_42 dX11_feed_41 (by first | omega | (simp (disch := omega) only [up2_ne, up2_eq, e71, n71, hfs_ne, st_1_m1 hS, st_1_5 hS, st_7_m1 hS]; first | done | omega)) (by first | assumption | (simp (disch := omega) only [up2_ne, up2_eq, e71, n71, hfs_ne, st_1_m1 hS, st_1_5 hS, st_7_m1 hS]; first | done | rfl | omega)) rfl rfl ?_
      try simp (disch := omega) only [up2_ne, up2_eq, e71, n71, hfs_ne, st_1_m1 hS, st_1_5 hS, st_7_m1 hS]
      refine wp_lload_n rfl rfl dX11_feed_44 ?_
      refine wp_bipush (by decide) dX11_feed_45 ?_
      refine wp_iload rfl dX11_feed_47 ?_
      refine wp_imul dX11_feed_49 ?_
      refine wp_lshr dX11_feed_50 ?_
      refine wp_l2i dX11_feed_51 ?_
      refine wp_i2b dX11_feed_52 ?_
      refine wp_cV1v (ci := 9) okX9_add rfl rfl wX11_251 dX11_feed_53 (Nat.le_of_ble_eq_true rfl) (Nat.le_of_ble_eq_true rfl) (by first | omega | (simp (disch := omega) only [up2_ne, up2_eq, e71, n71, hfs_ne, st_1_m1 hS, st_1_5 hS, st_7_m1 hS]; first | done | omega)) (by first | assumption | (simp (disch := omega) only [up2_ne, up2_eq, e71, n71, hfs_ne, st_1_m1 hS, st_1_5 hS, st_7_m1 hS]; first | done | rfl | omega)) (s_X9_add hSi hs7 (by omega) (by omega)) (Nat.zero_le _) ?_
      try simp (disch := omega) only [up2_ne, up2_eq, e71, n71, hfs_ne, st_1_m1 hS, st_1_5 hS, st_7_m1 hS]
      refine wp_iinc rfl rfl dX11_feed_56 rfl rfl ?_
      try simp only [List.set_cons_zero, List.set_cons_succ]
      refine wp_goto (tgt := 34) dX11_feed_59 (by decide) ?_
      have hq := ih (by omega)
      rw [up_feed (by decide)]
      have es := hfs_s (h := h) (a := 13) (lo := m 200 29) (n := (i : Int)) (f := bv w) (by omega)
      rw [show ((i + 1 : Nat) : Int) = (i : Int) + 1 by omega, ← es, show m 200 29 + ((i : Int) + 1) = m 200 29 + (i : Int) + 1 by omega] at hq
      exact hq
  show WP (gX (gq u)) MX11_feed (d + 2) b _ 0 [(2, 1), (0, n), (1, w), (9, 0), (9, 0)] [] h
  refine wp_iload_n rfl rfl dX11_feed_0 ?_
  refine wp_iconst dX11_feed_1 ?_
  refine wp_bipush (by decide) dX11_feed_2 ?_
  refine wp_cS3 okX11_isWithin wX11_98 dX11_feed_4 rfl (Nat.le_of_ble_eq_true rfl) (Nat.le_of_ble_eq_true rfl) (s_X11_isWithin (by first | assumption | exact ⟨by omega, by omega⟩) (by exact ⟨by omega, by omega⟩) (by exact ⟨by omega, by omega⟩)) (Nat.zero_le _) ?_
  try simp (disch := omega) only [up2_ne, up2_eq, e71, n71, hfs_ne, st_1_m1 hS, st_1_5 hS, st_7_m1 hS]
  refine wp_ifB_ne (tgt := 13) dX11_feed_7 (by decide) (fun c2 => ?_) (fun c2 => ?_)
  · refine wp_aload_n rfl rfl dX11_feed_13 ?_
    refine wp_getfield1 (z := 12) (kI := 5) fX11_42 dX11_feed_14 (by first | omega | (simp (disch := omega) only [up2_ne, up2_eq, e71, n71, hfs_ne, st_1_m1 hS, st_1_5 hS, st_7_m1 hS]; first | done | omega)) (by first | assumption | (simp (disch := omega) only [up2_ne, up2_eq, e71, n71, hfs_ne, st_1_m1 hS, st_1_5 hS, st_7_m1 hS]; first | done | rfl | omega)) rfl rfl ?_
    try simp (disch := omega) only [up2_ne, up2_eq, e71, n71, hfs_ne, st_1_m1 hS, st_1_5 hS, st_7_m1 hS]
    refine wp_getfield1 (z := 10) (kI := 1) fX11_248 dX11_feed_17 (by first | omega | (simp (disch := omega) only [up2_ne, up2_eq, e71, n71, hfs_ne, st_1_m1 hS, st_1_5 hS, st_7_m1 hS]; first | done | omega)) (by first | assumption | (simp (disch := omega) only [up2_ne, up2_eq, e71, n71, hfs_ne, st_1_m1 hS, st_1_5 hS, st_7_m1 hS]; first | done | rfl | omega)) rfl rfl ?_
    try simp (disch := omega) only [up2_ne, up2_eq, e71, n71, hfs_ne, st_1_m1 hS, st_1_5 hS, st_7_m1 hS]
    refine wp_iload_n rfl rfl dX11_feed_20 ?_
    refine wp_iadd dX11_feed_21 ?_
    refine wp_sipush (by decide) dX11_feed_22 ?_
    refine wp_icmp_le (tgt := 31) (by first | assumption | exact bI_in _ | exact ⟨by omega, by omega⟩ | exact iAnd_in | exact iOr_in | exact iShr_in | exact iShl_in | exact iXor_in | exact hxs _) (by first | assumption | exact bI_in _ | exact ⟨by omega, by omega⟩ | exact iAnd_in | exact iOr_in | exact iShr_in | exact iShl_in | exact iXor_in | exact hxs _) dX11_feed_25 (by decide) (fun c3 => ?_) (fun c3 => ?_)
    · refine wp_iconst dX11_feed_31 ?_
      refine wp_istore dX11_feed_32 rfl (Nat.le_of_ble_eq_true rfl) rfl ?_
      try simp only [List.set_cons_zero, List.set_cons_succ]
      have l0 := loop (by omega) (by omega) 0 (by omega)
      have es : up2 h 7 1 (m 200 29) = h := up2_same (by omega)
      rw [show (((0 : Nat) : Int)) = 0 from rfl, hfs_0, Int.add_zero, es] at l0
      exact l0
    · refine wp_bipush (by decide) dX11_feed_28 ?_
      refine wp_iret dX11_feed_30 rfl ?_
      first | exact Or.inl ⟨by omega, rfl, rfl⟩ | exact Or.inr (Or.inl ⟨by omega, by omega, rfl, rfl⟩)
  · refine wp_bipush (by decide) dX11_feed_10 ?_
    refine wp_iret dX11_feed_12 rfl ?_
    first | exact Or.inl ⟨by omega, rfl, rfl⟩ | exact Or.inr (Or.inl ⟨by omega, by omega, rfl, rfl⟩)
