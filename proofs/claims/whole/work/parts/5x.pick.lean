/-! ===== deal: picking readers ===== -/
abbrev frP (m : mH) (a has r : Int) : Prop := ¬ kb m r a ∧ bt has r = 0 ∧ rds m r < m 209 r
abbrev knP (m : mH) (a r : Int) : Prop := bt (m 207 r) (m 214 a) ≠ 0
abbrev ahd (m : mH) (a r b : Int) : Prop := (knP m a r ∧ ¬ knP m a b) ∨ ((knP m a r ↔ knP m a b) ∧ rds m r < rds m b)
def bst (m : mH) (a has : Int) : Nat → Int
  | 0 => -1
  | n + 1 => if frP m a has n ∧ (bst m a has n = -1 ∨ ahd m a n (bst m a has n)) then n else bst m a has n
theorem bst_t {m : mH} {a has : Int} {n : Nat} (q : frP m a has n) (q2 : bst m a has n = -1 ∨ ahd m a n (bst m a has n)) : bst m a has (n + 1) = n := if_pos ⟨q, q2⟩
theorem bst_f {m : mH} {a has : Int} {n : Nat} (q : ¬ (frP m a has n ∧ (bst m a has n = -1 ∨ ahd m a n (bst m a has n)))) : bst m a has (n + 1) = bst m a has n := if_neg q
theorem bst_r {m : mH} {a has : Int} : ∀ n : Nat, bst m a has n = -1 ∨ (0 ≤ bst m a has n ∧ bst m a has n < n ∧ frP m a has (bst m a has n))
  | 0 => Or.inl rfl
  | n + 1 => by
    by_cases q : frP m a has n ∧ (bst m a has n = -1 ∨ ahd m a n (bst m a has n))
    · rw [bst_t q.1 q.2]
      exact Or.inr ⟨by omega, by omega, q.1⟩
    · rw [bst_f q]
      rcases bst_r (m := m) (a := a) (has := has) n with z | z
      · exact Or.inl z
      · exact Or.inr ⟨z.1, by omega, z.2.2⟩
def bid (b : Int) : Int := if b = -1 then -1 else 110 + b
theorem bid_c {b : Int} (q : b = -1 ∨ 0 ≤ b) : (b = -1 ∧ bid b = -1) ∨ (0 ≤ b ∧ bid b = 110 + b) := by
  unfold bid
  rcases q with q | q
  · exact Or.inl ⟨q, if_pos q⟩
  · exact Or.inr ⟨q, if_neg (by omega)⟩
/-- so many picks; -1: one was wanting -/
def pks (m : mH) (a : Int) : Nat → Int
  | 0 => 0
  | k + 1 => if pks m a k = -1 ∨ bst m a (pks m a k) (m 200 6).toNat = -1 then -1 else iOr (pks m a k) (iShl 1 (bst m a (pks m a k) (m 200 6).toNat))
def pkR (m : mH) (a : Int) : Int := if pks m a (needM (m 211 a)).toNat = -1 then 0 else pks m a (needM (m 211 a)).toNat
theorem pks_x {m : mH} {a : Int} {k : Nat} (q : pks m a k = -1) : ∀ n : Nat, pks m a (k + n) = -1
  | 0 => q
  | n + 1 => if_pos (Or.inl (pks_x q n))
theorem pks_b {j : Nat} {m : mH} (H : Inv j m) {a : Int} : ∀ k : Nat, pks m a k = -1 ∨ (0 ≤ pks m a k ∧ pks m a k < 256 ∧ (∀ r : Int, 0 ≤ r → r < 8 → bt (pks m a k) r = 1 → r < m 200 6 ∧ rds m r < m 209 r) ∧ (0 < k → pks m a k ≠ 0))
  | 0 => by
    refine Or.inr ⟨Int.le_refl _, by show (0 : Int) < 256; decide, fun r r0 r1 q => ?_, fun z => absurd z (by decide)⟩
    exfalso
    have : bt (pks m a 0) r = 0 := by
      show bt 0 r = 0
      rw [bt_eq (by decide) (by decide) r0 (by omega), Int.zero_ediv]
      rfl
    omega
  | k + 1 => by
    have hn := H.ns
    by_cases q : pks m a k = -1 ∨ bst m a (pks m a k) (m 200 6).toNat = -1
    · exact Or.inl (if_pos q)
    · have e : pks m a (k + 1) = iOr (pks m a k) (iShl 1 (bst m a (pks m a k) (m 200 6).toNat)) := if_neg q
      rcases pks_b H (a := a) k with z | z
      · exact absurd (Or.inl z) q
      · rcases bst_r (m := m) (a := a) (has := pks m a k) (m 200 6).toNat with w | w
        · exact absurd (Or.inr w) q
        · generalize bst m a (pks m a k) (m 200 6).toNat = b at *
          have ho := or_bit z.1 z.2.1 w.1 (by omega)
          rw [e]
          refine Or.inr ⟨ho.1, ho.2.1, fun r r0 r1 y => ?_, fun _ y => ?_⟩
          · rw [ho.2.2 r r0 r1] at y
            by_cases c : r = b
            · rw [c]
              exact ⟨by omega, w.2.2.2.2⟩
            · rw [if_neg c] at y
              exact z.2.2.1 r r0 r1 y
          · have hb := ho.2.2 b w.1 (by omega)
            rw [if_pos rfl, y] at hb
            have : bt 0 b = 0 := by
              rw [bt_eq (by decide) (by decide) w.1 (by omega), Int.zero_ediv]
              rfl
            omega
theorem ahead_row {u : gT} {j : Nat} {h m : mH} {d b : Nat} (H : Inv j m) (e : Cl h m) {r s t : Int} (r0 : 0 ≤ r) (r1 : r < m 200 6) (s0 : 0 ≤ s) (s1 : s < m 200 6) {a : Int} (ht : m 214 a = t) : Det (gX (gq u)) MX6_isAheadOf (d + 1) b [(2, 110 + r), (2, 110 + s), (0, t)] h (0, bI (ahd m a r s)) h := by
  have hn := H.ns
  have b1 := rds_b H r0 (by omega)
  have b2 := rds_b H s0 (by omega)
  have e1 : h (110 + r) 4 = rds m r := by rw [e _ _ (by omega)]; exact H.rr r0 r1
  have e2 : h (110 + s) 4 = rds m s := by rw [e _ _ (by omega)]; exact H.rr s0 s1
  have e3 : h (110 + r) 1 = m 207 r := by rw [e _ _ (by omega)]; exact H.rt r0 r1
  have e4 : h (110 + s) 1 = m 207 s := by rw [e _ _ (by omega)]; exact H.rt s0 s1
  have := s_X6_isAheadOf (u := u) (d := d) (b := b) (h := h) (r := 110 + r) (o := 110 + s) (t := t) (by omega) (by rw [e _ _ (by omega)]; exact H.rz r0 r1) (by omega) (by rw [e _ _ (by omega)]; exact H.rz s0 s1) (by rw [e1]; exact ⟨by omega, by omega⟩) (by rw [e2]; exact ⟨by omega, by omega⟩)
  rw [e1, e2, e3, e4, ← ht] at this
  have ee : (if (bt (m 207 r) (m 214 a) ≠ 0 ↔ bt (m 207 s) (m 214 a) ≠ 0) then bI (rds m r < rds m s) else bI (bt (m 207 r) (m 214 a) ≠ 0)) = bI (ahd m a r s) := by
    by_cases p : bt (m 207 r) (m 214 a) ≠ 0 <;> by_cases q : bt (m 207 s) (m 214 a) ≠ 0
    · rw [if_pos ⟨fun _ => q, fun _ => p⟩]
      exact bI_eq.mpr ⟨fun z => Or.inr ⟨⟨fun _ => q, fun _ => p⟩, z⟩, fun z => z.elim (fun w => absurd q w.2) (fun w => w.2)⟩
    · rw [if_neg (fun z => q (z.mp p))]
      exact bI_eq.mpr ⟨fun z => Or.inl ⟨z, q⟩, fun _ => p⟩
    · rw [if_neg (fun z => p (z.mpr q))]
      exact bI_eq.mpr ⟨fun z => absurd z p, fun z => z.elim (fun w => absurd w.1 p) (fun w => absurd (w.1.mpr q) p)⟩
    · rw [if_pos ⟨fun z => absurd z p, fun z => absurd z q⟩]
      exact bI_eq.mpr ⟨fun z => Or.inr ⟨⟨fun z => absurd z p, fun z => absurd z q⟩, z⟩, fun z => z.elim (fun w => absurd w.1 p) (fun w => w.2)⟩
  rw [ee] at this
  rw [← ht]
  exact this
theorem Inv.rld {j : Nat} {m : mH} (H : Inv j m) {r : Int} (r0 : 0 ≤ r) (r1 : r < m 200 6) : 1 ≤ m 209 r ∧ m 209 r ≤ 6 ∧ rds m r ≤ m 209 r := by
  have hn := H.ns
  have := (H.2.2.2.1 r r0 (by omega)).1
  omega
set_option maxHeartbeats 1000000 in
theorem s_X11_pickReaders {u : gT} {j : Nat} {h m : mH} {d b : Nat} (H : Inv j m) (e : Cl h m) (hS : St h) {a : Int} (a0 : 0 ≤ a) (a1 : a < m 200 10) : Det (gX (gq u)) MX11_pickReaders (d + 3) b [(2, 1), (2, 120 + a)] h (0, pkR m a) h := by
  intro Q hQ
  have hn := H.ns
  have e12 := H.n12
  have e13 := H.n13
  have e11 := H.n11
  have hra := H.ra a0 (by omega)
  have hnk := needKM hra.1.1 hra.1.2
  have hnb := needM_b (k := m 211 a)
  have loop : ∀ k : Nat, k ≤ (needM (m 211 a)).toNat → ∀ p : Int, pks m a k = p → p ≠ -1 → WP (gX (gq u)) MX11_pickReaders (d + 3) b Q 13 [(2, 1), (2, 120 + a), (0, p), (0, needM (m 211 a)), (0, (k : Int)), (9, 0), (9, 0), (9, 0), (9, 0)] [] h := by
    refine loop_w (needM (m 211 a)).toNat (fun k hk2 ihk => ?_)
    intro p hp hp1
    have hpb := pks_b H (a := a) k
    rw [hp] at hpb
    have inner : (k : Int) < needM (m 211 a) → ∀ n : Nat, n ≤ (m 200 6).toNat → WP (gX (gq u)) MX11_pickReaders (d + 3) b Q 25 [(2, 1), (2, 120 + a), (0, p), (0, needM (m 211 a)), (0, (k : Int)), (2, bid (bst m a p n)), (0, (n : Int)), (9, 0), (9, 0)] [] h := by
      intro hkn
      refine loop_w (m 200 6).toNat (fun n hn2 ih => ?_)
      have hbr := bst_r (m := m) (a := a) (has := p) n
      have hbc := bid_c (show bst m a p n = -1 ∨ 0 ≤ bst m a p n by omega)
      have hrd := fun z : (n : Int) < m 200 6 => rds_b H (r := (n : Int)) (by omega) (by omega)
      have hld := fun z : (n : Int) < m 200 6 => H.rld (r := (n : Int)) (by omega) z
      refine wp_iload rfl dX11_pickReaders_25 ?_
      refine wp_aload_n rfl rfl dX11_pickReaders_27 ?_
      refine wp_getfield1 (z := 12) (kI := 12) fX11_132 dX11_pickReaders_28 (by first | omega | (simp (disch := omega) only [up2_ne, up2_eq, e, e11, e12, e13, H.a4, H.az, H.r3, H.rz, H.a0, H.a3, H.rl, H.rr, H.ri, st_1_m1 hS, st_1_m1 H.1, st_1_1 hS, st_1_1 H.1, st_3_m2 hS, st_3_m2 H.1, st_3_m1 hS, st_3_m1 H.1]; first | done | omega)) (by first | assumption | (simp (disch := omega) only [up2_ne, up2_eq, e, e11, e12, e13, H.a4, H.az, H.r3, H.rz, H.a0, H.a3, H.rl, H.rr, H.ri, st_1_m1 hS, st_1_m1 H.1, st_1_1 hS, st_1_1 H.1, st_3_m2 hS, st_3_m2 H.1, st_3_m1 hS, st_3_m1 H.1]; first | done | rfl | omega)) rfl rfl ?_
      try simp (disch := omega) only [up2_ne, up2_eq, e, e11, e12, e13, H.a4, H.az, H.r3, H.rz, H.a0, H.a3, H.rl, H.rr, H.ri, st_1_m1 hS, st_1_m1 H.1, st_1_1 hS, st_1_1 H.1, st_3_m2 hS, st_3_m2 H.1, st_3_m1 hS, st_3_m1 H.1]
      refine wp_icmp_ge (tgt := 115) (by first | assumption | exact bI_in _ | exact ⟨by omega, by omega⟩ | exact iAnd_in | exact iOr_in | exact iShr_in | exact iShl_in | exact iXor_in | exact hxs _) (by first | assumption | exact bI_in _ | exact ⟨by omega, by omega⟩ | exact iAnd_in | exact iOr_in | exact iShr_in | exact iShl_in | exact iXor_in | exact hxs _) dX11_pickReaders_31 (by decide) (fun c1 => ?_) (fun c1 => ?_)
      · have en : n = (m 200 6).toNat := by omega
        refine wp_aload rfl dX11_pickReaders_115 ?_
        refine wp_ifnonnull (tgt := 122) dX11_pickReaders_117 (by decide) (fun c2 => ?_) (fun c2 => ?_)
        · rw [show bid (bst m a p n) = 110 + bst m a p n by omega]
          refine wp_iload_n rfl rfl dX11_pickReaders_122 ?_
          refine wp_iconst dX11_pickReaders_123 ?_
          refine wp_aload rfl dX11_pickReaders_124 ?_
          refine wp_getfield1 (z := 7) (kI := 0) fX11_267 dX11_pickReaders_126 (by first | omega | (simp (disch := omega) only [up2_ne, up2_eq, e, e11, e12, e13, H.a4, H.az, H.r3, H.rz, H.a0, H.a3, H.rl, H.rr, H.ri, st_1_m1 hS, st_1_m1 H.1, st_1_1 hS, st_1_1 H.1, st_3_m2 hS, st_3_m2 H.1, st_3_m1 hS, st_3_m1 H.1]; first | done | omega)) (by first | assumption | (simp (disch := omega) only [up2_ne, up2_eq, e, e11, e12, e13, H.a4, H.az, H.r3, H.rz, H.a0, H.a3, H.rl, H.rr, H.ri, st_1_m1 hS, st_1_m1 H.1, st_1_1 hS, st_1_1 H.1, st_3_m2 hS, st_3_m2 H.1, st_3_m1 hS, st_3_m1 H.1]; first | done | rfl | omega)) rfl rfl ?_
          try simp (disch := omega) only [up2_ne, up2_eq, e, e11, e12, e13, H.a4, H.az, H.r3, H.rz, H.a0, H.a3, H.rl, H.rr, H.ri, st_1_m1 hS, st_1_m1 H.1, st_1_1 hS, st_1_1 H.1, st_3_m2 hS, st_3_m2 H.1, st_3_m1 hS, st_3_m1 H.1]
          refine wp_ishl dX11_pickReaders_129 ?_
          refine wp_ior dX11_pickReaders_130 ?_
          refine wp_istore_n rfl dX11_pickReaders_131 rfl (Nat.le_of_ble_eq_true rfl) rfl ?_
          try simp only [List.set_cons_zero, List.set_cons_succ]
          refine wp_iinc rfl rfl dX11_pickReaders_132 rfl rfl ?_
          try simp only [List.set_cons_zero, List.set_cons_succ]
          refine wp_goto (tgt := 13) dX11_pickReaders_135 (by decide) ?_
          refine wp_dropAt 5 rfl (wp_dropAt 6 rfl ?_)
          exact ihk (by omega) _ (by show (if _ then _ else _) = _; rw [hp, ← en, if_neg (by omega)]) (by have := or_bit (x := p) (r := bst m a p n) (by omega) (by omega) (by omega) (by omega); omega)
        · refine wp_iconst dX11_pickReaders_120 ?_
          refine wp_iret dX11_pickReaders_121 rfl ?_
          first
            | (have ek : k = (needM (m 211 a)).toNat := by omega
               unfold pkR at hQ
               rw [← ek, hp, if_neg hp1] at hQ
               exact hQ)
            | (have ex : pks m a (k + 1) = -1 := by
                 show (if _ then _ else _) = _
                 rw [hp, ← en, if_pos (Or.inr (by omega))]
               have ey := pks_x ex ((needM (m 211 a)).toNat - (k + 1))
               rw [show k + 1 + ((needM (m 211 a)).toNat - (k + 1)) = (needM (m 211 a)).toNat by omega] at ey
               unfold pkR at hQ
               rw [ey, if_pos rfl] at hQ
               exact hQ)
      · refine wp_aload_n rfl rfl dX11_pickReaders_34 ?_
        refine wp_getfield1 (z := 12) (kI := 1) fX11_17 dX11_pickReaders_35 (by first | omega | (simp (disch := omega) only [up2_ne, up2_eq, e, e11, e12, e13, H.a4, H.az, H.r3, H.rz, H.a0, H.a3, H.rl, H.rr, H.ri, st_1_m1 hS, st_1_m1 H.1, st_1_1 hS, st_1_1 H.1, st_3_m2 hS, st_3_m2 H.1, st_3_m1 hS, st_3_m1 H.1]; first | done | omega)) (by first | assumption | (simp (disch := omega) only [up2_ne, up2_eq, e, e11, e12, e13, H.a4, H.az, H.r3, H.rz, H.a0, H.a3, H.rl, H.rr, H.ri, st_1_m1 hS, st_1_m1 H.1, st_1_1 hS, st_1_1 H.1, st_3_m2 hS, st_3_m2 H.1, st_3_m1 hS, st_3_m1 H.1]; first | done | rfl | omega)) rfl rfl ?_
        try simp (disch := omega) only [up2_ne, up2_eq, e, e11, e12, e13, H.a4, H.az, H.r3, H.rz, H.a0, H.a3, H.rl, H.rr, H.ri, st_1_m1 hS, st_1_m1 H.1, st_1_1 hS, st_1_1 H.1, st_3_m2 hS, st_3_m2 H.1, st_3_m1 hS, st_3_m1 H.1]
        refine wp_iload rfl dX11_pickReaders_38 ?_
        refine wp_aaload1 dX11_pickReaders_40 (by first | omega | (simp (disch := omega) only [up2_ne, up2_eq, e, e11, e12, e13, H.a4, H.az, H.r3, H.rz, H.a0, H.a3, H.rl, H.rr, H.ri, st_1_m1 hS, st_1_m1 H.1, st_1_1 hS, st_1_1 H.1, st_3_m2 hS, st_3_m2 H.1, st_3_m1 hS, st_3_m1 H.1]; first | done | omega)) (by first | omega | (simp (disch := omega) only [up2_ne, up2_eq, e, e11, e12, e13, H.a4, H.az, H.r3, H.rz, H.a0, H.a3, H.rl, H.rr, H.ri, st_1_m1 hS, st_1_m1 H.1, st_1_1 hS, st_1_1 H.1, st_3_m2 hS, st_3_m2 H.1, st_3_m1 hS, st_3_m1 H.1]; first | done | omega)) (by first | omega | (simp (disch := omega) only [up2_ne, up2_eq, e, e11, e12, e13, H.a4, H.az, H.r3, H.rz, H.a0, H.a3, H.rl, H.rr, H.ri, st_1_m1 hS, st_1_m1 H.1, st_1_1 hS, st_1_1 H.1, st_3_m2 hS, st_3_m2 H.1, st_3_m1 hS, st_3_m1 H.1]; first | done | omega)) (by first | omega | (simp (disch := omega) only [up2_ne, up2_eq, e, e11, e12, e13, H.a4, H.az, H.r3, H.rz, H.a0, H.a3, H.rl, H.rr, H.ri, st_1_m1 hS, st_1_m1 H.1, st_1_1 hS, st_1_1 H.1, st_3_m2 hS, st_3_m2 H.1, st_3_m1 hS, st_3_m1 H.1]; first | done | omega)) ?_
        try simp (disch := omega) only [up2_ne, up2_eq, e, e11, e12, e13, H.a4, H.az, H.r3, H.rz, H.a0, H.a3, H.rl, H.rr, H.ri, st_1_m1 hS, st_1_m1 H.1, st_1_1 hS, st_1_1 H.1, st_3_m2 hS, st_3_m2 H.1, st_3_m1 hS, st_3_m1 H.1]
        refine wp_astore dX11_pickReaders_41 rfl (Nat.le_of_ble_eq_true rfl) rfl ?_
        try simp only [List.set_cons_zero, List.set_cons_succ]
        have hrd := hrd (by omega)
        have hld := hld (by omega)
        refine wp_iload_n rfl rfl dX11_pickReaders_43 ?_
        refine wp_iload rfl dX11_pickReaders_44 ?_
        refine wp_cS2 okX11_hasBit wX11_270 dX11_pickReaders_46 rfl (Nat.le_of_ble_eq_true rfl) (Nat.le_of_ble_eq_true rfl) (s_X11_hasBit) (Nat.zero_le _) ?_
        try simp (disch := omega) only [up2_ne, up2_eq, e, e11, e12, e13, H.a4, H.az, H.r3, H.rz, H.a0, H.a3, H.rl, H.rr, H.ri, st_1_m1 hS, st_1_m1 H.1, st_1_1 hS, st_1_1 H.1, st_3_m2 hS, st_3_m2 H.1, st_3_m1 hS, st_3_m1 H.1]
        refine wp_ifB_ne (tgt := 78) dX11_pickReaders_49 (by decide) (fun c3 => ?_) (fun c3 => ?_)
        · refine wp_iconst dX11_pickReaders_78 ?_
          refine wp_istore dX11_pickReaders_79 rfl (Nat.le_of_ble_eq_true rfl) rfl ?_
          try simp only [List.set_cons_zero, List.set_cons_succ]
          refine wp_iload rfl dX11_pickReaders_81 ?_
          refine wp_if_eq (tgt := 109) (by first | assumption | exact bI_in _ | exact ⟨by omega, by omega⟩ | exact iAnd_in | exact iOr_in | exact iShr_in | exact iShl_in | exact iXor_in | exact hxs _) dX11_pickReaders_83 (by decide) (fun hx => ?_) (fun hx => absurd hx (by decide))
          refine wp_iinc rfl rfl dX11_pickReaders_109 rfl rfl ?_
          try simp only [List.set_cons_zero, List.set_cons_succ]
          refine wp_goto (tgt := 25) dX11_pickReaders_112 (by decide) ?_
          refine wp_dropAt 7 rfl (wp_dropAt 8 rfl ?_)
          have z := ih (by omega)
          first
            | (rw [bst_t ⟨by assumption, by omega, by omega⟩ (by first | exact Or.inl (by omega) | exact Or.inr (by assumption)), show bid (n : Int) = 110 + (n : Int) from if_neg (by omega)] at z
               exact z)
            | (rw [bst_f (by rintro ⟨⟨y1, y2, y3⟩, y4 | y4⟩ <;> first | contradiction | omega)] at z
               exact z)
            | (rw [bst_f (by rintro ⟨⟨y1, y2, y3⟩, y4 | y4⟩ <;> first | contradiction | omega), show bid (bst m a p n) = 110 + bst m a p n by omega] at z
               exact z)
        · refine wp_aload rfl dX11_pickReaders_52 ?_
          refine wp_getfield1 (z := 7) (kI := 4) fX11_151 dX11_pickReaders_54 (by first | omega | (simp (disch := omega) only [up2_ne, up2_eq, e, e11, e12, e13, H.a4, H.az, H.r3, H.rz, H.a0, H.a3, H.rl, H.rr, H.ri, st_1_m1 hS, st_1_m1 H.1, st_1_1 hS, st_1_1 H.1, st_3_m2 hS, st_3_m2 H.1, st_3_m1 hS, st_3_m1 H.1]; first | done | omega)) (by first | assumption | (simp (disch := omega) only [up2_ne, up2_eq, e, e11, e12, e13, H.a4, H.az, H.r3, H.rz, H.a0, H.a3, H.rl, H.rr, H.ri, st_1_m1 hS, st_1_m1 H.1, st_1_1 hS, st_1_1 H.1, st_3_m2 hS, st_3_m2 H.1, st_3_m1 hS, st_3_m1 H.1]; first | done | rfl | omega)) rfl rfl ?_
          try simp (disch := omega) only [up2_ne, up2_eq, e, e11, e12, e13, H.a4, H.az, H.r3, H.rz, H.a0, H.a3, H.rl, H.rr, H.ri, st_1_m1 hS, st_1_m1 H.1, st_1_1 hS, st_1_1 H.1, st_3_m2 hS, st_3_m2 H.1, st_3_m1 hS, st_3_m1 H.1]
          refine wp_aload rfl dX11_pickReaders_57 ?_
          refine wp_getfield1 (z := 7) (kI := 3) fX11_148 dX11_pickReaders_59 (by first | omega | (simp (disch := omega) only [up2_ne, up2_eq, e, e11, e12, e13, H.a4, H.az, H.r3, H.rz, H.a0, H.a3, H.rl, H.rr, H.ri, st_1_m1 hS, st_1_m1 H.1, st_1_1 hS, st_1_1 H.1, st_3_m2 hS, st_3_m2 H.1, st_3_m1 hS, st_3_m1 H.1]; first | done | omega)) (by first | assumption | (simp (disch := omega) only [up2_ne, up2_eq, e, e11, e12, e13, H.a4, H.az, H.r3, H.rz, H.a0, H.a3, H.rl, H.rr, H.ri, st_1_m1 hS, st_1_m1 H.1, st_1_1 hS, st_1_1 H.1, st_3_m2 hS, st_3_m2 H.1, st_3_m1 hS, st_3_m1 H.1]; first | done | rfl | omega)) rfl rfl ?_
          try simp (disch := omega) only [up2_ne, up2_eq, e, e11, e12, e13, H.a4, H.az, H.r3, H.rz, H.a0, H.a3, H.rl, H.rr, H.ri, st_1_m1 hS, st_1_m1 H.1, st_1_1 hS, st_1_1 H.1, st_3_m2 hS, st_3_m2 H.1, st_3_m1 hS, st_3_m1 H.1]
          refine wp_icmp_ge (tgt := 78) (by first | assumption | exact bI_in _ | exact ⟨by omega, by omega⟩ | exact iAnd_in | exact iOr_in | exact iShr_in | exact iShl_in | exact iXor_in | exact hxs _) (by first | assumption | exact bI_in _ | exact ⟨by omega, by omega⟩ | exact iAnd_in | exact iOr_in | exact iShr_in | exact iShl_in | exact iXor_in | exact hxs _) dX11_pickReaders_62 (by decide) (fun c4 => ?_) (fun c4 => ?_)
          · refine wp_iconst dX11_pickReaders_78 ?_
            refine wp_istore dX11_pickReaders_79 rfl (Nat.le_of_ble_eq_true rfl) rfl ?_
            try simp only [List.set_cons_zero, List.set_cons_succ]
            refine wp_iload rfl dX11_pickReaders_81 ?_
            refine wp_if_eq (tgt := 109) (by first | assumption | exact bI_in _ | exact ⟨by omega, by omega⟩ | exact iAnd_in | exact iOr_in | exact iShr_in | exact iShl_in | exact iXor_in | exact hxs _) dX11_pickReaders_83 (by decide) (fun hx => ?_) (fun hx => absurd hx (by decide))
            refine wp_iinc rfl rfl dX11_pickReaders_109 rfl rfl ?_
            try simp only [List.set_cons_zero, List.set_cons_succ]
            refine wp_goto (tgt := 25) dX11_pickReaders_112 (by decide) ?_
            refine wp_dropAt 7 rfl (wp_dropAt 8 rfl ?_)
            have z := ih (by omega)
            first
              | (rw [bst_t ⟨by assumption, by omega, by omega⟩ (by first | exact Or.inl (by omega) | exact Or.inr (by assumption)), show bid (n : Int) = 110 + (n : Int) from if_neg (by omega)] at z
                 exact z)
              | (rw [bst_f (by rintro ⟨⟨y1, y2, y3⟩, y4 | y4⟩ <;> first | contradiction | omega)] at z
                 exact z)
              | (rw [bst_f (by rintro ⟨⟨y1, y2, y3⟩, y4 | y4⟩ <;> first | contradiction | omega), show bid (bst m a p n) = 110 + bst m a p n by omega] at z
                 exact z)
          · refine wp_aload_n rfl rfl dX11_pickReaders_65 ?_
            refine wp_aload rfl dX11_pickReaders_66 ?_
            refine wp_cV1 (ci := 0) okX0_isBarredTo rfl rfl wX11_274 dX11_pickReaders_68 rfl (Nat.le_of_ble_eq_true rfl) (Nat.le_of_ble_eq_true rfl) (by first | omega | (simp (disch := omega) only [up2_ne, up2_eq, e, e11, e12, e13, H.a4, H.az, H.r3, H.rz, H.a0, H.a3, H.rl, H.rr, H.ri, st_1_m1 hS, st_1_m1 H.1, st_1_1 hS, st_1_1 H.1, st_3_m2 hS, st_3_m2 H.1, st_3_m1 hS, st_3_m1 H.1]; first | done | omega)) (by first | assumption | (simp (disch := omega) only [up2_ne, up2_eq, e, e11, e12, e13, H.a4, H.az, H.r3, H.rz, H.a0, H.a3, H.rl, H.rr, H.ri, st_1_m1 hS, st_1_m1 H.1, st_1_1 hS, st_1_1 H.1, st_3_m2 hS, st_3_m2 H.1, st_3_m1 hS, st_3_m1 H.1]; first | done | rfl | omega)) (ib_row H e a0 a1 (r := (n : Int)) (by omega) (by omega)) (Nat.zero_le _) ?_
            try simp (disch := omega) only [up2_ne, up2_eq, e, e11, e12, e13, H.a4, H.az, H.r3, H.rz, H.a0, H.a3, H.rl, H.rr, H.ri, st_1_m1 hS, st_1_m1 H.1, st_1_1 hS, st_1_1 H.1, st_3_m2 hS, st_3_m2 H.1, st_3_m1 hS, st_3_m1 H.1]
            refine wp_ifB_ne (tgt := 78) dX11_pickReaders_71 (by decide) (fun c5 => ?_) (fun c5 => ?_)
            · refine wp_iconst dX11_pickReaders_78 ?_
              refine wp_istore dX11_pickReaders_79 rfl (Nat.le_of_ble_eq_true rfl) rfl ?_
              try simp only [List.set_cons_zero, List.set_cons_succ]
              refine wp_iload rfl dX11_pickReaders_81 ?_
              refine wp_if_eq (tgt := 109) (by first | assumption | exact bI_in _ | exact ⟨by omega, by omega⟩ | exact iAnd_in | exact iOr_in | exact iShr_in | exact iShl_in | exact iXor_in | exact hxs _) dX11_pickReaders_83 (by decide) (fun hx => ?_) (fun hx => absurd hx (by decide))
              refine wp_iinc rfl rfl dX11_pickReaders_109 rfl rfl ?_
              try simp only [List.set_cons_zero, List.set_cons_succ]
              refine wp_goto (tgt := 25) dX11_pickReaders_112 (by decide) ?_
              refine wp_dropAt 7 rfl (wp_dropAt 8 rfl ?_)
              have z := ih (by omega)
              first
                | (rw [bst_t ⟨by assumption, by omega, by omega⟩ (by first | exact Or.inl (by omega) | exact Or.inr (by assumption)), show bid (n : Int) = 110 + (n : Int) from if_neg (by omega)] at z
                   exact z)
                | (rw [bst_f (by rintro ⟨⟨y1, y2, y3⟩, y4 | y4⟩ <;> first | contradiction | omega)] at z
                   exact z)
                | (rw [bst_f (by rintro ⟨⟨y1, y2, y3⟩, y4 | y4⟩ <;> first | contradiction | omega), show bid (bst m a p n) = 110 + bst m a p n by omega] at z
                   exact z)
            · refine wp_iconst dX11_pickReaders_74 ?_
              refine wp_goto (tgt := 79) dX11_pickReaders_75 (by decide) ?_
              refine wp_istore dX11_pickReaders_79 rfl (Nat.le_of_ble_eq_true rfl) rfl ?_
              try simp only [List.set_cons_zero, List.set_cons_succ]
              refine wp_iload rfl dX11_pickReaders_81 ?_
              refine wp_if_eq (tgt := 109) (by first | assumption | exact bI_in _ | exact ⟨by omega, by omega⟩ | exact iAnd_in | exact iOr_in | exact iShr_in | exact iShl_in | exact iXor_in | exact hxs _) dX11_pickReaders_83 (by decide) (fun hx => absurd hx (by decide)) (fun hx => ?_)
              refine wp_aload rfl dX11_pickReaders_86 ?_
              refine wp_ifnull (tgt := 105) dX11_pickReaders_88 (by decide) (fun c6 => ?_) (fun c6 => ?_)
              · refine wp_aload rfl dX11_pickReaders_105 ?_
                refine wp_astore dX11_pickReaders_107 rfl (Nat.le_of_ble_eq_true rfl) rfl ?_
                try simp only [List.set_cons_zero, List.set_cons_succ]
                refine wp_iinc rfl rfl dX11_pickReaders_109 rfl rfl ?_
                try simp only [List.set_cons_zero, List.set_cons_succ]
                refine wp_goto (tgt := 25) dX11_pickReaders_112 (by decide) ?_
                refine wp_dropAt 7 rfl (wp_dropAt 8 rfl ?_)
                have z := ih (by omega)
                first
                  | (rw [bst_t ⟨by assumption, by omega, by omega⟩ (by first | exact Or.inl (by omega) | exact Or.inr (by assumption)), show bid (n : Int) = 110 + (n : Int) from if_neg (by omega)] at z
                     exact z)
                  | (rw [bst_f (by rintro ⟨⟨y1, y2, y3⟩, y4 | y4⟩ <;> first | contradiction | omega)] at z
                     exact z)
                  | (rw [bst_f (by rintro ⟨⟨y1, y2, y3⟩, y4 | y4⟩ <;> first | contradiction | omega), show bid (bst m a p n) = 110 + bst m a p n by omega] at z
                     exact z)
              · rw [show bid (bst m a p n) = 110 + bst m a p n by omega]
                refine wp_aload rfl dX11_pickReaders_91 ?_
                refine wp_aload rfl dX11_pickReaders_93 ?_
                refine wp_aload_n rfl rfl dX11_pickReaders_95 ?_
                refine wp_getfield1 (z := 1) (kI := 3) fX11_211 dX11_pickReaders_96 (by first | omega | (simp (disch := omega) only [up2_ne, up2_eq, e, e11, e12, e13, H.a4, H.az, H.r3, H.rz, H.a0, H.a3, H.rl, H.rr, H.ri, st_1_m1 hS, st_1_m1 H.1, st_1_1 hS, st_1_1 H.1, st_3_m2 hS, st_3_m2 H.1, st_3_m1 hS, st_3_m1 H.1]; first | done | omega)) (by first | assumption | (simp (disch := omega) only [up2_ne, up2_eq, e, e11, e12, e13, H.a4, H.az, H.r3, H.rz, H.a0, H.a3, H.rl, H.rr, H.ri, st_1_m1 hS, st_1_m1 H.1, st_1_1 hS, st_1_1 H.1, st_3_m2 hS, st_3_m2 H.1, st_3_m1 hS, st_3_m1 H.1]; first | done | rfl | omega)) rfl rfl ?_
                try simp (disch := omega) only [up2_ne, up2_eq, e, e11, e12, e13, H.a4, H.az, H.r3, H.rz, H.a0, H.a3, H.rl, H.rr, H.ri, st_1_m1 hS, st_1_m1 H.1, st_1_1 hS, st_1_1 H.1, st_3_m2 hS, st_3_m2 H.1, st_3_m1 hS, st_3_m1 H.1]
                refine wp_cV2 (ci := 6) okX6_isAheadOf rfl rfl wX11_285 dX11_pickReaders_99 rfl (Nat.le_of_ble_eq_true rfl) (Nat.le_of_ble_eq_true rfl) (by first | omega | (simp (disch := omega) only [up2_ne, up2_eq, e, e11, e12, e13, H.a4, H.az, H.r3, H.rz, H.a0, H.a3, H.rl, H.rr, H.ri, st_1_m1 hS, st_1_m1 H.1, st_1_1 hS, st_1_1 H.1, st_3_m2 hS, st_3_m2 H.1, st_3_m1 hS, st_3_m1 H.1]; first | done | omega)) (by first | assumption | (simp (disch := omega) only [up2_ne, up2_eq, e, e11, e12, e13, H.a4, H.az, H.r3, H.rz, H.a0, H.a3, H.rl, H.rr, H.ri, st_1_m1 hS, st_1_m1 H.1, st_1_1 hS, st_1_1 H.1, st_3_m2 hS, st_3_m2 H.1, st_3_m1 hS, st_3_m1 H.1]; first | done | rfl | omega)) (ahead_row H e (by omega) (by omega) (by omega) (by omega) rfl) (Nat.zero_le _) ?_
                try simp (disch := omega) only [up2_ne, up2_eq, e, e11, e12, e13, H.a4, H.az, H.r3, H.rz, H.a0, H.a3, H.rl, H.rr, H.ri, st_1_m1 hS, st_1_m1 H.1, st_1_1 hS, st_1_1 H.1, st_3_m2 hS, st_3_m2 H.1, st_3_m1 hS, st_3_m1 H.1]
                refine wp_ifB_eq (tgt := 109) dX11_pickReaders_102 (by decide) (fun c7 => ?_) (fun c7 => ?_)
                · refine wp_iinc rfl rfl dX11_pickReaders_109 rfl rfl ?_
                  try simp only [List.set_cons_zero, List.set_cons_succ]
                  refine wp_goto (tgt := 25) dX11_pickReaders_112 (by decide) ?_
                  refine wp_dropAt 7 rfl (wp_dropAt 8 rfl ?_)
                  have z := ih (by omega)
                  first
                    | (rw [bst_t ⟨by assumption, by omega, by omega⟩ (by first | exact Or.inl (by omega) | exact Or.inr (by assumption)), show bid (n : Int) = 110 + (n : Int) from if_neg (by omega)] at z
                       exact z)
                    | (rw [bst_f (by rintro ⟨⟨y1, y2, y3⟩, y4 | y4⟩ <;> first | contradiction | omega)] at z
                       exact z)
                    | (rw [bst_f (by rintro ⟨⟨y1, y2, y3⟩, y4 | y4⟩ <;> first | contradiction | omega), show bid (bst m a p n) = 110 + bst m a p n by omega] at z
                       exact z)
                · refine wp_aload rfl dX11_pickReaders_105 ?_
                  refine wp_astore dX11_pickReaders_107 rfl (Nat.le_of_ble_eq_true rfl) rfl ?_
                  try simp only [List.set_cons_zero, List.set_cons_succ]
                  refine wp_iinc rfl rfl dX11_pickReaders_109 rfl rfl ?_
                  try simp only [List.set_cons_zero, List.set_cons_succ]
                  refine wp_goto (tgt := 25) dX11_pickReaders_112 (by decide) ?_
                  refine wp_dropAt 7 rfl (wp_dropAt 8 rfl ?_)
                  have z := ih (by omega)
                  first
                    | (rw [bst_t ⟨by assumption, by omega, by omega⟩ (by first | exact Or.inl (by omega) | exact Or.inr (by assumption)), show bid (n : Int) = 110 + (n : Int) from if_neg (by omega)] at z
                       exact z)
                    | (rw [bst_f (by rintro ⟨⟨y1, y2, y3⟩, y4 | y4⟩ <;> first | contradiction | omega)] at z
                       exact z)
                    | (rw [bst_f (by rintro ⟨⟨y1, y2, y3⟩, y4 | y4⟩ <;> first | contradiction | omega), show bid (bst m a p n) = 110 + bst m a p n by omega] at z
                       exact z)
    refine wp_iload rfl dX11_pickReaders_13 ?_
    refine wp_iload_n rfl rfl dX11_pickReaders_15 ?_
    refine wp_icmp_ge (tgt := 138) (by first | assumption | exact bI_in _ | exact ⟨by omega, by omega⟩ | exact iAnd_in | exact iOr_in | exact iShr_in | exact iShl_in | exact iXor_in | exact hxs _) (by first | assumption | exact bI_in _ | exact ⟨by omega, by omega⟩ | exact iAnd_in | exact iOr_in | exact iShr_in | exact iShl_in | exact iXor_in | exact hxs _) dX11_pickReaders_16 (by decide) (fun c8 => ?_) (fun c8 => ?_)
    · refine wp_iload_n rfl rfl dX11_pickReaders_138 ?_
      refine wp_iret dX11_pickReaders_139 rfl ?_
      first
        | (have ek : k = (needM (m 211 a)).toNat := by omega
           unfold pkR at hQ
           rw [← ek, hp, if_neg hp1] at hQ
           exact hQ)
        | (have ex : pks m a (k + 1) = -1 := by
             show (if _ then _ else _) = _
             rw [hp, ← en, if_pos (Or.inr (by omega))]
           have ey := pks_x ex ((needM (m 211 a)).toNat - (k + 1))
           rw [show k + 1 + ((needM (m 211 a)).toNat - (k + 1)) = (needM (m 211 a)).toNat by omega] at ey
           unfold pkR at hQ
           rw [ey, if_pos rfl] at hQ
           exact hQ)
    · refine wp_null dX11_pickReaders_19 ?_
      refine wp_astore dX11_pickReaders_20 rfl (Nat.le_of_ble_eq_true rfl) rfl ?_
      try simp only [List.set_cons_zero, List.set_cons_succ]
      refine wp_iconst dX11_pickReaders_22 ?_
      refine wp_istore dX11_pickReaders_23 rfl (Nat.le_of_ble_eq_true rfl) rfl ?_
      try simp only [List.set_cons_zero, List.set_cons_succ]
      exact inner (by omega) 0 (by omega)
  show WP (gX (gq u)) MX11_pickReaders (d + 3) b Q 0 [(2, 1), (2, 120 + a), (9, 0), (9, 0), (9, 0), (9, 0), (9, 0), (9, 0), (9, 0)] [] h
  refine wp_iconst dX11_pickReaders_0 ?_
  refine wp_istore_n rfl dX11_pickReaders_1 rfl (Nat.le_of_ble_eq_true rfl) rfl ?_
  try simp only [List.set_cons_zero, List.set_cons_succ]
  refine wp_aload_n rfl rfl dX11_pickReaders_2 ?_
  refine wp_getfield1 (z := 1) (kI := 0) fX11_204 dX11_pickReaders_3 (by first | omega | (simp (disch := omega) only [up2_ne, up2_eq, e, e11, e12, e13, H.a4, H.az, H.r3, H.rz, H.a0, H.a3, H.rl, H.rr, H.ri, st_1_m1 hS, st_1_m1 H.1, st_1_1 hS, st_1_1 H.1, st_3_m2 hS, st_3_m2 H.1, st_3_m1 hS, st_3_m1 H.1]; first | done | omega)) (by first | assumption | (simp (disch := omega) only [up2_ne, up2_eq, e, e11, e12, e13, H.a4, H.az, H.r3, H.rz, H.a0, H.a3, H.rl, H.rr, H.ri, st_1_m1 hS, st_1_m1 H.1, st_1_1 hS, st_1_1 H.1, st_3_m2 hS, st_3_m2 H.1, st_3_m1 hS, st_3_m1 H.1]; first | done | rfl | omega)) rfl rfl ?_
  try simp (disch := omega) only [up2_ne, up2_eq, e, e11, e12, e13, H.a4, H.az, H.r3, H.rz, H.a0, H.a3, H.rl, H.rr, H.ri, st_1_m1 hS, st_1_m1 H.1, st_1_1 hS, st_1_1 H.1, st_3_m2 hS, st_3_m2 H.1, st_3_m1 hS, st_3_m1 H.1]
  refine wp_cS1 okX11_needOf wX11_220 dX11_pickReaders_6 rfl (Nat.le_of_ble_eq_true rfl) (Nat.le_of_ble_eq_true rfl) (s_X11_needOf (by exact ⟨by omega, by omega⟩)) (Nat.zero_le _) ?_
  try simp (disch := omega) only [up2_ne, up2_eq, e, e11, e12, e13, H.a4, H.az, H.r3, H.rz, H.a0, H.a3, H.rl, H.rr, H.ri, st_1_m1 hS, st_1_m1 H.1, st_1_1 hS, st_1_1 H.1, st_3_m2 hS, st_3_m2 H.1, st_3_m1 hS, st_3_m1 H.1]
  refine wp_istore_n rfl dX11_pickReaders_9 rfl (Nat.le_of_ble_eq_true rfl) rfl ?_
  try simp only [List.set_cons_zero, List.set_cons_succ]
  refine wp_iconst dX11_pickReaders_10 ?_
  refine wp_istore dX11_pickReaders_11 rfl (Nat.le_of_ble_eq_true rfl) rfl ?_
  try simp only [List.set_cons_zero, List.set_cons_succ]
  rw [hnk]
  exact loop 0 (by omega) 0 rfl (by decide)
