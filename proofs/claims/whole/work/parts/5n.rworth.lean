/-! ===== worth: the reference ===== -/
theorem up4 {h : mH} {a k l x y p r : Int} (hkl : k ≠ l) : up2 (up2 (up2 (up2 h a k x) a l y) a k p) a l r = up2 (up2 h a k p) a l r := by
  funext s t
  unfold up2
  by_cases c : s = a ∧ t = l
  · simp only [if_pos c]
  · by_cases c2 : s = a ∧ t = k
    · simp only [if_neg c, if_pos c2]
    · simp only [if_neg c, if_neg c2]
theorem mb {x y X Y : Int} (x0 : -X ≤ x) (x1 : x ≤ X) (y0 : -Y ≤ y) (y1 : y ≤ Y) : -(X * Y) ≤ x * y ∧ x * y ≤ X * Y := by
  have h1 : x.natAbs ≤ X.natAbs := by omega
  have h2 : y.natAbs ≤ Y.natAbs := by omega
  have h3 := Nat.mul_le_mul h1 h2
  rw [← Int.natAbs_mul, ← Int.natAbs_mul] at h3
  have h4 : 0 ≤ X * Y := Int.mul_nonneg (by omega) (by omega)
  generalize x * y = z at *
  generalize X * Y = Z at *
  omega
def frS (p D U L : Int) : Prop := 0 < L ∧ Int.gcd U L = 1 ∧ U * D = p * L
theorem s_X12_addFraction {u : gT} {h : mH} {d b : Nat} {A B U L N M : Int} (hS : St h) (hN : U * B + A * L = N) (hM : L * B = M) (n0 : -9000000000000000000 ≤ N) (n1 : N ≤ 9000000000000000000) (m0 : 0 < M) (m1 : M ≤ 9000000000000000000) : Det (gX (gq u)) MX12_addFraction (d + 1) b [(2, 200), (1, A), (1, B)] (up2 (up2 h 200 48 U) 200 49 L) (9, 0) (up2 (up2 h 200 48 (N.tdiv ((Int.gcd N M : Nat) : Int))) 200 49 (M.tdiv ((Int.gcd N M : Nat) : Int))) := by
  intro Q hQ
  have hg0 : 0 < Int.gcd N M := Int.gcd_pos_of_ne_zero_right N (by omega)
  have hg1 := Int.gcd_le_right N m0
  show WP (gX (gq u)) MX12_addFraction (d + 1) b Q 0 [(2, 200), (1, A), (9, 0), (1, B), (9, 0), (9, 0), (9, 0)] [] (up2 (up2 h 200 48 U) 200 49 L)
  refine wp_aload_n rfl rfl dX12_addFraction_0 ?_
  refine wp_aload_n rfl rfl dX12_addFraction_1 ?_
  refine wp_getfield1 (z := 13) (kI := 48) fX12_309 dX12_addFraction_2 (by first | omega | (simp (disch := omega) only [up2_ne, up2_eq, hN, hM, up4 (show (48 : Int) ≠ 49 by decide), st_200_m1 hS]; first | done | omega)) (by first | assumption | (simp (disch := omega) only [up2_ne, up2_eq, hN, hM, up4 (show (48 : Int) ≠ 49 by decide), st_200_m1 hS]; first | done | rfl | omega)) rfl rfl ?_
  try simp (disch := omega) only [up2_ne, up2_eq, hN, hM, up4 (show (48 : Int) ≠ 49 by decide), st_200_m1 hS]
  refine wp_lload_n rfl rfl dX12_addFraction_5 ?_
  refine wp_lmul dX12_addFraction_6 ?_
  refine wp_lload_n rfl rfl dX12_addFraction_7 ?_
  refine wp_aload_n rfl rfl dX12_addFraction_8 ?_
  refine wp_getfield1 (z := 13) (kI := 49) fX12_313 dX12_addFraction_9 (by first | omega | (simp (disch := omega) only [up2_ne, up2_eq, hN, hM, up4 (show (48 : Int) ≠ 49 by decide), st_200_m1 hS]; first | done | omega)) (by first | assumption | (simp (disch := omega) only [up2_ne, up2_eq, hN, hM, up4 (show (48 : Int) ≠ 49 by decide), st_200_m1 hS]; first | done | rfl | omega)) rfl rfl ?_
  try simp (disch := omega) only [up2_ne, up2_eq, hN, hM, up4 (show (48 : Int) ≠ 49 by decide), st_200_m1 hS]
  refine wp_lmul dX12_addFraction_12 ?_
  refine wp_ladd dX12_addFraction_13 ?_
  refine wp_putfield1 (z := 13) (kI := 48) fX12_309 dX12_addFraction_14 (by first | omega | (simp (disch := omega) only [up2_ne, up2_eq, hN, hM, up4 (show (48 : Int) ≠ 49 by decide), st_200_m1 hS]; first | done | omega)) (by first | assumption | (simp (disch := omega) only [up2_ne, up2_eq, hN, hM, up4 (show (48 : Int) ≠ 49 by decide), st_200_m1 hS]; first | done | rfl | omega)) rfl rfl ?_
  refine wp_aload_n rfl rfl dX12_addFraction_17 ?_
  refine wp_dup (by decide) dX12_addFraction_18 ?_
  refine wp_getfield1 (z := 13) (kI := 49) fX12_313 dX12_addFraction_19 (by first | omega | (simp (disch := omega) only [up2_ne, up2_eq, hN, hM, up4 (show (48 : Int) ≠ 49 by decide), st_200_m1 hS]; first | done | omega)) (by first | assumption | (simp (disch := omega) only [up2_ne, up2_eq, hN, hM, up4 (show (48 : Int) ≠ 49 by decide), st_200_m1 hS]; first | done | rfl | omega)) rfl rfl ?_
  try simp (disch := omega) only [up2_ne, up2_eq, hN, hM, up4 (show (48 : Int) ≠ 49 by decide), st_200_m1 hS]
  refine wp_lload_n rfl rfl dX12_addFraction_22 ?_
  refine wp_lmul dX12_addFraction_23 ?_
  refine wp_putfield1 (z := 13) (kI := 49) fX12_313 dX12_addFraction_24 (by first | omega | (simp (disch := omega) only [up2_ne, up2_eq, hN, hM, up4 (show (48 : Int) ≠ 49 by decide), st_200_m1 hS]; first | done | omega)) (by first | assumption | (simp (disch := omega) only [up2_ne, up2_eq, hN, hM, up4 (show (48 : Int) ≠ 49 by decide), st_200_m1 hS]; first | done | rfl | omega)) rfl rfl ?_
  refine wp_aload_n rfl rfl dX12_addFraction_27 ?_
  refine wp_getfield1 (z := 13) (kI := 48) fX12_309 dX12_addFraction_28 (by first | omega | (simp (disch := omega) only [up2_ne, up2_eq, hN, hM, up4 (show (48 : Int) ≠ 49 by decide), st_200_m1 hS]; first | done | omega)) (by first | assumption | (simp (disch := omega) only [up2_ne, up2_eq, hN, hM, up4 (show (48 : Int) ≠ 49 by decide), st_200_m1 hS]; first | done | rfl | omega)) rfl rfl ?_
  try simp (disch := omega) only [up2_ne, up2_eq, hN, hM, up4 (show (48 : Int) ≠ 49 by decide), st_200_m1 hS]
  refine wp_aload_n rfl rfl dX12_addFraction_31 ?_
  refine wp_getfield1 (z := 13) (kI := 49) fX12_313 dX12_addFraction_32 (by first | omega | (simp (disch := omega) only [up2_ne, up2_eq, hN, hM, up4 (show (48 : Int) ≠ 49 by decide), st_200_m1 hS]; first | done | omega)) (by first | assumption | (simp (disch := omega) only [up2_ne, up2_eq, hN, hM, up4 (show (48 : Int) ≠ 49 by decide), st_200_m1 hS]; first | done | rfl | omega)) rfl rfl ?_
  try simp (disch := omega) only [up2_ne, up2_eq, hN, hM, up4 (show (48 : Int) ≠ 49 by decide), st_200_m1 hS]
  refine wp_cS2 okX12_divisor wX12_316 dX12_addFraction_35 rfl (Nat.le_of_ble_eq_true rfl) (Nat.le_of_ble_eq_true rfl) (s_X12_divisor (by omega) (by omega) (by omega) (by omega)) (Nat.zero_le _) ?_
  try simp (disch := omega) only [up2_ne, up2_eq, hN, hM, up4 (show (48 : Int) ≠ 49 by decide), st_200_m1 hS]
  refine wp_lstore dX12_addFraction_38 rfl (Nat.le_of_ble_eq_true rfl) rfl ?_
  try simp only [List.set_cons_zero, List.set_cons_succ]
  refine wp_aload_n rfl rfl dX12_addFraction_40 ?_
  refine wp_dup (by decide) dX12_addFraction_41 ?_
  refine wp_getfield1 (z := 13) (kI := 48) fX12_309 dX12_addFraction_42 (by first | omega | (simp (disch := omega) only [up2_ne, up2_eq, hN, hM, up4 (show (48 : Int) ≠ 49 by decide), st_200_m1 hS]; first | done | omega)) (by first | assumption | (simp (disch := omega) only [up2_ne, up2_eq, hN, hM, up4 (show (48 : Int) ≠ 49 by decide), st_200_m1 hS]; first | done | rfl | omega)) rfl rfl ?_
  try simp (disch := omega) only [up2_ne, up2_eq, hN, hM, up4 (show (48 : Int) ≠ 49 by decide), st_200_m1 hS]
  refine wp_lload rfl dX12_addFraction_45 ?_
  refine wp_ldiv (by first | assumption | exact ⟨by omega, by omega⟩) (by first | assumption | exact ⟨by omega, by omega⟩) (by omega) dX12_addFraction_47 ?_
  try simp (disch := omega) only [up2_ne, up2_eq, hN, hM, up4 (show (48 : Int) ≠ 49 by decide), st_200_m1 hS]
  refine wp_putfield1 (z := 13) (kI := 48) fX12_309 dX12_addFraction_48 (by first | omega | (simp (disch := omega) only [up2_ne, up2_eq, hN, hM, up4 (show (48 : Int) ≠ 49 by decide), st_200_m1 hS]; first | done | omega)) (by first | assumption | (simp (disch := omega) only [up2_ne, up2_eq, hN, hM, up4 (show (48 : Int) ≠ 49 by decide), st_200_m1 hS]; first | done | rfl | omega)) rfl rfl ?_
  refine wp_aload_n rfl rfl dX12_addFraction_51 ?_
  refine wp_dup (by decide) dX12_addFraction_52 ?_
  refine wp_getfield1 (z := 13) (kI := 49) fX12_313 dX12_addFraction_53 (by first | omega | (simp (disch := omega) only [up2_ne, up2_eq, hN, hM, up4 (show (48 : Int) ≠ 49 by decide), st_200_m1 hS]; first | done | omega)) (by first | assumption | (simp (disch := omega) only [up2_ne, up2_eq, hN, hM, up4 (show (48 : Int) ≠ 49 by decide), st_200_m1 hS]; first | done | rfl | omega)) rfl rfl ?_
  try simp (disch := omega) only [up2_ne, up2_eq, hN, hM, up4 (show (48 : Int) ≠ 49 by decide), st_200_m1 hS]
  refine wp_lload rfl dX12_addFraction_56 ?_
  refine wp_ldiv (by first | assumption | exact ⟨by omega, by omega⟩) (by first | assumption | exact ⟨by omega, by omega⟩) (by omega) dX12_addFraction_58 ?_
  try simp (disch := omega) only [up2_ne, up2_eq, hN, hM, up4 (show (48 : Int) ≠ 49 by decide), st_200_m1 hS]
  refine wp_putfield1 (z := 13) (kI := 49) fX12_313 dX12_addFraction_59 (by first | omega | (simp (disch := omega) only [up2_ne, up2_eq, hN, hM, up4 (show (48 : Int) ≠ 49 by decide), st_200_m1 hS]; first | done | omega)) (by first | assumption | (simp (disch := omega) only [up2_ne, up2_eq, hN, hM, up4 (show (48 : Int) ≠ 49 by decide), st_200_m1 hS]; first | done | rfl | omega)) rfl rfl ?_
  refine wp_vret dX12_addFraction_62 rfl ?_
  first
    | exact hQ
    | (rw [up4 (by decide)]; exact hQ)
    | (rw [up4 (by decide), up4 (by decide)]; exact hQ)
theorem addF_row {u : gT} {h : mH} {d b : Nat} {A B t U L p D : Int} (hS : St h) (F : frS p D U L) (hD : 0 < D) (hD1 : D ≤ 53760) (p0 : -100000000 ≤ p) (p1 : p ≤ 100000000) (A0 : -11200 ≤ A) (A1 : A ≤ 11200) (B0 : 0 < B) (B1 : B ≤ 112) (ht : B * t = D) : Rlt (gX (gq u)) MX12_addFraction (d + 1) b [(2, 200), (1, A), (1, B)] (up2 (up2 h 200 48 U) 200 49 L) (fun x h1 => x = (9, 0) ∧ ∃ U' L', frS (p + A * t) D U' L' ∧ h1 = up2 (up2 h 200 48 U') 200 49 L') := by
  have h1 := fr_bnd hD F.1 F.2.1 F.2.2 p0 p1
  have h2 := mb h1.2.1 h1.2.2 (show -112 ≤ B by omega) B1
  have hL := F.1
  have h3 := mb A0 A1 (show -53760 ≤ L by omega) (show L ≤ 53760 by omega)
  have h4 := mb (show -53760 ≤ L by omega) (show L ≤ 53760 by omega) (show -112 ≤ B by omega) B1
  have h5 := Int.mul_pos F.1 B0
  refine (s_X12_addFraction (u := u) (d := d) (b := b) hS rfl rfl (by omega) (by omega) h5 (by omega)).rlt.mono ?_
  rintro x g ⟨rfl, rfl⟩ -
  exact ⟨rfl, _, _, fr_step (a := A) F.1 B0 F.2.2 ht, rfl⟩
def pkF (m : mH) (a r : Int) : Int := if kc m r a then -(tR m (m 220) r) * ((60 : Int).tdiv (tR m w1 r) * tT m w1) else 0
def pk (m : mH) (a : Int) (r : Nat) : Int := 0 + tT m (m 220) * (60 * tA m w1 a) + tA m (m 220) a * (60 * tT m w1) + sm (pkF m a) r
theorem pkF_b {j : Nat} {m : mH} (H : Inv j m) {r a : Int} (a0 : 0 ≤ a) (a1 : a < m 200 10) (r0 : 0 ≤ r) (r1 : r < m 200 6) : -9408000 ≤ pkF m a r ∧ pkF m a r ≤ 0 := by
  unfold pkF
  split
  · rename_i k
    have h1 := tR_6 H r0 r1
    have h2 := t60 (tR_1 H a0 a1 r0 r1 k) h1.2.1
    have h3 := tT_rng H
    have h4 : (60 : Int).tdiv (tR m w1 r) * tT m w1 ≤ 60 * 112 := Int.mul_le_mul (by omega) (by omega) (by omega) (by omega)
    have h5 : 0 ≤ (60 : Int).tdiv (tR m w1 r) * tT m w1 := Int.mul_nonneg (by omega) (by omega)
    generalize (60 : Int).tdiv (tR m w1 r) * tT m w1 = z at *
    have h6 : tR m (m 220) r * z ≤ 1400 * 6720 := Int.mul_le_mul (by omega) (by omega) (by omega) (by omega)
    have h7 : 0 ≤ tR m (m 220) r * z := Int.mul_nonneg (by omega) (by omega)
    rw [Int.neg_mul]
    omega
  · omega
theorem pk_b {j : Nat} {m : mH} (H : Inv j m) {a : Int} (a0 : 0 ≤ a) (a1 : a < m 200 10) (n : Nat) (hn : n ≤ (m 200 6).toNat) : -100000000 ≤ pk m a n ∧ pk m a n ≤ 100000000 := by
  have hN := H.ns
  have h1 := sm_bnd (f := pkF m a) (lo := -9408000) (hi := 0) n (fun i hi => pkF_b H a0 a1 (by omega) (by omega))
  have h2 := tT_rng H
  have h3 := tA_8 H a0 a1
  have e1 := mb (x := tT m (m 220)) (X := 11200) (y := 60 * tA m w1 a) (Y := 480) (by omega) (by omega) (by omega) (by omega)
  have e2 := mb (x := tA m (m 220) a) (X := 800) (y := 60 * tT m w1) (Y := 6720) (by omega) (by omega) (by omega) (by omega)
  have e3 : 0 ≤ tT m (m 220) * (60 * tA m w1 a) := Int.mul_nonneg (by omega) (by omega)
  have e4 : 0 ≤ tA m (m 220) a * (60 * tT m w1) := Int.mul_nonneg (by omega) (by omega)
  unfold pk
  omega
theorem pk_wO {m : mH} {a C : Int} : ∀ n : Nat, sm (wO m a) n * C = sm (fun r => kv m (m 220) r a) n * (60 * C) + sm (fun r => if kc m r a then -(tR m (m 220) r) * ((60 : Int).tdiv (tR m w1 r) * C) else 0) n
  | 0 => by show (0 : Int) * C = 0 * (60 * C) + 0; omega
  | n + 1 => by
    rw [sm, sm, sm, Int.add_mul, pk_wO n, Int.add_mul]
    have e : wO m a n * C = kv m (m 220) n a * (60 * C) + (if kc m n a then -(tR m (m 220) n) * ((60 : Int).tdiv (tR m w1 n) * C) else 0) := by
      unfold wO kv
      by_cases k : kc m n a
      · rw [if_pos k, if_pos k, if_pos k, Int.sub_mul, Int.neg_mul, Int.mul_assoc 60, Int.mul_left_comm 60]
        have : (60 : Int).tdiv (tR m w1 n) * tR m (m 220) n * C = tR m (m 220) n * ((60 : Int).tdiv (tR m w1 n) * C) := by rw [Int.mul_comm ((60 : Int).tdiv _), Int.mul_assoc]
        rw [this]
        omega
      · rw [if_neg k, if_neg k, if_neg k]
        omega
    rw [e]
    omega
theorem pk_end {m : mH} {a : Int} : pk m a (m 200 6).toNat = wP m a := by
  unfold pk wP wOs
  rw [pk_wO]
  have e1 : tA m (m 220) a = sm (fun r => kv m (m 220) r a) (m 200 6).toNat := rfl
  have e2 : 60 * tA m w1 a * tT m (m 220) = tT m (m 220) * (60 * tA m w1 a) := Int.mul_comm _ _
  have e3 : sm (pkF m a) (m 200 6).toNat = sm (fun r => if kc m r a then -(tR m (m 220) r) * ((60 : Int).tdiv (tR m w1 r) * tT m w1) else 0) (m 200 6).toNat := rfl
  rw [e1, e2, e3]
  omega
theorem Cr.fr {h m : mH} (e : Cr h m) {x y : Int} : Cr (up2 (up2 h 200 48 x) 200 49 y) m := by
  intro s t q
  rw [up2_ne (by omega), up2_ne (by omega)]
  exact e s t q
theorem St.fr {h : mH} (hS : St h) {x y : Int} : St (up2 (up2 h 200 48 x) 200 49 y) := (hS.up (by decide +kernel)).up (by decide +kernel)
theorem wL_0 {m : mH} {a : Int} (q : tA m w1 a = 0) : wL m a = 0 := by
  unfold wL wQ
  rw [q, Int.mul_zero, Int.zero_mul, Int.zero_tdiv]
theorem tdiv_bnd {p g K : Int} (k0 : -K ≤ p) (k1 : p ≤ K) : -K ≤ p.tdiv g ∧ p.tdiv g ≤ K := by
  have h1 : (p.tdiv g).natAbs = p.natAbs / g.natAbs := Int.natAbs_tdiv p g
  have h2 := Nat.div_le_self p.natAbs g.natAbs
  generalize p.tdiv g = z at *
  omega
theorem wUL_b {j : Nat} {m : mH} (H : Inv j m) {a : Int} (a0 : 0 ≤ a) (a1 : a < m 200 10) : -100000000 ≤ wU m a ∧ wU m a ≤ 100000000 ∧ -53760 ≤ wL m a ∧ wL m a ≤ 53760 ∧ -100000000 ≤ wC m a ∧ wC m a ≤ 100000000 := by
  have h1 := wPQ_b H a0 a1
  have h2 := tdiv_bnd (g := ((Int.gcd (wP m a) (wQ m a) : Nat) : Int)) h1.1 h1.2.1
  have h3 := tdiv_bnd (K := 53760) (g := ((Int.gcd (wP m a) (wQ m a) : Nat) : Int)) (p := wQ m a) (by omega) (by omega)
  have h4 := tdiv_bnd (g := wL m a) (p := wU m a) h2.1 h2.2
  refine ⟨h2.1, h2.2, h3.1, h3.2, ?_⟩
  unfold wC
  split
  · exact h4
  · decide
theorem pk_t {c n C : Int} (h : c * (60 : Int).tdiv c = 60) : c * n * ((60 : Int).tdiv c * C) = 60 * n * C := by
  have e : c * n * ((60 : Int).tdiv c * C) = (c * (60 : Int).tdiv c) * n * C := by
    rw [Int.mul_assoc, Int.mul_assoc, Int.mul_assoc]
    congr 1
    rw [Int.mul_left_comm]
  rw [e, h]
theorem s_X12_hasWorth {u : gT} {j : Nat} {h m : mH} {d b : Nat} (H : Inv j m) (e : Cr h m) (hS : St h) {a : Int} (a0 : 0 ≤ a) (a1 : a < m 200 10) : Rlt (gX (gq u)) MX12_hasWorth (d + 4) b [(2, 200), (0, a)] h (fun x h1 => (tA m w1 a = 0 ∧ x = (0, 0) ∧ h1 = h) ∨ (0 < tA m w1 a ∧ 0 < wL m a ∧ x = (0, 1) ∧ h1 = up2 (up2 h 200 48 (wU m a)) 200 49 (wL m a))) := by
  refine Rlt.of ?_
  have hn := H.ns
  have hA := tA_8 H a0 a1
  have hT := tT_rng H
  have hge := tT_ge H a0 a1
  have hPQ := wPQ_b H a0 a1
  have hQ00 : 0 < tA m w1 a → 0 < wQ m a := fun z => by have := Int.mul_pos (show 0 < 60 * tA m w1 a by omega) (show 0 < tT m w1 by omega); exact this
  have e1b := mb (x := tT m (m 220)) (X := 11200) (y := 60 * tA m w1 a) (Y := 480) (by omega) (by omega) (by omega) (by omega)
  have loop : 0 < tA m w1 a → ∀ r : Nat, r ≤ (m 200 6).toNat → ∀ X Y, frS (pk m a r) (wQ m a) X Y → WP (gX (gq u)) MX12_hasWorth (d + 4) b (fun x h1 => (tA m w1 a = 0 ∧ x = (0, 0) ∧ h1 = h) ∨ (0 < tA m w1 a ∧ 0 < wL m a ∧ x = (0, 1) ∧ h1 = up2 (up2 h 200 48 (wU m a)) 200 49 (wL m a))) 56 [(2, 200), (0, a), (0, tA m w1 a), (0, (r : Int))] [] (up2 (up2 h 200 48 X) 200 49 Y) := by
    intro hA0
    have hQ0 : 0 < wQ m a := by have := Int.mul_pos (show 0 < 60 * tA m w1 a by omega) (show 0 < tT m w1 by omega); exact this
    refine loop_w (m 200 6).toNat (fun r hr2 ih => ?_)
    intro X Y F
    have hpk := pk_b H a0 a1 r hr2
    have h6r := fun z : (r : Int) < m 200 6 => tR_6 H (r := (r : Int)) (by omega) z
    have g6 : up2 (up2 h 200 48 X) 200 49 Y 200 6 = m 200 6 := by rw [up2_ne (by omega), up2_ne (by omega)]; exact e _ _ (by omega)
    refine wp_iload_n rfl rfl dX12_hasWorth_56 ?_
    refine wp_aload_n rfl rfl dX12_hasWorth_57 ?_
    refine wp_getfield1 (z := 13) (kI := 6) fX12_7 dX12_hasWorth_58 (by first | omega | (simp (disch := omega) only [up2_ne, up2_eq, g6, e, st_200_m1 hS, st_200_m1 H.1]; first | done | omega)) (by first | assumption | (simp (disch := omega) only [up2_ne, up2_eq, g6, e, st_200_m1 hS, st_200_m1 H.1]; first | done | rfl | omega)) rfl rfl ?_
    try simp (disch := omega) only [up2_ne, up2_eq, g6, e, st_200_m1 hS, st_200_m1 H.1]
    refine wp_icmp_ge (tgt := 101) (by first | assumption | exact bI_in _ | exact ⟨by omega, by omega⟩ | exact iAnd_in | exact iOr_in | exact iShr_in | exact iShl_in | exact iXor_in | exact hxs _) (by first | assumption | exact bI_in _ | exact ⟨by omega, by omega⟩ | exact iAnd_in | exact iOr_in | exact iShr_in | exact iShl_in | exact iXor_in | exact hxs _) dX12_hasWorth_61 (by decide) (fun c1 => ?_) (fun c1 => ?_)
    · refine wp_iconst dX12_hasWorth_101 ?_
      refine wp_zret (by first | exact Or.inl rfl | exact Or.inr rfl | omega) dX12_hasWorth_102 rfl ?_
      first
        | exact Or.inl ⟨by omega, rfl, rfl⟩
        | (have er : r = (m 200 6).toNat := by omega
           subst er
           rw [pk_end] at F
           have hu := fr_uniq hQ0 F.1 F.2.1 F.2.2
           have e6 : wU m a = X := hu.1.symm
           have e7 : wL m a = Y := hu.2.symm
           exact Or.inr ⟨hA0, by rw [e7]; exact F.1, rfl, by rw [e6, e7]⟩)
    · refine wp_aload_n rfl rfl dX12_hasWorth_64 ?_
      refine wp_iload_n rfl rfl dX12_hasWorth_65 ?_
      refine wp_iload_n rfl rfl dX12_hasWorth_66 ?_
      refine wp_cV2 (ci := 12) okX12_counts rfl rfl wX12_304 dX12_hasWorth_67 rfl (Nat.le_of_ble_eq_true rfl) (Nat.le_of_ble_eq_true rfl) (by first | omega | (simp (disch := omega) only [up2_ne, up2_eq, g6, e, st_200_m1 hS, st_200_m1 H.1]; first | done | omega)) (by first | assumption | (simp (disch := omega) only [up2_ne, up2_eq, g6, e, st_200_m1 hS, st_200_m1 H.1]; first | done | rfl | omega)) (rcts H e.fr hS.fr (r := (r : Int)) (by omega) (by omega) (by omega) (by omega)) (Nat.zero_le _) ?_
      try simp (disch := omega) only [up2_ne, up2_eq, g6, e, st_200_m1 hS, st_200_m1 H.1]
      refine wp_ifB_eq (tgt := 95) dX12_hasWorth_70 (by decide) (fun c2 => ?_) (fun c2 => ?_)
      · refine wp_iinc rfl rfl dX12_hasWorth_95 rfl rfl ?_
        try simp only [List.set_cons_zero, List.set_cons_succ]
        refine wp_goto (tgt := 56) dX12_hasWorth_98 (by decide) ?_
        first
          | (refine ih (by omega) X2 Y2 ?_
             have e5 : pk m a (r + 1) = pk m a r + pkF m a r := by unfold pk; rw [sm]; omega
             rw [e5]
             unfold pkF
             rw [if_pos (by assumption)]
             exact F2)
          | (refine ih (by omega) X Y ?_
             have e5 : pk m a (r + 1) = pk m a r + pkF m a r := by unfold pk; rw [sm]; omega
             rw [e5]
             unfold pkF
             rw [if_neg (by assumption), Int.add_zero]
             exact F)
      · refine wp_aload_n rfl rfl dX12_hasWorth_73 ?_
        refine wp_aload_n rfl rfl dX12_hasWorth_74 ?_
        refine wp_iload_n rfl rfl dX12_hasWorth_75 ?_
        refine wp_iconst dX12_hasWorth_76 ?_
        refine wp_cV2 (ci := 12) okX12_sumOf rfl rfl wX12_320 dX12_hasWorth_77 rfl (Nat.le_of_ble_eq_true rfl) (Nat.le_of_ble_eq_true rfl) (by first | omega | (simp (disch := omega) only [up2_ne, up2_eq, g6, e, st_200_m1 hS, st_200_m1 H.1]; first | done | omega)) (by first | assumption | (simp (disch := omega) only [up2_ne, up2_eq, g6, e, st_200_m1 hS, st_200_m1 H.1]; first | done | rfl | omega)) (rsms_R H e.fr hS.fr (r := (r : Int)) (by omega) (by omega)) (Nat.zero_le _) ?_
        try simp (disch := omega) only [up2_ne, up2_eq, g6, e, st_200_m1 hS, st_200_m1 H.1]
        refine wp_ineg dX12_hasWorth_80 ?_
        refine wp_i2l (by first | assumption | exact bI_in _ | exact ⟨by omega, by omega⟩ | exact iAnd_in | exact iOr_in | exact iShr_in | exact iShl_in | exact iXor_in | exact hxs _) dX12_hasWorth_81 ?_
        refine wp_aload_n rfl rfl dX12_hasWorth_82 ?_
        refine wp_iload_n rfl rfl dX12_hasWorth_83 ?_
        refine wp_iconst dX12_hasWorth_84 ?_
        refine wp_cV2 (ci := 12) okX12_countOf rfl rfl wX12_65 dX12_hasWorth_85 rfl (Nat.le_of_ble_eq_true rfl) (Nat.le_of_ble_eq_true rfl) (by first | omega | (simp (disch := omega) only [up2_ne, up2_eq, g6, e, st_200_m1 hS, st_200_m1 H.1]; first | done | omega)) (by first | assumption | (simp (disch := omega) only [up2_ne, up2_eq, g6, e, st_200_m1 hS, st_200_m1 H.1]; first | done | rfl | omega)) (rcnt_R H e.fr hS.fr (r := (r : Int)) (by omega) (by omega)) (Nat.zero_le _) ?_
        try simp (disch := omega) only [up2_ne, up2_eq, g6, e, st_200_m1 hS, st_200_m1 H.1]
        refine wp_i2l (by first | assumption | exact bI_in _ | exact ⟨by omega, by omega⟩ | exact iAnd_in | exact iOr_in | exact iShr_in | exact iShl_in | exact iXor_in | exact hxs _) dX12_hasWorth_88 ?_
        refine wp_iload_n rfl rfl dX12_hasWorth_89 ?_
        refine wp_i2l (by first | assumption | exact bI_in _ | exact ⟨by omega, by omega⟩ | exact iAnd_in | exact iOr_in | exact iShr_in | exact iShl_in | exact iXor_in | exact hxs _) dX12_hasWorth_90 ?_
        refine wp_lmul dX12_hasWorth_91 ?_
        refine wp_cV2r (ci := 12) okX12_addFraction rfl rfl wX12_323 dX12_hasWorth_92 (Nat.le_of_ble_eq_true rfl) (Nat.le_of_ble_eq_true rfl) (by first | omega | (simp (disch := omega) only [up2_ne, up2_eq, g6, e, st_200_m1 hS, st_200_m1 H.1]; first | done | omega)) (by first | assumption | (simp (disch := omega) only [up2_ne, up2_eq, g6, e, st_200_m1 hS, st_200_m1 H.1]; first | done | rfl | omega)) (addF_row (t := (60 : Int).tdiv (tR m w1 (r : Int)) * tT m w1) hS F hQ0 (by omega) hpk.1 hpk.2 (by have := tR_6 H (r := (r : Int)) (by omega) (by omega); omega) (by have := tR_6 H (r := (r : Int)) (by omega) (by omega); omega) (Int.mul_pos (by have := tR_1 H a0 a1 (r := (r : Int)) (by omega) (by omega) (by assumption); omega) hA0) (by have := mb (x := tR m w1 (r : Int)) (X := 6) (y := tA m w1 a) (Y := 8) (by have := tR_6 H (r := (r : Int)) (by omega) (by omega); omega) (by have := tR_6 H (r := (r : Int)) (by omega) (by omega); omega) (by omega) (by omega); omega) (pk_t (t60 (tR_1 H a0 a1 (r := (r : Int)) (by omega) (by omega) (by assumption)) (tR_6 H (r := (r : Int)) (by omega) (by omega)).2.1).1)) (Nat.zero_le _) ?_
        rintro x g2 ⟨rfl, X2, Y2, F2, rfl⟩ -
        show WP _ _ _ _ _ _ _ [] _
        refine wp_iinc rfl rfl dX12_hasWorth_95 rfl rfl ?_
        try simp only [List.set_cons_zero, List.set_cons_succ]
        refine wp_goto (tgt := 56) dX12_hasWorth_98 (by decide) ?_
        first
          | (refine ih (by omega) X2 Y2 ?_
             have e5 : pk m a (r + 1) = pk m a r + pkF m a r := by unfold pk; rw [sm]; omega
             rw [e5]
             unfold pkF
             rw [if_pos (by assumption)]
             exact F2)
          | (refine ih (by omega) X Y ?_
             have e5 : pk m a (r + 1) = pk m a r + pkF m a r := by unfold pk; rw [sm]; omega
             rw [e5]
             unfold pkF
             rw [if_neg (by assumption), Int.add_zero]
             exact F)
  show WP (gX (gq u)) MX12_hasWorth (d + 4) b _ 0 [(2, 200), (0, a), (9, 0), (9, 0)] [] h
  refine wp_aload_n rfl rfl dX12_hasWorth_0 ?_
  refine wp_iconst dX12_hasWorth_1 ?_
  refine wp_iload_n rfl rfl dX12_hasWorth_2 ?_
  refine wp_cV2 (ci := 12) okX12_countOf rfl rfl wX12_65 dX12_hasWorth_3 rfl (Nat.le_of_ble_eq_true rfl) (Nat.le_of_ble_eq_true rfl) (by first | omega | (simp (disch := omega) only [up2_ne, up2_eq, e, st_200_m1 hS, st_200_m1 H.1]; first | done | omega)) (by first | assumption | (simp (disch := omega) only [up2_ne, up2_eq, e, st_200_m1 hS, st_200_m1 H.1]; first | done | rfl | omega)) (rcnt_A H e hS a0 a1) (Nat.zero_le _) ?_
  try simp (disch := omega) only [up2_ne, up2_eq, e, st_200_m1 hS, st_200_m1 H.1]
  refine wp_istore_n rfl dX12_hasWorth_6 rfl (Nat.le_of_ble_eq_true rfl) rfl ?_
  try simp only [List.set_cons_zero, List.set_cons_succ]
  refine wp_iload_n rfl rfl dX12_hasWorth_7 ?_
  refine wp_if_ne (tgt := 13) (by first | assumption | exact bI_in _ | exact ⟨by omega, by omega⟩ | exact iAnd_in | exact iOr_in | exact iShr_in | exact iShl_in | exact iXor_in | exact hxs _) dX12_hasWorth_8 (by decide) (fun c3 => ?_) (fun c3 => ?_)
  · refine wp_aload_n rfl rfl dX12_hasWorth_13 ?_
    refine wp_lconst (v := 0) rfl dX12_hasWorth_14 ?_
    refine wp_putfield1 (z := 13) (kI := 48) fX12_309 dX12_hasWorth_15 (by first | omega | (simp (disch := omega) only [up2_ne, up2_eq, e, st_200_m1 hS, st_200_m1 H.1]; first | done | omega)) (by first | assumption | (simp (disch := omega) only [up2_ne, up2_eq, e, st_200_m1 hS, st_200_m1 H.1]; first | done | rfl | omega)) rfl rfl ?_
    refine wp_aload_n rfl rfl dX12_hasWorth_18 ?_
    refine wp_lconst (v := 1) rfl dX12_hasWorth_19 ?_
    refine wp_putfield1 (z := 13) (kI := 49) fX12_313 dX12_hasWorth_20 (by first | omega | (simp (disch := omega) only [up2_ne, up2_eq, e, st_200_m1 hS, st_200_m1 H.1]; first | done | omega)) (by first | assumption | (simp (disch := omega) only [up2_ne, up2_eq, e, st_200_m1 hS, st_200_m1 H.1]; first | done | rfl | omega)) rfl rfl ?_
    refine wp_aload_n rfl rfl dX12_hasWorth_23 ?_
    refine wp_aload_n rfl rfl dX12_hasWorth_24 ?_
    refine wp_iconst dX12_hasWorth_25 ?_
    refine wp_iconst dX12_hasWorth_26 ?_
    refine wp_cV2 (ci := 12) okX12_sumOf rfl rfl wX12_320 dX12_hasWorth_27 rfl (Nat.le_of_ble_eq_true rfl) (Nat.le_of_ble_eq_true rfl) (by first | omega | (simp (disch := omega) only [up2_ne, up2_eq, e, st_200_m1 hS, st_200_m1 H.1]; first | done | omega)) (by first | assumption | (simp (disch := omega) only [up2_ne, up2_eq, e, st_200_m1 hS, st_200_m1 H.1]; first | done | rfl | omega)) (rsms_T H e.fr hS.fr) (Nat.zero_le _) ?_
    try simp (disch := omega) only [up2_ne, up2_eq, e, st_200_m1 hS, st_200_m1 H.1]
    refine wp_i2l (by first | assumption | exact bI_in _ | exact ⟨by omega, by omega⟩ | exact iAnd_in | exact iOr_in | exact iShr_in | exact iShl_in | exact iXor_in | exact hxs _) dX12_hasWorth_30 ?_
    refine wp_aload_n rfl rfl dX12_hasWorth_31 ?_
    refine wp_iconst dX12_hasWorth_32 ?_
    refine wp_iconst dX12_hasWorth_33 ?_
    refine wp_cV2 (ci := 12) okX12_countOf rfl rfl wX12_65 dX12_hasWorth_34 rfl (Nat.le_of_ble_eq_true rfl) (Nat.le_of_ble_eq_true rfl) (by first | omega | (simp (disch := omega) only [up2_ne, up2_eq, e, st_200_m1 hS, st_200_m1 H.1]; first | done | omega)) (by first | assumption | (simp (disch := omega) only [up2_ne, up2_eq, e, st_200_m1 hS, st_200_m1 H.1]; first | done | rfl | omega)) (rcnt_T H e.fr hS.fr) (Nat.zero_le _) ?_
    try simp (disch := omega) only [up2_ne, up2_eq, e, st_200_m1 hS, st_200_m1 H.1]
    refine wp_i2l (by first | assumption | exact bI_in _ | exact ⟨by omega, by omega⟩ | exact iAnd_in | exact iOr_in | exact iShr_in | exact iShl_in | exact iXor_in | exact hxs _) dX12_hasWorth_37 ?_
    refine wp_cV2r (ci := 12) okX12_addFraction rfl rfl wX12_323 dX12_hasWorth_38 (Nat.le_of_ble_eq_true rfl) (Nat.le_of_ble_eq_true rfl) (by first | omega | (simp (disch := omega) only [up2_ne, up2_eq, e, st_200_m1 hS, st_200_m1 H.1]; first | done | omega)) (by first | assumption | (simp (disch := omega) only [up2_ne, up2_eq, e, st_200_m1 hS, st_200_m1 H.1]; first | done | rfl | omega)) (addF_row (p := 0) (D := wQ m a) (t := 60 * tA m w1 a) hS ⟨by decide, by decide, by rw [Int.zero_mul, Int.zero_mul]⟩ (hQ00 (by omega)) (by omega) (by decide) (by decide) (by omega) (by omega) (by omega) (by omega) (by rw [Int.mul_comm]; rfl)) (Nat.zero_le _) ?_
    rintro x g2 ⟨rfl, X1, Y1, F1, rfl⟩ -
    show WP _ _ _ _ _ _ _ [] _
    refine wp_aload_n rfl rfl dX12_hasWorth_41 ?_
    refine wp_aload_n rfl rfl dX12_hasWorth_42 ?_
    refine wp_iconst dX12_hasWorth_43 ?_
    refine wp_iload_n rfl rfl dX12_hasWorth_44 ?_
    refine wp_cV2 (ci := 12) okX12_sumOf rfl rfl wX12_320 dX12_hasWorth_45 rfl (Nat.le_of_ble_eq_true rfl) (Nat.le_of_ble_eq_true rfl) (by first | omega | (simp (disch := omega) only [up2_ne, up2_eq, e, st_200_m1 hS, st_200_m1 H.1]; first | done | omega)) (by first | assumption | (simp (disch := omega) only [up2_ne, up2_eq, e, st_200_m1 hS, st_200_m1 H.1]; first | done | rfl | omega)) (rsms_A H e.fr hS.fr a0 a1) (Nat.zero_le _) ?_
    try simp (disch := omega) only [up2_ne, up2_eq, e, st_200_m1 hS, st_200_m1 H.1]
    refine wp_i2l (by first | assumption | exact bI_in _ | exact ⟨by omega, by omega⟩ | exact iAnd_in | exact iOr_in | exact iShr_in | exact iShl_in | exact iXor_in | exact hxs _) dX12_hasWorth_48 ?_
    refine wp_iload_n rfl rfl dX12_hasWorth_49 ?_
    refine wp_i2l (by first | assumption | exact bI_in _ | exact ⟨by omega, by omega⟩ | exact iAnd_in | exact iOr_in | exact iShr_in | exact iShl_in | exact iXor_in | exact hxs _) dX12_hasWorth_50 ?_
    refine wp_cV2r (ci := 12) okX12_addFraction rfl rfl wX12_323 dX12_hasWorth_51 (Nat.le_of_ble_eq_true rfl) (Nat.le_of_ble_eq_true rfl) (by first | omega | (simp (disch := omega) only [up2_ne, up2_eq, e, st_200_m1 hS, st_200_m1 H.1]; first | done | omega)) (by first | assumption | (simp (disch := omega) only [up2_ne, up2_eq, e, st_200_m1 hS, st_200_m1 H.1]; first | done | rfl | omega)) (addF_row (t := 60 * tT m w1) hS F1 (hQ00 (by omega)) (by omega) (by omega) (by omega) (by omega) (by omega) (by omega) (by omega) (by show _ = 60 * tA m w1 a * tT m w1; rw [Int.mul_left_comm, Int.mul_assoc])) (Nat.zero_le _) ?_
    rintro x g2 ⟨rfl, X2, Y2, F2, rfl⟩ -
    show WP _ _ _ _ _ _ _ [] _
    refine wp_iconst dX12_hasWorth_54 ?_
    refine wp_istore_n rfl dX12_hasWorth_55 rfl (Nat.le_of_ble_eq_true rfl) rfl ?_
    try simp only [List.set_cons_zero, List.set_cons_succ]
    refine loop (by omega) 0 (by omega) X2 Y2 ?_
    unfold pk
    rw [sm, Int.add_zero]
    exact F2
  · refine wp_iconst dX12_hasWorth_11 ?_
    refine wp_zret (by first | exact Or.inl rfl | exact Or.inr rfl | omega) dX12_hasWorth_12 rfl ?_
    first
      | exact Or.inl ⟨by omega, rfl, rfl⟩
      | (have er : r = (m 200 6).toNat := by omega
         subst er
         rw [pk_end] at F
         have hu := fr_uniq hQ0 F.1 F.2.1 F.2.2
         have e6 : wU m a = X := hu.1.symm
         have e7 : wL m a = Y := hu.2.symm
         exact Or.inr ⟨hA0, by rw [e7]; exact F.1, rfl, by rw [e6, e7]⟩)
