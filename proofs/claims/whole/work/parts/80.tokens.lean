/-! ===== text: what the tape falls into, without a machine ===== -/
def adv (P : Int → Bool) : Nat → Int → Int
  | 0, p => p
  | k + 1, p => if P p = true then adv P k (p + 1) else p
theorem adv_f {P : Int → Bool} {p : Int} (q : P p = false) : ∀ k : Nat, adv P k p = p
  | 0 => rfl
  | k + 1 => by rw [adv, if_neg (by rw [q]; decide)]
theorem adv_fuel {P : Int → Bool} {n : Int} (hP : ∀ q : Int, n ≤ q → P q = false) : ∀ (k : Nat) (p : Int), n ≤ p + k → adv P (k + 1) p = adv P k p
  | 0, p, h => by rw [adv_f (hP p (by omega)), adv_f (hP p (by omega))]
  | k + 1, p, h => by
    rw [adv]
    by_cases c : P p = true
    · rw [if_pos c, adv_fuel hP k (p + 1) (by omega)]
      show _ = adv P (k + 1) p
      rw [adv, if_pos c]
    · rw [if_neg c]
      exact (adv_f (by simpa using c) _).symm
/-- one step on, where it goes on -/
theorem adv_step {P : Int → Bool} {n q : Int} (hP : ∀ q : Int, n ≤ q → P q = false) (n1 : n ≤ 160) (q0 : 0 ≤ q) (h : P q = true) : adv P 161 (q + 1) = adv P 161 q := by
  have e : adv P 161 q = adv P 160 (q + 1) := if_pos h
  rw [e]
  exact adv_fuel hP 160 (q + 1) (by omega)
theorem adv_end {P : Int → Bool} {n : Int} (hP : ∀ q : Int, n ≤ q → P q = false) : ∀ (k : Nat) (p : Int), n ≤ p + k → p ≤ adv P k p ∧ P (adv P k p) = false ∧ (∀ i : Int, p ≤ i → i < adv P k p → P i = true) ∧ (p ≤ n → adv P k p ≤ n)
  | 0, p, h => ⟨Int.le_refl _, hP p (by omega), fun i h1 h2 => by
      have : adv P 0 p = p := rfl
      omega, fun h1 => h1⟩
  | k + 1, p, h => by
    rw [adv]
    by_cases c : P p = true
    · rw [if_pos c]
      have ih := adv_end hP k (p + 1) (by omega)
      have hpn : p < n := by
        by_cases d : n ≤ p
        · rw [hP p d] at c
          cases c
        · omega
      refine ⟨by omega, ih.2.1, fun i h1 h2 => ?_, fun _ => ih.2.2.2 (by omega)⟩
      by_cases e : i = p
      · rw [e]
        exact c
      · exact ih.2.2.1 i (by omega) h2
    · rw [if_neg c]
      exact ⟨Int.le_refl _, by simpa using c, fun i h1 h2 => by exfalso; omega, fun h1 => h1⟩
/-- the bytes of a tape of n: 0 to 255 each, and -1 behind them -/
def LF (f : Int → Int) (n : Int) : Prop := 0 ≤ n ∧ n ≤ 160 ∧ (∀ k : Int, 0 ≤ k → k < n → 0 ≤ f k ∧ f k ≤ 255) ∧ ∀ k : Int, n ≤ k → f k = -1
def isL (c : Int) : Bool := decide (97 ≤ c ∧ c ≤ 122)
def isD (c : Int) : Bool := decide (48 ≤ c ∧ c ≤ 57)
def isB (c : Int) : Bool := decide (c = 32 ∨ c = 10)
def sgn (x : Int) : Int := if 127 < x then x - 256 else x
theorem LF.rng {f : Int → Int} {n : Int} (F : LF f n) {k : Int} (k0 : 0 ≤ k) : -1 ≤ f k ∧ f k ≤ 255 := by
  by_cases c : k < n
  · have := F.2.2.1 k k0 c
    omega
  · have := F.2.2.2 k (by omega)
    omega
theorem LF.out {f : Int → Int} {n : Int} (F : LF f n) {k : Int} (k0 : 0 ≤ k) : f k < 0 ↔ n ≤ k := by
  constructor
  · intro h
    by_cases c : k < n
    · have := F.2.2.1 k k0 c
      omega
    · omega
  · intro h
    have := F.2.2.2 k h
    omega
theorem LF.pL {f : Int → Int} {n : Int} (F : LF f n) : ∀ q : Int, n ≤ q → isL (f q) = false := fun q h => by rw [F.2.2.2 q h]; rfl
theorem LF.pD {f : Int → Int} {n : Int} (F : LF f n) : ∀ q : Int, n ≤ q → isD (f q) = false := fun q h => by rw [F.2.2.2 q h]; rfl
theorem LF.pB {f : Int → Int} {n : Int} (F : LF f n) : ∀ q : Int, n ≤ q → isB (f q) = false := fun q h => by rw [F.2.2.2 q h]; rfl
/-- where blanks end; where the letters, the digits end -/
def tB (f : Int → Int) (p : Int) : Int := adv (fun q => isB (f q)) 161 p
def eL (f : Int → Int) (p : Int) : Int := adv (fun q => isL (f q)) 161 p
def eD (f : Int → Int) (p : Int) : Int := adv (fun q => isD (f q)) 161 p
def LETL : List Int := [107, 105, 110, 100, 115, 117, 109, 116, 104, 101, 109, 101, 100, 97, 121, 109, 97, 114, 107, 114, 101, 97, 100, 101, 114, 115, 98, 101, 104, 105, 110, 100, 109, 97, 121, 112, 97, 115, 115, 108, 97, 116, 101, 111, 114, 97, 110, 100, 110, 111, 116]
def BGL : List Nat := [0, 4, 7, 12, 15, 19, 26, 32, 35, 39, 43, 45, 48]
def SZL : List Nat := [4, 3, 5, 3, 4, 7, 6, 3, 4, 4, 2, 3, 3]
/-- the n letters from b on are the word w -/
def wMt (f : Int → Int) (b : Int) (n w : Nat) : Prop := SZL.getD w 0 = n ∧ ∀ k : Nat, k < n → f (b + k) = LETL.getD (BGL.getD w 0 + k) 0
noncomputable def wF (f : Int → Int) (b : Int) (n : Nat) : Nat → Int
  | 0 => 23
  | k + 1 => @ite Int (wMt f b n (12 - k)) (Classical.propDecidable _) ((12 - k : Nat) : Int) (wF f b n k)
theorem wF_t {f : Int → Int} {b : Int} {n k : Nat} (q : wMt f b n (12 - k)) : wF f b n (k + 1) = ((12 - k : Nat) : Int) := if_pos q
theorem wF_f {f : Int → Int} {b : Int} {n k : Nat} (q : ¬ wMt f b n (12 - k)) : wF f b n (k + 1) = wF f b n k := if_neg q
theorem wF_b {f : Int → Int} {b : Int} {n : Nat} : ∀ k : Nat, wF f b n k = 23 ∨ (0 ≤ wF f b n k ∧ wF f b n k ≤ 12)
  | 0 => Or.inl rfl
  | k + 1 => by
    rcases Classical.em (wMt f b n (12 - k)) with c | c
    · rw [wF_t c]
      exact Or.inr (by omega)
    · rw [wF_f c]
      exact wF_b k
def sgT (c : Int) : Int := if c = 40 then 14 else if c = 41 then 15 else if c = 59 then 16 else if c = 43 then 17 else if c = 45 then 18 else if c = 42 then 19 else if c = 60 then 20 else if c = 61 then 21 else 23
theorem sgT_b (c : Int) : 14 ≤ sgT c ∧ sgT c ≤ 23 ∧ sgT c ≠ 22 := by
  unfold sgT
  repeat' split
  all_goals decide
/-- a token from p on: where it begins, where it ends, which it is, its number -/
def tE (f : Int → Int) (p : Int) : Int := if f (tB f p) < 0 then tB f p else if isL (f (tB f p)) = true then eL f (tB f p) else if isD (f (tB f p)) = true then eD f (tB f p) else tB f p + 1
noncomputable def tK (f : Int → Int) (p : Int) : Int := if f (tB f p) < 0 then 22 else if isL (f (tB f p)) = true then wF f (tB f p) (tE f p - tB f p).toNat 13 else if isD (f (tB f p)) = true then (if 4 < tE f p - tB f p then 23 else 13) else sgT (f (tB f p))
def nV (f : Int → Int) (b : Int) : Nat → Int
  | 0 => 0
  | k + 1 => 10 * nV f b k + f (b + k) - 48
def tN (f : Int → Int) (p : Int) : Int := nV f (tB f p) (tE f p - tB f p).toNat
def tP (f : Int → Int) : Nat → Int
  | 0 => 0
  | i + 1 => tE f (tP f i)
theorem tB_b {f : Int → Int} {n p : Int} (F : LF f n) (p0 : 0 ≤ p) (p1 : p ≤ n) : p ≤ tB f p ∧ tB f p ≤ n ∧ isB (f (tB f p)) = false := by
  have h := adv_end F.pB 161 p (by have := F.2.1; omega)
  exact ⟨h.1, h.2.2.2 p1, h.2.1⟩
theorem eL_b {f : Int → Int} {n p : Int} (F : LF f n) (p0 : 0 ≤ p) (p1 : p ≤ n) : p ≤ eL f p ∧ eL f p ≤ n ∧ isL (f (eL f p)) = false ∧ ∀ i : Int, p ≤ i → i < eL f p → isL (f i) = true := by
  have h := adv_end F.pL 161 p (by have := F.2.1; omega)
  exact ⟨h.1, h.2.2.2 p1, h.2.1, h.2.2.1⟩
theorem eD_b {f : Int → Int} {n p : Int} (F : LF f n) (p0 : 0 ≤ p) (p1 : p ≤ n) : p ≤ eD f p ∧ eD f p ≤ n ∧ isD (f (eD f p)) = false ∧ ∀ i : Int, p ≤ i → i < eD f p → isD (f i) = true := by
  have h := adv_end F.pD 161 p (by have := F.2.1; omega)
  exact ⟨h.1, h.2.2.2 p1, h.2.1, h.2.2.1⟩
theorem eL_s {f : Int → Int} {n q : Int} (F : LF f n) (q0 : 0 ≤ q) (h : isL (f q) = true) : eL f (q + 1) = eL f q := adv_step F.pL F.2.1 q0 h
theorem eD_s {f : Int → Int} {n q : Int} (F : LF f n) (q0 : 0 ≤ q) (h : isD (f q) = true) : eD f (q + 1) = eD f q := adv_step F.pD F.2.1 q0 h
theorem tB_s {f : Int → Int} {n q : Int} (F : LF f n) (q0 : 0 ≤ q) (h : isB (f q) = true) : tB f (q + 1) = tB f q := adv_step F.pB F.2.1 q0 h
theorem eL_f {f : Int → Int} {q : Int} (h : isL (f q) = false) : eL f q = q := adv_f (P := fun q => isL (f q)) h 161
theorem eD_f {f : Int → Int} {q : Int} (h : isD (f q) = false) : eD f q = q := adv_f (P := fun q => isD (f q)) h 161
theorem tB_f {f : Int → Int} {q : Int} (h : isB (f q) = false) : tB f q = q := adv_f (P := fun q => isB (f q)) h 161
theorem tE_b {f : Int → Int} {n p : Int} (F : LF f n) (p0 : 0 ≤ p) (p1 : p ≤ n) : tB f p ≤ tE f p ∧ tE f p ≤ n ∧ (tK f p ≠ 22 → tB f p < tE f p) ∧ (tK f p = 22 → tB f p = n ∧ tE f p = n) := by
  have hb := tB_b F p0 p1
  have ho := F.out (k := tB f p) (by omega)
  unfold tE tK
  by_cases c1 : f (tB f p) < 0
  · rw [if_pos c1, if_pos c1]
    exact ⟨by omega, by omega, fun q => absurd rfl q, fun _ => by omega⟩
  · rw [if_neg c1, if_neg c1]
    have hn : tB f p < n := by omega
    by_cases c2 : isL (f (tB f p)) = true
    · rw [if_pos c2, if_pos c2]
      have e1 := eL_b F (p := tB f p) (by omega) (by omega)
      have e2 : tB f p < eL f (tB f p) := by
        rw [← eL_s F (by omega) c2]
        have := eL_b F (p := tB f p + 1) (by omega) (by omega)
        omega
      have e3 := wF_b (f := f) (b := tB f p) (n := (tE f p - tB f p).toNat) 13
      exact ⟨by omega, by omega, fun _ => e2, fun q => by exfalso; omega⟩
    · rw [if_neg c2, if_neg c2]
      by_cases c3 : isD (f (tB f p)) = true
      · rw [if_pos c3, if_pos c3]
        have e1 := eD_b F (p := tB f p) (by omega) (by omega)
        have e2 : tB f p < eD f (tB f p) := by
          rw [← eD_s F (by omega) c3]
          have := eD_b F (p := tB f p + 1) (by omega) (by omega)
          omega
        exact ⟨by omega, by omega, fun _ => e2, fun q => by exfalso; split at q <;> omega⟩
      · rw [if_neg c3, if_neg c3]
        have e3 := sgT_b (f (tB f p))
        exact ⟨by omega, by omega, fun _ => by omega, fun q => by exfalso; omega⟩
theorem tK_b {f : Int → Int} {p : Int} : 0 ≤ tK f p ∧ tK f p ≤ 23 := by
  unfold tK
  have e2 := wF_b (f := f) (b := tB f p) (n := (tE f p - tB f p).toNat) 13
  have e3 := sgT_b (f (tB f p))
  repeat' split
  all_goals omega
theorem nV_b {f : Int → Int} {b : Int} : ∀ k : Nat, (∀ i : Nat, i < k → isD (f (b + i)) = true) → 0 ≤ nV f b k ∧ nV f b k + 1 ≤ 10 ^ k
  | 0, _ => ⟨Int.le_refl _, Int.le_refl _⟩
  | k + 1, h => by
    have ih := nV_b k (fun i hi => h i (by omega))
    have hd := of_decide_eq_true (h k (by omega))
    rw [nV, Int.pow_succ]
    omega
theorem tN_b {f : Int → Int} {n p : Int} (F : LF f n) (p0 : 0 ≤ p) (p1 : p ≤ n) (h : tK f p = 13) : 0 ≤ tN f p ∧ tN f p ≤ 9999 ∧ f (tB f p) ≥ 0 ∧ isL (f (tB f p)) = false ∧ isD (f (tB f p)) = true ∧ tE f p = eD f (tB f p) ∧ tE f p - tB f p ≤ 4 := by
  have hb := tB_b F p0 p1
  have e2 := wF_b (f := f) (b := tB f p) (n := (tE f p - tB f p).toNat) 13
  have e3 := sgT_b (f (tB f p))
  unfold tK at h
  by_cases c1 : f (tB f p) < 0
  · rw [if_pos c1] at h
    cases h
  rw [if_neg c1] at h
  by_cases c2 : isL (f (tB f p)) = true
  · rw [if_pos c2] at h
    omega
  rw [if_neg c2] at h
  by_cases c3 : isD (f (tB f p)) = true
  · rw [if_pos c3] at h
    have c4 : ¬ 4 < tE f p - tB f p := fun q => by rw [if_pos q] at h; cases h
    have eE : tE f p = eD f (tB f p) := by unfold tE; rw [if_neg c1, if_neg c2, if_pos c3]
    have e1 := eD_b F (p := tB f p) (by omega) (by omega)
    have hv := nV_b (f := f) (b := tB f p) (tE f p - tB f p).toNat (fun i hi => e1.2.2.2 _ (by omega) (by omega))
    have hp : (10 : Int) ^ (tE f p - tB f p).toNat ≤ 10000 := (show ∀ k : Nat, k < 5 → (10 : Int) ^ k ≤ 10000 by decide) _ (by omega)
    unfold tN
    refine ⟨hv.1, by omega, by omega, by simpa using c2, c3, eE, by omega⟩
  · rw [if_neg c3] at h
    omega
noncomputable abbrev tk (f : Int → Int) (i : Nat) : Int := tK f (tP f i)
theorem tP_b {f : Int → Int} {n : Int} (F : LF f n) : ∀ i : Nat, 0 ≤ tP f i ∧ tP f i ≤ n
  | 0 => ⟨Int.le_refl _, F.1⟩
  | i + 1 => by
    have ih := tP_b F i
    have h1 := tB_b F ih.1 ih.2
    have h2 := tE_b F ih.1 ih.2
    rw [tP]
    omega
theorem tP_i {f : Int → Int} {n : Int} (F : LF f n) : ∀ i : Nat, (∀ k : Nat, k < i → tk f k ≠ 22) → (i : Int) ≤ tP f i
  | 0, _ => Int.le_refl _
  | i + 1, h => by
    have ih := tP_i F i (fun k hk => h k (by omega))
    have hb := tP_b F i
    have h1 := tB_b F hb.1 hb.2
    have h2 := (tE_b F hb.1 hb.2).2.2.1 (h i (by omega))
    rw [tP]
    omega
/-- the last token: the end, or one that can stand nowhere -/
def isN (f : Int → Int) (N : Nat) : Prop := (∀ i : Nat, i < N → tk f i ≠ 22 ∧ tk f i ≠ 23) ∧ (tk f N = 22 ∨ tk f N = 23)
theorem isN_b {f : Int → Int} {n : Int} (F : LF f n) {N : Nat} (h : isN f N) : (N : Int) ≤ n := by
  have h1 := tP_i F N (fun k hk => (h.1 k hk).1)
  have h2 := tP_b F N
  omega
