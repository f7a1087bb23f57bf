/-! ===== places: pairings, and what bars one more ===== -/
abbrev mP : Type := Int → Int → Int
def useP (m : mH) (M : mP) (r : Int) : Int := sm (fun a => M a r) (m 200 10).toNat
def degP (m : mH) (M : mP) (a : Int) : Int := sm (fun r => M a r) (m 200 6).toNat
def vld (m : mH) (M : mP) : Prop := ∀ a r : Int, 0 ≤ a → a < m 200 10 → 0 ≤ r → r < m 200 6 → M a r = 0 ∨ (M a r = 1 ∧ ¬ kb m r a)
def lok (m : mH) (M : mP) : Prop := ∀ r : Int, 0 ≤ r → r < m 200 6 → useP m M r ≤ m 209 r
def Feas (m : mH) (c : Int → Int) : Prop := ∃ M : mP, vld m M ∧ lok m M ∧ ∀ a : Int, 0 ≤ a → a < m 200 10 → degP m M a = c a
def inc (c : Int → Int) (a : Int) : Int → Int := fun x => if x = a then c x + 1 else c x
theorem sm_swap {f : Int → Int → Int} {R : Nat} : ∀ A : Nat, sm (fun a => sm (fun r => f a r) R) A = sm (fun r => sm (fun a => f a r) A) R
  | 0 => (sm_zero R (fun _ _ => rfl)).symm
  | A + 1 => by
    rw [sm, sm_swap A, ← sm_add]
    rfl
theorem Feas_cg {m : mH} {c c' : Int → Int} (e : ∀ a : Int, 0 ≤ a → a < m 200 10 → c a = c' a) (h : Feas m c) : Feas m c' := by
  obtain ⟨M, h1, h2, h3⟩ := h
  exact ⟨M, h1, h2, fun a a0 a1 => (h3 a a0 a1).trans (e a a0 a1)⟩
/-- a cut: the askings X and the readers Y that were reached -/
theorem cut {m : mH} {M : mP} {a0 : Int} (X Y : Int → Bool) (v : vld m M) (q0 : 0 ≤ a0) (q1 : a0 < m 200 10) (xa : X a0 = true)
    (h1 : ∀ x r : Int, 0 ≤ x → x < m 200 10 → 0 ≤ r → r < m 200 6 → X x = true → Y r = false → ¬ kb m r x → M x r = 1)
    (h2 : ∀ r : Int, 0 ≤ r → r < m 200 6 → Y r = true → m 209 r ≤ useP m M r)
    (h3 : ∀ x r : Int, 0 ≤ x → x < m 200 10 → 0 ≤ r → r < m 200 6 → Y r = true → M x r = 1 → X x = true) : ¬ Feas m (inc (degP m M) a0) := by
  rintro ⟨N, nv, nl, nd⟩
  have hT : ∀ K : mP, sm (fun a => if X a = true then degP m K a else 0) (m 200 10).toNat = sm (fun r => sm (fun a => if X a = true then K a r else 0) (m 200 10).toNat) (m 200 6).toNat := by
    intro K
    rw [← sm_swap]
    refine sm_congr _ (fun i _ => ?_)
    by_cases c : X (i : Int) = true
    · rw [if_pos c]
      unfold degP
      exact sm_congr _ (fun k _ => (if_pos c).symm)
    · rw [if_neg c]
      exact (sm_zero _ (fun k _ => if_neg c)).symm
  have hN : sm (fun a => if X a = true then degP m N a else 0) (m 200 10).toNat = sm (fun a => if X a = true then degP m M a else 0) (m 200 10).toNat + 1 := by
    have e : sm (fun a => if X a = true then degP m N a else 0) (m 200 10).toNat = sm (fun a => (if X a = true then degP m M a else 0) + (if a = a0 then 1 else 0)) (m 200 10).toNat := by
      refine sm_congr _ (fun i hi => ?_)
      have hd := nd i (by omega) (by omega)
      unfold inc at hd
      by_cases c : (i : Int) = a0
      · rw [if_pos c] at hd
        rw [if_pos c, if_pos (by rw [c]; exact xa), if_pos (by rw [c]; exact xa), hd]
      · rw [if_neg c] at hd
        rw [if_neg c, hd]
        omega
    rw [e, sm_add, sm_one (g := fun _ => 1) q0 _ (by omega)]
  have hle : sm (fun r => sm (fun a => if X a = true then N a r else 0) (m 200 10).toNat) (m 200 6).toNat ≤ sm (fun r => sm (fun a => if X a = true then M a r else 0) (m 200 10).toNat) (m 200 6).toNat := by
    refine sm_le _ (fun r hr => ?_)
    by_cases y : Y (r : Int) = true
    · have e1 : sm (fun a => if X a = true then N a r else 0) (m 200 10).toNat ≤ useP m N r := by
        refine sm_le _ (fun i hi => ?_)
        have := nv i r (by omega) (by omega) (by omega) (by omega)
        split <;> omega
      have e2 : sm (fun a => if X a = true then M a r else 0) (m 200 10).toNat = useP m M r := by
        refine sm_congr _ (fun i hi => ?_)
        have hv := v i r (by omega) (by omega) (by omega) (by omega)
        rcases hv with z | z
        · rw [z]
          split <;> rfl
        · rw [if_pos (h3 i r (by omega) (by omega) (by omega) (by omega) y z.1)]
      have e3 := nl r (by omega) (by omega)
      have e4 := h2 r (by omega) (by omega) y
      omega
    · refine sm_le _ (fun i hi => ?_)
      have hn := nv i r (by omega) (by omega) (by omega) (by omega)
      have hv := v i r (by omega) (by omega) (by omega) (by omega)
      by_cases c : X (i : Int) = true
      · rw [if_pos c, if_pos c]
        rcases hn with z | z
        · omega
        · have := h1 i r (by omega) (by omega) (by omega) (by omega) c (by simpa using y) z.2
          omega
      · rw [if_neg c, if_neg c]
        exact Int.le_refl _
  rw [← hT N, ← hT M] at hle
  omega
/-- how many pairs each asking comes to, one try behind another -/
noncomputable def gTr (m : mH) (c : Int → Int) (a : Int) : Nat → Int → Int
  | 0 => c
  | k + 1 => @ite _ (Feas m (inc (gTr m c a k) a)) (Classical.propDecidable _) (inc (gTr m c a k) a) (gTr m c a k)
noncomputable def gPr (m : mH) : Nat → Int → Int
  | 0 => fun _ => 0
  | n + 1 => gTr m (gPr m n) n (needM (m 211 n)).toNat
theorem gTr_t {m : mH} {c : Int → Int} {a : Int} {k : Nat} (q : Feas m (inc (gTr m c a k) a)) : gTr m c a (k + 1) = inc (gTr m c a k) a := if_pos q
theorem gTr_f {m : mH} {c : Int → Int} {a : Int} {k : Nat} (q : ¬ Feas m (inc (gTr m c a k) a)) : gTr m c a (k + 1) = gTr m c a k := if_neg q
theorem gTr_x {m : mH} {c : Int → Int} {a : Int} {k : Nat} (q : ¬ Feas m (inc (gTr m c a k) a)) : ∀ n : Nat, gTr m c a (k + n) = gTr m c a k
  | 0 => rfl
  | n + 1 => by
    have ih := gTr_x q n
    rw [← Nat.add_assoc, gTr_f (by rw [ih]; exact q), ih]
theorem gTr_ne {m : mH} {c : Int → Int} {a x : Int} (hx : x ≠ a) : ∀ k : Nat, gTr m c a k x = c x
  | 0 => rfl
  | k + 1 => by
    by_cases q : Feas m (inc (gTr m c a k) a)
    · rw [gTr_t q]
      exact (if_neg hx).trans (gTr_ne hx k)
    · rw [gTr_f q]
      exact gTr_ne hx k
theorem gTr_b {m : mH} {c : Int → Int} {a : Int} : ∀ k : Nat, c a ≤ gTr m c a k a ∧ gTr m c a k a ≤ c a + k
  | 0 => ⟨Int.le_refl _, by show c a ≤ c a + 0; omega⟩
  | k + 1 => by
    have ih := gTr_b (m := m) (c := c) (a := a) k
    by_cases q : Feas m (inc (gTr m c a k) a)
    · rw [gTr_t q]
      have e : inc (gTr m c a k) a a = gTr m c a k a + 1 := if_pos rfl
      omega
    · rw [gTr_f q]
      omega
theorem gPr_0 {m : mH} : ∀ n : Nat, ∀ x : Int, (n : Int) ≤ x → gPr m n x = 0
  | 0, _, _ => rfl
  | n + 1, x, hx => by
    show gTr m (gPr m n) n _ x = 0
    rw [gTr_ne (by omega)]
    exact gPr_0 n x (by omega)
theorem sm_inc {c : Int → Int} {a : Int} {A : Nat} (a0 : 0 ≤ a) (a1 : a < A) : sm (inc c a) A = sm c A + 1 := by
  have e : sm (inc c a) A = sm (fun x => c x + (if x = a then 1 else 0)) A := by
    refine sm_congr _ (fun i hi => ?_)
    unfold inc
    split <;> omega
  rw [e, sm_add, sm_one (g := fun _ => 1) a0 _ a1]
