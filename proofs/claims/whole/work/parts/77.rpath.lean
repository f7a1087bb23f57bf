/-! ===== places: the way back ===== -/
def stM (m g2 : mH) : Prop := St g2 ∧ m01 m g2 ∧ vld m (Mr g2) ∧ lok m (Mr g2)
abbrev K45 (g g2 : mH) : Prop := ∀ x k : Int, ¬ (x = 245 ∧ 0 ≤ k) → g2 x k = g x k
def pInv (m h g : mH) (fr : Int) (dA dR : Int → Nat) (g2 : mH) (r : Int) : Prop := stM m g2 ∧ K45 g g2 ∧ useP m (Mr g2) r < m 209 r ∧ (∀ a : Int, 0 ≤ a → a < m 200 10 → degP m (Mr g2) a = degP m (Mr h) a) ∧ (∀ s : Int, 0 ≤ s → s < m 200 6 → g 247 s ≠ -1 → dR s ≤ dR r → Mr g2 (g 247 s) s = 0) ∧ (∀ b : Int, 0 ≤ b → b < m 200 10 → b ≠ fr → 0 ≤ g 246 b → dA b < dR r → Mr g2 b (g 246 b) = 1)
/-- one cell of the pairing written -/
theorem stM_up {m g2 : mH} {a p v : Int} (R8 : m 200 6 ≤ 8) (S : stM m g2) (a0 : 0 ≤ a) (a1 : a < m 200 10) (p0 : 0 ≤ p) (p1 : p < m 200 6) (hv : (v = 0) ∨ (v = 1 ∧ ¬ kb m p a ∧ useP m (Mr g2) p - Mr g2 a p < m 209 p)) : stM m (up2 g2 245 (8 * a + p) v) ∧ (∀ r : Int, 0 ≤ r → r < m 200 6 → useP m (Mr (up2 g2 245 (8 * a + p) v)) r = useP m (Mr g2) r + (if r = p then v - Mr g2 a p else 0)) ∧ (∀ b : Int, 0 ≤ b → b < m 200 10 → degP m (Mr (up2 g2 245 (8 * a + p) v)) b = degP m (Mr g2) b + (if b = a then v - Mr g2 a p else 0)) := by
  obtain ⟨s1, s2, s3, s4⟩ := S
  have hU := M_upd (m := m) (M := Mr g2) (M' := Mr (up2 g2 245 (8 * a + p) v)) (w := v - Mr g2 a p) a0 a1 p0 p1 (fun b r _ _ r0 r1 => Mr_up p0 (by omega) r0 (by omega))
  have h01 : Mr g2 a p = 0 ∨ Mr g2 a p = 1 := s2 a p a0 a1 p0 (by omega)
  refine ⟨⟨s1.upA (by decide +kernel) (by omega), fun b r b0 b1 r0 r1 => ?_, fun b r b0 b1 r0 r1 => ?_, fun r r0 r1 => ?_⟩, hU.1, hU.2⟩
  · by_cases c : b = a ∧ r = p
    · rw [c.1, c.2, up2_eq]
      rcases hv with z | z
      · exact Or.inl z
      · exact Or.inr z.1
    · rw [up2_ne (by omega)]
      exact s2 b r b0 b1 r0 r1
  · rw [Mr_up p0 (by omega) r0 (by omega)]
    by_cases c : b = a ∧ r = p
    · rw [if_pos c, c.1, c.2]
      rcases hv with z | z
      · exact Or.inl (by omega)
      · exact Or.inr ⟨by omega, z.2.1⟩
    · rw [if_neg c, Int.add_zero]
      exact s3 b r b0 b1 r0 r1
  · have h2 := s4 r r0 r1
    rw [hU.1 r r0 r1]
    by_cases c : r = p
    · rw [if_pos c, c]
      rw [c] at h2
      rcases hv with z | z
      · omega
      · omega
    · rw [if_neg c]
      omega
theorem path_end {m h g g2 : mH} {fr r : Int} {dA dR : Int → Nat} (R8 : m 200 6 ≤ 8) (I : pInv m h g fr dA dR g2 r) (F : fI2 m (Mr h) fr g dA dR) (r0 : 0 ≤ r) (r1 : r < m 200 6) (hr : g 247 r ≠ -1) : (0 ≤ g 247 r ∧ g 247 r < m 200 10) ∧ stM m (up2 g2 245 (8 * g 247 r + r) 1) ∧ (∀ b : Int, 0 ≤ b → b < m 200 10 → degP m (Mr (up2 g2 245 (8 * g 247 r + r) 1)) b = inc (degP m (Mr h)) (g 247 r) b) ∧ useP m (Mr (up2 g2 245 (8 * g 247 r + r) 1)) r ≤ m 209 r := by
  obtain ⟨i1, i2, i3, i4, i5, i6⟩ := I
  rcases F.2.1 r r0 r1 with z | ⟨z1, z2, z3, z4, z5, z6⟩
  · exact absurd z hr
  · have e0 := i5 r r0 r1 hr (Nat.le_refl _)
    have hs := stM_up (v := 1) R8 i1 z1 z2 r0 r1 (Or.inr ⟨rfl, z5, by omega⟩)
    refine ⟨⟨z1, z2⟩, hs.1, fun b b0 b1 => ?_, hs.1.2.2.2 r r0 r1⟩
    rw [hs.2.2 b b0 b1, i4 b b0 b1, e0]
    unfold inc
    split <;> omega
theorem path_step {m h g g2 : mH} {fr r : Int} {dA dR : Int → Nat} (R8 : m 200 6 ≤ 8) (I : pInv m h g fr dA dR g2 r) (F : fI2 m (Mr h) fr g dA dR) (r0 : 0 ≤ r) (r1 : r < m 200 6) (hr : g 247 r ≠ -1) (h99 : g 246 (g 247 r) ≠ 99) : (0 ≤ g 246 (g 247 r) ∧ g 246 (g 247 r) < m 200 6) ∧ g 247 (g 246 (g 247 r)) ≠ -1 ∧ dR (g 246 (g 247 r)) < dR r ∧ pInv m h g fr dA dR (up2 (up2 g2 245 (8 * g 247 r + r) 1) 245 (8 * g 247 r + g 246 (g 247 r)) 0) (g 246 (g 247 r)) := by
  have hE := path_end R8 I F r0 r1 hr
  obtain ⟨i1, i2, i3, i4, i5, i6⟩ := I
  rcases F.2.1 r r0 r1 with z | ⟨z1, z2, z3, z4, z5, z6⟩
  · exact absurd z hr
  · generalize ha : g 247 r = a at *
    rcases F.1 a z1 z2 with y | y | ⟨y1, y2, y3, y4, y5, y6⟩
    · exact absurd y z3
    · exact absurd y.2 h99
    · generalize hp : g 246 a = p at *
      have hpr : p ≠ r := fun q => by rw [q] at y6; omega
      have hM3 : Mr (up2 g2 245 (8 * a + r) 1) a p = 1 := by
        rw [Mr_up r0 (by omega) y2 (by omega), if_neg (fun q => hpr q.2), Int.add_zero, ← hp]
        exact i6 a z1 z2 y1 (by rw [hp]; exact y2) z6
      have hs := stM_up (v := 0) (a := a) (p := p) R8 hE.2.1 z1 z2 y2 y3 (Or.inl rfl)
      refine ⟨⟨y2, y3⟩, y5, by omega, hs.1, fun x k q => ?_, ?_, fun b b0 b1 => ?_, fun s s0 s1 q1 q2 => ?_, fun b b0 b1 q1 q2 q3 => ?_⟩
      · rw [up2_ne (by omega), up2_ne (by omega)]
        exact i2 x k q
      · rw [hs.2.1 p y2 y3, if_pos rfl, hM3]
        have := hE.2.1.2.2.2 p y2 y3
        omega
      · rw [hs.2.2 b b0 b1, hE.2.2.1 b b0 b1, hM3]
        unfold inc
        split <;> omega
      · have c2 : s ≠ r := fun q => by rw [q] at q2; omega
        have c3 : ¬ (g 247 s = a ∧ s = p) := fun q => by
          rcases F.2.1 s s0 s1 with w | w
          · exact q1 w
          · have w6 := w.2.2.2.2.2
            rw [q.1] at w6
            rw [q.2] at w6
            omega
        rw [Mr_up y2 (by omega) s0 (by omega), if_neg c3, Int.add_zero, Mr_up r0 (by omega) s0 (by omega), if_neg (fun q => c2 q.2), Int.add_zero]
        exact i5 s s0 s1 q1 (by omega)
      · have c2 : b ≠ a := fun q => by rw [q] at q3; omega
        have hb6 : g 246 b < m 200 6 := by
          rcases F.1 b b0 b1 with w | w | w
          · exfalso; omega
          · exact absurd w.1 q1
          · exact w.2.2.1
        rw [Mr_up y2 (by omega) q2 (by omega), if_neg (fun q => c2 q.1), Int.add_zero, Mr_up r0 (by omega) q2 (by omega), if_neg (fun q => c2 q.1), Int.add_zero]
        exact i6 b b0 b1 q1 q2 (by omega)
