/-! ===== Inv behind a change of one fund and one grant; pair proof ===== -/
def iG1 (h : mH) (a : Int) : Prop :=
  ((a < h 200 10 ∧ h 221 a = -1 ∧ h (120 + a) 11 = -1 ∧ h (160 + a) (-1) = 0 ∧ h 225 a = 0 ∧ h 226 a = 0 ∧ h 227 a = 0 ∧ h 252 a = 0) ∨
   (a < h 200 10 ∧ 0 ≤ h 221 a ∧ h 221 a < h 200 0 ∧ h (120 + a) 11 = 160 + a ∧ h (160 + a) (-1) = 4 ∧ h (160 + a) 0 = 100 + h 221 a ∧ h (160 + a) 1 = h 221 a ∧ h (160 + a) 2 = (h 215 a).tdiv (h 222 a) ∧ h (160 + a) 3 = h 222 a ∧ h (160 + a) 4 = h 223 a ∧ h (160 + a) 5 = h 224 a ∧ h (160 + a) 6 = h 225 a ∧ h (160 + a) 7 = h 227 a ∧ h (160 + a) 8 = h 226 a ∧
      1 ≤ h 222 a ∧ h 222 a ≤ 4 ∧ 1 ≤ h 223 a ∧ h 223 a ≤ 100 ∧ 0 ≤ h 224 a ∧ h 224 a ≤ 999 ∧ 0 ≤ h 225 a ∧ h 225 a ≤ h 222 a ∧ 0 ≤ h 226 a ∧ 0 ≤ h 227 a ∧ h 226 a + h 227 a ≤ h 215 a ∧
      ((h 252 a = 1 ∧ h 227 a = 0) ∨ (h 252 a = 0 ∧ h 225 a < h 222 a ∧ h 227 a = h 215 a - h 225 a * (h 215 a).tdiv (h 222 a)) ∨ (h 252 a = 0 ∧ h 225 a = h 222 a ∧ h 227 a = 0))) ∨
   (h 200 10 ≤ a ∧ h (160 + a) (-1) = 0 ∧ h 225 a = 0 ∧ h 226 a = 0 ∧ h 227 a = 0 ∧ h 252 a = 0))
theorem iG_ch {h h' : mH} {a : Int} (e0 : h' 200 10 = h 200 10) (e1 : h' 200 0 = h 200 0) (kp : ∀ x k, ((120 ≤ x ∧ x < 134 ∧ k = 11 ∧ x ≠ 120 + a) ∨ (160 ≤ x ∧ x < 174 ∧ x ≠ 160 + a) ∨ (x = 215 ∧ k ≠ a) ∨ (221 ≤ x ∧ x ≤ 227 ∧ k ≠ a) ∨ (x = 252 ∧ k ≠ a)) → h' x k = h x k) (nw : iG1 h' a) (H : iG h) : iG h' := by
  intro b b0 b1
  by_cases c : b = a
  · rw [c]
    exact nw
  · have := H b b0 b1
    rw [e0, e1, kp (120 + b) 11 (by omega), kp (160 + b) (-1) (by omega), kp (160 + b) 0 (by omega), kp (160 + b) 1 (by omega), kp (160 + b) 2 (by omega), kp (160 + b) 3 (by omega), kp (160 + b) 4 (by omega), kp (160 + b) 5 (by omega), kp (160 + b) 6 (by omega), kp (160 + b) 7 (by omega), kp (160 + b) 8 (by omega), kp 215 b (by omega), kp 221 b (by omega), kp 222 b (by omega), kp 223 b (by omega), kp 224 b (by omega), kp 225 b (by omega), kp 226 b (by omega), kp 227 b (by omega), kp 252 b (by omega)]
    exact this
theorem iF_ch {j : Nat} {h h' : mH} {f : Int} (e0 : h' 200 0 = h 200 0) (f0 : 0 ≤ f) (f5 : f < 5) (f1 : f < h 200 0) (kp : ∀ x k, (x = 2 ∨ (100 ≤ x ∧ x < 105) ∨ (201 ≤ x ∧ x ≤ 205)) → ¬ (x = 100 + f ∧ 2 ≤ k ∧ k ≤ 4) → ¬ (203 ≤ x ∧ x ≤ 205 ∧ k = f) → h' x k = h x k) (c2 : h' (100 + f) 2 = h' 203 f) (c3 : h' (100 + f) 3 = h' 204 f) (c4 : h' (100 + f) 4 = h' 205 f) (b2 : h 203 f - 1000000 ≤ h' 203 f ∧ h' 203 f ≤ h 203 f + 1000000) (b3 : h 204 f - 1000000 ≤ h' 204 f ∧ h' 204 f ≤ h 204 f + 1000000) (b4 : h 205 f - 1000000 ≤ h' 205 f ∧ h' 205 f ≤ h 205 f + 1000000) (H : iF j h) : iF (j + 1) h' := by
  intro i i0 i1
  by_cases c : i = f
  · subst c
    have hf := H i i0 i1
    have ej : ((j + 1 : Nat) : Int) = (j : Int) + 1 := by omega
    have k1 := kp 2 i (by omega) (by omega) (by omega)
    have k2 := kp (100 + i) (-1) (by omega) (by omega) (by omega)
    have k3 := kp (100 + i) 0 (by omega) (by omega) (by omega)
    have k4 := kp (100 + i) 1 (by omega) (by omega) (by omega)
    have k5 := kp 201 i (by omega) (by omega) (by omega)
    have k6 := kp 202 i (by omega) (by omega) (by omega)
    rw [ej]
    clear kp H
    rcases hf with ⟨w1 | w1, w2⟩
    · refine ⟨Or.inl ⟨?_, ?_, ?_, ?_, ?_, ?_, ?_, ?_⟩, ?_, ?_, ?_, ?_, ?_, ?_, ?_, ?_, ?_, ?_⟩ <;> omega
    · exfalso; omega
  · have := iF_up H i i0 i1
    rw [e0, kp 2 i (by omega) (by omega) (by omega), kp (100 + i) (-1) (by omega) (by omega) (by omega), kp (100 + i) 0 (by omega) (by omega) (by omega), kp (100 + i) 1 (by omega) (by omega) (by omega), kp (100 + i) 2 (by omega) (by omega) (by omega), kp (100 + i) 3 (by omega) (by omega) (by omega), kp (100 + i) 4 (by omega) (by omega) (by omega), kp 201 i (by omega) (by omega) (by omega), kp 202 i (by omega) (by omega) (by omega), kp 203 i (by omega) (by omega) (by omega), kp 204 i (by omega) (by omega) (by omega), kp 205 i (by omega) (by omega) (by omega)]
    exact this
set_option maxHeartbeats 2000000 in
theorem Inv_fg {j : Nat} {h h' : mH} {a f : Int} (H : Inv j h) (hS : St h') (a0 : 0 ≤ a) (a1 : a < h 200 10) (f0 : 0 ≤ f) (f1 : f < h 200 0) (kp : ∀ x k : Int, ¬ scr x k → ¬ (x = 100 + f ∧ 2 ≤ k ∧ k ≤ 4) → ¬ (x = 120 + a ∧ k = 11) → ¬ (x = 160 + a) → ¬ (203 ≤ x ∧ x ≤ 205 ∧ k = f) → ¬ (221 ≤ x ∧ x ≤ 227 ∧ k = a) → h' x k = h x k) (c2 : h' (100 + f) 2 = h' 203 f) (c3 : h' (100 + f) 3 = h' 204 f) (c4 : h' (100 + f) 4 = h' 205 f) (b2 : h 203 f - 1000000 ≤ h' 203 f ∧ h' 203 f ≤ h 203 f + 1000000) (b3 : h 204 f - 1000000 ≤ h' 204 f ∧ h' 204 f ≤ h 204 f + 1000000) (b4 : h 205 f - 1000000 ≤ h' 205 f ∧ h' 205 f ≤ h 205 f + 1000000) (nw : iG1 h' a) : Inv (j + 1) h' := by
  have hn := H.ns
  obtain ⟨-, aN, aF, aR, aA, aB, aG, aS, aP, aT⟩ := H
  have e2 : ∀ x k : Int, ¬ (0 ≤ k ∧ ((8 ≤ x ∧ x ≤ 12) ∨ (14 ≤ x ∧ x ≤ 35) ∨ (70 ≤ x ∧ x ≤ 75) ∨ (x = 7 ∧ 5 ≤ k) ∨ (40 ≤ x ∧ x ≤ 45 ∧ 3 ≤ k) ∨ (x = 200 ∧ (38 ≤ k ∧ k ≤ 41 ∨ k = 43 ∨ k = 48 ∨ k = 49)) ∨ x = 242 ∨ x = 244 ∨ x = 245 ∨ x = 246 ∨ x = 247 ∨ x = 250 ∨ x = 251)) → ¬ (x = 100 + f ∧ 2 ≤ k ∧ k ≤ 4) → ¬ (x = 120 + a ∧ k = 11) → ¬ (x = 160 + a) → ¬ (203 ≤ x ∧ x ≤ 205 ∧ k = f) → ¬ (221 ≤ x ∧ x ≤ 227 ∧ k = a) → h' x k = h x k := kp
  have e3 : ∀ x k : Int, ¬ (0 ≤ k ∧ ((8 ≤ x ∧ x ≤ 12) ∨ (14 ≤ x ∧ x ≤ 35) ∨ (70 ≤ x ∧ x ≤ 75) ∨ (x = 7 ∧ 5 ≤ k) ∨ (40 ≤ x ∧ x ≤ 45 ∧ 3 ≤ k) ∨ (x = 200 ∧ (38 ≤ k ∧ k ≤ 41 ∨ k = 43 ∨ k = 48 ∨ k = 49)) ∨ x = 242 ∨ x = 244 ∨ x = 245 ∨ x = 246 ∨ x = 247 ∨ x = 250 ∨ x = 251)) → ¬ (100 ≤ x ∧ x < 105) → ¬ (120 ≤ x ∧ x < 134 ∧ k = 11) → ¬ (160 ≤ x ∧ x < 174) → ¬ (203 ≤ x ∧ x ≤ 205) → ¬ (221 ≤ x ∧ x ≤ 227) → h' x k = h x k := fun x k q1 q2 q3 q4 q5 q6 => e2 x k q1 (by omega) (by omega) (by omega) (by omega) (by omega)
  have E : ∀ x k : Int, ¬ (0 ≤ k ∧ ((8 ≤ x ∧ x ≤ 12) ∨ (14 ≤ x ∧ x ≤ 35) ∨ (70 ≤ x ∧ x ≤ 75) ∨ (x = 7 ∧ 5 ≤ k) ∨ (40 ≤ x ∧ x ≤ 45 ∧ 3 ≤ k) ∨ (x = 200 ∧ (38 ≤ k ∧ k ≤ 41 ∨ k = 43 ∨ k = 48 ∨ k = 49)) ∨ x = 242 ∨ x = 244 ∨ x = 245 ∨ x = 246 ∨ x = 247 ∨ x = 250 ∨ x = 251)) ∧ ¬ (100 ≤ x ∧ x < 105) ∧ ¬ (120 ≤ x ∧ x < 134 ∧ k = 11) ∧ ¬ (160 ≤ x ∧ x < 174) ∧ ¬ (203 ≤ x ∧ x ≤ 205) ∧ ¬ (221 ≤ x ∧ x ≤ 227) → h' x k = h x k := fun x k q => e3 x k q.1 q.2.1 q.2.2.1 q.2.2.2.1 q.2.2.2.2.1 q.2.2.2.2.2
  have eN : iN h' := by
    unfold iN at aN ⊢
    rw [E 200 0 (by omega), E 200 6 (by omega), E 200 10 (by omega), E 200 30 (by omega), E 200 31 (by omega), E 200 29 (by omega), E 1 11 (by omega), E 1 12 (by omega), E 1 13 (by omega), E 1 14 (by omega), E 1 15 (by omega), E 7 1 (by omega)]
    exact aN
  refine ⟨hS, eN, iF_ch (f := f) (E 200 0 (by omega)) f0 (by omega) f1 (fun x k q q1 q2 => e2 x k (by omega) q1 (by omega) (by omega) q2 (by omega)) c2 c3 c4 b2 b3 b4 aF, iR_cg (E 200 6 (by omega)) (E 200 10 (by omega)) (fun x k q => E x k (by omega)) aR, iA_cg (E 200 10 (by omega)) (by rw [E 200 30 (by omega)]; exact Int.le_refl _) (fun x k q => ?_) aA, iB_cg (E 200 10 (by omega)) (E 200 6 (by omega)) (fun x k q => E x k (by omega)) aB, iG_ch (a := a) (E 200 10 (by omega)) (E 200 0 (by omega)) (fun x k q => e2 x k (by omega) (by omega) (by omega) (by omega) (by omega) (by omega)) nw aG, iS_cg (fun x k q => E x k (by omega)) aS, iP_cg (E 200 29 (by omega)) (fun x k q => E x k (by omega)) aP, iT_cg (E 200 30 (by omega)) (by omega) (fun x k q => E x k (by omega)) aT⟩
  exact E x k (by omega)
theorem pay_iG1 {h h' : mH} {a P l t : Int} (k10 : h' 200 10 = h 200 10) (k0 : h' 200 0 = h 200 0) (kA : h' (120 + a) 11 = h (120 + a) 11) (kg : ∀ k : Int, -1 ≤ k → k < 6 → h' (160 + a) k = h (160 + a) k) (kr : ∀ x : Int, x = 215 ∨ (221 ≤ x ∧ x ≤ 224) ∨ x = 252 → h' x a = h x a) (v4 : h' (160 + a) 7 = h 227 a - P) (v5 : h' (160 + a) 8 = h 226 a + (P - l)) (v6 : h' (160 + a) 6 = h 225 a + 1) (u4 : h' 227 a = h 227 a - P) (u5 : h' 226 a = h 226 a + (P - l)) (u6 : h' 225 a = h 225 a + 1)
    (g0 : a < h 200 10) (g1 : 0 ≤ h 221 a ∧ h 221 a < h 200 0) (g2 : h (120 + a) 11 = 160 + a) (g3 : h (160 + a) (-1) = 4) (g4 : h (160 + a) 0 = 100 + h 221 a) (g4b : h (160 + a) 1 = h 221 a) (g5 : h (160 + a) 2 = (h 215 a).tdiv (h 222 a)) (g6 : h (160 + a) 3 = h 222 a) (g7 : h (160 + a) 4 = h 223 a) (g8 : h (160 + a) 5 = h 224 a) (r1 : 1 ≤ h 222 a ∧ h 222 a ≤ 4) (r2 : 1 ≤ h 223 a ∧ h 223 a ≤ 100) (r3 : 0 ≤ h 224 a ∧ h 224 a ≤ 999) (r4 : 0 ≤ h 225 a ∧ h 225 a < h 222 a) (r5 : 0 ≤ h 226 a) (r6 : h 226 a + h 227 a ≤ h 215 a) (rP : 0 ≤ P ∧ P ≤ h 227 a) (rl : 0 ≤ l ∧ l ≤ P) (d : h 252 a = 0) (ht : (h 215 a).tdiv (h 222 a) = t) (e1 : h 225 a + 1 < h 222 a → h 227 a - P = h 215 a - (h 225 a + 1) * t) (e2 : h 225 a + 1 = h 222 a → P = h 227 a) : iG1 h' a := by
  refine Or.inr (Or.inl ?_)
  rw [k10, k0, kA, kg (-1) (by decide) (by decide), kg 0 (by decide) (by decide), kg 1 (by decide) (by decide), kg 2 (by decide) (by decide), kg 3 (by decide) (by decide), kg 4 (by decide) (by decide), kg 5 (by decide) (by decide), kr 215 (by decide), kr 221 (by decide), kr 222 (by decide), kr 223 (by decide), kr 224 (by decide), kr 252 (by decide), v4, v5, v6, u4, u5, u6, ht]
  rw [ht] at g5
  clear kg kr v4 v5 v6 u4 u5 u6 k10 k0 kA ht
  refine ⟨g0, g1.1, g1.2, g2, g3, g4, g4b, g5, g6, g7, g8, rfl, rfl, rfl, r1.1, r1.2, r2.1, r2.2, r3.1, r3.2, by omega, by omega, by omega, by omega, by omega, ?_⟩
  by_cases c : h 225 a + 1 < h 222 a
  · exact Or.inr (Or.inl ⟨d, c, e1 c⟩)
  · have e6 := e2 (by omega)
    exact Or.inr (Or.inr ⟨d, by omega, by omega⟩)
set_option maxHeartbeats 2000000 in
theorem Inv_pay {j : Nat} {h h' : mH} (H : Inv j h) (hS : St h') {a f P l : Int} (a0 : 0 ≤ a) (a1 : a < h 200 10) (D : dueP h a) (hf : h 221 a = f) (hP : pN h a = P) (l0 : 0 ≤ l) (l1 : l ≤ P) (kp : ∀ x k : Int, ¬ scr x k → ¬ (x = 100 + f ∧ 2 ≤ k ∧ k ≤ 4) → ¬ (x = 160 + a ∧ 6 ≤ k ∧ k ≤ 8) → ¬ (203 ≤ x ∧ x ≤ 205 ∧ k = f) → ¬ (225 ≤ x ∧ x ≤ 227 ∧ k = a) → h' x k = h x k) (v1 : h' (100 + f) 3 = h 204 f - P) (v2 : h' (100 + f) 4 = h 205 f + (P - l)) (v3 : h' (100 + f) 2 = h 203 f + l) (v4 : h' (160 + a) 7 = h 227 a - P) (v5 : h' (160 + a) 8 = h 226 a + (P - l)) (v6 : h' (160 + a) 6 = h 225 a + 1) (u1 : h' 204 f = h 204 f - P) (u2 : h' 205 f = h 205 f + (P - l)) (u3 : h' 203 f = h 203 f + l) (u4 : h' 227 a = h 227 a - P) (u5 : h' 226 a = h 226 a + (P - l)) (u6 : h' 225 a = h 225 a + 1) : Inv (j + 1) h' := by
  have hn := H.ns
  have a2 : a < 14 := by omega
  have f0 : 0 ≤ f ∧ f < h 200 0 := by rw [← hf]; exact (gg H a0 a1 D.1).2.1
  have f5 : f < 5 := by omega
  clear hn
  have kp2 : ∀ x k : Int, ¬ (0 ≤ k ∧ ((8 ≤ x ∧ x ≤ 12) ∨ (14 ≤ x ∧ x ≤ 35) ∨ (70 ≤ x ∧ x ≤ 75) ∨ (x = 7 ∧ 5 ≤ k) ∨ (40 ≤ x ∧ x ≤ 45 ∧ 3 ≤ k) ∨ (x = 200 ∧ (38 ≤ k ∧ k ≤ 41 ∨ k = 43 ∨ k = 48 ∨ k = 49)) ∨ x = 242 ∨ x = 244 ∨ x = 245 ∨ x = 246 ∨ x = 247 ∨ x = 250 ∨ x = 251)) → ¬ (x = 100 + f ∧ 2 ≤ k ∧ k ≤ 4) → ¬ (x = 160 + a ∧ 6 ≤ k ∧ k ≤ 8) → ¬ (203 ≤ x ∧ x ≤ 205 ∧ k = f) → ¬ (225 ≤ x ∧ x ≤ 227 ∧ k = a) → h' x k = h x k := kp
  have kA : h' (120 + a) 11 = h (120 + a) 11 := kp2 _ _ (by omega) (by omega) (by omega) (by omega) (by omega)
  have kg : ∀ k : Int, -1 ≤ k → k < 6 → h' (160 + a) k = h (160 + a) k := fun k z1 z2 => kp2 _ _ (by omega) (by omega) (by omega) (by omega) (by omega)
  have kr : ∀ x : Int, x = 215 ∨ (221 ≤ x ∧ x ≤ 224) ∨ x = 252 → h' x a = h x a := fun x z => kp2 _ _ (by omega) (by omega) (by omega) (by omega) (by omega)
  have k10 : h' 200 10 = h 200 10 := kp2 _ _ (by omega) (by omega) (by omega) (by omega) (by omega)
  have k0 : h' 200 0 = h 200 0 := kp2 _ _ (by omega) (by omega) (by omega) (by omega) (by omega)
  have hg := gg H a0 a1 D.1
  have hr := gr2 H a0 a1 D.1
  have hp := pN_b H a0 a1 D
  have hgr : h (160 + a) 1 = h 221 a := by
    rcases H.gr a0 a1 with w | w
    · exact absurd w.2.1 D.1
    · exact w.2.2.2.2.2.1
  rw [hP] at hp
  have hb : P ≤ 9999 := by have := (H.gb a0 a1).2.2.2.2; omega
  have nw : iG1 h' a := pay_iG1 k10 k0 kA kg kr v4 v5 v6 u4 u5 u6 a1 hg.2.1 hg.1 hg.2.2.1 hg.2.2.2.1 hgr hg.2.2.2.2.1 hg.2.2.2.2.2.1 hg.2.2.2.2.2.2.1 hg.2.2.2.2.2.2.2.1 hr.1 hr.2.1 hr.2.2.1 ⟨hr.2.2.2.1.1, D.2.2⟩ hr.2.2.2.2.1 hr.2.2.2.2.2.2.1 ⟨hp.1, hp.2.1⟩ ⟨l0, l1⟩ D.2.1 rfl hp.2.2.2.2.1 hp.2.2.2.2.2
  clear hr hp hg hgr
  exact Inv_fg (a := a) (f := f) H hS a0 a1 f0.1 f0.2 (fun p k s1 s2 s3 s4 s5 s6 => kp p k s1 s2 (fun z => s4 z.1) s5 (fun z => s6 (by omega))) (by rw [v3, u3]) (by rw [v1, u1]) (by rw [v2, u2]) (by omega) (by omega) (by omega) nw
theorem kp_pay {h h1 h2 : mH} {a f : Int} (K1 : ∀ x k : Int, ¬ (0 ≤ k ∧ (x = 9 ∨ x = 10 ∨ x = 17 ∨ x = 18 ∨ (70 ≤ x ∧ x ≤ 75) ∨ (40 ≤ x ∧ x ≤ 45 ∧ k = 4))) → ¬ (x = 100 + f ∧ 2 ≤ k ∧ k ≤ 4) → ¬ (x = 160 + a ∧ 6 ≤ k ∧ k ≤ 8) → h1 x k = h x k) (K2 : ∀ x k : Int, ¬ ((x = 200 ∧ (k = 48 ∨ k = 49)) ∨ (x = 244 ∧ 0 ≤ k)) → ¬ (203 ≤ x ∧ x ≤ 205 ∧ k = f) → ¬ (225 ≤ x ∧ x ≤ 227 ∧ k = a) → h2 x k = h1 x k) : ∀ x k : Int, ¬ scr x k → ¬ (x = 100 + f ∧ 2 ≤ k ∧ k ≤ 4) → ¬ (x = 160 + a ∧ 6 ≤ k ∧ k ≤ 8) → ¬ (203 ≤ x ∧ x ≤ 205 ∧ k = f) → ¬ (225 ≤ x ∧ x ≤ 227 ∧ k = a) → h2 x k = h x k := by
  intro x k s1 s2 s3 s4 s5
  unfold scr at s1
  rw [K2 x k (by omega) s4 s5, K1 x k (by omega) s2 s3]
set_option maxHeartbeats 1000000 in
theorem p_proof {u : gT} (j : Nat) (h : mH) (hj : j < 512) (hI : Inv j h) (x y : Int) (i1 : InI x) (i2 : InI y) : PairI u Inv MX11_proof MX12_proof [(0, x), (0, y)] j h := by
  have hS := hI.1
  by_cases q : 0 ≤ x ∧ x < h 200 10
  · by_cases g : h 221 x = -1
    · have g1 : h (120 + x) 11 = -1 := by rcases hI.gr q.1 q.2 with w | w <;> omega
      refine (proof_n (d := 2040) (b := 300) hI Cl_rfl hS q.1 q.2 i2 g1).rlt.mono ?_
      rintro r h1 ⟨rfl, rfl⟩ -
      refine ⟨_, rfl, by split <;> exact ⟨by decide, by decide⟩, (s_X12_proof (u := u) (d := 2039) (b := 0) hI Cr_rfl hS i1 i2).mono ?_⟩
      rintro r h2 (⟨z1, rfl, rfl⟩ | ⟨z1, z2, rfl, rfl⟩ | ⟨z1, z2, -⟩) -
      · rw [if_pos (fun z => z1 ⟨q, z⟩)]
        exact ⟨rfl, Inv_same hI⟩
      · rw [if_neg (fun z => z z1.2)]
        exact ⟨rfl, Inv_same hI⟩
      · exact absurd g z2.1
    · refine (proof_g (d := 2040) (b := 300) hI Cl_rfl hS q.1 q.2 i2 g).mono ?_
      rintro r h1 (⟨y1, rfl, rfl⟩ | ⟨y1, y2, rfl, rfl⟩ | ⟨y1, y2, rfl, gS, K1, v1, v2, v3, v4, v5, v6⟩) -
      · refine ⟨_, rfl, ⟨by decide, by decide⟩, (s_X12_proof (u := u) (d := 2039) (b := 0) hI Cr_rfl hS i1 i2).mono ?_⟩
        rintro r h2 (⟨z1, rfl, rfl⟩ | ⟨z1, z2, rfl, rfl⟩ | ⟨z1, z2, -⟩) -
        · exact ⟨rfl, Inv_same hI⟩
        · exact absurd z1.2 y1
        · exact absurd z1.2 y1
      · refine ⟨_, rfl, ⟨by decide, by decide⟩, (s_X12_proof (u := u) (d := 2039) (b := 0) hI Cr_rfl hS i1 i2).mono ?_⟩
        rintro r h2 (⟨z1, rfl, rfl⟩ | ⟨z1, z2, rfl, rfl⟩ | ⟨z1, z2, -⟩) -
        · exact absurd ⟨q, y1⟩ z1
        · exact ⟨rfl, Inv_same hI⟩
        · exact absurd z2 y2
      · have hn := hI.ns
        have hg := gg hI q.1 q.2 g
        have hr := gr2 hI q.1 q.2 g
        have hp := pN_b hI q.1 q.2 y2
        have hl := lsV_b hI q.1 q.2 y2 (d := y)
        have hgb := hI.gb q.1 q.2
        refine ⟨_, rfl, ⟨by omega, by omega⟩, (s_X12_proof (u := u) (d := 2039) (b := 0) (m := h) hI (fun p k z => K1 p k (by omega) (by omega) (by omega)) gS i1 i2).mono ?_⟩
        rintro r h2 (⟨z1, rfl, rfl⟩ | ⟨z1, z2, rfl, rfl⟩ | ⟨z1, z2, rfl, gS2, K2, u1, u2, u3, u4, u5, u6⟩) -
        · exact absurd ⟨q, y1⟩ z1
        · exact absurd y2 z2
        · have kk : ∀ p k : Int, p < 200 → h2 p k = h1 p k := fun p k z => K2 p k (by omega) (by omega) (by omega)
          exact ⟨rfl, Inv_pay hI gS2 q.1 q.2 y2 rfl rfl hl.1 hl.2 (kp_pay K1 K2) ((kk (100 + h 221 x) 3 (by omega)).trans v1) ((kk (100 + h 221 x) 4 (by omega)).trans v2) ((kk (100 + h 221 x) 2 (by omega)).trans v3) ((kk (160 + x) 7 (by omega)).trans v4) ((kk (160 + x) 8 (by omega)).trans v5) ((kk (160 + x) 6 (by omega)).trans v6) u1 u2 u3 u4 u5 u6⟩
  · refine (proof_f (d := 2040) (b := 300) hI Cl_rfl hS i1 q i2).rlt.mono ?_
    rintro r h1 ⟨rfl, rfl⟩ -
    refine ⟨_, rfl, ⟨by decide, by decide⟩, (s_X12_proof (u := u) (d := 2039) (b := 0) hI Cr_rfl hS i1 i2).mono ?_⟩
    rintro r h2 (⟨z1, rfl, rfl⟩ | ⟨z1, z2, rfl, rfl⟩ | ⟨z1, z2, -⟩) -
    · exact ⟨rfl, Inv_same hI⟩
    · exact absurd z1.1 q
    · exact absurd z1.1 q
