/-! ===== Inv: what its pieces read; the first pairs ===== -/
theorem rds_cg {h h' : mH} {r : Int} (e0 : h' 200 10 = h 200 10) (e : ∀ k, h' 218 k = h 218 k) : rds h' r = rds h r := by
  unfold rds
  rw [e0]
  exact sm_congr _ (fun i _ => by unfold rdsF; rw [e])
theorem iF_cg {j : Nat} {h h' : mH} (e0 : h' 200 0 = h 200 0) (e : ∀ x k, (x = 2 ∨ (100 ≤ x ∧ x < 105) ∨ (201 ≤ x ∧ x ≤ 205)) → h' x k = h x k) (H : iF j h) : iF j h' := by
  intro i i0 i1
  have := H i i0 i1
  rw [e0, e 2 _ (by omega), e (100 + i) _ (by omega), e (100 + i) _ (by omega), e (100 + i) _ (by omega), e (100 + i) _ (by omega), e (100 + i) _ (by omega), e (100 + i) _ (by omega), e 201 _ (by omega), e 202 _ (by omega), e 203 _ (by omega), e 204 _ (by omega), e 205 _ (by omega)]
  exact this
theorem iF_up {j : Nat} {h : mH} (H : iF j h) : iF (j + 1) h := by
  intro i i0 i1
  have := H i i0 i1
  have e : ((j + 1 : Nat) : Int) = (j : Int) + 1 := by omega
  rw [e]
  refine ⟨this.1, ?_⟩
  have := this.2
  omega
theorem iR_cg {h h' : mH} (e0 : h' 200 6 = h 200 6) (e1 : h' 200 10 = h 200 10) (e : ∀ x k, (x = 3 ∨ (110 ≤ x ∧ x < 118) ∨ (207 ≤ x ∧ x ≤ 209) ∨ x = 218) → h' x k = h x k) (H : iR h) : iR h' := by
  intro i i0 i1
  have := H i i0 i1
  rw [rds_cg e1 (fun k => e 218 k (by omega)), e0, e 3 _ (by omega), e (110 + i) _ (by omega), e (110 + i) _ (by omega), e (110 + i) _ (by omega), e (110 + i) _ (by omega), e (110 + i) _ (by omega), e (110 + i) _ (by omega), e 207 _ (by omega), e 208 _ (by omega), e 209 _ (by omega)]
  exact this
theorem iA_cg {h h' : mH} (e0 : h' 200 10 = h 200 10) (e1 : h 200 30 ≤ h' 200 30) (e : ∀ x k, (x = 4 ∨ (120 ≤ x ∧ x < 134 ∧ k ≠ 8 ∧ k ≠ 10 ∧ k ≠ 11) ∨ (140 ≤ x ∧ x < 154 ∧ k < 0) ∨ (211 ≤ x ∧ x ≤ 218)) → h' x k = h x k) (H : iA h) : iA h' := by
  intro a a0 a1
  have := H a a0 a1
  rw [e0, e 4 _ (by omega), e (120 + a) (-1) (by omega), e (120 + a) 0 (by omega), e (120 + a) 1 (by omega), e (120 + a) 2 (by omega), e (120 + a) 3 (by omega), e (120 + a) 4 (by omega), e (120 + a) 5 (by omega), e (120 + a) 6 (by omega), e (120 + a) 7 (by omega), e (120 + a) 9 (by omega), e (140 + a) (-1) (by omega), e (140 + a) (-2) (by omega), e 211 _ (by omega), e 212 _ (by omega), e 213 _ (by omega), e 214 _ (by omega), e 215 _ (by omega), e 216 _ (by omega), e 217 _ (by omega), e 218 _ (by omega)]
  refine ⟨this.1, ?_⟩
  have := this.2
  omega
theorem iB_cg {h h' : mH} (e0 : h' 200 10 = h 200 10) (e1 : h' 200 6 = h 200 6) (e : ∀ x k, ((120 ≤ x ∧ x < 134 ∧ (k = 8 ∨ k = 10)) ∨ (140 ≤ x ∧ x < 154) ∨ (218 ≤ x ∧ x ≤ 220)) → h' x k = h x k) (H : iB h) : iB h' := by
  intro a r a0 a1 r0 r1
  have := H a r a0 a1 r0 r1
  rw [e0, e1, e (120 + a) 8 (by omega), e (120 + a) 10 (by omega), e (140 + a) r (by omega), e 218 _ (by omega), e 219 _ (by omega), e 220 _ (by omega)]
  exact this
theorem iG_cg {h h' : mH} (e0 : h' 200 10 = h 200 10) (e1 : h 200 0 ≤ h' 200 0) (e : ∀ x k, ((120 ≤ x ∧ x < 134 ∧ k = 11) ∨ (160 ≤ x ∧ x < 174) ∨ x = 215 ∨ (221 ≤ x ∧ x ≤ 227) ∨ x = 252) → h' x k = h x k) (H : iG h) : iG h' := by
  intro a a0 a1
  have := H a a0 a1
  rw [e0, e (120 + a) 11 (by omega), e (160 + a) (-1) (by omega), e (160 + a) 0 (by omega), e (160 + a) 1 (by omega), e (160 + a) 2 (by omega), e (160 + a) 3 (by omega), e (160 + a) 4 (by omega), e (160 + a) 5 (by omega), e (160 + a) 6 (by omega), e (160 + a) 7 (by omega), e (160 + a) 8 (by omega), e 215 _ (by omega), e 221 _ (by omega), e 222 _ (by omega), e 223 _ (by omega), e 224 _ (by omega), e 225 _ (by omega), e 226 _ (by omega), e 227 _ (by omega), e 252 _ (by omega)]
  rcases this with q | ⟨q1, q2, q3, q4⟩ | q
  · exact Or.inl q
  · exact Or.inr (Or.inl ⟨q1, q2, Int.lt_of_lt_of_le q3 e1, q4⟩)
  · exact Or.inr (Or.inr q)
theorem iS_cg {h h' : mH} (e : ∀ x k, ((80 ≤ x ∧ x < 94) ∨ (253 ≤ x ∧ x ≤ 255)) → h' x k = h x k) (H : iS h) : iS h' := by
  intro x x0 x1
  have := H x x0 x1
  rw [e (80 + x) _ (by omega), e (80 + x) _ (by omega), e 253 _ (by omega), e 254 _ (by omega)]
  refine ⟨this.1, this.2.1, this.2.2.1, this.2.2.2.1, this.2.2.2.2.1, this.2.2.2.2.2.1, fun i i0 i1 => ?_⟩
  rw [e (90 + x) _ (by omega), e 255 _ (by omega)]
  exact this.2.2.2.2.2.2 i i0 i1
theorem iP_cg {h h' : mH} (e0 : h' 200 29 = h 200 29) (e : ∀ x k, (x = 13 ∨ x = 228) → h' x k = h x k) (H : iP h) : iP h' := by
  intro k k0 k1
  have := H k k0 k1
  rw [e0, e 13 _ (by omega), e 228 _ (by omega)]
  exact this
theorem hgt_cg {f g : Int → Int} {s : Int} : ∀ n : Nat, (∀ k : Nat, k < n → f (s + k) = g (s + k)) → hgt f s n = hgt g s n
  | 0, _ => rfl
  | n + 1, h => by rw [hgt, hgt, hgt_cg n (fun k hk => h k (by omega)), h n (by omega)]
theorem iT1_cg {h h' : mH} {t p s e : Int} (t0 : 0 ≤ t) (t1 : t < 6) (c : ∀ x k, ((50 ≤ x ∧ x < 56) ∨ (232 ≤ x ∧ x ≤ 234)) → h' x k = h x k) (H : iT1 h t p s e) : iT1 h' t p s e := by
  obtain ⟨a1, a2, a3, a4, a5, a6⟩ := H
  have ec : h' (50 + t) = h (50 + t) := by funext k; exact c _ k (by omega)
  unfold iT1
  rw [ec, c 232 _ (by omega)]
  refine ⟨a1, a2, a3, a4, a5, fun k hk => ?_⟩
  rw [c 233 _ (by omega), c 234 _ (by omega)]
  exact a6 k hk
theorem iT_cg {h h' : mH} (e0 : h' 200 30 = h 200 30) (l0 : h 200 30 ≤ 6) (e : ∀ x k, ((50 ≤ x ∧ x < 56) ∨ (60 ≤ x ∧ x < 66) ∨ (232 ≤ x ∧ x ≤ 234)) → h' x k = h x k) (H : iT h) : iT h' := by
  intro t t0 t1
  rw [e0] at t1
  have := H t t0 t1
  rw [e (60 + t) 0 (by omega), e (60 + t) 1 (by omega), e (60 + t) 2 (by omega)]
  have c : ∀ x k, ((50 ≤ x ∧ x < 56) ∨ (232 ≤ x ∧ x ≤ 234)) → h' x k = h x k := fun x k q => e x k (by omega)
  exact ⟨iT1_cg t0 (by omega) c this.1, iT1_cg t0 (by omega) c this.2.1, iT1_cg t0 (by omega) c this.2.2⟩
/-- what no call's answer hangs on -/
def scr (x k : Int) : Prop := 0 ≤ k ∧ ((8 ≤ x ∧ x ≤ 12) ∨ (14 ≤ x ∧ x ≤ 35) ∨ (70 ≤ x ∧ x ≤ 75) ∨ (x = 7 ∧ 5 ≤ k) ∨ (40 ≤ x ∧ x ≤ 45 ∧ 3 ≤ k) ∨ (x = 200 ∧ (38 ≤ k ∧ k ≤ 41 ∨ k = 43 ∨ k = 48 ∨ k = 49)) ∨ x = 242 ∨ x = 244 ∨ x = 245 ∨ x = 246 ∨ x = 247 ∨ x = 250 ∨ x = 251)
theorem Inv_scr {j : Nat} {h h' : mH} (hS : St h') (e : ∀ x k, ¬ scr x k → h' x k = h x k) (H : Inv j h) : Inv (j + 1) h' := by
  obtain ⟨-, aN, aF, aR, aA, aB, aG, aS, aP, aT⟩ := H
  have e2 : ∀ x k, ¬ (0 ≤ k ∧ ((8 ≤ x ∧ x ≤ 12) ∨ (14 ≤ x ∧ x ≤ 35) ∨ (70 ≤ x ∧ x ≤ 75) ∨ (x = 7 ∧ 5 ≤ k) ∨ (40 ≤ x ∧ x ≤ 45 ∧ 3 ≤ k) ∨ (x = 200 ∧ (38 ≤ k ∧ k ≤ 41 ∨ k = 43 ∨ k = 48 ∨ k = 49)) ∨ x = 242 ∨ x = 244 ∨ x = 245 ∨ x = 246 ∨ x = 247 ∨ x = 250 ∨ x = 251)) → h' x k = h x k := e
  have eN : iN h' := by
    unfold iN at aN ⊢
    rw [e2 200 0 (by omega), e2 200 6 (by omega), e2 200 10 (by omega), e2 200 30 (by omega), e2 200 31 (by omega), e2 200 29 (by omega), e2 1 11 (by omega), e2 1 12 (by omega), e2 1 13 (by omega), e2 1 14 (by omega), e2 1 15 (by omega), e2 7 1 (by omega)]
    exact aN
  exact ⟨hS, eN, iF_up (iF_cg (e2 200 0 (by omega)) (fun x k q => e2 x k (by omega)) aF), iR_cg (e2 200 6 (by omega)) (e2 200 10 (by omega)) (fun x k q => e2 x k (by omega)) aR, iA_cg (e2 200 10 (by omega)) (by rw [e2 200 30 (by omega)]; exact Int.le_refl _) (fun x k q => e2 x k (by omega)) aA, iB_cg (e2 200 10 (by omega)) (e2 200 6 (by omega)) (fun x k q => e2 x k (by omega)) aB, iG_cg (e2 200 10 (by omega)) (by rw [e2 200 0 (by omega)]; exact Int.le_refl _) (fun x k q => e2 x k (by omega)) aG, iS_cg (fun x k q => e2 x k (by omega)) aS, iP_cg (e2 200 29 (by omega)) (fun x k q => e2 x k (by omega)) aP, iT_cg (e2 200 30 (by omega)) (by unfold iN at aN; omega) (fun x k q => e2 x k (by omega)) aT⟩
theorem Inv_same {j : Nat} {h : mH} (H : Inv j h) : Inv (j + 1) h := Inv_scr H.1 (fun _ _ _ => rfl) H

