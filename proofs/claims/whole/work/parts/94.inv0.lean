/-! ===== the beginning: what holds behind both constructors ===== -/
theorem hl_ge {X : mX} {h : mH} {x k : Int} : ∀ {L : List hop}, (∀ q ∈ L, q.2.1 ≠ x) → hl X L h x k = h x k
  | [], _ => rfl
  | (false, a, j, w) :: L, e => by
    have ha : a ≠ x := e _ List.mem_cons_self
    rw [hl_cf, up2_ne (Or.inl (Ne.symm ha))]
    exact hl_ge (fun q hq => e q (List.mem_cons_of_mem _ hq))
  | (true, a, z, n) :: L, e => by
    have ha : a ≠ x := e _ List.mem_cons_self
    rw [hl_ct, nwh_ne (Ne.symm ha)]
    exact hl_ge (fun q hq => e q (List.mem_cons_of_mem _ hq))
set_option maxRecDepth 100000 in
theorem LM_ge : ∀ q ∈ LM12, 200 ≤ q.2.1 := by decide +kernel
set_option maxRecDepth 100000 in
theorem LA_lt : ∀ q ∈ LA11, 0 ≤ q.2.1 ∧ q.2.1 < 100 := by decide +kernel
set_option maxRecDepth 100000 in
theorem LB_lt : ∀ q ∈ LB11, 0 ≤ q.2.1 ∧ q.2.1 < 100 := by decide +kernel
def h00 : mH := fun a k => if a ≤ -10 ∧ k = -1 then 99 else 0
theorem h00_0 {x k : Int} (x0 : 0 ≤ x) : h00 x k = 0 := if_neg (by omega)
/-- class cells -/
def B1 (u : gT) (g1 : mH) : Prop := (∀ x k : Int, ¬ regF x → g1 x k = hl (gX (gq u)) LA11 h00 x k) ∧ Tx g1 0 ∧ (g1 40 2 = 70 ∧ g1 70 (-1) = 20 ∧ g1 70 (-2) = 160) ∧ tC g1 0 osS 3
abbrev F2 (u : gT) (g1 : mH) : mH := hl (gX (gq u)) LM12 (hl (gX (gq u)) LB11 g1)
theorem F2_c {u : gT} {g1 : mH} {x k : Int} (hx : x < 200) : F2 u g1 x k = hl (gX (gq u)) LB11 g1 x k := hl_ge (fun q hq => by have := LM_ge q hq; omega)
theorem F2_m {u : gT} {g1 : mH} {x k v : Int} (e : rd LM12 x k = some v) : F2 u g1 x k = v := hl_read e
theorem F2_b {u : gT} {g1 : mH} {x k v : Int} (hx : x < 200) (e : rd LB11 x k = some v) : F2 u g1 x k = v := by
  rw [F2_c hx]
  exact hl_read e
theorem F2_a {u : gT} {g1 : mH} {x k v : Int} (B : B1 u g1) (hx : x < 200) (hr : ¬ regF x) (e1 : rd LB11 x k = none) (e : rd LA11 x k = some v) : F2 u g1 x k = v := by
  rw [F2_c hx, hl_none e1, B.1 x k hr]
  exact hl_read e
theorem F2_r {u : gT} {g1 : mH} {x k : Int} (hx : x < 200) (e1 : rd LB11 x k = none) : F2 u g1 x k = g1 x k := by
  rw [F2_c hx, hl_none e1]
theorem F2_0 {u : gT} {g1 : mH} {x k : Int} (B : B1 u g1) (h1 : 100 ≤ x) (h2 : x < 200) : F2 u g1 x k = 0 := by
  rw [F2_c h2, hl_ge (fun q hq => by have := LB_lt q hq; omega), B.1 x k (by omega), hl_ge (fun q hq => by have := LA_lt q hq; omega)]
  exact h00_0 (by omega)
def regL : List (Int × Int × Int) := [(40, -1, 11), (40, 0, 50), (40, 1, 60), (40, 2, 70), (50, -1, 20), (50, -2, 160), (60, -1, 20), (60, -2, 3), (70, -1, 20), (70, -2, 160)]
set_option maxRecDepth 100000 in
theorem stat_m : ∀ q ∈ statL, 200 ≤ q.1 → rd LM12 q.1 q.2.1 = some q.2.2 := by decide +kernel
set_option maxRecDepth 100000 in
theorem stat_c : ∀ q ∈ statL, q.1 < 200 → rd LB11 q.1 q.2.1 = some q.2.2 ∨ (rd LB11 q.1 q.2.1 = none ∧ rd LA11 q.1 q.2.1 = some q.2.2 ∧ ¬ regF q.1) ∨ (rd LB11 q.1 q.2.1 = none ∧ q ∈ regL) := by decide +kernel
theorem St_F2 {u : gT} {g1 : mH} (B : B1 u g1) : St (F2 u g1) := by
  intro q hq
  by_cases c : 200 ≤ q.1
  · exact F2_m (stat_m q hq c)
  · rcases stat_c q hq (by omega) with e | ⟨e1, e2, e3⟩ | ⟨e1, e2⟩
    · exact F2_b (by omega) e
    · exact F2_a B (by omega) e3 e1 e2
    · rw [F2_r (by omega) e1]
      obtain ⟨b1, b2, b3, b4⟩ := B
      unfold regL at e2
      rcases List.mem_cons.mp e2 with rfl | e2
      · exact b2.1
      rcases List.mem_cons.mp e2 with rfl | e2
      · exact b2.2.1
      rcases List.mem_cons.mp e2 with rfl | e2
      · exact b2.2.2.1
      rcases List.mem_cons.mp e2 with rfl | e2
      · exact b3.1
      rcases List.mem_cons.mp e2 with rfl | e2
      · exact b2.2.2.2.1
      rcases List.mem_cons.mp e2 with rfl | e2
      · exact b2.2.2.2.2.1
      rcases List.mem_cons.mp e2 with rfl | e2
      · exact b2.2.2.2.2.2.1
      rcases List.mem_cons.mp e2 with rfl | e2
      · exact b2.2.2.2.2.2.2
      rcases List.mem_cons.mp e2 with rfl | e2
      · exact b3.2.1
      rcases List.mem_cons.mp e2 with rfl | e2
      · exact b3.2.2
      cases e2
theorem zr_201 {u : gT} {g1 : mH} {i : Int} (i0 : 0 ≤ i) (i1 : i < 5) : F2 u g1 201 i = 0 := by
  have key : ∀ k : Nat, k < 5 → rd LM12 201 (k : Int) = some 0 := by decide +kernel
  have h := F2_m (u := u) (g1 := g1) (key i.toNat (by omega))
  rw [Int.toNat_of_nonneg i0] at h
  exact h
theorem zr_202 {u : gT} {g1 : mH} {i : Int} (i0 : 0 ≤ i) (i1 : i < 5) : F2 u g1 202 i = 0 := by
  have key : ∀ k : Nat, k < 5 → rd LM12 202 (k : Int) = some 0 := by decide +kernel
  have h := F2_m (u := u) (g1 := g1) (key i.toNat (by omega))
  rw [Int.toNat_of_nonneg i0] at h
  exact h
theorem zr_203 {u : gT} {g1 : mH} {i : Int} (i0 : 0 ≤ i) (i1 : i < 5) : F2 u g1 203 i = 0 := by
  have key : ∀ k : Nat, k < 5 → rd LM12 203 (k : Int) = some 0 := by decide +kernel
  have h := F2_m (u := u) (g1 := g1) (key i.toNat (by omega))
  rw [Int.toNat_of_nonneg i0] at h
  exact h
theorem zr_204 {u : gT} {g1 : mH} {i : Int} (i0 : 0 ≤ i) (i1 : i < 5) : F2 u g1 204 i = 0 := by
  have key : ∀ k : Nat, k < 5 → rd LM12 204 (k : Int) = some 0 := by decide +kernel
  have h := F2_m (u := u) (g1 := g1) (key i.toNat (by omega))
  rw [Int.toNat_of_nonneg i0] at h
  exact h
theorem zr_205 {u : gT} {g1 : mH} {i : Int} (i0 : 0 ≤ i) (i1 : i < 5) : F2 u g1 205 i = 0 := by
  have key : ∀ k : Nat, k < 5 → rd LM12 205 (k : Int) = some 0 := by decide +kernel
  have h := F2_m (u := u) (g1 := g1) (key i.toNat (by omega))
  rw [Int.toNat_of_nonneg i0] at h
  exact h
theorem zr_207 {u : gT} {g1 : mH} {i : Int} (i0 : 0 ≤ i) (i1 : i < 8) : F2 u g1 207 i = 0 := by
  have key : ∀ k : Nat, k < 8 → rd LM12 207 (k : Int) = some 0 := by decide +kernel
  have h := F2_m (u := u) (g1 := g1) (key i.toNat (by omega))
  rw [Int.toNat_of_nonneg i0] at h
  exact h
theorem zr_208 {u : gT} {g1 : mH} {i : Int} (i0 : 0 ≤ i) (i1 : i < 8) : F2 u g1 208 i = 0 := by
  have key : ∀ k : Nat, k < 8 → rd LM12 208 (k : Int) = some 0 := by decide +kernel
  have h := F2_m (u := u) (g1 := g1) (key i.toNat (by omega))
  rw [Int.toNat_of_nonneg i0] at h
  exact h
theorem zr_209 {u : gT} {g1 : mH} {i : Int} (i0 : 0 ≤ i) (i1 : i < 8) : F2 u g1 209 i = 0 := by
  have key : ∀ k : Nat, k < 8 → rd LM12 209 (k : Int) = some 0 := by decide +kernel
  have h := F2_m (u := u) (g1 := g1) (key i.toNat (by omega))
  rw [Int.toNat_of_nonneg i0] at h
  exact h
theorem zr_211 {u : gT} {g1 : mH} {i : Int} (i0 : 0 ≤ i) (i1 : i < 14) : F2 u g1 211 i = 0 := by
  have key : ∀ k : Nat, k < 14 → rd LM12 211 (k : Int) = some 0 := by decide +kernel
  have h := F2_m (u := u) (g1 := g1) (key i.toNat (by omega))
  rw [Int.toNat_of_nonneg i0] at h
  exact h
theorem zr_212 {u : gT} {g1 : mH} {i : Int} (i0 : 0 ≤ i) (i1 : i < 14) : F2 u g1 212 i = 0 := by
  have key : ∀ k : Nat, k < 14 → rd LM12 212 (k : Int) = some 0 := by decide +kernel
  have h := F2_m (u := u) (g1 := g1) (key i.toNat (by omega))
  rw [Int.toNat_of_nonneg i0] at h
  exact h
theorem zr_213 {u : gT} {g1 : mH} {i : Int} (i0 : 0 ≤ i) (i1 : i < 14) : F2 u g1 213 i = 0 := by
  have key : ∀ k : Nat, k < 14 → rd LM12 213 (k : Int) = some 0 := by decide +kernel
  have h := F2_m (u := u) (g1 := g1) (key i.toNat (by omega))
  rw [Int.toNat_of_nonneg i0] at h
  exact h
theorem zr_214 {u : gT} {g1 : mH} {i : Int} (i0 : 0 ≤ i) (i1 : i < 14) : F2 u g1 214 i = 0 := by
  have key : ∀ k : Nat, k < 14 → rd LM12 214 (k : Int) = some 0 := by decide +kernel
  have h := F2_m (u := u) (g1 := g1) (key i.toNat (by omega))
  rw [Int.toNat_of_nonneg i0] at h
  exact h
theorem zr_215 {u : gT} {g1 : mH} {i : Int} (i0 : 0 ≤ i) (i1 : i < 14) : F2 u g1 215 i = 0 := by
  have key : ∀ k : Nat, k < 14 → rd LM12 215 (k : Int) = some 0 := by decide +kernel
  have h := F2_m (u := u) (g1 := g1) (key i.toNat (by omega))
  rw [Int.toNat_of_nonneg i0] at h
  exact h
theorem zr_216 {u : gT} {g1 : mH} {i : Int} (i0 : 0 ≤ i) (i1 : i < 14) : F2 u g1 216 i = 0 := by
  have key : ∀ k : Nat, k < 14 → rd LM12 216 (k : Int) = some 0 := by decide +kernel
  have h := F2_m (u := u) (g1 := g1) (key i.toNat (by omega))
  rw [Int.toNat_of_nonneg i0] at h
  exact h
theorem zr_217 {u : gT} {g1 : mH} {i : Int} (i0 : 0 ≤ i) (i1 : i < 14) : F2 u g1 217 i = 0 := by
  have key : ∀ k : Nat, k < 14 → rd LM12 217 (k : Int) = some 0 := by decide +kernel
  have h := F2_m (u := u) (g1 := g1) (key i.toNat (by omega))
  rw [Int.toNat_of_nonneg i0] at h
  exact h
theorem zr_218 {u : gT} {g1 : mH} {i : Int} (i0 : 0 ≤ i) (i1 : i < 14) : F2 u g1 218 i = 0 := by
  have key : ∀ k : Nat, k < 14 → rd LM12 218 (k : Int) = some 0 := by decide +kernel
  have h := F2_m (u := u) (g1 := g1) (key i.toNat (by omega))
  rw [Int.toNat_of_nonneg i0] at h
  exact h
theorem zr_221 {u : gT} {g1 : mH} {i : Int} (i0 : 0 ≤ i) (i1 : i < 14) : F2 u g1 221 i = 0 := by
  have key : ∀ k : Nat, k < 14 → rd LM12 221 (k : Int) = some 0 := by decide +kernel
  have h := F2_m (u := u) (g1 := g1) (key i.toNat (by omega))
  rw [Int.toNat_of_nonneg i0] at h
  exact h
theorem zr_222 {u : gT} {g1 : mH} {i : Int} (i0 : 0 ≤ i) (i1 : i < 14) : F2 u g1 222 i = 0 := by
  have key : ∀ k : Nat, k < 14 → rd LM12 222 (k : Int) = some 0 := by decide +kernel
  have h := F2_m (u := u) (g1 := g1) (key i.toNat (by omega))
  rw [Int.toNat_of_nonneg i0] at h
  exact h
theorem zr_223 {u : gT} {g1 : mH} {i : Int} (i0 : 0 ≤ i) (i1 : i < 14) : F2 u g1 223 i = 0 := by
  have key : ∀ k : Nat, k < 14 → rd LM12 223 (k : Int) = some 0 := by decide +kernel
  have h := F2_m (u := u) (g1 := g1) (key i.toNat (by omega))
  rw [Int.toNat_of_nonneg i0] at h
  exact h
theorem zr_224 {u : gT} {g1 : mH} {i : Int} (i0 : 0 ≤ i) (i1 : i < 14) : F2 u g1 224 i = 0 := by
  have key : ∀ k : Nat, k < 14 → rd LM12 224 (k : Int) = some 0 := by decide +kernel
  have h := F2_m (u := u) (g1 := g1) (key i.toNat (by omega))
  rw [Int.toNat_of_nonneg i0] at h
  exact h
theorem zr_225 {u : gT} {g1 : mH} {i : Int} (i0 : 0 ≤ i) (i1 : i < 14) : F2 u g1 225 i = 0 := by
  have key : ∀ k : Nat, k < 14 → rd LM12 225 (k : Int) = some 0 := by decide +kernel
  have h := F2_m (u := u) (g1 := g1) (key i.toNat (by omega))
  rw [Int.toNat_of_nonneg i0] at h
  exact h
theorem zr_226 {u : gT} {g1 : mH} {i : Int} (i0 : 0 ≤ i) (i1 : i < 14) : F2 u g1 226 i = 0 := by
  have key : ∀ k : Nat, k < 14 → rd LM12 226 (k : Int) = some 0 := by decide +kernel
  have h := F2_m (u := u) (g1 := g1) (key i.toNat (by omega))
  rw [Int.toNat_of_nonneg i0] at h
  exact h
theorem zr_227 {u : gT} {g1 : mH} {i : Int} (i0 : 0 ≤ i) (i1 : i < 14) : F2 u g1 227 i = 0 := by
  have key : ∀ k : Nat, k < 14 → rd LM12 227 (k : Int) = some 0 := by decide +kernel
  have h := F2_m (u := u) (g1 := g1) (key i.toNat (by omega))
  rw [Int.toNat_of_nonneg i0] at h
  exact h
theorem zr_252 {u : gT} {g1 : mH} {i : Int} (i0 : 0 ≤ i) (i1 : i < 14) : F2 u g1 252 i = 0 := by
  have key : ∀ k : Nat, k < 14 → rd LM12 252 (k : Int) = some 0 := by decide +kernel
  have h := F2_m (u := u) (g1 := g1) (key i.toNat (by omega))
  rw [Int.toNat_of_nonneg i0] at h
  exact h
theorem zr_219 {u : gT} {g1 : mH} {i : Int} (i0 : 0 ≤ i) (i1 : i < 112) : F2 u g1 219 i = 0 := by
  have key : ∀ k : Nat, k < 112 → rd LM12 219 (k : Int) = some 0 := by decide +kernel
  have h := F2_m (u := u) (g1 := g1) (key i.toNat (by omega))
  rw [Int.toNat_of_nonneg i0] at h
  exact h
theorem zr_220 {u : gT} {g1 : mH} {i : Int} (i0 : 0 ≤ i) (i1 : i < 112) : F2 u g1 220 i = 0 := by
  have key : ∀ k : Nat, k < 112 → rd LM12 220 (k : Int) = some 0 := by decide +kernel
  have h := F2_m (u := u) (g1 := g1) (key i.toNat (by omega))
  rw [Int.toNat_of_nonneg i0] at h
  exact h
theorem zr_228 {u : gT} {g1 : mH} {i : Int} (i0 : 0 ≤ i) (i1 : i < 160) : F2 u g1 228 i = 0 := by
  have key : ∀ k : Nat, k < 160 → rd LM12 228 (k : Int) = some 0 := by decide +kernel
  have h := F2_m (u := u) (g1 := g1) (key i.toNat (by omega))
  rw [Int.toNat_of_nonneg i0] at h
  exact h
theorem zr_255 {u : gT} {g1 : mH} {i : Int} (i0 : 0 ≤ i) (i1 : i < 160) : F2 u g1 255 i = 0 := by
  have key : ∀ k : Nat, k < 160 → rd LM12 255 (k : Int) = some 0 := by decide +kernel
  have h := F2_m (u := u) (g1 := g1) (key i.toNat (by omega))
  rw [Int.toNat_of_nonneg i0] at h
  exact h
theorem zr_254 {u : gT} {g1 : mH} {i : Int} (i0 : 0 ≤ i) (i1 : i < 4) : F2 u g1 254 i = 0 := by
  have key : ∀ k : Nat, k < 4 → rd LM12 254 (k : Int) = some 0 := by decide +kernel
  have h := F2_m (u := u) (g1 := g1) (key i.toNat (by omega))
  rw [Int.toNat_of_nonneg i0] at h
  exact h
theorem zs_0 {u : gT} {g1 : mH} {i : Int} (i0 : 0 ≤ i) (i1 : i < 40) : F2 u g1 90 i = 0 := by
  have key : ∀ k : Nat, k < 40 → rd LB11 90 (k : Int) = some 0 := by decide +kernel
  have h := F2_b (u := u) (g1 := g1) (by decide) (key i.toNat (by omega))
  rw [Int.toNat_of_nonneg i0] at h
  exact h
theorem zs_1 {u : gT} {g1 : mH} {i : Int} (i0 : 0 ≤ i) (i1 : i < 40) : F2 u g1 91 i = 0 := by
  have key : ∀ k : Nat, k < 40 → rd LB11 91 (k : Int) = some 0 := by decide +kernel
  have h := F2_b (u := u) (g1 := g1) (by decide) (key i.toNat (by omega))
  rw [Int.toNat_of_nonneg i0] at h
  exact h
theorem zs_2 {u : gT} {g1 : mH} {i : Int} (i0 : 0 ≤ i) (i1 : i < 40) : F2 u g1 92 i = 0 := by
  have key : ∀ k : Nat, k < 40 → rd LB11 92 (k : Int) = some 0 := by decide +kernel
  have h := F2_b (u := u) (g1 := g1) (by decide) (key i.toNat (by omega))
  rw [Int.toNat_of_nonneg i0] at h
  exact h
theorem zs_3 {u : gT} {g1 : mH} {i : Int} (i0 : 0 ≤ i) (i1 : i < 40) : F2 u g1 93 i = 0 := by
  have key : ∀ k : Nat, k < 40 → rd LB11 93 (k : Int) = some 0 := by decide +kernel
  have h := F2_b (u := u) (g1 := g1) (by decide) (key i.toNat (by omega))
  rw [Int.toNat_of_nonneg i0] at h
  exact h
theorem zt_13 {u : gT} {g1 : mH} (B : B1 u g1) {i : Int} (i0 : 0 ≤ i) (i1 : i < 160) : F2 u g1 13 i = 0 := by
  have key : ∀ k : Nat, k < 160 → rd LB11 13 (k : Int) = none ∧ rd LA11 13 (k : Int) = some 0 := by decide +kernel
  have hk := key i.toNat (by omega)
  have h := F2_a B (by decide) (by decide) hk.1 hk.2
  rw [Int.toNat_of_nonneg i0] at h
  exact h
theorem wf_S : ∀ q : Nat, q < 3 → wfO (osS.getD q []) 1 := by
  intro q hq
  rcases (show q = 0 ∨ q = 1 ∨ q = 2 by omega) with rfl | rfl | rfl
  · show wfO ((([] ++ [-2]) ++ [5000]) ++ [-1 - 20]) 1
    exact wfO_2 (by decide) (by decide) (wfO_1 (h := 1) (by unfold codeOk; decide) (by decide) (wfO_1 (h := 0) (by unfold codeOk; decide) (by decide) rfl))
  · show wfO ((([] ++ [49]) ++ [-5]) ++ [-1 - 20]) 1
    exact wfO_2 (by decide) (by decide) (wfO_1 (h := 1) (by unfold codeOk; decide) (by decide) (wfO_1 (h := 0) (by unfold codeOk; decide) (by decide) rfl))
  · show wfO ([] ++ [-7]) 1
    exact wfO_1 (h := 0) (by unfold codeOk; decide) (by decide) rfl
theorem rOu_S {u : gT} {g1 : mH} : ∀ q : Nat, q < 3 → rOu (F2 u g1) (3 * 0 + q) (osS.getD q []) := by
  have key : ∀ q : Nat, q < 3 → rd LM12 232 (3 * 0 + (q : Int)) = some ((osS.getD q []).length : Int) ∧ ∀ k : Nat, k < (osS.getD q []).length → rd LM12 233 (160 * (3 * 0 + (q : Int)) + k) = some (actOf ((osS.getD q []).getD k 0)) ∧ rd LM12 234 (160 * (3 * 0 + (q : Int)) + k) = some (if 0 ≤ (osS.getD q []).getD k 0 then (osS.getD q []).getD k 0 else 0) := by decide +kernel
  intro q hq
  have h := key q hq
  exact ⟨F2_m h.1, fun k hk => ⟨F2_m (h.2 k hk).1, F2_m (h.2 k hk).2⟩⟩
set_option maxRecDepth 100000 in
theorem Inv_0 {u : gT} {g1 : mH} (B : B1 u g1) : Inv 0 (F2 u g1) := by
  have m0 : F2 u g1 200 0 = 0 := F2_m (by decide +kernel)
  have m6 : F2 u g1 200 6 = 0 := F2_m (by decide +kernel)
  have m10 : F2 u g1 200 10 = 0 := F2_m (by decide +kernel)
  have m30 : F2 u g1 200 30 = 1 := F2_m (by decide +kernel)
  have m31 : F2 u g1 200 31 = 0 := F2_m (by decide +kernel)
  have m29 : F2 u g1 200 29 = 0 := F2_m (by decide +kernel)
  have c11 : F2 u g1 1 11 = 0 := F2_a B (by decide) (by decide) (by decide +kernel) (by decide +kernel)
  have c12 : F2 u g1 1 12 = 0 := F2_a B (by decide) (by decide) (by decide +kernel) (by decide +kernel)
  have c13 : F2 u g1 1 13 = 0 := F2_a B (by decide) (by decide) (by decide +kernel) (by decide +kernel)
  have c14 : F2 u g1 1 14 = 1 := F2_b (by decide) (by decide +kernel)
  have c15 : F2 u g1 1 15 = 0 := F2_a B (by decide) (by decide) (by decide +kernel) (by decide +kernel)
  have c71 : F2 u g1 7 1 = 0 := F2_a B (by decide) (by decide) (by decide +kernel) (by decide +kernel)
  refine ⟨St_F2 B, ?_, fun i i0 i1 => ?_, fun i i0 i1 => ?_, fun a a0 a1 => ?_, fun a r a0 a1 r0 r1 => ?_, fun a a0 a1 => ?_, fun x x0 x1 => ?_, fun k k0 k1 => ?_, fun t t0 t1 => ?_⟩
  · unfold iN
    rw [m0, m6, m10, m30, m31, m29, c11, c12, c13, c14, c15, c71]
    decide
  · have e0 := F2_0 (k := -1) B (show (100 : Int) ≤ 100 + i by omega) (by omega)
    have e1 := zr_201 (u := u) (g1 := g1) i0 i1
    have e2 := zr_202 (u := u) (g1 := g1) i0 i1
    have e3 := zr_203 (u := u) (g1 := g1) i0 i1
    have e4 := zr_204 (u := u) (g1 := g1) i0 i1
    have e5 := zr_205 (u := u) (g1 := g1) i0 i1
    refine ⟨Or.inr ⟨by omega, e0, e2, e3, e4, e5⟩, by omega⟩
  · have e0 := F2_0 (k := -1) B (show (100 : Int) ≤ 110 + i by omega) (by omega)
    have e1 := zr_207 (u := u) (g1 := g1) i0 i1
    have e2 := zr_208 (u := u) (g1 := g1) i0 i1
    have e3 : rds (F2 u g1) i = 0 := by
      unfold rds
      rw [m10]
      rfl
    refine ⟨Or.inr ⟨by omega, e0, e3⟩, by omega⟩
  · have e0 := F2_0 (k := -1) B (show (100 : Int) ≤ 120 + a by omega) (by omega)
    have e1 := F2_0 (k := -1) B (show (100 : Int) ≤ 140 + a by omega) (by omega)
    have z1 := zr_211 (u := u) (g1 := g1) a0 a1
    have z2 := zr_212 (u := u) (g1 := g1) a0 a1
    have z3 := zr_213 (u := u) (g1 := g1) a0 a1
    have z4 := zr_214 (u := u) (g1 := g1) a0 a1
    have z5 := zr_215 (u := u) (g1 := g1) a0 a1
    have z6 := zr_216 (u := u) (g1 := g1) a0 a1
    have z7 := zr_217 (u := u) (g1 := g1) a0 a1
    have z8 := zr_218 (u := u) (g1 := g1) a0 a1
    refine ⟨Or.inr ⟨by omega, e0, e1, z8⟩, by omega⟩
  · have z1 := zr_219 (u := u) (g1 := g1) (i := 8 * a + r) (by omega) (by omega)
    have z2 := zr_220 (u := u) (g1 := g1) (i := 8 * a + r) (by omega) (by omega)
    refine ⟨Or.inr ⟨by omega, z1⟩, by omega⟩
  · have e0 := F2_0 (k := -1) B (show (100 : Int) ≤ 160 + a by omega) (by omega)
    have z1 := zr_225 (u := u) (g1 := g1) a0 a1
    have z2 := zr_226 (u := u) (g1 := g1) a0 a1
    have z3 := zr_227 (u := u) (g1 := g1) a0 a1
    have z4 := zr_252 (u := u) (g1 := g1) a0 a1
    exact Or.inr (Or.inr ⟨by omega, e0, z1, z2, z3, z4⟩)
  · have z54 := zr_254 (u := u) (g1 := g1) x0 x1
    have key : ∀ y : Nat, y < 4 → rd LM12 253 (y : Int) = some (-1) ∧ rd LB11 (80 + (y : Int)) 2 = some (-1) ∧ rd LB11 (80 + (y : Int)) 1 = some 0 := by decide +kernel
    have hk := key x.toNat (by omega)
    rw [Int.toNat_of_nonneg x0] at hk
    have z53 := F2_m (u := u) (g1 := g1) hk.1
    have y2 := F2_b (u := u) (g1 := g1) (by omega) hk.2.1
    have y1 := F2_b (u := u) (g1 := g1) (by omega) hk.2.2
    refine ⟨by omega, by omega, by omega, by omega, by omega, by omega, fun i i0 i1 => ?_⟩
    have z55 := zr_255 (u := u) (g1 := g1) (i := 40 * x + i) (by omega) (by omega)
    have z90 : F2 u g1 (90 + x) i = 0 := by
      rcases (show x = 0 ∨ x = 1 ∨ x = 2 ∨ x = 3 by omega) with rfl | rfl | rfl | rfl
      · exact zs_0 i0 i1
      · exact zs_1 i0 i1
      · exact zs_2 i0 i1
      · exact zs_3 i0 i1
    rw [z55, z90]
    exact ⟨fun _ => rfl, In0, In0⟩
  · have z1 := zt_13 B k0 k1
    have z2 := zr_228 (u := u) (g1 := g1) k0 k1
    rw [z1, z2, m29]
    exact ⟨fun _ => rfl, by decide, by decide, by decide, by decide⟩
  · have t00 : t = 0 := by omega
    subst t00
    have b4 := B.2.2.2
    have k60 : ∀ k : Nat, k < 3 → rd LB11 60 (k : Int) = none := by decide +kernel
    have k50 : ∀ k : Nat, k < 160 → rd LB11 50 (k : Int) = none := by decide +kernel
    have hs : ∀ q : Nat, q < 3 → sl osS q + (osS.getD q []).length ≤ 7 := by decide
    have E : ∀ q : Nat, q < 3 → F2 u g1 (60 + 0) q = (sl osS (q + 1) : Nat) := fun q hq => by
      have h := F2_r (u := u) (g1 := g1) (by decide) (k60 q hq)
      exact h.trans (b4 q hq).1
    have hnew : ∀ q : Nat, q < 3 → iT1 (F2 u g1) 0 q (sl osS q : Nat) (sl osS (q + 1) : Nat) := fun q hq => by
      have hmq : sl osS (q + 1) = sl osS q + (osS.getD q []).length := rfl
      have h7 := hs q hq
      rw [hmq]
      refine iT1_new (wf_S q hq) (fun k hk => ?_) (rOu_S q hq) (by omega)
      have h := F2_r (u := u) (g1 := g1) (by decide) (k50 (sl osS q + k) (by omega))
      rw [show (((sl osS q + k : Nat)) : Int) = (sl osS q : Int) + k by omega] at h
      exact h.trans ((b4 q hq).2 k hk)
    have E0 := E 0 (by omega)
    have E1 := E 1 (by omega)
    have E2 := E 2 (by omega)
    refine ⟨?_, ?_, ?_⟩
    · have z := hnew 0 (by omega)
      rw [← E0] at z
      exact z
    · have z := hnew 1 (by omega)
      rw [← E0, ← E1] at z
      exact z
    · have z := hnew 2 (by omega)
      rw [← E1, ← E2] at z
      exact z
