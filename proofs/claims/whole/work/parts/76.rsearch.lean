/-! ===== places: the reference's search, its states ===== -/
/-- what the sweeps have reached: from whom each asking and each reader was reached -/
def fI2 (m : mH) (M : mP) (fr : Int) (g : mH) (dA dR : Int → Nat) : Prop := (∀ a : Int, 0 ≤ a → a < m 200 10 → g 246 a = -1 ∨ (a = fr ∧ g 246 a = 99) ∨ (a ≠ fr ∧ 0 ≤ g 246 a ∧ g 246 a < m 200 6 ∧ M a (g 246 a) = 1 ∧ g 247 (g 246 a) ≠ -1 ∧ dR (g 246 a) < dA a)) ∧ (∀ r : Int, 0 ≤ r → r < m 200 6 → g 247 r = -1 ∨ (0 ≤ g 247 r ∧ g 247 r < m 200 10 ∧ g 246 (g 247 r) ≠ -1 ∧ M (g 247 r) r = 0 ∧ ¬ kb m r (g 247 r) ∧ dA (g 247 r) < dR r)) ∧ g 246 fr = 99
def unR (m g : mH) : Int := sm (fun a => if g 246 a = -1 then 1 else 0) (m 200 10).toNat + sm (fun r => if g 247 r = -1 then 1 else 0) (m 200 6).toNat
abbrev Kab (h g : mH) : Prop := ∀ x k : Int, ¬ ((x = 246 ∨ x = 247) ∧ 0 ≤ k) → g x k = h x k
def sS (m h : mH) (fr : Int) (g : mH) (en : Int) : Prop := St g ∧ Kab h g ∧ (∃ dA dR : Int → Nat, fI2 m (Mr h) fr g dA dR) ∧ ((en = -1 ∧ ∀ r : Int, 0 ≤ r → r < m 200 6 → g 247 r ≠ -1 → m 209 r ≤ useP m (Mr h) r) ∨ (0 ≤ en ∧ en < m 200 6 ∧ g 247 en ≠ -1 ∧ useP m (Mr h) en < m 209 en))
theorem sm_one_lt {f f' : Int → Int} {p : Int} {N : Nat} (p0 : 0 ≤ p) (p1 : p < N) (h : ∀ i : Int, 0 ≤ i → i < N → i ≠ p → f' i = f i) (hp : f' p < f p) : sm f' N < sm f N := by
  have e : sm f' N = sm (fun i => f i + (if i = p then f' p - f p else 0)) N := by
    refine sm_congr _ (fun i hi => ?_)
    by_cases c : (i : Int) = p
    · rw [if_pos c, c]
      omega
    · rw [if_neg c, h i (by omega) (by omega) c]
      omega
  rw [e, sm_add, sm_one (g := fun _ => f' p - f p) p0 _ p1]
  omega
theorem unR_b {m g : mH} (R0 : 0 ≤ m 200 6 ∧ m 200 6 ≤ 8) (A0 : 0 ≤ m 200 10 ∧ m 200 10 ≤ 14) : 0 ≤ unR m g ∧ unR m g ≤ 22 := by
  have h1 := sm_bnd (f := fun a => if g 246 a = -1 then 1 else 0) (lo := 0) (hi := 1) (m 200 10).toNat (fun i hi => by split <;> omega)
  have h2 := sm_bnd (f := fun r => if g 247 r = -1 then 1 else 0) (lo := 0) (hi := 1) (m 200 6).toNat (fun i hi => by split <;> omega)
  unfold unR
  omega
/-- a reader is reached -/
theorem sS_r {m h g : mH} {fr a r en : Int} (S : sS m h fr g (-1)) (a0 : 0 ≤ a) (a1 : a < m 200 10) (r0 : 0 ≤ r) (r1 : r < m 200 6) (ha : g 246 a ≠ -1) (hr : g 247 r = -1) (hM : Mr h a r = 0) (hk : ¬ kb m r a) (hen : (en = r ∧ useP m (Mr h) r < m 209 r) ∨ (en = -1 ∧ m 209 r ≤ useP m (Mr h) r)) : sS m h fr (up2 g 247 r a) en ∧ unR m (up2 g 247 r a) < unR m g := by
  obtain ⟨s1, s2, ⟨dA, dR, f1, f2, f3⟩, s4⟩ := S
  have s5 : ∀ r : Int, 0 ≤ r → r < m 200 6 → g 247 r ≠ -1 → m 209 r ≤ useP m (Mr h) r := by
    rcases s4 with z | z
    · exact z.2
    · exfalso; omega
  refine ⟨⟨s1.upA (by decide +kernel) r0, fun x k q => by rw [up2_ne (by omega)]; exact s2 x k q, ⟨dA, fun s => if s = r then dA a + 1 else dR s, fun b b0 b1 => ?_, fun s s0 s1' => ?_, by rw [up2_ne (by omega)]; exact f3⟩, ?_⟩, ?_⟩
  · rw [up2_ne (a := 247) (b := 246) (by omega)]
    rcases f1 b b0 b1 with z | z | ⟨z1, z2, z3, z4, z5, z6⟩
    · exact Or.inl z
    · exact Or.inr (Or.inl z)
    · have c : g 246 b ≠ r := fun q => by rw [q] at z5; exact z5 hr
      refine Or.inr (Or.inr ⟨z1, z2, z3, z4, ?_, ?_⟩)
      · rw [up2_ne (by omega)]
        exact z5
      · dsimp only
        rw [if_neg c]
        exact z6
  · by_cases c : s = r
    · subst c
      dsimp only
      rw [up2_eq, if_pos rfl]
      refine Or.inr ⟨a0, a1, ?_, hM, hk, by omega⟩
      rw [up2_ne (by omega)]
      exact ha
    · dsimp only
      rw [up2_ne (by omega), if_neg c]
      rcases f2 s s0 s1' with z | ⟨z1, z2, z3, z4⟩
      · exact Or.inl z
      · refine Or.inr ⟨z1, z2, ?_, z4⟩
        rw [up2_ne (by omega)]
        exact z3
  · rcases hen with ⟨z1, z2⟩ | ⟨z1, z2⟩
    · subst z1
      exact Or.inr ⟨r0, r1, by rw [up2_eq]; omega, z2⟩
    · refine Or.inl ⟨z1, fun s s0 s1' q => ?_⟩
      by_cases c : s = r
      · rw [c]
        exact z2
      · rw [up2_ne (by omega)] at q
        exact s5 s s0 s1' q
  · unfold unR
    have h1 : sm (fun b => if up2 g 247 r a 246 b = -1 then (1 : Int) else 0) (m 200 10).toNat = sm (fun b => if g 246 b = -1 then 1 else 0) (m 200 10).toNat := sm_congr _ (fun i hi => by rw [up2_ne (by omega)])
    have h2 : sm (fun s => if up2 g 247 r a 247 s = -1 then (1 : Int) else 0) (m 200 6).toNat < sm (fun s => if g 247 s = -1 then 1 else 0) (m 200 6).toNat := sm_one_lt r0 (by omega) (fun i i0 i1 c => by rw [up2_ne (by omega)]) (by rw [up2_eq, if_neg (by omega), if_pos hr]; decide)
    omega
/-- an asking is reached -/
theorem sS_a {m h g : mH} {fr a r : Int} (S : sS m h fr g (-1)) (a0 : 0 ≤ a) (a1 : a < m 200 10) (r0 : 0 ≤ r) (r1 : r < m 200 6) (ha : g 246 a = -1) (hr : g 247 r ≠ -1) (hM : Mr h a r = 1) : sS m h fr (up2 g 246 a r) (-1) ∧ unR m (up2 g 246 a r) < unR m g := by
  obtain ⟨s1, s2, ⟨dA, dR, f1, f2, f3⟩, s4⟩ := S
  have hfa : a ≠ fr := fun q => by rw [q] at ha; omega
  refine ⟨⟨s1.upA (by decide +kernel) a0, fun x k q => by rw [up2_ne (by omega)]; exact s2 x k q, ⟨fun b => if b = a then dR r + 1 else dA b, dR, fun b b0 b1 => ?_, fun s s0 s1' => ?_, by rw [up2_ne (by omega)]; exact f3⟩, ?_⟩, ?_⟩
  · by_cases c : b = a
    · subst c
      dsimp only
      rw [up2_eq, if_pos rfl]
      refine Or.inr (Or.inr ⟨hfa, r0, r1, hM, ?_, by omega⟩)
      rw [up2_ne (by omega)]
      exact hr
    · dsimp only
      rw [up2_ne (by omega), if_neg c]
      rcases f1 b b0 b1 with z | z | ⟨z1, z2, z3, z4, z5, z6⟩
      · exact Or.inl z
      · exact Or.inr (Or.inl z)
      · refine Or.inr (Or.inr ⟨z1, z2, z3, z4, ?_, z6⟩)
        rw [up2_ne (by omega)]
        exact z5
  · rw [up2_ne (a := 246) (b := 247) (by omega)]
    rcases f2 s s0 s1' with z | ⟨z1, z2, z3, z4, z5, z6⟩
    · exact Or.inl z
    · have c : g 247 s ≠ a := fun q => by rw [q] at z3; exact z3 ha
      refine Or.inr ⟨z1, z2, ?_, z4, z5, ?_⟩
      · rw [up2_ne (by omega)]
        exact z3
      · dsimp only
        rw [if_neg c]
        exact z6
  · rcases s4 with z | z
    · refine Or.inl ⟨rfl, fun s s0 s1' q => ?_⟩
      rw [up2_ne (by omega)] at q
      exact z.2 s s0 s1' q
    · exfalso; omega
  · unfold unR
    have h1 : sm (fun s => if up2 g 246 a r 247 s = -1 then (1 : Int) else 0) (m 200 6).toNat = sm (fun s => if g 247 s = -1 then 1 else 0) (m 200 6).toNat := sm_congr _ (fun i hi => by rw [up2_ne (by omega)])
    have h2 : sm (fun b => if up2 g 246 a r 246 b = -1 then (1 : Int) else 0) (m 200 10).toNat < sm (fun b => if g 246 b = -1 then 1 else 0) (m 200 10).toNat := sm_one_lt a0 (by omega) (fun i i0 i1 c => by rw [up2_ne (by omega)]) (by rw [up2_eq, if_neg (by omega), if_pos ha]; decide)
    omega
abbrev cnd1 (m h g : mH) (a r : Int) : Prop := r < m 200 6 ∧ g 246 a ≠ -1 ∧ g 247 r = -1 ∧ Mr h a r = 0 ∧ ¬ kb m r a
abbrev cnd2 (m h g : mH) (a r : Int) : Prop := r < m 200 6 ∧ g 247 r ≠ -1 ∧ g 246 a = -1 ∧ Mr h a r = 1
def closR (m h g : mH) : Prop := ∀ a r : Int, 0 ≤ a → a < m 200 10 → 0 ≤ r → r < 8 → ¬ cnd1 m h g a r ∧ ¬ cnd2 m h g a r
theorem rcut {m h g : mH} {fr : Int} (v : vld m (Mr h)) (f0 : 0 ≤ fr) (f1 : fr < m 200 10) (R8 : m 200 6 ≤ 8) (S : sS m h fr g (-1)) (c : closR m h g) : ¬ Feas m (inc (degP m (Mr h)) fr) := by
  obtain ⟨s1, s2, ⟨dA, dR, g1, g2, g3⟩, s4⟩ := S
  refine cut (fun a => decide (g 246 a ≠ -1)) (fun r => decide (g 247 r ≠ -1)) v f0 f1 (decide_eq_true (by omega)) (fun y r y0 y1 r0 r1 q1 q2 o => ?_) (fun r r0 r1 q => ?_) (fun y r y0 y1 r0 r1 q1 q2 => ?_)
  · have c1 := (c y r y0 y1 r0 (by omega)).1
    have q1' := of_decide_eq_true q1
    have q2' := of_decide_eq_false q2
    rcases v y r y0 y1 r0 r1 with z | z
    · exact absurd ⟨r1, q1', by omega, z, o⟩ c1
    · exact z.1
  · rcases s4 with z | z
    · exact z.2 r r0 r1 (of_decide_eq_true q)
    · exfalso; omega
  · have c2 := (c y r y0 y1 r0 (by omega)).2
    have q1' := of_decide_eq_true q1
    refine decide_eq_true (fun z => c2 ⟨r1, q1', z, q2⟩)
