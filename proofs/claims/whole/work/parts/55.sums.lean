/-! ===== sums over all MARKS: by asking, by reader ===== -/
theorem sm_split (f : Int → Int) (m : Nat) : ∀ k : Nat, sm f (m + k) = sm f m + sm (fun i => f ((m : Int) + i)) k
  | 0 => by show sm f m = sm f m + 0; omega
  | k + 1 => by
    show sm f (m + k) + f ((m + k : Nat) : Int) = _
    rw [sm_split f m k, sm]
    have e : ((m + k : Nat) : Int) = (m : Int) + (k : Int) := by omega
    rw [e]
    omega
theorem sm_zero {f : Int → Int} : ∀ n : Nat, (∀ i : Nat, i < n → f i = 0) → sm f n = 0
  | 0, _ => rfl
  | n + 1, h => by rw [sm, sm_zero n (fun i hi => h i (by omega)), h n (by omega)]; rfl
theorem sm_8 (f : Int → Int) : ∀ n : Nat, sm f (8 * n) = sm (fun a => sm (fun r => f (8 * a + r)) 8) n
  | 0 => rfl
  | n + 1 => by
    show sm f (8 * (n + 1)) = sm (fun a => sm (fun r => f (8 * a + r)) 8) n + sm (fun r => f (8 * (n : Int) + r)) 8
    rw [show 8 * (n + 1) = 8 * n + 8 by omega, sm_split, sm_8 f n, show ((8 * n : Nat) : Int) = 8 * (n : Int) by omega]
theorem sm_cut {g : Int → Int} {m N : Nat} (hm : m ≤ N) : sm (fun r => if r < (m : Int) then g r else 0) N = sm g m := by
  obtain ⟨k, rfl⟩ : ∃ k, N = m + k := ⟨N - m, by omega⟩
  rw [sm_split, sm_congr m (g := g) (fun i hi => if_pos (by omega)), sm_zero k (fun i _ => if_neg (by omega))]
  omega
theorem sm_one {g : Int → Int} {a : Int} (a0 : 0 ≤ a) : ∀ n : Nat, a < n → sm (fun i => if i = a then g i else 0) n = g a
  | 0, h => by exfalso; omega
  | n + 1, h => by
    rw [sm]
    by_cases c : (n : Int) = a
    · rw [if_pos c, sm_zero n (fun i hi => if_neg (by omega)), c]
      omega
    · rw [if_neg c, sm_one a0 n (by omega)]
      omega
/-- whether a MARK stands and counts -/
abbrev kc (h : mH) (r a : Int) : Prop := h 220 (8 * a + r) ≠ -1 ∧ ¬ (h 219 (8 * a + r) ≠ 0 ∨ h 208 r = h 212 a ∨ h 208 r = h 213 a)
def wk (h : mH) (w : Int → Int) (r a : Int) : Int → Int := fun k => if (r < 0 ∨ k % 8 = r) ∧ (a < 0 ∨ k / 8 = a) ∧ k % 8 < h 200 6 ∧ (h 220 k ≠ -1 ∧ ¬ (h 219 k ≠ 0 ∨ h 208 (k % 8) = h 212 (k / 8) ∨ h 208 (k % 8) = h 213 (k / 8))) then w k else 0
def kv (h : mH) (w : Int → Int) (r a : Int) : Int := if kc h r a then w (8 * a + r) else 0
def tA (h : mH) (w : Int → Int) (a : Int) : Int := sm (fun r => kv h w r a) (h 200 6).toNat
def tR (h : mH) (w : Int → Int) (r : Int) : Int := sm (fun a => kv h w r a) (h 200 10).toNat
def tT (h : mH) (w : Int → Int) : Int := sm (fun a => tA h w a) (h 200 10).toNat
def w1 : Int → Int := fun _ => 1
theorem cntF_wk {h : mH} {r a : Int} : cntF h r a = wk h w1 r a := by
  funext k
  unfold cntF wk w1 bI
  rfl
theorem smsF_wk {h : mH} {r a : Int} : smsF h r a = wk h (h 220) r a := rfl
theorem wk_at {h : mH} {w : Int → Int} {r a a' : Int} {s : Nat} (hs : s < 8) : wk h w r a (8 * a' + s) = if (r < 0 ∨ (s : Int) = r) ∧ (a < 0 ∨ a' = a) ∧ (s : Int) < h 200 6 then kv h w s a' else 0 := by
  unfold wk kv
  have e1 : (8 * a' + (s : Int)) % 8 = s := by omega
  have e2 : (8 * a' + (s : Int)) / 8 = a' := by omega
  rw [e1, e2]
  by_cases c : (r < 0 ∨ (s : Int) = r) ∧ (a < 0 ∨ a' = a) ∧ (s : Int) < h 200 6
  · rw [if_pos c]
    by_cases k : kc h s a'
    · rw [if_pos k, if_pos ⟨c.1, c.2.1, c.2.2, k⟩]
    · rw [if_neg k, if_neg (fun q => k q.2.2.2)]
  · rw [if_neg c, if_neg (fun q => c ⟨q.1, q.2.1, q.2.2.1⟩)]
theorem toN {x : Int} (hx : 0 ≤ x) : ((x.toNat : Nat) : Int) = x := Int.toNat_of_nonneg hx
theorem wk_A {h : mH} {w : Int → Int} {a : Int} (na0 : 0 ≤ h 200 10) (nr0 : 0 ≤ h 200 6) (nr1 : h 200 6 ≤ 8) (a0 : 0 ≤ a) (a1 : a < h 200 10) : sm (wk h w (-1) a) (h 200 10 * 8).toNat = tA h w a := by
  rw [show (h 200 10 * 8).toNat = 8 * (h 200 10).toNat by omega, sm_8]
  rw [sm_congr (g := fun i => if i = a then tA h w i else 0), sm_one a0 _ (by omega)]
  intro i hi
  by_cases c : (i : Int) = a
  · rw [if_pos c]
    unfold tA
    rw [← sm_cut (m := (h 200 6).toNat) (N := 8) (by omega), toN nr0]
    refine sm_congr 8 (fun s hs => ?_)
    rw [wk_at hs]
    by_cases q : (s : Int) < h 200 6
    · rw [if_pos q, if_pos ⟨Or.inl (by decide), Or.inr c, q⟩]
    · rw [if_neg q, if_neg (fun z => q z.2.2)]
  · rw [if_neg c]
    refine sm_zero 8 (fun s hs => ?_)
    rw [wk_at hs, if_neg (fun z => by omega)]
theorem wk_T {h : mH} {w : Int → Int} (na0 : 0 ≤ h 200 10) (nr0 : 0 ≤ h 200 6) (nr1 : h 200 6 ≤ 8) : sm (wk h w (-1) (-1)) (h 200 10 * 8).toNat = tT h w := by
  rw [show (h 200 10 * 8).toNat = 8 * (h 200 10).toNat by omega, sm_8]
  unfold tT
  refine sm_congr _ (fun i hi => ?_)
  unfold tA
  rw [← sm_cut (m := (h 200 6).toNat) (N := 8) (by omega), toN nr0]
  refine sm_congr 8 (fun s hs => ?_)
  rw [wk_at hs]
  by_cases q : (s : Int) < h 200 6
  · rw [if_pos q, if_pos ⟨Or.inl (by decide), Or.inl (by decide), q⟩]
  · rw [if_neg q, if_neg (fun z => q z.2.2)]
theorem wk_R {h : mH} {w : Int → Int} {r : Int} (na0 : 0 ≤ h 200 10) (nr0 : 0 ≤ h 200 6) (nr1 : h 200 6 ≤ 8) (r0 : 0 ≤ r) (r1 : r < h 200 6) : sm (wk h w r (-1)) (h 200 10 * 8).toNat = tR h w r := by
  rw [show (h 200 10 * 8).toNat = 8 * (h 200 10).toNat by omega, sm_8]
  unfold tR
  refine sm_congr _ (fun i hi => ?_)
  rw [sm_congr (g := fun s => if s = r then kv h w s i else 0), sm_one r0 8 (by omega)]
  intro s hs
  rw [wk_at hs]
  by_cases q : (s : Int) = r
  · rw [if_pos q, if_pos ⟨Or.inr q, Or.inl (by decide), by omega⟩]
  · rw [if_neg q, if_neg (fun z => by omega)]
theorem kv_bnd {h : mH} {w : Int → Int} {c : Int} (hc : 0 ≤ c) (hw : ∀ k, 0 ≤ k → k < 112 → kc h (k % 8) (k / 8) → 0 ≤ w k ∧ w k ≤ c) {r a : Int} (r0 : 0 ≤ r) (r1 : r < 8) (a0 : 0 ≤ a) (a1 : a < 14) : 0 ≤ kv h w r a ∧ kv h w r a ≤ c := by
  unfold kv
  split
  · rename_i k
    refine hw _ (by omega) (by omega) ?_
    rw [show (8 * a + r) % 8 = r by omega, show (8 * a + r) / 8 = a by omega]
    exact k
  · omega
