/-! ===== places: bits ===== -/
theorem lsb {x : Int} (x0 : 0 ≤ x) (x1 : x < 2147483648) (i : Nat) : (Int32.ofInt x).toBitVec.getLsbD i = x.toNat.testBit i := by
  show ((Int32.ofInt x).toBitVec.toNat).testBit i = _
  rw [ofI_nat x0 x1]
theorem and_not {x y : Int} (x0 : 0 ≤ x) (x1 : x < 256) (y0 : 0 ≤ y) (y1 : y < 256) : 0 ≤ iAnd x (iXor y (-1)) ∧ iAnd x (iXor y (-1)) < 256 ∧ ∀ r : Int, 0 ≤ r → r < 8 → bt (iAnd x (iXor y (-1))) r = if bt x r = 1 ∧ bt y r = 0 then 1 else 0 := by
  have e0 : (Int32.ofInt (-1)).toBitVec = BitVec.allOnes 32 := by decide
  have e1 : iAnd x (iXor y (-1)) = (((Int32.ofInt x).toBitVec &&& ((Int32.ofInt y).toBitVec ^^^ BitVec.allOnes 32)).toNat : Int) := by
    unfold iAnd iXor
    rw [Int32.ofInt_toInt]
    have e2 : (Int32.ofInt x &&& (Int32.ofInt y ^^^ Int32.ofInt (-1))).toBitVec = (Int32.ofInt x).toBitVec &&& ((Int32.ofInt y).toBitVec ^^^ BitVec.allOnes 32) := by rw [← e0]; rfl
    show (Int32.ofInt x &&& (Int32.ofInt y ^^^ Int32.ofInt (-1))).toBitVec.toInt = _
    rw [e2]
    refine nat_toInt ?_
    rw [BitVec.toNat_and, ofI_nat x0 (by omega)]
    have := Nat.and_le_left (n := x.toNat) (m := ((Int32.ofInt y).toBitVec ^^^ BitVec.allOnes 32).toNat)
    omega
  have hb : ((Int32.ofInt x).toBitVec &&& ((Int32.ofInt y).toBitVec ^^^ BitVec.allOnes 32)).toNat < 256 := by
    rw [BitVec.toNat_and, ofI_nat x0 (by omega)]
    have := Nat.and_le_left (n := x.toNat) (m := ((Int32.ofInt y).toBitVec ^^^ BitVec.allOnes 32).toNat)
    omega
  refine ⟨by rw [e1]; omega, by rw [e1]; omega, fun r r0 r1 => ?_⟩
  have e3 : ((Int32.ofInt x).toBitVec &&& ((Int32.ofInt y).toBitVec ^^^ BitVec.allOnes 32)).toNat.testBit r.toNat = (x.toNat.testBit r.toNat && !(y.toNat.testBit r.toNat)) := by
    show ((Int32.ofInt x).toBitVec &&& ((Int32.ofInt y).toBitVec ^^^ BitVec.allOnes 32)).getLsbD r.toNat = _
    rw [BitVec.getLsbD_and, BitVec.getLsbD_xor, BitVec.getLsbD_allOnes, lsb x0 (by omega), lsb y0 (by omega), decide_eq_true (show r.toNat < 32 by omega), Bool.xor_true]
  rw [bt_tb (by rw [e1]; omega) (by rw [e1]; omega) r0 (by omega), bt_tb x0 (by omega) r0 (by omega), bt_tb y0 (by omega) r0 (by omega), e1, Int.toNat_natCast, e3]
  cases x.toNat.testBit r.toNat <;> cases y.toNat.testBit r.toNat <;> rfl
theorem bt_ext {x y : Int} (x0 : 0 ≤ x) (x1 : x < 256) (y0 : 0 ≤ y) (y1 : y < 256) (h : ∀ r : Int, 0 ≤ r → r < 8 → bt x r = bt y r) : x = y := by
  have e : x.toNat = y.toNat := by
    refine Nat.eq_of_testBit_eq (fun i => ?_)
    by_cases c : i < 8
    · have := h i (by omega) (by omega)
      rw [bt_tb x0 (by omega) (by omega) (by omega), bt_tb y0 (by omega) (by omega) (by omega), Int.toNat_natCast] at this
      cases h1 : x.toNat.testBit i <;> cases h2 : y.toNat.testBit i <;> rw [h1, h2] at this <;> first | rfl | (exfalso; revert this; decide)
    · have hp : 2 ^ 8 ≤ 2 ^ i := Nat.pow_le_pow_right (by decide) (by omega)
      rw [Nat.testBit_lt_two_pow (by omega), Nat.testBit_lt_two_pow (by omega)]
  omega
/-- who is paired with whom, in the class's arrays -/
def MH (g : mH) : mP := fun a r => bt (g 29 a) r
abbrev sn (g : mH) (r : Int) : Prop := bt (g 12 7) r = 1
def snN (g : mH) : Int := sm (fun r => bt (g 12 7) r) 8
theorem snN_8 {g : mH} (h0 : 0 ≤ g 12 7) (h1 : g 12 7 < 256) : 0 ≤ snN g ∧ snN g ≤ 8 := by
  have := sm_bnd (f := fun r => bt (g 12 7) r) (lo := 0) (hi := 1) 8 (fun i hi => bt_01 (x := g 12 7) (i := (i : Int)) h0 (by omega) (by omega) (by omega))
  unfold snN
  omega
/-- the pairing's state: what stands in its arrays, told by what the reference has -/
def pG (m g : mH) : Prop := St g ∧ g 12 5 = m 200 6 ∧ g 12 6 = m 200 10 ∧ (∀ r : Int, 0 ≤ r → r < m 200 6 → g 25 r = m 209 r ∧ g 26 r = useP m (MH g) r ∧ g 26 r ≤ m 209 r) ∧ (∀ a : Int, 0 ≤ a → a < m 200 10 → (0 ≤ g 28 a ∧ g 28 a < 256 ∧ ∀ r : Int, 0 ≤ r → r < 8 → (bt (g 28 a) r = 1 ↔ (r < m 200 6 ∧ ¬ kb m r a))) ∧ (0 ≤ g 29 a ∧ g 29 a < 256 ∧ ∀ r : Int, 0 ≤ r → r < 8 → bt (g 29 a) r = 1 → (r < m 200 6 ∧ ¬ kb m r a))) ∧ (0 ≤ g 12 7 ∧ g 12 7 < 256 ∧ ∀ r : Int, 0 ≤ r → r < 8 → bt (g 12 7) r = 1 → r < m 200 6)
abbrev Kp (g h1 : mH) : Prop := ∀ x k : Int, ¬ (x = 12 ∧ k = 7) → ¬ ((x = 26 ∨ x = 29) ∧ 0 ≤ k) → h1 x k = g x k
theorem MH_01 {m g : mH} (G : pG m g) {a r : Int} (a0 : 0 ≤ a) (a1 : a < m 200 10) (r0 : 0 ≤ r) (r1 : r < 8) : 0 ≤ MH g a r ∧ MH g a r ≤ 1 := by
  have := (G.2.2.2.2.1 a a0 a1).2
  exact bt_01 (x := g 29 a) (i := r) this.1 (by omega) r0 (by omega)
theorem pG_vld {m g : mH} (R8 : m 200 6 ≤ 8) (G : pG m g) : vld m (MH g) := by
  intro a r a0 a1 r0 r1
  have h1 := MH_01 G a0 a1 r0 (by omega)
  have h2 := ((G.2.2.2.2.1 a a0 a1).2.2.2 r r0 (by omega))
  have e : MH g a r = bt (g 29 a) r := rfl
  by_cases c : MH g a r = 1
  · exact Or.inr ⟨c, (h2 (by omega)).2⟩
  · exact Or.inl (by omega)
theorem pG_lok {m g : mH} (G : pG m g) : lok m (MH g) := fun r r0 r1 => by
  have := G.2.2.2.1 r r0 r1
  omega
/-- a state in which only what was seen has grown -/
theorem pG_sn {m g h1 : mH} (G : pG m g) (S : St h1) (e : ∀ x k : Int, ¬ (x = 12 ∧ k = 7) → h1 x k = g x k) (s0 : 0 ≤ h1 12 7) (s1 : h1 12 7 < 256) (s2 : ∀ r : Int, 0 ≤ r → r < 8 → bt (h1 12 7) r = 1 → r < m 200 6) : pG m h1 := by
  have eM : MH h1 = MH g := by
    funext a r
    unfold MH
    rw [e 29 a (by omega)]
  refine ⟨S, by rw [e _ _ (by omega)]; exact G.2.1, by rw [e _ _ (by omega)]; exact G.2.2.1, fun r r0 r1 => ?_, fun a a0 a1 => ?_, s0, s1, s2⟩
  · rw [eM, e 25 r (by omega), e 26 r (by omega)]
    exact G.2.2.2.1 r r0 r1
  · rw [e 28 a (by omega), e 29 a (by omega)]
    exact G.2.2.2.2.1 a a0 a1
