/-! ===== what is read alone, of this claim; the JDK's methods of texts; bits ===== -/
def strL0 : List Int := [109, 97, 121, 32, 115, 117, 109, 32, 60, 32, 53, 48, 48, 48, 32, 59, 32, 112, 97, 115, 115, 32, 52, 57, 32, 60, 32, 109, 97, 114, 107, 32, 59, 32, 108, 97, 116, 101, 32, 98, 101, 104, 105, 110, 100, 32, 59]
def strL1 : List Int := [40, 41, 59, 43, 45, 42, 60, 61]
def strL2 : List Int := [107, 105, 110, 100, 32, 115, 117, 109, 32, 116, 104, 101, 109, 101, 32, 100, 97, 121, 32, 109, 97, 114, 107, 32, 114, 101, 97, 100, 101, 114, 115, 32, 98, 101, 104, 105, 110, 100, 32, 109, 97, 121, 32, 112, 97, 115, 115, 32, 108, 97, 116, 101, 32, 111, 114, 32, 97, 110, 100, 32, 110, 111, 116, 32]
def strF (l : List Int) : Nat → Int := fun k => l.getD k 0
def aboveL : List Int := [-1, 0, 0, 2, 2, 1]
def needL : List Int := [2, 1, 3, 3, 2, 1]
/-- the script's length and ints, what the formatter's static holds, where the base is, the addresses, the classes -/
abbrev gT : Type := va_G × Nat × (Int → Nat) × Nat × (Nat → Int) × Int
def roArr (L : Nat) (xs : Nat → Int) : mRO := fun a =>
  if a = -10 then some (.int, L, xs) else if a = -11 then some (.int, 6, strF aboveL) else if a = -12 then some (.int, 6, strF needL) else
  if a = -30 then some (.byte, 47, strF strL0) else if a = -31 then some (.byte, 8, strF strL1) else if a = -32 then some (.byte, 64, strF strL2) else none
def roStat (fm : Int) : List (String × String × String × mV) := [("GiftOffice", "KIND_ABOVE", "[I", (2, -11)), ("GiftOffice", "KIND_NEED", "[I", (2, -12)), ("java/lang/String", "COMPACT_STRINGS", "Z", (0, 1)), ("jdk/internal/util/Preconditions", "SIOOBE_FORMATTER", "Ljava/util/function/BiFunction;", (2, fm))]
def roLit : List (String × Nat × String × Int) := [("GiftOffice", 88, "may sum < 5000 ; pass 49 < mark ; late behind ;", -20), ("GiftOffice$Tape", 80, "();+-*<=", -21), ("GiftOffice$Tape", 82, "kind sum theme day mark readers behind may pass late or and not ", -22)]
def roFld : List (Int × String × String × mV) := [(-20, "value", "[B", (2, -30)), (-20, "coder", "B", (0, 0)), (-21, "value", "[B", (2, -31)), (-21, "coder", "B", (0, 0)), (-22, "value", "[B", (2, -32)), (-22, "coder", "B", (0, 0))]
def roC (L : Nat) (xs : Nat → Int) (fm : Int) : mRs := (roArr L xs, roStat fm, roLit, roFld, [-20, -21, -22], ["GiftOffice$Fund", "GiftOffice$Reader", "GiftOffice$Asking", "GiftOffice$Text", "GiftOffice$Sheet"], nestL)
abbrev gq (u : gT) : gG := (u.1, u.2.1, u.2.2.1, roC u.2.2.2.1 u.2.2.2.2.1 u.2.2.2.2.2)
/-- a text at a, its bytes at bb -/
def isStr (u : gT) (a bb : Int) (N : Nat) (f : Nat → Int) : Prop := a ∈ ([-20, -21, -22] : List Int) ∧ (a, "value", "[B", ((2, bb) : mV)) ∈ roFld ∧ (a, "coder", "B", ((0, 0) : mV)) ∈ roFld ∧ roArr u.2.2.2.1 u.2.2.2.2.1 bb = some (.byte, N, f) ∧ a ≤ -10 ∧ bb ≤ -10 ∧ N < 1000 ∧ ∀ k, k < N → 0 ≤ f k ∧ f k ≤ 127
theorem isStr0 {u : gT} : isStr u (-20) (-30) 47 (strF strL0) := ⟨by decide, by decide, by decide, rfl, by decide, by decide, by decide, by decide +kernel⟩
theorem isStr1 {u : gT} : isStr u (-21) (-31) 8 (strF strL1) := ⟨by decide, by decide, by decide, rfl, by decide, by decide, by decide, by decide +kernel⟩
theorem isStr2 {u : gT} : isStr u (-22) (-32) 64 (strF strL2) := ⟨by decide, by decide, by decide, rfl, by decide, by decide, by decide, by decide +kernel⟩
theorem ofI_nat {x : Int} (hx : 0 ≤ x) (h2 : x < 2147483648) : (Int32.ofInt x).toBitVec.toNat = x.toNat := by
  rw [Int32.toBitVec_ofInt, BitVec.toNat_ofInt]
  congr 1
  exact Int.emod_eq_of_lt hx (by omega)
theorem nat_toInt {b : BitVec 32} (h : b.toNat < 2147483648) : b.toInt = (b.toNat : Int) := by
  rw [BitVec.toInt_eq_toNat_cond, if_pos (by omega)]
theorem iAnd_nat {x y : Int} (hx : 0 ≤ x) (hx2 : x < 2147483648) (hy : 0 ≤ y) (hy2 : y < 2147483648) : iAnd x y = ((x.toNat &&& y.toNat : Nat) : Int) := by
  unfold iAnd
  show ((Int32.ofInt x &&& Int32.ofInt y).toBitVec).toInt = _
  have e : (Int32.ofInt x &&& Int32.ofInt y).toBitVec.toNat = x.toNat &&& y.toNat := by
    rw [Int32.toBitVec_and, BitVec.toNat_and, ofI_nat hx hx2, ofI_nat hy hy2]
  have hl : x.toNat &&& y.toNat ≤ x.toNat := Nat.and_le_left
  rw [nat_toInt (by rw [e]; omega), e]
theorem iOr_nat {x y : Int} (hx : 0 ≤ x) (hx2 : x < 2147483648) (hy : 0 ≤ y) (hy2 : y < 2147483648) : iOr x y = ((x.toNat ||| y.toNat : Nat) : Int) := by
  unfold iOr
  show ((Int32.ofInt x ||| Int32.ofInt y).toBitVec).toInt = _
  have e : (Int32.ofInt x ||| Int32.ofInt y).toBitVec.toNat = x.toNat ||| y.toNat := by
    rw [Int32.toBitVec_or, BitVec.toNat_or, ofI_nat hx hx2, ofI_nat hy hy2]
  have hl : x.toNat ||| y.toNat < 2 ^ 31 := Nat.or_lt_two_pow (by omega) (by omega)
  rw [nat_toInt (by rw [e]; omega), e]
theorem iAnd_in {x y : Int} : InI (iAnd x y) := by unfold iAnd; exact ⟨by have := (Int32.ofInt x &&& Int32.ofInt y).le_toInt; omega, by have := (Int32.ofInt x &&& Int32.ofInt y).toInt_lt; omega⟩
theorem iOr_in {x y : Int} : InI (iOr x y) := by unfold iOr; exact ⟨by have := (Int32.ofInt x ||| Int32.ofInt y).le_toInt; omega, by have := (Int32.ofInt x ||| Int32.ofInt y).toInt_lt; omega⟩
theorem iShr_in {x y : Int} : InI (iShr x y) := by unfold iShr; exact ⟨by have := (Int32.ofInt x >>> (Int32.ofInt y &&& 31)).le_toInt; omega, by have := (Int32.ofInt x >>> (Int32.ofInt y &&& 31)).toInt_lt; omega⟩
theorem iShl_in {x y : Int} : InI (iShl x y) := by unfold iShl; exact ⟨by have := (Int32.ofInt x <<< (Int32.ofInt y &&& 31)).le_toInt; omega, by have := (Int32.ofInt x <<< (Int32.ofInt y &&& 31)).toInt_lt; omega⟩
theorem iXor_in {x y : Int} : InI (iXor x y) := by unfold iXor; exact ⟨by have := (Int32.ofInt x ^^^ Int32.ofInt y).le_toInt; omega, by have := (Int32.ofInt x ^^^ Int32.ofInt y).toInt_lt; omega⟩
theorem sh_and {y : Int} (h0 : 0 ≤ y) (h1 : y < 32) : Int32.ofInt y &&& 31 = Int32.ofInt y := by
  have e := pk_and (Int32.ofInt y) (m := 31) 5 (by decide)
  rw [ofI_nat h0 (by omega), Nat.mod_eq_of_lt (by omega)] at e
  rw [e]
  unfold nI
  rw [← Int32.ofInt_eq_ofNat, Int.toNat_of_nonneg h0]
theorem sh_smod {y : Int} (h0 : 0 ≤ y) (h1 : y < 32) : ((Int32.ofInt y).toBitVec.smod 32).toNat = y.toNat := by
  have key : ∀ k : Nat, k < 32 → ((Int32.ofInt (k : Int)).toBitVec.smod 32).toNat = k := by decide +kernel
  have := key y.toNat (by omega)
  rw [Int.toNat_of_nonneg h0] at this
  exact this
theorem iShr_eq {x y : Int} (hx : InI x) (h0 : 0 ≤ y) (h1 : y < 32) : iShr x y = x / 2 ^ y.toNat := by
  unfold iShr
  rw [sh_and h0 h1, pk_shr _ _ y.toNat (sh_smod h0 h1), toI hx, Int.shiftRight_eq_div_pow]
  norm_cast
theorem iShl_eq {x y : Int} (hx : 0 ≤ x) (h0 : 0 ≤ y) (h1 : y < 32) (h2 : x * 2 ^ y.toNat < 2147483648) : iShl x y = x * 2 ^ y.toNat := by
  unfold iShl
  rw [sh_and h0 h1]
  have hx2 : x < 2147483648 := by
    have : (1 : Int) ≤ 2 ^ y.toNat := Int.pow_pos (by decide)
    have := Int.mul_le_mul_of_nonneg_left this hx
    omega
  have e := pk_shl (Int32.ofInt x) (Int32.ofInt y) y.toNat (sh_smod h0 h1)
  rw [ofI_nat hx hx2] at e
  have e2 : ((x.toNat * 2 ^ y.toNat : Nat) : Int) = x * 2 ^ y.toNat := by rw [Int.natCast_mul, Int.toNat_of_nonneg hx]; norm_cast
  rw [Nat.mod_eq_of_lt (by omega)] at e
  show (Int32.ofInt x <<< Int32.ofInt y).toBitVec.toInt = _
  rw [nat_toInt (by rw [e]; omega), e, e2]
/-- the bit at i -/
def bt (x i : Int) : Int := iAnd (iShr x i) 1
theorem bt_eq {x i : Int} (hx : 0 ≤ x) (hx2 : x < 2147483648) (h0 : 0 ≤ i) (h1 : i < 32) : bt x i = x / 2 ^ i.toNat % 2 := by
  unfold bt
  have hd : 0 ≤ x / 2 ^ i.toNat := Int.ediv_nonneg hx (Int.le_of_lt (Int.pow_pos (by decide)))
  have hle : x / 2 ^ i.toNat ≤ x := Int.ediv_le_self _ hx
  rw [iShr_eq ⟨by omega, by omega⟩ h0 h1, iAnd_nat hd (by omega) (by decide) (by decide)]
  show (((x / 2 ^ i.toNat).toNat &&& 1 : Nat) : Int) = _
  rw [Nat.and_one_is_mod, Int.natCast_emod, Int.toNat_of_nonneg hd]
  rfl
theorem bt_tb {x i : Int} (hx : 0 ≤ x) (hx2 : x < 2147483648) (h0 : 0 ≤ i) (h1 : i < 32) : bt x i = if x.toNat.testBit i.toNat then 1 else 0 := by
  rw [bt_eq hx hx2 h0 h1]
  have e1 : x = (x.toNat : Int) := (Int.toNat_of_nonneg hx).symm
  have e2 : x / 2 ^ i.toNat % 2 = ((x.toNat / 2 ^ i.toNat % 2 : Nat) : Int) := by
    conv => lhs; rw [e1]
    norm_cast
  rw [e2, Nat.testBit_eq_decide_div_mod_eq]
  have h2 : x.toNat / 2 ^ i.toNat % 2 < 2 := Nat.mod_lt _ (by decide)
  by_cases h3 : x.toNat / 2 ^ i.toNat % 2 = 1
  · simp [h3]
  · have h4 : x.toNat / 2 ^ i.toNat % 2 = 0 := by omega
    simp [h4]
