/-! ===== the coupling of class and reference: Inv ===== -/
def iN (h : mH) : Prop := (0 ≤ h 200 0 ∧ h 200 0 ≤ 5 ∧ h 1 11 = h 200 0) ∧ (0 ≤ h 200 6 ∧ h 200 6 ≤ 8 ∧ h 1 12 = h 200 6) ∧ (0 ≤ h 200 10 ∧ h 200 10 ≤ 14 ∧ h 1 13 = h 200 10) ∧ (1 ≤ h 200 30 ∧ h 200 30 ≤ 6 ∧ h 1 14 = h 200 30) ∧ (0 ≤ h 200 31 ∧ h 200 31 < h 200 30 ∧ h 1 15 = h 200 31) ∧ (0 ≤ h 200 29 ∧ h 200 29 ≤ 160 ∧ h 7 1 = h 200 29)
def iF (j : Nat) (h : mH) : Prop := ∀ i : Int, 0 ≤ i → i < 5 →
  ((i < h 200 0 ∧ h 2 i = 100 + i ∧ h (100 + i) (-1) = 3 ∧ h (100 + i) 0 = h 201 i ∧ h (100 + i) 1 = h 202 i ∧ h (100 + i) 2 = h 203 i ∧ h (100 + i) 3 = h 204 i ∧ h (100 + i) 4 = h 205 i) ∨
   (h 200 0 ≤ i ∧ h (100 + i) (-1) = 0 ∧ h 202 i = 0 ∧ h 203 i = 0 ∧ h 204 i = 0 ∧ h 205 i = 0)) ∧
  (0 ≤ h 201 i ∧ h 201 i ≤ 63 ∧ 0 ≤ h 202 i ∧ h 202 i ≤ 10000000 ∧ -(1000000 * (j : Int)) ≤ h 203 i ∧ h 203 i ≤ 1000000 * (j : Int) ∧ -(1000000 * (j : Int)) ≤ h 204 i ∧ h 204 i ≤ 1000000 * (j : Int) ∧ -(1000000 * (j : Int)) ≤ h 205 i ∧ h 205 i ≤ 1000000 * (j : Int))
def iR (h : mH) : Prop := ∀ i : Int, 0 ≤ i → i < 8 →
  ((i < h 200 6 ∧ h 3 i = 110 + i ∧ h (110 + i) (-1) = 7 ∧ h (110 + i) 0 = i ∧ h (110 + i) 1 = h 207 i ∧ h (110 + i) 2 = h 208 i ∧ h (110 + i) 3 = h 209 i ∧ h (110 + i) 4 = rds h i ∧ 1 ≤ h 209 i ∧ h 209 i ≤ 6 ∧ rds h i ≤ h 209 i) ∨
   (h 200 6 ≤ i ∧ h (110 + i) (-1) = 0 ∧ rds h i = 0)) ∧
  (0 ≤ h 207 i ∧ h 207 i ≤ 63 ∧ 0 ≤ h 208 i ∧ h 208 i ≤ 9)
def iA (h : mH) : Prop := ∀ a : Int, 0 ≤ a → a < 14 →
  ((a < h 200 10 ∧ h 4 a = 120 + a ∧ h (120 + a) (-1) = 1 ∧ h (120 + a) 0 = h 211 a ∧ h (120 + a) 1 = h 212 a ∧ h (120 + a) 2 = h 213 a ∧ h (120 + a) 3 = h 214 a ∧ h (120 + a) 4 = h 215 a ∧ h (120 + a) 5 = h 216 a ∧ h (120 + a) 6 = h 217 a ∧ h (120 + a) 7 = 140 + a ∧ h (140 + a) (-1) = 20 ∧ h (140 + a) (-2) = 8 ∧ h (120 + a) 9 = h 218 a ∧ 1 ≤ h 215 a) ∨
   (h 200 10 ≤ a ∧ h (120 + a) (-1) = 0 ∧ h (140 + a) (-1) = 0 ∧ h 218 a = 0)) ∧
  (0 ≤ h 211 a ∧ h 211 a ≤ 5 ∧ 0 ≤ h 212 a ∧ h 212 a ≤ 9 ∧ -1 ≤ h 213 a ∧ h 213 a ≤ 9 ∧ 0 ≤ h 214 a ∧ h 214 a ≤ 5 ∧ h 215 a ≤ 9999 ∧ 0 ≤ h 215 a ∧ 0 ≤ h 216 a ∧ h 216 a ≤ 999 ∧ 0 ≤ h 217 a ∧ h 217 a < h 200 30 ∧ 0 ≤ h 218 a ∧ h 218 a < 256)
/-- bars and marks -/
def iB (h : mH) : Prop := ∀ a r : Int, 0 ≤ a → a < 14 → 0 ≤ r → r < 8 →
  ((a < h 200 10 ∧ 0 ≤ h (120 + a) 10 ∧ h (120 + a) 10 < 256 ∧ 0 ≤ h (120 + a) 8 ∧ h (120 + a) 8 < 256 ∧ bt (h (120 + a) 10) r = h 219 (8 * a + r) ∧ (bt (h 218 a) r = 1 → r < h 200 6) ∧
      ((bt (h (120 + a) 8) r = 0 ∧ h 220 (8 * a + r) = -1) ∨ (bt (h (120 + a) 8) r = 1 ∧ h (140 + a) r = h 220 (8 * a + r) ∧ 0 ≤ h 220 (8 * a + r) ∧ bt (h 218 a) r = 1))) ∨
   (h 200 10 ≤ a ∧ h 219 (8 * a + r) = 0)) ∧
  (0 ≤ h 219 (8 * a + r) ∧ h 219 (8 * a + r) ≤ 1 ∧ -1 ≤ h 220 (8 * a + r) ∧ h 220 (8 * a + r) ≤ 100)
/-- grants -/
def iG (h : mH) : Prop := ∀ a : Int, 0 ≤ a → a < 14 →
  ((a < h 200 10 ∧ h 221 a = -1 ∧ h (120 + a) 11 = -1 ∧ h (160 + a) (-1) = 0 ∧ h 225 a = 0 ∧ h 226 a = 0 ∧ h 227 a = 0 ∧ h 252 a = 0) ∨
   (a < h 200 10 ∧ 0 ≤ h 221 a ∧ h 221 a < h 200 0 ∧ h (120 + a) 11 = 160 + a ∧ h (160 + a) (-1) = 4 ∧ h (160 + a) 0 = 100 + h 221 a ∧ h (160 + a) 1 = h 221 a ∧ h (160 + a) 2 = (h 215 a).tdiv (h 222 a) ∧ h (160 + a) 3 = h 222 a ∧ h (160 + a) 4 = h 223 a ∧ h (160 + a) 5 = h 224 a ∧ h (160 + a) 6 = h 225 a ∧ h (160 + a) 7 = h 227 a ∧ h (160 + a) 8 = h 226 a ∧
      1 ≤ h 222 a ∧ h 222 a ≤ 4 ∧ 1 ≤ h 223 a ∧ h 223 a ≤ 100 ∧ 0 ≤ h 224 a ∧ h 224 a ≤ 999 ∧ 0 ≤ h 225 a ∧ h 225 a ≤ h 222 a ∧ 0 ≤ h 226 a ∧ 0 ≤ h 227 a ∧ h 226 a + h 227 a ≤ h 215 a ∧
      ((h 252 a = 1 ∧ h 227 a = 0) ∨ (h 252 a = 0 ∧ h 225 a < h 222 a ∧ h 227 a = h 215 a - h 225 a * (h 215 a).tdiv (h 222 a)) ∨ (h 252 a = 0 ∧ h 225 a = h 222 a ∧ h 227 a = 0))) ∨
   (h 200 10 ≤ a ∧ h (160 + a) (-1) = 0 ∧ h 225 a = 0 ∧ h 226 a = 0 ∧ h 227 a = 0 ∧ h 252 a = 0))
/-- sheets -/
def iS (h : mH) : Prop := ∀ x : Int, 0 ≤ x → x < 4 → h (80 + x) 2 = h 253 x ∧ h (80 + x) 1 = h 254 x ∧ -1 ≤ h 253 x ∧ h 253 x ≤ 2 ∧ 0 ≤ h 254 x ∧ h 254 x ≤ 40 ∧ ∀ i : Int, 0 ≤ i → i < 40 → (i < h 254 x → h (90 + x) i = h 255 (40 * x + i)) ∧ InI (h (90 + x) i) ∧ InI (h 255 (40 * x + i))
/-- the tape -/
def iP (h : mH) : Prop := ∀ k : Int, 0 ≤ k → k < 160 → (k < h 200 29 → h 13 k = h 228 k) ∧ -128 ≤ h 13 k ∧ h 13 k ≤ 127 ∧ -128 ≤ h 228 k ∧ h 228 k ≤ 127
/-- texts: the class's code, step by step the reference's acts -/
def actOf (c : Int) : Int := if 0 ≤ c then 200 else if -8 < c then 99 - c else if c = -11 then 110 else if c = -12 then 111 else if c = -13 then 112 else if c = -18 then 43 else if c = -19 then 45 else if c = -20 then 42 else if c = -21 then 60 else if c = -22 then 61 else 300
def codeOk (c : Int) : Prop := (0 ≤ c ∧ c ≤ 9999) ∨ (-7 ≤ c ∧ c ≤ -1) ∨ (-13 ≤ c ∧ c ≤ -11) ∨ (-22 ≤ c ∧ c ≤ -18) ∨ c = -25
/-- how high the stack stands behind so many steps from s on -/
def hgt (f : Int → Int) (s : Int) : Nat → Int
  | 0 => 0
  | n + 1 => hgt f s n + (if -7 ≤ f (s + n) then 1 else if f (s + n) = -13 ∨ f (s + n) = -25 then 0 else -1)
def iT1 (h : mH) (t p s e : Int) : Prop := 0 ≤ s ∧ s ≤ e ∧ e ≤ 160 ∧ h 232 (3 * t + p) = e - s ∧ hgt (h (50 + t)) s (e - s).toNat = 1 ∧
  ∀ k : Nat, (k : Int) < e - s → codeOk (h (50 + t) (s + k)) ∧ h 233 (160 * (3 * t + p) + k) = actOf (h (50 + t) (s + k)) ∧ h 234 (160 * (3 * t + p) + k) = (if 0 ≤ h (50 + t) (s + k) then h (50 + t) (s + k) else 0) ∧
    (-7 ≤ h (50 + t) (s + k) ∨ ((h (50 + t) (s + k) = -13 ∨ h (50 + t) (s + k) = -25) ∧ 1 ≤ hgt (h (50 + t)) s k) ∨ 2 ≤ hgt (h (50 + t)) s k)
def iT (h : mH) : Prop := ∀ t : Int, 0 ≤ t → t < h 200 30 → iT1 h t 0 0 (h (60 + t) 0) ∧ iT1 h t 1 (h (60 + t) 0) (h (60 + t) 1) ∧ iT1 h t 2 (h (60 + t) 1) (h (60 + t) 2)
def Inv (j : Nat) (h : mH) : Prop := St h ∧ iN h ∧ iF j h ∧ iR h ∧ iA h ∧ iB h ∧ iG h ∧ iS h ∧ iP h ∧ iT h
