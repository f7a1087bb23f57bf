/-! ===== THE MIRROR: a small logic of our own over the kit's judgement W. Values are (tag, whole number): 0 int, 1 long, 2 reference (-1 null); the heap is a function of (object, slot); slot -1 says what an object is (0: none yet), slot -2 how long an array is. WP says: from here the method comes to its return, and there Q holds of the answer and the heap. ===== -/
abbrev mV : Type := Nat × Int
abbrev mH : Type := Int → Int → Int
/-- a method: name, code, locals, what it returns, its class -/
abbrev mD : Type := MethodName × ByteArray × Nat × Option FieldType × String
abbrev mRO : Type := Int → Option (FieldType × Nat × (Nat → Int))
/-- what is read alone: arrays; statics; literals; fields of texts; texts; the classes whose arrays there are; links to nest mates -/
abbrev mRs : Type := mRO × List (String × String × String × mV) × List (String × Nat × String × Int) × List (Int × String × String × mV) × List Int × List String × List (String × Nat × MethodName × String)
/-- the fixed things: class numbers, classes, words, base, addresses of what is read alone, that itself, which slots are references -/
abbrev mX : Type := va_G × List vw_C × List Cond × Nat × (Int → Nat) × mRs × (Int → Int → Bool)
abbrev xD (X : mX) : va_G := X.1
abbrev xC (X : mX) : List vw_C := X.2.1
abbrev xT (X : mX) : List Cond := X.2.2.1
abbrev xB (X : mX) : Nat := X.2.2.2.1
abbrev xA (X : mX) : Int → Nat := X.2.2.2.2.1
abbrev xR (X : mX) : mRs := X.2.2.2.2.2.1
abbrev xS (X : mX) : Int → Int → Bool := X.2.2.2.2.2.2
abbrev mY (M : mD) : MethodName := M.1
abbrev mC (M : mD) : ByteArray := M.2.1
abbrev mL (M : mD) : Nat := M.2.2.1
abbrev mT (M : mD) : Option FieldType := M.2.2.2.1
abbrev mO (M : mD) : String := M.2.2.2.2
def mB (X : mX) : Nat → Prop := fun q => xB X ≤ q
def enO (ad : Int → Nat) (x : Int) : Option Nat := if x = -1 then none else some (ad x)
def enV (ad : Int → Nat) (v : mV) : Value := match v.1 with
  | 0 => .int (Int32.ofInt v.2)
  | 1 => .long (Int64.ofInt v.2)
  | _ => va_rf (enO ad v.2)
def dtag (d : String) : Nat := if d = "J" then 1 else if d = "I" then 0 else 2
def okR (h : mH) (x : Int) : Prop := x = -1 ∨ h x (-1) ≠ 0
def okV (h : mH) (v : mV) : Prop := v.1 < 3 ∧ (v.1 = 2 → okR h v.2)
def mTy (z : Int) : Option FieldType := if z = 20 then some .int else if z = 21 then some .byte else if z = 22 then some .boolean else if z = 23 then some .char else none
def celR (X : mX) (tys : List (ClassId × FieldType)) (ad : Int → Nat) (row : Int → Int) (e : va_E) : Prop :=
  (∃ (ci : Nat) (r : vw_C), (xC X)[ci]? = some r ∧ row (-1) = (ci : Int) + 1 ∧ e = .inr (ci, (List.range r.2.2).map fun k => enV ad (dtag (r.2.1 k).2.2.1, row (k : Int)))) ∨
  (∃ (cA : ClassId) (t0 : Nat) (ty : FieldType), mTy (row (-1)) = some ty ∧ tys[t0]? = some (cA, ty) ∧ 0 ≤ row (-2) ∧ row (-2) < 1000000 ∧ e = .inl (cA, (row (-2)).toNat, .inl fun k => Int32.ofInt (row (k : Int)))) ∨
  (∃ (cA : ClassId) (t0 ci : Nat) (r : vw_C), (xC X)[ci]? = some r ∧ row (-1) = (ci : Int) + 30 ∧ tys[t0]? = some (cA, .object r.1) ∧ 0 ≤ row (-2) ∧ row (-2) < 1000000 ∧ e = .inl (cA, (row (-2)).toNat, .inr (.inr (.inr (.inr fun k => enO ad (row (k : Int)))))))
def mCl (X : mX) (h : mH) : Prop := ∀ a k : Int, 0 ≤ a → h a (-1) ≠ 0 → 0 ≤ k → xS X (h a (-1)) k = true → okR h (h a k)
def mRel (X : mX) (s : State) (ad : Int → Nat) (h : mH) (H : Heap) : Prop :=
  ∃ (ws : va_W) (tys : List (ClassId × FieldType)), va_K (xD X) (xC X) tys s ∧ va_P (xD X) (xC X) ws H ∧ va_D (mB X) ws ∧
    (∀ a : Int, 0 ≤ a → h a (-1) ≠ 0 → ∃ (q : Nat) (e : va_E), ws[q]? = some (ad a, e) ∧ celR X tys ad (h a) e) ∧
    (∀ a b : Int, 0 ≤ a → 0 ≤ b → h a (-1) ≠ 0 → h b (-1) ≠ 0 → ad a = ad b → a = b) ∧
    (∀ a : Int, a < 0 → (h a (-1) ≠ 0 ↔ a ≤ -10) ∧ (a ≤ -10 → ad a = xA X a)) ∧ mCl X h
def xRO (X : mX) (s : State) (H : Heap) : Prop :=
  (∀ (a : Int) (ty : FieldType) (N : Nat) (f : Nat → Int), (xR X).1 a = some (ty, N, f) → va_T ty (xA X a) N (fun j => .int (Int32.ofInt (f j))) (mB X) s H ∧ N < 1000000) ∧
  (∀ (C n d : String) (v : mV), (C, n, d, v) ∈ (xR X).2.1 → va_Z C n d (enV (xA X) v) (mB X) s H) ∧
  (∀ (own : String) (k : Nat) (tx : String) (a : Int), (own, k, tx, a) ∈ (xR X).2.2.1 → vk_R own k tx (xA X a) s ∧ a ≤ -10) ∧
  (∀ (a : Int) (n d : String) (v : mV), (a, n, d, v) ∈ (xR X).2.2.2.1 → va_OF "java/lang/String" n d (enV (xA X) v) (xA X a) (mB X) s H) ∧
  (∀ a : Int, a ∈ (xR X).2.2.2.2.1 → va_O "java/lang/String" (xA X a) (mB X) s H) ∧
  (∀ C : String, C ∈ (xR X).2.2.2.2.2.1 → va_AO C s) ∧
  (∀ (own : String) (k : Nat) (y : MethodName) (host : String), (own, k, y, host) ∈ (xR X).2.2.2.2.2.2 → va_Nw (.methodLinkNest own k y host) s)
/-- the fixed things fit together -/
def xOK (X : mX) : Prop :=
  (∀ w ∈ xT X, (w.onTables && w.keeps) = true ∨ ∃ ty, w = .arrayClass ty) ∧
  (∀ (ci : Nat) (r : vw_C), (xC X)[ci]? = some r → ci < 15 ∧ r.2.2 < 1000000 ∧ (∀ w ∈ u_ws r.1 r.2.1 r.2.2, w ∈ xT X) ∧
    (∀ k, k < r.2.2 → ∃ ty : FieldType, parseFieldDescriptor (r.2.1 k).2.2.1 = some ty ∧ (dtag (r.2.1 k).2.2.1 = 0 ∧ ty = .int ∨ dtag (r.2.1 k).2.2.1 = 1 ∧ ty = .long ∨ dtag (r.2.1 k).2.2.1 = 2 ∧ ((∃ n, ty = .object n) ∨ ∃ t, ty = .array t))) ∧
    (∀ a, a < r.2.2 → ∀ b, b < r.2.2 → a ≠ b → (r.2.1 a).2.1 ≠ (r.2.1 b).2.1) ∧
    (∀ k, k < r.2.2 → (xS X ((ci : Int) + 1) (k : Int) = true ↔ dtag (r.2.1 k).2.2.1 = 2)) ∧
    (∀ k : Int, 0 ≤ k → xS X ((ci : Int) + 30) k = true)) ∧
  (∀ z k : Int, 20 ≤ z → z ≤ 23 → xS X z k = false)
def mAct (X : mX) (M : mD) (d : Nat) (p : Program) (R : Room) (s : State) (m : MethodId) (args : Array Value) (meth : Method) (c : Code) : Prop :=
  p.tables.exec = Jvm.exec ∧ c.code = mC M ∧ c.maxLocals = mL M ∧ s.vm.findClass (mO M) = some m.cls ∧ (∀ w ∈ xT X, w.before args s = true) ∧ meth.sig.returnType = mT M ∧ meth.locks = false ∧ ((mY M).name = "<init>" → meth.name = "<init>") ∧
    d ≤ R.frames ∧ 41 * d ≤ R.locals ∧ xRO X s s.heap ∧ xB X ≤ s.heap.size ∧ xOK X
def mLoc (ad : Int → Nat) (h : mH) (n : Nat) (ls : Array Slot) (L : List mV) : Prop :=
  lv_has ls n [] ∧ L.length = n ∧ ∀ (i : Nat) (v : mV), L[i]? = some v → v.1 < 3 → ls[i]? = some (.val (enV ad v)) ∧ okV h v
def mStk (h : mH) (S : List mV) : Prop := ∀ v ∈ S, okV h v
def mExt (h : mH) (ad : Int → Nat) (h' : mH) (ad' : Int → Nat) : Prop := ∀ a : Int, h a (-1) ≠ 0 → h' a (-1) = h a (-1) ∧ ad' a = ad a
/-- a return instruction that fits the method and the answer -/
def retI (M : mD) (pc : Nat) (r : mV) : Prop :=
  (decode (mC M) pc = .ok (.ireturn, 1) ∧ r.1 = 0 ∧ ∃ ty, mT M = some ty ∧ narrow ty (.int (Int32.ofInt r.2)) = .int (Int32.ofInt r.2)) ∨
  (decode (mC M) pc = .ok (.lreturn, 1) ∧ r.1 = 1 ∧ mT M = some .long) ∨
  (decode (mC M) pc = .ok (.areturn, 1) ∧ r.1 = 2 ∧ ∃ ty, mT M = some ty ∧ ((∃ n, ty = .object n) ∨ ∃ t, ty = .array t)) ∨
  (decode (mC M) pc = .ok (.return_, 1) ∧ r = (9, 0) ∧ mT M = none)
def rstk (ad : Int → Nat) (r : mV) : List Value := if r.1 < 3 then [enV ad r] else []
def okA (h : mH) (r : mV) : Prop := okV h r ∨ r = (9, 0)
def WP (X : mX) (M : mD) (d b : Nat) (Q : mV → mH → Prop) (pc : Nat) (L S : List mV) (h : mH) : Prop :=
  ∀ (p : Program) (l : Launch) (e : Env) (R : Room) (s : State) (m : MethodId) (args : Array Value) (below : List Frame) (meth : Method) (c : Code) (H : Heap) (locs : List Loc) (cells slots : Nat) (Z : State → Prop) (ad : Int → Nat) (ls : Array Slot) (mx : Nat),
    mAct X M d p R s m args meth c → mRel X s ad h H → va_S (mB X) s.heap H locs → cells + b ≤ mx → slots + b ≤ mx → mx ≤ R.cells → mx ≤ R.slots → mLoc ad h (mL M) ls L → mStk h S →
    (∀ (r : mV) (h' : mH) (ad' : Int → Nat) (H' : Heap) (locs' : List Loc) (cells' slots' : Nat) (pc' : Nat) (ls' : Array Slot), mRel X s ad' h' H' → mExt h ad h' ad' → va_S (mB X) s.heap H' locs' → cells' ≤ mx → slots' ≤ mx → retI M pc' r → okA h' r → Q r h' →
      W p l e R s m args below meth c H' locs' cells' slots' Z (F0 m pc' ls' (rstk ad' r))) →
    W p l e R s m args below meth c H locs cells slots Z (F0 m pc ls (S.map (enV ad)))
theorem mExt.rf {h : mH} {ad : Int → Nat} : mExt h ad h ad := fun _ _ => ⟨rfl, rfl⟩
theorem mExt.tr {h h1 h2 : mH} {ad ad1 ad2 : Int → Nat} (x : mExt h ad h1 ad1) (y : mExt h1 ad1 h2 ad2) : mExt h ad h2 ad2 := by
  intro a ha
  obtain ⟨e1, e2⟩ := x a ha
  obtain ⟨e3, e4⟩ := y a (by rw [e1]; exact ha)
  exact ⟨e3.trans e1, e4.trans e2⟩
theorem okR.ext {h h' : mH} {ad ad' : Int → Nat} {x : Int} (H : mExt h ad h' ad') (o : okR h x) : okR h' x := by
  rcases o with o | o
  · exact Or.inl o
  · exact Or.inr (by rw [(H x o).1]; exact o)
theorem okV.ext {h h' : mH} {ad ad' : Int → Nat} {v : mV} (H : mExt h ad h' ad') (o : okV h v) : okV h' v := ⟨o.1, fun e => (o.2 e).ext H⟩
theorem enO_ext {h h' : mH} {ad ad' : Int → Nat} {x : Int} (H : mExt h ad h' ad') (o : okR h x) : enO ad' x = enO ad x := by
  unfold enO
  by_cases e : x = -1
  · rw [if_pos e, if_pos e]
  · rw [if_neg e, if_neg e, (H x (o.resolve_left e)).2]
theorem enV_ext {h h' : mH} {ad ad' : Int → Nat} {v : mV} (H : mExt h ad h' ad') (o : okV h v) : enV ad' v = enV ad v := by
  obtain ⟨t, x⟩ := v
  obtain ⟨h1, h2⟩ := o
  match t, h1, h2 with
  | 0, _, _ => rfl
  | 1, _, _ => rfl
  | 2, _, h2 => show va_rf (enO ad' x) = va_rf (enO ad x); rw [enO_ext H (h2 rfl)]
theorem map_ext {h h' : mH} {ad ad' : Int → Nat} {S : List mV} (H : mExt h ad h' ad') (o : mStk h S) : S.map (enV ad') = S.map (enV ad) := List.map_congr_left fun v hv => enV_ext H (o v hv)
theorem mStk.ext {h h' : mH} {ad ad' : Int → Nat} {S : List mV} (H : mExt h ad h' ad') (o : mStk h S) : mStk h' S := fun v hv => (o v hv).ext H
theorem mLoc.ext {h h' : mH} {ad ad' : Int → Nat} {n : Nat} {ls : Array Slot} {L : List mV} (H : mExt h ad h' ad') (o : mLoc ad h n ls L) : mLoc ad' h' n ls L := by
  refine ⟨o.1, o.2.1, fun i v hv ht => ?_⟩
  obtain ⟨e1, e2⟩ := o.2.2 i v hv ht
  exact ⟨by rw [enV_ext H e2]; exact e1, e2.ext H⟩
theorem mStk.tail {h : mH} {v : mV} {S : List mV} (o : mStk h (v :: S)) : mStk h S := fun w hw => o w (List.mem_cons_of_mem _ hw)
theorem mStk.head {h : mH} {v : mV} {S : List mV} (o : mStk h (v :: S)) : okV h v := o v List.mem_cons_self
theorem mStk.cons {h : mH} {v : mV} {S : List mV} (a : okV h v) (o : mStk h S) : mStk h (v :: S) := by
  intro w hw
  rcases List.mem_cons.mp hw with rfl | hw
  · exact a
  · exact o w hw
theorem t03 : (0 : Nat) < 3 := by decide
theorem t13 : (1 : Nat) < 3 := by decide
theorem t23 : (2 : Nat) < 3 := by decide
theorem okV_0 {h : mH} {x : Int} : okV h (0, x) := ⟨t03, fun e => by cases e⟩
theorem okV_1 {h : mH} {x : Int} : okV h (1, x) := ⟨t13, fun e => by cases e⟩
theorem okV_n {h : mH} : okV h (2, -1) := ⟨by decide, fun _ => Or.inl rfl⟩
theorem enV_cat {ad : Int → Nat} {v : mV} (h : v.1 < 3) : (enV ad v).category = if v.1 = 1 then 2 else 1 := by
  obtain ⟨t, x⟩ := v
  match t, h with
  | 0, _ => rfl
  | 1, _ => rfl
  | 2, _ => show (va_rf (enO ad x)).category = 1; cases enO ad x <;> rfl
/-- what the rows of the kit ask of the listed locals -/
def lprs (ad : Int → Nat) (L : List mV) : List (Nat × Value) := (List.range L.length).filterMap fun i => (L[i]?).bind fun v => if v.1 < 3 then some (i, enV ad v) else none
theorem lprs_mem {ad : Int → Nat} {L : List mV} {q : Nat × Value} : q ∈ lprs ad L ↔ ∃ v : mV, L[q.1]? = some v ∧ v.1 < 3 ∧ q.2 = enV ad v := by
  unfold lprs
  rw [List.mem_filterMap]
  constructor
  · rintro ⟨i, hi, h⟩
    cases hv : L[i]? with
    | none => rw [hv] at h; cases h
    | some v =>
      rw [hv, Option.bind_some] at h
      by_cases ht : v.1 < 3
      · rw [if_pos ht] at h
        cases h
        exact ⟨v, hv, ht, rfl⟩
      · rw [if_neg ht] at h; cases h
  · rintro ⟨v, hv, ht, e⟩
    refine ⟨q.1, List.mem_range.mpr (List.getElem?_eq_some_iff.mp hv).1, ?_⟩
    rw [hv, Option.bind_some, if_pos ht, ← e]
theorem mLoc.prs {ad : Int → Nat} {h : mH} {n : Nat} {ls : Array Slot} {L : List mV} (o : mLoc ad h n ls L) : lv_has ls n (lprs ad L) := by
  refine ⟨o.1.1, o.1.2.1, fun q hq => ?_⟩
  obtain ⟨v, hv, ht, e⟩ := lprs_mem.mp hq
  rw [e]
  exact (o.2.2 q.1 v hv ht).1
/-- the place ahead isn't a long -/
def okst (L : List mV) (i : Nat) : Bool := match i with
  | 0 => true
  | j + 1 => match L[j]? with
    | some v => !(v.1 == 1)
    | none => true
theorem mLoc.set1 {ad : Int → Nat} {h : mH} {n : Nat} {ls ls' : Array Slot} {L : List mV} {i : Nat} {v : mV} (o : mLoc ad h n ls L) (hs : okst L i = true) (hi : i < L.length) (hv : okV h v)
    (h' : lv_has ls' n ((i, enV ad v) :: (lprs ad L).filter (fun q => !(q.1 == i) && !(q.1 + 1 == i && q.2.category == 2)))) : mLoc ad h n ls' (L.set i v) := by
  refine ⟨⟨h'.1, h'.2.1, fun _ hq => absurd hq List.not_mem_nil⟩, by rw [List.length_set]; exact o.2.1, fun j w hw ht => ?_⟩
  by_cases hj : i = j
  · subst hj
    rw [List.getElem?_set_self hi] at hw
    cases hw
    exact ⟨h'.2.2 (i, enV ad v) List.mem_cons_self, hv⟩
  · rw [List.getElem?_set_ne hj] at hw
    refine ⟨h'.2.2 (j, enV ad w) (List.mem_cons_of_mem _ (List.mem_filter.mpr ⟨lprs_mem.mpr ⟨w, hw, ht, rfl⟩, ?_⟩)), (o.2.2 j w hw ht).2⟩
    have h1 : (j == i) = false := by simp; exact fun e => hj e.symm
    by_cases h2 : j + 1 = i
    · subst h2
      have h3 : (w.1 == 1) = false := by simpa [okst, hw] using hs
      have h4 : ¬ w.1 = 1 := by simpa using h3
      simp [enV_cat ht, h4]
    · simp [h2]; exact fun e => hj e.symm
theorem mLoc.set2 {ad : Int → Nat} {h : mH} {n : Nat} {ls ls' : Array Slot} {L : List mV} {i : Nat} {v : mV} (o : mLoc ad h n ls L) (hs : okst L i = true) (hi : i + 1 < L.length) (hv : okV h v)
    (h' : lv_has ls' n ((i, enV ad v) :: (lprs ad L).filter (fun q => !(q.1 == i) && (!(q.1 == i + 1) && !(q.1 + 1 == i && q.2.category == 2))))) : mLoc ad h n ls' ((L.set i v).set (i + 1) (9, 0)) := by
  refine ⟨⟨h'.1, h'.2.1, fun _ hq => absurd hq List.not_mem_nil⟩, by rw [List.length_set, List.length_set]; exact o.2.1, fun j w hw ht => ?_⟩
  by_cases hj1 : i + 1 = j
  · subst hj1
    rw [List.getElem?_set_self (by rw [List.length_set]; exact hi)] at hw
    cases hw
    exact absurd ht (by decide)
  rw [List.getElem?_set_ne hj1] at hw
  by_cases hj : i = j
  · subst hj
    rw [List.getElem?_set_self (by omega)] at hw
    cases hw
    exact ⟨h'.2.2 (i, enV ad v) List.mem_cons_self, hv⟩
  · rw [List.getElem?_set_ne hj] at hw
    refine ⟨h'.2.2 (j, enV ad w) (List.mem_cons_of_mem _ (List.mem_filter.mpr ⟨lprs_mem.mpr ⟨w, hw, ht, rfl⟩, ?_⟩)), (o.2.2 j w hw ht).2⟩
    by_cases h2 : j + 1 = i
    · subst h2
      have h3 : (w.1 == 1) = false := by simpa [okst, hw] using hs
      have h4 : ¬ w.1 = 1 := by simpa using h3
      simp [enV_cat ht, h4]
      omega
    · simp [h2]; exact ⟨fun e => hj e.symm, fun e => hj1 e.symm⟩
theorem mLoc.get {ad : Int → Nat} {h : mH} {n : Nat} {ls : Array Slot} {L : List mV} {i : Nat} {v : mV} (o : mLoc ad h n ls L) (hi : L[i]? = some v) (ht : v.1 < 3) : ls[i]? = some (.val (enV ad v)) := (o.2.2 i v hi ht).1
theorem mLoc.size {ad : Int → Nat} {h : mH} {n : Nat} {ls : Array Slot} {L : List mV} (o : mLoc ad h n ls L) : ls.size = n := o.1.1
def InI (x : Int) : Prop := -2147483648 ≤ x ∧ x ≤ 2147483647
def InL (x : Int) : Prop := -9223372036854775808 ≤ x ∧ x ≤ 9223372036854775807
theorem toI {x : Int} (h : InI x) : (Int32.ofInt x).toInt = x := Int32.toInt_ofInt_of_le (by have := h.1; omega) (by have := h.2; omega)
theorem toL {x : Int} (h : InL x) : (Int64.ofInt x).toInt = x := Int64.toInt_ofInt_of_le (by have := h.1; omega) (by have := h.2; omega)
theorem ltI {x y : Int} (hx : InI x) (hy : InI y) : Int32.ofInt x < Int32.ofInt y ↔ x < y := by rw [Int32.lt_iff_toInt_lt, toI hx, toI hy]
theorem leI {x y : Int} (hx : InI x) (hy : InI y) : Int32.ofInt x ≤ Int32.ofInt y ↔ x ≤ y := by rw [Int32.le_iff_toInt_le, toI hx, toI hy]
theorem eqI {x y : Int} (hx : InI x) (hy : InI y) : Int32.ofInt x = Int32.ofInt y ↔ x = y := ⟨fun h => by rw [← toI hx, ← toI hy, h], fun h => by rw [h]⟩
theorem In0 : InI 0 := ⟨by decide, by decide⟩
def wI (x : Int) : Int := (Int32.ofInt x).toInt
theorem wI_in (x : Int) : InI (wI x) := ⟨by have := (Int32.ofInt x).le_toInt; unfold wI; omega, by have := (Int32.ofInt x).toInt_lt; unfold wI; omega⟩
theorem wI_of {x : Int} (h : InI x) : wI x = x := toI h
theorem ofI_wI (x : Int) : Int32.ofInt (wI x) = Int32.ofInt x := Int32.ofInt_toInt _
section MR
variable {X : mX} {M : mD} {d b pc : Nat} {Q : mV → mH → Prop} {L S : List mV} {h : mH}
theorem wp_lift {pc' : Nat} {S' : List mV} (hS' : mStk h S → mCl X h → mStk h S')
    (step : ∀ (p : Program) (l : Launch) (e : Env) (R : Room) (s : State) (m : MethodId) (args : Array Value) (below : List Frame) (meth : Method) (c : Code) (H : Heap) (locs : List Loc) (cells slots : Nat) (Z : State → Prop) (ad : Int → Nat) (ls : Array Slot), mAct X M d p R s m args meth c → mRel X s ad h H → va_S (mB X) s.heap H locs → cells ≤ R.cells → slots ≤ R.slots → mLoc ad h (mL M) ls L → mStk h S →
      W p l e R s m args below meth c H locs cells slots Z (F0 m pc' ls (S'.map (enV ad))) → W p l e R s m args below meth c H locs cells slots Z (F0 m pc ls (S.map (enV ad))))
    (k : WP X M d b Q pc' L S' h) : WP X M d b Q pc L S h := by
  intro p l e R s m args below meth c H locs cells slots Z ad ls mx hA hR hV h1 h2 h3 h4 hL hS hF
  have hcl : mCl X h := by obtain ⟨_, _, _, _, _, _, _, _, q⟩ := hR; exact q
  exact step p l e R s m args below meth c H locs cells slots Z ad ls hA hR hV (by omega) (by omega) hL hS (k p l e R s m args below meth c H locs cells slots Z ad ls mx hA hR hV h1 h2 h3 h4 hL (hS' hS hcl) hF)
theorem wp_iconst {n : Int} (hd : decode (mC M) pc = .ok (.iconst n, 1)) (k : WP X M d b Q (pc + 1) L ((0, n) :: S) h) : WP X M d b Q pc L (S) h :=
  wp_lift (fun hS hcl => mStk.cons okV_0 hS) (fun p l e R s m args below meth c H locs cells slots Z ad ls hA hR hV hce hsl hL hS k => by
    exact lv_iconst hA.1 hA.2.1 hd rfl k) k
theorem wp_bipush {n : Int} (hn : -128 ≤ n ∧ n ≤ 127) (hd : decode (mC M) pc = .ok (.bipush n, 2)) (k : WP X M d b Q (pc + 2) L ((0, n) :: S) h) : WP X M d b Q pc L (S) h :=
  wp_lift (fun hS hcl => mStk.cons okV_0 hS) (fun p l e R s m args below meth c H locs cells slots Z ad ls hA hR hV hce hsl hL hS k => by
    refine lv_bipush hA.1 hA.2.1 hd (v := Int32.ofInt n) ?_ k
    apply Int32.toInt_inj.mp
    rw [Int8.toInt_toInt32, Int8.toInt_ofInt_of_le (by omega) (by omega), Int32.toInt_ofInt_of_le (by omega) (by omega)]) k
theorem wp_sipush {n : Int} (hn : -32768 ≤ n ∧ n ≤ 32767) (hd : decode (mC M) pc = .ok (.sipush n, 3)) (k : WP X M d b Q (pc + 3) L ((0, n) :: S) h) : WP X M d b Q pc L (S) h :=
  wp_lift (fun hS hcl => mStk.cons okV_0 hS) (fun p l e R s m args below meth c H locs cells slots Z ad ls hA hR hV hce hsl hL hS k => by
    refine lv_sipush hA.1 hA.2.1 hd (v := Int32.ofInt n) ?_ k
    apply Int32.toInt_inj.mp
    rw [Int16.toInt_toInt32, Int16.toInt_ofInt_of_le (by omega) (by omega), Int32.toInt_ofInt_of_le (by omega) (by omega)]) k
theorem wp_lconst {n : Fin 2} {v : Int} (hv : ((n : Nat) : Int) = v) (hd : decode (mC M) pc = .ok (.lconst n, 1)) (k : WP X M d b Q (pc + 1) L ((1, v) :: S) h) : WP X M d b Q pc L (S) h :=
  wp_lift (fun hS hcl => mStk.cons okV_1 hS) (fun p l e R s m args below meth c H locs cells slots Z ad ls hA hR hV hce hsl hL hS k => by
    refine lv_lconst hA.1 hA.2.1 hd (v := Int64.ofInt v) ?_ k
    rw [← hv, Int64.ofInt_eq_ofNat]) k
theorem wp_null  (hd : decode (mC M) pc = .ok (.aconst_null, 1)) (k : WP X M d b Q (pc + 1) L ((2, -1) :: S) h) : WP X M d b Q pc L (S) h :=
  wp_lift (fun hS hcl => mStk.cons okV_n hS) (fun p l e R s m args below meth c H locs cells slots Z ad ls hA hR hV hce hsl hL hS k => by
    exact lv_null hA.1 hA.2.1 hd k) k
theorem wp_iload_n {j : Fin 4} {i : Nat} {x : Int} (hi : (j : Nat) = i) (hl : L[i]? = some (0, x)) (hd : decode (mC M) pc = .ok (.iload_n j, 1)) (k : WP X M d b Q (pc + 1) L ((0, x) :: S) h) : WP X M d b Q pc L (S) h :=
  wp_lift (fun hS hcl => mStk.cons okV_0 hS) (fun p l e R s m args below meth c H locs cells slots Z ad ls hA hR hV hce hsl hL hS k => by
    exact lv_iload_n hA.1 hA.2.1 hd hi (hL.get hl t03) k) k
theorem wp_iload {i : Nat} {x : Int} (hl : L[i]? = some (0, x)) (hd : decode (mC M) pc = .ok (.iload i, 2)) (k : WP X M d b Q (pc + 2) L ((0, x) :: S) h) : WP X M d b Q pc L (S) h :=
  wp_lift (fun hS hcl => mStk.cons okV_0 hS) (fun p l e R s m args below meth c H locs cells slots Z ad ls hA hR hV hce hsl hL hS k => by
    exact lv_iload hA.1 hA.2.1 hd (hL.get hl t03) k) k
theorem wp_lload_n {j : Fin 4} {i : Nat} {x : Int} (hi : (j : Nat) = i) (hl : L[i]? = some (1, x)) (hd : decode (mC M) pc = .ok (.lload_n j, 1)) (k : WP X M d b Q (pc + 1) L ((1, x) :: S) h) : WP X M d b Q pc L (S) h :=
  wp_lift (fun hS hcl => mStk.cons okV_1 hS) (fun p l e R s m args below meth c H locs cells slots Z ad ls hA hR hV hce hsl hL hS k => by
    exact lv_lload_n hA.1 hA.2.1 hd hi (hL.get hl t13) k) k
theorem wp_lload {i : Nat} {x : Int} (hl : L[i]? = some (1, x)) (hd : decode (mC M) pc = .ok (.lload i, 2)) (k : WP X M d b Q (pc + 2) L ((1, x) :: S) h) : WP X M d b Q pc L (S) h :=
  wp_lift (fun hS hcl => mStk.cons okV_1 hS) (fun p l e R s m args below meth c H locs cells slots Z ad ls hA hR hV hce hsl hL hS k => by
    exact lv_lload hA.1 hA.2.1 hd (hL.get hl t13) k) k
theorem wp_aload_n {j : Fin 4} {i : Nat} {x : Int} (hi : (j : Nat) = i) (hl : L[i]? = some (2, x)) (hd : decode (mC M) pc = .ok (.aload_n j, 1)) (k : WP X M d b Q (pc + 1) L ((2, x) :: S) h) : WP X M d b Q pc L S h := by
  intro p l e R s m args below meth c H locs cells slots Z ad ls mx hA hR hV h1 h2 h3 h4 hL hS hF
  obtain ⟨g1, g2⟩ := hL.2.2 i _ hl t23
  have k := k p l e R s m args below meth c H locs cells slots Z ad ls mx hA hR hV h1 h2 h3 h4 hL (mStk.cons g2 hS) hF
  change ls[i]? = some (.val (va_rf (enO ad x))) at g1
  change W p l e R s m args below meth c H locs cells slots Z (F0 m (pc + 1) ls (va_rf (enO ad x) :: S.map (enV ad))) at k
  cases hx : enO ad x with
  | none => rw [hx] at g1 k; exact lv_aload_nN hA.1 hA.2.1 hd hi g1 k
  | some y => rw [hx] at g1 k; exact lv_aload_n hA.1 hA.2.1 hd hi g1 k
theorem wp_aload {i : Nat} {x : Int} (hl : L[i]? = some (2, x)) (hd : decode (mC M) pc = .ok (.aload i, 2)) (k : WP X M d b Q (pc + 2) L ((2, x) :: S) h) : WP X M d b Q pc L S h := by
  intro p l e R s m args below meth c H locs cells slots Z ad ls mx hA hR hV h1 h2 h3 h4 hL hS hF
  obtain ⟨g1, g2⟩ := hL.2.2 i _ hl t23
  have k := k p l e R s m args below meth c H locs cells slots Z ad ls mx hA hR hV h1 h2 h3 h4 hL (mStk.cons g2 hS) hF
  change ls[i]? = some (.val (va_rf (enO ad x))) at g1
  change W p l e R s m args below meth c H locs cells slots Z (F0 m (pc + 2) ls (va_rf (enO ad x) :: S.map (enV ad))) at k
  cases hx : enO ad x with
  | none => rw [hx] at g1 k; exact lv_aloadN hA.1 hA.2.1 hd g1 k
  | some y => rw [hx] at g1 k; exact lv_aload hA.1 hA.2.1 hd g1 k
theorem wp_istore_n {j : Fin 4} {i : Nat} {x : Int} (hi : (j : Nat) = i) {L' : List mV} (hd : decode (mC M) pc = .ok (.istore_n j, 1)) (hs : okst L i = true) (hn : i < L.length) (hL' : L.set i (0, x) = L') (k : WP X M d b Q (pc + 1) L' S h) : WP X M d b Q pc L ((0, x) :: S) h := by
  subst hL'
  intro p l e R s m args below meth c H locs cells slots Z ad ls mx hA hR hV h1 h2 h3 h4 hL hS hF
  have hn' : i < mL M := by rw [← hL.2.1]; exact hn
  exact lv_istore_n hA.1 hA.2.1 hd hi hL.prs hn' rfl fun ls' hl' => k p l e R s m args below meth c H locs cells slots Z ad ls' mx hA hR hV h1 h2 h3 h4 (hL.set1 hs hn hS.head hl') hS.tail hF
theorem wp_istore {i : Nat} {x : Int} {L' : List mV} (hd : decode (mC M) pc = .ok (.istore i, 2)) (hs : okst L i = true) (hn : i < L.length) (hL' : L.set i (0, x) = L') (k : WP X M d b Q (pc + 2) L' S h) : WP X M d b Q pc L ((0, x) :: S) h := by
  subst hL'
  intro p l e R s m args below meth c H locs cells slots Z ad ls mx hA hR hV h1 h2 h3 h4 hL hS hF
  have hn' : i < mL M := by rw [← hL.2.1]; exact hn
  exact lv_istore hA.1 hA.2.1 hd hL.prs hn' rfl fun ls' hl' => k p l e R s m args below meth c H locs cells slots Z ad ls' mx hA hR hV h1 h2 h3 h4 (hL.set1 hs hn hS.head hl') hS.tail hF
theorem wp_lstore_n {j : Fin 4} {i : Nat} {x : Int} (hi : (j : Nat) = i) {L' : List mV} (hd : decode (mC M) pc = .ok (.lstore_n j, 1)) (hs : okst L i = true) (hn : i + 1 < L.length) (hL' : (L.set i (1, x)).set (i + 1) (9, 0) = L') (k : WP X M d b Q (pc + 1) L' S h) : WP X M d b Q pc L ((1, x) :: S) h := by
  subst hL'
  intro p l e R s m args below meth c H locs cells slots Z ad ls mx hA hR hV h1 h2 h3 h4 hL hS hF
  have hn' : i + 1 < mL M := by rw [← hL.2.1]; exact hn
  exact lv_lstore_n hA.1 hA.2.1 hd hi hL.prs hn' rfl fun ls' hl' => k p l e R s m args below meth c H locs cells slots Z ad ls' mx hA hR hV h1 h2 h3 h4 (hL.set2 hs hn hS.head hl') hS.tail hF
theorem wp_lstore {i : Nat} {x : Int} {L' : List mV} (hd : decode (mC M) pc = .ok (.lstore i, 2)) (hs : okst L i = true) (hn : i + 1 < L.length) (hL' : (L.set i (1, x)).set (i + 1) (9, 0) = L') (k : WP X M d b Q (pc + 2) L' S h) : WP X M d b Q pc L ((1, x) :: S) h := by
  subst hL'
  intro p l e R s m args below meth c H locs cells slots Z ad ls mx hA hR hV h1 h2 h3 h4 hL hS hF
  have hn' : i + 1 < mL M := by rw [← hL.2.1]; exact hn
  exact lv_lstore hA.1 hA.2.1 hd hL.prs hn' rfl fun ls' hl' => k p l e R s m args below meth c H locs cells slots Z ad ls' mx hA hR hV h1 h2 h3 h4 (hL.set2 hs hn hS.head hl') hS.tail hF
theorem wp_astore_n {j : Fin 4} {i : Nat} {x : Int} (hi : (j : Nat) = i) {L' : List mV} (hd : decode (mC M) pc = .ok (.astore_n j, 1)) (hs : okst L i = true) (hn : i < L.length) (hL' : L.set i (2, x) = L') (k : WP X M d b Q (pc + 1) L' S h) : WP X M d b Q pc L ((2, x) :: S) h := by
  subst hL'
  intro p l e R s m args below meth c H locs cells slots Z ad ls mx hA hR hV h1 h2 h3 h4 hL hS hF
  have hn' : i < mL M := by rw [← hL.2.1]; exact hn
  show W p l e R s m args below meth c H locs cells slots Z (F0 m pc ls (va_rf (enO ad x) :: S.map (enV ad)))
  have hv : enV ad (2, x) = va_rf (enO ad x) := rfl
  have kk : ∀ ls' : Array Slot, lv_has ls' (mL M) ((i, enV ad (2, x)) :: (lprs ad L).filter (fun q => !(q.1 == i) && !(q.1 + 1 == i && q.2.category == 2))) → W p l e R s m args below meth c H locs cells slots Z (F0 m (pc + 1) ls' (S.map (enV ad))) := fun ls' hl' => k p l e R s m args below meth c H locs cells slots Z ad ls' mx hA hR hV h1 h2 h3 h4 (hL.set1 hs hn hS.head hl') hS.tail hF
  rw [hv] at kk
  cases hx : enO ad x with
  | none => rw [hx] at kk; exact lv_astore_nN hA.1 hA.2.1 hd hi hL.prs hn' rfl kk
  | some y => rw [hx] at kk; exact lv_astore_n hA.1 hA.2.1 hd hi hL.prs hn' rfl kk
theorem wp_astore {i : Nat} {x : Int} {L' : List mV} (hd : decode (mC M) pc = .ok (.astore i, 2)) (hs : okst L i = true) (hn : i < L.length) (hL' : L.set i (2, x) = L') (k : WP X M d b Q (pc + 2) L' S h) : WP X M d b Q pc L ((2, x) :: S) h := by
  subst hL'
  intro p l e R s m args below meth c H locs cells slots Z ad ls mx hA hR hV h1 h2 h3 h4 hL hS hF
  have hn' : i < mL M := by rw [← hL.2.1]; exact hn
  show W p l e R s m args below meth c H locs cells slots Z (F0 m pc ls (va_rf (enO ad x) :: S.map (enV ad)))
  have hv : enV ad (2, x) = va_rf (enO ad x) := rfl
  have kk : ∀ ls' : Array Slot, lv_has ls' (mL M) ((i, enV ad (2, x)) :: (lprs ad L).filter (fun q => !(q.1 == i) && !(q.1 + 1 == i && q.2.category == 2))) → W p l e R s m args below meth c H locs cells slots Z (F0 m (pc + 2) ls' (S.map (enV ad))) := fun ls' hl' => k p l e R s m args below meth c H locs cells slots Z ad ls' mx hA hR hV h1 h2 h3 h4 (hL.set1 hs hn hS.head hl') hS.tail hF
  rw [hv] at kk
  cases hx : enO ad x with
  | none => rw [hx] at kk; exact lv_astoreN hA.1 hA.2.1 hd hL.prs hn' rfl kk
  | some y => rw [hx] at kk; exact lv_astore hA.1 hA.2.1 hd hL.prs hn' rfl kk
theorem wp_iinc {i : Nat} {n x v : Int} {L' : List mV} (hl : L[i]? = some (0, x)) (hv : x + n = v) (hd : decode (mC M) pc = .ok (.iinc i n, 3)) (hs : okst L i = true) (hL' : L.set i (0, v) = L') (k : WP X M d b Q (pc + 3) L' S h) : WP X M d b Q pc L S h := by
  subst hL'
  subst hv
  intro p l e R s m args below meth c H locs cells slots Z ad ls mx hA hR hV h1 h2 h3 h4 hL hS hF
  have hn : i < L.length := (List.getElem?_eq_some_iff.mp hl).1
  have hn' : i < mL M := by rw [← hL.2.1]; exact hn
  obtain ⟨kk, hk⟩ := List.getElem?_of_mem (lprs_mem.mpr ⟨_, hl, t03, rfl⟩ : (i, enV ad (0, x)) ∈ lprs ad L)
  exact lv_iinc hA.1 hA.2.1 hd hL.prs hk (v := Int32.ofInt (x + n)) (by rw [Int32.ofInt_add]) hn' rfl fun ls' hl' => k p l e R s m args below meth c H locs cells slots Z ad ls' mx hA hR hV h1 h2 h3 h4 (hL.set1 hs hn okV_0 hl') hS hF
theorem wp_iadd {x y : Int} (hd : decode (mC M) pc = .ok (.iadd, 1)) (k : WP X M d b Q (pc + 1) L ((0, x + y) :: S) h) : WP X M d b Q pc L ((0, y) :: (0, x) :: S) h :=
  wp_lift (fun hS hcl => mStk.cons okV_0 hS.tail.tail) (fun p l e R s m args below meth c H locs cells slots Z ad ls hA hR hV hce hsl hL hS k => by
    refine lv_iadd hA.1 hA.2.1 hd ?_
    rw [← Int32.ofInt_add]; exact k) k
theorem wp_isub {x y : Int} (hd : decode (mC M) pc = .ok (.isub, 1)) (k : WP X M d b Q (pc + 1) L ((0, x - y) :: S) h) : WP X M d b Q pc L ((0, y) :: (0, x) :: S) h :=
  wp_lift (fun hS hcl => mStk.cons okV_0 hS.tail.tail) (fun p l e R s m args below meth c H locs cells slots Z ad ls hA hR hV hce hsl hL hS k => by
    refine lv_isub hA.1 hA.2.1 hd ?_
    rw [← Int32.ofInt_sub]; exact k) k
theorem wp_imul {x y : Int} (hd : decode (mC M) pc = .ok (.imul, 1)) (k : WP X M d b Q (pc + 1) L ((0, x * y) :: S) h) : WP X M d b Q pc L ((0, y) :: (0, x) :: S) h :=
  wp_lift (fun hS hcl => mStk.cons okV_0 hS.tail.tail) (fun p l e R s m args below meth c H locs cells slots Z ad ls hA hR hV hce hsl hL hS k => by
    refine lv_imul hA.1 hA.2.1 hd ?_
    rw [← Int32.ofInt_mul]; exact k) k
theorem wp_ladd {x y : Int} (hd : decode (mC M) pc = .ok (.ladd, 1)) (k : WP X M d b Q (pc + 1) L ((1, x + y) :: S) h) : WP X M d b Q pc L ((1, y) :: (1, x) :: S) h :=
  wp_lift (fun hS hcl => mStk.cons okV_1 hS.tail.tail) (fun p l e R s m args below meth c H locs cells slots Z ad ls hA hR hV hce hsl hL hS k => by
    refine lv_ladd hA.1 hA.2.1 hd ?_
    rw [← Int64.ofInt_add]; exact k) k
theorem wp_lmul {x y : Int} (hd : decode (mC M) pc = .ok (.lmul, 1)) (k : WP X M d b Q (pc + 1) L ((1, x * y) :: S) h) : WP X M d b Q pc L ((1, y) :: (1, x) :: S) h :=
  wp_lift (fun hS hcl => mStk.cons okV_1 hS.tail.tail) (fun p l e R s m args below meth c H locs cells slots Z ad ls hA hR hV hce hsl hL hS k => by
    refine lv_lmul hA.1 hA.2.1 hd ?_
    rw [← Int64.ofInt_mul]; exact k) k
theorem wp_ineg {x : Int} (hd : decode (mC M) pc = .ok (.ineg, 1)) (k : WP X M d b Q (pc + 1) L ((0, -x) :: S) h) : WP X M d b Q pc L ((0, x) :: S) h :=
  wp_lift (fun hS hcl => mStk.cons okV_0 hS.tail) (fun p l e R s m args below meth c H locs cells slots Z ad ls hA hR hV hce hsl hL hS k => by
    refine lv_ineg hA.1 hA.2.1 hd ?_
    rw [← Int32.ofInt_neg]; exact k) k
theorem wp_lneg {x : Int} (hd : decode (mC M) pc = .ok (.lneg, 1)) (k : WP X M d b Q (pc + 1) L ((1, -x) :: S) h) : WP X M d b Q pc L ((1, x) :: S) h :=
  wp_lift (fun hS hcl => mStk.cons okV_1 hS.tail) (fun p l e R s m args below meth c H locs cells slots Z ad ls hA hR hV hce hsl hL hS k => by
    refine lv_lneg hA.1 hA.2.1 hd ?_
    rw [← Int64.ofInt_neg]; exact k) k
theorem wp_idiv {x y : Int} (hx : InI x) (hy : InI y) (h0 : y ≠ 0) (hd : decode (mC M) pc = .ok (.idiv, 1)) (k : WP X M d b Q (pc + 1) L ((0, x.tdiv y) :: S) h) : WP X M d b Q pc L ((0, y) :: (0, x) :: S) h :=
  wp_lift (fun hS hcl => mStk.cons okV_0 hS.tail.tail) (fun p l e R s m args below meth c H locs cells slots Z ad ls hA hR hV hce hsl hL hS k => by
    have e0 : ¬ Int32.ofInt y = 0 := fun q => h0 (by have := congrArg Int32.toInt q; rw [toI hy] at this; simpa using this)
    refine lv_idiv hA.1 hA.2.1 hd e0 ?_
    rw [← Int32.ofInt_tdiv hx.1 hx.2 hy.1 hy.2]; exact k) k
theorem wp_irem {x y : Int} (hx : InI x) (hy : InI y) (h0 : y ≠ 0) (hd : decode (mC M) pc = .ok (.irem, 1)) (k : WP X M d b Q (pc + 1) L ((0, x.tmod y) :: S) h) : WP X M d b Q pc L ((0, y) :: (0, x) :: S) h :=
  wp_lift (fun hS hcl => mStk.cons okV_0 hS.tail.tail) (fun p l e R s m args below meth c H locs cells slots Z ad ls hA hR hV hce hsl hL hS k => by
    have e0 : ¬ Int32.ofInt y = 0 := fun q => h0 (by have := congrArg Int32.toInt q; rw [toI hy] at this; simpa using this)
    refine lv_irem hA.1 hA.2.1 hd e0 ?_
    rw [← Int32.ofInt_tdiv hx.1 hx.2 hy.1 hy.2, ← Int32.ofInt_mul, ← Int32.ofInt_sub]
    have e1 : x - x.tdiv y * y = x.tmod y := by have := Int.tmod_def x y; rw [this, Int.mul_comm]
    rw [e1]; exact k) k
theorem wp_ldiv {x y : Int} (hx : InL x) (hy : InL y) (h0 : y ≠ 0) (hd : decode (mC M) pc = .ok (.ldiv, 1)) (k : WP X M d b Q (pc + 1) L ((1, x.tdiv y) :: S) h) : WP X M d b Q pc L ((1, y) :: (1, x) :: S) h :=
  wp_lift (fun hS hcl => mStk.cons okV_1 hS.tail.tail) (fun p l e R s m args below meth c H locs cells slots Z ad ls hA hR hV hce hsl hL hS k => by
    have e0 : ¬ Int64.ofInt y = 0 := fun q => h0 (by have := congrArg Int64.toInt q; rw [toL hy] at this; simpa using this)
    refine lv_ldiv hA.1 hA.2.1 hd e0 ?_
    rw [← Int64.ofInt_tdiv hx.1 hx.2 hy.1 hy.2]; exact k) k
theorem wp_lrem {x y : Int} (hx : InL x) (hy : InL y) (h0 : y ≠ 0) (hd : decode (mC M) pc = .ok (.lrem, 1)) (k : WP X M d b Q (pc + 1) L ((1, x.tmod y) :: S) h) : WP X M d b Q pc L ((1, y) :: (1, x) :: S) h :=
  wp_lift (fun hS hcl => mStk.cons okV_1 hS.tail.tail) (fun p l e R s m args below meth c H locs cells slots Z ad ls hA hR hV hce hsl hL hS k => by
    have e0 : ¬ Int64.ofInt y = 0 := fun q => h0 (by have := congrArg Int64.toInt q; rw [toL hy] at this; simpa using this)
    refine lv_lrem hA.1 hA.2.1 hd e0 ?_
    rw [← Int64.ofInt_tdiv hx.1 hx.2 hy.1 hy.2, ← Int64.ofInt_mul, ← Int64.ofInt_sub]
    have e1 : x - x.tdiv y * y = x.tmod y := by have := Int.tmod_def x y; rw [this, Int.mul_comm]
    rw [e1]; exact k) k
def iAnd (x y : Int) : Int := (Int32.ofInt x &&& Int32.ofInt y).toInt
theorem wp_iand {x y : Int} (hd : decode (mC M) pc = .ok (.iand, 1)) (k : WP X M d b Q (pc + 1) L ((0, iAnd x y) :: S) h) : WP X M d b Q pc L ((0, y) :: (0, x) :: S) h :=
  wp_lift (fun hS hcl => mStk.cons okV_0 hS.tail.tail) (fun p l e R s m args below meth c H locs cells slots Z ad ls hA hR hV hce hsl hL hS k => by
    refine lv_iand hA.1 hA.2.1 hd ?_
    have e1 : Int32.ofInt (iAnd x y) = Int32.ofInt x &&& Int32.ofInt y := Int32.ofInt_toInt _
    rw [← e1]; exact k) k
def iOr (x y : Int) : Int := (Int32.ofInt x ||| Int32.ofInt y).toInt
theorem wp_ior {x y : Int} (hd : decode (mC M) pc = .ok (.ior, 1)) (k : WP X M d b Q (pc + 1) L ((0, iOr x y) :: S) h) : WP X M d b Q pc L ((0, y) :: (0, x) :: S) h :=
  wp_lift (fun hS hcl => mStk.cons okV_0 hS.tail.tail) (fun p l e R s m args below meth c H locs cells slots Z ad ls hA hR hV hce hsl hL hS k => by
    refine lv_ior hA.1 hA.2.1 hd ?_
    have e1 : Int32.ofInt (iOr x y) = Int32.ofInt x ||| Int32.ofInt y := Int32.ofInt_toInt _
    rw [← e1]; exact k) k
def iXor (x y : Int) : Int := (Int32.ofInt x ^^^ Int32.ofInt y).toInt
theorem wp_ixor {x y : Int} (hd : decode (mC M) pc = .ok (.ixor, 1)) (k : WP X M d b Q (pc + 1) L ((0, iXor x y) :: S) h) : WP X M d b Q pc L ((0, y) :: (0, x) :: S) h :=
  wp_lift (fun hS hcl => mStk.cons okV_0 hS.tail.tail) (fun p l e R s m args below meth c H locs cells slots Z ad ls hA hR hV hce hsl hL hS k => by
    refine lv_ixor hA.1 hA.2.1 hd ?_
    have e1 : Int32.ofInt (iXor x y) = Int32.ofInt x ^^^ Int32.ofInt y := Int32.ofInt_toInt _
    rw [← e1]; exact k) k
def lAnd (x y : Int) : Int := (Int64.ofInt x &&& Int64.ofInt y).toInt
theorem wp_land {x y : Int} (hd : decode (mC M) pc = .ok (.land, 1)) (k : WP X M d b Q (pc + 1) L ((1, lAnd x y) :: S) h) : WP X M d b Q pc L ((1, y) :: (1, x) :: S) h :=
  wp_lift (fun hS hcl => mStk.cons okV_1 hS.tail.tail) (fun p l e R s m args below meth c H locs cells slots Z ad ls hA hR hV hce hsl hL hS k => by
    refine lv_land hA.1 hA.2.1 hd ?_
    have e1 : Int64.ofInt (lAnd x y) = Int64.ofInt x &&& Int64.ofInt y := Int64.ofInt_toInt _
    rw [← e1]; exact k) k
def lOr (x y : Int) : Int := (Int64.ofInt x ||| Int64.ofInt y).toInt
theorem wp_lor {x y : Int} (hd : decode (mC M) pc = .ok (.lor, 1)) (k : WP X M d b Q (pc + 1) L ((1, lOr x y) :: S) h) : WP X M d b Q pc L ((1, y) :: (1, x) :: S) h :=
  wp_lift (fun hS hcl => mStk.cons okV_1 hS.tail.tail) (fun p l e R s m args below meth c H locs cells slots Z ad ls hA hR hV hce hsl hL hS k => by
    refine lv_lor hA.1 hA.2.1 hd ?_
    have e1 : Int64.ofInt (lOr x y) = Int64.ofInt x ||| Int64.ofInt y := Int64.ofInt_toInt _
    rw [← e1]; exact k) k
def iShl (x y : Int) : Int := (Int32.ofInt x <<< (Int32.ofInt y &&& 31)).toInt
theorem wp_ishl {x y : Int} (hd : decode (mC M) pc = .ok (.ishl, 1)) (k : WP X M d b Q (pc + 1) L ((0, iShl x y) :: S) h) : WP X M d b Q pc L ((0, y) :: (0, x) :: S) h :=
  wp_lift (fun hS hcl => mStk.cons okV_0 hS.tail.tail) (fun p l e R s m args below meth c H locs cells slots Z ad ls hA hR hV hce hsl hL hS k => by
    refine lv_ishl hA.1 hA.2.1 hd ?_
    have e1 : Int32.ofInt (iShl x y) = Int32.ofInt x <<< (Int32.ofInt y &&& 31) := Int32.ofInt_toInt _
    rw [← e1]; exact k) k
def lShl (x y : Int) : Int := (Int64.ofInt x <<< ((Int32.ofInt y).toInt64 &&& 63)).toInt
theorem wp_lshl {x y : Int} (hd : decode (mC M) pc = .ok (.lshl, 1)) (k : WP X M d b Q (pc + 1) L ((1, lShl x y) :: S) h) : WP X M d b Q pc L ((0, y) :: (1, x) :: S) h :=
  wp_lift (fun hS hcl => mStk.cons okV_1 hS.tail.tail) (fun p l e R s m args below meth c H locs cells slots Z ad ls hA hR hV hce hsl hL hS k => by
    refine lv_lshl hA.1 hA.2.1 hd (v := Int64.ofInt (lShl x y)) (Int64.ofInt_toInt _).symm k) k
def iShr (x y : Int) : Int := (Int32.ofInt x >>> (Int32.ofInt y &&& 31)).toInt
theorem wp_ishr {x y : Int} (hd : decode (mC M) pc = .ok (.ishr, 1)) (k : WP X M d b Q (pc + 1) L ((0, iShr x y) :: S) h) : WP X M d b Q pc L ((0, y) :: (0, x) :: S) h :=
  wp_lift (fun hS hcl => mStk.cons okV_0 hS.tail.tail) (fun p l e R s m args below meth c H locs cells slots Z ad ls hA hR hV hce hsl hL hS k => by
    refine lv_ishr hA.1 hA.2.1 hd ?_
    have e1 : Int32.ofInt (iShr x y) = Int32.ofInt x >>> (Int32.ofInt y &&& 31) := Int32.ofInt_toInt _
    rw [← e1]; exact k) k
def lShr (x y : Int) : Int := (Int64.ofInt x >>> ((Int32.ofInt y).toInt64 &&& 63)).toInt
theorem wp_lshr {x y : Int} (hd : decode (mC M) pc = .ok (.lshr, 1)) (k : WP X M d b Q (pc + 1) L ((1, lShr x y) :: S) h) : WP X M d b Q pc L ((0, y) :: (1, x) :: S) h :=
  wp_lift (fun hS hcl => mStk.cons okV_1 hS.tail.tail) (fun p l e R s m args below meth c H locs cells slots Z ad ls hA hR hV hce hsl hL hS k => by
    refine lv_lshr hA.1 hA.2.1 hd (v := Int64.ofInt (lShr x y)) (Int64.ofInt_toInt _).symm k) k
theorem wp_i2l {x : Int} (hx : InI x) (hd : decode (mC M) pc = .ok (.i2l, 1)) (k : WP X M d b Q (pc + 1) L ((1, x) :: S) h) : WP X M d b Q pc L ((0, x) :: S) h :=
  wp_lift (fun hS hcl => mStk.cons okV_1 hS.tail) (fun p l e R s m args below meth c H locs cells slots Z ad ls hA hR hV hce hsl hL hS k => by
    refine lv_i2l hA.1 hA.2.1 hd (v := Int64.ofInt x) ?_ k
    exact Int32.toInt64_ofInt hx.1 hx.2) k
theorem wp_l2i {x : Int} (hd : decode (mC M) pc = .ok (.l2i, 1)) (k : WP X M d b Q (pc + 1) L ((0, x) :: S) h) : WP X M d b Q pc L ((1, x) :: S) h :=
  wp_lift (fun hS hcl => mStk.cons okV_0 hS.tail) (fun p l e R s m args below meth c H locs cells slots Z ad ls hA hR hV hce hsl hL hS k => by
    refine lv_l2i hA.1 hA.2.1 hd (v := Int32.ofInt x) ?_ k
    exact Int64.toInt32_ofInt) k
theorem wp_i2b {x : Int} (hd : decode (mC M) pc = .ok (.i2b, 1)) (k : WP X M d b Q (pc + 1) L ((0, x.bmod 256) :: S) h) : WP X M d b Q pc L ((0, x) :: S) h :=
  wp_lift (fun hS hcl => mStk.cons okV_0 hS.tail) (fun p l e R s m args below meth c H locs cells slots Z ad ls hA hR hV hce hsl hL hS k => by
    refine lv_i2b hA.1 hA.2.1 hd (v := Int32.ofInt (x.bmod 256)) ?_ k
    show (Int32.ofInt x).toInt8.toInt32 = _
    rw [Int32.toInt8_ofInt]
    apply Int32.toInt_inj.mp
    rw [Int8.toInt_toInt32, Int8.toInt_ofInt]
    show x.bmod 256 = _
    have e1 := Int.bmod_lt (x := x) (m := 256) (by decide)
    have e2 := Int.le_bmod (x := x) (m := 256) (by decide)
    exact (Int32.toInt_ofInt_of_le (by omega) (by omega)).symm) k
theorem wp_i2s {x : Int} (hd : decode (mC M) pc = .ok (.i2s, 1)) (k : WP X M d b Q (pc + 1) L ((0, x.bmod 65536) :: S) h) : WP X M d b Q pc L ((0, x) :: S) h :=
  wp_lift (fun hS hcl => mStk.cons okV_0 hS.tail) (fun p l e R s m args below meth c H locs cells slots Z ad ls hA hR hV hce hsl hL hS k => by
    refine lv_i2s hA.1 hA.2.1 hd (v := Int32.ofInt (x.bmod 65536)) ?_ k
    show (Int32.ofInt x).toInt16.toInt32 = _
    rw [Int32.toInt16_ofInt]
    apply Int32.toInt_inj.mp
    rw [Int16.toInt_toInt32, Int16.toInt_ofInt]
    show x.bmod 65536 = _
    have e1 := Int.bmod_lt (x := x) (m := 65536) (by decide)
    have e2 := Int.le_bmod (x := x) (m := 65536) (by decide)
    exact (Int32.toInt_ofInt_of_le (by omega) (by omega)).symm) k
theorem wp_i2c {x : Int} (hx : 0 ≤ x ∧ x < 65536) (hd : decode (mC M) pc = .ok (.i2c, 1)) (k : WP X M d b Q (pc + 1) L ((0, x) :: S) h) : WP X M d b Q pc L ((0, x) :: S) h :=
  wp_lift (fun hS hcl => mStk.cons okV_0 hS.tail) (fun p l e R s m args below meth c H locs cells slots Z ad ls hA hR hV hce hsl hL hS k => by
    refine lv_i2c hA.1 hA.2.1 hd (v := Int32.ofInt x) ?_ k
    have e1 : (Int32.ofInt x).toUInt32.toUInt16.toUInt32.toInt32 = Int32.ofInt x := lg_i2c_small (by rw [toI ⟨by omega, by omega⟩]; omega) (by rw [toI ⟨by omega, by omega⟩]; omega)
    rw [← vp_nar_char] at e1
    have e2 : (Int32.ofInt x).toUInt32 % 65536 = (Int32.ofInt x).toUInt32.toUInt16.toUInt32 := by
      apply UInt32.toNat_inj.mp
      simp
    rw [e2, ← vp_nar_char]
    exact e1) k
theorem wp_lcmp {x y : Int} (hx : InL x) (hy : InL y) (hd : decode (mC M) pc = .ok (.lcmp, 1)) (k : WP X M d b Q (pc + 1) L ((0, if y < x then 1 else if x = y then 0 else -1) :: S) h) : WP X M d b Q pc L ((1, y) :: (1, x) :: S) h :=
  wp_lift (fun hS hcl => mStk.cons okV_0 hS.tail.tail) (fun p l e R s m args below meth c H locs cells slots Z ad ls hA hR hV hce hsl hL hS k => by
    refine W.lcmp hA.1 hA.2.1 hd ?_
    have e1 : lg_cmp (Int64.ofInt x) (Int64.ofInt y) = Int32.ofInt (if y < x then 1 else if x = y then 0 else -1) := by
      unfold lg_cmp
      have a1 : Int64.ofInt x > Int64.ofInt y ↔ y < x := by show Int64.ofInt y < Int64.ofInt x ↔ _; rw [Int64.lt_iff_toInt_lt, toL hx, toL hy]
      have a2 : Int64.ofInt x = Int64.ofInt y ↔ x = y := ⟨fun h => by rw [← toL hx, ← toL hy, h], fun h => by rw [h]⟩
      by_cases c1 : y < x
      · rw [if_pos (a1.mpr c1), if_pos c1]; rfl
      · rw [if_neg (fun q => c1 (a1.mp q)), if_neg c1]
        by_cases c2 : x = y
        · rw [if_pos (a2.mpr c2), if_pos c2]; rfl
        · rw [if_neg (fun q => c2 (a2.mp q)), if_neg c2]; rfl
    rw [e1]; exact k) k
theorem wp_dup {t : Nat} {x : Int} (ht : t ≠ 1) (hd : decode (mC M) pc = .ok (.dup, 1)) (k : WP X M d b Q (pc + 1) L ((t, x) :: (t, x) :: S) h) : WP X M d b Q pc L ((t, x) :: S) h :=
  wp_lift (fun hS hcl => mStk.cons hS.head hS) (fun p l e R s m args below meth c H locs cells slots Z ad ls hA hR hV hce hsl hL hS k => by
    refine lv_dup hA.1 hA.2.1 hd ?_ k
    rw [enV_cat hS.head.1, if_neg ht]) k
theorem wp_pop {t : Nat} {x : Int} (ht : t ≠ 1) (hd : decode (mC M) pc = .ok (.pop, 1)) (k : WP X M d b Q (pc + 1) L (S) h) : WP X M d b Q pc L ((t, x) :: S) h :=
  wp_lift (fun hS hcl => hS.tail) (fun p l e R s m args below meth c H locs cells slots Z ad ls hA hR hV hce hsl hL hS k => by
    refine lv_pop hA.1 hA.2.1 hd ?_ k
    rw [enV_cat hS.head.1, if_neg ht]) k
theorem wp_dup2 {t u : Nat} {x y : Int} (ht : t ≠ 1) (hu : u ≠ 1) (hd : decode (mC M) pc = .ok (.dup2, 1)) (k : WP X M d b Q (pc + 1) L ((t, x) :: (u, y) :: (t, x) :: (u, y) :: S) h) : WP X M d b Q pc L ((t, x) :: (u, y) :: S) h :=
  wp_lift (fun hS hcl => mStk.cons hS.head (mStk.cons hS.tail.head hS)) (fun p l e R s m args below meth c H locs cells slots Z ad ls hA hR hV hce hsl hL hS k => by
    refine lv_dup2_11 hA.1 hA.2.1 hd ?_ ?_ k
    · rw [enV_cat hS.head.1, if_neg ht]
    · rw [enV_cat hS.tail.head.1, if_neg hu]) k
theorem wp_dup_x1 {t u : Nat} {x y : Int} (ht : t ≠ 1) (hu : u ≠ 1) (hd : decode (mC M) pc = .ok (.dup_x1, 1)) (k : WP X M d b Q (pc + 1) L ((t, x) :: (u, y) :: (t, x) :: S) h) : WP X M d b Q pc L ((t, x) :: (u, y) :: S) h :=
  wp_lift (fun hS hcl => mStk.cons hS.head (mStk.cons hS.tail.head (mStk.cons hS.head hS.tail.tail))) (fun p l e R s m args below meth c H locs cells slots Z ad ls hA hR hV hce hsl hL hS k => by
    refine lv_dup_x1 hA.1 hA.2.1 hd ?_ ?_ k
    · rw [enV_cat hS.head.1, if_neg ht]
    · rw [enV_cat hS.tail.head.1, if_neg hu]) k
theorem wp_dup2L {x : Int} (hd : decode (mC M) pc = .ok (.dup2, 1)) (k : WP X M d b Q (pc + 1) L ((1, x) :: (1, x) :: S) h) : WP X M d b Q pc L ((1, x) :: S) h :=
  wp_lift (fun hS hcl => mStk.cons hS.head hS) (fun p l e R s m args below meth c H locs cells slots Z ad ls hA hR hV hce hsl hL hS k => by
    exact lv_dup2_2 hA.1 hA.2.1 hd rfl k) k
theorem wp_ldc {i : Nat} {v : Int} (hw : Cond.constant (mO M) i (Int32.ofInt v) ∈ xT X) (hd : decode (mC M) pc = .ok (.ldc i, 2)) (k : WP X M d b Q (pc + 2) L ((0, v) :: S) h) : WP X M d b Q pc L (S) h :=
  wp_lift (fun hS hcl => mStk.cons okV_0 hS) (fun p l e R s m args below meth c H locs cells slots Z ad ls hA hR hV hce hsl hL hS k => by
    exact lv_ldc hA.1 hA.2.1 hA.2.2.2.1 (hA.2.2.2.2.1 _ hw) hd k) k
theorem wp_ldc2 {i : Nat} {v : Int} (hw : Cond.constantLong (mO M) i (Int64.ofInt v) ∈ xT X) (hd : decode (mC M) pc = .ok (.ldc2_w i, 3)) (k : WP X M d b Q (pc + 3) L ((1, v) :: S) h) : WP X M d b Q pc L (S) h :=
  wp_lift (fun hS hcl => mStk.cons okV_1 hS) (fun p l e R s m args below meth c H locs cells slots Z ad ls hA hR hV hce hsl hL hS k => by
    exact lv_ldc2 hA.1 hA.2.1 hA.2.2.2.1 (hA.2.2.2.2.1 _ hw) hd k) k
theorem wp_goto {off : Int} {tgt : Nat} (hd : decode (mC M) pc = .ok (.goto off, 3)) (ht : (pc : Int) + off = (tgt : Int)) (k : WP X M d b Q tgt L S h) : WP X M d b Q pc L S h :=
  wp_lift (fun hS _ => hS) (fun p l e R s m args below meth c H locs cells slots Z ad ls hA hR hV hce hsl hL hS k => lv_goto hA.1 hA.2.1 hd ht k) k
theorem wp_icmp_eq {x y off : Int} {tgt : Nat} (hx : InI x) (hy : InI y) (hd : decode (mC M) pc = .ok (.if_icmp .eq off, 3)) (ht : (pc : Int) + off = (tgt : Int)) (kt : x = y → WP X M d b Q tgt L S h) (kf : ¬ (x = y) → WP X M d b Q (pc + 3) L S h) : WP X M d b Q pc L ((0, y) :: (0, x) :: S) h := by
  intro p l e R s m args below meth c H locs cells slots Z ad ls mx hA hR hV h1 h2 h3 h4 hL hS hF
  have hc := eqI hx hy
  exact lv_icmp_eq hA.1 hA.2.1 hd ht (fun q => kt (hc.mp q) p l e R s m args below meth c H locs cells slots Z ad ls mx hA hR hV h1 h2 h3 h4 hL hS.tail.tail hF) (fun q => kf (fun z => q (hc.mpr z)) p l e R s m args below meth c H locs cells slots Z ad ls mx hA hR hV h1 h2 h3 h4 hL hS.tail.tail hF)
theorem wp_if_eq {x off : Int} {tgt : Nat} (hx : InI x) (hd : decode (mC M) pc = .ok (.ifCond .eq off, 3)) (ht : (pc : Int) + off = (tgt : Int)) (kt : x = 0 → WP X M d b Q tgt L S h) (kf : ¬ (x = 0) → WP X M d b Q (pc + 3) L S h) : WP X M d b Q pc L ((0, x) :: S) h := by
  intro p l e R s m args below meth c H locs cells slots Z ad ls mx hA hR hV h1 h2 h3 h4 hL hS hF
  have hc := eqI hx In0
  exact lv_if_eq hA.1 hA.2.1 hd ht (fun q => kt (hc.mp q) p l e R s m args below meth c H locs cells slots Z ad ls mx hA hR hV h1 h2 h3 h4 hL hS.tail hF) (fun q => kf (fun z => q (hc.mpr z)) p l e R s m args below meth c H locs cells slots Z ad ls mx hA hR hV h1 h2 h3 h4 hL hS.tail hF)
theorem wp_icmp_ne {x y off : Int} {tgt : Nat} (hx : InI x) (hy : InI y) (hd : decode (mC M) pc = .ok (.if_icmp .ne off, 3)) (ht : (pc : Int) + off = (tgt : Int)) (kt : x ≠ y → WP X M d b Q tgt L S h) (kf : x = y → WP X M d b Q (pc + 3) L S h) : WP X M d b Q pc L ((0, y) :: (0, x) :: S) h := by
  intro p l e R s m args below meth c H locs cells slots Z ad ls mx hA hR hV h1 h2 h3 h4 hL hS hF
  have hc := not_congr (eqI hx hy)
  exact lv_icmp_ne hA.1 hA.2.1 hd ht (fun q => kt (hc.mp q) p l e R s m args below meth c H locs cells slots Z ad ls mx hA hR hV h1 h2 h3 h4 hL hS.tail.tail hF) (fun q => kf ((eqI hx hy).mp q) p l e R s m args below meth c H locs cells slots Z ad ls mx hA hR hV h1 h2 h3 h4 hL hS.tail.tail hF)
theorem wp_if_ne {x off : Int} {tgt : Nat} (hx : InI x) (hd : decode (mC M) pc = .ok (.ifCond .ne off, 3)) (ht : (pc : Int) + off = (tgt : Int)) (kt : x ≠ 0 → WP X M d b Q tgt L S h) (kf : x = 0 → WP X M d b Q (pc + 3) L S h) : WP X M d b Q pc L ((0, x) :: S) h := by
  intro p l e R s m args below meth c H locs cells slots Z ad ls mx hA hR hV h1 h2 h3 h4 hL hS hF
  have hc := not_congr (eqI hx In0)
  exact lv_if_ne hA.1 hA.2.1 hd ht (fun q => kt (hc.mp q) p l e R s m args below meth c H locs cells slots Z ad ls mx hA hR hV h1 h2 h3 h4 hL hS.tail hF) (fun q => kf ((eqI hx In0).mp q) p l e R s m args below meth c H locs cells slots Z ad ls mx hA hR hV h1 h2 h3 h4 hL hS.tail hF)
theorem wp_icmp_lt {x y off : Int} {tgt : Nat} (hx : InI x) (hy : InI y) (hd : decode (mC M) pc = .ok (.if_icmp .lt off, 3)) (ht : (pc : Int) + off = (tgt : Int)) (kt : x < y → WP X M d b Q tgt L S h) (kf : ¬ (x < y) → WP X M d b Q (pc + 3) L S h) : WP X M d b Q pc L ((0, y) :: (0, x) :: S) h := by
  intro p l e R s m args below meth c H locs cells slots Z ad ls mx hA hR hV h1 h2 h3 h4 hL hS hF
  have hc := ltI hx hy
  exact lv_icmp_lt hA.1 hA.2.1 hd ht (fun q => kt (hc.mp q) p l e R s m args below meth c H locs cells slots Z ad ls mx hA hR hV h1 h2 h3 h4 hL hS.tail.tail hF) (fun q => kf (fun z => q (hc.mpr z)) p l e R s m args below meth c H locs cells slots Z ad ls mx hA hR hV h1 h2 h3 h4 hL hS.tail.tail hF)
theorem wp_if_lt {x off : Int} {tgt : Nat} (hx : InI x) (hd : decode (mC M) pc = .ok (.ifCond .lt off, 3)) (ht : (pc : Int) + off = (tgt : Int)) (kt : x < 0 → WP X M d b Q tgt L S h) (kf : ¬ (x < 0) → WP X M d b Q (pc + 3) L S h) : WP X M d b Q pc L ((0, x) :: S) h := by
  intro p l e R s m args below meth c H locs cells slots Z ad ls mx hA hR hV h1 h2 h3 h4 hL hS hF
  have hc := ltI hx In0
  exact lv_if_lt hA.1 hA.2.1 hd ht (fun q => kt (hc.mp q) p l e R s m args below meth c H locs cells slots Z ad ls mx hA hR hV h1 h2 h3 h4 hL hS.tail hF) (fun q => kf (fun z => q (hc.mpr z)) p l e R s m args below meth c H locs cells slots Z ad ls mx hA hR hV h1 h2 h3 h4 hL hS.tail hF)
theorem wp_icmp_ge {x y off : Int} {tgt : Nat} (hx : InI x) (hy : InI y) (hd : decode (mC M) pc = .ok (.if_icmp .ge off, 3)) (ht : (pc : Int) + off = (tgt : Int)) (kt : y ≤ x → WP X M d b Q tgt L S h) (kf : ¬ (y ≤ x) → WP X M d b Q (pc + 3) L S h) : WP X M d b Q pc L ((0, y) :: (0, x) :: S) h := by
  intro p l e R s m args below meth c H locs cells slots Z ad ls mx hA hR hV h1 h2 h3 h4 hL hS hF
  have hc := leI hy hx
  exact lv_icmp_ge hA.1 hA.2.1 hd ht (fun q => kt (hc.mp q) p l e R s m args below meth c H locs cells slots Z ad ls mx hA hR hV h1 h2 h3 h4 hL hS.tail.tail hF) (fun q => kf (fun z => q (hc.mpr z)) p l e R s m args below meth c H locs cells slots Z ad ls mx hA hR hV h1 h2 h3 h4 hL hS.tail.tail hF)
theorem wp_if_ge {x off : Int} {tgt : Nat} (hx : InI x) (hd : decode (mC M) pc = .ok (.ifCond .ge off, 3)) (ht : (pc : Int) + off = (tgt : Int)) (kt : 0 ≤ x → WP X M d b Q tgt L S h) (kf : ¬ (0 ≤ x) → WP X M d b Q (pc + 3) L S h) : WP X M d b Q pc L ((0, x) :: S) h := by
  intro p l e R s m args below meth c H locs cells slots Z ad ls mx hA hR hV h1 h2 h3 h4 hL hS hF
  have hc := leI In0 hx
  exact lv_if_ge hA.1 hA.2.1 hd ht (fun q => kt (hc.mp q) p l e R s m args below meth c H locs cells slots Z ad ls mx hA hR hV h1 h2 h3 h4 hL hS.tail hF) (fun q => kf (fun z => q (hc.mpr z)) p l e R s m args below meth c H locs cells slots Z ad ls mx hA hR hV h1 h2 h3 h4 hL hS.tail hF)
theorem wp_icmp_gt {x y off : Int} {tgt : Nat} (hx : InI x) (hy : InI y) (hd : decode (mC M) pc = .ok (.if_icmp .gt off, 3)) (ht : (pc : Int) + off = (tgt : Int)) (kt : y < x → WP X M d b Q tgt L S h) (kf : ¬ (y < x) → WP X M d b Q (pc + 3) L S h) : WP X M d b Q pc L ((0, y) :: (0, x) :: S) h := by
  intro p l e R s m args below meth c H locs cells slots Z ad ls mx hA hR hV h1 h2 h3 h4 hL hS hF
  have hc := ltI hy hx
  exact lv_icmp_gt hA.1 hA.2.1 hd ht (fun q => kt (hc.mp q) p l e R s m args below meth c H locs cells slots Z ad ls mx hA hR hV h1 h2 h3 h4 hL hS.tail.tail hF) (fun q => kf (fun z => q (hc.mpr z)) p l e R s m args below meth c H locs cells slots Z ad ls mx hA hR hV h1 h2 h3 h4 hL hS.tail.tail hF)
theorem wp_if_gt {x off : Int} {tgt : Nat} (hx : InI x) (hd : decode (mC M) pc = .ok (.ifCond .gt off, 3)) (ht : (pc : Int) + off = (tgt : Int)) (kt : 0 < x → WP X M d b Q tgt L S h) (kf : ¬ (0 < x) → WP X M d b Q (pc + 3) L S h) : WP X M d b Q pc L ((0, x) :: S) h := by
  intro p l e R s m args below meth c H locs cells slots Z ad ls mx hA hR hV h1 h2 h3 h4 hL hS hF
  have hc := ltI In0 hx
  exact lv_if_gt hA.1 hA.2.1 hd ht (fun q => kt (hc.mp q) p l e R s m args below meth c H locs cells slots Z ad ls mx hA hR hV h1 h2 h3 h4 hL hS.tail hF) (fun q => kf (fun z => q (hc.mpr z)) p l e R s m args below meth c H locs cells slots Z ad ls mx hA hR hV h1 h2 h3 h4 hL hS.tail hF)
theorem wp_icmp_le {x y off : Int} {tgt : Nat} (hx : InI x) (hy : InI y) (hd : decode (mC M) pc = .ok (.if_icmp .le off, 3)) (ht : (pc : Int) + off = (tgt : Int)) (kt : x ≤ y → WP X M d b Q tgt L S h) (kf : ¬ (x ≤ y) → WP X M d b Q (pc + 3) L S h) : WP X M d b Q pc L ((0, y) :: (0, x) :: S) h := by
  intro p l e R s m args below meth c H locs cells slots Z ad ls mx hA hR hV h1 h2 h3 h4 hL hS hF
  have hc := leI hx hy
  exact lv_icmp_le hA.1 hA.2.1 hd ht (fun q => kt (hc.mp q) p l e R s m args below meth c H locs cells slots Z ad ls mx hA hR hV h1 h2 h3 h4 hL hS.tail.tail hF) (fun q => kf (fun z => q (hc.mpr z)) p l e R s m args below meth c H locs cells slots Z ad ls mx hA hR hV h1 h2 h3 h4 hL hS.tail.tail hF)
theorem wp_if_le {x off : Int} {tgt : Nat} (hx : InI x) (hd : decode (mC M) pc = .ok (.ifCond .le off, 3)) (ht : (pc : Int) + off = (tgt : Int)) (kt : x ≤ 0 → WP X M d b Q tgt L S h) (kf : ¬ (x ≤ 0) → WP X M d b Q (pc + 3) L S h) : WP X M d b Q pc L ((0, x) :: S) h := by
  intro p l e R s m args below meth c H locs cells slots Z ad ls mx hA hR hV h1 h2 h3 h4 hL hS hF
  have hc := leI hx In0
  exact lv_if_le hA.1 hA.2.1 hd ht (fun q => kt (hc.mp q) p l e R s m args below meth c H locs cells slots Z ad ls mx hA hR hV h1 h2 h3 h4 hL hS.tail hF) (fun q => kf (fun z => q (hc.mpr z)) p l e R s m args below meth c H locs cells slots Z ad ls mx hA hR hV h1 h2 h3 h4 hL hS.tail hF)
theorem wp_ifnull {x off : Int} {tgt : Nat} (hd : decode (mC M) pc = .ok (.ifnull off, 3)) (ht : (pc : Int) + off = (tgt : Int)) (kt : x = -1 → WP X M d b Q tgt L S h) (kf : ¬ (x = -1) → WP X M d b Q (pc + 3) L S h) : WP X M d b Q pc L ((2, x) :: S) h := by
  intro p l e R s m args below meth c H locs cells slots Z ad ls mx hA hR hV h1 h2 h3 h4 hL hS hF
  show W p l e R s m args below meth c H locs cells slots Z (F0 m pc ls (va_rf (enO ad x) :: S.map (enV ad)))
  by_cases hx : x = -1
  · rw [show va_rf (enO ad x) = .null from by unfold enO; rw [if_pos hx]; rfl]
    exact lv_ifnullN hA.1 hA.2.1 hd ht (kt hx p l e R s m args below meth c H locs cells slots Z ad ls mx hA hR hV h1 h2 h3 h4 hL hS.tail hF)
  · rw [show va_rf (enO ad x) = .ref (ad x) from by unfold enO; rw [if_neg hx]; rfl]
    exact lv_ifnull hA.1 hA.2.1 hd (kf hx p l e R s m args below meth c H locs cells slots Z ad ls mx hA hR hV h1 h2 h3 h4 hL hS.tail hF)
theorem wp_ifnonnull {x off : Int} {tgt : Nat} (hd : decode (mC M) pc = .ok (.ifnonnull off, 3)) (ht : (pc : Int) + off = (tgt : Int)) (kt : x ≠ -1 → WP X M d b Q tgt L S h) (kf : ¬ (x ≠ -1) → WP X M d b Q (pc + 3) L S h) : WP X M d b Q pc L ((2, x) :: S) h := by
  intro p l e R s m args below meth c H locs cells slots Z ad ls mx hA hR hV h1 h2 h3 h4 hL hS hF
  show W p l e R s m args below meth c H locs cells slots Z (F0 m pc ls (va_rf (enO ad x) :: S.map (enV ad)))
  by_cases hx : x = -1
  · rw [show va_rf (enO ad x) = .null from by unfold enO; rw [if_pos hx]; rfl]
    exact lv_ifnonnullN hA.1 hA.2.1 hd (kf (fun z => z hx) p l e R s m args below meth c H locs cells slots Z ad ls mx hA hR hV h1 h2 h3 h4 hL hS.tail hF)
  · rw [show va_rf (enO ad x) = .ref (ad x) from by unfold enO; rw [if_neg hx]; rfl]
    exact lv_ifnonnull hA.1 hA.2.1 hd ht (kt hx p l e R s m args below meth c H locs cells slots Z ad ls mx hA hR hV h1 h2 h3 h4 hL hS.tail hF)
theorem wp_tabOut {dflt lo hi x : Int} {offs : Array Int} {len tgt : Nat} (hx : InI x) (hd : decode (mC M) pc = .ok (.tableswitch dflt lo hi offs, len)) (ho : x < lo ∨ hi < x) (ht : (pc : Int) + dflt = (tgt : Int)) (k : WP X M d b Q tgt L S h) : WP X M d b Q pc L ((0, x) :: S) h :=
  wp_lift (fun hS _ => hS.tail) (fun p l e R s m args below meth c H locs cells slots Z ad ls hA hR hV hce hsl hL hS k => lv_tableOut hA.1 hA.2.1 hd (by rw [toI hx]; exact ho) ht k) k
theorem wp_tabIn {dflt lo hi x off : Int} {offs : Array Int} {len tgt : Nat} (hx : InI x) (hd : decode (mC M) pc = .ok (.tableswitch dflt lo hi offs, len)) (h1 : lo ≤ x) (h2 : x ≤ hi) (ho : offs[(x - lo).toNat]? = some off) (ht : (pc : Int) + off = (tgt : Int)) (k : WP X M d b Q tgt L S h) : WP X M d b Q pc L ((0, x) :: S) h :=
  wp_lift (fun hS _ => hS.tail) (fun p l e R s m args below meth c H locs cells slots Z ad ls hA hR hV hce hsl hL hS k => lv_tableIn hA.1 hA.2.1 hd (by rw [toI hx]; omega) (by rw [toI hx]; omega) (by rw [toI hx]; exact ho) ht k) k
theorem wp_lookup {dflt x off : Int} {ps : Array (Int × Int)} {len tgt : Nat} (hx : InI x) (hd : decode (mC M) pc = .ok (.lookupswitch dflt ps, len)) (hp : (ps.toList.zip (ps.toList.drop 1)).all (fun (a, next) => a.1 < next.1) = true) (ho : Op.lookupswitch.offset ps.toList dflt x = off) (ht : (pc : Int) + off = (tgt : Int)) (k : WP X M d b Q tgt L S h) : WP X M d b Q pc L ((0, x) :: S) h :=
  wp_lift (fun hS _ => hS.tail) (fun p l e R s m args below meth c H locs cells slots Z ad ls hA hR hV hce hsl hL hS k => lv_lookup hA.1 hA.2.1 hd hp (by rw [toI hx]; exact ho) ht k) k
theorem wp_drop {L' : List mV} (hlen : L'.length = L.length) (hsub : ∀ (i : Nat) (v : mV), L'[i]? = some v → v.1 < 3 → L[i]? = some v) (k : WP X M d b Q pc L' S h) : WP X M d b Q pc L S h := by
  intro p l e R s m args below meth c H locs cells slots Z ad ls mx hA hR hV h1 h2 h3 h4 hL hS hF
  exact k p l e R s m args below meth c H locs cells slots Z ad ls mx hA hR hV h1 h2 h3 h4 ⟨hL.1, hlen.trans hL.2.1, fun i v hv ht => hL.2.2 i v (hsub i v hv ht) ht⟩ hS hF
theorem WP.mono {Q' : mV → mH → Prop} (hQ : ∀ r h', Q' r h' → Q r h') (k : WP X M d b Q' pc L S h) : WP X M d b Q pc L S h := by
  intro p l e R s m args below meth c H locs cells slots Z ad ls mx hA hR hV h1 h2 h3 h4 hL hS hF
  exact k p l e R s m args below meth c H locs cells slots Z ad ls mx hA hR hV h1 h2 h3 h4 hL hS (fun r h' ad' H' locs' cells' slots' pc' ls' g1 g2 g3 g4 g5 g6 g7 g8 => hF r h' ad' H' locs' cells' slots' pc' ls' g1 g2 g3 g4 g5 g6 g7 (hQ _ _ g8))
theorem WP.bud {b' : Nat} (hb : b' ≤ b) (k : WP X M d b' Q pc L S h) : WP X M d b Q pc L S h := by
  intro p l e R s m args below meth c H locs cells slots Z ad ls mx hA hR hV h1 h2 h3 h4 hL hS hF
  exact k p l e R s m args below meth c H locs cells slots Z ad ls mx hA hR hV (by omega) (by omega) h3 h4 hL hS hF
theorem WP.deep {d' : Nat} (hd : d' ≤ d) (k : WP X M d' b Q pc L S h) : WP X M d b Q pc L S h := by
  intro p l e R s m args below meth c H locs cells slots Z ad ls mx hA hR hV h1 h2 h3 h4 hL hS hF
  obtain ⟨a1, a2, a3, a4, a5, a6, a7, a8, a9, a10, a11⟩ := hA
  exact k p l e R s m args below meth c H locs cells slots Z ad ls mx ⟨a1, a2, a3, a4, a5, a6, a7, a8, by omega, by omega, a11⟩ hR hV h1 h2 h3 h4 hL hS hF
/-- the returns -/
theorem wp_ret {r : mV} (hr : retI M pc r) (hS : S = if r.1 < 3 then [r] else []) (hq : Q r h) : WP X M d b Q pc L S h := by
  intro p l e R s m args below meth c H locs cells slots Z ad ls mx hA hR hV h1 h2 h3 h4 hL hSt hF
  have e1 : S.map (enV ad) = rstk ad r := by rw [hS]; unfold rstk; by_cases z : r.1 < 3 <;> simp [z]
  rw [e1]
  refine hF r h ad H locs cells slots pc ls hR mExt.rf hV (by omega) (by omega) hr ?_ hq
  rcases hr with ⟨_, z, _⟩ | ⟨_, z, _⟩ | ⟨_, z, _⟩ | ⟨_, z, _⟩
  · exact Or.inl (hSt r (by rw [hS, if_pos (by omega)]; exact List.mem_cons_self))
  · exact Or.inl (hSt r (by rw [hS, if_pos (by omega)]; exact List.mem_cons_self))
  · exact Or.inl (hSt r (by rw [hS, if_pos (by omega)]; exact List.mem_cons_self))
  · exact Or.inr z
theorem wp_iret {x : Int} (hd : decode (mC M) pc = .ok (.ireturn, 1)) (ht : mT M = some .int) (hq : Q (0, x) h) : WP X M d b Q pc L [(0, x)] h := wp_ret (Or.inl ⟨hd, rfl, .int, ht, rfl⟩) rfl hq
theorem wp_zret {x : Int} (hx : x = 0 ∨ x = 1) (hd : decode (mC M) pc = .ok (.ireturn, 1)) (ht : mT M = some .boolean) (hq : Q (0, x) h) : WP X M d b Q pc L [(0, x)] h := wp_ret (Or.inl ⟨hd, rfl, .boolean, ht, by rcases hx with rfl | rfl <;> rfl⟩) rfl hq
theorem wp_cret {x : Int} (hx : 0 ≤ x ∧ x < 65536) (hd : decode (mC M) pc = .ok (.ireturn, 1)) (ht : mT M = some .char) (hq : Q (0, x) h) : WP X M d b Q pc L [(0, x)] h := wp_ret (Or.inl ⟨hd, rfl, .char, ht, by
  have e1 := (pk_charN (q := x.toNat) (by omega)).1
  rw [show nI x.toNat = Int32.ofInt x from by unfold nI; rw [← Int32.ofInt_eq_ofNat, Int.toNat_of_nonneg hx.1]] at e1
  exact e1⟩) rfl hq
theorem wp_bret {x : Int} (hx : x = 0) (hd : decode (mC M) pc = .ok (.ireturn, 1)) (ht : mT M = some .byte) (hq : Q (0, x) h) : WP X M d b Q pc L [(0, x)] h := wp_ret (Or.inl ⟨hd, rfl, .byte, ht, by rw [hx]; rfl⟩) rfl hq
theorem wp_lret {x : Int} (hd : decode (mC M) pc = .ok (.lreturn, 1)) (ht : mT M = some .long) (hq : Q (1, x) h) : WP X M d b Q pc L [(1, x)] h := wp_ret (Or.inr (Or.inl ⟨hd, rfl, ht⟩)) rfl hq
theorem wp_aret {x : Int} (hd : decode (mC M) pc = .ok (.areturn, 1)) {ty : FieldType} (ht : mT M = some ty) (hty : (∃ n, ty = .object n) ∨ ∃ t, ty = .array t) (hq : Q (2, x) h) : WP X M d b Q pc L [(2, x)] h := wp_ret (Or.inr (Or.inr (Or.inl ⟨hd, rfl, ty, ht, hty⟩))) rfl hq
theorem wp_vret (hd : decode (mC M) pc = .ok (.return_, 1)) (ht : mT M = none) (hq : Q (9, 0) h) : WP X M d b Q pc L [] h := wp_ret (Or.inr (Or.inr (Or.inr ⟨hd, rfl, ht⟩))) rfl hq
end MR
