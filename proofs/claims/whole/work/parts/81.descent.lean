/-! ===== text: the grammar, without a machine: the class's descent and the reference's stack, over tokens T and numbers V ===== -/
abbrev pR : Type := Nat ⊕ (Nat × List Int)
def bd (r : pR) (g : Nat → List Int → pR) : pR := match r with
  | .inl j => .inl j
  | .inr x => g x.1 x.2
def lvT (t : Int) : Int := if t = 10 then 0 else if t = 11 then 1 else if t = 20 ∨ t = 21 then 2 else if t = 17 ∨ t = 18 then 3 else if t = 19 then 4 else -1
def repP (T : Nat → Int) (g : Nat → List Int → pR) (lv : Int) : Nat → Nat → List Int → pR
  | 0, i, o => .inr (i, o)
  | n + 1, i, o => if lvT (T i) = lv then bd (g (i + 1) o) (fun i' o' => repP T g lv n i' (o' ++ [-1 - T i])) else .inr (i, o)
def prs (T V : Nat → Int) : Nat → Nat → Nat → Nat → List Int → pR
  | 0, _, _, i, _ => .inl i
  | k + 1, lv, op, i, o =>
    if 5 ≤ lv then
      (if T i = 13 then .inr (i + 1, o ++ [V i])
      else if T i < 7 then .inr (i + 1, o ++ [-1 - T i])
      else if T i = 18 then (if 5 ≤ op then .inl i else bd (prs T V k 5 (op + 1) (i + 1) o) (fun i' o' => .inr (i', o' ++ [-25])))
      else if T i = 14 then (if 5 ≤ op then .inl i else bd (prs T V k 0 (op + 1) (i + 1) o) (fun i' o' => if T i' = 15 then .inr (i' + 1, o') else .inl i'))
      else .inl i)
    else if lv = 2 ∧ T i = 12 then (if 5 ≤ op then .inl i else bd (prs T V k 2 (op + 1) (i + 1) o) (fun i' o' => .inr (i', o' ++ [-13])))
    else bd (prs T V k (lv + 1) op i o) (fun i1 o1 => repP T (prs T V k (lv + 1) op) (lv : Int) (if lv = 2 then 1 else 160) i1 o1)
/-- token, what waits (its top first), 0: an operator is next, 1: an operand without not, 2: an operand; the code -/
abbrev rS : Type := Nat × List Int × Nat × List Int
def rkT (t : Int) : Int := if t = 10 then 1 else if t = 11 then 2 else if t = 12 then 3 else if t = 20 ∨ t = 21 then 4 else if t = 17 ∨ t = 18 then 5 else if t = 19 then 6 else if t = 24 then 7 else 0
def opn : List Int → Nat
  | [] => 0
  | e :: w => opn w + (if e = 14 ∨ e = 12 ∨ e = 24 then 1 else 0)
def stl (r : Int) : List Int → List Int → List Int × List Int
  | [], o => ([], o)
  | e :: w, o => if r ≤ rkT e then stl r w (o ++ [-1 - e]) else (e :: w, o)
def hcm : List Int → Bool
  | [] => false
  | e :: w => if 4 < rkT e then hcm w else decide (rkT e = 4)
def rstp (T V : Nat → Int) (S : rS) : rS ⊕ pR :=
  if S.2.2.1 ≠ 0 then
    (if T S.1 = 14 ∨ T S.1 = 18 ∨ (T S.1 = 12 ∧ S.2.2.1 = 2) then
      (if opn S.2.1 < 5 then .inl (S.1 + 1, (if T S.1 = 18 then 24 else T S.1) :: S.2.1, if T S.1 = 18 then 1 else 2, S.2.2.2) else .inr (.inl S.1))
    else if T S.1 = 13 ∨ T S.1 < 7 then .inl (S.1 + 1, (stl 7 S.2.1 (S.2.2.2 ++ [if T S.1 = 13 then V S.1 else -1 - T S.1])).1, 0, (stl 7 S.2.1 (S.2.2.2 ++ [if T S.1 = 13 then V S.1 else -1 - T S.1])).2)
    else .inr (.inl S.1))
  else if T S.1 = 15 ∧ 14 ∈ S.2.1 then .inl (S.1 + 1, (stl 7 (stl 1 S.2.1 S.2.2.2).1.tail (stl 1 S.2.1 S.2.2.2).2).1, 0, (stl 7 (stl 1 S.2.1 S.2.2.2).1.tail (stl 1 S.2.1 S.2.2.2).2).2)
  else if T S.1 = 16 ∧ 14 ∉ S.2.1 then .inr (.inr (S.1 + 1, (stl 1 S.2.1 S.2.2.2).2))
  else if (T S.1 = 12 ∨ rkT (T S.1) = 0) ∨ (rkT (T S.1) = 4 ∧ hcm S.2.1 = true) then .inr (.inl S.1)
  else .inl (S.1 + 1, T S.1 :: (stl (rkT (T S.1)) S.2.1 S.2.2.2).1, if rkT (T S.1) < 3 then 2 else 1, (stl (rkT (T S.1)) S.2.1 S.2.2.2).2)
def rrn (T V : Nat → Int) : Nat → rS → Option pR
  | 0, _ => none
  | n + 1, S => match rstp T V S with
    | .inl S' => rrn T V n S'
    | .inr r => some r
def Runs (T V : Nat → Int) (S : rS) (r : pR) : Prop := ∃ n, rrn T V n S = some r
def TOK (T V : Nat → Int) (N : Nat) : Prop := N ≤ 160 ∧ (∀ i, 0 ≤ T i ∧ T i ≤ 23) ∧ (∀ i, i < N → T i ≠ 22 ∧ T i ≠ 23) ∧ (T N = 22 ∨ T N = 23) ∧ ∀ i, T i = 13 → 0 ≤ V i ∧ V i ≤ 9999
theorem lv_rk (t : Int) : (lvT t = -1 ∧ (rkT t = 0 ∨ t = 12 ∨ t = 24)) ∨ (0 ≤ lvT t ∧ lvT t ≤ 4 ∧ rkT t = (if lvT t < 2 then lvT t + 1 else lvT t + 2) ∧ (t = 10 ∨ t = 11 ∨ (17 ≤ t ∧ t ≤ 21))) := by
  by_cases c1 : t = 10
  · subst c1; decide
  by_cases c2 : t = 11
  · subst c2; decide
  by_cases c3 : t = 12
  · subst c3; decide
  by_cases c4 : t = 17
  · subst c4; decide
  by_cases c5 : t = 18
  · subst c5; decide
  by_cases c6 : t = 19
  · subst c6; decide
  by_cases c7 : t = 20
  · subst c7; decide
  by_cases c8 : t = 21
  · subst c8; decide
  by_cases c9 : t = 24
  · subst c9; decide
  refine Or.inl ⟨?_, Or.inl ?_⟩
  · unfold lvT
    rw [if_neg c1, if_neg c2, if_neg (by omega), if_neg (by omega), if_neg c6]
  · unfold rkT
    rw [if_neg c1, if_neg c2, if_neg c3, if_neg (by omega), if_neg (by omega), if_neg c6, if_neg c9]
theorem rk_b (t : Int) : 0 ≤ rkT t ∧ rkT t ≤ 7 := by
  unfold rkT
  repeat' split
  all_goals decide
/-! what a code comes to: how high the stack stands behind it -/
def wfR : List Int → Int → Prop
  | [], h => h = 0
  | c :: l, h => codeOk c ∧ ((-7 ≤ c ∧ wfR l (h - 1)) ∨ ((c = -13 ∨ c = -25) ∧ 1 ≤ h ∧ wfR l h) ∨ (¬ -7 ≤ c ∧ c ≠ -13 ∧ c ≠ -25 ∧ 1 ≤ h ∧ wfR l (h + 1)))
def wfO (o : List Int) (h : Int) : Prop := wfR o.reverse h
theorem wfO_s {o : List Int} {c h : Int} : wfO (o ++ [c]) h ↔ codeOk c ∧ ((-7 ≤ c ∧ wfO o (h - 1)) ∨ ((c = -13 ∨ c = -25) ∧ 1 ≤ h ∧ wfO o h) ∨ (¬ -7 ≤ c ∧ c ≠ -13 ∧ c ≠ -25 ∧ 1 ≤ h ∧ wfO o (h + 1))) := by
  unfold wfO
  rw [List.reverse_append]
  exact Iff.rfl
theorem wfO_1 {o : List Int} {c h : Int} (q : codeOk c) (q2 : -7 ≤ c) (w : wfO o h) : wfO (o ++ [c]) (h + 1) := wfO_s.mpr ⟨q, Or.inl ⟨q2, by rw [show h + 1 - 1 = h by omega]; exact w⟩⟩
theorem wfO_u {o : List Int} {c h : Int} (q : c = -13 ∨ c = -25) (q2 : 1 ≤ h) (w : wfO o h) : wfO (o ++ [c]) h := wfO_s.mpr ⟨by unfold codeOk; omega, Or.inr (Or.inl ⟨q, q2, w⟩)⟩
theorem wfO_2 {o : List Int} {t h : Int} (q : t = 10 ∨ t = 11 ∨ (17 ≤ t ∧ t ≤ 21)) (q2 : 1 ≤ h) (w : wfO o (h + 1)) : wfO (o ++ [-1 - t]) h := wfO_s.mpr ⟨by unfold codeOk; omega, Or.inr (Or.inr ⟨by omega, by omega, by omega, q2, w⟩)⟩
theorem getD_l {o s : List Int} {k : Nat} (h : k < o.length) : (o ++ s).getD k 0 = o.getD k 0 := by
  rw [List.getD_eq_getElem?_getD, List.getD_eq_getElem?_getD, List.getElem?_append_left h]
theorem getD_e {o : List Int} {c : Int} : (o ++ [c]).getD o.length 0 = c := by
  rw [List.getD_eq_getElem?_getD, List.getElem?_append_right (Nat.le_refl _), Nat.sub_self]
  rfl
theorem wfR_hgt : ∀ (l : List Int) (h : Int), wfR l h → ∀ (f : Int → Int) (s : Int), (∀ k : Nat, k < l.length → f (s + k) = l.reverse.getD k 0) → hgt f s l.length = h ∧ ∀ k : Nat, k < l.length → codeOk (f (s + k)) ∧ (-7 ≤ f (s + k) ∨ ((f (s + k) = -13 ∨ f (s + k) = -25) ∧ 1 ≤ hgt f s k) ∨ 2 ≤ hgt f s k)
  | [], h, w, f, s, _ => ⟨w.symm, fun k hk => absurd hk (Nat.not_lt_zero k)⟩
  | c :: l, h, w, f, s, hf => by
    have hlen : l.reverse.length = l.length := List.length_reverse
    have hf1 : ∀ k : Nat, k < l.length → f (s + k) = l.reverse.getD k 0 := fun k hk => by
      have := hf k (Nat.lt_succ_of_lt hk)
      rw [List.reverse_cons, getD_l (by omega)] at this
      exact this
    have hfc : f (s + l.length) = c := by
      have := hf l.length (Nat.lt_succ_self _)
      rw [List.reverse_cons, ← hlen, getD_e, hlen] at this
      exact this
    obtain ⟨w1, w2⟩ := w
    show hgt f s l.length + (if -7 ≤ f (s + l.length) then 1 else if f (s + l.length) = -13 ∨ f (s + l.length) = -25 then 0 else -1) = h ∧ _
    rw [hfc]
    rcases w2 with ⟨w2, w3⟩ | ⟨w2, w4, w3⟩ | ⟨w2, w5, w6, w4, w3⟩
    · have ih := wfR_hgt l _ w3 f s hf1
      refine ⟨by rw [if_pos w2, ih.1]; omega, fun k hk => ?_⟩
      by_cases d : k = l.length
      · rw [d, hfc]
        exact ⟨w1, Or.inl w2⟩
      · exact ih.2 k (by have : k < l.length + 1 := hk; omega)
    · have ih := wfR_hgt l _ w3 f s hf1
      refine ⟨by rw [if_neg (by omega), if_pos w2, ih.1]; omega, fun k hk => ?_⟩
      by_cases d : k = l.length
      · rw [d, hfc, ih.1]
        exact ⟨w1, Or.inr (Or.inl ⟨w2, w4⟩)⟩
      · exact ih.2 k (by have : k < l.length + 1 := hk; omega)
    · have ih := wfR_hgt l _ w3 f s hf1
      refine ⟨by rw [if_neg w2, if_neg (by omega), ih.1]; omega, fun k hk => ?_⟩
      by_cases d : k = l.length
      · rw [d, hfc, ih.1]
        exact ⟨w1, Or.inr (Or.inr (by omega))⟩
      · exact ih.2 k (by have : k < l.length + 1 := hk; omega)
theorem wfO_hgt {o : List Int} {h : Int} (w : wfO o h) (f : Int → Int) (s : Int) (hf : ∀ k : Nat, k < o.length → f (s + k) = o.getD k 0) : hgt f s o.length = h ∧ ∀ k : Nat, k < o.length → codeOk (f (s + k)) ∧ (-7 ≤ f (s + k) ∨ ((f (s + k) = -13 ∨ f (s + k) = -25) ∧ 1 ≤ hgt f s k) ∨ 2 ≤ hgt f s k) := by
  have h1 := wfR_hgt o.reverse h w f s (fun k hk => by rw [List.reverse_reverse]; exact hf k (by rw [List.length_reverse] at hk; exact hk))
  rw [List.length_reverse] at h1
  exact h1
/-! what the descent brings -/
def pG1 (T : Nat → Int) (N lev i : Nat) (o : List Int) (i' : Nat) (o' : List Int) : Prop := i < i' ∧ i' ≤ N ∧ ((lev : Int) ≤ lvT (T i') → lvT (T i') = 2 ∧ lev ≤ 2) ∧ (∀ H : Int, 0 ≤ H → wfO o H → wfO o' (H + 1)) ∧ o'.length + i ≤ o.length + i'
theorem bd_inr {r : pR} {g : Nat → List Int → pR} {x : Nat × List Int} (h : bd r g = .inr x) : ∃ i1 o1, r = .inr (i1, o1) ∧ g i1 o1 = .inr x := by
  rcases r with j | ⟨i1, o1⟩
  · cases h
  · exact ⟨i1, o1, rfl, h⟩
theorem rep_G {T : Nat → Int} {N lev : Nat} {g : Nat → List Int → pR} (hN : N ≤ 160) (hT : T N = 22 ∨ T N = 23) (hl : lev < 5) (hg : ∀ i o i' o', i ≤ N → g i o = .inr (i', o') → pG1 T N (lev + 1) i o i' o') : ∀ (n i1 : Nat) (o1 : List Int) (i' : Nat) (o' : List Int), i1 ≤ N → (lev = 2 ∨ 161 ≤ n + i1) → (lev = 2 → n = 1 ∨ n = 0) → (((lev : Int) + 1 ≤ lvT (T i1)) → lvT (T i1) = 2 ∧ lev + 1 ≤ 2) → repP T g lev n i1 o1 = .inr (i', o') → i1 ≤ i' ∧ i' ≤ N ∧ ((lev : Int) ≤ lvT (T i') → lvT (T i') = 2 ∧ lev ≤ 2) ∧ (∀ H : Int, 0 ≤ H → wfO o1 (H + 1) → wfO o' (H + 1)) ∧ o'.length + i1 ≤ o1.length + i'
  | 0, i1, o1, i', o', h1, h2, h3, h4, h => by
    cases h
    refine ⟨Nat.le_refl _, h1, fun q => ?_, fun H _ w => w, Nat.le_refl _⟩
    by_cases c : lev = 2
    · by_cases d : (lev : Int) + 1 ≤ lvT (T i1)
      · have := h4 d
        omega
      · omega
    · exfalso
      have : i1 = N := by omega
      omega
  | n + 1, i1, o1, i', o', h1, h2, h3, h4, h => by
    rw [repP] at h
    by_cases c : lvT (T i1) = lev
    · rw [if_pos c] at h
      obtain ⟨i2, o2, e1, e2⟩ := bd_inr h
      have hr := lv_rk (T i1)
      have hi : i1 < N := by
        rcases Nat.lt_or_ge i1 N with z | z
        · exact z
        · exfalso
          have : i1 = N := by omega
          subst this
          omega
      obtain ⟨g1, g2, g3, g4, g5⟩ := hg (i1 + 1) o1 i2 o2 (by omega) e1
      have g3' : (lev : Int) + 1 ≤ lvT (T i2) → lvT (T i2) = 2 ∧ lev + 1 ≤ 2 := fun q => g3 (by omega)
      have ih := rep_G hN hT hl hg n i2 (o2 ++ [-1 - T i1]) i' o' g2 (by omega) (by omega) g3' e2
      refine ⟨by omega, ih.2.1, ih.2.2.1, fun H H0 w => ih.2.2.2.1 H H0 (wfO_2 (by omega) (by omega) (g4 (H + 1) (by omega) w)), ?_⟩
      have h5 := ih.2.2.2.2
      rw [List.length_append, List.length_singleton] at h5
      omega
    · rw [if_neg c] at h
      cases h
      refine ⟨Nat.le_refl _, h1, fun q => ?_, fun H _ w => w, Nat.le_refl _⟩
      have := h4 (by omega)
      exact ⟨this.1, by omega⟩
theorem prs_G {T V : Nat → Int} {N : Nat} (hT : TOK T V N) : ∀ (k lev op i : Nat) (o : List Int) (i' : Nat) (o' : List Int), lev ≤ 5 → i ≤ N → prs T V k lev op i o = .inr (i', o') → pG1 T N lev i o i' o'
  | 0, lev, op, i, o, i', o', _, _, h => by cases h
  | k + 1, lev, op, i, o, i', o', hl, hi, h => by
    obtain ⟨t1, t2, t3, t4, t5⟩ := id hT
    have tN : T i ≠ 22 → T i ≠ 23 → i < N := fun q1 q2 => by
      rcases Nat.lt_or_ge i N with z | z
      · exact z
      · exfalso
        have : i = N := by omega
        subst this
        omega
    rw [prs] at h
    by_cases c5 : 5 ≤ lev
    · rw [if_pos c5] at h
      have ex : ∀ t : Int, (lev : Int) ≤ lvT t → lvT t = 2 ∧ lev ≤ 2 := fun t q => by
        have := lv_rk t
        omega
      by_cases c1 : T i = 13
      · rw [if_pos c1] at h
        cases h
        have := t5 i c1
        exact ⟨Nat.lt_succ_self _, tN (by omega) (by omega), ex _, fun H H0 w => wfO_1 (by unfold codeOk; omega) (by omega) w, by rw [List.length_append, List.length_singleton]; omega⟩
      rw [if_neg c1] at h
      by_cases c2 : T i < 7
      · rw [if_pos c2] at h
        cases h
        have := t2 i
        exact ⟨Nat.lt_succ_self _, tN (by omega) (by omega), ex _, fun H H0 w => wfO_1 (by unfold codeOk; omega) (by omega) w, by rw [List.length_append, List.length_singleton]; omega⟩
      rw [if_neg c2] at h
      by_cases c3 : T i = 18
      · rw [if_pos c3] at h
        by_cases d : 5 ≤ op
        · rw [if_pos d] at h
          cases h
        rw [if_neg d] at h
        obtain ⟨i1, o1, e1, e2⟩ := bd_inr h
        cases e2
        obtain ⟨g1, g2, g3, g4, g5⟩ := prs_G hT k 5 (op + 1) (i + 1) o i' o1 (by omega) (tN (by omega) (by omega)) e1
        exact ⟨by omega, g2, ex _, fun H H0 w => wfO_u (Or.inr rfl) (by omega) (g4 H H0 w), by rw [List.length_append, List.length_singleton]; omega⟩
      rw [if_neg c3] at h
      by_cases c4 : T i = 14
      · rw [if_pos c4] at h
        by_cases d : 5 ≤ op
        · rw [if_pos d] at h
          cases h
        rw [if_neg d] at h
        obtain ⟨i1, o1, e1, e2⟩ := bd_inr h
        obtain ⟨g1, g2, g3, g4, g5⟩ := prs_G hT k 0 (op + 1) (i + 1) o i1 o1 (by omega) (tN (by omega) (by omega)) e1
        by_cases d2 : T i1 = 15
        · rw [if_pos d2] at e2
          cases e2
          have : i1 < N := by
            rcases Nat.lt_or_ge i1 N with z | z
            · exact z
            · exfalso
              have : i1 = N := by omega
              subst this
              omega
          exact ⟨by omega, by omega, ex _, g4, by omega⟩
        · rw [if_neg d2] at e2
          cases e2
      · rw [if_neg c4] at h
        cases h
    · rw [if_neg c5] at h
      by_cases c6 : lev = 2 ∧ T i = 12
      · rw [if_pos c6] at h
        by_cases d : 5 ≤ op
        · rw [if_pos d] at h
          cases h
        rw [if_neg d] at h
        obtain ⟨i1, o1, e1, e2⟩ := bd_inr h
        cases e2
        obtain ⟨g1, g2, g3, g4, g5⟩ := prs_G hT k 2 (op + 1) (i + 1) o i' o1 (by omega) (tN (by omega) (by omega)) e1
        exact ⟨by omega, g2, fun q => ⟨(g3 (by have := c6.1; omega)).1, by have := c6.1; omega⟩, fun H H0 w => wfO_u (Or.inl rfl) (by omega) (g4 H H0 w), by rw [List.length_append, List.length_singleton]; omega⟩
      · rw [if_neg c6] at h
        obtain ⟨i1, o1, e1, e2⟩ := bd_inr h
        obtain ⟨g1, g2, g3, g4, g5⟩ := prs_G hT k (lev + 1) op i o i1 o1 (by omega) hi e1
        have hr := rep_G t1 t4 (by omega) (fun i o i' o' hi h => prs_G hT k (lev + 1) op i o i' o' (by omega) hi h) (if lev = 2 then 1 else 160) i1 o1 i' o' g2 (by split <;> omega) (by intro q; rw [if_pos q]; exact Or.inl rfl) (fun q => g3 (by omega)) e2
        exact ⟨by omega, hr.2.1, hr.2.2.1, fun H H0 w => hr.2.2.2.1 H H0 (g4 H H0 w), by omega⟩
