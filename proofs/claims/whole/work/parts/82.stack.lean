/-! ===== text: the stack brings what the descent brings ===== -/
theorem runs_go {T V : Nat → Int} {S S' : rS} {r : pR} (e : rstp T V S = .inl S') (h : Runs T V S' r) : Runs T V S r := by
  obtain ⟨n, hn⟩ := h
  refine ⟨n + 1, ?_⟩
  rw [rrn, e]
  exact hn
theorem runs_end {T V : Nat → Int} {S : rS} {r : pR} (e : rstp T V S = .inr r) : Runs T V S r := by
  refine ⟨1, ?_⟩
  rw [rrn, e]
theorem runs_cg {T V : Nat → Int} {S S' : rS} {r : pR} (e : rstp T V S = rstp T V S') (h : Runs T V S' r) : Runs T V S r := by
  obtain ⟨n, hn⟩ := h
  cases n with
  | zero => cases hn
  | succ n =>
    refine ⟨n + 1, ?_⟩
    rw [rrn] at hn ⊢
    rw [e]
    exact hn
theorem stl_in {r : Int} (r1 : 1 ≤ r) : ∀ (w o : List Int), 14 ∈ (stl r w o).1 ↔ (14 : Int) ∈ w
  | [], o => Iff.rfl
  | e :: w, o => by
    rw [stl]
    by_cases c : r ≤ rkT e
    · rw [if_pos c, stl_in r1 w]
      have he : (14 : Int) ≠ e := fun q => by
        rw [← q] at c
        have : rkT 14 = 0 := rfl
        omega
      constructor
      · intro h
        exact List.mem_cons_of_mem _ h
      · intro h
        rcases List.mem_cons.mp h with z | z
        · exact absurd z he
        · exact z
    · rw [if_neg c]
theorem stl_cons {r : Int} {e : Int} {w o : List Int} (h : r ≤ rkT e) : stl r (e :: w) o = stl r w (o ++ [-1 - e]) := if_pos h
theorem stl_stop {r : Int} : ∀ {w o : List Int}, (∀ e ∈ w.head?, rkT e < r) → stl r w o = (w, o)
  | [], _, _ => rfl
  | e :: w, o, h => if_neg (by have := h e rfl; omega)
/-- an operator that waits on top, and one that is written already, are one where no token binds more -/
theorem rstp_e {T V : Nat → Int} {i : Nat} {e : Int} {w o : List Int} (h1 : 1 ≤ rkT e) (h2 : rkT (T i) ≤ rkT e) (h4 : rkT (T i) = 4 → 4 < rkT e) : rstp T V (i, e :: w, 0, o) = rstp T V (i, w, 0, o ++ [-1 - e]) := by
  have he : (14 : Int) ≠ e := fun q => by
    rw [← q] at h1
    have : rkT 14 = 0 := rfl
    omega
  have hm : (14 : Int) ∈ e :: w ↔ 14 ∈ w := by
    constructor
    · intro h
      rcases List.mem_cons.mp h with z | z
      · exact absurd z he
      · exact z
    · intro h
      exact List.mem_cons_of_mem _ h
  unfold rstp
  dsimp only
  rw [if_neg (fun q : (0 : Nat) ≠ 0 => q rfl), if_neg (fun q : (0 : Nat) ≠ 0 => q rfl), stl_cons h1]
  by_cases c1 : T i = 15 ∧ (14 : Int) ∈ w
  · rw [if_pos ⟨c1.1, hm.mpr c1.2⟩, if_pos c1]
  rw [if_neg (fun q => c1 ⟨q.1, hm.mp q.2⟩), if_neg c1]
  by_cases c2 : T i = 16 ∧ (14 : Int) ∉ w
  · rw [if_pos ⟨c2.1, fun q => c2.2 (hm.mp q)⟩, if_pos c2]
  rw [if_neg (fun q => c2 ⟨q.1, fun z => q.2 (hm.mpr z)⟩), if_neg c2]
  by_cases c3 : T i = 12 ∨ rkT (T i) = 0
  · rw [if_pos (Or.inl c3), if_pos (Or.inl c3)]
  have hc : rkT (T i) = 4 ∧ hcm (e :: w) = true ↔ rkT (T i) = 4 ∧ hcm w = true := by
    constructor
    · intro h
      have := h.2
      rw [hcm, if_pos (h4 h.1)] at this
      exact ⟨h.1, this⟩
    · intro h
      refine ⟨h.1, ?_⟩
      rw [hcm, if_pos (h4 h.1)]
      exact h.2
  by_cases c4 : rkT (T i) = 4 ∧ hcm w = true
  · rw [if_pos (Or.inr (hc.mpr c4)), if_pos (Or.inr c4)]
  have n1 : ¬ ((T i = 12 ∨ rkT (T i) = 0) ∨ (rkT (T i) = 4 ∧ hcm (e :: w) = true)) := fun q => Or.elim q c3 (fun z => c4 (hc.mp z))
  have n2 : ¬ ((T i = 12 ∨ rkT (T i) = 0) ∨ (rkT (T i) = 4 ∧ hcm w = true)) := fun q => Or.elim q c3 c4
  rw [if_neg n1, if_neg n2, stl_cons h2]
theorem rstp_7 {T V : Nat → Int} {i : Nat} (ht : rkT (T i) < 7) : ∀ (w o : List Int), rstp T V (i, (stl 7 w o).1, 0, (stl 7 w o).2) = rstp T V (i, w, 0, o)
  | [], o => rfl
  | e :: w, o => by
    by_cases c : 7 ≤ rkT e
    · rw [stl_cons c, rstp_7 ht w, rstp_e (by omega) (by omega) (by omega)]
    · have : stl 7 (e :: w) o = (e :: w, o) := if_neg c
      rw [this]
theorem st_num {T V : Nat → Int} {i q : Nat} {w o : List Int} (q0 : q = 1 ∨ q = 2) (h : T i = 13 ∨ (0 ≤ T i ∧ T i < 7)) : rstp T V (i, w, q, o) = .inl (i + 1, (stl 7 w (o ++ [if T i = 13 then V i else -1 - T i])).1, 0, (stl 7 w (o ++ [if T i = 13 then V i else -1 - T i])).2) := by
  unfold rstp
  dsimp only
  rw [if_pos (by omega), if_neg (by omega), if_pos (by omega)]
theorem st_push {T V : Nat → Int} {i q : Nat} {w o : List Int} (q0 : q = 1 ∨ q = 2) (h : T i = 14 ∨ T i = 18 ∨ (T i = 12 ∧ q = 2)) (h5 : opn w < 5) : rstp T V (i, w, q, o) = .inl (i + 1, (if T i = 18 then 24 else T i) :: w, if T i = 18 then 1 else 2, o) := by
  unfold rstp
  dsimp only
  rw [if_pos (by omega), if_pos h, if_pos h5]
theorem st_full {T V : Nat → Int} {i q : Nat} {w o : List Int} (q0 : q = 1 ∨ q = 2) (h : T i = 14 ∨ T i = 18 ∨ (T i = 12 ∧ q = 2)) (h5 : 5 ≤ opn w) : rstp T V (i, w, q, o) = .inr (.inl i) := by
  unfold rstp
  dsimp only
  rw [if_pos (by omega), if_pos h, if_neg (by omega)]
theorem st_bad {T V : Nat → Int} {i q : Nat} {w o : List Int} (q0 : q = 1 ∨ q = 2) (h : ¬ (T i = 14 ∨ T i = 18 ∨ (T i = 12 ∧ q = 2))) (h2 : ¬ (T i = 13 ∨ T i < 7)) : rstp T V (i, w, q, o) = .inr (.inl i) := by
  unfold rstp
  dsimp only
  rw [if_pos (by omega), if_neg h, if_neg h2]
theorem st_close {T V : Nat → Int} {i : Nat} {w o : List Int} (h : T i = 15) : rstp T V (i, 14 :: w, 0, o) = .inl (i + 1, (stl 7 w o).1, 0, (stl 7 w o).2) := by
  have e1 : stl 1 (14 :: w) o = (14 :: w, o) := if_neg (by decide)
  unfold rstp
  dsimp only
  rw [if_neg (fun q : (0 : Nat) ≠ 0 => q rfl), if_pos ⟨h, List.mem_cons_self⟩, e1]
  rfl
theorem st_semi {T V : Nat → Int} {i : Nat} {o : List Int} (h : T i = 16) : rstp T V (i, [], 0, o) = .inr (.inr (i + 1, o)) := by
  unfold rstp
  dsimp only
  rw [if_neg (fun q : (0 : Nat) ≠ 0 => q rfl), if_neg (by omega), if_pos ⟨h, List.not_mem_nil⟩]
  rfl
theorem st_err {T V : Nat → Int} {i : Nat} {w o : List Int} (h1 : ¬ (T i = 15 ∧ 14 ∈ w)) (h2 : ¬ (T i = 16 ∧ 14 ∉ w)) (h3 : (T i = 12 ∨ rkT (T i) = 0) ∨ (rkT (T i) = 4 ∧ hcm w = true)) : rstp T V (i, w, 0, o) = .inr (.inl i) := by
  unfold rstp
  dsimp only
  rw [if_neg (fun q : (0 : Nat) ≠ 0 => q rfl), if_neg h1, if_neg h2, if_pos h3]
theorem st_op {T V : Nat → Int} {i : Nat} {w o : List Int} (h1 : T i = 10 ∨ T i = 11 ∨ (17 ≤ T i ∧ T i ≤ 21)) (h2 : 1 ≤ rkT (T i)) (h3 : rkT (T i) = 4 → hcm w = false) (h4 : ∀ e ∈ w.head?, rkT e < rkT (T i)) : rstp T V (i, w, 0, o) = .inl (i + 1, T i :: w, if rkT (T i) < 3 then 2 else 1, o) := by
  unfold rstp
  dsimp only
  rw [if_neg (fun q : (0 : Nat) ≠ 0 => q rfl), if_neg (fun q => by omega), if_neg (fun q => by omega), if_neg (fun q => by
    rcases q with q | q
    · omega
    · rw [h3 q.1] at q
      cases q.2), stl_stop h4]
/-- behind an operand: a second comparison is told as a fault, by both -/
def VR (T V : Nat → Int) (lev i : Nat) (w o : List Int) (r : pR) : Prop := ((lvT (T i) = 2 ∧ lev ≤ 2) ∧ r = .inl i) ∨ (¬ (lvT (T i) = 2 ∧ lev ≤ 2) ∧ Runs T V (i, w, 0, o) r)
def rL (l : Nat) : Int := if l < 2 then l + 1 else l + 2
def aR (T V : Nat → Int) (x : pR) (lev : Nat) (w : List Int) (R : pR → Prop) : Prop := (∀ j, x = .inl j → R (.inl j)) ∧ ∀ i' o' r, x = .inr (i', o') → VR T V lev i' w o' r → R r
theorem aR_bd {T V : Nat → Int} {x : pR} {g : Nat → List Int → pR} {lev lev1 : Nat} {w w1 : List Int} {R : pR → Prop} (h : aR T V x lev1 w1 R) (k : ∀ i1 o1, x = .inr (i1, o1) → aR T V (g i1 o1) lev w (fun r => VR T V lev1 i1 w1 o1 r)) : aR T V (bd x g) lev w R := by
  rcases x with j | ⟨i1, o1⟩
  · exact ⟨fun j' e => by cases e; exact h.1 j rfl, fun i' o' r e => by cases e⟩
  · have k' := k i1 o1 rfl
    exact ⟨fun j' e => h.2 i1 o1 _ rfl (k'.1 j' e), fun i' o' r e v => h.2 i1 o1 r rfl (k'.2 i' o' r e v)⟩
theorem rk_6 {t : Int} (h : t ≤ 23) : rkT t < 7 := by
  unfold rkT
  repeat' split
  all_goals omega
theorem hcm_f {w : List Int} (h : ∀ e ∈ w.head?, rkT e < 4) : hcm w = false := by
  rcases w with _ | ⟨e, w⟩
  · rfl
  · have := h e rfl
    rw [hcm, if_neg (by omega)]
    exact decide_eq_false (by omega)
theorem rep_A {T V : Nat → Int} {N lev : Nat} {g : Nat → List Int → pR} {w : List Int} (hT : TOK T V N) (hl : lev < 5) (hw : ∀ e ∈ w.head?, rkT e < rL lev)
    (hg : ∀ i o i' o', i ≤ N → g i o = .inr (i', o') → pG1 T N (lev + 1) i o i' o')
    (hA : ∀ (i : Nat) (o : List Int) (t : Int) (q : Nat), i ≤ N → rkT t = rL lev → (t = 10 ∨ t = 11 ∨ (17 ≤ t ∧ t ≤ 21)) → q = (if rkT t < 3 then 2 else 1) → aR T V (g i o) (lev + 1) (t :: w) (Runs T V (i, t :: w, q, o))) : ∀ (n i1 : Nat) (o1 : List Int), i1 ≤ N → (lev = 2 ∨ 161 ≤ n + i1) → (lev = 2 → n = 1 ∨ n = 0) → (lvT (T i1) = 2 ∧ lev = 2 → n = 1) → aR T V (repP T g lev n i1 o1) lev w (fun r => VR T V (lev + 1) i1 w o1 r)
  | 0, i1, o1, h1, h2, h3, h4 => by
    refine ⟨fun j e => by (cases e), fun i' o' r e v => ?_⟩
    cases e
    unfold VR at v ⊢
    by_cases c : lvT (T i1) = 2
    · by_cases d : lev = 2
      · exfalso
        have := h4 ⟨c, d⟩
        omega
      · rcases v with ⟨⟨v1, v2⟩, v3⟩ | ⟨v1, v2⟩
        · exact Or.inl ⟨⟨v1, by omega⟩, v3⟩
        · refine Or.inr ⟨fun q => v1 ⟨q.1, by omega⟩, v2⟩
    · rcases v with ⟨⟨v1, v2⟩, v3⟩ | ⟨v1, v2⟩
      · exact absurd v1 c
      · exact Or.inr ⟨fun q => c q.1, v2⟩
  | n + 1, i1, o1, h1, h2, h3, h4 => by
    rw [repP]
    by_cases c : lvT (T i1) = lev
    · rw [if_pos c]
      have hr := lv_rk (T i1)
      have hrk : rkT (T i1) = rL lev := by
        unfold rL
        rcases hr with z | ⟨z1, z2, z3, z4⟩
        · omega
        · rw [z3]
          split <;> split <;> omega
      have hi : i1 < N := by
        rcases Nat.lt_or_ge i1 N with z | z
        · exact z
        · exfalso
          have : i1 = N := by omega
          subst this
          have := hT.2.2.2.1
          omega
      have hrb : 1 ≤ rL lev := by unfold rL; split <;> omega
      have hst : rstp T V (i1, w, 0, o1) = .inl (i1 + 1, T i1 :: w, if rkT (T i1) < 3 then 2 else 1, o1) := st_op (by omega) (by omega) (fun q => hcm_f (fun e he => by have := hw e he; omega)) (fun e he => by have := hw e he; omega)
      have hnc : ¬ (lvT (T i1) = 2 ∧ lev + 1 ≤ 2) := by omega
      have h0 := hA (i1 + 1) o1 (T i1) _ (by omega) hrk (by omega) rfl
      have h0' : aR T V (g (i1 + 1) o1) (lev + 1) (T i1 :: w) (fun r => VR T V (lev + 1) i1 w o1 r) := ⟨fun j e => Or.inr ⟨hnc, runs_go hst (h0.1 j e)⟩, fun i' o' r e v => Or.inr ⟨hnc, runs_go hst (h0.2 i' o' r e v)⟩⟩
      refine aR_bd h0' (fun i2 o2 e2 => ?_)
      obtain ⟨g1, g2, g3, g4, g5⟩ := hg (i1 + 1) o1 i2 o2 (by omega) e2
      by_cases d2 : lev = 2
      · -- one comparison alone
        have hn : n = 0 := by omega
        subst hn
        refine ⟨fun j e => by (cases e), fun i' o' r e v => ?_⟩
        cases e
        have hcm1 : hcm (T i1 :: w) = true := by
          have : rL lev = 4 := by rw [d2]; rfl
          rw [hcm, if_neg (by omega)]
          exact decide_eq_true (by omega)
        refine Or.inr ⟨by omega, ?_⟩
        rcases v with ⟨⟨v1, v2⟩, v3⟩ | ⟨v1, v2⟩
        · rw [v3]
          have hr2 := lv_rk (T i2)
          have hrk2 : rkT (T i2) = 4 := by
            rcases hr2 with z | ⟨z1, z2, z3, z4⟩
            · omega
            · rw [z3, if_neg (by omega)]
              omega
          exact runs_end (st_err (fun q => by rw [q.1] at v1; cases v1) (fun q => by rw [q.1] at v1; cases v1) (Or.inr ⟨hrk2, hcm1⟩))
        · have hlt : lvT (T i2) < 2 := by
            by_cases z : (3 : Int) ≤ lvT (T i2)
            · have := g3 (by omega)
              omega
            · omega
          have hr2 := lv_rk (T i2)
          have : rL lev = 4 := by rw [d2]; rfl
          have ht2 := (hT.2.1 i2).2
          refine runs_cg (rstp_e (by omega) ?_ ?_) v2
          · rcases hr2 with ⟨z, z2 | z2 | z2⟩ | ⟨z1, z2, z3, z4⟩
            · omega
            · rw [z2, hrk]
              have : rkT 12 = 3 := rfl
              omega
            · omega
            · rw [z3, if_pos hlt]
              omega
          · intro q
            rcases hr2 with ⟨z, z2 | z2 | z2⟩ | ⟨z1, z2, z3, z4⟩
            · omega
            · rw [z2] at q
              cases q
            · omega
            · rw [z3, if_pos hlt] at q
              omega
      · have ih := rep_A hT hl hw hg hA n i2 (o2 ++ [-1 - T i1]) g2 (by omega) (by omega) (by omega)
        have key : ∀ r, VR T V (lev + 1) i2 w (o2 ++ [-1 - T i1]) r → VR T V (lev + 1) i2 (T i1 :: w) o2 r := by
          intro r v
          rcases v with ⟨v1, v3⟩ | ⟨v1, v2⟩
          · exact Or.inl ⟨v1, v3⟩
          · refine Or.inr ⟨v1, ?_⟩
            have hr2 := lv_rk (T i2)
            have ht2 := (hT.2.1 i2).2
            have hle : rkT (T i2) ≤ rL lev ∧ (rkT (T i2) = 4 → 4 < rL lev) ∨ T i2 = 12 := by
              rcases hr2 with ⟨z, z2 | z2 | z2⟩ | ⟨z1, z2, z3, z4⟩
              · exact Or.inl ⟨by omega, by omega⟩
              · exact Or.inr z2
              · omega
              · refine Or.inl ?_
                have hlt : lvT (T i2) ≤ lev := by
                  by_cases y : (lev : Int) + 1 ≤ lvT (T i2)
                  · have := g3 (by omega)
                    omega
                  · omega
                have hne : lvT (T i2) = 2 → 3 ≤ lev := fun y => by omega
                rw [z3]
                unfold rL
                split <;> split <;> omega
            rcases hle with ⟨z1, z2⟩ | z
            · exact runs_cg (rstp_e (by omega) (by omega) (by omega)) v2
            · -- a `not` cannot stand behind an operand: a fault on both sides
              have e1 : rstp T V (i2, w, 0, o2 ++ [-1 - T i1]) = .inr (.inl i2) := st_err (fun q => by omega) (fun q => by omega) (Or.inl (Or.inl z))
              have e2 : rstp T V (i2, T i1 :: w, 0, o2) = .inr (.inl i2) := st_err (fun q => by omega) (fun q => by omega) (Or.inl (Or.inl z))
              exact runs_cg (e2.trans e1.symm) v2
        exact ⟨fun j e => key _ (ih.1 j e), fun i' o' r e v => key _ (ih.2 i' o' r e v)⟩
    · rw [if_neg c]
      refine ⟨fun j e => by (cases e), fun i' o' r e v => ?_⟩
      cases e
      rcases v with ⟨⟨v1, v2⟩, v3⟩ | ⟨v1, v2⟩
      · exact Or.inl ⟨⟨v1, by omega⟩, v3⟩
      · exact Or.inr ⟨fun q => v1 ⟨q.1, by omega⟩, v2⟩
theorem prs_A {T V : Nat → Int} {N : Nat} (hT : TOK T V N) : ∀ (k lev op i : Nat) (o w : List Int) (q : Nat), lev ≤ 5 → op ≤ 5 → 42 ≤ k + lev + 7 * op → opn w = op → (lev ≤ 2 → q = 2) → (q = 1 ∨ q = 2) → (3 ≤ lev → q = 2 → T i ≠ 12) → (lev < 5 → ∀ e ∈ w.head?, rkT e < rL lev) → i ≤ N → aR T V (prs T V k lev op i o) lev w (Runs T V (i, w, q, o))
  | 0, lev, op, i, o, w, q, h1, h2, h3, _, _, _, _, _, _ => by exfalso; omega
  | k + 1, lev, op, i, o, w, q, h1, h2, h3, h4, h5, h6, h7, h8, h9 => by
    obtain ⟨t1, t2, t3, t4, t5⟩ := id hT
    have tN : T i ≠ 22 → T i ≠ 23 → i < N := fun q1 q2 => by
      rcases Nat.lt_or_ge i N with z | z
      · exact z
      · exfalso
        have : i = N := by omega
        subst this
        omega
    have ti := t2 i
    rw [prs]
    by_cases c5 : 5 ≤ lev
    · rw [if_pos c5]
      have nv : ∀ t : Int, ¬ (t = 2 ∧ lev ≤ 2) := fun t z => by omega
      by_cases c1 : T i = 13
      · rw [if_pos c1]
        refine ⟨fun j e => by (cases e), fun i' o' r e v => ?_⟩
        cases e
        have hs := st_num (V := V) (w := w) (o := o) h6 (Or.inl c1)
        rw [if_pos c1] at hs
        rcases v with ⟨v1, v3⟩ | ⟨v1, v2⟩
        · exact absurd v1 (nv _)
        · exact runs_go hs (runs_cg (rstp_7 (rk_6 (t2 (i + 1)).2) w _) v2)
      rw [if_neg c1]
      by_cases c2 : T i < 7
      · rw [if_pos c2]
        refine ⟨fun j e => by (cases e), fun i' o' r e v => ?_⟩
        cases e
        have hs := st_num (V := V) (w := w) (o := o) h6 (Or.inr ⟨ti.1, c2⟩)
        rw [if_neg c1] at hs
        rcases v with ⟨v1, v3⟩ | ⟨v1, v2⟩
        · exact absurd v1 (nv _)
        · exact runs_go hs (runs_cg (rstp_7 (rk_6 (t2 (i + 1)).2) w _) v2)
      rw [if_neg c2]
      by_cases c3 : T i = 18
      · rw [if_pos c3]
        by_cases d : 5 ≤ op
        · rw [if_pos d]
          exact ⟨fun j e => by cases e; exact runs_end (st_full h6 (Or.inr (Or.inl c3)) (by omega)), fun i' o' r e => by cases e⟩
        rw [if_neg d]
        have hs := st_push (V := V) (w := w) (o := o) h6 (Or.inr (Or.inl c3)) (by omega)
        rw [if_pos c3, if_pos c3] at hs
        have ho : opn (24 :: w) = op + 1 := by rw [opn, if_pos (by omega), h4]
        have h0 := prs_A hT k 5 (op + 1) (i + 1) o (24 :: w) 1 (by omega) (by omega) (by omega) ho (by omega) (Or.inl rfl) (by omega) (by omega) (tN (by omega) (by omega))
        have h0' : aR T V (prs T V k 5 (op + 1) (i + 1) o) 5 (24 :: w) (Runs T V (i, w, q, o)) := ⟨fun j e => runs_go hs (h0.1 j e), fun i' o' r e v => runs_go hs (h0.2 i' o' r e v)⟩
        refine aR_bd h0' (fun i1 o1 e1 => ⟨fun j e => by (cases e), fun i' o' r e v => ?_⟩)
        cases e
        rcases v with ⟨v1, v3⟩ | ⟨v1, v2⟩
        · exact absurd v1 (nv _)
        · have h7' := rk_6 (t2 i1).2
          have h24 : rkT 24 = 7 := rfl
          exact Or.inr ⟨by omega, runs_cg (rstp_e (by omega) (by omega) (by omega)) v2⟩
      rw [if_neg c3]
      by_cases c4 : T i = 14
      · rw [if_pos c4]
        by_cases d : 5 ≤ op
        · rw [if_pos d]
          exact ⟨fun j e => by cases e; exact runs_end (st_full h6 (Or.inl c4) (by omega)), fun i' o' r e => by cases e⟩
        rw [if_neg d]
        have hs := st_push (V := V) (w := w) (o := o) h6 (Or.inl c4) (by omega)
        rw [if_neg c3, if_neg c3, c4] at hs
        have ho : opn (14 :: w) = op + 1 := by rw [opn, if_pos (by omega), h4]
        have h0 := prs_A hT k 0 (op + 1) (i + 1) o (14 :: w) 2 (by omega) (by omega) (by omega) ho (fun _ => rfl) (Or.inr rfl) (by omega) (fun _ e he => by cases he; decide) (tN (by omega) (by omega))
        have h0' : aR T V (prs T V k 0 (op + 1) (i + 1) o) 0 (14 :: w) (Runs T V (i, w, q, o)) := ⟨fun j e => runs_go hs (h0.1 j e), fun i' o' r e v => runs_go hs (h0.2 i' o' r e v)⟩
        refine aR_bd h0' (fun i1 o1 e1 => ?_)
        have hG := prs_G hT k 0 (op + 1) (i + 1) o i1 o1 (by omega) (tN (by omega) (by omega)) e1
        by_cases d2 : T i1 = 15
        · rw [if_pos d2]
          refine ⟨fun j e => by (cases e), fun i' o' r e v => ?_⟩
          cases e
          rcases v with ⟨v1, v3⟩ | ⟨v1, v2⟩
          · exact absurd v1 (nv _)
          · refine Or.inr ⟨fun z => by rw [d2] at z; exact absurd z.1 (by decide), ?_⟩
            exact runs_go (st_close d2) (runs_cg (rstp_7 (rk_6 (t2 (i1 + 1)).2) w _) v2)
        · rw [if_neg d2]
          refine ⟨fun j e => ?_, fun i' o' r e => by (cases e)⟩
          cases e
          by_cases z : lvT (T i1) = 2
          · exact Or.inl ⟨⟨z, by omega⟩, rfl⟩
          · refine Or.inr ⟨fun y => z y.1, runs_end (st_err (fun y => d2 y.1) (fun y => y.2 List.mem_cons_self) (Or.inl ?_))⟩
            have hr2 := lv_rk (T i1)
            have ht2 := (t2 i1).2
            rcases hr2 with ⟨z1, z2 | z2 | z2⟩ | ⟨z1, z2, z3, z4⟩
            · exact Or.inr z2
            · exact Or.inl z2
            · omega
            · exact absurd (hG.2.2.1 (by omega)).1 z
      · rw [if_neg c4]
        refine ⟨fun j e => ?_, fun i' o' r e => by (cases e)⟩
        cases e
        exact runs_end (st_bad h6 (fun z => by rcases z with z | z | z; exact c4 z; exact c3 z; exact h7 (by omega) z.2 z.1) (fun z => z.elim c1 c2))
    · rw [if_neg c5]
      by_cases c6 : lev = 2 ∧ T i = 12
      · rw [if_pos c6]
        have hq := h5 (by omega)
        by_cases d : 5 ≤ op
        · rw [if_pos d]
          exact ⟨fun j e => by cases e; exact runs_end (st_full h6 (Or.inr (Or.inr ⟨c6.2, hq⟩)) (by omega)), fun i' o' r e => by cases e⟩
        rw [if_neg d]
        have hs := st_push (V := V) (w := w) (o := o) h6 (Or.inr (Or.inr ⟨c6.2, hq⟩)) (by omega)
        rw [if_neg (by omega), if_neg (by omega), c6.2] at hs
        have ho : opn (12 :: w) = op + 1 := by rw [opn, if_pos (by omega), h4]
        have h0 := prs_A hT k 2 (op + 1) (i + 1) o (12 :: w) 2 (by omega) (by omega) (by omega) ho (fun _ => rfl) (Or.inr rfl) (by omega) (fun _ e he => by cases he; decide) (tN (by omega) (by omega))
        have h0' : aR T V (prs T V k 2 (op + 1) (i + 1) o) 2 (12 :: w) (Runs T V (i, w, q, o)) := ⟨fun j e => runs_go hs (h0.1 j e), fun i' o' r e v => runs_go hs (h0.2 i' o' r e v)⟩
        refine aR_bd h0' (fun i1 o1 e1 => ⟨fun j e => by (cases e), fun i' o' r e v => ?_⟩)
        cases e
        have hG := prs_G hT k 2 (op + 1) (i + 1) o i1 o1 (by omega) (tN (by omega) (by omega)) e1
        rcases v with ⟨v1, v3⟩ | ⟨v1, v2⟩
        · exact Or.inl ⟨⟨v1.1, by omega⟩, v3⟩
        · refine Or.inr ⟨fun z => v1 ⟨z.1, by omega⟩, ?_⟩
          have hr2 := lv_rk (T i1)
          have ht2 := (t2 i1).2
          have h12 : rkT 12 = 3 := rfl
          have hle : rkT (T i1) ≤ 3 := by
            rcases hr2 with ⟨z1, z2 | z2 | z2⟩ | ⟨z1, z2, z3, z4⟩
            · omega
            · rw [z2]
              decide
            · omega
            · have : lvT (T i1) < 2 := by
                by_cases y : (2 : Int) ≤ lvT (T i1)
                · have := hG.2.2.1 (by omega)
                  exfalso
                  exact v1 ⟨this.1, by omega⟩
                · omega
              rw [z3, if_pos this]
              omega
          exact runs_cg (rstp_e (e := 12) (by omega) (by omega) (by omega)) v2
      · rw [if_neg c6]
        have rmon : rL lev < rL (lev + 1) := by
          unfold rL
          split <;> split <;> omega
        have h0 := prs_A hT k (lev + 1) op i o w q (by omega) h2 (by omega) h4 (fun z => h5 (by omega)) h6 (fun z1 z2 z3 => by
          by_cases y : lev = 2
          · exact c6 ⟨y, z3⟩
          · exact h7 (by omega) z2 z3) (fun z e he => by have := h8 (by omega) e he; omega) h9
        refine aR_bd h0 (fun i1 o1 e1 => ?_)
        have hG := prs_G hT k (lev + 1) op i o i1 o1 (by omega) h9 e1
        refine rep_A hT (by omega) (h8 (by omega)) (fun i o i' o' hi h => prs_G hT k (lev + 1) op i o i' o' (by omega) hi h) (fun i o t q' hi hr ht hq' => ?_) _ i1 o1 hG.2.1 (by split <;> have := hG.1 <;> omega) (fun z => by rw [if_pos z]; exact Or.inl rfl) (fun z => by rw [if_pos z.2])
        have hlv : rL lev = (if lev < 2 then (lev : Int) + 1 else lev + 2) := rfl
        have ho : opn (t :: w) = op := by rw [opn, if_neg (by omega), h4]; rfl
        refine prs_A hT k (lev + 1) op i o (t :: w) q' (by omega) h2 (by omega) ho (fun z => ?_) ?_ (fun z1 z2 => ?_) (fun z e he => ?_) hi
        · rw [hq', if_pos (by split at hlv <;> omega)]
        · rw [hq']
          split
          · exact Or.inr rfl
          · exact Or.inl rfl
        · exfalso
          rw [hq', if_neg (by split at hlv <;> omega)] at z2
          cases z2
        · cases he
          omega
/-- one part of a text behind its key -/
def prE (T V : Nat → Int) (i : Nat) : pR := bd (prs T V 45 0 0 i []) (fun i' o' => if T i' = 16 then .inr (i' + 1, o') else .inl i')
theorem prE_A {T V : Nat → Int} {N : Nat} (hT : TOK T V N) {i : Nat} (hi : i ≤ N) : Runs T V (i, [], 2, []) (prE T V i) := by
  have h := prs_A hT 45 0 0 i [] [] 2 (by omega) (by omega) (by omega) rfl (fun _ => rfl) (Or.inr rfl) (by omega) (fun _ e he => by cases he) hi
  unfold prE
  rcases hr : prs T V 45 0 0 i [] with j | ⟨i', o'⟩
  · exact h.1 j hr
  · have hG := prs_G hT 45 0 0 i [] i' o' (by omega) hi hr
    have h2 := fun r => h.2 i' o' r hr
    show Runs T V _ (if T i' = 16 then _ else _)
    by_cases c : T i' = 16
    · rw [if_pos c]
      refine h2 _ (Or.inr ⟨fun z => by rw [c] at z; exact absurd z.1 (by decide), runs_end (st_semi c)⟩)
    · rw [if_neg c]
      refine h2 _ ?_
      by_cases z : lvT (T i') = 2
      · exact Or.inl ⟨⟨z, by omega⟩, rfl⟩
      · refine Or.inr ⟨fun y => z y.1, runs_end (st_err (fun y => absurd y.2 List.not_mem_nil) (fun y => c y.1) (Or.inl ?_))⟩
        have hr2 := lv_rk (T i')
        have ht2 := (hT.2.1 i').2
        rcases hr2 with ⟨z1, z2 | z2 | z2⟩ | ⟨z1, z2, z3, z4⟩
        · exact Or.inr z2
        · exact Or.inl z2
        · omega
        · exact absurd (hG.2.2.1 (by omega)).1 z
theorem prE_G {T V : Nat → Int} {N : Nat} (hT : TOK T V N) {i i' : Nat} {o' : List Int} (hi : i ≤ N) (h : prE T V i = .inr (i', o')) : i < i' ∧ i' ≤ N ∧ wfO o' 1 ∧ o'.length + i + 1 ≤ i' := by
  unfold prE at h
  obtain ⟨i1, o1, e1, e2⟩ := bd_inr h
  obtain ⟨g1, g2, g3, g4, g5⟩ := prs_G hT 45 0 0 i [] i1 o1 (by omega) hi e1
  by_cases c : T i1 = 16
  · rw [if_pos c] at e2
    cases e2
    have : i1 < N := by
      rcases Nat.lt_or_ge i1 N with z | z
      · exact z
      · exfalso
        have : i1 = N := by omega
        subst this
        have := hT.2.2.2.1
        omega
    exact ⟨by omega, by omega, g4 0 (by decide) rfl, by simpa using g5⟩
  · rw [if_neg c] at e2
    cases e2
