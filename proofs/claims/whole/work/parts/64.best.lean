/-! ===== choose: what is best, without a machine ===== -/
abbrev tri : Type := Int × Int × Int
def tadd (p q : tri) : tri := (p.1 + q.1, p.2.1 + q.2.1, p.2.2 + q.2.2)
abbrev tge (p q : tri) : Prop := q.1 < p.1 ∨ (q.1 = p.1 ∧ (p.2.1 < q.2.1 ∨ (p.2.1 = q.2.1 ∧ p.2.2 ≤ q.2.2)))
abbrev tgt (p q : tri) : Prop := q.1 < p.1 ∨ (p.1 = q.1 ∧ (p.2.1 < q.2.1 ∨ (p.2.1 = q.2.1 ∧ p.2.2 < q.2.2)))
def bet (c b : tri) : tri := if tgt c b then c else b
def sbs : List tri → List tri
  | [] => [(0, 0, 0)]
  | x :: l => (sbs l).map (tadd x) ++ sbs l
def tsum : List tri → tri
  | [] => (0, 0, 0)
  | x :: l => tadd x (tsum l)
def sch (L : Int) : List tri → tri → tri → tri
  | [], c, b => if c.2.1 ≤ L then bet c b else b
  | x :: l, c, b =>
    if c.2.1 + (tsum (x :: l)).2.1 ≤ L then bet (tadd c (tsum (x :: l))) b
    else if c.1 + (tsum (x :: l)).1 ≤ b.1 then b
    else sch L l c (if c.2.1 + x.2.1 ≤ L then sch L l (tadd c x) b else b)
theorem tge_rf (p : tri) : tge p p := Or.inr ⟨rfl, Or.inr ⟨rfl, Int.le_refl _⟩⟩
theorem tge_tr {p q r : tri} (h1 : tge p q) (h2 : tge q r) : tge p r := by omega
theorem tge_as {p q : tri} (h1 : tge p q) (h2 : tge q p) : p = q := by
  have e1 : p.1 = q.1 := by omega
  have e2 : p.2.1 = q.2.1 := by omega
  have e3 : p.2.2 = q.2.2 := by omega
  obtain ⟨p1, p2, p3⟩ := p
  obtain ⟨q1, q2, q3⟩ := q
  simp only at e1 e2 e3
  rw [e1, e2, e3]
theorem bet_ok (c b : tri) : tge (bet c b) b ∧ tge (bet c b) c ∧ (bet c b = b ∨ bet c b = c) := by
  unfold bet
  by_cases q : tgt c b
  · rw [if_pos q]
    exact ⟨by omega, tge_rf c, Or.inr rfl⟩
  · rw [if_neg q]
    exact ⟨tge_rf b, by omega, Or.inl rfl⟩
theorem tadd_as (p q r : tri) : tadd (tadd p q) r = tadd p (tadd q r) := by
  unfold tadd
  simp only [Int.add_assoc]
theorem tadd_0 (p : tri) : tadd p (0, 0, 0) = p := by
  unfold tadd
  simp only [Int.add_zero]
theorem sbs_mem {x : tri} {l : List tri} {t : tri} : t ∈ sbs (x :: l) ↔ (∃ t1 ∈ sbs l, t = tadd x t1) ∨ t ∈ sbs l := by
  rw [sbs, List.mem_append, List.mem_map]
  constructor
  · rintro (⟨y, h1, h2⟩ | h)
    · exact Or.inl ⟨y, h1, h2.symm⟩
    · exact Or.inr h
  · rintro (⟨y, h1, h2⟩ | h)
    · exact Or.inl ⟨y, h1, h2.symm⟩
    · exact Or.inr h
theorem sbs_0 : ∀ l : List tri, (0, 0, 0) ∈ sbs l
  | [] => List.mem_singleton.mpr rfl
  | _ :: l => sbs_mem.mpr (Or.inr (sbs_0 l))
theorem sbs_all : ∀ l : List tri, tsum l ∈ sbs l
  | [] => List.mem_singleton.mpr rfl
  | _ :: l => sbs_mem.mpr (Or.inl ⟨_, sbs_all l, rfl⟩)
/-- an item with worth above 0, sum not below -/
def tok (l : List tri) : Prop := ∀ x ∈ l, 0 < x.1 ∧ 0 ≤ x.2.1
theorem tok_t {x : tri} {l : List tri} (h : tok (x :: l)) : tok l := fun y hy => h y (List.mem_cons_of_mem _ hy)
theorem sbs_top : ∀ {l : List tri}, tok l → ∀ t ∈ sbs l, (t = tsum l ∨ t.1 < (tsum l).1) ∧ 0 ≤ t.2.1
  | [], _, t, ht => by
    rw [List.mem_singleton.mp ht]
    exact ⟨Or.inl rfl, Int.le_refl _⟩
  | x :: l, h, t, ht => by
    have hx := h x List.mem_cons_self
    rcases sbs_mem.mp ht with ⟨y, h1, rfl⟩ | h1
    · have ih := sbs_top (tok_t h) y h1
      refine ⟨?_, ?_⟩
      · rcases ih.1 with z | z
        · exact Or.inl (by rw [z]; rfl)
        · exact Or.inr (by show x.1 + y.1 < x.1 + (tsum l).1; omega)
      · show 0 ≤ x.2.1 + y.2.1
        omega
    · have ih := sbs_top (tok_t h) t h1
      refine ⟨Or.inr ?_, ih.2⟩
      show t.1 < x.1 + (tsum l).1
      rcases ih.1 with z | z
      · rw [z]; omega
      · omega
theorem sch_ok {L : Int} : ∀ (l : List tri) (c b : tri), tok l → tge (sch L l c b) b ∧ (∀ t ∈ sbs l, c.2.1 + t.2.1 ≤ L → tge (sch L l c b) (tadd c t)) ∧ (sch L l c b = b ∨ ∃ t ∈ sbs l, c.2.1 + t.2.1 ≤ L ∧ sch L l c b = tadd c t)
  | [], c, b, h => by
    have hb := bet_ok c b
    unfold sch
    by_cases q : c.2.1 ≤ L
    · rw [if_pos q]
      refine ⟨hb.1, fun t ht _ => ?_, ?_⟩
      · rw [List.mem_singleton.mp ht, tadd_0]
        exact hb.2.1
      · rcases hb.2.2 with z | z
        · exact Or.inl z
        · exact Or.inr ⟨(0, 0, 0), List.mem_singleton.mpr rfl, by show c.2.1 + 0 ≤ L; omega, by rw [tadd_0]; exact z⟩
    · rw [if_neg q]
      refine ⟨tge_rf b, fun t ht ht2 => ?_, Or.inl rfl⟩
      rw [List.mem_singleton.mp ht] at ht2
      exfalso
      have : c.2.1 + 0 ≤ L := ht2
      omega
  | x :: l, c, b, h => by
    unfold sch
    by_cases q1 : c.2.1 + (tsum (x :: l)).2.1 ≤ L
    · rw [if_pos q1]
      have hb := bet_ok (tadd c (tsum (x :: l))) b
      refine ⟨hb.1, fun t ht _ => ?_, ?_⟩
      · refine tge_tr hb.2.1 ?_
        rcases (sbs_top h t ht).1 with z | z
        · rw [z]
          exact tge_rf _
        · refine Or.inl ?_
          show c.1 + t.1 < c.1 + (tsum (x :: l)).1
          omega
      · rcases hb.2.2 with z | z
        · exact Or.inl z
        · exact Or.inr ⟨_, sbs_all _, q1, z⟩
    · rw [if_neg q1]
      by_cases q2 : c.1 + (tsum (x :: l)).1 ≤ b.1
      · rw [if_pos q2]
        refine ⟨tge_rf b, fun t ht ht2 => ?_, Or.inl rfl⟩
        rcases (sbs_top h t ht).1 with z | z
        · rw [z] at ht2
          exact absurd ht2 q1
        · refine Or.inl ?_
          show c.1 + t.1 < b.1
          omega
      · rw [if_neg q2]
        have h1 := sch_ok (L := L) l (tadd c x) b (tok_t h)
        have h2 := sch_ok (L := L) l c (if c.2.1 + x.2.1 ≤ L then sch L l (tadd c x) b else b) (tok_t h)
        generalize sch L l c (if c.2.1 + x.2.1 ≤ L then sch L l (tadd c x) b else b) = r at *
        have e1 : ∀ y : tri, (tadd c x).2.1 + y.2.1 = c.2.1 + (tadd x y).2.1 := fun y => by show c.2.1 + x.2.1 + y.2.1 = c.2.1 + (x.2.1 + y.2.1); omega
        by_cases q3 : c.2.1 + x.2.1 ≤ L
        · rw [if_pos q3] at h2
          refine ⟨tge_tr h2.1 h1.1, fun t ht ht2 => ?_, ?_⟩
          · rcases sbs_mem.mp ht with ⟨y, hy, rfl⟩ | hy
            · rw [← tadd_as]
              exact tge_tr h2.1 (h1.2.1 y hy (by rw [e1]; exact ht2))
            · exact h2.2.1 t hy ht2
          · rcases h2.2.2 with z | ⟨y, hy, hy2, z⟩
            · rcases h1.2.2 with w | ⟨y, hy, hy2, w⟩
              · exact Or.inl (z.trans w)
              · refine Or.inr ⟨tadd x y, sbs_mem.mpr (Or.inl ⟨y, hy, rfl⟩), by rw [← e1]; exact hy2, ?_⟩
                rw [z, w, tadd_as]
            · exact Or.inr ⟨y, sbs_mem.mpr (Or.inr hy), hy2, z⟩
        · rw [if_neg q3] at h2
          refine ⟨h2.1, fun t ht ht2 => ?_, ?_⟩
          · rcases sbs_mem.mp ht with ⟨y, hy, rfl⟩ | hy
            · exfalso
              have h3 := (sbs_top (tok_t h) y hy).2
              rw [← e1] at ht2
              have : (tadd c x).2.1 = c.2.1 + x.2.1 := rfl
              omega
            · exact h2.2.1 t hy ht2
          · rcases h2.2.2 with z | ⟨y, hy, hy2, z⟩
            · exact Or.inl z
            · exact Or.inr ⟨y, sbs_mem.mpr (Or.inr hy), hy2, z⟩
/-- what is no item only spoils -/
theorem sbs_dom {L : Int} {P : tri → Bool} : ∀ l : List tri, (∀ x ∈ l, 1 ≤ x.2.1) → (∀ x ∈ l, P x = false → x.1 ≤ 0 ∨ L < x.2.1) → ∀ t ∈ sbs l, (0 ≤ t.2.1) ∧ (t.2.1 ≤ L → ∃ t' ∈ sbs (l.filter P), t.1 ≤ t'.1 ∧ t'.2.1 ≤ t.2.1 ∧ (t' = t ∨ t'.2.1 < t.2.1))
  | [], _, _, t, ht => by
    rw [List.mem_singleton.mp ht]
    exact ⟨Int.le_refl _, fun _ => ⟨(0, 0, 0), List.mem_singleton.mpr rfl, Int.le_refl _, Int.le_refl _, Or.inl rfl⟩⟩
  | x :: l, h1, h2, t, ht => by
    have hx := h1 x List.mem_cons_self
    have ih := sbs_dom (L := L) (P := P) l (fun y hy => h1 y (List.mem_cons_of_mem _ hy)) (fun y hy => h2 y (List.mem_cons_of_mem _ hy))
    rw [List.filter_cons]
    rcases sbs_mem.mp ht with ⟨y, hy, rfl⟩ | hy
    · have iy := ih y hy
      have e2 : (tadd x y).2.1 = x.2.1 + y.2.1 := rfl
      have e1 : (tadd x y).1 = x.1 + y.1 := rfl
      refine ⟨by omega, fun z => ?_⟩
      obtain ⟨t', m1, m2, m3, m4⟩ := iy.2 (by omega)
      by_cases p : P x = true
      · rw [if_pos p]
        refine ⟨tadd x t', sbs_mem.mpr (Or.inl ⟨t', m1, rfl⟩), ?_, ?_, ?_⟩
        · show x.1 + y.1 ≤ x.1 + t'.1
          omega
        · show x.2.1 + t'.2.1 ≤ x.2.1 + y.2.1
          omega
        · rcases m4 with w | w
          · exact Or.inl (by rw [w])
          · refine Or.inr ?_
            show x.2.1 + t'.2.1 < x.2.1 + y.2.1
            omega
      · rw [if_neg p]
        have hp := h2 x List.mem_cons_self (by simpa using p)
        exact ⟨t', m1, by omega, by omega, Or.inr (by omega)⟩
    · have iy := ih t hy
      refine ⟨iy.1, fun z => ?_⟩
      obtain ⟨t', m1, m2⟩ := iy.2 z
      by_cases p : P x = true
      · rw [if_pos p]
        exact ⟨t', sbs_mem.mpr (Or.inr m1), m2⟩
      · rw [if_neg p]
        exact ⟨t', m1, m2⟩
theorem sbs_sub {P : tri → Bool} : ∀ l : List tri, ∀ t ∈ sbs (l.filter P), t ∈ sbs l
  | [], t, ht => ht
  | x :: l, t, ht => by
    rw [List.filter_cons] at ht
    by_cases p : P x = true
    · rw [if_pos p] at ht
      rcases sbs_mem.mp ht with ⟨y, hy, rfl⟩ | hy
      · exact sbs_mem.mpr (Or.inl ⟨y, sbs_sub l y hy, rfl⟩)
      · exact sbs_mem.mpr (Or.inr (sbs_sub l t hy))
    · rw [if_neg p] at ht
      exact sbs_mem.mpr (Or.inr (sbs_sub l t ht))
theorem sbs_app {x : tri} : ∀ (l : List tri) (t : tri), t ∈ sbs (l ++ [x]) ↔ (∃ t1 ∈ sbs l, t = tadd t1 x) ∨ t ∈ sbs l
  | [], t => by
    have e : tadd x (0, 0, 0) = tadd (0, 0, 0) x := by unfold tadd; simp only [Int.add_zero, Int.zero_add]
    rw [List.nil_append, sbs_mem]
    constructor
    · rintro (⟨y, hy, rfl⟩ | hy)
      · rw [List.mem_singleton.mp hy]
        exact Or.inl ⟨_, List.mem_singleton.mpr rfl, e⟩
      · exact Or.inr hy
    · rintro (⟨y, hy, rfl⟩ | hy)
      · rw [List.mem_singleton.mp hy]
        exact Or.inl ⟨_, List.mem_singleton.mpr rfl, e.symm⟩
      · exact Or.inr hy
  | y :: l, t => by
    rw [List.cons_append, sbs_mem, sbs_mem]
    constructor
    · rintro (⟨z, hz, rfl⟩ | hz)
      · rcases (sbs_app l z).mp hz with ⟨w, hw, rfl⟩ | hw
        · exact Or.inl ⟨tadd y w, sbs_mem.mpr (Or.inl ⟨w, hw, rfl⟩), (tadd_as _ _ _).symm⟩
        · exact Or.inr (Or.inl ⟨z, hw, rfl⟩)
      · rcases (sbs_app l t).mp hz with ⟨w, hw, rfl⟩ | hw
        · exact Or.inl ⟨w, sbs_mem.mpr (Or.inr hw), rfl⟩
        · exact Or.inr (Or.inr hw)
    · rintro (⟨z, hz, rfl⟩ | ⟨z, hz, rfl⟩ | hz)
      · rcases sbs_mem.mp hz with ⟨w, hw, rfl⟩ | hw
        · exact Or.inl ⟨tadd w x, (sbs_app l _).mpr (Or.inl ⟨w, hw, rfl⟩), tadd_as _ _ _⟩
        · exact Or.inr ((sbs_app l _).mpr (Or.inl ⟨z, hw, rfl⟩))
      · exact Or.inl ⟨z, (sbs_app l _).mpr (Or.inr hz), rfl⟩
      · exact Or.inr ((sbs_app l _).mpr (Or.inr hz))
/-- the best of all, told in two ways, is one -/
theorem best_one {L : Int} {P : tri → Bool} {l : List tri} {B R : tri} (h1 : ∀ x ∈ l, 1 ≤ x.2.1) (h2 : ∀ x ∈ l, P x = false → x.1 ≤ 0 ∨ L < x.2.1) (b1 : B = (0, 0, 0) ∨ (B ∈ sbs (l.filter P) ∧ B.2.1 ≤ L)) (b2 : tge B (0, 0, 0)) (b3 : ∀ t ∈ sbs (l.filter P), t.2.1 ≤ L → tge B t) (r1 : R = (0, 0, 0) ∨ (R ∈ sbs l ∧ R.2.1 ≤ L)) (r2 : tge R (0, 0, 0)) (r3 : ∀ t ∈ sbs l, t.2.1 ≤ L → tge R t) : B = R := by
  refine tge_as ?_ ?_
  · rcases r1 with z | ⟨z1, z2⟩
    · rw [z]
      exact b2
    · obtain ⟨t', m1, m2, m3, m4⟩ := (sbs_dom l h1 h2 R z1).2 z2
      have h3 := b3 t' m1 (by omega)
      rcases m4 with w | w
      · rw [w] at h3
        exact h3
      · omega
  · rcases b1 with z | ⟨z1, z2⟩
    · rw [z]
      exact r2
    · exact r3 B (sbs_sub l B z1) z2
