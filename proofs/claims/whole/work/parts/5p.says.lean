/-! ===== what a text says: the class ===== -/
def jn (c y x : Int) : Int := if c = -11 then bI (y ≠ 0 ∨ x ≠ 0) else if c = -12 then bI (y ≠ 0 ∧ x ≠ 0) else if c = -21 then bI (y < x) else if c = -22 then bI (y = x) else if c = -18 then wI (y + x) else if c = -19 then wI (y - x) else wI (y * x)
def evS (c : Int) (f : Int → Int) : List Int → List Int
  | [] => if 0 ≤ c then [c] else if -7 ≤ c then [f (-1 - c)] else []
  | [x] => if 0 ≤ c then [c, x] else if -7 ≤ c then [f (-1 - c), x] else if c = -13 then [bI (x = 0)] else if c = -25 then [wI (-x)] else []
  | x :: y :: st => if 0 ≤ c then c :: x :: y :: st else if -7 ≤ c then f (-1 - c) :: x :: y :: st else if c = -13 then bI (x = 0) :: y :: st else if c = -25 then wI (-x) :: y :: st else jn c y x :: st
def ev (g f : Int → Int) (s : Int) : Nat → List Int
  | 0 => []
  | n + 1 => evS (g (s + n)) f (ev g f s n)
def wf (g : Int → Int) (s : Int) (N : Nat) : Prop := ∀ k : Nat, k < N → codeOk (g (s + k)) ∧ (-7 ≤ g (s + k) ∨ ((g (s + k) = -13 ∨ g (s + k) = -25) ∧ 1 ≤ hgt g s k) ∨ 2 ≤ hgt g s k)
theorem evS_p {c : Int} {f : Int → Int} {st : List Int} (q : 0 ≤ c) : evS c f st = c :: st := by
  rcases st with _ | ⟨x, _ | ⟨y, st⟩⟩ <;> exact if_pos q
theorem evS_f {c : Int} {f : Int → Int} {st : List Int} (q : c < 0) (q2 : -7 ≤ c) : evS c f st = f (-1 - c) :: st := by
  rcases st with _ | ⟨x, _ | ⟨y, st⟩⟩ <;> exact (if_neg (by omega)).trans (if_pos q2)
theorem evS_n {f : Int → Int} {x : Int} {st : List Int} : evS (-13) f (x :: st) = bI (x = 0) :: st := by
  rcases st with _ | ⟨y, st⟩ <;> rfl
theorem evS_m {f : Int → Int} {x : Int} {st : List Int} : evS (-25) f (x :: st) = wI (-x) :: st := by
  rcases st with _ | ⟨y, st⟩ <;> rfl
theorem evS_j {c : Int} {f : Int → Int} {x y : Int} {st : List Int} (q : c < -7) (q1 : c ≠ -13) (q2 : c ≠ -25) : evS c f (x :: y :: st) = jn c y x :: st :=
  (if_neg (by omega)).trans ((if_neg (by omega)).trans ((if_neg q1).trans (if_neg q2)))
theorem jn_in {c y x : Int} : InI (jn c y x) := by
  unfold jn
  repeat' split
  all_goals first | exact bI_in _ | exact wI_in _
theorem ev_len {g f : Int → Int} {s : Int} {N : Nat} (H : wf g s N) : ∀ n : Nat, n ≤ N → ((ev g f s n).length : Int) = hgt g s n
  | 0, _ => rfl
  | n + 1, hn => by
    have ih := ev_len (f := f) H n (by omega)
    have hw := H n (by omega)
    rw [ev, hgt]
    generalize g (s + n) = c at *
    generalize ev g f s n = st at *
    by_cases c1 : -7 ≤ c
    · rw [if_pos c1]
      by_cases c2 : 0 ≤ c
      · rw [evS_p c2, List.length_cons]
        omega
      · rw [evS_f (by omega) c1, List.length_cons]
        omega
    · rw [if_neg c1]
      by_cases c2 : c = -13 ∨ c = -25
      · rw [if_pos c2]
        rcases st with _ | ⟨x, st⟩
        · exfalso
          have : (([] : List Int).length : Int) = 0 := rfl
          omega
        · rcases c2 with rfl | rfl
          · rw [evS_n, ← ih, List.length_cons, List.length_cons]
            omega
          · rw [evS_m, ← ih, List.length_cons, List.length_cons]
            omega
      · rw [if_neg c2]
        rcases st with _ | ⟨x, _ | ⟨y, st⟩⟩
        · exfalso
          have : (([] : List Int).length : Int) = 0 := rfl
          omega
        · exfalso
          have : (([x] : List Int).length : Int) = 1 := rfl
          omega
        · rw [evS_j (by omega) (by omega) (by omega), ← ih, List.length_cons, List.length_cons, List.length_cons]
          omega
theorem hgt_le {g : Int → Int} {s : Int} : ∀ n : Nat, hgt g s n ≤ n
  | 0 => Int.le_refl _
  | n + 1 => by
    have := hgt_le (g := g) (s := s) n
    rw [hgt]
    split
    · omega
    · split <;> omega
theorem ev_cg {g f f' : Int → Int} {s : Int} {N : Nat} (H : wf g s N) (hf : ∀ k, 0 ≤ k → k < 7 → f k = f' k) : ∀ n : Nat, n ≤ N → ev g f s n = ev g f' s n
  | 0, _ => rfl
  | n + 1, hn => by
    rw [ev, ev, ev_cg H hf n (by omega)]
    generalize g (s + n) = c
    generalize ev g f' s n = st
    by_cases c1 : 0 ≤ c
    · rw [evS_p c1, evS_p c1]
    · by_cases c2 : -7 ≤ c
      · rw [evS_f (by omega) c2, evS_f (by omega) c2, hf _ (by omega) (by omega)]
      · rcases st with _ | ⟨x, _ | ⟨y, st⟩⟩ <;> simp only [evS, if_neg c1, if_neg c2]
def stk (g : Int → Int) : List Int → Prop
  | [] => True
  | x :: l => g l.length = x ∧ stk g l
theorem stk_up {g g' : Int → Int} : ∀ l : List Int, stk g l → (∀ i : Int, 0 ≤ i → i < l.length → g' i = g i) → stk g' l
  | [], _, _ => trivial
  | x :: l, h, e => by
    have e1 := List.length_cons (a := x) (as := l)
    exact ⟨by rw [e _ (by omega) (by omega)]; exact h.1, stk_up l h.2 (fun i i0 i1 => e i i0 (by omega))⟩
abbrev Kt (h : mH) (t : Int) (g : mH) : Prop := ∀ x k : Int, ¬ (0 ≤ k ∧ (x = 70 + t ∨ (x = 40 + t ∧ k = 4))) → g x k = h x k
def tkI (h g : mH) (t : Int) (st : List Int) : Prop := St g ∧ Kt h t g ∧ g (40 + t) 4 = st.length ∧ stk (g (70 + t)) st ∧ ∀ x ∈ st, InI x
theorem stat_t {t a k : Int} (t0 : 0 ≤ t) (t1 : t < 6) (q : a = 70 + t ∧ 0 ≤ k ∨ (a = 40 + t ∧ k = 4)) : stK a k = false ∨ (stA a = true ∧ 0 ≤ k) := by
  rcases q with ⟨rfl, q⟩ | ⟨rfl, rfl⟩
  · right
    rcases (show t = 0 ∨ t = 1 ∨ t = 2 ∨ t = 3 ∨ t = 4 ∨ t = 5 by omega) with rfl | rfl | rfl | rfl | rfl | rfl <;> exact ⟨by decide +kernel, q⟩
  · left
    rcases (show t = 0 ∨ t = 1 ∨ t = 2 ∨ t = 3 ∨ t = 4 ∨ t = 5 by omega) with rfl | rfl | rfl | rfl | rfl | rfl <;> decide +kernel
theorem St.upt {h : mH} {t a k v : Int} (H : St h) (t0 : 0 ≤ t) (t1 : t < 6) (q : a = 70 + t ∧ 0 ≤ k ∨ (a = 40 + t ∧ k = 4)) : St (up2 h a k v) := by
  rcases stat_t t0 t1 q with z | z
  · exact H.up z
  · exact H.upA z.1 z.2
theorem Kt.up {h g : mH} {t a k v : Int} (K : Kt h t g) (q : a = 70 + t ∧ 0 ≤ k ∨ (a = 40 + t ∧ k = 4)) : Kt h t (up2 g a k v) := fun x y z => by
  rw [up2_ne (by omega)]
  exact K x y z
theorem tk_push {u : gT} {h g : mH} {d b : Nat} {t v : Int} {st : List Int} (t0 : 0 ≤ t) (t1 : t < 6) (I : tkI h g t st) (hl : st.length < 160) (hv : InI v) : Rlt (gX (gq u)) MX10_push d b [(2, 40 + t), (0, v)] g (fun r g1 => r = (9, 0) ∧ tkI h g1 t (v :: st)) := by
  obtain ⟨i1, i2, i3, i4, i5⟩ := I
  refine (s_X10_push (u := u) (d := d) (b := b) (v := v) i1 t0 t1 i3 (by omega) (by omega)).rlt.mono ?_
  rintro r g1 ⟨rfl, rfl⟩ -
  refine ⟨rfl, (i1.upt t0 t1 (by omega)).upt t0 t1 (by omega), (i2.up (by omega)).up (by omega), ?_, ⟨?_, ?_⟩, ?_⟩
  · rw [up2_eq, List.length_cons]
    omega
  · rw [up2_ne (by omega), up2_eq]
  · exact stk_up st i4 (fun i z0 z1 => by rw [up2_ne (by omega), up2_ne (by omega)])
  · intro x hx
    rcases List.mem_cons.mp hx with rfl | q
    · exact hv
    · exact i5 x q
theorem tk_pop {u : gT} {h g : mH} {d b : Nat} {t x : Int} {st : List Int} (t0 : 0 ≤ t) (t1 : t < 6) (I : tkI h g t (x :: st)) (hl : st.length < 160) : Rlt (gX (gq u)) MX10_pop d b [(2, 40 + t)] g (fun r g1 => r = (0, x) ∧ InI x ∧ tkI h g1 t st) := by
  obtain ⟨i1, i2, i3, i4, i5⟩ := I
  rw [List.length_cons] at i3
  refine (s_X10_pop (u := u) (d := d) (b := b) i1 t0 t1 i3 (by omega) (by omega)).rlt.mono ?_
  rintro r g1 ⟨rfl, rfl⟩ -
  refine ⟨?_, i5 x List.mem_cons_self, i1.upt t0 t1 (by omega), i2.up (by omega), ?_, ?_, fun y hy => i5 y (List.mem_cons_of_mem _ hy)⟩
  · congr 1
    rw [← i4.1]
    congr 1
    omega
  · rw [up2_eq]
    omega
  · exact stk_up st i4.2 (fun i z0 z1 => by rw [up2_ne (by omega)])
theorem s_X10_codeOf {u : gT} {h : mH} {d b : Nat} {x : Int} : Det (gX (gq u)) MX10_codeOf d b [(0, x)] h (0, -1 - x) h := by
  intro Q hQ
  show WP (gX (gq u)) MX10_codeOf d b Q 0 [(0, x)] [] h
  refine wp_iconst dX10_codeOf_0 ?_
  refine wp_iload_n rfl rfl dX10_codeOf_1 ?_
  refine wp_isub dX10_codeOf_2 ?_
  refine wp_iret dX10_codeOf_3 rfl ?_
  exact hQ
theorem s_X10_join {u : gT} {h : mH} {d b : Nat} {c y x : Int} (hc : (-12 ≤ c ∧ c ≤ -11) ∨ (-22 ≤ c ∧ c ≤ -18)) (i1 : InI y) (i2 : InI x) : Det (gX (gq u)) MX10_join d b [(0, -1 - c), (0, y), (0, x)] h (0, jn c y x) h := by
  intro Q hQ
  show WP (gX (gq u)) MX10_join d b Q 0 [(0, -1 - c), (0, y), (0, x)] [] h
  refine wp_iload_n rfl rfl dX10_join_0 ?_
  by_cases c1 : -1 - c < 10 ∨ 21 < -1 - c
  · refine wp_tabOut (tgt := 126) (by first | assumption | exact bI_in _ | exact ⟨by omega, by omega⟩ | exact iAnd_in | exact iOr_in | exact iShr_in | exact iShl_in | exact iXor_in | exact hxs _) dX10_join_1 c1 (by decide) ?_
    refine wp_iconst dX10_join_126 ?_
    refine wp_iret dX10_join_127 rfl ?_
    first
      | (refine Q_eq hQ ?_ rfl
         congr 1
         unfold jn
         repeat (first | rfl | rw [if_pos (by omega)] | rw [if_neg (by omega)])
         done)
      | (refine Q_eq hQ ?_ rfl
         congr 1
         unfold jn
         repeat (first | rw [if_pos (by omega)] | rw [if_neg (by omega)])
         first | exact (bI_t (by omega)).symm | exact (bI_f (by omega)).symm | exact bI_t (by omega) | exact bI_f (by omega))
      | (exfalso; omega)
  · rcases (show -1 - c = 10 ∨ -1 - c = 11 ∨ -1 - c = 12 ∨ -1 - c = 13 ∨ -1 - c = 14 ∨ -1 - c = 15 ∨ -1 - c = 16 ∨ -1 - c = 17 ∨ -1 - c = 18 ∨ -1 - c = 19 ∨ -1 - c = 20 ∨ -1 - c = 21 by omega) with c1x | c1x | c1x | c1x | c1x | c1x | c1x | c1x | c1x | c1x | c1x | c1x
    · refine wp_tabIn (off := 63) (tgt := 64) (by first | assumption | exact bI_in _ | exact ⟨by omega, by omega⟩ | exact iAnd_in | exact iOr_in | exact iShr_in | exact iShl_in | exact iXor_in | exact hxs _) dX10_join_1 (by omega) (by omega) (by rw [c1x]; rfl) (by decide) ?_
      refine wp_iload_n rfl rfl dX10_join_64 ?_
      refine wp_if_ne (tgt := 72) (by first | assumption | exact bI_in _ | exact ⟨by omega, by omega⟩ | exact iAnd_in | exact iOr_in | exact iShr_in | exact iShl_in | exact iXor_in | exact hxs _) dX10_join_65 (by decide) (fun c2 => ?_) (fun c2 => ?_)
      · refine wp_iconst dX10_join_72 ?_
        refine wp_goto (tgt := 77) dX10_join_73 (by decide) ?_
        refine wp_iret dX10_join_77 rfl ?_
        first
          | (refine Q_eq hQ ?_ rfl
             congr 1
             unfold jn
             repeat (first | rfl | rw [if_pos (by omega)] | rw [if_neg (by omega)])
             done)
          | (refine Q_eq hQ ?_ rfl
             congr 1
             unfold jn
             repeat (first | rw [if_pos (by omega)] | rw [if_neg (by omega)])
             first | exact (bI_t (by omega)).symm | exact (bI_f (by omega)).symm | exact bI_t (by omega) | exact bI_f (by omega))
          | (exfalso; omega)
      · refine wp_iload_n rfl rfl dX10_join_68 ?_
        refine wp_if_eq (tgt := 76) (by first | assumption | exact bI_in _ | exact ⟨by omega, by omega⟩ | exact iAnd_in | exact iOr_in | exact iShr_in | exact iShl_in | exact iXor_in | exact hxs _) dX10_join_69 (by decide) (fun c3 => ?_) (fun c3 => ?_)
        · refine wp_iconst dX10_join_76 ?_
          refine wp_iret dX10_join_77 rfl ?_
          first
            | (refine Q_eq hQ ?_ rfl
               congr 1
               unfold jn
               repeat (first | rfl | rw [if_pos (by omega)] | rw [if_neg (by omega)])
               done)
            | (refine Q_eq hQ ?_ rfl
               congr 1
               unfold jn
               repeat (first | rw [if_pos (by omega)] | rw [if_neg (by omega)])
               first | exact (bI_t (by omega)).symm | exact (bI_f (by omega)).symm | exact bI_t (by omega) | exact bI_f (by omega))
            | (exfalso; omega)
        · refine wp_iconst dX10_join_72 ?_
          refine wp_goto (tgt := 77) dX10_join_73 (by decide) ?_
          refine wp_iret dX10_join_77 rfl ?_
          first
            | (refine Q_eq hQ ?_ rfl
               congr 1
               unfold jn
               repeat (first | rfl | rw [if_pos (by omega)] | rw [if_neg (by omega)])
               done)
            | (refine Q_eq hQ ?_ rfl
               congr 1
               unfold jn
               repeat (first | rw [if_pos (by omega)] | rw [if_neg (by omega)])
               first | exact (bI_t (by omega)).symm | exact (bI_f (by omega)).symm | exact bI_t (by omega) | exact bI_f (by omega))
            | (exfalso; omega)
    · refine wp_tabIn (off := 77) (tgt := 78) (by first | assumption | exact bI_in _ | exact ⟨by omega, by omega⟩ | exact iAnd_in | exact iOr_in | exact iShr_in | exact iShl_in | exact iXor_in | exact hxs _) dX10_join_1 (by omega) (by omega) (by rw [c1x]; rfl) (by decide) ?_
      refine wp_iload_n rfl rfl dX10_join_78 ?_
      refine wp_if_eq (tgt := 90) (by first | assumption | exact bI_in _ | exact ⟨by omega, by omega⟩ | exact iAnd_in | exact iOr_in | exact iShr_in | exact iShl_in | exact iXor_in | exact hxs _) dX10_join_79 (by decide) (fun c4 => ?_) (fun c4 => ?_)
      · refine wp_iconst dX10_join_90 ?_
        refine wp_iret dX10_join_91 rfl ?_
        first
          | (refine Q_eq hQ ?_ rfl
             congr 1
             unfold jn
             repeat (first | rfl | rw [if_pos (by omega)] | rw [if_neg (by omega)])
             done)
          | (refine Q_eq hQ ?_ rfl
             congr 1
             unfold jn
             repeat (first | rw [if_pos (by omega)] | rw [if_neg (by omega)])
             first | exact (bI_t (by omega)).symm | exact (bI_f (by omega)).symm | exact bI_t (by omega) | exact bI_f (by omega))
          | (exfalso; omega)
      · refine wp_iload_n rfl rfl dX10_join_82 ?_
        refine wp_if_eq (tgt := 90) (by first | assumption | exact bI_in _ | exact ⟨by omega, by omega⟩ | exact iAnd_in | exact iOr_in | exact iShr_in | exact iShl_in | exact iXor_in | exact hxs _) dX10_join_83 (by decide) (fun c5 => ?_) (fun c5 => ?_)
        · refine wp_iconst dX10_join_90 ?_
          refine wp_iret dX10_join_91 rfl ?_
          first
            | (refine Q_eq hQ ?_ rfl
               congr 1
               unfold jn
               repeat (first | rfl | rw [if_pos (by omega)] | rw [if_neg (by omega)])
               done)
            | (refine Q_eq hQ ?_ rfl
               congr 1
               unfold jn
               repeat (first | rw [if_pos (by omega)] | rw [if_neg (by omega)])
               first | exact (bI_t (by omega)).symm | exact (bI_f (by omega)).symm | exact bI_t (by omega) | exact bI_f (by omega))
            | (exfalso; omega)
        · refine wp_iconst dX10_join_86 ?_
          refine wp_goto (tgt := 91) dX10_join_87 (by decide) ?_
          refine wp_iret dX10_join_91 rfl ?_
          first
            | (refine Q_eq hQ ?_ rfl
               congr 1
               unfold jn
               repeat (first | rfl | rw [if_pos (by omega)] | rw [if_neg (by omega)])
               done)
            | (refine Q_eq hQ ?_ rfl
               congr 1
               unfold jn
               repeat (first | rw [if_pos (by omega)] | rw [if_neg (by omega)])
               first | exact (bI_t (by omega)).symm | exact (bI_f (by omega)).symm | exact bI_t (by omega) | exact bI_f (by omega))
            | (exfalso; omega)
    · refine wp_tabIn (off := 125) (tgt := 126) (by first | assumption | exact bI_in _ | exact ⟨by omega, by omega⟩ | exact iAnd_in | exact iOr_in | exact iShr_in | exact iShl_in | exact iXor_in | exact hxs _) dX10_join_1 (by omega) (by omega) (by rw [c1x]; rfl) (by decide) ?_
      refine wp_iconst dX10_join_126 ?_
      refine wp_iret dX10_join_127 rfl ?_
      first
        | (refine Q_eq hQ ?_ rfl
           congr 1
           unfold jn
           repeat (first | rfl | rw [if_pos (by omega)] | rw [if_neg (by omega)])
           done)
        | (refine Q_eq hQ ?_ rfl
           congr 1
           unfold jn
           repeat (first | rw [if_pos (by omega)] | rw [if_neg (by omega)])
           first | exact (bI_t (by omega)).symm | exact (bI_f (by omega)).symm | exact bI_t (by omega) | exact bI_f (by omega))
        | (exfalso; omega)
    · refine wp_tabIn (off := 125) (tgt := 126) (by first | assumption | exact bI_in _ | exact ⟨by omega, by omega⟩ | exact iAnd_in | exact iOr_in | exact iShr_in | exact iShl_in | exact iXor_in | exact hxs _) dX10_join_1 (by omega) (by omega) (by rw [c1x]; rfl) (by decide) ?_
      refine wp_iconst dX10_join_126 ?_
      refine wp_iret dX10_join_127 rfl ?_
      first
        | (refine Q_eq hQ ?_ rfl
           congr 1
           unfold jn
           repeat (first | rfl | rw [if_pos (by omega)] | rw [if_neg (by omega)])
           done)
        | (refine Q_eq hQ ?_ rfl
           congr 1
           unfold jn
           repeat (first | rw [if_pos (by omega)] | rw [if_neg (by omega)])
           first | exact (bI_t (by omega)).symm | exact (bI_f (by omega)).symm | exact bI_t (by omega) | exact bI_f (by omega))
        | (exfalso; omega)
    · refine wp_tabIn (off := 125) (tgt := 126) (by first | assumption | exact bI_in _ | exact ⟨by omega, by omega⟩ | exact iAnd_in | exact iOr_in | exact iShr_in | exact iShl_in | exact iXor_in | exact hxs _) dX10_join_1 (by omega) (by omega) (by rw [c1x]; rfl) (by decide) ?_
      refine wp_iconst dX10_join_126 ?_
      refine wp_iret dX10_join_127 rfl ?_
      first
        | (refine Q_eq hQ ?_ rfl
           congr 1
           unfold jn
           repeat (first | rfl | rw [if_pos (by omega)] | rw [if_neg (by omega)])
           done)
        | (refine Q_eq hQ ?_ rfl
           congr 1
           unfold jn
           repeat (first | rw [if_pos (by omega)] | rw [if_neg (by omega)])
           first | exact (bI_t (by omega)).symm | exact (bI_f (by omega)).symm | exact bI_t (by omega) | exact bI_f (by omega))
        | (exfalso; omega)
    · refine wp_tabIn (off := 125) (tgt := 126) (by first | assumption | exact bI_in _ | exact ⟨by omega, by omega⟩ | exact iAnd_in | exact iOr_in | exact iShr_in | exact iShl_in | exact iXor_in | exact hxs _) dX10_join_1 (by omega) (by omega) (by rw [c1x]; rfl) (by decide) ?_
      refine wp_iconst dX10_join_126 ?_
      refine wp_iret dX10_join_127 rfl ?_
      first
        | (refine Q_eq hQ ?_ rfl
           congr 1
           unfold jn
           repeat (first | rfl | rw [if_pos (by omega)] | rw [if_neg (by omega)])
           done)
        | (refine Q_eq hQ ?_ rfl
           congr 1
           unfold jn
           repeat (first | rw [if_pos (by omega)] | rw [if_neg (by omega)])
           first | exact (bI_t (by omega)).symm | exact (bI_f (by omega)).symm | exact bI_t (by omega) | exact bI_f (by omega))
        | (exfalso; omega)
    · refine wp_tabIn (off := 125) (tgt := 126) (by first | assumption | exact bI_in _ | exact ⟨by omega, by omega⟩ | exact iAnd_in | exact iOr_in | exact iShr_in | exact iShl_in | exact iXor_in | exact hxs _) dX10_join_1 (by omega) (by omega) (by rw [c1x]; rfl) (by decide) ?_
      refine wp_iconst dX10_join_126 ?_
      refine wp_iret dX10_join_127 rfl ?_
      first
        | (refine Q_eq hQ ?_ rfl
           congr 1
           unfold jn
           repeat (first | rfl | rw [if_pos (by omega)] | rw [if_neg (by omega)])
           done)
        | (refine Q_eq hQ ?_ rfl
           congr 1
           unfold jn
           repeat (first | rw [if_pos (by omega)] | rw [if_neg (by omega)])
           first | exact (bI_t (by omega)).symm | exact (bI_f (by omega)).symm | exact bI_t (by omega) | exact bI_f (by omega))
        | (exfalso; omega)
    · refine wp_tabIn (off := 113) (tgt := 114) (by first | assumption | exact bI_in _ | exact ⟨by omega, by omega⟩ | exact iAnd_in | exact iOr_in | exact iShr_in | exact iShl_in | exact iXor_in | exact hxs _) dX10_join_1 (by omega) (by omega) (by rw [c1x]; rfl) (by decide) ?_
      refine wp_iload_n rfl rfl dX10_join_114 ?_
      refine wp_iload_n rfl rfl dX10_join_115 ?_
      refine wp_iadd dX10_join_116 ?_
      refine wp_wI ?_
      refine wp_iret dX10_join_117 rfl ?_
      first
        | (refine Q_eq hQ ?_ rfl
           congr 1
           unfold jn
           repeat (first | rfl | rw [if_pos (by omega)] | rw [if_neg (by omega)])
           done)
        | (refine Q_eq hQ ?_ rfl
           congr 1
           unfold jn
           repeat (first | rw [if_pos (by omega)] | rw [if_neg (by omega)])
           first | exact (bI_t (by omega)).symm | exact (bI_f (by omega)).symm | exact bI_t (by omega) | exact bI_f (by omega))
        | (exfalso; omega)
    · refine wp_tabIn (off := 117) (tgt := 118) (by first | assumption | exact bI_in _ | exact ⟨by omega, by omega⟩ | exact iAnd_in | exact iOr_in | exact iShr_in | exact iShl_in | exact iXor_in | exact hxs _) dX10_join_1 (by omega) (by omega) (by rw [c1x]; rfl) (by decide) ?_
      refine wp_iload_n rfl rfl dX10_join_118 ?_
      refine wp_iload_n rfl rfl dX10_join_119 ?_
      refine wp_isub dX10_join_120 ?_
      refine wp_wI ?_
      refine wp_iret dX10_join_121 rfl ?_
      first
        | (refine Q_eq hQ ?_ rfl
           congr 1
           unfold jn
           repeat (first | rfl | rw [if_pos (by omega)] | rw [if_neg (by omega)])
           done)
        | (refine Q_eq hQ ?_ rfl
           congr 1
           unfold jn
           repeat (first | rw [if_pos (by omega)] | rw [if_neg (by omega)])
           first | exact (bI_t (by omega)).symm | exact (bI_f (by omega)).symm | exact bI_t (by omega) | exact bI_f (by omega))
        | (exfalso; omega)
    · refine wp_tabIn (off := 121) (tgt := 122) (by first | assumption | exact bI_in _ | exact ⟨by omega, by omega⟩ | exact iAnd_in | exact iOr_in | exact iShr_in | exact iShl_in | exact iXor_in | exact hxs _) dX10_join_1 (by omega) (by omega) (by rw [c1x]; rfl) (by decide) ?_
      refine wp_iload_n rfl rfl dX10_join_122 ?_
      refine wp_iload_n rfl rfl dX10_join_123 ?_
      refine wp_imul dX10_join_124 ?_
      refine wp_wI ?_
      refine wp_iret dX10_join_125 rfl ?_
      first
        | (refine Q_eq hQ ?_ rfl
           congr 1
           unfold jn
           repeat (first | rfl | rw [if_pos (by omega)] | rw [if_neg (by omega)])
           done)
        | (refine Q_eq hQ ?_ rfl
           congr 1
           unfold jn
           repeat (first | rw [if_pos (by omega)] | rw [if_neg (by omega)])
           first | exact (bI_t (by omega)).symm | exact (bI_f (by omega)).symm | exact bI_t (by omega) | exact bI_f (by omega))
        | (exfalso; omega)
    · refine wp_tabIn (off := 91) (tgt := 92) (by first | assumption | exact bI_in _ | exact ⟨by omega, by omega⟩ | exact iAnd_in | exact iOr_in | exact iShr_in | exact iShl_in | exact iXor_in | exact hxs _) dX10_join_1 (by omega) (by omega) (by rw [c1x]; rfl) (by decide) ?_
      refine wp_iload_n rfl rfl dX10_join_92 ?_
      refine wp_iload_n rfl rfl dX10_join_93 ?_
      refine wp_icmp_ge (tgt := 101) (by first | assumption | exact bI_in _ | exact ⟨by omega, by omega⟩ | exact iAnd_in | exact iOr_in | exact iShr_in | exact iShl_in | exact iXor_in | exact hxs _) (by first | assumption | exact bI_in _ | exact ⟨by omega, by omega⟩ | exact iAnd_in | exact iOr_in | exact iShr_in | exact iShl_in | exact iXor_in | exact hxs _) dX10_join_94 (by decide) (fun c6 => ?_) (fun c6 => ?_)
      · refine wp_iconst dX10_join_101 ?_
        refine wp_iret dX10_join_102 rfl ?_
        first
          | (refine Q_eq hQ ?_ rfl
             congr 1
             unfold jn
             repeat (first | rfl | rw [if_pos (by omega)] | rw [if_neg (by omega)])
             done)
          | (refine Q_eq hQ ?_ rfl
             congr 1
             unfold jn
             repeat (first | rw [if_pos (by omega)] | rw [if_neg (by omega)])
             first | exact (bI_t (by omega)).symm | exact (bI_f (by omega)).symm | exact bI_t (by omega) | exact bI_f (by omega))
          | (exfalso; omega)
      · refine wp_iconst dX10_join_97 ?_
        refine wp_goto (tgt := 102) dX10_join_98 (by decide) ?_
        refine wp_iret dX10_join_102 rfl ?_
        first
          | (refine Q_eq hQ ?_ rfl
             congr 1
             unfold jn
             repeat (first | rfl | rw [if_pos (by omega)] | rw [if_neg (by omega)])
             done)
          | (refine Q_eq hQ ?_ rfl
             congr 1
             unfold jn
             repeat (first | rw [if_pos (by omega)] | rw [if_neg (by omega)])
             first | exact (bI_t (by omega)).symm | exact (bI_f (by omega)).symm | exact bI_t (by omega) | exact bI_f (by omega))
          | (exfalso; omega)
    · refine wp_tabIn (off := 102) (tgt := 103) (by first | assumption | exact bI_in _ | exact ⟨by omega, by omega⟩ | exact iAnd_in | exact iOr_in | exact iShr_in | exact iShl_in | exact iXor_in | exact hxs _) dX10_join_1 (by omega) (by omega) (by rw [c1x]; rfl) (by decide) ?_
      refine wp_iload_n rfl rfl dX10_join_103 ?_
      refine wp_iload_n rfl rfl dX10_join_104 ?_
      refine wp_icmp_ne (tgt := 112) (by first | assumption | exact bI_in _ | exact ⟨by omega, by omega⟩ | exact iAnd_in | exact iOr_in | exact iShr_in | exact iShl_in | exact iXor_in | exact hxs _) (by first | assumption | exact bI_in _ | exact ⟨by omega, by omega⟩ | exact iAnd_in | exact iOr_in | exact iShr_in | exact iShl_in | exact iXor_in | exact hxs _) dX10_join_105 (by decide) (fun c7 => ?_) (fun c7 => ?_)
      · refine wp_iconst dX10_join_112 ?_
        refine wp_iret dX10_join_113 rfl ?_
        first
          | (refine Q_eq hQ ?_ rfl
             congr 1
             unfold jn
             repeat (first | rfl | rw [if_pos (by omega)] | rw [if_neg (by omega)])
             done)
          | (refine Q_eq hQ ?_ rfl
             congr 1
             unfold jn
             repeat (first | rw [if_pos (by omega)] | rw [if_neg (by omega)])
             first | exact (bI_t (by omega)).symm | exact (bI_f (by omega)).symm | exact bI_t (by omega) | exact bI_f (by omega))
          | (exfalso; omega)
      · refine wp_iconst dX10_join_108 ?_
        refine wp_goto (tgt := 113) dX10_join_109 (by decide) ?_
        refine wp_iret dX10_join_113 rfl ?_
        first
          | (refine Q_eq hQ ?_ rfl
             congr 1
             unfold jn
             repeat (first | rfl | rw [if_pos (by omega)] | rw [if_neg (by omega)])
             done)
          | (refine Q_eq hQ ?_ rfl
             congr 1
             unfold jn
             repeat (first | rw [if_pos (by omega)] | rw [if_neg (by omega)])
             first | exact (bI_t (by omega)).symm | exact (bI_f (by omega)).symm | exact bI_t (by omega) | exact bI_f (by omega))
          | (exfalso; omega)
theorem take_f {u : gT} {h g : mH} {d b : Nat} {t c : Int} (t0 : 0 ≤ t) (t1 : t < 6) {st : List Int} (c0 : -7 ≤ c) (c1 : c < 0) (I : tkI h g t st) (hl : st.length < 160) (hf : InI (h 9 (-1 - c))) : Rlt (gX (gq u)) MX10_take (d + 1) b [(2, 40 + t), (0, -1 - c), (2, 9)] g (fun r g1 => r = (9, 0) ∧ tkI h g1 t (h 9 (-1 - c) :: st)) := by
  refine Rlt.of ?_
  have e9 : g 9 (-1 - c) = h 9 (-1 - c) := I.2.1 9 _ (by omega)
  rw [← e9] at hf ⊢
  show WP (gX (gq u)) MX10_take (d + 1) b _ 0 [(2, 40 + t), (0, -1 - c), (2, 9), (9, 0), (9, 0)] [] g
  refine wp_iload_n rfl rfl dX10_take_0 ?_
  refine wp_iconst dX10_take_1 ?_
  refine wp_aload_n rfl rfl dX10_take_2 ?_
  refine wp_alen1 dX10_take_3 (by first | omega | (simp (disch := omega) only [up2_ne, up2_eq, txb I.1, st_9_m2 I.1, st_9_m1 I.1]; first | done | omega)) (by first | omega | (simp (disch := omega) only [up2_ne, up2_eq, txb I.1, st_9_m2 I.1, st_9_m1 I.1]; first | done | omega)) ?_
  try simp (disch := omega) only [up2_ne, up2_eq, txb I.1, st_9_m2 I.1, st_9_m1 I.1]
  refine wp_iconst dX10_take_4 ?_
  refine wp_isub dX10_take_5 ?_
  refine wp_cSN3 okX11_isWithin wX10_25 dX10_take_6 rfl (Nat.le_of_ble_eq_true rfl) (Nat.le_of_ble_eq_true rfl) (s_X11_isWithin (by first | assumption | exact ⟨by omega, by omega⟩) In0 (by exact ⟨by decide, by decide⟩)) (Nat.zero_le _) ?_
  try simp (disch := omega) only [up2_ne, up2_eq, txb I.1, st_9_m2 I.1, st_9_m1 I.1]
  refine wp_ifB_eq (tgt := 22) dX10_take_9 (by decide) (fun c1 => by exfalso; omega) (fun c1 => ?_)
  refine wp_aload_n rfl rfl dX10_take_12 ?_
  refine wp_aload_n rfl rfl dX10_take_13 ?_
  refine wp_iload_n rfl rfl dX10_take_14 ?_
  refine wp_iaload1 dX10_take_15 (by first | omega | (simp (disch := omega) only [up2_ne, up2_eq, txb I.1, st_9_m2 I.1, st_9_m1 I.1]; first | done | omega)) (by first | assumption | (simp (disch := omega) only [up2_ne, up2_eq, txb I.1, st_9_m2 I.1, st_9_m1 I.1]; first | done | rfl | omega)) (by first | omega | (simp (disch := omega) only [up2_ne, up2_eq, txb I.1, st_9_m2 I.1, st_9_m1 I.1]; first | done | omega)) (by first | omega | (simp (disch := omega) only [up2_ne, up2_eq, txb I.1, st_9_m2 I.1, st_9_m1 I.1]; first | done | omega)) ?_
  try simp (disch := omega) only [up2_ne, up2_eq, txb I.1, st_9_m2 I.1, st_9_m1 I.1]
  refine wp_cV1r (ci := 10) okX10_push rfl rfl wX10_32 dX10_take_16 (Nat.le_of_ble_eq_true rfl) (Nat.le_of_ble_eq_true rfl) (by first | omega | (simp (disch := omega) only [up2_ne, up2_eq, txb I.1, st_9_m2 I.1, st_9_m1 I.1]; first | done | omega)) (by first | assumption | (simp (disch := omega) only [up2_ne, up2_eq, txb I.1, st_9_m2 I.1, st_9_m1 I.1]; first | done | rfl | omega)) (tk_push t0 t1 I (by omega) (by first | assumption | exact bI_in _ | exact wI_in _ | exact jn_in | exact ⟨by decide, by decide⟩)) (Nat.zero_le _) ?_
  rintro r gz ⟨rfl, Jz⟩ -
  show WP _ _ _ _ _ _ _ [] _
  refine wp_goto (tgt := 87) dX10_take_19 (by decide) ?_
  refine wp_vret dX10_take_87 rfl ?_
  exact ⟨rfl, Jz⟩
theorem take_n {u : gT} {h g : mH} {d b : Nat} {t c : Int} (t0 : 0 ≤ t) (t1 : t < 6) {x : Int} {st : List Int} (hc : c = -13) (I : tkI h g t (x :: st)) (hl : st.length < 159) : Rlt (gX (gq u)) MX10_take (d + 1) b [(2, 40 + t), (0, -1 - c), (2, 9)] g (fun r g1 => r = (9, 0) ∧ tkI h g1 t (bI (x = 0) :: st)) := by
  refine Rlt.of ?_
  show WP (gX (gq u)) MX10_take (d + 1) b _ 0 [(2, 40 + t), (0, -1 - c), (2, 9), (9, 0), (9, 0)] [] g
  refine wp_iload_n rfl rfl dX10_take_0 ?_
  refine wp_iconst dX10_take_1 ?_
  refine wp_aload_n rfl rfl dX10_take_2 ?_
  refine wp_alen1 dX10_take_3 (by first | omega | (simp (disch := omega) only [up2_ne, up2_eq, txb I.1, st_9_m2 I.1, st_9_m1 I.1]; first | done | omega)) (by first | omega | (simp (disch := omega) only [up2_ne, up2_eq, txb I.1, st_9_m2 I.1, st_9_m1 I.1]; first | done | omega)) ?_
  try simp (disch := omega) only [up2_ne, up2_eq, txb I.1, st_9_m2 I.1, st_9_m1 I.1]
  refine wp_iconst dX10_take_4 ?_
  refine wp_isub dX10_take_5 ?_
  refine wp_cSN3 okX11_isWithin wX10_25 dX10_take_6 rfl (Nat.le_of_ble_eq_true rfl) (Nat.le_of_ble_eq_true rfl) (s_X11_isWithin (by first | assumption | exact ⟨by omega, by omega⟩) In0 (by exact ⟨by decide, by decide⟩)) (Nat.zero_le _) ?_
  try simp (disch := omega) only [up2_ne, up2_eq, txb I.1, st_9_m2 I.1, st_9_m1 I.1]
  refine wp_ifB_eq (tgt := 22) dX10_take_9 (by decide) (fun c1 => ?_) (fun c1 => by exfalso; omega)
  refine wp_iload_n rfl rfl dX10_take_22 ?_
  refine wp_bipush (by decide) dX10_take_23 ?_
  refine wp_icmp_ne (tgt := 47) (by first | assumption | exact bI_in _ | exact ⟨by omega, by omega⟩ | exact iAnd_in | exact iOr_in | exact iShr_in | exact iShl_in | exact iXor_in | exact hxs _) (by first | assumption | exact bI_in _ | exact ⟨by omega, by omega⟩ | exact iAnd_in | exact iOr_in | exact iShr_in | exact iShl_in | exact iXor_in | exact hxs _) dX10_take_25 (by decide) (fun c2 => by exfalso; omega) (fun c2 => ?_)
  refine wp_aload_n rfl rfl dX10_take_28 ?_
  refine wp_aload_n rfl rfl dX10_take_29 ?_
  refine wp_cV0r (ci := 10) okX10_pop rfl rfl wX10_44 dX10_take_30 (Nat.le_of_ble_eq_true rfl) (Nat.le_of_ble_eq_true rfl) (by first | omega | (simp (disch := omega) only [up2_ne, up2_eq, txb I.1, st_9_m2 I.1, st_9_m1 I.1]; first | done | omega)) (by first | assumption | (simp (disch := omega) only [up2_ne, up2_eq, txb I.1, st_9_m2 I.1, st_9_m1 I.1]; first | done | rfl | omega)) (tk_pop t0 t1 I (by first | omega | (rw [List.length_cons]; omega))) (Nat.zero_le _) ?_
  rintro r g1 ⟨rfl, x1, J1⟩ -
  show WP _ _ _ _ _ _ _ ((0, _) :: _) _
  refine wp_if_ne (tgt := 40) (by first | assumption | exact bI_in _ | exact ⟨by omega, by omega⟩ | exact iAnd_in | exact iOr_in | exact iShr_in | exact iShl_in | exact iXor_in | exact hxs _) dX10_take_33 (by decide) (fun c3 => ?_) (fun c3 => ?_)
  · refine wp_iconst dX10_take_40 ?_
    refine wp_cV1r (ci := 10) okX10_push rfl rfl wX10_32 dX10_take_41 (Nat.le_of_ble_eq_true rfl) (Nat.le_of_ble_eq_true rfl) (by first | omega | (simp (disch := omega) only [up2_ne, up2_eq, txb J1.1, txb I.1, st_9_m2 I.1, st_9_m1 I.1]; first | done | omega)) (by first | assumption | (simp (disch := omega) only [up2_ne, up2_eq, txb J1.1, txb I.1, st_9_m2 I.1, st_9_m1 I.1]; first | done | rfl | omega)) (tk_push t0 t1 J1 (by omega) (by first | assumption | exact bI_in _ | exact wI_in _ | exact jn_in | exact ⟨by decide, by decide⟩)) (Nat.zero_le _) ?_
    rintro r gz ⟨rfl, Jz⟩ -
    show WP _ _ _ _ _ _ _ [] _
    refine wp_goto (tgt := 87) dX10_take_44 (by decide) ?_
    refine wp_vret dX10_take_87 rfl ?_
    first
      | exact ⟨rfl, by rw [bI_t (by assumption)]; exact Jz⟩
      | exact ⟨rfl, by rw [bI_f (by assumption)]; exact Jz⟩
  · refine wp_iconst dX10_take_36 ?_
    refine wp_goto (tgt := 41) dX10_take_37 (by decide) ?_
    refine wp_cV1r (ci := 10) okX10_push rfl rfl wX10_32 dX10_take_41 (Nat.le_of_ble_eq_true rfl) (Nat.le_of_ble_eq_true rfl) (by first | omega | (simp (disch := omega) only [up2_ne, up2_eq, txb J1.1, txb I.1, st_9_m2 I.1, st_9_m1 I.1]; first | done | omega)) (by first | assumption | (simp (disch := omega) only [up2_ne, up2_eq, txb J1.1, txb I.1, st_9_m2 I.1, st_9_m1 I.1]; first | done | rfl | omega)) (tk_push t0 t1 J1 (by omega) (by first | assumption | exact bI_in _ | exact wI_in _ | exact jn_in | exact ⟨by decide, by decide⟩)) (Nat.zero_le _) ?_
    rintro r gz ⟨rfl, Jz⟩ -
    show WP _ _ _ _ _ _ _ [] _
    refine wp_goto (tgt := 87) dX10_take_44 (by decide) ?_
    refine wp_vret dX10_take_87 rfl ?_
    first
      | exact ⟨rfl, by rw [bI_t (by assumption)]; exact Jz⟩
      | exact ⟨rfl, by rw [bI_f (by assumption)]; exact Jz⟩
theorem take_m {u : gT} {h g : mH} {d b : Nat} {t c : Int} (t0 : 0 ≤ t) (t1 : t < 6) {x : Int} {st : List Int} (hc : c = -25) (I : tkI h g t (x :: st)) (hl : st.length < 159) : Rlt (gX (gq u)) MX10_take (d + 1) b [(2, 40 + t), (0, -1 - c), (2, 9)] g (fun r g1 => r = (9, 0) ∧ tkI h g1 t (wI (-x) :: st)) := by
  refine Rlt.of ?_
  show WP (gX (gq u)) MX10_take (d + 1) b _ 0 [(2, 40 + t), (0, -1 - c), (2, 9), (9, 0), (9, 0)] [] g
  refine wp_iload_n rfl rfl dX10_take_0 ?_
  refine wp_iconst dX10_take_1 ?_
  refine wp_aload_n rfl rfl dX10_take_2 ?_
  refine wp_alen1 dX10_take_3 (by first | omega | (simp (disch := omega) only [up2_ne, up2_eq, txb I.1, st_9_m2 I.1, st_9_m1 I.1]; first | done | omega)) (by first | omega | (simp (disch := omega) only [up2_ne, up2_eq, txb I.1, st_9_m2 I.1, st_9_m1 I.1]; first | done | omega)) ?_
  try simp (disch := omega) only [up2_ne, up2_eq, txb I.1, st_9_m2 I.1, st_9_m1 I.1]
  refine wp_iconst dX10_take_4 ?_
  refine wp_isub dX10_take_5 ?_
  refine wp_cSN3 okX11_isWithin wX10_25 dX10_take_6 rfl (Nat.le_of_ble_eq_true rfl) (Nat.le_of_ble_eq_true rfl) (s_X11_isWithin (by first | assumption | exact ⟨by omega, by omega⟩) In0 (by exact ⟨by decide, by decide⟩)) (Nat.zero_le _) ?_
  try simp (disch := omega) only [up2_ne, up2_eq, txb I.1, st_9_m2 I.1, st_9_m1 I.1]
  refine wp_ifB_eq (tgt := 22) dX10_take_9 (by decide) (fun c1 => ?_) (fun c1 => by exfalso; omega)
  refine wp_iload_n rfl rfl dX10_take_22 ?_
  refine wp_bipush (by decide) dX10_take_23 ?_
  refine wp_icmp_ne (tgt := 47) (by first | assumption | exact bI_in _ | exact ⟨by omega, by omega⟩ | exact iAnd_in | exact iOr_in | exact iShr_in | exact iShl_in | exact iXor_in | exact hxs _) (by first | assumption | exact bI_in _ | exact ⟨by omega, by omega⟩ | exact iAnd_in | exact iOr_in | exact iShr_in | exact iShl_in | exact iXor_in | exact hxs _) dX10_take_25 (by decide) (fun c2 => ?_) (fun c2 => by exfalso; omega)
  refine wp_iload_n rfl rfl dX10_take_47 ?_
  refine wp_bipush (by decide) dX10_take_48 ?_
  refine wp_icmp_ne (tgt := 65) (by first | assumption | exact bI_in _ | exact ⟨by omega, by omega⟩ | exact iAnd_in | exact iOr_in | exact iShr_in | exact iShl_in | exact iXor_in | exact hxs _) (by first | assumption | exact bI_in _ | exact ⟨by omega, by omega⟩ | exact iAnd_in | exact iOr_in | exact iShr_in | exact iShl_in | exact iXor_in | exact hxs _) dX10_take_50 (by decide) (fun c3 => by exfalso; omega) (fun c3 => ?_)
  refine wp_aload_n rfl rfl dX10_take_53 ?_
  refine wp_aload_n rfl rfl dX10_take_54 ?_
  refine wp_cV0r (ci := 10) okX10_pop rfl rfl wX10_44 dX10_take_55 (Nat.le_of_ble_eq_true rfl) (Nat.le_of_ble_eq_true rfl) (by first | omega | (simp (disch := omega) only [up2_ne, up2_eq, txb I.1, st_9_m2 I.1, st_9_m1 I.1]; first | done | omega)) (by first | assumption | (simp (disch := omega) only [up2_ne, up2_eq, txb I.1, st_9_m2 I.1, st_9_m1 I.1]; first | done | rfl | omega)) (tk_pop t0 t1 I (by first | omega | (rw [List.length_cons]; omega))) (Nat.zero_le _) ?_
  rintro r g1 ⟨rfl, x1, J1⟩ -
  show WP _ _ _ _ _ _ _ ((0, _) :: _) _
  refine wp_ineg dX10_take_58 ?_
  refine wp_wI ?_
  refine wp_cV1r (ci := 10) okX10_push rfl rfl wX10_32 dX10_take_59 (Nat.le_of_ble_eq_true rfl) (Nat.le_of_ble_eq_true rfl) (by first | omega | (simp (disch := omega) only [up2_ne, up2_eq, txb J1.1, txb I.1, st_9_m2 I.1, st_9_m1 I.1]; first | done | omega)) (by first | assumption | (simp (disch := omega) only [up2_ne, up2_eq, txb J1.1, txb I.1, st_9_m2 I.1, st_9_m1 I.1]; first | done | rfl | omega)) (tk_push t0 t1 J1 (by omega) (by first | assumption | exact bI_in _ | exact wI_in _ | exact jn_in | exact ⟨by decide, by decide⟩)) (Nat.zero_le _) ?_
  rintro r gz ⟨rfl, Jz⟩ -
  show WP _ _ _ _ _ _ _ [] _
  refine wp_goto (tgt := 87) dX10_take_62 (by decide) ?_
  refine wp_vret dX10_take_87 rfl ?_
  exact ⟨rfl, Jz⟩
theorem take_j {u : gT} {h g : mH} {d b : Nat} {t c : Int} (t0 : 0 ≤ t) (t1 : t < 6) {x y : Int} {st : List Int} (hc : (-12 ≤ c ∧ c ≤ -11) ∨ (-22 ≤ c ∧ c ≤ -18)) (I : tkI h g t (x :: y :: st)) (hl : st.length < 158) : Rlt (gX (gq u)) MX10_take (d + 1) b [(2, 40 + t), (0, -1 - c), (2, 9)] g (fun r g1 => r = (9, 0) ∧ tkI h g1 t (jn c y x :: st)) := by
  refine Rlt.of ?_
  show WP (gX (gq u)) MX10_take (d + 1) b _ 0 [(2, 40 + t), (0, -1 - c), (2, 9), (9, 0), (9, 0)] [] g
  refine wp_iload_n rfl rfl dX10_take_0 ?_
  refine wp_iconst dX10_take_1 ?_
  refine wp_aload_n rfl rfl dX10_take_2 ?_
  refine wp_alen1 dX10_take_3 (by first | omega | (simp (disch := omega) only [up2_ne, up2_eq, txb I.1, st_9_m2 I.1, st_9_m1 I.1]; first | done | omega)) (by first | omega | (simp (disch := omega) only [up2_ne, up2_eq, txb I.1, st_9_m2 I.1, st_9_m1 I.1]; first | done | omega)) ?_
  try simp (disch := omega) only [up2_ne, up2_eq, txb I.1, st_9_m2 I.1, st_9_m1 I.1]
  refine wp_iconst dX10_take_4 ?_
  refine wp_isub dX10_take_5 ?_
  refine wp_cSN3 okX11_isWithin wX10_25 dX10_take_6 rfl (Nat.le_of_ble_eq_true rfl) (Nat.le_of_ble_eq_true rfl) (s_X11_isWithin (by first | assumption | exact ⟨by omega, by omega⟩) In0 (by exact ⟨by decide, by decide⟩)) (Nat.zero_le _) ?_
  try simp (disch := omega) only [up2_ne, up2_eq, txb I.1, st_9_m2 I.1, st_9_m1 I.1]
  refine wp_ifB_eq (tgt := 22) dX10_take_9 (by decide) (fun c1 => ?_) (fun c1 => by exfalso; omega)
  refine wp_iload_n rfl rfl dX10_take_22 ?_
  refine wp_bipush (by decide) dX10_take_23 ?_
  refine wp_icmp_ne (tgt := 47) (by first | assumption | exact bI_in _ | exact ⟨by omega, by omega⟩ | exact iAnd_in | exact iOr_in | exact iShr_in | exact iShl_in | exact iXor_in | exact hxs _) (by first | assumption | exact bI_in _ | exact ⟨by omega, by omega⟩ | exact iAnd_in | exact iOr_in | exact iShr_in | exact iShl_in | exact iXor_in | exact hxs _) dX10_take_25 (by decide) (fun c2 => ?_) (fun c2 => by exfalso; omega)
  refine wp_iload_n rfl rfl dX10_take_47 ?_
  refine wp_bipush (by decide) dX10_take_48 ?_
  refine wp_icmp_ne (tgt := 65) (by first | assumption | exact bI_in _ | exact ⟨by omega, by omega⟩ | exact iAnd_in | exact iOr_in | exact iShr_in | exact iShl_in | exact iXor_in | exact hxs _) (by first | assumption | exact bI_in _ | exact ⟨by omega, by omega⟩ | exact iAnd_in | exact iOr_in | exact iShr_in | exact iShl_in | exact iXor_in | exact hxs _) dX10_take_50 (by decide) (fun c3 => ?_) (fun c3 => by exfalso; omega)
  refine wp_aload_n rfl rfl dX10_take_65 ?_
  refine wp_cV0r (ci := 10) okX10_pop rfl rfl wX10_44 dX10_take_66 (Nat.le_of_ble_eq_true rfl) (Nat.le_of_ble_eq_true rfl) (by first | omega | (simp (disch := omega) only [up2_ne, up2_eq, txb I.1, st_9_m2 I.1, st_9_m1 I.1]; first | done | omega)) (by first | assumption | (simp (disch := omega) only [up2_ne, up2_eq, txb I.1, st_9_m2 I.1, st_9_m1 I.1]; first | done | rfl | omega)) (tk_pop t0 t1 I (by first | omega | (rw [List.length_cons]; omega))) (Nat.zero_le _) ?_
  rintro r g1 ⟨rfl, x1, J1⟩ -
  show WP _ _ _ _ _ _ _ ((0, _) :: _) _
  refine wp_istore_n rfl dX10_take_69 rfl (Nat.le_of_ble_eq_true rfl) rfl ?_
  try simp only [List.set_cons_zero, List.set_cons_succ]
  refine wp_aload_n rfl rfl dX10_take_70 ?_
  refine wp_cV0r (ci := 10) okX10_pop rfl rfl wX10_44 dX10_take_71 (Nat.le_of_ble_eq_true rfl) (Nat.le_of_ble_eq_true rfl) (by first | omega | (simp (disch := omega) only [up2_ne, up2_eq, txb J1.1, txb I.1, st_9_m2 I.1, st_9_m1 I.1]; first | done | omega)) (by first | assumption | (simp (disch := omega) only [up2_ne, up2_eq, txb J1.1, txb I.1, st_9_m2 I.1, st_9_m1 I.1]; first | done | rfl | omega)) (tk_pop t0 t1 J1 (by first | omega | (rw [List.length_cons]; omega))) (Nat.zero_le _) ?_
  rintro r g2 ⟨rfl, x2, J2⟩ -
  show WP _ _ _ _ _ _ _ ((0, _) :: _) _
  refine wp_istore dX10_take_74 rfl (Nat.le_of_ble_eq_true rfl) rfl ?_
  try simp only [List.set_cons_zero, List.set_cons_succ]
  refine wp_aload_n rfl rfl dX10_take_76 ?_
  refine wp_iload_n rfl rfl dX10_take_77 ?_
  refine wp_iload rfl dX10_take_78 ?_
  refine wp_iload_n rfl rfl dX10_take_80 ?_
  refine wp_cS3 okX10_join wX10_50 dX10_take_81 rfl (Nat.le_of_ble_eq_true rfl) (Nat.le_of_ble_eq_true rfl) (s_X10_join (by omega) (by first | assumption) (by first | assumption)) (Nat.zero_le _) ?_
  try simp (disch := omega) only [up2_ne, up2_eq, txb J2.1, txb J1.1, txb I.1, st_9_m2 I.1, st_9_m1 I.1]
  refine wp_cV1r (ci := 10) okX10_push rfl rfl wX10_32 dX10_take_84 (Nat.le_of_ble_eq_true rfl) (Nat.le_of_ble_eq_true rfl) (by first | omega | (simp (disch := omega) only [up2_ne, up2_eq, txb J2.1, txb J1.1, txb I.1, st_9_m2 I.1, st_9_m1 I.1]; first | done | omega)) (by first | assumption | (simp (disch := omega) only [up2_ne, up2_eq, txb J2.1, txb J1.1, txb I.1, st_9_m2 I.1, st_9_m1 I.1]; first | done | rfl | omega)) (tk_push t0 t1 J2 (by omega) (by first | assumption | exact bI_in _ | exact wI_in _ | exact jn_in | exact ⟨by decide, by decide⟩)) (Nat.zero_le _) ?_
  rintro r gz ⟨rfl, Jz⟩ -
  show WP _ _ _ _ _ _ _ [] _
  refine wp_vret dX10_take_87 rfl ?_
  exact ⟨rfl, Jz⟩
theorem take_row {u : gT} {h g : mH} {d b : Nat} {t c : Int} {st : List Int} (t0 : 0 ≤ t) (t1 : t < 6) (hc : codeOk c) (c1 : c < 0) (hw : -7 ≤ c ∨ ((c = -13 ∨ c = -25) ∧ 1 ≤ (st.length : Int)) ∨ 2 ≤ (st.length : Int)) (I : tkI h g t st) (hl : st.length < 160) (hf : ∀ k, 0 ≤ k → k < 7 → InI (h 9 k)) : Rlt (gX (gq u)) MX10_take (d + 1) b [(2, 40 + t), (0, -1 - c), (2, 9)] g (fun r g1 => r = (9, 0) ∧ tkI h g1 t (evS c (h 9) st)) := by
  by_cases q : -7 ≤ c
  · rw [evS_f c1 q]
    exact take_f t0 t1 q c1 I hl (hf _ (by omega) (by omega))
  · unfold codeOk at hc
    rcases st with _ | ⟨x, _ | ⟨y, st⟩⟩
    · exfalso
      have : (([] : List Int).length : Int) = 0 := rfl
      omega
    · have e1 : (([x] : List Int).length : Int) = 1 := rfl
      rcases (show c = -13 ∨ c = -25 by omega) with rfl | rfl
      · exact take_n t0 t1 rfl I (by simp)
      · exact take_m t0 t1 rfl I (by simp)
    · rw [List.length_cons, List.length_cons] at hl
      by_cases c2 : c = -13
      · subst c2
        exact take_n t0 t1 rfl I (by rw [List.length_cons]; omega)
      · by_cases c3 : c = -25
        · subst c3
          exact take_m t0 t1 rfl I (by rw [List.length_cons]; omega)
        · rw [evS_j (by omega) c2 c3]
          exact take_j t0 t1 (by omega) I (by omega)
theorem len1 {l : List Int} (h : (l.length : Int) = 1) : ∃ x, l = [x] := List.length_eq_one_iff.mp (by omega)
def evR (g f : Int → Int) (s : Int) (N : Nat) : Int := (ev g f s N).headD 0
theorem s_X10_valueOf {u : gT} {h : mH} {d b : Nat} {t p s e : Int} (hS : St h) (t0 : 0 ≤ t) (t1 : t < 6) (p0 : 0 ≤ p) (p1 : p ≤ 2) (hs0 : p = 0 → s = 0) (hs : p ≠ 0 → h (60 + t) (p - 1) = s) (he : h (60 + t) p = e) (s0 : 0 ≤ s) (se : s ≤ e) (e1 : e ≤ 160) (hw : wf (h (50 + t)) s (e - s).toNat) (hh : hgt (h (50 + t)) s (e - s).toNat = 1) (hf : ∀ k, 0 ≤ k → k < 7 → InI (h 9 k)) : Rlt (gX (gq u)) MX10_valueOf (d + 2) b [(2, 40 + t), (0, p), (2, 9)] h (fun r h1 => r = (0, evR (h (50 + t)) (h 9) s (e - s).toNat) ∧ InI (evR (h (50 + t)) (h 9) s (e - s).toNat) ∧ St h1 ∧ Kt h t h1) := by
  refine Rlt.of ?_
  have hcI : ∀ k, k < (e - s).toNat → InI (h (50 + t) (s + (k : Int))) := fun k hk => by have := (hw k hk).1; unfold codeOk at this; exact ⟨by omega, by omega⟩
  have loop : ∀ n : Nat, n ≤ (e - s).toNat → ∀ g, tkI h g t (ev (h (50 + t)) (h 9) s n) → WP (gX (gq u)) MX10_valueOf (d + 2) b (fun r h1 => r = (0, evR (h (50 + t)) (h 9) s (e - s).toNat) ∧ InI (evR (h (50 + t)) (h 9) s (e - s).toNat) ∧ St h1 ∧ Kt h t h1) 42 [(2, 40 + t), (0, p), (2, 9), (0, s), (0, s + (n : Int))] [] g := by
    refine loop_w (e - s).toNat (fun n hn2 ih => ?_)
    intro g I
    have hl := ev_len (f := h 9) hw n hn2
    have hl2 := hgt_le (g := h (50 + t)) (s := s) n
    have hwn := hw n
    refine wp_iload rfl dX10_valueOf_42 ?_
    refine wp_aload_n rfl rfl dX10_valueOf_44 ?_
    refine wp_getfield1 (z := 11) (kI := 1) fX10_15 dX10_valueOf_45 (by first | omega | (simp (disch := omega) only [up2_ne, up2_eq, txa I.1, txb I.1, txc I.1, txd I.1, txe I.1, txf I.1, txg I.1, txh I.1, txi I.1, txj I.1, txk I.1, txa hS, txb hS, txc hS, txd hS, txe hS, txf hS, txg hS, txh hS, txi hS, txj hS, txk hS, st_9_m1 I.1, I.2.1, he]; first | done | omega)) (by first | assumption | (simp (disch := omega) only [up2_ne, up2_eq, txa I.1, txb I.1, txc I.1, txd I.1, txe I.1, txf I.1, txg I.1, txh I.1, txi I.1, txj I.1, txk I.1, txa hS, txb hS, txc hS, txd hS, txe hS, txf hS, txg hS, txh hS, txi hS, txj hS, txk hS, st_9_m1 I.1, I.2.1, he]; first | done | rfl | omega)) rfl rfl ?_
    try simp (disch := omega) only [up2_ne, up2_eq, txa I.1, txb I.1, txc I.1, txd I.1, txe I.1, txf I.1, txg I.1, txh I.1, txi I.1, txj I.1, txk I.1, txa hS, txb hS, txc hS, txd hS, txe hS, txf hS, txg hS, txh hS, txi hS, txj hS, txk hS, st_9_m1 I.1, I.2.1, he]
    refine wp_iload_n rfl rfl dX10_valueOf_48 ?_
    refine wp_iaload1 dX10_valueOf_49 (by first | omega | (simp (disch := omega) only [up2_ne, up2_eq, txa I.1, txb I.1, txc I.1, txd I.1, txe I.1, txf I.1, txg I.1, txh I.1, txi I.1, txj I.1, txk I.1, txa hS, txb hS, txc hS, txd hS, txe hS, txf hS, txg hS, txh hS, txi hS, txj hS, txk hS, st_9_m1 I.1, I.2.1, he]; first | done | omega)) (by first | assumption | (simp (disch := omega) only [up2_ne, up2_eq, txa I.1, txb I.1, txc I.1, txd I.1, txe I.1, txf I.1, txg I.1, txh I.1, txi I.1, txj I.1, txk I.1, txa hS, txb hS, txc hS, txd hS, txe hS, txf hS, txg hS, txh hS, txi hS, txj hS, txk hS, st_9_m1 I.1, I.2.1, he]; first | done | rfl | omega)) (by first | omega | (simp (disch := omega) only [up2_ne, up2_eq, txa I.1, txb I.1, txc I.1, txd I.1, txe I.1, txf I.1, txg I.1, txh I.1, txi I.1, txj I.1, txk I.1, txa hS, txb hS, txc hS, txd hS, txe hS, txf hS, txg hS, txh hS, txi hS, txj hS, txk hS, st_9_m1 I.1, I.2.1, he]; first | done | omega)) (by first | omega | (simp (disch := omega) only [up2_ne, up2_eq, txa I.1, txb I.1, txc I.1, txd I.1, txe I.1, txf I.1, txg I.1, txh I.1, txi I.1, txj I.1, txk I.1, txa hS, txb hS, txc hS, txd hS, txe hS, txf hS, txg hS, txh hS, txi hS, txj hS, txk hS, st_9_m1 I.1, I.2.1, he]; first | done | omega)) ?_
    try simp (disch := omega) only [up2_ne, up2_eq, txa I.1, txb I.1, txc I.1, txd I.1, txe I.1, txf I.1, txg I.1, txh I.1, txi I.1, txj I.1, txk I.1, txa hS, txb hS, txc hS, txd hS, txe hS, txf hS, txg hS, txh hS, txi hS, txj hS, txk hS, st_9_m1 I.1, I.2.1, he]
    refine wp_icmp_ge (tgt := 108) (by first | assumption | exact bI_in _ | exact ⟨by omega, by omega⟩ | exact iAnd_in | exact iOr_in | exact iShr_in | exact iShl_in | exact iXor_in | exact hxs _) (by first | assumption | exact bI_in _ | exact ⟨by omega, by omega⟩ | exact iAnd_in | exact iOr_in | exact iShr_in | exact iShl_in | exact iXor_in | exact hxs _) dX10_valueOf_50 (by decide) (fun c1 => ?_) (fun c1 => ?_)
    · have en : n = (e - s).toNat := by omega
      subst en
      obtain ⟨x, hx⟩ := len1 (show ((ev (h (50 + t)) (h 9) s (e - s).toNat).length : Int) = 1 by omega)
      rw [hx] at I
      refine wp_aload_n rfl rfl dX10_valueOf_108 ?_
      refine wp_cV0r (ci := 10) okX10_pop rfl rfl wX10_44 dX10_valueOf_109 (Nat.le_of_ble_eq_true rfl) (Nat.le_of_ble_eq_true rfl) (by first | omega | (simp (disch := omega) only [up2_ne, up2_eq, txa I.1, txb I.1, txc I.1, txd I.1, txe I.1, txf I.1, txg I.1, txh I.1, txi I.1, txj I.1, txk I.1, txa hS, txb hS, txc hS, txd hS, txe hS, txf hS, txg hS, txh hS, txi hS, txj hS, txk hS, st_9_m1 I.1, I.2.1, he]; first | done | omega)) (by first | assumption | (simp (disch := omega) only [up2_ne, up2_eq, txa I.1, txb I.1, txc I.1, txd I.1, txe I.1, txf I.1, txg I.1, txh I.1, txi I.1, txj I.1, txk I.1, txa hS, txb hS, txc hS, txd hS, txe hS, txf hS, txg hS, txh hS, txi hS, txj hS, txk hS, st_9_m1 I.1, I.2.1, he]; first | done | rfl | omega)) (tk_pop t0 t1 I (by decide)) (Nat.zero_le _) ?_
      rintro r g1 ⟨rfl, x1, J1⟩ -
      show WP _ _ _ _ _ _ _ ((0, _) :: _) _
      refine wp_iret dX10_valueOf_112 rfl ?_
      have ev1 : evR (h (50 + t)) (h 9) s (e - s).toNat = x := by unfold evR; rw [hx]; rfl
      rw [ev1]
      exact ⟨rfl, x1, J1.1, J1.2.1⟩
    · refine wp_iload rfl dX10_valueOf_53 ?_
      refine wp_aload_n rfl rfl dX10_valueOf_55 ?_
      refine wp_getfield1 (z := 11) (kI := 0) fX10_9 dX10_valueOf_56 (by first | omega | (simp (disch := omega) only [up2_ne, up2_eq, txa I.1, txb I.1, txc I.1, txd I.1, txe I.1, txf I.1, txg I.1, txh I.1, txi I.1, txj I.1, txk I.1, txa hS, txb hS, txc hS, txd hS, txe hS, txf hS, txg hS, txh hS, txi hS, txj hS, txk hS, st_9_m1 I.1, I.2.1, he]; first | done | omega)) (by first | assumption | (simp (disch := omega) only [up2_ne, up2_eq, txa I.1, txb I.1, txc I.1, txd I.1, txe I.1, txf I.1, txg I.1, txh I.1, txi I.1, txj I.1, txk I.1, txa hS, txb hS, txc hS, txd hS, txe hS, txf hS, txg hS, txh hS, txi hS, txj hS, txk hS, st_9_m1 I.1, I.2.1, he]; first | done | rfl | omega)) rfl rfl ?_
      try simp (disch := omega) only [up2_ne, up2_eq, txa I.1, txb I.1, txc I.1, txd I.1, txe I.1, txf I.1, txg I.1, txh I.1, txi I.1, txj I.1, txk I.1, txa hS, txb hS, txc hS, txd hS, txe hS, txf hS, txg hS, txh hS, txi hS, txj hS, txk hS, st_9_m1 I.1, I.2.1, he]
      refine wp_alen1 dX10_valueOf_59 (by first | omega | (simp (disch := omega) only [up2_ne, up2_eq, txa I.1, txb I.1, txc I.1, txd I.1, txe I.1, txf I.1, txg I.1, txh I.1, txi I.1, txj I.1, txk I.1, txa hS, txb hS, txc hS, txd hS, txe hS, txf hS, txg hS, txh hS, txi hS, txj hS, txk hS, st_9_m1 I.1, I.2.1, he]; first | done | omega)) (by first | omega | (simp (disch := omega) only [up2_ne, up2_eq, txa I.1, txb I.1, txc I.1, txd I.1, txe I.1, txf I.1, txg I.1, txh I.1, txi I.1, txj I.1, txk I.1, txa hS, txb hS, txc hS, txd hS, txe hS, txf hS, txg hS, txh hS, txi hS, txj hS, txk hS, st_9_m1 I.1, I.2.1, he]; first | done | omega)) ?_
      try simp (disch := omega) only [up2_ne, up2_eq, txa I.1, txb I.1, txc I.1, txd I.1, txe I.1, txf I.1, txg I.1, txh I.1, txi I.1, txj I.1, txk I.1, txa hS, txb hS, txc hS, txd hS, txe hS, txf hS, txg hS, txh hS, txi hS, txj hS, txk hS, st_9_m1 I.1, I.2.1, he]
      refine wp_icmp_ge (tgt := 108) (by first | assumption | exact bI_in _ | exact ⟨by omega, by omega⟩ | exact iAnd_in | exact iOr_in | exact iShr_in | exact iShl_in | exact iXor_in | exact hxs _) (by first | assumption | exact bI_in _ | exact ⟨by omega, by omega⟩ | exact iAnd_in | exact iOr_in | exact iShr_in | exact iShl_in | exact iXor_in | exact hxs _) dX10_valueOf_60 (by decide) (fun c2 => ?_) (fun c2 => ?_)
      · have en : n = (e - s).toNat := by omega
        subst en
        obtain ⟨x, hx⟩ := len1 (show ((ev (h (50 + t)) (h 9) s (e - s).toNat).length : Int) = 1 by omega)
        rw [hx] at I
        refine wp_aload_n rfl rfl dX10_valueOf_108 ?_
        refine wp_cV0r (ci := 10) okX10_pop rfl rfl wX10_44 dX10_valueOf_109 (Nat.le_of_ble_eq_true rfl) (Nat.le_of_ble_eq_true rfl) (by first | omega | (simp (disch := omega) only [up2_ne, up2_eq, txa I.1, txb I.1, txc I.1, txd I.1, txe I.1, txf I.1, txg I.1, txh I.1, txi I.1, txj I.1, txk I.1, txa hS, txb hS, txc hS, txd hS, txe hS, txf hS, txg hS, txh hS, txi hS, txj hS, txk hS, st_9_m1 I.1, I.2.1, he]; first | done | omega)) (by first | assumption | (simp (disch := omega) only [up2_ne, up2_eq, txa I.1, txb I.1, txc I.1, txd I.1, txe I.1, txf I.1, txg I.1, txh I.1, txi I.1, txj I.1, txk I.1, txa hS, txb hS, txc hS, txd hS, txe hS, txf hS, txg hS, txh hS, txi hS, txj hS, txk hS, st_9_m1 I.1, I.2.1, he]; first | done | rfl | omega)) (tk_pop t0 t1 I (by decide)) (Nat.zero_le _) ?_
        rintro r g1 ⟨rfl, x1, J1⟩ -
        show WP _ _ _ _ _ _ _ ((0, _) :: _) _
        refine wp_iret dX10_valueOf_112 rfl ?_
        have ev1 : evR (h (50 + t)) (h 9) s (e - s).toNat = x := by unfold evR; rw [hx]; rfl
        rw [ev1]
        exact ⟨rfl, x1, J1.1, J1.2.1⟩
      · refine wp_aload_n rfl rfl dX10_valueOf_63 ?_
        refine wp_getfield1 (z := 11) (kI := 0) fX10_9 dX10_valueOf_64 (by first | omega | (simp (disch := omega) only [up2_ne, up2_eq, txa I.1, txb I.1, txc I.1, txd I.1, txe I.1, txf I.1, txg I.1, txh I.1, txi I.1, txj I.1, txk I.1, txa hS, txb hS, txc hS, txd hS, txe hS, txf hS, txg hS, txh hS, txi hS, txj hS, txk hS, st_9_m1 I.1, I.2.1, he]; first | done | omega)) (by first | assumption | (simp (disch := omega) only [up2_ne, up2_eq, txa I.1, txb I.1, txc I.1, txd I.1, txe I.1, txf I.1, txg I.1, txh I.1, txi I.1, txj I.1, txk I.1, txa hS, txb hS, txc hS, txd hS, txe hS, txf hS, txg hS, txh hS, txi hS, txj hS, txk hS, st_9_m1 I.1, I.2.1, he]; first | done | rfl | omega)) rfl rfl ?_
        try simp (disch := omega) only [up2_ne, up2_eq, txa I.1, txb I.1, txc I.1, txd I.1, txe I.1, txf I.1, txg I.1, txh I.1, txi I.1, txj I.1, txk I.1, txa hS, txb hS, txc hS, txd hS, txe hS, txf hS, txg hS, txh hS, txi hS, txj hS, txk hS, st_9_m1 I.1, I.2.1, he]
        refine wp_iload rfl dX10_valueOf_67 ?_
        refine wp_iaload1 dX10_valueOf_69 (by first | omega | (simp (disch := omega) only [up2_ne, up2_eq, txa I.1, txb I.1, txc I.1, txd I.1, txe I.1, txf I.1, txg I.1, txh I.1, txi I.1, txj I.1, txk I.1, txa hS, txb hS, txc hS, txd hS, txe hS, txf hS, txg hS, txh hS, txi hS, txj hS, txk hS, st_9_m1 I.1, I.2.1, he]; first | done | omega)) (by first | assumption | (simp (disch := omega) only [up2_ne, up2_eq, txa I.1, txb I.1, txc I.1, txd I.1, txe I.1, txf I.1, txg I.1, txh I.1, txi I.1, txj I.1, txk I.1, txa hS, txb hS, txc hS, txd hS, txe hS, txf hS, txg hS, txh hS, txi hS, txj hS, txk hS, st_9_m1 I.1, I.2.1, he]; first | done | rfl | omega)) (by first | omega | (simp (disch := omega) only [up2_ne, up2_eq, txa I.1, txb I.1, txc I.1, txd I.1, txe I.1, txf I.1, txg I.1, txh I.1, txi I.1, txj I.1, txk I.1, txa hS, txb hS, txc hS, txd hS, txe hS, txf hS, txg hS, txh hS, txi hS, txj hS, txk hS, st_9_m1 I.1, I.2.1, he]; first | done | omega)) (by first | omega | (simp (disch := omega) only [up2_ne, up2_eq, txa I.1, txb I.1, txc I.1, txd I.1, txe I.1, txf I.1, txg I.1, txh I.1, txi I.1, txj I.1, txk I.1, txa hS, txb hS, txc hS, txd hS, txe hS, txf hS, txg hS, txh hS, txi hS, txj hS, txk hS, st_9_m1 I.1, I.2.1, he]; first | done | omega)) ?_
        try simp (disch := omega) only [up2_ne, up2_eq, txa I.1, txb I.1, txc I.1, txd I.1, txe I.1, txf I.1, txg I.1, txh I.1, txi I.1, txj I.1, txk I.1, txa hS, txb hS, txc hS, txd hS, txe hS, txf hS, txg hS, txh hS, txi hS, txj hS, txk hS, st_9_m1 I.1, I.2.1, he]
        have hci := hcI n (by omega)
        refine wp_if_lt (tgt := 87) (by first | assumption | exact bI_in _ | exact ⟨by omega, by omega⟩ | exact iAnd_in | exact iOr_in | exact iShr_in | exact iShl_in | exact iXor_in | exact hxs _) dX10_valueOf_70 (by decide) (fun c3 => ?_) (fun c3 => ?_)
        · refine wp_aload_n rfl rfl dX10_valueOf_87 ?_
          refine wp_aload_n rfl rfl dX10_valueOf_88 ?_
          refine wp_getfield1 (z := 11) (kI := 0) fX10_9 dX10_valueOf_89 (by first | omega | (simp (disch := omega) only [up2_ne, up2_eq, txa I.1, txb I.1, txc I.1, txd I.1, txe I.1, txf I.1, txg I.1, txh I.1, txi I.1, txj I.1, txk I.1, txa hS, txb hS, txc hS, txd hS, txe hS, txf hS, txg hS, txh hS, txi hS, txj hS, txk hS, st_9_m1 I.1, I.2.1, he]; first | done | omega)) (by first | assumption | (simp (disch := omega) only [up2_ne, up2_eq, txa I.1, txb I.1, txc I.1, txd I.1, txe I.1, txf I.1, txg I.1, txh I.1, txi I.1, txj I.1, txk I.1, txa hS, txb hS, txc hS, txd hS, txe hS, txf hS, txg hS, txh hS, txi hS, txj hS, txk hS, st_9_m1 I.1, I.2.1, he]; first | done | rfl | omega)) rfl rfl ?_
          try simp (disch := omega) only [up2_ne, up2_eq, txa I.1, txb I.1, txc I.1, txd I.1, txe I.1, txf I.1, txg I.1, txh I.1, txi I.1, txj I.1, txk I.1, txa hS, txb hS, txc hS, txd hS, txe hS, txf hS, txg hS, txh hS, txi hS, txj hS, txk hS, st_9_m1 I.1, I.2.1, he]
          refine wp_iload rfl dX10_valueOf_92 ?_
          refine wp_iaload1 dX10_valueOf_94 (by first | omega | (simp (disch := omega) only [up2_ne, up2_eq, txa I.1, txb I.1, txc I.1, txd I.1, txe I.1, txf I.1, txg I.1, txh I.1, txi I.1, txj I.1, txk I.1, txa hS, txb hS, txc hS, txd hS, txe hS, txf hS, txg hS, txh hS, txi hS, txj hS, txk hS, st_9_m1 I.1, I.2.1, he]; first | done | omega)) (by first | assumption | (simp (disch := omega) only [up2_ne, up2_eq, txa I.1, txb I.1, txc I.1, txd I.1, txe I.1, txf I.1, txg I.1, txh I.1, txi I.1, txj I.1, txk I.1, txa hS, txb hS, txc hS, txd hS, txe hS, txf hS, txg hS, txh hS, txi hS, txj hS, txk hS, st_9_m1 I.1, I.2.1, he]; first | done | rfl | omega)) (by first | omega | (simp (disch := omega) only [up2_ne, up2_eq, txa I.1, txb I.1, txc I.1, txd I.1, txe I.1, txf I.1, txg I.1, txh I.1, txi I.1, txj I.1, txk I.1, txa hS, txb hS, txc hS, txd hS, txe hS, txf hS, txg hS, txh hS, txi hS, txj hS, txk hS, st_9_m1 I.1, I.2.1, he]; first | done | omega)) (by first | omega | (simp (disch := omega) only [up2_ne, up2_eq, txa I.1, txb I.1, txc I.1, txd I.1, txe I.1, txf I.1, txg I.1, txh I.1, txi I.1, txj I.1, txk I.1, txa hS, txb hS, txc hS, txd hS, txe hS, txf hS, txg hS, txh hS, txi hS, txj hS, txk hS, st_9_m1 I.1, I.2.1, he]; first | done | omega)) ?_
          try simp (disch := omega) only [up2_ne, up2_eq, txa I.1, txb I.1, txc I.1, txd I.1, txe I.1, txf I.1, txg I.1, txh I.1, txi I.1, txj I.1, txk I.1, txa hS, txb hS, txc hS, txd hS, txe hS, txf hS, txg hS, txh hS, txi hS, txj hS, txk hS, st_9_m1 I.1, I.2.1, he]
          refine wp_cS1 okX10_codeOf wX10_36 dX10_valueOf_95 rfl (Nat.le_of_ble_eq_true rfl) (Nat.le_of_ble_eq_true rfl) (s_X10_codeOf) (Nat.zero_le _) ?_
          try simp (disch := omega) only [up2_ne, up2_eq, txa I.1, txb I.1, txc I.1, txd I.1, txe I.1, txf I.1, txg I.1, txh I.1, txi I.1, txj I.1, txk I.1, txa hS, txb hS, txc hS, txd hS, txe hS, txf hS, txg hS, txh hS, txi hS, txj hS, txk hS, st_9_m1 I.1, I.2.1, he]
          refine wp_aload_n rfl rfl dX10_valueOf_98 ?_
          refine wp_cV2r (ci := 10) okX10_take rfl rfl wX10_40 dX10_valueOf_99 (Nat.le_of_ble_eq_true rfl) (Nat.le_of_ble_eq_true rfl) (by first | omega | (simp (disch := omega) only [up2_ne, up2_eq, txa I.1, txb I.1, txc I.1, txd I.1, txe I.1, txf I.1, txg I.1, txh I.1, txi I.1, txj I.1, txk I.1, txa hS, txb hS, txc hS, txd hS, txe hS, txf hS, txg hS, txh hS, txi hS, txj hS, txk hS, st_9_m1 I.1, I.2.1, he]; first | done | omega)) (by first | assumption | (simp (disch := omega) only [up2_ne, up2_eq, txa I.1, txb I.1, txc I.1, txd I.1, txe I.1, txf I.1, txg I.1, txh I.1, txi I.1, txj I.1, txk I.1, txa hS, txb hS, txc hS, txd hS, txe hS, txf hS, txg hS, txh hS, txi hS, txj hS, txk hS, st_9_m1 I.1, I.2.1, he]; first | done | rfl | omega)) (take_row t0 t1 (hwn (by omega)).1 (by omega) (by rw [hl]; exact (hwn (by omega)).2) I (by omega) hf) (Nat.zero_le _) ?_
          rintro r g1 ⟨rfl, J1⟩ -
          show WP _ _ _ _ _ _ _ [] _
          refine wp_iinc rfl rfl dX10_valueOf_102 rfl rfl ?_
          try simp only [List.set_cons_zero, List.set_cons_succ]
          refine wp_goto (tgt := 42) dX10_valueOf_105 (by decide) ?_
          rw [show s + (n : Int) + 1 = s + ((n + 1 : Nat) : Int) by omega]
          first
            | exact ih (by omega) g1 (by rw [ev, evS_p (by omega)]; exact J1)
            | exact ih (by omega) g1 (by rw [ev]; exact J1)
        · refine wp_aload_n rfl rfl dX10_valueOf_73 ?_
          refine wp_aload_n rfl rfl dX10_valueOf_74 ?_
          refine wp_getfield1 (z := 11) (kI := 0) fX10_9 dX10_valueOf_75 (by first | omega | (simp (disch := omega) only [up2_ne, up2_eq, txa I.1, txb I.1, txc I.1, txd I.1, txe I.1, txf I.1, txg I.1, txh I.1, txi I.1, txj I.1, txk I.1, txa hS, txb hS, txc hS, txd hS, txe hS, txf hS, txg hS, txh hS, txi hS, txj hS, txk hS, st_9_m1 I.1, I.2.1, he]; first | done | omega)) (by first | assumption | (simp (disch := omega) only [up2_ne, up2_eq, txa I.1, txb I.1, txc I.1, txd I.1, txe I.1, txf I.1, txg I.1, txh I.1, txi I.1, txj I.1, txk I.1, txa hS, txb hS, txc hS, txd hS, txe hS, txf hS, txg hS, txh hS, txi hS, txj hS, txk hS, st_9_m1 I.1, I.2.1, he]; first | done | rfl | omega)) rfl rfl ?_
          try simp (disch := omega) only [up2_ne, up2_eq, txa I.1, txb I.1, txc I.1, txd I.1, txe I.1, txf I.1, txg I.1, txh I.1, txi I.1, txj I.1, txk I.1, txa hS, txb hS, txc hS, txd hS, txe hS, txf hS, txg hS, txh hS, txi hS, txj hS, txk hS, st_9_m1 I.1, I.2.1, he]
          refine wp_iload rfl dX10_valueOf_78 ?_
          refine wp_iaload1 dX10_valueOf_80 (by first | omega | (simp (disch := omega) only [up2_ne, up2_eq, txa I.1, txb I.1, txc I.1, txd I.1, txe I.1, txf I.1, txg I.1, txh I.1, txi I.1, txj I.1, txk I.1, txa hS, txb hS, txc hS, txd hS, txe hS, txf hS, txg hS, txh hS, txi hS, txj hS, txk hS, st_9_m1 I.1, I.2.1, he]; first | done | omega)) (by first | assumption | (simp (disch := omega) only [up2_ne, up2_eq, txa I.1, txb I.1, txc I.1, txd I.1, txe I.1, txf I.1, txg I.1, txh I.1, txi I.1, txj I.1, txk I.1, txa hS, txb hS, txc hS, txd hS, txe hS, txf hS, txg hS, txh hS, txi hS, txj hS, txk hS, st_9_m1 I.1, I.2.1, he]; first | done | rfl | omega)) (by first | omega | (simp (disch := omega) only [up2_ne, up2_eq, txa I.1, txb I.1, txc I.1, txd I.1, txe I.1, txf I.1, txg I.1, txh I.1, txi I.1, txj I.1, txk I.1, txa hS, txb hS, txc hS, txd hS, txe hS, txf hS, txg hS, txh hS, txi hS, txj hS, txk hS, st_9_m1 I.1, I.2.1, he]; first | done | omega)) (by first | omega | (simp (disch := omega) only [up2_ne, up2_eq, txa I.1, txb I.1, txc I.1, txd I.1, txe I.1, txf I.1, txg I.1, txh I.1, txi I.1, txj I.1, txk I.1, txa hS, txb hS, txc hS, txd hS, txe hS, txf hS, txg hS, txh hS, txi hS, txj hS, txk hS, st_9_m1 I.1, I.2.1, he]; first | done | omega)) ?_
          try simp (disch := omega) only [up2_ne, up2_eq, txa I.1, txb I.1, txc I.1, txd I.1, txe I.1, txf I.1, txg I.1, txh I.1, txi I.1, txj I.1, txk I.1, txa hS, txb hS, txc hS, txd hS, txe hS, txf hS, txg hS, txh hS, txi hS, txj hS, txk hS, st_9_m1 I.1, I.2.1, he]
          refine wp_cV1r (ci := 10) okX10_push rfl rfl wX10_32 dX10_valueOf_81 (Nat.le_of_ble_eq_true rfl) (Nat.le_of_ble_eq_true rfl) (by first | omega | (simp (disch := omega) only [up2_ne, up2_eq, txa I.1, txb I.1, txc I.1, txd I.1, txe I.1, txf I.1, txg I.1, txh I.1, txi I.1, txj I.1, txk I.1, txa hS, txb hS, txc hS, txd hS, txe hS, txf hS, txg hS, txh hS, txi hS, txj hS, txk hS, st_9_m1 I.1, I.2.1, he]; first | done | omega)) (by first | assumption | (simp (disch := omega) only [up2_ne, up2_eq, txa I.1, txb I.1, txc I.1, txd I.1, txe I.1, txf I.1, txg I.1, txh I.1, txi I.1, txj I.1, txk I.1, txa hS, txb hS, txc hS, txd hS, txe hS, txf hS, txg hS, txh hS, txi hS, txj hS, txk hS, st_9_m1 I.1, I.2.1, he]; first | done | rfl | omega)) (tk_push t0 t1 I (by omega) (hcI n (by omega))) (Nat.zero_le _) ?_
          rintro r g1 ⟨rfl, J1⟩ -
          show WP _ _ _ _ _ _ _ [] _
          refine wp_goto (tgt := 102) dX10_valueOf_84 (by decide) ?_
          refine wp_iinc rfl rfl dX10_valueOf_102 rfl rfl ?_
          try simp only [List.set_cons_zero, List.set_cons_succ]
          refine wp_goto (tgt := 42) dX10_valueOf_105 (by decide) ?_
          rw [show s + (n : Int) + 1 = s + ((n + 1 : Nat) : Int) by omega]
          first
            | exact ih (by omega) g1 (by rw [ev, evS_p (by omega)]; exact J1)
            | exact ih (by omega) g1 (by rw [ev]; exact J1)
  show WP (gX (gq u)) MX10_valueOf (d + 2) b _ 0 [(2, 40 + t), (0, p), (2, 9), (9, 0), (9, 0)] [] h
  refine wp_iload_n rfl rfl dX10_valueOf_0 ?_
  refine wp_iconst dX10_valueOf_1 ?_
  refine wp_aload_n rfl rfl dX10_valueOf_2 ?_
  refine wp_getfield1 (z := 11) (kI := 1) fX10_15 dX10_valueOf_3 (by first | omega | (simp (disch := omega) only [up2_ne, up2_eq, txa hS, txb hS, txc hS, txd hS, txe hS, txf hS, txg hS, txh hS, txi hS, txj hS, txk hS, st_9_m1 hS, he, hs]; first | done | omega)) (by first | assumption | (simp (disch := omega) only [up2_ne, up2_eq, txa hS, txb hS, txc hS, txd hS, txe hS, txf hS, txg hS, txh hS, txi hS, txj hS, txk hS, st_9_m1 hS, he, hs]; first | done | rfl | omega)) rfl rfl ?_
  try simp (disch := omega) only [up2_ne, up2_eq, txa hS, txb hS, txc hS, txd hS, txe hS, txf hS, txg hS, txh hS, txi hS, txj hS, txk hS, st_9_m1 hS, he, hs]
  refine wp_alen1 dX10_valueOf_6 (by first | omega | (simp (disch := omega) only [up2_ne, up2_eq, txa hS, txb hS, txc hS, txd hS, txe hS, txf hS, txg hS, txh hS, txi hS, txj hS, txk hS, st_9_m1 hS, he, hs]; first | done | omega)) (by first | omega | (simp (disch := omega) only [up2_ne, up2_eq, txa hS, txb hS, txc hS, txd hS, txe hS, txf hS, txg hS, txh hS, txi hS, txj hS, txk hS, st_9_m1 hS, he, hs]; first | done | omega)) ?_
  try simp (disch := omega) only [up2_ne, up2_eq, txa hS, txb hS, txc hS, txd hS, txe hS, txf hS, txg hS, txh hS, txi hS, txj hS, txk hS, st_9_m1 hS, he, hs]
  refine wp_iconst dX10_valueOf_7 ?_
  refine wp_isub dX10_valueOf_8 ?_
  refine wp_cSN3 okX11_isWithin wX10_25 dX10_valueOf_9 rfl (Nat.le_of_ble_eq_true rfl) (Nat.le_of_ble_eq_true rfl) (s_X11_isWithin (by exact ⟨by omega, by omega⟩) In0 (by exact ⟨by decide, by decide⟩)) (Nat.zero_le _) ?_
  try simp (disch := omega) only [up2_ne, up2_eq, txa hS, txb hS, txc hS, txd hS, txe hS, txf hS, txg hS, txh hS, txi hS, txj hS, txk hS, st_9_m1 hS, he, hs]
  refine wp_ifB_ne (tgt := 17) dX10_valueOf_12 (by decide) (fun c4 => ?_) (fun c4 => by exfalso; omega)
  refine wp_aload_n rfl rfl dX10_valueOf_17 ?_
  refine wp_iconst dX10_valueOf_18 ?_
  refine wp_putfield1 (z := 11) (kI := 4) fX10_29 dX10_valueOf_19 (by first | omega | (simp (disch := omega) only [up2_ne, up2_eq, txa hS, txb hS, txc hS, txd hS, txe hS, txf hS, txg hS, txh hS, txi hS, txj hS, txk hS, st_9_m1 hS, he, hs]; first | done | omega)) (by first | assumption | (simp (disch := omega) only [up2_ne, up2_eq, txa hS, txb hS, txc hS, txd hS, txe hS, txf hS, txg hS, txh hS, txi hS, txj hS, txk hS, st_9_m1 hS, he, hs]; first | done | rfl | omega)) rfl rfl ?_
  refine wp_iload_n rfl rfl dX10_valueOf_22 ?_
  refine wp_if_ne (tgt := 30) (by first | assumption | exact bI_in _ | exact ⟨by omega, by omega⟩ | exact iAnd_in | exact iOr_in | exact iShr_in | exact iShl_in | exact iXor_in | exact hxs _) dX10_valueOf_23 (by decide) (fun c5 => ?_) (fun c5 => ?_)
  · refine wp_aload_n rfl rfl dX10_valueOf_30 ?_
    refine wp_getfield1 (z := 11) (kI := 1) fX10_15 dX10_valueOf_31 (by first | omega | (simp (disch := omega) only [up2_ne, up2_eq, txa hS, txb hS, txc hS, txd hS, txe hS, txf hS, txg hS, txh hS, txi hS, txj hS, txk hS, st_9_m1 hS, he, hs]; first | done | omega)) (by first | assumption | (simp (disch := omega) only [up2_ne, up2_eq, txa hS, txb hS, txc hS, txd hS, txe hS, txf hS, txg hS, txh hS, txi hS, txj hS, txk hS, st_9_m1 hS, he, hs]; first | done | rfl | omega)) rfl rfl ?_
    try simp (disch := omega) only [up2_ne, up2_eq, txa hS, txb hS, txc hS, txd hS, txe hS, txf hS, txg hS, txh hS, txi hS, txj hS, txk hS, st_9_m1 hS, he, hs]
    refine wp_iload_n rfl rfl dX10_valueOf_34 ?_
    refine wp_iconst dX10_valueOf_35 ?_
    refine wp_isub dX10_valueOf_36 ?_
    refine wp_iaload1 dX10_valueOf_37 (by first | omega | (simp (disch := omega) only [up2_ne, up2_eq, txa hS, txb hS, txc hS, txd hS, txe hS, txf hS, txg hS, txh hS, txi hS, txj hS, txk hS, st_9_m1 hS, he, hs]; first | done | omega)) (by first | assumption | (simp (disch := omega) only [up2_ne, up2_eq, txa hS, txb hS, txc hS, txd hS, txe hS, txf hS, txg hS, txh hS, txi hS, txj hS, txk hS, st_9_m1 hS, he, hs]; first | done | rfl | omega)) (by first | omega | (simp (disch := omega) only [up2_ne, up2_eq, txa hS, txb hS, txc hS, txd hS, txe hS, txf hS, txg hS, txh hS, txi hS, txj hS, txk hS, st_9_m1 hS, he, hs]; first | done | omega)) (by first | omega | (simp (disch := omega) only [up2_ne, up2_eq, txa hS, txb hS, txc hS, txd hS, txe hS, txf hS, txg hS, txh hS, txi hS, txj hS, txk hS, st_9_m1 hS, he, hs]; first | done | omega)) ?_
    try simp (disch := omega) only [up2_ne, up2_eq, txa hS, txb hS, txc hS, txd hS, txe hS, txf hS, txg hS, txh hS, txi hS, txj hS, txk hS, st_9_m1 hS, he, hs]
    refine wp_istore_n rfl dX10_valueOf_38 rfl (Nat.le_of_ble_eq_true rfl) rfl ?_
    try simp only [List.set_cons_zero, List.set_cons_succ]
    refine wp_iload_n rfl rfl dX10_valueOf_39 ?_
    refine wp_istore dX10_valueOf_40 rfl (Nat.le_of_ble_eq_true rfl) rfl ?_
    try simp only [List.set_cons_zero, List.set_cons_succ]
    have l0 := loop 0 (by omega) (up2 h (40 + t) 4 0) ⟨hS.upt t0 t1 (by omega), fun x k z => up2_ne (by omega), up2_eq, trivial, fun x hx => absurd hx (List.not_mem_nil)⟩
    rw [show s + ((0 : Nat) : Int) = s by omega] at l0
    first
      | exact l0
      | (have z := hs0 (by omega)
         subst z
         exact l0)
  · refine wp_iconst dX10_valueOf_26 ?_
    refine wp_goto (tgt := 38) dX10_valueOf_27 (by decide) ?_
    refine wp_istore_n rfl dX10_valueOf_38 rfl (Nat.le_of_ble_eq_true rfl) rfl ?_
    try simp only [List.set_cons_zero, List.set_cons_succ]
    refine wp_iload_n rfl rfl dX10_valueOf_39 ?_
    refine wp_istore dX10_valueOf_40 rfl (Nat.le_of_ble_eq_true rfl) rfl ?_
    try simp only [List.set_cons_zero, List.set_cons_succ]
    have l0 := loop 0 (by omega) (up2 h (40 + t) 4 0) ⟨hS.upt t0 t1 (by omega), fun x k z => up2_ne (by omega), up2_eq, trivial, fun x hx => absurd hx (List.not_mem_nil)⟩
    rw [show s + ((0 : Nat) : Int) = s by omega] at l0
    first
      | exact l0
      | (have z := hs0 (by omega)
         subst z
         exact l0)
