/-! ===== choose: the reference, the pair ===== -/
def sW (m : mH) (S : Int) (n : Nat) : Int := sm (fun a => if bt S a = 1 then wC m a else 0) n
def sC (m : mH) (S : Int) (n : Nat) : Int := sm (fun a => if bt S a = 1 then m 215 a else 0) n
def gdB (m : mH) (f S : Int) : Nat → Int
  | 0 => 1
  | n + 1 => if bt S n = 1 ∧ ¬ fitP m f n then 0 else gdB m f S n
theorem gdB_01 {m : mH} {f S : Int} : ∀ n : Nat, gdB m f S n = 0 ∨ gdB m f S n = 1
  | 0 => Or.inr rfl
  | n + 1 => by
    rw [gdB]
    split
    · exact Or.inl rfl
    · exact gdB_01 n
abbrev sT (m : mH) (S : Int) (n : Nat) : tri := (sW m S n, sC m S n, S)
def rb (m : mH) (f L : Int) (A : Nat) : Nat → tri
  | 0 => (0, 0, 0)
  | n + 1 => if gdB m f ((n : Int) + 1) A = 1 ∧ sC m ((n : Int) + 1) A ≤ L ∧ ((rb m f L A n).1 < sW m ((n : Int) + 1) A ∨ (sW m ((n : Int) + 1) A = (rb m f L A n).1 ∧ sC m ((n : Int) + 1) A < (rb m f L A n).2.1)) then sT m ((n : Int) + 1) A else rb m f L A n
theorem rb_ok {m : mH} {f L : Int} {A : Nat} : ∀ N : Nat, (rb m f L A N = (0, 0, 0) ∨ ∃ S : Int, (1 ≤ S ∧ S ≤ N) ∧ gdB m f S A = 1 ∧ sC m S A ≤ L ∧ rb m f L A N = sT m S A) ∧ tge (rb m f L A N) (0, 0, 0) ∧ (∀ S : Int, 1 ≤ S → S ≤ N → gdB m f S A = 1 → sC m S A ≤ L → tge (rb m f L A N) (sT m S A)) ∧ (0 ≤ (rb m f L A N).2.2 ∧ (rb m f L A N).2.2 ≤ N)
  | 0 => ⟨Or.inl rfl, tge_rf _, fun S h1 h2 => by exfalso; omega, Int.le_refl _, Int.le_refl _⟩
  | n + 1 => by
    obtain ⟨i1, i2, i3, i4⟩ := rb_ok (m := m) (f := f) (L := L) (A := A) n
    rw [rb]
    have e : ((n + 1 : Nat) : Int) = (n : Int) + 1 := by omega
    rw [e]
    by_cases q : gdB m f ((n : Int) + 1) A = 1 ∧ sC m ((n : Int) + 1) A ≤ L ∧ ((rb m f L A n).1 < sW m ((n : Int) + 1) A ∨ (sW m ((n : Int) + 1) A = (rb m f L A n).1 ∧ sC m ((n : Int) + 1) A < (rb m f L A n).2.1))
    · rw [if_pos q]
      have h0 : tge (sT m ((n : Int) + 1) A) (rb m f L A n) := by
        have q3 := q.2.2
        show (rb m f L A n).1 < sW m ((n : Int) + 1) A ∨ ((rb m f L A n).1 = sW m ((n : Int) + 1) A ∧ (sC m ((n : Int) + 1) A < (rb m f L A n).2.1 ∨ _))
        omega
      refine ⟨Or.inr ⟨(n : Int) + 1, ⟨by omega, Int.le_refl _⟩, q.1, q.2.1, rfl⟩, tge_tr h0 i2, fun S h1 h2 h3 h4 => ?_, by show (0 : Int) ≤ (n : Int) + 1; omega, Int.le_refl _⟩
      by_cases c : S = (n : Int) + 1
      · rw [c]
        exact tge_rf _
      · exact tge_tr h0 (i3 S h1 (by omega) h3 h4)
    · rw [if_neg q]
      refine ⟨?_, i2, fun S h1 h2 h3 h4 => ?_, i4.1, by omega⟩
      · rcases i1 with z | ⟨S, z1, z2⟩
        · exact Or.inl z
        · exact Or.inr ⟨S, ⟨z1.1, by omega⟩, z2⟩
      · by_cases c : S = (n : Int) + 1
        · rw [c] at h3 h4 ⊢
          have q2 : ¬ ((rb m f L A n).1 < sW m ((n : Int) + 1) A ∨ (sW m ((n : Int) + 1) A = (rb m f L A n).1 ∧ sC m ((n : Int) + 1) A < (rb m f L A n).2.1)) := fun y => q ⟨h3, h4, y⟩
          show sW m ((n : Int) + 1) A < (rb m f L A n).1 ∨ (sW m ((n : Int) + 1) A = (rb m f L A n).1 ∧ ((rb m f L A n).2.1 < sC m ((n : Int) + 1) A ∨ ((rb m f L A n).2.1 = sC m ((n : Int) + 1) A ∧ (rb m f L A n).2.2 ≤ (n : Int) + 1)))
          omega
        · exact i3 S h1 (by omega) h3 h4
def fl (m : mH) (f : Int) : Nat → List tri
  | 0 => []
  | n + 1 => if fitP m f n then fl m f n ++ [ti m n] else fl m f n
theorem bt_lo {S : Int} {n : Nat} (h0 : 0 ≤ S) (h1 : S < 2 ^ n) (n14 : n ≤ 14) : bt S n = 0 := by
  have h2 := p2_14 n14
  rw [bt_eq h0 (by omega) (by omega) (by omega), Int.toNat_natCast, Int.ediv_eq_zero_of_lt h0 h1]
  rfl
theorem bt_hi {S : Int} {n : Nat} (h0 : 0 ≤ S) (h1 : S < 2 ^ n) (n14 : n < 14) : bt (S + 2 ^ n) n = 1 ∧ ∀ k : Nat, k < n → bt (S + 2 ^ n) k = bt S k := by
  have h2 := p2_14 (a := n) (by omega)
  have h3 := p2_pos (k := n)
  constructor
  · rw [bt_eq (by omega) (by omega) (by omega) (by omega), Int.toNat_natCast, Int.add_ediv_of_dvd_right ⟨1, (Int.mul_one _).symm⟩, Int.ediv_eq_zero_of_lt h0 h1, Int.ediv_self (by omega)]
    rfl
  · intro k hk
    have e : (2 : Int) ^ n = 2 ^ k * (2 * 2 ^ (n - k - 1)) := by
      rw [← Int.pow_succ', ← Int.pow_add]
      congr 1
      omega
    have h4 := p2_pos (k := k)
    rw [bt_eq (by omega) (by omega) (by omega) (by omega), bt_eq h0 (by omega) (by omega) (by omega), Int.toNat_natCast, e, Int.add_mul_ediv_left _ _ (by omega)]
    omega
theorem sW_hi {m : mH} {S : Int} {n : Nat} (h0 : 0 ≤ S) (h1 : S < 2 ^ n) (n14 : n < 14) : sT m (S + 2 ^ n) (n + 1) = tadd (sT m S n) (ti m n) := by
  have hb := bt_hi h0 h1 n14
  have e1 : sW m (S + 2 ^ n) (n + 1) = sW m S n + wC m n := by
    unfold sW
    rw [sm, if_pos hb.1]
    congr 1
    exact sm_congr n (fun i hi => by rw [hb.2 i hi])
  have e2 : sC m (S + 2 ^ n) (n + 1) = sC m S n + m 215 n := by
    unfold sC
    rw [sm, if_pos hb.1]
    congr 1
    exact sm_congr n (fun i hi => by rw [hb.2 i hi])
  show (sW m (S + 2 ^ n) (n + 1), sC m (S + 2 ^ n) (n + 1), S + 2 ^ n) = (sW m S n + wC m n, sC m S n + m 215 n, S + 2 ^ ((n : Int)).toNat)
  rw [e1, e2, Int.toNat_natCast]
theorem sW_lo {m : mH} {S : Int} {n : Nat} (h0 : 0 ≤ S) (h1 : S < 2 ^ n) (n14 : n ≤ 14) : sT m S (n + 1) = sT m S n := by
  have hb := bt_lo h0 h1 n14
  show (sm _ (n + 1), sm _ (n + 1), S) = _
  rw [sm, sm, if_neg (by omega), if_neg (by omega), Int.add_zero, Int.add_zero]
  rfl
theorem gdB_cg {m : mH} {f S S' : Int} : ∀ n : Nat, (∀ k : Nat, k < n → bt S k = bt S' k) → gdB m f S n = gdB m f S' n
  | 0, _ => rfl
  | n + 1, h => by rw [gdB, gdB, h n (by omega), gdB_cg n (fun k hk => h k (by omega))]
theorem fl_in {m : mH} {f : Int} : ∀ n : Nat, n ≤ 14 → ∀ S : Int, 0 ≤ S → S < 2 ^ n → gdB m f S n = 1 → sT m S n ∈ sbs (fl m f n)
  | 0, _, S, h0, h1, _ => by
    have : S = 0 := by
      have e : (2 : Int) ^ 0 = 1 := rfl
      omega
    subst this
    exact List.mem_singleton.mpr rfl
  | n + 1, hn, S, h0, h1, hg => by
    have ih := fl_in (m := m) (f := f) n (by omega)
    rw [gdB] at hg
    rw [fl]
    have e2 : (2 : Int) ^ (n + 1) = 2 ^ n * 2 := Int.pow_succ _ _
    by_cases c : S < 2 ^ n
    · have hb := bt_lo h0 c (by omega)
      rw [if_neg (by omega)] at hg
      rw [sW_lo h0 c (by omega)]
      have := ih S h0 c hg
      split
      · exact (sbs_app _ _).mpr (Or.inr this)
      · exact this
    · obtain ⟨S', rfl⟩ : ∃ S', S = S' + 2 ^ n := ⟨S - 2 ^ n, by omega⟩
      have hb := bt_hi (S := S') (n := n) (by omega) (by omega) (by omega)
      by_cases q : fitP m f n
      · rw [if_neg (fun z => z.2 q), gdB_cg n hb.2] at hg
        rw [if_pos q, sW_hi (by omega) (by omega) (by omega)]
        exact (sbs_app _ _).mpr (Or.inl ⟨_, ih S' (by omega) (by omega) hg, rfl⟩)
      · rw [if_pos ⟨hb.1, q⟩] at hg
        cases hg
theorem fl_out {m : mH} {f : Int} : ∀ n : Nat, n ≤ 14 → ∀ t ∈ sbs (fl m f n), ∃ S : Int, (0 ≤ S ∧ S < 2 ^ n) ∧ gdB m f S n = 1 ∧ t = sT m S n
  | 0, _, t, ht => ⟨0, ⟨Int.le_refl _, by decide⟩, rfl, by rw [List.mem_singleton.mp ht]; rfl⟩
  | n + 1, hn, t, ht => by
    have ih := fl_out (m := m) (f := f) n (by omega)
    have e2 : (2 : Int) ^ (n + 1) = 2 ^ n * 2 := Int.pow_succ _ _
    have hp := p2_pos (k := n)
    have lo : ∀ t ∈ sbs (fl m f n), ∃ S : Int, (0 ≤ S ∧ S < 2 ^ (n + 1)) ∧ gdB m f S (n + 1) = 1 ∧ t = sT m S (n + 1) := by
      intro t ht
      obtain ⟨S, s1, s2, s3⟩ := ih t ht
      refine ⟨S, ⟨s1.1, by omega⟩, ?_, ?_⟩
      · have hb := bt_lo s1.1 s1.2 (by omega)
        rw [gdB, if_neg (by omega)]
        exact s2
      · rw [sW_lo s1.1 s1.2 (by omega)]
        exact s3
    rw [fl] at ht
    split at ht
    · rename_i q
      rcases (sbs_app _ _).mp ht with ⟨t1, h1, rfl⟩ | h1
      · obtain ⟨S, s1, s2, s3⟩ := ih t1 h1
        have hb := bt_hi s1.1 s1.2 (by omega)
        refine ⟨S + 2 ^ n, ⟨by omega, by omega⟩, ?_, ?_⟩
        · rw [gdB, if_neg (fun z => z.2 q), gdB_cg n hb.2]
          exact s2
        · rw [sW_hi s1.1 s1.2 (by omega), s3]
      · exact lo t h1
    · exact lo t ht
theorem fl_itL {m : mH} {f : Int} : ∀ n : Nat, (itL m f n).map (ti m) = (fl m f n).filter (fun t => decide (0 < t.1 ∧ t.2.1 ≤ m 203 f))
  | 0 => rfl
  | n + 1 => by
    have ih := fl_itL (m := m) (f := f) n
    rw [itL, fl]
    by_cases q : fitP m f n
    · rw [if_pos q, List.filter_append, ← ih]
      by_cases c : 0 < wC m n ∧ m 215 n ≤ m 203 f
      · rw [if_pos ⟨q, c⟩, List.map_append, List.filter_cons, if_pos (decide_eq_true (show 0 < (ti m n).1 ∧ (ti m n).2.1 ≤ m 203 f from c))]
        rfl
      · rw [if_neg (fun z => c z.2), List.filter_cons, if_neg (show ¬ (decide (0 < (ti m n).1 ∧ (ti m n).2.1 ≤ m 203 f) = true) from fun z => c (of_decide_eq_true z))]
        exact (List.append_nil _).symm
    · rw [if_neg (fun z => q z.1), if_neg q]
      exact ih
theorem fl_1 {j : Nat} {m : mH} (H : Inv j m) {f : Int} : ∀ n : Nat, (n : Int) ≤ m 200 10 → ∀ x ∈ fl m f n, 1 ≤ x.2.1
  | 0, _, x, hx => absurd hx List.not_mem_nil
  | n + 1, hn, x, hx => by
    rw [fl] at hx
    split at hx
    · rcases List.mem_append.mp hx with z | z
      · exact fl_1 H n (by omega) x z
      · rw [List.mem_singleton.mp z]
        exact gs1 H (by omega) (by omega)
    · exact fl_1 H n (by omega) x hx
theorem chV_rb {j : Nat} {m : mH} (H : Inv j m) {f : Int} : chV m f = (rb m f (m 203 f) (m 200 10).toNat (2 ^ (m 200 10).toNat - 1)).2.2 := by
  have hn := H.ns
  generalize hA : (m 200 10).toNat = A
  have hA14 : A ≤ 14 := by omega
  have hp : (1 : Nat) ≤ 2 ^ A := Nat.one_le_two_pow
  have hpI : (2 : Int) ^ A = ((2 ^ A : Nat) : Int) := by rw [Int.natCast_pow]; rfl
  unfold chV
  rw [hA, fl_itL]
  have hs := sch_ok (L := m 203 f) ((fl m f A).filter (fun t => decide (0 < t.1 ∧ t.2.1 ≤ m 203 f))) (0, 0, 0) (0, 0, 0) (fun x hx => by
    have h1 := List.mem_filter.mp hx
    have h2 := of_decide_eq_true h1.2
    have h3 := fl_1 H A (by omega) x h1.1
    exact ⟨h2.1, by omega⟩)
  have hr := rb_ok (m := m) (f := f) (L := m 203 f) (A := A) (2 ^ A - 1)
  have e0 : ∀ t : tri, tadd (0, 0, 0) t = t := fun t => by unfold tadd; simp only [Int.zero_add]
  have e1 : ∀ t : tri, ((0, 0, 0) : tri).2.1 + t.2.1 = t.2.1 := fun t => Int.zero_add _
  rw [best_one (L := m 203 f) (P := fun t => decide (0 < t.1 ∧ t.2.1 ≤ m 203 f)) (l := fl m f A) (B := sch (m 203 f) ((fl m f A).filter (fun t => decide (0 < t.1 ∧ t.2.1 ≤ m 203 f))) (0, 0, 0) (0, 0, 0)) (R := rb m f (m 203 f) A (2 ^ A - 1)) (fl_1 H A (by omega)) (fun x _ hx => by
      have h2 := of_decide_eq_false hx
      omega) ?_ hs.1 ?_ ?_ hr.2.1 ?_]
  · rcases hs.2.2 with z | ⟨t, z1, z2, z3⟩
    · exact Or.inl z
    · rw [e0] at z3
      rw [e1] at z2
      exact Or.inr ⟨by rw [z3]; exact z1, by rw [z3]; exact z2⟩
  · intro t h1 h2
    have := hs.2.1 t h1 (by rw [e1]; exact h2)
    rw [e0] at this
    exact this
  · rcases hr.1 with z | ⟨S, z1, z2, z3, z4⟩
    · exact Or.inl z
    · rw [z4]
      exact Or.inr ⟨fl_in A hA14 S (by omega) (by omega) z2, z3⟩
  · intro t h1 h2
    obtain ⟨S, s1, s2, s3⟩ := fl_out A hA14 t h1
    rw [s3] at h2 ⊢
    by_cases c : S = 0
    · subst c
      have ez : ∀ n : Nat, n ≤ 14 → sW m 0 n = 0 ∧ sC m 0 n = 0 := fun n hn => ⟨sm_zero n (fun i hi => if_neg (by rw [bt_z (by omega) (by omega)]; decide)), sm_zero n (fun i hi => if_neg (by rw [bt_z (by omega) (by omega)]; decide))⟩
      have := ez A hA14
      show tge _ (sW m 0 A, sC m 0 A, 0)
      rw [this.1, this.2]
      exact hr.2.1
    · exact hr.2.2.1 S (by omega) (by omega) s2 h2
