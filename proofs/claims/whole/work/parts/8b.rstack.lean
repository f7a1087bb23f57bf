/-! ===== text: the reference's stack ===== -/
def rkR (v : Int) : Int := if v = 42 then 6 else if v = 43 then 5 else if v = 45 then 5 else if v = 60 then 4 else if v = 61 then 4 else if v = 110 then 1 else if v = 111 then 2 else if v = 112 then 3 else if v = 300 then 7 else 0
def vW (e : Int) : Prop := e = 10 ∨ e = 11 ∨ e = 12 ∨ e = 14 ∨ e = 17 ∨ e = 18 ∨ e = 19 ∨ e = 20 ∨ e = 21 ∨ e = 24
theorem rkR_T {t : Int} (t0 : 0 ≤ t) (t1 : t ≤ 23) : rkR (rTk t) = rkT t := by
  have key : ∀ k : Nat, k < 24 → rkR (rTk (k : Int)) = rkT (k : Int) := by decide +kernel
  have := key t.toNat (by omega)
  rw [Int.toNat_of_nonneg t0] at this
  exact this
theorem vW_i {e : Int} (h : vW e) : rkR (rW e) = rkT e ∧ (rW e = 40 ↔ e = 14) ∧ (rW e = 112 ↔ e = 12) ∧ (rW e = 300 ↔ e = 24) ∧ 0 ≤ rW e ∧ rW e ≤ 300 ∧ (1 ≤ rkT e → rW e = actOf (-1 - e) ∧ -1 - e < 0) := by
  rcases h with rfl | rfl | rfl | rfl | rfl | rfl | rfl | rfl | rfl | rfl <;> decide
def wc (w : List Int) (k : Nat) : Int := w.getD (w.length - 1 - k) 0
theorem wc_top {e : Int} {w : List Int} : wc (e :: w) w.length = e := by
  unfold wc
  rw [List.length_cons, show w.length + 1 - 1 - w.length = 0 by omega]
  rfl
theorem wc_lt {e : Int} {w : List Int} {k : Nat} (h : k < w.length) : wc (e :: w) k = wc w k := by
  unfold wc
  rw [List.length_cons, show w.length + 1 - 1 - k = (w.length - 1 - k) + 1 by omega]
  rfl
theorem wc_mem : ∀ {w : List Int} {k : Nat}, k < w.length → wc w k ∈ w
  | [], k, h => absurd h (Nat.not_lt_zero k)
  | e :: w, k, h => by
    by_cases c : k = w.length
    · rw [c, wc_top]
      exact List.mem_cons_self
    · have h' : k < w.length + 1 := h
      rw [wc_lt (by omega)]
      exact List.mem_cons_of_mem _ (wc_mem (by omega))
theorem wc_14 : ∀ {w : List Int}, (∃ j : Nat, j < w.length ∧ wc w j = 14) ↔ 14 ∈ w
  | [] => ⟨fun ⟨j, h, _⟩ => absurd h (Nat.not_lt_zero j), fun h => absurd h List.not_mem_nil⟩
  | e :: w => by
    constructor
    · rintro ⟨j, h1, h2⟩
      rw [← h2]
      exact wc_mem h1
    · intro h
      rcases List.mem_cons.mp h with z | z
      · exact ⟨w.length, Nat.lt_succ_self _, by rw [wc_top]; exact z.symm⟩
      · obtain ⟨j, h1, h2⟩ := (wc_14 (w := w)).mpr z
        exact ⟨j, Nat.lt_succ_of_lt h1, by rw [wc_lt h1]; exact h2⟩
def opN (w : List Int) : Nat → Nat
  | 0 => 0
  | k + 1 => opN w k + (if wc w k = 14 ∨ wc w k = 12 ∨ wc w k = 24 then 1 else 0)
theorem opN_c {e : Int} {w : List Int} : ∀ k : Nat, k ≤ w.length → opN (e :: w) k = opN w k
  | 0, _ => rfl
  | k + 1, h => by rw [opN, opN, opN_c k (by omega), wc_lt (by omega)]
theorem opN_n : ∀ w : List Int, opN w w.length = opn w
  | [] => rfl
  | e :: w => by
    rw [List.length_cons, opN, opN_c w.length (Nat.le_refl _), opN_n w, wc_top, opn]
theorem opN_b {w : List Int} : ∀ k : Nat, opN w k ≤ k
  | 0 => Nat.le_refl _
  | k + 1 => by
    have := opN_b (w := w) k
    rw [opN]
    split <;> omega
/-- what waits; what is written -/
def rWt (g : mH) (w : List Int) : Prop := g 200 43 = w.length ∧ (∀ e ∈ w, vW e) ∧ ∀ k : Nat, k < w.length → g 242 k = rW (wc w k)
def rOu (g : mH) (row : Int) (oo : List Int) : Prop := g 232 row = oo.length ∧ ∀ k : Nat, k < oo.length → g 233 (160 * row + k) = actOf (oo.getD k 0) ∧ g 234 (160 * row + k) = (if 0 ≤ oo.getD k 0 then oo.getD k 0 else 0)
abbrev sfr (g g' : mH) (row : Int) : Prop := ∀ x k : Int, ¬ ((x = 200 ∧ k = 43) ∨ (x = 232 ∧ k = row) ∨ ((x = 233 ∨ x = 234) ∧ 160 * row ≤ k ∧ k < 160 * row + 160)) → g' x k = g x k
theorem rOu_add {g : mH} {row c : Int} {oo : List Int} (R : rOu g row oo) : rOu (up2 (up2 (up2 g 233 (160 * row + (oo.length : Nat)) (actOf c)) 234 (160 * row + (oo.length : Nat)) (if 0 ≤ c then c else 0)) 232 row ((oo.length : Nat) + 1)) row (oo ++ [c]) := by
  have hl : (oo ++ [c]).length = oo.length + 1 := by rw [List.length_append, List.length_singleton]
  refine ⟨by rw [up2_eq, hl]; rfl, fun k hk => ?_⟩
  by_cases d : k = oo.length
  · rw [d, getD_e]
    constructor
    · rw [up2_ne (by omega), up2_ne (by omega), up2_eq]
    · rw [up2_ne (by omega), up2_eq]
  · have h := R.2 k (by omega)
    rw [getD_l (by omega), up2_ne (by omega), up2_ne (by omega), up2_ne (by omega), up2_ne (by omega), up2_ne (by omega), up2_ne (by omega)]
    exact h
theorem stl_len {r : Int} : ∀ (w oo : List Int), (stl r w oo).1.length + (stl r w oo).2.length = w.length + oo.length
  | [], oo => rfl
  | e :: w, oo => by
    rw [stl]
    split
    · rw [stl_len w, List.length_append, List.length_singleton, List.length_cons]
      omega
    · rfl
theorem stl_v {r : Int} : ∀ (w oo : List Int), (∀ e ∈ w, vW e) → ∀ e ∈ (stl r w oo).1, vW e
  | [], oo, h => h
  | e :: w, oo, h => by
    rw [stl]
    split
    · exact stl_v w _ (fun x hx => h x (List.mem_cons_of_mem _ hx))
    · exact h
theorem rWt_tl {g : mH} {e : Int} {w : List Int} (R : rWt g (e :: w)) : rWt (up2 g 200 43 w.length) w := ⟨up2_eq, fun x hx => R.2.1 x (List.mem_cons_of_mem _ hx), fun k hk => by
  rw [up2_ne (by omega), R.2.2 k (Nat.lt_succ_of_lt hk), wc_lt hk]⟩
theorem rWt_cg {g g' : mH} {w : List Int} (R : rWt g w) (e1 : g' 200 43 = g 200 43) (e2 : ∀ k, g' 242 k = g 242 k) : rWt g' w := ⟨by rw [e1]; exact R.1, R.2.1, fun k hk => by rw [e2]; exact R.2.2 k hk⟩
theorem rOu_cg {g g' : mH} {row : Int} {oo : List Int} (R : rOu g row oo) (e1 : g' 232 row = g 232 row) (e2 : ∀ k, g' 233 k = g 233 k) (e3 : ∀ k, g' 234 k = g 234 k) : rOu g' row oo := ⟨by rw [e1]; exact R.1, fun k hk => by rw [e2, e3]; exact R.2 k hk⟩
theorem s_X12_rankOf {u : gT} {h : mH} {d b : Nat} {v : Int} (i1 : InI v) : Det (gX (gq u)) MX12_rankOf d b [(0, v)] h (0, rkR v) h := by
  intro Q hQ
  show WP (gX (gq u)) MX12_rankOf d b Q 0 [(0, v)] [] h
  refine wp_iload_n rfl rfl dX12_rankOf_0 ?_
  by_cases c1 : v = 42
  · refine wp_lookup (off := 93) (tgt := 94) (by first | assumption | exact bI_in _ | exact ⟨by omega, by omega⟩ | exact iAnd_in | exact iOr_in | exact iShr_in | exact iShl_in | exact iXor_in | exact hxs _) dX12_rankOf_1 rfl (by rw [c1]; rfl) (by decide) ?_
    refine wp_bipush (by decide) dX12_rankOf_94 ?_
    refine wp_iret dX12_rankOf_96 rfl ?_
    first
      | (subst_vars; exact hQ)
      | (have e : rkR v = 0 := by
           unfold rkR
           rw [if_neg (by omega), if_neg (by omega), if_neg (by omega), if_neg (by omega), if_neg (by omega), if_neg (by omega), if_neg (by omega), if_neg (by omega), if_neg (by omega)]
         rw [e] at hQ
         exact hQ)
  · skip
    by_cases c2 : v = 43
    · refine wp_lookup (off := 91) (tgt := 92) (by first | assumption | exact bI_in _ | exact ⟨by omega, by omega⟩ | exact iAnd_in | exact iOr_in | exact iShr_in | exact iShl_in | exact iXor_in | exact hxs _) dX12_rankOf_1 rfl (by rw [c2]; rfl) (by decide) ?_
      refine wp_iconst dX12_rankOf_92 ?_
      refine wp_iret dX12_rankOf_93 rfl ?_
      first
        | (subst_vars; exact hQ)
        | (have e : rkR v = 0 := by
             unfold rkR
             rw [if_neg (by omega), if_neg (by omega), if_neg (by omega), if_neg (by omega), if_neg (by omega), if_neg (by omega), if_neg (by omega), if_neg (by omega), if_neg (by omega)]
           rw [e] at hQ
           exact hQ)
    · skip
      by_cases c3 : v = 45
      · refine wp_lookup (off := 91) (tgt := 92) (by first | assumption | exact bI_in _ | exact ⟨by omega, by omega⟩ | exact iAnd_in | exact iOr_in | exact iShr_in | exact iShl_in | exact iXor_in | exact hxs _) dX12_rankOf_1 rfl (by rw [c3]; rfl) (by decide) ?_
        refine wp_iconst dX12_rankOf_92 ?_
        refine wp_iret dX12_rankOf_93 rfl ?_
        first
          | (subst_vars; exact hQ)
          | (have e : rkR v = 0 := by
               unfold rkR
               rw [if_neg (by omega), if_neg (by omega), if_neg (by omega), if_neg (by omega), if_neg (by omega), if_neg (by omega), if_neg (by omega), if_neg (by omega), if_neg (by omega)]
             rw [e] at hQ
             exact hQ)
      · skip
        by_cases c4 : v = 60
        · refine wp_lookup (off := 89) (tgt := 90) (by first | assumption | exact bI_in _ | exact ⟨by omega, by omega⟩ | exact iAnd_in | exact iOr_in | exact iShr_in | exact iShl_in | exact iXor_in | exact hxs _) dX12_rankOf_1 rfl (by rw [c4]; rfl) (by decide) ?_
          refine wp_iconst dX12_rankOf_90 ?_
          refine wp_iret dX12_rankOf_91 rfl ?_
          first
            | (subst_vars; exact hQ)
            | (have e : rkR v = 0 := by
                 unfold rkR
                 rw [if_neg (by omega), if_neg (by omega), if_neg (by omega), if_neg (by omega), if_neg (by omega), if_neg (by omega), if_neg (by omega), if_neg (by omega), if_neg (by omega)]
               rw [e] at hQ
               exact hQ)
        · skip
          by_cases c5 : v = 61
          · refine wp_lookup (off := 89) (tgt := 90) (by first | assumption | exact bI_in _ | exact ⟨by omega, by omega⟩ | exact iAnd_in | exact iOr_in | exact iShr_in | exact iShl_in | exact iXor_in | exact hxs _) dX12_rankOf_1 rfl (by rw [c5]; rfl) (by decide) ?_
            refine wp_iconst dX12_rankOf_90 ?_
            refine wp_iret dX12_rankOf_91 rfl ?_
            first
              | (subst_vars; exact hQ)
              | (have e : rkR v = 0 := by
                   unfold rkR
                   rw [if_neg (by omega), if_neg (by omega), if_neg (by omega), if_neg (by omega), if_neg (by omega), if_neg (by omega), if_neg (by omega), if_neg (by omega), if_neg (by omega)]
                 rw [e] at hQ
                 exact hQ)
          · skip
            by_cases c6 : v = 110
            · refine wp_lookup (off := 83) (tgt := 84) (by first | assumption | exact bI_in _ | exact ⟨by omega, by omega⟩ | exact iAnd_in | exact iOr_in | exact iShr_in | exact iShl_in | exact iXor_in | exact hxs _) dX12_rankOf_1 rfl (by rw [c6]; rfl) (by decide) ?_
              refine wp_iconst dX12_rankOf_84 ?_
              refine wp_iret dX12_rankOf_85 rfl ?_
              first
                | (subst_vars; exact hQ)
                | (have e : rkR v = 0 := by
                     unfold rkR
                     rw [if_neg (by omega), if_neg (by omega), if_neg (by omega), if_neg (by omega), if_neg (by omega), if_neg (by omega), if_neg (by omega), if_neg (by omega), if_neg (by omega)]
                   rw [e] at hQ
                   exact hQ)
            · skip
              by_cases c7 : v = 111
              · refine wp_lookup (off := 85) (tgt := 86) (by first | assumption | exact bI_in _ | exact ⟨by omega, by omega⟩ | exact iAnd_in | exact iOr_in | exact iShr_in | exact iShl_in | exact iXor_in | exact hxs _) dX12_rankOf_1 rfl (by rw [c7]; rfl) (by decide) ?_
                refine wp_iconst dX12_rankOf_86 ?_
                refine wp_iret dX12_rankOf_87 rfl ?_
                first
                  | (subst_vars; exact hQ)
                  | (have e : rkR v = 0 := by
                       unfold rkR
                       rw [if_neg (by omega), if_neg (by omega), if_neg (by omega), if_neg (by omega), if_neg (by omega), if_neg (by omega), if_neg (by omega), if_neg (by omega), if_neg (by omega)]
                     rw [e] at hQ
                     exact hQ)
              · skip
                by_cases c8 : v = 112
                · refine wp_lookup (off := 87) (tgt := 88) (by first | assumption | exact bI_in _ | exact ⟨by omega, by omega⟩ | exact iAnd_in | exact iOr_in | exact iShr_in | exact iShl_in | exact iXor_in | exact hxs _) dX12_rankOf_1 rfl (by rw [c8]; rfl) (by decide) ?_
                  refine wp_iconst dX12_rankOf_88 ?_
                  refine wp_iret dX12_rankOf_89 rfl ?_
                  first
                    | (subst_vars; exact hQ)
                    | (have e : rkR v = 0 := by
                         unfold rkR
                         rw [if_neg (by omega), if_neg (by omega), if_neg (by omega), if_neg (by omega), if_neg (by omega), if_neg (by omega), if_neg (by omega), if_neg (by omega), if_neg (by omega)]
                       rw [e] at hQ
                       exact hQ)
                · skip
                  by_cases c9 : v = 300
                  · refine wp_lookup (off := 96) (tgt := 97) (by first | assumption | exact bI_in _ | exact ⟨by omega, by omega⟩ | exact iAnd_in | exact iOr_in | exact iShr_in | exact iShl_in | exact iXor_in | exact hxs _) dX12_rankOf_1 rfl (by rw [c9]; rfl) (by decide) ?_
                    refine wp_bipush (by decide) dX12_rankOf_97 ?_
                    refine wp_iret dX12_rankOf_99 rfl ?_
                    first
                      | (subst_vars; exact hQ)
                      | (have e : rkR v = 0 := by
                           unfold rkR
                           rw [if_neg (by omega), if_neg (by omega), if_neg (by omega), if_neg (by omega), if_neg (by omega), if_neg (by omega), if_neg (by omega), if_neg (by omega), if_neg (by omega)]
                         rw [e] at hQ
                         exact hQ)
                  · skip
                    refine wp_lookup (off := 99) (tgt := 100) (by first | assumption | exact bI_in _ | exact ⟨by omega, by omega⟩ | exact iAnd_in | exact iOr_in | exact iShr_in | exact iShl_in | exact iXor_in | exact hxs _) dX12_rankOf_1 rfl (by simp [Op.lookupswitch.offset, Ne.symm c1, Ne.symm c2, Ne.symm c3, Ne.symm c4, Ne.symm c5, Ne.symm c6, Ne.symm c7, Ne.symm c8, Ne.symm c9]) (by decide) ?_
                    refine wp_iconst dX12_rankOf_100 ?_
                    refine wp_iret dX12_rankOf_101 rfl ?_
                    first
                      | (subst_vars; exact hQ)
                      | (have e : rkR v = 0 := by
                           unfold rkR
                           rw [if_neg (by omega), if_neg (by omega), if_neg (by omega), if_neg (by omega), if_neg (by omega), if_neg (by omega), if_neg (by omega), if_neg (by omega), if_neg (by omega)]
                         rw [e] at hQ
                         exact hQ)
theorem s_X12_add {u : gT} {g : mH} {d b : Nat} {row a what v : Int} (hS : St g) (r0 : 0 ≤ row) (r1 : row ≤ 17) (ha : g 232 row = a) (a0 : 0 ≤ a) (a1 : a < 160) : Det (gX (gq u)) MX12_add d b [(2, 200), (0, row), (0, what), (0, v)] g (9, 0) (up2 (up2 (up2 g 233 (160 * row + a) what) 234 (160 * row + a) v) 232 row (a + 1)) := by
  intro Q hQ
  show WP (gX (gq u)) MX12_add d b Q 0 [(2, 200), (0, row), (0, what), (0, v)] [] g
  refine wp_aload_n rfl rfl dX12_add_0 ?_
  refine wp_getfield1 (z := 13) (kI := 33) fX12_167 dX12_add_1 (by first | omega | (simp (disch := omega) only [up2_ne, up2_eq, ha, st_200_m1 hS, st_200_32 hS, st_200_33 hS, st_200_34 hS, st_232_m2 hS, st_232_m1 hS, st_233_m2 hS, st_233_m1 hS, st_234_m2 hS, st_234_m1 hS]; first | done | omega)) (by first | assumption | (simp (disch := omega) only [up2_ne, up2_eq, ha, st_200_m1 hS, st_200_32 hS, st_200_33 hS, st_200_34 hS, st_232_m2 hS, st_232_m1 hS, st_233_m2 hS, st_233_m1 hS, st_234_m2 hS, st_234_m1 hS]; first | done | rfl | omega)) rfl rfl ?_
  try simp (disch := omega) only [up2_ne, up2_eq, ha, st_200_m1 hS, st_200_32 hS, st_200_33 hS, st_200_34 hS, st_232_m2 hS, st_232_m1 hS, st_233_m2 hS, st_233_m1 hS, st_234_m2 hS, st_234_m1 hS]
  refine wp_sipush (by decide) dX12_add_4 ?_
  refine wp_iload_n rfl rfl dX12_add_7 ?_
  refine wp_imul dX12_add_8 ?_
  refine wp_aload_n rfl rfl dX12_add_9 ?_
  refine wp_getfield1 (z := 13) (kI := 32) fX12_164 dX12_add_10 (by first | omega | (simp (disch := omega) only [up2_ne, up2_eq, ha, st_200_m1 hS, st_200_32 hS, st_200_33 hS, st_200_34 hS, st_232_m2 hS, st_232_m1 hS, st_233_m2 hS, st_233_m1 hS, st_234_m2 hS, st_234_m1 hS]; first | done | omega)) (by first | assumption | (simp (disch := omega) only [up2_ne, up2_eq, ha, st_200_m1 hS, st_200_32 hS, st_200_33 hS, st_200_34 hS, st_232_m2 hS, st_232_m1 hS, st_233_m2 hS, st_233_m1 hS, st_234_m2 hS, st_234_m1 hS]; first | done | rfl | omega)) rfl rfl ?_
  try simp (disch := omega) only [up2_ne, up2_eq, ha, st_200_m1 hS, st_200_32 hS, st_200_33 hS, st_200_34 hS, st_232_m2 hS, st_232_m1 hS, st_233_m2 hS, st_233_m1 hS, st_234_m2 hS, st_234_m1 hS]
  refine wp_iload_n rfl rfl dX12_add_13 ?_
  refine wp_iaload1 dX12_add_14 (by first | omega | (simp (disch := omega) only [up2_ne, up2_eq, ha, st_200_m1 hS, st_200_32 hS, st_200_33 hS, st_200_34 hS, st_232_m2 hS, st_232_m1 hS, st_233_m2 hS, st_233_m1 hS, st_234_m2 hS, st_234_m1 hS]; first | done | omega)) (by first | assumption | (simp (disch := omega) only [up2_ne, up2_eq, ha, st_200_m1 hS, st_200_32 hS, st_200_33 hS, st_200_34 hS, st_232_m2 hS, st_232_m1 hS, st_233_m2 hS, st_233_m1 hS, st_234_m2 hS, st_234_m1 hS]; first | done | rfl | omega)) (by first | omega | (simp (disch := omega) only [up2_ne, up2_eq, ha, st_200_m1 hS, st_200_32 hS, st_200_33 hS, st_200_34 hS, st_232_m2 hS, st_232_m1 hS, st_233_m2 hS, st_233_m1 hS, st_234_m2 hS, st_234_m1 hS]; first | done | omega)) (by first | omega | (simp (disch := omega) only [up2_ne, up2_eq, ha, st_200_m1 hS, st_200_32 hS, st_200_33 hS, st_200_34 hS, st_232_m2 hS, st_232_m1 hS, st_233_m2 hS, st_233_m1 hS, st_234_m2 hS, st_234_m1 hS]; first | done | omega)) ?_
  try simp (disch := omega) only [up2_ne, up2_eq, ha, st_200_m1 hS, st_200_32 hS, st_200_33 hS, st_200_34 hS, st_232_m2 hS, st_232_m1 hS, st_233_m2 hS, st_233_m1 hS, st_234_m2 hS, st_234_m1 hS]
  refine wp_iadd dX12_add_15 ?_
  refine wp_iload_n rfl rfl dX12_add_16 ?_
  refine wp_iastore1 dX12_add_17 (by first | omega | (simp (disch := omega) only [up2_ne, up2_eq, ha, st_200_m1 hS, st_200_32 hS, st_200_33 hS, st_200_34 hS, st_232_m2 hS, st_232_m1 hS, st_233_m2 hS, st_233_m1 hS, st_234_m2 hS, st_234_m1 hS]; first | done | omega)) (by first | assumption | (simp (disch := omega) only [up2_ne, up2_eq, ha, st_200_m1 hS, st_200_32 hS, st_200_33 hS, st_200_34 hS, st_232_m2 hS, st_232_m1 hS, st_233_m2 hS, st_233_m1 hS, st_234_m2 hS, st_234_m1 hS]; first | done | rfl | omega)) (by first | omega | (simp (disch := omega) only [up2_ne, up2_eq, ha, st_200_m1 hS, st_200_32 hS, st_200_33 hS, st_200_34 hS, st_232_m2 hS, st_232_m1 hS, st_233_m2 hS, st_233_m1 hS, st_234_m2 hS, st_234_m1 hS]; first | done | omega)) (by first | omega | (simp (disch := omega) only [up2_ne, up2_eq, ha, st_200_m1 hS, st_200_32 hS, st_200_33 hS, st_200_34 hS, st_232_m2 hS, st_232_m1 hS, st_233_m2 hS, st_233_m1 hS, st_234_m2 hS, st_234_m1 hS]; first | done | omega)) ?_
  refine wp_aload_n rfl rfl dX12_add_18 ?_
  refine wp_getfield1 (z := 13) (kI := 34) fX12_170 dX12_add_19 (by first | omega | (simp (disch := omega) only [up2_ne, up2_eq, ha, st_200_m1 hS, st_200_32 hS, st_200_33 hS, st_200_34 hS, st_232_m2 hS, st_232_m1 hS, st_233_m2 hS, st_233_m1 hS, st_234_m2 hS, st_234_m1 hS]; first | done | omega)) (by first | assumption | (simp (disch := omega) only [up2_ne, up2_eq, ha, st_200_m1 hS, st_200_32 hS, st_200_33 hS, st_200_34 hS, st_232_m2 hS, st_232_m1 hS, st_233_m2 hS, st_233_m1 hS, st_234_m2 hS, st_234_m1 hS]; first | done | rfl | omega)) rfl rfl ?_
  try simp (disch := omega) only [up2_ne, up2_eq, ha, st_200_m1 hS, st_200_32 hS, st_200_33 hS, st_200_34 hS, st_232_m2 hS, st_232_m1 hS, st_233_m2 hS, st_233_m1 hS, st_234_m2 hS, st_234_m1 hS]
  refine wp_sipush (by decide) dX12_add_22 ?_
  refine wp_iload_n rfl rfl dX12_add_25 ?_
  refine wp_imul dX12_add_26 ?_
  refine wp_aload_n rfl rfl dX12_add_27 ?_
  refine wp_getfield1 (z := 13) (kI := 32) fX12_164 dX12_add_28 (by first | omega | (simp (disch := omega) only [up2_ne, up2_eq, ha, st_200_m1 hS, st_200_32 hS, st_200_33 hS, st_200_34 hS, st_232_m2 hS, st_232_m1 hS, st_233_m2 hS, st_233_m1 hS, st_234_m2 hS, st_234_m1 hS]; first | done | omega)) (by first | assumption | (simp (disch := omega) only [up2_ne, up2_eq, ha, st_200_m1 hS, st_200_32 hS, st_200_33 hS, st_200_34 hS, st_232_m2 hS, st_232_m1 hS, st_233_m2 hS, st_233_m1 hS, st_234_m2 hS, st_234_m1 hS]; first | done | rfl | omega)) rfl rfl ?_
  try simp (disch := omega) only [up2_ne, up2_eq, ha, st_200_m1 hS, st_200_32 hS, st_200_33 hS, st_200_34 hS, st_232_m2 hS, st_232_m1 hS, st_233_m2 hS, st_233_m1 hS, st_234_m2 hS, st_234_m1 hS]
  refine wp_iload_n rfl rfl dX12_add_31 ?_
  refine wp_iaload1 dX12_add_32 (by first | omega | (simp (disch := omega) only [up2_ne, up2_eq, ha, st_200_m1 hS, st_200_32 hS, st_200_33 hS, st_200_34 hS, st_232_m2 hS, st_232_m1 hS, st_233_m2 hS, st_233_m1 hS, st_234_m2 hS, st_234_m1 hS]; first | done | omega)) (by first | assumption | (simp (disch := omega) only [up2_ne, up2_eq, ha, st_200_m1 hS, st_200_32 hS, st_200_33 hS, st_200_34 hS, st_232_m2 hS, st_232_m1 hS, st_233_m2 hS, st_233_m1 hS, st_234_m2 hS, st_234_m1 hS]; first | done | rfl | omega)) (by first | omega | (simp (disch := omega) only [up2_ne, up2_eq, ha, st_200_m1 hS, st_200_32 hS, st_200_33 hS, st_200_34 hS, st_232_m2 hS, st_232_m1 hS, st_233_m2 hS, st_233_m1 hS, st_234_m2 hS, st_234_m1 hS]; first | done | omega)) (by first | omega | (simp (disch := omega) only [up2_ne, up2_eq, ha, st_200_m1 hS, st_200_32 hS, st_200_33 hS, st_200_34 hS, st_232_m2 hS, st_232_m1 hS, st_233_m2 hS, st_233_m1 hS, st_234_m2 hS, st_234_m1 hS]; first | done | omega)) ?_
  try simp (disch := omega) only [up2_ne, up2_eq, ha, st_200_m1 hS, st_200_32 hS, st_200_33 hS, st_200_34 hS, st_232_m2 hS, st_232_m1 hS, st_233_m2 hS, st_233_m1 hS, st_234_m2 hS, st_234_m1 hS]
  refine wp_iadd dX12_add_33 ?_
  refine wp_iload_n rfl rfl dX12_add_34 ?_
  refine wp_iastore1 dX12_add_35 (by first | omega | (simp (disch := omega) only [up2_ne, up2_eq, ha, st_200_m1 hS, st_200_32 hS, st_200_33 hS, st_200_34 hS, st_232_m2 hS, st_232_m1 hS, st_233_m2 hS, st_233_m1 hS, st_234_m2 hS, st_234_m1 hS]; first | done | omega)) (by first | assumption | (simp (disch := omega) only [up2_ne, up2_eq, ha, st_200_m1 hS, st_200_32 hS, st_200_33 hS, st_200_34 hS, st_232_m2 hS, st_232_m1 hS, st_233_m2 hS, st_233_m1 hS, st_234_m2 hS, st_234_m1 hS]; first | done | rfl | omega)) (by first | omega | (simp (disch := omega) only [up2_ne, up2_eq, ha, st_200_m1 hS, st_200_32 hS, st_200_33 hS, st_200_34 hS, st_232_m2 hS, st_232_m1 hS, st_233_m2 hS, st_233_m1 hS, st_234_m2 hS, st_234_m1 hS]; first | done | omega)) (by first | omega | (simp (disch := omega) only [up2_ne, up2_eq, ha, st_200_m1 hS, st_200_32 hS, st_200_33 hS, st_200_34 hS, st_232_m2 hS, st_232_m1 hS, st_233_m2 hS, st_233_m1 hS, st_234_m2 hS, st_234_m1 hS]; first | done | omega)) ?_
  refine wp_aload_n rfl rfl dX12_add_36 ?_
  refine wp_getfield1 (z := 13) (kI := 32) fX12_164 dX12_add_37 (by first | omega | (simp (disch := omega) only [up2_ne, up2_eq, ha, st_200_m1 hS, st_200_32 hS, st_200_33 hS, st_200_34 hS, st_232_m2 hS, st_232_m1 hS, st_233_m2 hS, st_233_m1 hS, st_234_m2 hS, st_234_m1 hS]; first | done | omega)) (by first | assumption | (simp (disch := omega) only [up2_ne, up2_eq, ha, st_200_m1 hS, st_200_32 hS, st_200_33 hS, st_200_34 hS, st_232_m2 hS, st_232_m1 hS, st_233_m2 hS, st_233_m1 hS, st_234_m2 hS, st_234_m1 hS]; first | done | rfl | omega)) rfl rfl ?_
  try simp (disch := omega) only [up2_ne, up2_eq, ha, st_200_m1 hS, st_200_32 hS, st_200_33 hS, st_200_34 hS, st_232_m2 hS, st_232_m1 hS, st_233_m2 hS, st_233_m1 hS, st_234_m2 hS, st_234_m1 hS]
  refine wp_iload_n rfl rfl dX12_add_40 ?_
  refine wp_dup2 (by decide) (by decide) dX12_add_41 ?_
  refine wp_iaload1 dX12_add_42 (by first | omega | (simp (disch := omega) only [up2_ne, up2_eq, ha, st_200_m1 hS, st_200_32 hS, st_200_33 hS, st_200_34 hS, st_232_m2 hS, st_232_m1 hS, st_233_m2 hS, st_233_m1 hS, st_234_m2 hS, st_234_m1 hS]; first | done | omega)) (by first | assumption | (simp (disch := omega) only [up2_ne, up2_eq, ha, st_200_m1 hS, st_200_32 hS, st_200_33 hS, st_200_34 hS, st_232_m2 hS, st_232_m1 hS, st_233_m2 hS, st_233_m1 hS, st_234_m2 hS, st_234_m1 hS]; first | done | rfl | omega)) (by first | omega | (simp (disch := omega) only [up2_ne, up2_eq, ha, st_200_m1 hS, st_200_32 hS, st_200_33 hS, st_200_34 hS, st_232_m2 hS, st_232_m1 hS, st_233_m2 hS, st_233_m1 hS, st_234_m2 hS, st_234_m1 hS]; first | done | omega)) (by first | omega | (simp (disch := omega) only [up2_ne, up2_eq, ha, st_200_m1 hS, st_200_32 hS, st_200_33 hS, st_200_34 hS, st_232_m2 hS, st_232_m1 hS, st_233_m2 hS, st_233_m1 hS, st_234_m2 hS, st_234_m1 hS]; first | done | omega)) ?_
  try simp (disch := omega) only [up2_ne, up2_eq, ha, st_200_m1 hS, st_200_32 hS, st_200_33 hS, st_200_34 hS, st_232_m2 hS, st_232_m1 hS, st_233_m2 hS, st_233_m1 hS, st_234_m2 hS, st_234_m1 hS]
  refine wp_iconst dX12_add_43 ?_
  refine wp_iadd dX12_add_44 ?_
  refine wp_iastore1 dX12_add_45 (by first | omega | (simp (disch := omega) only [up2_ne, up2_eq, ha, st_200_m1 hS, st_200_32 hS, st_200_33 hS, st_200_34 hS, st_232_m2 hS, st_232_m1 hS, st_233_m2 hS, st_233_m1 hS, st_234_m2 hS, st_234_m1 hS]; first | done | omega)) (by first | assumption | (simp (disch := omega) only [up2_ne, up2_eq, ha, st_200_m1 hS, st_200_32 hS, st_200_33 hS, st_200_34 hS, st_232_m2 hS, st_232_m1 hS, st_233_m2 hS, st_233_m1 hS, st_234_m2 hS, st_234_m1 hS]; first | done | rfl | omega)) (by first | omega | (simp (disch := omega) only [up2_ne, up2_eq, ha, st_200_m1 hS, st_200_32 hS, st_200_33 hS, st_200_34 hS, st_232_m2 hS, st_232_m1 hS, st_233_m2 hS, st_233_m1 hS, st_234_m2 hS, st_234_m1 hS]; first | done | omega)) (by first | omega | (simp (disch := omega) only [up2_ne, up2_eq, ha, st_200_m1 hS, st_200_32 hS, st_200_33 hS, st_200_34 hS, st_232_m2 hS, st_232_m1 hS, st_233_m2 hS, st_233_m1 hS, st_234_m2 hS, st_234_m1 hS]; first | done | omega)) ?_
  refine wp_vret dX12_add_46 rfl ?_
  exact hQ
set_option maxHeartbeats 1000000 in
theorem s_X12_settle {u : gT} {g : mH} {d b : Nat} {row rk : Int} {w oo : List Int} (hS : St g) (r0 : 0 ≤ row) (r1 : row ≤ 17) (hR1 : rWt g w) (hR2 : rOu g row oo) (hl : w.length + oo.length ≤ 160) (k1 : 1 ≤ rk) (k7 : rk ≤ 7) : Rlt (gX (gq u)) MX12_settle (d + 1) b [(2, 200), (0, row), (0, rk)] g (fun r g1 => r = (9, 0) ∧ rWt g1 (stl rk w oo).1 ∧ rOu g1 row (stl rk w oo).2 ∧ sfr g g1 row) := by
  refine Rlt.of ?_
  have loop : ∀ (w1 o1 : List Int) (g1 : mH), St g1 → rWt g1 w1 → rOu g1 row o1 → sfr g g1 row → w1.length + o1.length ≤ 160 → stl rk w1 o1 = stl rk w oo → WP (gX (gq u)) MX12_settle (d + 1) b (fun r g1 => r = (9, 0) ∧ rWt g1 (stl rk w oo).1 ∧ rOu g1 row (stl rk w oo).2 ∧ sfr g g1 row) 0 [(2, 200), (0, row), (0, rk)] [] g1 := by
    intro w1
    induction w1 with
    | nil =>
      intro o1 g1 gS R1 R2 K1 hl hst
      have h43 : g1 200 43 = 0 := R1.1
      refine wp_aload_n rfl rfl dX12_settle_0 ?_
      refine wp_getfield1 (z := 13) (kI := 43) fX12_244 dX12_settle_1 (by first | omega | (simp (disch := omega) only [up2_ne, up2_eq, h43, st_200_m1 gS, st_200_42 gS, st_242_m2 gS, st_242_m1 gS]; first | done | omega)) (by first | assumption | (simp (disch := omega) only [up2_ne, up2_eq, h43, st_200_m1 gS, st_200_42 gS, st_242_m2 gS, st_242_m1 gS]; first | done | rfl | omega)) rfl rfl ?_
      try simp (disch := omega) only [up2_ne, up2_eq, h43, st_200_m1 gS, st_200_42 gS, st_242_m2 gS, st_242_m1 gS]
      refine wp_if_le (tgt := 53) (by first | assumption | exact bI_in _ | exact ⟨by omega, by omega⟩ | exact iAnd_in | exact iOr_in | exact iShr_in | exact iShl_in | exact iXor_in | exact hxs _) dX12_settle_4 (by decide) (fun c1 => ?_) (fun c1 => by exfalso; omega)
      refine wp_vret dX12_settle_53 rfl ?_
      have e1 : stl rk [] o1 = ([], o1) := rfl
      rw [e1] at hst
      rw [← hst]
      exact ⟨rfl, R1, R2, K1⟩
    | cons e w1 ih =>
      intro o1 g1 gS R1 R2 K1 hl hst
      have hlen : (e :: w1).length = w1.length + 1 := rfl
      have h43 : g1 200 43 = (w1.length : Int) + 1 := R1.1
      have hct : g1 242 (w1.length : Nat) = rW e := by rw [R1.2.2 w1.length (Nat.lt_succ_self _), wc_top]
      have hcv : g1 242 ((w1.length : Int) + 1 - 1) = rW e := by rw [show (w1.length : Int) + 1 - 1 = (w1.length : Nat) by omega]; exact hct
      have hv := vW_i (R1.2.1 e List.mem_cons_self)
      have hrk := rk_b e
      have hiw : InI (rW e) := ⟨by omega, by omega⟩
      refine wp_aload_n rfl rfl dX12_settle_0 ?_
      refine wp_getfield1 (z := 13) (kI := 43) fX12_244 dX12_settle_1 (by first | omega | (simp (disch := omega) only [up2_ne, up2_eq, h43, hcv, hct, hv.1, st_200_m1 gS, st_200_42 gS, st_242_m2 gS, st_242_m1 gS]; first | done | omega)) (by first | assumption | (simp (disch := omega) only [up2_ne, up2_eq, h43, hcv, hct, hv.1, st_200_m1 gS, st_200_42 gS, st_242_m2 gS, st_242_m1 gS]; first | done | rfl | omega)) rfl rfl ?_
      try simp (disch := omega) only [up2_ne, up2_eq, h43, hcv, hct, hv.1, st_200_m1 gS, st_200_42 gS, st_242_m2 gS, st_242_m1 gS]
      refine wp_if_le (tgt := 53) (by first | assumption | exact bI_in _ | exact ⟨by omega, by omega⟩ | exact iAnd_in | exact iOr_in | exact iShr_in | exact iShl_in | exact iXor_in | exact hxs _) dX12_settle_4 (by decide) (fun c2 => by exfalso; omega) (fun c2 => ?_)
      refine wp_aload_n rfl rfl dX12_settle_7 ?_
      refine wp_getfield1 (z := 13) (kI := 42) fX12_183 dX12_settle_8 (by first | omega | (simp (disch := omega) only [up2_ne, up2_eq, h43, hcv, hct, hv.1, st_200_m1 gS, st_200_42 gS, st_242_m2 gS, st_242_m1 gS]; first | done | omega)) (by first | assumption | (simp (disch := omega) only [up2_ne, up2_eq, h43, hcv, hct, hv.1, st_200_m1 gS, st_200_42 gS, st_242_m2 gS, st_242_m1 gS]; first | done | rfl | omega)) rfl rfl ?_
      try simp (disch := omega) only [up2_ne, up2_eq, h43, hcv, hct, hv.1, st_200_m1 gS, st_200_42 gS, st_242_m2 gS, st_242_m1 gS]
      refine wp_aload_n rfl rfl dX12_settle_11 ?_
      refine wp_getfield1 (z := 13) (kI := 43) fX12_244 dX12_settle_12 (by first | omega | (simp (disch := omega) only [up2_ne, up2_eq, h43, hcv, hct, hv.1, st_200_m1 gS, st_200_42 gS, st_242_m2 gS, st_242_m1 gS]; first | done | omega)) (by first | assumption | (simp (disch := omega) only [up2_ne, up2_eq, h43, hcv, hct, hv.1, st_200_m1 gS, st_200_42 gS, st_242_m2 gS, st_242_m1 gS]; first | done | rfl | omega)) rfl rfl ?_
      try simp (disch := omega) only [up2_ne, up2_eq, h43, hcv, hct, hv.1, st_200_m1 gS, st_200_42 gS, st_242_m2 gS, st_242_m1 gS]
      refine wp_iconst dX12_settle_15 ?_
      refine wp_isub dX12_settle_16 ?_
      refine wp_iaload1 dX12_settle_17 (by first | omega | (simp (disch := omega) only [up2_ne, up2_eq, h43, hcv, hct, hv.1, st_200_m1 gS, st_200_42 gS, st_242_m2 gS, st_242_m1 gS]; first | done | omega)) (by first | assumption | (simp (disch := omega) only [up2_ne, up2_eq, h43, hcv, hct, hv.1, st_200_m1 gS, st_200_42 gS, st_242_m2 gS, st_242_m1 gS]; first | done | rfl | omega)) (by first | omega | (simp (disch := omega) only [up2_ne, up2_eq, h43, hcv, hct, hv.1, st_200_m1 gS, st_200_42 gS, st_242_m2 gS, st_242_m1 gS]; first | done | omega)) (by first | omega | (simp (disch := omega) only [up2_ne, up2_eq, h43, hcv, hct, hv.1, st_200_m1 gS, st_200_42 gS, st_242_m2 gS, st_242_m1 gS]; first | done | omega)) ?_
      try simp (disch := omega) only [up2_ne, up2_eq, h43, hcv, hct, hv.1, st_200_m1 gS, st_200_42 gS, st_242_m2 gS, st_242_m1 gS]
      refine wp_cS1 okX12_rankOf wX12_247 dX12_settle_18 rfl (Nat.le_of_ble_eq_true rfl) (Nat.le_of_ble_eq_true rfl) (s_X12_rankOf hiw) (Nat.zero_le _) ?_
      try simp (disch := omega) only [up2_ne, up2_eq, h43, hcv, hct, hv.1, st_200_m1 gS, st_200_42 gS, st_242_m2 gS, st_242_m1 gS]
      refine wp_iload_n rfl rfl dX12_settle_21 ?_
      skip
      refine wp_icmp_lt (tgt := 53) (by first | assumption | exact bI_in _ | exact ⟨by omega, by omega⟩ | exact iAnd_in | exact iOr_in | exact iShr_in | exact iShl_in | exact iXor_in | exact hxs _) (by first | assumption | exact bI_in _ | exact ⟨by omega, by omega⟩ | exact iAnd_in | exact iOr_in | exact iShr_in | exact iShl_in | exact iXor_in | exact hxs _) dX12_settle_22 (by decide) (fun c3 => ?_) (fun c3 => ?_)
      · refine wp_vret dX12_settle_53 rfl ?_
        have e1 : stl rk (e :: w1) o1 = (e :: w1, o1) := if_neg (by omega)
        rw [e1] at hst
        rw [← hst]
        exact ⟨rfl, R1, R2, K1⟩
      · refine wp_aload_n rfl rfl dX12_settle_25 ?_
        refine wp_dup (by decide) dX12_settle_26 ?_
        refine wp_getfield1 (z := 13) (kI := 43) fX12_244 dX12_settle_27 (by first | omega | (simp (disch := omega) only [up2_ne, up2_eq, h43, hcv, hct, hv.1, st_200_m1 gS, st_200_42 gS, st_242_m2 gS, st_242_m1 gS]; first | done | omega)) (by first | assumption | (simp (disch := omega) only [up2_ne, up2_eq, h43, hcv, hct, hv.1, st_200_m1 gS, st_200_42 gS, st_242_m2 gS, st_242_m1 gS]; first | done | rfl | omega)) rfl rfl ?_
        try simp (disch := omega) only [up2_ne, up2_eq, h43, hcv, hct, hv.1, st_200_m1 gS, st_200_42 gS, st_242_m2 gS, st_242_m1 gS]
        refine wp_iconst dX12_settle_30 ?_
        refine wp_isub dX12_settle_31 ?_
        refine wp_putfield1 (z := 13) (kI := 43) fX12_244 dX12_settle_32 (by first | omega | (simp (disch := omega) only [up2_ne, up2_eq, h43, hcv, hct, hv.1, st_200_m1 gS, st_200_42 gS, st_242_m2 gS, st_242_m1 gS]; first | done | omega)) (by first | assumption | (simp (disch := omega) only [up2_ne, up2_eq, h43, hcv, hct, hv.1, st_200_m1 gS, st_200_42 gS, st_242_m2 gS, st_242_m1 gS]; first | done | rfl | omega)) rfl rfl ?_
        refine wp_aload_n rfl rfl dX12_settle_35 ?_
        refine wp_iload_n rfl rfl dX12_settle_36 ?_
        refine wp_aload_n rfl rfl dX12_settle_37 ?_
        refine wp_getfield1 (z := 13) (kI := 42) fX12_183 dX12_settle_38 (by first | omega | (simp (disch := omega) only [up2_ne, up2_eq, h43, hcv, hct, hv.1, st_200_m1 gS, st_200_42 gS, st_242_m2 gS, st_242_m1 gS]; first | done | omega)) (by first | assumption | (simp (disch := omega) only [up2_ne, up2_eq, h43, hcv, hct, hv.1, st_200_m1 gS, st_200_42 gS, st_242_m2 gS, st_242_m1 gS]; first | done | rfl | omega)) rfl rfl ?_
        try simp (disch := omega) only [up2_ne, up2_eq, h43, hcv, hct, hv.1, st_200_m1 gS, st_200_42 gS, st_242_m2 gS, st_242_m1 gS]
        refine wp_aload_n rfl rfl dX12_settle_41 ?_
        refine wp_getfield1 (z := 13) (kI := 43) fX12_244 dX12_settle_42 (by first | omega | (simp (disch := omega) only [up2_ne, up2_eq, h43, hcv, hct, hv.1, st_200_m1 gS, st_200_42 gS, st_242_m2 gS, st_242_m1 gS]; first | done | omega)) (by first | assumption | (simp (disch := omega) only [up2_ne, up2_eq, h43, hcv, hct, hv.1, st_200_m1 gS, st_200_42 gS, st_242_m2 gS, st_242_m1 gS]; first | done | rfl | omega)) rfl rfl ?_
        try simp (disch := omega) only [up2_ne, up2_eq, h43, hcv, hct, hv.1, st_200_m1 gS, st_200_42 gS, st_242_m2 gS, st_242_m1 gS]
        refine wp_iaload1 dX12_settle_45 (by first | omega | (simp (disch := omega) only [up2_ne, up2_eq, h43, hcv, hct, hv.1, st_200_m1 gS, st_200_42 gS, st_242_m2 gS, st_242_m1 gS]; first | done | omega)) (by first | assumption | (simp (disch := omega) only [up2_ne, up2_eq, h43, hcv, hct, hv.1, st_200_m1 gS, st_200_42 gS, st_242_m2 gS, st_242_m1 gS]; first | done | rfl | omega)) (by first | omega | (simp (disch := omega) only [up2_ne, up2_eq, h43, hcv, hct, hv.1, st_200_m1 gS, st_200_42 gS, st_242_m2 gS, st_242_m1 gS]; first | done | omega)) (by first | omega | (simp (disch := omega) only [up2_ne, up2_eq, h43, hcv, hct, hv.1, st_200_m1 gS, st_200_42 gS, st_242_m2 gS, st_242_m1 gS]; first | done | omega)) ?_
        try simp (disch := omega) only [up2_ne, up2_eq, h43, hcv, hct, hv.1, st_200_m1 gS, st_200_42 gS, st_242_m2 gS, st_242_m1 gS]
        refine wp_iconst dX12_settle_46 ?_
        refine wp_cV3v (ci := 12) okX12_add rfl rfl wX12_207 dX12_settle_47 (Nat.le_of_ble_eq_true rfl) (Nat.le_of_ble_eq_true rfl) (by first | omega | (simp (disch := omega) only [up2_ne, up2_eq, h43, hcv, hct, hv.1, st_200_m1 gS, st_200_42 gS, st_242_m2 gS, st_242_m1 gS]; first | done | omega)) (by first | assumption | (simp (disch := omega) only [up2_ne, up2_eq, h43, hcv, hct, hv.1, st_200_m1 gS, st_200_42 gS, st_242_m2 gS, st_242_m1 gS]; first | done | rfl | omega)) (s_X12_add (gS.up (by decide +kernel)) r0 r1 ((up2_ne (by omega)).trans R2.1) (by omega) (by omega)) (Nat.zero_le _) ?_
        try simp (disch := omega) only [up2_ne, up2_eq, h43, hcv, hct, hv.1, st_200_m1 gS, st_200_42 gS, st_242_m2 gS, st_242_m1 gS]
        refine wp_goto (tgt := 0) dX12_settle_50 (by decide) ?_
        have hr1 : rk ≤ rkT e := by omega
        have hst2 : stl rk (e :: w1) o1 = stl rk w1 (o1 ++ [-1 - e]) := stl_cons hr1
        have hact := hv.2.2.2.2.2.2 (by omega)
        have R3 : rWt (up2 g1 200 43 (w1.length : Nat)) w1 := rWt_tl R1
        have R4 : rOu (up2 g1 200 43 (w1.length : Nat)) row o1 := rOu_cg R2 (by rw [up2_ne (by omega)]) (fun k => by rw [up2_ne (by omega)]) (fun k => by rw [up2_ne (by omega)])
        have R5 := rOu_add (c := -1 - e) R4
        rw [if_neg (show ¬ (0 : Int) ≤ -1 - e by omega), ← hact.1] at R5
        rw [show (w1.length : Int) + 1 - 1 = (w1.length : Nat) by omega]
        refine ih (o1 ++ [-1 - e]) _ ((((gS.up (by decide +kernel)).upA (by decide +kernel) (by omega)).upA (by decide +kernel) (by omega)).upA (by decide +kernel) (by omega)) (rWt_cg R3 (by simp (disch := omega) only [up2_ne]) (fun k => by simp (disch := omega) only [up2_ne])) R5 (fun x k q => ?_) (by rw [List.length_append, List.length_singleton]; omega) (hst2.symm.trans hst)
        rw [up2_ne (by omega), up2_ne (by omega), up2_ne (by omega), up2_ne (by omega)]
        exact K1 x k q
  exact loop w oo g hS hR1 hR2 (fun _ _ _ => rfl) hl rfl
theorem s_X12_openMany {u : gT} {g : mH} {d b : Nat} {w : List Int} (hS : St g) (R : rWt g w) (hl : w.length ≤ 160) : Det (gX (gq u)) MX12_openMany d b [(2, 200)] g (0, (opn w : Nat)) g := by
  intro Q hQ
  have h43 := R.1
  have loop : ∀ k : Nat, k ≤ w.length → WP (gX (gq u)) MX12_openMany d b Q 4 [(2, 200), (0, (opN w k : Nat)), (0, (k : Int))] [] g := by
    refine loop_w w.length (fun k hk ih => ?_)
    have hck := fun z : k < w.length => R.2.2 k z
    have hvk := fun z : k < w.length => vW_i (R.2.1 _ (wc_mem z))
    have hob := opN_b (w := w) k
    refine wp_iload_n rfl rfl dX12_openMany_4 ?_
    refine wp_aload_n rfl rfl dX12_openMany_5 ?_
    refine wp_getfield1 (z := 13) (kI := 43) fX12_244 dX12_openMany_6 (by first | omega | (simp (disch := omega) only [up2_ne, up2_eq, h43, st_200_m1 hS, st_200_42 hS, st_242_m2 hS, st_242_m1 hS]; first | done | omega)) (by first | assumption | (simp (disch := omega) only [up2_ne, up2_eq, h43, st_200_m1 hS, st_200_42 hS, st_242_m2 hS, st_242_m1 hS]; first | done | rfl | omega)) rfl rfl ?_
    try simp (disch := omega) only [up2_ne, up2_eq, h43, st_200_m1 hS, st_200_42 hS, st_242_m2 hS, st_242_m1 hS]
    refine wp_icmp_ge (tgt := 60) (by first | assumption | exact bI_in _ | exact ⟨by omega, by omega⟩ | exact iAnd_in | exact iOr_in | exact iShr_in | exact iShl_in | exact iXor_in | exact hxs _) (by first | assumption | exact bI_in _ | exact ⟨by omega, by omega⟩ | exact iAnd_in | exact iOr_in | exact iShr_in | exact iShl_in | exact iXor_in | exact hxs _) dX12_openMany_9 (by decide) (fun c1 => ?_) (fun c1 => ?_)
    · refine wp_iload_n rfl rfl dX12_openMany_60 ?_
      refine wp_iret dX12_openMany_61 rfl ?_
      have ek : k = w.length := by omega
      subst ek
      rw [← opN_n] at hQ
      exact hQ
    · have hck := hck (by omega)
      have hvk := hvk (by omega)
      refine wp_iload_n rfl rfl dX12_openMany_12 ?_
      refine wp_aload_n rfl rfl dX12_openMany_13 ?_
      refine wp_getfield1 (z := 13) (kI := 42) fX12_183 dX12_openMany_14 (by first | omega | (simp (disch := omega) only [up2_ne, up2_eq, h43, hck, st_200_m1 hS, st_200_42 hS, st_242_m2 hS, st_242_m1 hS]; first | done | omega)) (by first | assumption | (simp (disch := omega) only [up2_ne, up2_eq, h43, hck, st_200_m1 hS, st_200_42 hS, st_242_m2 hS, st_242_m1 hS]; first | done | rfl | omega)) rfl rfl ?_
      try simp (disch := omega) only [up2_ne, up2_eq, h43, hck, st_200_m1 hS, st_200_42 hS, st_242_m2 hS, st_242_m1 hS]
      refine wp_iload_n rfl rfl dX12_openMany_17 ?_
      refine wp_iaload1 dX12_openMany_18 (by first | omega | (simp (disch := omega) only [up2_ne, up2_eq, h43, hck, st_200_m1 hS, st_200_42 hS, st_242_m2 hS, st_242_m1 hS]; first | done | omega)) (by first | assumption | (simp (disch := omega) only [up2_ne, up2_eq, h43, hck, st_200_m1 hS, st_200_42 hS, st_242_m2 hS, st_242_m1 hS]; first | done | rfl | omega)) (by first | omega | (simp (disch := omega) only [up2_ne, up2_eq, h43, hck, st_200_m1 hS, st_200_42 hS, st_242_m2 hS, st_242_m1 hS]; first | done | omega)) (by first | omega | (simp (disch := omega) only [up2_ne, up2_eq, h43, hck, st_200_m1 hS, st_200_42 hS, st_242_m2 hS, st_242_m1 hS]; first | done | omega)) ?_
      try simp (disch := omega) only [up2_ne, up2_eq, h43, hck, st_200_m1 hS, st_200_42 hS, st_242_m2 hS, st_242_m1 hS]
      refine wp_bipush (by decide) dX12_openMany_19 ?_
      refine wp_icmp_eq (tgt := 47) (by first | assumption | exact bI_in _ | exact ⟨by omega, by omega⟩ | exact iAnd_in | exact iOr_in | exact iShr_in | exact iShl_in | exact iXor_in | exact hxs _) (by first | assumption | exact bI_in _ | exact ⟨by omega, by omega⟩ | exact iAnd_in | exact iOr_in | exact iShr_in | exact iShl_in | exact iXor_in | exact hxs _) dX12_openMany_21 (by decide) (fun c2 => ?_) (fun c2 => ?_)
      · refine wp_iconst dX12_openMany_47 ?_
        refine wp_goto (tgt := 52) dX12_openMany_48 (by decide) ?_
        refine wp_iadd dX12_openMany_52 ?_
        refine wp_istore_n rfl dX12_openMany_53 rfl (Nat.le_of_ble_eq_true rfl) rfl ?_
        try simp only [List.set_cons_zero, List.set_cons_succ]
        refine wp_iinc rfl rfl dX12_openMany_54 rfl rfl ?_
        try simp only [List.set_cons_zero, List.set_cons_succ]
        refine wp_goto (tgt := 4) dX12_openMany_57 (by decide) ?_
        have z := ih (by omega)
        rw [opN, show ((k + 1 : Nat) : Int) = (k : Int) + 1 by omega] at z
        first
          | (rw [if_pos (show wc w k = 14 ∨ wc w k = 12 ∨ wc w k = 24 by omega), show (((opN w k + 1 : Nat)) : Int) = (opN w k : Nat) + 1 by omega] at z
             exact z)
          | (rw [if_neg (show ¬ (wc w k = 14 ∨ wc w k = 12 ∨ wc w k = 24) by omega), show (((opN w k + 0 : Nat)) : Int) = (opN w k : Nat) + 0 by omega] at z
             exact z)
      · refine wp_aload_n rfl rfl dX12_openMany_24 ?_
        refine wp_getfield1 (z := 13) (kI := 42) fX12_183 dX12_openMany_25 (by first | omega | (simp (disch := omega) only [up2_ne, up2_eq, h43, hck, st_200_m1 hS, st_200_42 hS, st_242_m2 hS, st_242_m1 hS]; first | done | omega)) (by first | assumption | (simp (disch := omega) only [up2_ne, up2_eq, h43, hck, st_200_m1 hS, st_200_42 hS, st_242_m2 hS, st_242_m1 hS]; first | done | rfl | omega)) rfl rfl ?_
        try simp (disch := omega) only [up2_ne, up2_eq, h43, hck, st_200_m1 hS, st_200_42 hS, st_242_m2 hS, st_242_m1 hS]
        refine wp_iload_n rfl rfl dX12_openMany_28 ?_
        refine wp_iaload1 dX12_openMany_29 (by first | omega | (simp (disch := omega) only [up2_ne, up2_eq, h43, hck, st_200_m1 hS, st_200_42 hS, st_242_m2 hS, st_242_m1 hS]; first | done | omega)) (by first | assumption | (simp (disch := omega) only [up2_ne, up2_eq, h43, hck, st_200_m1 hS, st_200_42 hS, st_242_m2 hS, st_242_m1 hS]; first | done | rfl | omega)) (by first | omega | (simp (disch := omega) only [up2_ne, up2_eq, h43, hck, st_200_m1 hS, st_200_42 hS, st_242_m2 hS, st_242_m1 hS]; first | done | omega)) (by first | omega | (simp (disch := omega) only [up2_ne, up2_eq, h43, hck, st_200_m1 hS, st_200_42 hS, st_242_m2 hS, st_242_m1 hS]; first | done | omega)) ?_
        try simp (disch := omega) only [up2_ne, up2_eq, h43, hck, st_200_m1 hS, st_200_42 hS, st_242_m2 hS, st_242_m1 hS]
        refine wp_bipush (by decide) dX12_openMany_30 ?_
        refine wp_icmp_eq (tgt := 47) (by first | assumption | exact bI_in _ | exact ⟨by omega, by omega⟩ | exact iAnd_in | exact iOr_in | exact iShr_in | exact iShl_in | exact iXor_in | exact hxs _) (by first | assumption | exact bI_in _ | exact ⟨by omega, by omega⟩ | exact iAnd_in | exact iOr_in | exact iShr_in | exact iShl_in | exact iXor_in | exact hxs _) dX12_openMany_32 (by decide) (fun c3 => ?_) (fun c3 => ?_)
        · refine wp_iconst dX12_openMany_47 ?_
          refine wp_goto (tgt := 52) dX12_openMany_48 (by decide) ?_
          refine wp_iadd dX12_openMany_52 ?_
          refine wp_istore_n rfl dX12_openMany_53 rfl (Nat.le_of_ble_eq_true rfl) rfl ?_
          try simp only [List.set_cons_zero, List.set_cons_succ]
          refine wp_iinc rfl rfl dX12_openMany_54 rfl rfl ?_
          try simp only [List.set_cons_zero, List.set_cons_succ]
          refine wp_goto (tgt := 4) dX12_openMany_57 (by decide) ?_
          have z := ih (by omega)
          rw [opN, show ((k + 1 : Nat) : Int) = (k : Int) + 1 by omega] at z
          first
            | (rw [if_pos (show wc w k = 14 ∨ wc w k = 12 ∨ wc w k = 24 by omega), show (((opN w k + 1 : Nat)) : Int) = (opN w k : Nat) + 1 by omega] at z
               exact z)
            | (rw [if_neg (show ¬ (wc w k = 14 ∨ wc w k = 12 ∨ wc w k = 24) by omega), show (((opN w k + 0 : Nat)) : Int) = (opN w k : Nat) + 0 by omega] at z
               exact z)
        · refine wp_aload_n rfl rfl dX12_openMany_35 ?_
          refine wp_getfield1 (z := 13) (kI := 42) fX12_183 dX12_openMany_36 (by first | omega | (simp (disch := omega) only [up2_ne, up2_eq, h43, hck, st_200_m1 hS, st_200_42 hS, st_242_m2 hS, st_242_m1 hS]; first | done | omega)) (by first | assumption | (simp (disch := omega) only [up2_ne, up2_eq, h43, hck, st_200_m1 hS, st_200_42 hS, st_242_m2 hS, st_242_m1 hS]; first | done | rfl | omega)) rfl rfl ?_
          try simp (disch := omega) only [up2_ne, up2_eq, h43, hck, st_200_m1 hS, st_200_42 hS, st_242_m2 hS, st_242_m1 hS]
          refine wp_iload_n rfl rfl dX12_openMany_39 ?_
          refine wp_iaload1 dX12_openMany_40 (by first | omega | (simp (disch := omega) only [up2_ne, up2_eq, h43, hck, st_200_m1 hS, st_200_42 hS, st_242_m2 hS, st_242_m1 hS]; first | done | omega)) (by first | assumption | (simp (disch := omega) only [up2_ne, up2_eq, h43, hck, st_200_m1 hS, st_200_42 hS, st_242_m2 hS, st_242_m1 hS]; first | done | rfl | omega)) (by first | omega | (simp (disch := omega) only [up2_ne, up2_eq, h43, hck, st_200_m1 hS, st_200_42 hS, st_242_m2 hS, st_242_m1 hS]; first | done | omega)) (by first | omega | (simp (disch := omega) only [up2_ne, up2_eq, h43, hck, st_200_m1 hS, st_200_42 hS, st_242_m2 hS, st_242_m1 hS]; first | done | omega)) ?_
          try simp (disch := omega) only [up2_ne, up2_eq, h43, hck, st_200_m1 hS, st_200_42 hS, st_242_m2 hS, st_242_m1 hS]
          refine wp_sipush (by decide) dX12_openMany_41 ?_
          refine wp_icmp_ne (tgt := 51) (by first | assumption | exact bI_in _ | exact ⟨by omega, by omega⟩ | exact iAnd_in | exact iOr_in | exact iShr_in | exact iShl_in | exact iXor_in | exact hxs _) (by first | assumption | exact bI_in _ | exact ⟨by omega, by omega⟩ | exact iAnd_in | exact iOr_in | exact iShr_in | exact iShl_in | exact iXor_in | exact hxs _) dX12_openMany_44 (by decide) (fun c4 => ?_) (fun c4 => ?_)
          · refine wp_iconst dX12_openMany_51 ?_
            refine wp_iadd dX12_openMany_52 ?_
            refine wp_istore_n rfl dX12_openMany_53 rfl (Nat.le_of_ble_eq_true rfl) rfl ?_
            try simp only [List.set_cons_zero, List.set_cons_succ]
            refine wp_iinc rfl rfl dX12_openMany_54 rfl rfl ?_
            try simp only [List.set_cons_zero, List.set_cons_succ]
            refine wp_goto (tgt := 4) dX12_openMany_57 (by decide) ?_
            have z := ih (by omega)
            rw [opN, show ((k + 1 : Nat) : Int) = (k : Int) + 1 by omega] at z
            first
              | (rw [if_pos (show wc w k = 14 ∨ wc w k = 12 ∨ wc w k = 24 by omega), show (((opN w k + 1 : Nat)) : Int) = (opN w k : Nat) + 1 by omega] at z
                 exact z)
              | (rw [if_neg (show ¬ (wc w k = 14 ∨ wc w k = 12 ∨ wc w k = 24) by omega), show (((opN w k + 0 : Nat)) : Int) = (opN w k : Nat) + 0 by omega] at z
                 exact z)
          · refine wp_iconst dX12_openMany_47 ?_
            refine wp_goto (tgt := 52) dX12_openMany_48 (by decide) ?_
            refine wp_iadd dX12_openMany_52 ?_
            refine wp_istore_n rfl dX12_openMany_53 rfl (Nat.le_of_ble_eq_true rfl) rfl ?_
            try simp only [List.set_cons_zero, List.set_cons_succ]
            refine wp_iinc rfl rfl dX12_openMany_54 rfl rfl ?_
            try simp only [List.set_cons_zero, List.set_cons_succ]
            refine wp_goto (tgt := 4) dX12_openMany_57 (by decide) ?_
            have z := ih (by omega)
            rw [opN, show ((k + 1 : Nat) : Int) = (k : Int) + 1 by omega] at z
            first
              | (rw [if_pos (show wc w k = 14 ∨ wc w k = 12 ∨ wc w k = 24 by omega), show (((opN w k + 1 : Nat)) : Int) = (opN w k : Nat) + 1 by omega] at z
                 exact z)
              | (rw [if_neg (show ¬ (wc w k = 14 ∨ wc w k = 12 ∨ wc w k = 24) by omega), show (((opN w k + 0 : Nat)) : Int) = (opN w k : Nat) + 0 by omega] at z
                 exact z)
  show WP (gX (gq u)) MX12_openMany d b Q 0 [(2, 200), (9, 0), (9, 0)] [] g
  refine wp_iconst dX12_openMany_0 ?_
  refine wp_istore_n rfl dX12_openMany_1 rfl (Nat.le_of_ble_eq_true rfl) rfl ?_
  try simp only [List.set_cons_zero, List.set_cons_succ]
  refine wp_iconst dX12_openMany_2 ?_
  refine wp_istore_n rfl dX12_openMany_3 rfl (Nat.le_of_ble_eq_true rfl) rfl ?_
  try simp only [List.set_cons_zero, List.set_cons_succ]
  exact loop 0 (Nat.zero_le _)
theorem s_X12_waitsFor {u : gT} {g : mH} {d b : Nat} {w : List Int} (hS : St g) (R : rWt g w) (hl : w.length ≤ 160) : Det (gX (gq u)) MX12_waitsFor d b [(2, 200), (0, 40)] g (0, bI ((14 : Int) ∈ w)) g := by
  intro Q hQ
  have h43 := R.1
  have loop : ∀ k : Nat, k ≤ w.length → ∀ sv : Int, (sv = 0 ∨ sv = 1) → (sv = 1 ↔ ∃ j : Nat, j < k ∧ wc w j = 14) → WP (gX (gq u)) MX12_waitsFor d b Q 4 [(2, 200), (0, 40), (0, sv), (0, (k : Int))] [] g := by
    refine loop_w w.length (fun k hk ih => ?_)
    intro sv hsv hpr
    have hck := fun z : k < w.length => R.2.2 k z
    have hvk := fun z : k < w.length => vW_i (R.2.1 _ (wc_mem z))
    refine wp_iload_n rfl rfl dX12_waitsFor_4 ?_
    refine wp_aload_n rfl rfl dX12_waitsFor_5 ?_
    refine wp_getfield1 (z := 13) (kI := 43) fX12_244 dX12_waitsFor_6 (by first | omega | (simp (disch := omega) only [up2_ne, up2_eq, h43, st_200_m1 hS, st_200_42 hS, st_242_m2 hS, st_242_m1 hS]; first | done | omega)) (by first | assumption | (simp (disch := omega) only [up2_ne, up2_eq, h43, st_200_m1 hS, st_200_42 hS, st_242_m2 hS, st_242_m1 hS]; first | done | rfl | omega)) rfl rfl ?_
    try simp (disch := omega) only [up2_ne, up2_eq, h43, st_200_m1 hS, st_200_42 hS, st_242_m2 hS, st_242_m1 hS]
    refine wp_icmp_ge (tgt := 38) (by first | assumption | exact bI_in _ | exact ⟨by omega, by omega⟩ | exact iAnd_in | exact iOr_in | exact iShr_in | exact iShl_in | exact iXor_in | exact hxs _) (by first | assumption | exact bI_in _ | exact ⟨by omega, by omega⟩ | exact iAnd_in | exact iOr_in | exact iShr_in | exact iShl_in | exact iXor_in | exact hxs _) dX12_waitsFor_9 (by decide) (fun c1 => ?_) (fun c1 => ?_)
    · refine wp_iload_n rfl rfl dX12_waitsFor_38 ?_
      refine wp_zret (by first | exact Or.inl rfl | exact Or.inr rfl | omega) dX12_waitsFor_39 rfl ?_
      have ek : k = w.length := by omega
      subst ek
      have hm := hpr.trans wc_14
      first
        | exact QB_t hQ (hm.mp (by omega))
        | exact QB_f hQ (fun y => by have := hm.mpr y; omega)
        | (rcases hsv with e | e
           · rw [e]
             exact QB_f hQ (fun y => by have := hm.mpr y; omega)
           · rw [e]
             exact QB_t hQ (hm.mp e))
    · have hck := hck (by omega)
      have hvk := hvk (by omega)
      refine wp_iload_n rfl rfl dX12_waitsFor_12 ?_
      refine wp_if_ne (tgt := 26) (by first | assumption | exact bI_in _ | exact ⟨by omega, by omega⟩ | exact iAnd_in | exact iOr_in | exact iShr_in | exact iShl_in | exact iXor_in | exact hxs _) dX12_waitsFor_13 (by decide) (fun c2 => ?_) (fun c2 => ?_)
      · refine wp_iconst dX12_waitsFor_26 ?_
        refine wp_goto (tgt := 31) dX12_waitsFor_27 (by decide) ?_
        refine wp_istore_n rfl dX12_waitsFor_31 rfl (Nat.le_of_ble_eq_true rfl) rfl ?_
        try simp only [List.set_cons_zero, List.set_cons_succ]
        refine wp_iinc rfl rfl dX12_waitsFor_32 rfl rfl ?_
        try simp only [List.set_cons_zero, List.set_cons_succ]
        refine wp_goto (tgt := 4) dX12_waitsFor_35 (by decide) ?_
        have z := ih (by omega)
        rw [show ((k + 1 : Nat) : Int) = (k : Int) + 1 by omega] at z
        refine z _ (by first | exact Or.inl rfl | exact Or.inr rfl) ?_
        constructor
        · intro y
          first
            | (exfalso; omega)
            | (have hsv1 : sv = 1 := by omega
               obtain ⟨j, j1, j2⟩ := hpr.mp hsv1
               exact ⟨j, Nat.lt_succ_of_lt j1, j2⟩)
            | (refine ⟨k, by omega, ?_⟩
               exact hvk.2.1.mp (by assumption))
        · rintro ⟨j, j1, j2⟩
          by_cases c : j = k
          · subst c
            first | rfl | (exfalso; omega)
          · have := hpr.mpr ⟨j, by omega, j2⟩
            first | rfl | (exfalso; omega)
      · refine wp_aload_n rfl rfl dX12_waitsFor_16 ?_
        refine wp_getfield1 (z := 13) (kI := 42) fX12_183 dX12_waitsFor_17 (by first | omega | (simp (disch := omega) only [up2_ne, up2_eq, h43, hck, st_200_m1 hS, st_200_42 hS, st_242_m2 hS, st_242_m1 hS]; first | done | omega)) (by first | assumption | (simp (disch := omega) only [up2_ne, up2_eq, h43, hck, st_200_m1 hS, st_200_42 hS, st_242_m2 hS, st_242_m1 hS]; first | done | rfl | omega)) rfl rfl ?_
        try simp (disch := omega) only [up2_ne, up2_eq, h43, hck, st_200_m1 hS, st_200_42 hS, st_242_m2 hS, st_242_m1 hS]
        refine wp_iload_n rfl rfl dX12_waitsFor_20 ?_
        refine wp_iaload1 dX12_waitsFor_21 (by first | omega | (simp (disch := omega) only [up2_ne, up2_eq, h43, hck, st_200_m1 hS, st_200_42 hS, st_242_m2 hS, st_242_m1 hS]; first | done | omega)) (by first | assumption | (simp (disch := omega) only [up2_ne, up2_eq, h43, hck, st_200_m1 hS, st_200_42 hS, st_242_m2 hS, st_242_m1 hS]; first | done | rfl | omega)) (by first | omega | (simp (disch := omega) only [up2_ne, up2_eq, h43, hck, st_200_m1 hS, st_200_42 hS, st_242_m2 hS, st_242_m1 hS]; first | done | omega)) (by first | omega | (simp (disch := omega) only [up2_ne, up2_eq, h43, hck, st_200_m1 hS, st_200_42 hS, st_242_m2 hS, st_242_m1 hS]; first | done | omega)) ?_
        try simp (disch := omega) only [up2_ne, up2_eq, h43, hck, st_200_m1 hS, st_200_42 hS, st_242_m2 hS, st_242_m1 hS]
        refine wp_iload_n rfl rfl dX12_waitsFor_22 ?_
        refine wp_icmp_ne (tgt := 30) (by first | assumption | exact bI_in _ | exact ⟨by omega, by omega⟩ | exact iAnd_in | exact iOr_in | exact iShr_in | exact iShl_in | exact iXor_in | exact hxs _) (by first | assumption | exact bI_in _ | exact ⟨by omega, by omega⟩ | exact iAnd_in | exact iOr_in | exact iShr_in | exact iShl_in | exact iXor_in | exact hxs _) dX12_waitsFor_23 (by decide) (fun c3 => ?_) (fun c3 => ?_)
        · refine wp_iconst dX12_waitsFor_30 ?_
          refine wp_istore_n rfl dX12_waitsFor_31 rfl (Nat.le_of_ble_eq_true rfl) rfl ?_
          try simp only [List.set_cons_zero, List.set_cons_succ]
          refine wp_iinc rfl rfl dX12_waitsFor_32 rfl rfl ?_
          try simp only [List.set_cons_zero, List.set_cons_succ]
          refine wp_goto (tgt := 4) dX12_waitsFor_35 (by decide) ?_
          have z := ih (by omega)
          rw [show ((k + 1 : Nat) : Int) = (k : Int) + 1 by omega] at z
          refine z _ (by first | exact Or.inl rfl | exact Or.inr rfl) ?_
          constructor
          · intro y
            first
              | (exfalso; omega)
              | (have hsv1 : sv = 1 := by omega
                 obtain ⟨j, j1, j2⟩ := hpr.mp hsv1
                 exact ⟨j, Nat.lt_succ_of_lt j1, j2⟩)
              | (refine ⟨k, by omega, ?_⟩
                 exact hvk.2.1.mp (by assumption))
          · rintro ⟨j, j1, j2⟩
            by_cases c : j = k
            · subst c
              first | rfl | (exfalso; omega)
            · have := hpr.mpr ⟨j, by omega, j2⟩
              first | rfl | (exfalso; omega)
        · refine wp_iconst dX12_waitsFor_26 ?_
          refine wp_goto (tgt := 31) dX12_waitsFor_27 (by decide) ?_
          refine wp_istore_n rfl dX12_waitsFor_31 rfl (Nat.le_of_ble_eq_true rfl) rfl ?_
          try simp only [List.set_cons_zero, List.set_cons_succ]
          refine wp_iinc rfl rfl dX12_waitsFor_32 rfl rfl ?_
          try simp only [List.set_cons_zero, List.set_cons_succ]
          refine wp_goto (tgt := 4) dX12_waitsFor_35 (by decide) ?_
          have z := ih (by omega)
          rw [show ((k + 1 : Nat) : Int) = (k : Int) + 1 by omega] at z
          refine z _ (by first | exact Or.inl rfl | exact Or.inr rfl) ?_
          constructor
          · intro y
            first
              | (exfalso; omega)
              | (have hsv1 : sv = 1 := by omega
                 obtain ⟨j, j1, j2⟩ := hpr.mp hsv1
                 exact ⟨j, Nat.lt_succ_of_lt j1, j2⟩)
              | (refine ⟨k, by omega, ?_⟩
                 exact hvk.2.1.mp (by assumption))
          · rintro ⟨j, j1, j2⟩
            by_cases c : j = k
            · subst c
              first | rfl | (exfalso; omega)
            · have := hpr.mpr ⟨j, by omega, j2⟩
              first | rfl | (exfalso; omega)
  show WP (gX (gq u)) MX12_waitsFor d b Q 0 [(2, 200), (0, 40), (9, 0), (9, 0)] [] g
  refine wp_iconst dX12_waitsFor_0 ?_
  refine wp_istore_n rfl dX12_waitsFor_1 rfl (Nat.le_of_ble_eq_true rfl) rfl ?_
  try simp only [List.set_cons_zero, List.set_cons_succ]
  refine wp_iconst dX12_waitsFor_2 ?_
  refine wp_istore_n rfl dX12_waitsFor_3 rfl (Nat.le_of_ble_eq_true rfl) rfl ?_
  try simp only [List.set_cons_zero, List.set_cons_succ]
  exact loop 0 (Nat.zero_le _) 0 (Or.inl rfl) ⟨fun y => absurd y (by decide), fun ⟨j, j1, _⟩ => absurd j1 (Nat.not_lt_zero j)⟩
theorem s_X12_hasCompared {u : gT} {g : mH} {d b : Nat} {w : List Int} (hS : St g) (R : rWt g w) (hl : w.length ≤ 160) : Det (gX (gq u)) MX12_hasCompared (d + 1) b [(2, 200)] g (0, bI (hcm w = true)) g := by
  intro Q hQ
  have h43 := R.1
  have loop : ∀ w1 : List Int, (∀ k : Nat, k < w1.length → g 242 k = rW (wc w1 k)) → (∀ e ∈ w1, vW e) → w1.length ≤ 160 → hcm w1 = hcm w → WP (gX (gq u)) MX12_hasCompared (d + 1) b Q 7 [(2, 200), (0, (w1.length : Int) - 1)] [] g := by
    intro w1
    induction w1 with
    | nil =>
      intro hc hv hl1 hh
      have hz : (([] : List Int).length : Int) = 0 := rfl
      refine wp_iload_n rfl rfl dX12_hasCompared_7 ?_
      refine wp_if_lt (tgt := 30) (by first | assumption | exact bI_in _ | exact ⟨by omega, by omega⟩ | exact iAnd_in | exact iOr_in | exact iShr_in | exact iShl_in | exact iXor_in | exact hxs _) dX12_hasCompared_8 (by decide) (fun c1 => ?_) (fun c1 => by exfalso; omega)
      refine wp_iload_n rfl rfl dX12_hasCompared_30 ?_
      refine wp_if_lt (tgt := 51) (by first | assumption | exact bI_in _ | exact ⟨by omega, by omega⟩ | exact iAnd_in | exact iOr_in | exact iShr_in | exact iShl_in | exact iXor_in | exact hxs _) dX12_hasCompared_31 (by decide) (fun c2 => ?_) (fun c2 => by exfalso; omega)
      refine wp_iconst dX12_hasCompared_51 ?_
      refine wp_zret (by first | exact Or.inl rfl | exact Or.inr rfl | omega) dX12_hasCompared_52 rfl ?_
      exact QB_f hQ (by rw [← hh]; decide)
    | cons e w1 ih =>
      intro hc hv hl1 hh
      have hlen : (e :: w1).length = w1.length + 1 := rfl
      have hkk : ((e :: w1).length : Int) - 1 = (w1.length : Nat) := by omega
      rw [hkk]
      have hct : g 242 (w1.length : Nat) = rW e := by rw [hc w1.length (Nat.lt_succ_self _), wc_top]
      have hve := vW_i (hv e List.mem_cons_self)
      have hrk := rk_b e
      have hiw : InI (rW e) := ⟨by omega, by omega⟩
      refine wp_iload_n rfl rfl dX12_hasCompared_7 ?_
      refine wp_if_lt (tgt := 30) (by first | assumption | exact bI_in _ | exact ⟨by omega, by omega⟩ | exact iAnd_in | exact iOr_in | exact iShr_in | exact iShl_in | exact iXor_in | exact hxs _) dX12_hasCompared_8 (by decide) (fun c3 => by exfalso; omega) (fun c3 => ?_)
      refine wp_aload_n rfl rfl dX12_hasCompared_11 ?_
      refine wp_getfield1 (z := 13) (kI := 42) fX12_183 dX12_hasCompared_12 (by first | omega | (simp (disch := omega) only [up2_ne, up2_eq, h43, hct, hve.1, st_200_m1 hS, st_200_42 hS, st_242_m2 hS, st_242_m1 hS]; first | done | omega)) (by first | assumption | (simp (disch := omega) only [up2_ne, up2_eq, h43, hct, hve.1, st_200_m1 hS, st_200_42 hS, st_242_m2 hS, st_242_m1 hS]; first | done | rfl | omega)) rfl rfl ?_
      try simp (disch := omega) only [up2_ne, up2_eq, h43, hct, hve.1, st_200_m1 hS, st_200_42 hS, st_242_m2 hS, st_242_m1 hS]
      refine wp_iload_n rfl rfl dX12_hasCompared_15 ?_
      refine wp_iaload1 dX12_hasCompared_16 (by first | omega | (simp (disch := omega) only [up2_ne, up2_eq, h43, hct, hve.1, st_200_m1 hS, st_200_42 hS, st_242_m2 hS, st_242_m1 hS]; first | done | omega)) (by first | assumption | (simp (disch := omega) only [up2_ne, up2_eq, h43, hct, hve.1, st_200_m1 hS, st_200_42 hS, st_242_m2 hS, st_242_m1 hS]; first | done | rfl | omega)) (by first | omega | (simp (disch := omega) only [up2_ne, up2_eq, h43, hct, hve.1, st_200_m1 hS, st_200_42 hS, st_242_m2 hS, st_242_m1 hS]; first | done | omega)) (by first | omega | (simp (disch := omega) only [up2_ne, up2_eq, h43, hct, hve.1, st_200_m1 hS, st_200_42 hS, st_242_m2 hS, st_242_m1 hS]; first | done | omega)) ?_
      try simp (disch := omega) only [up2_ne, up2_eq, h43, hct, hve.1, st_200_m1 hS, st_200_42 hS, st_242_m2 hS, st_242_m1 hS]
      refine wp_cS1 okX12_rankOf wX12_247 dX12_hasCompared_17 rfl (Nat.le_of_ble_eq_true rfl) (Nat.le_of_ble_eq_true rfl) (s_X12_rankOf hiw) (Nat.zero_le _) ?_
      try simp (disch := omega) only [up2_ne, up2_eq, h43, hct, hve.1, st_200_m1 hS, st_200_42 hS, st_242_m2 hS, st_242_m1 hS]
      refine wp_iconst dX12_hasCompared_20 ?_
      refine wp_icmp_le (tgt := 30) (by first | assumption | exact bI_in _ | exact ⟨by omega, by omega⟩ | exact iAnd_in | exact iOr_in | exact iShr_in | exact iShl_in | exact iXor_in | exact hxs _) (by first | assumption | exact bI_in _ | exact ⟨by omega, by omega⟩ | exact iAnd_in | exact iOr_in | exact iShr_in | exact iShl_in | exact iXor_in | exact hxs _) dX12_hasCompared_21 (by decide) (fun c4 => ?_) (fun c4 => ?_)
      · refine wp_iload_n rfl rfl dX12_hasCompared_30 ?_
        refine wp_if_lt (tgt := 51) (by first | assumption | exact bI_in _ | exact ⟨by omega, by omega⟩ | exact iAnd_in | exact iOr_in | exact iShr_in | exact iShl_in | exact iXor_in | exact hxs _) dX12_hasCompared_31 (by decide) (fun c5 => by exfalso; omega) (fun c5 => ?_)
        refine wp_aload_n rfl rfl dX12_hasCompared_34 ?_
        refine wp_getfield1 (z := 13) (kI := 42) fX12_183 dX12_hasCompared_35 (by first | omega | (simp (disch := omega) only [up2_ne, up2_eq, h43, hct, hve.1, st_200_m1 hS, st_200_42 hS, st_242_m2 hS, st_242_m1 hS]; first | done | omega)) (by first | assumption | (simp (disch := omega) only [up2_ne, up2_eq, h43, hct, hve.1, st_200_m1 hS, st_200_42 hS, st_242_m2 hS, st_242_m1 hS]; first | done | rfl | omega)) rfl rfl ?_
        try simp (disch := omega) only [up2_ne, up2_eq, h43, hct, hve.1, st_200_m1 hS, st_200_42 hS, st_242_m2 hS, st_242_m1 hS]
        refine wp_iload_n rfl rfl dX12_hasCompared_38 ?_
        refine wp_iaload1 dX12_hasCompared_39 (by first | omega | (simp (disch := omega) only [up2_ne, up2_eq, h43, hct, hve.1, st_200_m1 hS, st_200_42 hS, st_242_m2 hS, st_242_m1 hS]; first | done | omega)) (by first | assumption | (simp (disch := omega) only [up2_ne, up2_eq, h43, hct, hve.1, st_200_m1 hS, st_200_42 hS, st_242_m2 hS, st_242_m1 hS]; first | done | rfl | omega)) (by first | omega | (simp (disch := omega) only [up2_ne, up2_eq, h43, hct, hve.1, st_200_m1 hS, st_200_42 hS, st_242_m2 hS, st_242_m1 hS]; first | done | omega)) (by first | omega | (simp (disch := omega) only [up2_ne, up2_eq, h43, hct, hve.1, st_200_m1 hS, st_200_42 hS, st_242_m2 hS, st_242_m1 hS]; first | done | omega)) ?_
        try simp (disch := omega) only [up2_ne, up2_eq, h43, hct, hve.1, st_200_m1 hS, st_200_42 hS, st_242_m2 hS, st_242_m1 hS]
        refine wp_cS1 okX12_rankOf wX12_247 dX12_hasCompared_40 rfl (Nat.le_of_ble_eq_true rfl) (Nat.le_of_ble_eq_true rfl) (s_X12_rankOf hiw) (Nat.zero_le _) ?_
        try simp (disch := omega) only [up2_ne, up2_eq, h43, hct, hve.1, st_200_m1 hS, st_200_42 hS, st_242_m2 hS, st_242_m1 hS]
        refine wp_iconst dX12_hasCompared_43 ?_
        refine wp_icmp_ne (tgt := 51) (by first | assumption | exact bI_in _ | exact ⟨by omega, by omega⟩ | exact iAnd_in | exact iOr_in | exact iShr_in | exact iShl_in | exact iXor_in | exact hxs _) (by first | assumption | exact bI_in _ | exact ⟨by omega, by omega⟩ | exact iAnd_in | exact iOr_in | exact iShr_in | exact iShl_in | exact iXor_in | exact hxs _) dX12_hasCompared_44 (by decide) (fun c6 => ?_) (fun c6 => ?_)
        · refine wp_iconst dX12_hasCompared_51 ?_
          refine wp_zret (by first | exact Or.inl rfl | exact Or.inr rfl | omega) dX12_hasCompared_52 rfl ?_
          have he : hcm (e :: w1) = decide (rkT e = 4) := by
            rw [hcm, if_neg (by omega)]
          first
            | exact QB_t hQ (by rw [← hh, he]; exact decide_eq_true (by omega))
            | exact QB_f hQ (by rw [← hh, he, decide_eq_false (by omega)]; decide)
        · refine wp_iconst dX12_hasCompared_47 ?_
          refine wp_goto (tgt := 52) dX12_hasCompared_48 (by decide) ?_
          refine wp_zret (by first | exact Or.inl rfl | exact Or.inr rfl | omega) dX12_hasCompared_52 rfl ?_
          have he : hcm (e :: w1) = decide (rkT e = 4) := by
            rw [hcm, if_neg (by omega)]
          first
            | exact QB_t hQ (by rw [← hh, he]; exact decide_eq_true (by omega))
            | exact QB_f hQ (by rw [← hh, he, decide_eq_false (by omega)]; decide)
      · refine wp_iinc rfl rfl dX12_hasCompared_24 rfl rfl ?_
        try simp only [List.set_cons_zero, List.set_cons_succ]
        refine wp_goto (tgt := 7) dX12_hasCompared_27 (by decide) ?_
        have he : hcm (e :: w1) = hcm w1 := by
          rw [hcm, if_pos (by omega)]
        exact ih (fun k hk => by rw [hc k (Nat.lt_succ_of_lt hk), wc_lt hk]) (fun x hx => hv x (List.mem_cons_of_mem _ hx)) (by omega) (he.symm.trans hh)
  show WP (gX (gq u)) MX12_hasCompared (d + 1) b Q 0 [(2, 200), (9, 0)] [] g
  refine wp_aload_n rfl rfl dX12_hasCompared_0 ?_
  refine wp_getfield1 (z := 13) (kI := 43) fX12_244 dX12_hasCompared_1 (by first | omega | (simp (disch := omega) only [up2_ne, up2_eq, h43, st_200_m1 hS, st_200_42 hS, st_242_m2 hS, st_242_m1 hS]; first | done | omega)) (by first | assumption | (simp (disch := omega) only [up2_ne, up2_eq, h43, st_200_m1 hS, st_200_42 hS, st_242_m2 hS, st_242_m1 hS]; first | done | rfl | omega)) rfl rfl ?_
  try simp (disch := omega) only [up2_ne, up2_eq, h43, st_200_m1 hS, st_200_42 hS, st_242_m2 hS, st_242_m1 hS]
  refine wp_iconst dX12_hasCompared_4 ?_
  refine wp_isub dX12_hasCompared_5 ?_
  refine wp_istore_n rfl dX12_hasCompared_6 rfl (Nat.le_of_ble_eq_true rfl) rfl ?_
  try simp only [List.set_cons_zero, List.set_cons_succ]
  exact loop w R.2.2 R.2.1 hl rfl
