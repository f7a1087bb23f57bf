/-! ===== text: the class's parse ===== -/
/-- a part with its key -/
def prT (T V : Nat → Int) (p i : Nat) : pR := if T i = 7 + p then prE T V (i + 1) else .inl i
def ptsF (T V : Nat → Int) : Nat → Nat ⊕ (Nat × List (List Int))
  | 0 => .inr (0, [])
  | p + 1 => match ptsF T V p with
    | .inl j => .inl j
    | .inr y => match prT T V p y.1 with
      | .inl j => .inl j
      | .inr z => .inr (z.1, y.2 ++ [z.2])
def ptx (T V : Nat → Int) : Nat ⊕ List (List Int) := match ptsF T V 3 with
  | .inl j => .inl j
  | .inr y => if T y.1 = 22 then .inr y.2 else .inl y.1
theorem ptsF_l {T V : Nat → Int} {p j : Nat} (h : ptsF T V p = .inl j) : ptsF T V (p + 1) = .inl j := by
  rw [ptsF, h]
theorem ptsF_rl {T V : Nat → Int} {p i j : Nat} {os : List (List Int)} (h : ptsF T V p = .inr (i, os)) (h2 : prT T V p i = .inl j) : ptsF T V (p + 1) = .inl j := by
  rw [ptsF, h]
  dsimp only
  rw [h2]
theorem ptsF_rr {T V : Nat → Int} {p i i' : Nat} {os : List (List Int)} {oo : List Int} (h : ptsF T V p = .inr (i, os)) (h2 : prT T V p i = .inr (i', oo)) : ptsF T V (p + 1) = .inr (i', os ++ [oo]) := by
  rw [ptsF, h]
  dsimp only
  rw [h2]
/-- where the q-th of the codes begins -/
def sl (os : List (List Int)) : Nat → Nat
  | 0 => 0
  | q + 1 => sl os q + (os.getD q []).length
theorem gD_l {os ss : List (List Int)} {q : Nat} (h : q < os.length) : (os ++ ss).getD q [] = os.getD q [] := by
  rw [List.getD_eq_getElem?_getD, List.getD_eq_getElem?_getD, List.getElem?_append_left h]
theorem gD_e {os : List (List Int)} {oo : List Int} : (os ++ [oo]).getD os.length [] = oo := by
  rw [List.getD_eq_getElem?_getD, List.getElem?_append_right (Nat.le_refl _), Nat.sub_self]
  rfl
theorem sl_l {os ss : List (List Int)} : ∀ {q : Nat}, q ≤ os.length → sl (os ++ ss) q = sl os q
  | 0, _ => rfl
  | q + 1, h => by rw [sl, sl, sl_l (by omega), gD_l (by omega)]
theorem sl_m {os : List (List Int)} : ∀ {q p : Nat}, q ≤ p → sl os q ≤ sl os p
  | q, 0, h => by
    have : q = 0 := by omega
    subst this
    exact Nat.le_refl _
  | q, p + 1, h => by
    by_cases c : q = p + 1
    · rw [c]
      exact Nat.le_refl _
    · have := sl_m (os := os) (q := q) (p := p) (by omega)
      rw [sl]
      omega
theorem ptsF_G {T V : Nat → Int} {N : Nat} (hT : TOK T V N) : ∀ (p i : Nat) (os : List (List Int)), p ≤ 3 → ptsF T V p = .inr (i, os) → i ≤ N ∧ os.length = p ∧ ∀ q : Nat, q < p → wfO (os.getD q []) 1
  | 0, i, os, _, h => by
    cases h
    exact ⟨Nat.zero_le _, rfl, fun q hq => absurd hq (Nat.not_lt_zero q)⟩
  | p + 1, i, os, hp, h => by
    rcases h1 : ptsF T V p with j | ⟨i1, os1⟩
    · rw [ptsF_l h1] at h
      cases h
    · have ih := ptsF_G hT p i1 os1 (by omega) h1
      rcases h2 : prT T V p i1 with j | ⟨i2, oo⟩
      · rw [ptsF_rl h1 h2] at h
        cases h
      · rw [ptsF_rr h1 h2] at h
        cases h
        unfold prT at h2
        by_cases c : T i1 = 7 + p
        · rw [if_pos c] at h2
          have hi1 : i1 < N := by
            rcases Nat.lt_or_ge i1 N with z | z
            · exact z
            · exfalso
              have : i1 = N := by omega
              subst this
              have := hT.2.2.2.1
              omega
          have hG := prE_G hT (by omega) h2
          refine ⟨hG.2.1, by rw [List.length_append, ih.2.1]; rfl, fun q hq => ?_⟩
          by_cases d : q = p
          · rw [d, ← ih.2.1, gD_e]
            exact hG.2.2.1
          · rw [gD_l (by omega)]
            exact ih.2.2 q (by omega)
        · rw [if_neg c] at h2
          cases h2
/-- a text's code and ends, as far as p parts -/
def tC (g : mH) (x : Int) (os : List (List Int)) (p : Nat) : Prop := ∀ q : Nat, q < p → g (60 + x) q = sl os (q + 1) ∧ ∀ k : Nat, k < (os.getD q []).length → g (50 + x) (sl os q + k) = (os.getD q []).getD k 0
def pLI (T V : Nat → Int) (g : mH) (pa x s : Int) (N p : Nat) (st : pR) : Prop := qS g pa x s 0 N st ∧ (∀ j, st = .inl j → ptsF T V p = .inl j) ∧ ∀ i oo, st = .inr (i, oo) → oo = [] ∧ i ≤ N ∧ s ≤ i ∧ ∃ os, ptsF T V p = .inr (i, os) ∧ os.length = p ∧ s = sl os p ∧ tC g x os p
/-- what parse changes -/
abbrev pfm (h g : mH) (tc tb pa x : Int) : Prop := ∀ y k : Int, ¬ (0 ≤ k ∧ ((y = tc ∧ 5 ≤ k) ∨ (tb + 1 ≤ y ∧ y ≤ tb + 3) ∨ y = pa ∨ (y = 40 + x ∧ k = 3) ∨ y = 50 + x ∨ y = 60 + x)) → g y k = h y k
theorem prT_st {f : Int → Int} {p i : Nat} : bd (bd (qX f (7 + p) i []) (fun i oo => prs (tk f) (Vf f) 45 0 0 i oo)) (qX f 16) = prT (tk f) (Vf f) p i := by
  unfold prT qX
  by_cases c : tk f i = 7 + p
  · rw [if_pos c, if_pos c]
    rfl
  · rw [if_neg c, if_neg c]
    rfl
theorem qW_X {f : Int → Int} {g : mH} {tc tb pa x n : Int} {N : Nat} (C : qC g tc tb pa x n f N) {s t : Int} {R : pR} (t22 : t ≠ 22 ∧ t ≠ 23) (w : qW s N R) : qW s N (bd R (qX f t)) := by
  intro y q
  obtain ⟨i1, o1, e1, e2⟩ := bd_inr q
  have w1 := w _ e1
  dsimp only at w1
  unfold qX at e2
  by_cases c : tk f i1 = t
  · rw [if_pos c] at e2
    cases e2
    have := qC_lt C w1.1 (by rw [c]; exact t22)
    dsimp only
    omega
  · rw [if_neg c] at e2
    cases e2
/-- a part more -/
theorem pLI_s {f : Int → Int} {g g1 g2 g3 g4 : mH} {tc tb pa x n s : Int} {N p : Nat} {st : pR} (hp3 : p < 3) (hx : 0 ≤ x ∧ x < 6) (hpa : pa = 8 ∨ pa = 35) (C : qC g tc tb pa x n f N) (I : pLI (tk f) (Vf f) g pa x s N p st) (w : qW s N st)
    (K1 : qfr g g1 pa x s) (S2 : qS g2 pa x s 0 N (bd (bd st (qX f (7 + p))) (fun i oo => prs (tk f) (Vf f) 45 0 0 i oo))) (K2 : qfr g1 g2 pa x s) (e3 : g3 = up2 g2 (60 + x) p (g2 (40 + x) 3)) (S4 : qS g4 pa x s 0 N (bd (bd (bd st (qX f (7 + p))) (fun i oo => prs (tk f) (Vf f) 45 0 0 i oo)) (qX f 16))) (K4 : qfr g3 g4 pa x s) : ∃ s' st', pLI (tk f) (Vf f) g4 pa x s' N (p + 1) st' ∧ qW s' N st' := by
  have hTK := qC_tok C
  obtain ⟨I1, I2, I3⟩ := I
  rcases st with j | ⟨i, oo⟩
  · exact ⟨s, .inl j, ⟨S4, fun j' e => (by cases e; exact ptsF_l (I2 j rfl)), fun i oo e => (by cases e)⟩, fun y q => (by cases q)⟩
  · obtain ⟨rfl, hi, hsi, os, h1, h2, h3, h4⟩ := I3 i oo rfl
    have eT : bd (bd (bd (.inr (i, [])) (qX f (7 + p))) (fun i oo => prs (tk f) (Vf f) 45 0 0 i oo)) (qX f 16) = prT (tk f) (Vf f) p i := prT_st
    rw [eT] at S4
    rcases hP : prT (tk f) (Vf f) p i with j | ⟨i', o'⟩
    · rw [hP] at S4
      exact ⟨s, .inl j, ⟨S4, fun j' e => (by cases e; exact ptsF_rl h1 hP), fun i oo e => (by cases e)⟩, fun y q => (by cases q)⟩
    · rw [hP] at S4
      have hsz : g2 (40 + x) 3 = s + o'.length := by
        rcases h5 : bd (bd (.inr (i, [])) (qX f (7 + p))) (fun i oo => prs (tk f) (Vf f) 45 0 0 i oo) with j | ⟨i2, o2⟩
        · rw [h5] at eT
          rw [hP] at eT
          cases eT
        · rw [h5] at eT S2
          have eT' : qX f 16 i2 o2 = .inr (i', o') := eT.trans hP
          unfold qX at eT'
          by_cases c : tk f i2 = 16
          · rw [if_pos c] at eT'
            cases eT'
            exact S2.2.2.2.1
          · rw [if_neg c] at eT'
            cases eT'
      have wG := prE_G hTK (i := i + 1) (i' := i') (o' := o')
      have hPE : i + 1 ≤ N ∧ prE (tk f) (Vf f) (i + 1) = .inr (i', o') := by
        have hP2 := hP
        unfold prT at hP2
        by_cases c : tk f i = 7 + p
        · rw [if_pos c] at hP2
          refine ⟨?_, hP2⟩
          rcases Nat.lt_or_ge i N with z | z
          · exact z
          · exfalso
            have : i = N := by omega
            subst this
            have := hTK.2.2.2.1
            have hp2 : ptsF (tk f) (Vf f) (p + 1) = .inr (i', os ++ [o']) := ptsF_rr h1 hP
            omega
        · rw [if_neg c] at hP2
          cases hP2
      have wG' := wG hPE.1 hPE.2
      obtain ⟨t1, t2, t3, t4, t5, t6, t7⟩ := S4
      dsimp only at t1 t2 t3 t4 t6 t7
      have hsl : sl (os ++ [o']) (p + 1) = sl os p + o'.length := by
        rw [sl, sl_l (by omega), ← h2, gD_e]
      refine ⟨s + o'.length, .inr (i', []), ⟨⟨t1, t2, t3, by rw [t4]; exact (Int.add_zero _).symm, by omega, by show s + o'.length + 0 ≤ 160; omega, fun k hk => absurd hk (Nat.not_lt_zero k)⟩, fun j' e => (by cases e), fun i1 o1 e => ?_⟩, qW_of wG'.2.1 (by show s + o'.length + 0 ≤ _; omega)⟩
      cases e
      refine ⟨rfl, wG'.2.1, by omega, os ++ [o'], ptsF_rr h1 hP, by rw [List.length_append, h2]; rfl, by rw [hsl]; omega, fun q hq => ?_⟩
      by_cases d : q = p
      · subst d
        rw [hsl]
        refine ⟨?_, fun k hk => ?_⟩
        · rw [K4 _ _ (by omega), e3, up2_eq, hsz, h3]
          omega
        · rw [← h2, gD_e] at hk ⊢
          rw [sl_l (Nat.le_refl _), h2, ← h3]
          exact t7 k hk
      · have h5 := h4 q (by omega)
        have hm := sl_m (os := os) (q := q + 1) (p := p) (by omega)
        rw [sl_l (by omega), sl_l (by omega), gD_l (by omega)]
        refine ⟨?_, fun k hk => ?_⟩
        · rw [K4 _ _ (by omega), e3, up2_ne (by omega), K2 _ _ (by omega), K1 _ _ (by omega)]
          exact h5.1
        · have hmq : sl os (q + 1) = sl os q + (os.getD q []).length := rfl
          rw [K4 _ _ (by omega), e3, up2_ne (by omega), K2 _ _ (by omega), K1 _ _ (by omega)]
          exact h5.2 k hk
theorem qS_60 {g : mH} {pa x s p v : Int} {op N : Nat} {st : pR} (hx : 0 ≤ x ∧ x < 6) (hpa : pa = 8 ∨ pa = 35) (S : qS g pa x s op N st) : qS (up2 g (60 + x) p v) pa x s op N st := by
  rcases st with j | ⟨i, oo⟩
  · obtain ⟨s1, s2, s3, s4, s5⟩ := S
    exact ⟨by rw [up2_ne (by omega)]; exact s1, s2, s3, by rw [up2_ne (by omega)]; exact s4, by rw [up2_ne (by omega)]; exact s5⟩
  · obtain ⟨s1, s2, s3, s4, s5, s6, s7⟩ := S
    exact ⟨by rw [up2_ne (by omega)]; exact s1, by rw [up2_ne (by omega)]; exact s2, by rw [up2_ne (by omega)]; exact s3, by rw [up2_ne (by omega)]; exact s4, s5, s6, fun k hk => by rw [up2_ne (by omega)]; exact s7 k hk⟩
/-- the end: what the whole is, told by the last state -/
theorem ptx_e {f : Int → Int} {g g2 : mH} {pa x s : Int} {N : Nat} {st : pR} (hx : 0 ≤ x ∧ x < 6) (hpa : pa = 8 ∨ pa = 35) (I : pLI (tk f) (Vf f) g pa x s N 3 st) (S : qS g2 pa x s 0 N (bd st (qX f 22))) (K : qfr g g2 pa x s) : (∃ j : Nat, ptx (tk f) (Vf f) = .inl j ∧ g2 pa 2 = j ∧ j ≤ N) ∨ (∃ os, ptx (tk f) (Vf f) = .inr os ∧ g2 pa 2 = -1 ∧ sl os 3 ≤ 160 ∧ tC g2 x os 3) := by
  obtain ⟨I1, I2, I3⟩ := I
  rcases st with j | ⟨i, oo⟩
  · refine Or.inl ⟨j, ?_, S.1, S.2.1⟩
    unfold ptx
    rw [I2 j rfl]
  · obtain ⟨rfl, hi, hsi, os, h1, h2, h3, h4⟩ := I3 i oo rfl
    have S' : qS g2 pa x s 0 N (if tk f i = 22 then .inr (i + 1, []) else .inl i) := S
    by_cases c : tk f i = 22
    · rw [if_pos c] at S'
      refine Or.inr ⟨os, ?_, S'.2.2.1, ?_, fun q hq => ?_⟩
      · unfold ptx
        rw [h1]
        exact if_pos c
      · have := S'.2.2.2.2.2.1
        have e : (([] : List Int).length : Int) = 0 := rfl
        dsimp only at this
        omega
      · have h5 := h4 q hq
        have hm := sl_m (os := os) (q := q + 1) (p := 3) (by omega)
        have hmq : sl os (q + 1) = sl os q + (os.getD q []).length := rfl
        refine ⟨?_, fun k hk => ?_⟩
        · rw [K _ _ (by omega)]
          exact h5.1
        · rw [K _ _ (by omega)]
          exact h5.2 k hk
    · rw [if_neg c] at S'
      refine Or.inl ⟨i, ?_, S'.1, S'.2.1⟩
      unfold ptx
      rw [h1]
      exact if_neg c
set_option maxHeartbeats 4000000 in
theorem s_X5_parse {u : gT} {h : mH} {d b : Nat} {tc tb pa x n : Int} {f : Int → Int} (TF : tF h tc tb n f) (hfm : u.2.2.2.2.2 ≤ -10 ∨ u.2.2.2.2.2 = -1) (hpa : pa = 8 ∨ pa = 35) (h6 : h pa (-1) = 6) (hx : 0 ≤ x ∧ x < 6) (X : Tx h x) : Rlt (gX (gq u)) MX5_parse (d + 96) b [(2, pa), (2, tc), (2, 40 + x)] h (fun r g => ∃ N : Nat, isN f N ∧ pfm h g tc tb pa x ∧ ((∃ j, ptx (tk f) (Vf f) = .inl j ∧ r = (0, tB f (tP f j)) ∧ j ≤ N) ∨ (∃ os, ptx (tk f) (Vf f) = .inr os ∧ r = (0, -1) ∧ sl os 3 ≤ 160 ∧ tC g x os 3))) := by
  refine Rlt.of ?_
  have hcb := TF.1
  have T := TF.2.1
  have fin : ∀ (g1 : mH) (N : Nat) (s : Int) (st : pR), qC g1 tc tb pa x n f N → pfm h g1 tc tb pa x → pLI (tk f) (Vf f) g1 pa x s N 3 st → qW s N st → WP (gX (gq u)) MX5_parse (d + 96) b (fun r g => ∃ N : Nat, isN f N ∧ pfm h g tc tb pa x ∧ ((∃ j, ptx (tk f) (Vf f) = .inl j ∧ r = (0, tB f (tP f j)) ∧ j ≤ N) ∨ (∃ os, ptx (tk f) (Vf f) = .inr os ∧ r = (0, -1) ∧ sl os 3 ≤ 160 ∧ tC g x os 3))) 64 [(2, pa), (2, tc), (2, 40 + x), (0, 3)] [] g1 := by
    intro g1 N s st C1 KM I1 w1
    have h61 := C1.2.2.1.2
    have T1 := C1.1.2.1
    have hN := qC_N C1
    have S1 := I1.1
    refine wp_aload_n rfl rfl dX5_parse_64 ?_
    refine wp_aload_n rfl rfl dX5_parse_65 ?_
    refine wp_bipush (by decide) dX5_parse_66 ?_
    refine wp_cV2r (ci := 5) okX5_expect rfl rfl wX5_31 dX5_parse_68 (Nat.le_of_ble_eq_true rfl) (Nat.le_of_ble_eq_true rfl) (by first | omega | (simp (disch := omega) only [up2_ne, up2_eq, tpq_a T1, h61]; first | done | omega)) (by first | assumption | (simp (disch := omega) only [up2_ne, up2_eq, tpq_a T1, h61]; first | done | rfl | omega)) (exp_row C1 S1 (qW_1 w1) (by omega) (by omega)) (Nat.zero_le _) ?_
    rintro r g2 ⟨rfl, S2, K2⟩ -
    have C2 := qC_fr C1 K2
    have h62 := C2.2.2.1.2
    have T2 := C2.1.2.1
    have X2 := C2.2.2.2.2
    show WP _ _ _ _ _ _ _ [] _
    have KM2 : pfm h g2 tc tb pa x := fun y k q => by rw [K2 y k (by omega)]; exact KM y k q
    have hor := ptx_e hx hpa I1 S2 K2
    have e2p : ∃ v : Int, g2 pa 2 = v ∧ -1 ≤ v ∧ v ≤ 160 := by
      rcases hor with ⟨j, e1, e2, e3⟩ | ⟨os, e1, e2, e3, e4⟩
      · exact ⟨_, e2, by omega, by omega⟩
      · exact ⟨_, e2, by omega, by omega⟩
    obtain ⟨v, e2, e2a, e2b⟩ := e2p
    refine wp_aload_n rfl rfl dX5_parse_71 ?_
    refine wp_getfield1 (z := 6) (kI := 2) fX5_28 dX5_parse_72 (by first | omega | (simp (disch := omega) only [up2_ne, up2_eq, tpq_a T2, h62, txq_a X2, txq_b X2, txq_c X2, txq_d X2, txq_e X2, txq_f X2, txq_g X2, e2]; first | done | omega)) (by first | assumption | (simp (disch := omega) only [up2_ne, up2_eq, tpq_a T2, h62, txq_a X2, txq_b X2, txq_c X2, txq_d X2, txq_e X2, txq_f X2, txq_g X2, e2]; first | done | rfl | omega)) rfl rfl ?_
    try simp (disch := omega) only [up2_ne, up2_eq, tpq_a T2, h62, txq_a X2, txq_b X2, txq_c X2, txq_d X2, txq_e X2, txq_f X2, txq_g X2, e2]
    refine wp_iconst dX5_parse_75 ?_
    refine wp_icmp_ne (tgt := 83) (by first | assumption | exact bI_in _ | exact ⟨by omega, by omega⟩ | exact iAnd_in | exact iOr_in | exact iShr_in | exact iShl_in | exact iXor_in | exact hxs _) (by first | assumption | exact bI_in _ | exact ⟨by omega, by omega⟩ | exact iAnd_in | exact iOr_in | exact iShr_in | exact iShl_in | exact iXor_in | exact hxs _) dX5_parse_76 (by decide) (fun c1 => ?_) (fun c1 => ?_)
    · obtain ⟨j, e1, e2', e3⟩ : ∃ j : Nat, ptx (tk f) (Vf f) = .inl j ∧ g2 pa 2 = j ∧ j ≤ N := by
        rcases hor with h | ⟨os, e1, e2', e3, e4⟩
        · exact h
        · exfalso; omega
      have ev : v = j := by omega
      subst ev
      refine wp_aload_n rfl rfl dX5_parse_83 ?_
      refine wp_aload_n rfl rfl dX5_parse_84 ?_
      refine wp_getfield1 (z := 6) (kI := 2) fX5_28 dX5_parse_85 (by first | omega | (simp (disch := omega) only [up2_ne, up2_eq, tpq_a T2, h62, txq_a X2, txq_b X2, txq_c X2, txq_d X2, txq_e X2, txq_f X2, txq_g X2, e2]; first | done | omega)) (by first | assumption | (simp (disch := omega) only [up2_ne, up2_eq, tpq_a T2, h62, txq_a X2, txq_b X2, txq_c X2, txq_d X2, txq_e X2, txq_f X2, txq_g X2, e2]; first | done | rfl | omega)) rfl rfl ?_
      try simp (disch := omega) only [up2_ne, up2_eq, tpq_a T2, h62, txq_a X2, txq_b X2, txq_c X2, txq_d X2, txq_e X2, txq_f X2, txq_g X2, e2]
      refine wp_cV1 (ci := 9) okX9_placeOf rfl rfl wX5_43 dX5_parse_88 rfl (Nat.le_of_ble_eq_true rfl) (Nat.le_of_ble_eq_true rfl) (by first | omega | (simp (disch := omega) only [up2_ne, up2_eq, tpq_a T2, h62, txq_a X2, txq_b X2, txq_c X2, txq_d X2, txq_e X2, txq_f X2, txq_g X2, e2]; first | done | omega)) (by first | assumption | (simp (disch := omega) only [up2_ne, up2_eq, tpq_a T2, h62, txq_a X2, txq_b X2, txq_c X2, txq_d X2, txq_e X2, txq_f X2, txq_g X2, e2]; first | done | rfl | omega)) (s_X9_placeOf C2.1 C2.2.1 e3) (Nat.zero_le _) ?_
      try simp (disch := omega) only [up2_ne, up2_eq, tpq_a T2, h62, txq_a X2, txq_b X2, txq_c X2, txq_d X2, txq_e X2, txq_f X2, txq_g X2, e2]
      refine wp_iret dX5_parse_91 rfl ?_
      first
        | exact ⟨N, C1.2.1.2.2.1, KM2, Or.inl ⟨j, e1, rfl, e3⟩⟩
        | exact ⟨N, C1.2.1.2.2.1, KM2, Or.inr ⟨os, e1, rfl, e3, e4⟩⟩
    · obtain ⟨os, e1, e2', e3, e4⟩ : ∃ os, ptx (tk f) (Vf f) = .inr os ∧ g2 pa 2 = -1 ∧ sl os 3 ≤ 160 ∧ tC g2 x os 3 := by
        rcases hor with ⟨j, e1, e2', e3⟩ | h
        · exfalso; omega
        · exact h
      refine wp_iconst dX5_parse_79 ?_
      refine wp_goto (tgt := 91) dX5_parse_80 (by decide) ?_
      refine wp_iret dX5_parse_91 rfl ?_
      first
        | exact ⟨N, C1.2.1.2.2.1, KM2, Or.inl ⟨j, e1, rfl, e3⟩⟩
        | exact ⟨N, C1.2.1.2.2.1, KM2, Or.inr ⟨os, e1, rfl, e3, e4⟩⟩
  have loop : ∀ p : Nat, p ≤ 3 → ∀ (g1 : mH) (N : Nat) (s : Int) (st : pR), qC g1 tc tb pa x n f N → pfm h g1 tc tb pa x → pLI (tk f) (Vf f) g1 pa x s N p st → qW s N st → WP (gX (gq u)) MX5_parse (d + 96) b (fun r g => ∃ N : Nat, isN f N ∧ pfm h g tc tb pa x ∧ ((∃ j, ptx (tk f) (Vf f) = .inl j ∧ r = (0, tB f (tP f j)) ∧ j ≤ N) ∨ (∃ os, ptx (tk f) (Vf f) = .inr os ∧ r = (0, -1) ∧ sl os 3 ≤ 160 ∧ tC g x os 3))) 25 [(2, pa), (2, tc), (2, 40 + x), (0, (p : Int))] [] g1 := by
    refine loop_w 3 (fun p hp ih => ?_)
    intro g1 N s st C1 KM I1 w1
    have h61 := C1.2.2.1.2
    have T1 := C1.1.2.1
    have X1 := C1.2.2.2.2
    have hN := qC_N C1
    have S1 := I1.1
    have hTK := qC_tok C1
    refine wp_iload_n rfl rfl dX5_parse_25 ?_
    refine wp_iconst dX5_parse_26 ?_
    refine wp_icmp_ge (tgt := 64) (by first | assumption | exact bI_in _ | exact ⟨by omega, by omega⟩ | exact iAnd_in | exact iOr_in | exact iShr_in | exact iShl_in | exact iXor_in | exact hxs _) (by first | assumption | exact bI_in _ | exact ⟨by omega, by omega⟩ | exact iAnd_in | exact iOr_in | exact iShr_in | exact iShl_in | exact iXor_in | exact hxs _) dX5_parse_27 (by decide) (fun c2 => ?_) (fun c2 => ?_)
    · have ep : p = 3 := by omega
      subst ep
      exact fin g1 N s st C1 KM I1 w1
    · refine wp_aload_n rfl rfl dX5_parse_30 ?_
      refine wp_aload_n rfl rfl dX5_parse_31 ?_
      refine wp_bipush (by decide) dX5_parse_32 ?_
      refine wp_iload_n rfl rfl dX5_parse_34 ?_
      refine wp_iadd dX5_parse_35 ?_
      refine wp_cV2r (ci := 5) okX5_expect rfl rfl wX5_31 dX5_parse_36 (Nat.le_of_ble_eq_true rfl) (Nat.le_of_ble_eq_true rfl) (by first | omega | (simp (disch := omega) only [up2_ne, up2_eq, tpq_a T1, h61, txq_a X1, txq_b X1, txq_c X1, txq_d X1, txq_e X1, txq_f X1, txq_g X1]; first | done | omega)) (by first | assumption | (simp (disch := omega) only [up2_ne, up2_eq, tpq_a T1, h61, txq_a X1, txq_b X1, txq_c X1, txq_d X1, txq_e X1, txq_f X1, txq_g X1]; first | done | rfl | omega)) (exp_row C1 S1 (qW_1 w1) (by omega) (by omega)) (Nat.zero_le _) ?_
      rintro r g2 ⟨rfl, S2, K2⟩ -
      have C2 := qC_fr C1 K2
      have h62 := C2.2.2.1.2
      have T2 := C2.1.2.1
      have X2 := C2.2.2.2.2
      have w2 := qW_X C1 (t := 7 + (p : Int)) (by omega) w1
      show WP _ _ _ _ _ _ _ [] _
      refine wp_aload_n rfl rfl dX5_parse_39 ?_
      refine wp_aload_n rfl rfl dX5_parse_40 ?_
      refine wp_aload_n rfl rfl dX5_parse_41 ?_
      refine wp_iconst dX5_parse_42 ?_
      refine wp_cV3r (ci := 5) okX5_parseLevel rfl rfl wX5_35 dX5_parse_43 (Nat.le_of_ble_eq_true rfl) (Nat.le_of_ble_eq_true rfl) (by first | omega | (simp (disch := omega) only [up2_ne, up2_eq, tpq_a T2, h62, txq_a X2, txq_b X2, txq_c X2, txq_d X2, txq_e X2, txq_f X2, txq_g X2]; first | done | omega)) (by first | assumption | (simp (disch := omega) only [up2_ne, up2_eq, tpq_a T2, h62, txq_a X2, txq_b X2, txq_c X2, txq_d X2, txq_e X2, txq_f X2, txq_g X2]; first | done | rfl | omega)) (qL_deep (by omega) (desc_all 45).2 _ g2 0 _ 0 0 rfl (by omega) C2 S2 w2 (by omega) (by omega)) (Nat.zero_le _) ?_
      rintro r g3 ⟨rfl, S3, K3⟩ -
      have C3 := qC_fr C2 K3
      have h63 := C3.2.2.1.2
      have T3 := C3.1.2.1
      have X3 := C3.2.2.2.2
      have w3 := qW_prs (k := 45) (lev := 0) (op := 0) hTK (by omega) w2
      show WP _ _ _ _ _ _ _ [] _
      refine wp_aload_n rfl rfl dX5_parse_46 ?_
      refine wp_iload_n rfl rfl dX5_parse_47 ?_
      refine wp_cV1v (ci := 10) okX10_endPart rfl rfl wX5_39 dX5_parse_48 (Nat.le_of_ble_eq_true rfl) (Nat.le_of_ble_eq_true rfl) (by first | omega | (simp (disch := omega) only [up2_ne, up2_eq, tpq_a T3, h63, txq_a X3, txq_b X3, txq_c X3, txq_d X3, txq_e X3, txq_f X3, txq_g X3]; first | done | omega)) (by first | assumption | (simp (disch := omega) only [up2_ne, up2_eq, tpq_a T3, h63, txq_a X3, txq_b X3, txq_c X3, txq_d X3, txq_e X3, txq_f X3, txq_g X3]; first | done | rfl | omega)) (s_X10_endPart hx X3 (by omega) (by omega)) (Nat.zero_le _) ?_
      try simp (disch := omega) only [up2_ne, up2_eq, tpq_a T3, h63, txq_a X3, txq_b X3, txq_c X3, txq_d X3, txq_e X3, txq_f X3, txq_g X3]
      have K4 : ∀ y k : Int, ¬ (0 ≤ k ∧ (y = pa ∨ (y = 40 + x ∧ k = 3) ∨ y = 50 + x ∨ y = 60 + x)) → up2 g3 (60 + x) p (g3 (40 + x) 3) y k = g3 y k := fun y k q => by rw [up2_ne (by omega)]
      have S4 : qS (up2 g3 (60 + x) p (g3 (40 + x) 3)) pa x s 0 N (bd (bd st (qX f (7 + p))) (fun i oo => prs (tk f) (Vf f) 45 0 0 i oo)) := qS_60 hx hpa S3
      generalize hg4 : up2 g3 (60 + x) p (g3 (40 + x) 3) = g4 at *
      have C4 := qC_cg C3 K4
      have h64 := C4.2.2.1.2
      have T4 := C4.1.2.1
      have X4 := C4.2.2.2.2
      refine wp_aload_n rfl rfl dX5_parse_51 ?_
      refine wp_aload_n rfl rfl dX5_parse_52 ?_
      refine wp_bipush (by decide) dX5_parse_53 ?_
      refine wp_cV2r (ci := 5) okX5_expect rfl rfl wX5_31 dX5_parse_55 (Nat.le_of_ble_eq_true rfl) (Nat.le_of_ble_eq_true rfl) (by first | omega | (simp (disch := omega) only [up2_ne, up2_eq, tpq_a T4, h64, txq_a X4, txq_b X4, txq_c X4, txq_d X4, txq_e X4, txq_f X4, txq_g X4]; first | done | omega)) (by first | assumption | (simp (disch := omega) only [up2_ne, up2_eq, tpq_a T4, h64, txq_a X4, txq_b X4, txq_c X4, txq_d X4, txq_e X4, txq_f X4, txq_g X4]; first | done | rfl | omega)) (exp_row C4 S4 (qW_1 w3) (by omega) (by omega)) (Nat.zero_le _) ?_
      rintro r g5 ⟨rfl, S5, K5⟩ -
      have C5 := qC_fr C4 K5
      have h65 := C5.2.2.1.2
      have T5 := C5.1.2.1
      have X5 := C5.2.2.2.2
      show WP _ _ _ _ _ _ _ [] _
      refine wp_iinc rfl rfl dX5_parse_58 rfl rfl ?_
      try simp only [List.set_cons_zero, List.set_cons_succ]
      refine wp_goto (tgt := 25) dX5_parse_61 (by decide) ?_
      obtain ⟨s', st', I', w'⟩ := pLI_s (by omega) hx hpa C1 I1 w1 K2 S3 K3 hg4.symm S5 K5
      exact ih (by omega) g5 N s' st' C5 (fun y k q => by rw [K5 y k (by omega), ← hg4, up2_ne (by omega), K3 y k (by omega), K2 y k (by omega)]; exact KM y k q) I' w'
  show WP (gX (gq u)) MX5_parse (d + 96) b _ 0 [(2, pa), (2, tc), (2, 40 + x), (9, 0)] [] h
  refine wp_aload_n rfl rfl dX5_parse_0 ?_
  refine wp_cV0r (ci := 9) okX9_split rfl rfl wX5_9 dX5_parse_1 (Nat.le_of_ble_eq_true rfl) (Nat.le_of_ble_eq_true rfl) (by first | omega | (simp (disch := omega) only [up2_ne, up2_eq, tpq_a T, h6, txq_a X, txq_b X, txq_c X, txq_d X, txq_e X, txq_f X, txq_g X]; first | done | omega)) (by first | assumption | (simp (disch := omega) only [up2_ne, up2_eq, tpq_a T, h6, txq_a X, txq_b X, txq_c X, txq_d X, txq_e X, txq_f X, txq_g X]; first | done | rfl | omega)) (s_X9_split TF hfm) (Nat.zero_le _) ?_
  rintro r g1 ⟨rfl, N, E1⟩ -
  have TG1 := tfr_tF TF E1.1
  have T1 := TG1.2.1
  have h61 : g1 pa (-1) = 6 := by rw [E1.1 _ _ (by omega)]; exact h6
  have X1 : Tx g1 x := Tx_cg X (fun y k q => E1.1 y k (by omega))
  have C1 : qC g1 tc tb pa x n f N := ⟨TG1, ⟨fun _ _ _ => rfl, E1.2.1, E1.2.2.1, E1.2.2.2⟩, ⟨hpa, h61⟩, hx, X1⟩
  show WP _ _ _ _ _ _ _ [] _
  refine wp_aload_n rfl rfl dX5_parse_4 ?_
  refine wp_cV0v (ci := 10) okX10_clear rfl rfl wX5_14 dX5_parse_5 (Nat.le_of_ble_eq_true rfl) (Nat.le_of_ble_eq_true rfl) (by first | omega | (simp (disch := omega) only [up2_ne, up2_eq, tpq_a T1, h61, txq_a X1, txq_b X1, txq_c X1, txq_d X1, txq_e X1, txq_f X1, txq_g X1]; first | done | omega)) (by first | assumption | (simp (disch := omega) only [up2_ne, up2_eq, tpq_a T1, h61, txq_a X1, txq_b X1, txq_c X1, txq_d X1, txq_e X1, txq_f X1, txq_g X1]; first | done | rfl | omega)) (s_X10_clear hx X1) (Nat.zero_le _) ?_
  try simp (disch := omega) only [up2_ne, up2_eq, tpq_a T1, h61, txq_a X1, txq_b X1, txq_c X1, txq_d X1, txq_e X1, txq_f X1, txq_g X1]
  refine wp_aload_n rfl rfl dX5_parse_8 ?_
  refine wp_iconst dX5_parse_9 ?_
  refine wp_putfield1 (z := 6) (kI := 0) fX5_19 dX5_parse_10 (by first | omega | (simp (disch := omega) only [up2_ne, up2_eq, tpq_a T1, h61, txq_a X1, txq_b X1, txq_c X1, txq_d X1, txq_e X1, txq_f X1, txq_g X1]; first | done | omega)) (by first | assumption | (simp (disch := omega) only [up2_ne, up2_eq, tpq_a T1, h61, txq_a X1, txq_b X1, txq_c X1, txq_d X1, txq_e X1, txq_f X1, txq_g X1]; first | done | rfl | omega)) rfl rfl ?_
  refine wp_aload_n rfl rfl dX5_parse_13 ?_
  refine wp_iconst dX5_parse_14 ?_
  refine wp_putfield1 (z := 6) (kI := 1) fX5_25 dX5_parse_15 (by first | omega | (simp (disch := omega) only [up2_ne, up2_eq, tpq_a T1, h61, txq_a X1, txq_b X1, txq_c X1, txq_d X1, txq_e X1, txq_f X1, txq_g X1]; first | done | omega)) (by first | assumption | (simp (disch := omega) only [up2_ne, up2_eq, tpq_a T1, h61, txq_a X1, txq_b X1, txq_c X1, txq_d X1, txq_e X1, txq_f X1, txq_g X1]; first | done | rfl | omega)) rfl rfl ?_
  refine wp_aload_n rfl rfl dX5_parse_18 ?_
  refine wp_iconst dX5_parse_19 ?_
  refine wp_putfield1 (z := 6) (kI := 2) fX5_28 dX5_parse_20 (by first | omega | (simp (disch := omega) only [up2_ne, up2_eq, tpq_a T1, h61, txq_a X1, txq_b X1, txq_c X1, txq_d X1, txq_e X1, txq_f X1, txq_g X1]; first | done | omega)) (by first | assumption | (simp (disch := omega) only [up2_ne, up2_eq, tpq_a T1, h61, txq_a X1, txq_b X1, txq_c X1, txq_d X1, txq_e X1, txq_f X1, txq_g X1]; first | done | rfl | omega)) rfl rfl ?_
  have K5 : pfm h (up2 (up2 (up2 (up2 g1 (40 + x) 3 0) pa 0 0) pa 1 0) pa 2 (-1)) tc tb pa x := fun y k q => by rw [up2_ne (by omega), up2_ne (by omega), up2_ne (by omega), up2_ne (by omega)]; exact E1.1 y k (by omega)
  have C5 : qC (up2 (up2 (up2 (up2 g1 (40 + x) 3 0) pa 0 0) pa 1 0) pa 2 (-1)) tc tb pa x n f N := qC_cg C1 (fun y k q => by rw [up2_ne (by omega), up2_ne (by omega), up2_ne (by omega), up2_ne (by omega)])
  refine wp_iconst dX5_parse_23 ?_
  refine wp_istore_n rfl dX5_parse_24 rfl (Nat.le_of_ble_eq_true rfl) rfl ?_
  try simp only [List.set_cons_zero, List.set_cons_succ]
  refine loop 0 (by omega) _ N 0 (.inr (0, [])) C5 K5 ⟨⟨?_, ?_, ?_, ?_, Int.le_refl _, by decide, fun k hk => absurd hk (Nat.not_lt_zero k)⟩, fun j e => (by cases e), fun i oo e => ?_⟩ (qW_of (Nat.zero_le _) (Int.le_refl _))
  · rw [up2_ne (by omega), up2_ne (by omega), up2_eq]; rfl
  · rw [up2_ne (by omega), up2_eq]; rfl
  · rw [up2_eq]
  · rw [up2_ne (by omega), up2_ne (by omega), up2_ne (by omega), up2_eq]; rfl
  · cases e
    exact ⟨rfl, Nat.zero_le _, Int.le_refl _, [], rfl, rfl, rfl, fun q hq => absurd hq (Nat.not_lt_zero q)⟩
