/-! ===== text: the reference reads a part ===== -/
abbrev rfr (h g : mH) (row : Int) : Prop := ∀ x k : Int, ¬ ((x = 200 ∧ ((38 ≤ k ∧ k ≤ 41) ∨ k = 43)) ∨ (x = 242 ∧ 0 ≤ k) ∨ (x = 232 ∧ k = row) ∨ ((x = 233 ∨ x = 234) ∧ 160 * row ≤ k ∧ k < 160 * row + 160)) → g x k = h x k
def rSt (h g : mH) (n : Int) (f : Int → Int) (N : Nat) (row : Int) (i : Nat) (w oo : List Int) : Prop := rT g n f ∧ rfr h g row ∧ g 200 38 = tP f i ∧ rWt g w ∧ rOu g row oo ∧ w.length + oo.length ≤ i ∧ i ≤ N
/-- behind next -/
def aSt (h g : mH) (n : Int) (f : Int → Int) (N : Nat) (row : Int) (i : Nat) (w oo : List Int) : Prop := rT g n f ∧ rfr h g row ∧ g 200 38 = tP f (i + 1) ∧ g 200 39 = tB f (tP f i) ∧ g 200 40 = rTk (tk f i) ∧ (tk f i = 13 → g 200 41 = tN f (tP f i)) ∧ rWt g w ∧ rOu g row oo ∧ w.length + oo.length ≤ i ∧ i ≤ N
theorem tok_lt {T V : Nat → Int} {N i : Nat} (hT : TOK T V N) (hi : i ≤ N) (h : T i ≠ 22 ∧ T i ≠ 23) : i < N := by
  rcases Nat.lt_or_ge i N with z | z
  · exact z
  · exfalso
    have : i = N := by omega
    subst this
    have := hT.2.2.2.1
    omega
theorem aSt_of {h g g1 : mH} {n row : Int} {f : Int → Int} {N i : Nat} {w oo : List Int} (r0 : 0 ≤ row ∧ row ≤ 17) (S : rSt h g n f N row i w oo) (P : nPo g f (tP f i) g1) : aSt h g1 n f N row i w oo := by
  obtain ⟨s1, s2, s3, s4, s5, s6, s7⟩ := S
  obtain ⟨p1, p2, p3, p4, p5⟩ := P
  refine ⟨nfr_rT s1 p5, fun x k q => by rw [p5 x k (by omega)]; exact s2 x k q, p1, p2, p3, p4, rWt_cg s4 (p5 _ _ (by omega)) (fun k => p5 _ _ (by omega)), rOu_cg s5 (p5 _ _ (by omega)) (fun k => p5 _ _ (by omega)) (fun k => p5 _ _ (by omega)), s6, s7⟩
theorem rfr_sfr {h g g' : mH} {row : Int} (K : rfr h g row) (K2 : sfr g g' row) : rfr h g' row := fun x k q => by rw [K2 x k (by omega)]; exact K x k q
theorem statL_r : ∀ q ∈ statL, ¬ ((q.1 = 200 ∧ ((38 ≤ q.2.1 ∧ q.2.1 ≤ 41) ∨ q.2.1 = 43)) ∨ (q.1 = 242 ∧ 0 ≤ q.2.1) ∨ (q.1 = 232 ∧ 0 ≤ q.2.1) ∨ ((q.1 = 233 ∨ q.1 = 234) ∧ 0 ≤ q.2.1)) := by decide +kernel
theorem rfr_St {h g : mH} {row : Int} (r0 : 0 ≤ row ∧ row ≤ 17) (H : St h) (K : rfr h g row) : St g := H.of (fun q hq => K _ _ (by have := statL_r q hq; omega))
theorem rfr_rT {h g : mH} {n row : Int} {f : Int → Int} (r0 : 0 ≤ row ∧ row ≤ 17) (T : rT h n f) (K : rfr h g row) : rT g n f := rT_cg T (rfr_St r0 T.1 K) (K _ _ (by omega)) (fun k => K _ _ (by omega))
/-- settled, with the token read -/
theorem rSt_set {h g g1 : mH} {n row : Int} {f : Int → Int} {N i : Nat} {w oo : List Int} (r0 : 0 ≤ row ∧ row ≤ 17) (T : rT h n f) (K : rfr h g row) (e38 : g 200 38 = tP f i) (K2 : sfr g g1 row) (R1 : rWt g1 w) (R2 : rOu g1 row oo) (hl : w.length + oo.length ≤ i) (hi : i ≤ N) : rSt h g1 n f N row i w oo :=
  ⟨rfr_rT r0 T (rfr_sfr K K2), rfr_sfr K K2, by rw [K2 _ _ (by omega)]; exact e38, R1, R2, hl, hi⟩
theorem rWt_push {g : mH} {e : Int} {w : List Int} (R : rWt g w) (hv : vW e) : rWt (up2 (up2 g 242 (w.length : Nat) (rW e)) 200 43 ((w.length : Nat) + 1)) (e :: w) := by
  refine ⟨up2_eq, fun x hx => ?_, fun k hk => ?_⟩
  · rcases List.mem_cons.mp hx with z | z
    · rw [z]
      exact hv
    · exact R.2.1 x z
  · rw [up2_ne (by omega)]
    by_cases c : k = w.length
    · rw [c, up2_eq, wc_top]
    · have : k < w.length + 1 := hk
      rw [up2_ne (by omega), wc_lt (by omega)]
      exact R.2.2 k (by omega)
theorem rSt_push {h g : mH} {n row e : Int} {f : Int → Int} {N i : Nat} {w oo : List Int} (r0 : 0 ≤ row ∧ row ≤ 17) (T : rT h n f) (K : rfr h g row) (e38 : g 200 38 = tP f i) (R1 : rWt g w) (R2 : rOu g row oo) (hv : vW e) (hl : w.length + oo.length + 1 ≤ i) (hi : i ≤ N) : rSt h (up2 (up2 g 242 (w.length : Nat) (rW e)) 200 43 ((w.length : Nat) + 1)) n f N row i (e :: w) oo := by
  have K' : rfr h (up2 (up2 g 242 (w.length : Nat) (rW e)) 200 43 ((w.length : Nat) + 1)) row := fun x k q => by
    rw [up2_ne (by omega), up2_ne (by omega)]
    exact K x k q
  refine ⟨rfr_rT r0 T K', K', by rw [up2_ne (by omega), up2_ne (by omega)]; exact e38, rWt_push R1 hv, rOu_cg R2 (by rw [up2_ne (by omega), up2_ne (by omega)]) (fun k => by rw [up2_ne (by omega), up2_ne (by omega)]) (fun k => by rw [up2_ne (by omega), up2_ne (by omega)]), by rw [List.length_cons]; omega, hi⟩
def flg (q : Nat) (wv mv : Int) : Prop := (q = 0 ∧ wv = 0 ∧ (mv = 0 ∨ mv = 1)) ∨ (q = 1 ∧ wv = 1 ∧ mv = 0) ∨ (q = 2 ∧ wv = 1 ∧ mv = 1)
theorem st_cl {T V : Nat → Int} {i : Nat} {w oo : List Int} (h : T i = 15) (h2 : 14 ∈ w) : rstp T V (i, w, 0, oo) = .inl (i + 1, (stl 7 (stl 1 w oo).1.tail (stl 1 w oo).2).1, 0, (stl 7 (stl 1 w oo).1.tail (stl 1 w oo).2).2) := by
  unfold rstp
  dsimp only
  rw [if_neg (fun q : (0 : Nat) ≠ 0 => q rfl), if_pos ⟨h, h2⟩]
theorem st_end {T V : Nat → Int} {i : Nat} {w oo : List Int} (h : T i = 16) (h2 : 14 ∉ w) : rstp T V (i, w, 0, oo) = .inr (.inr (i + 1, (stl 1 w oo).2)) := by
  unfold rstp
  dsimp only
  rw [if_neg (fun q : (0 : Nat) ≠ 0 => q rfl), if_neg (by omega), if_pos ⟨h, h2⟩]
theorem st_opg {T V : Nat → Int} {i : Nat} {w oo : List Int} (h1 : T i ≠ 15) (h2 : T i ≠ 16) (h3 : ¬ ((T i = 12 ∨ rkT (T i) = 0) ∨ (rkT (T i) = 4 ∧ hcm w = true))) : rstp T V (i, w, 0, oo) = .inl (i + 1, T i :: (stl (rkT (T i)) w oo).1, if rkT (T i) < 3 then 2 else 1, (stl (rkT (T i)) w oo).2) := by
  unfold rstp
  dsimp only
  rw [if_neg (fun q : (0 : Nat) ≠ 0 => q rfl), if_neg (fun q => h1 q.1), if_neg (fun q => h2 q.1), if_neg h3]
theorem tk_inv {f : Int → Int} {i : Nat} : 0 ≤ tk f i ∧ tk f i ≤ 23 := tK_b
theorem code_of {T V : Nat → Int} {N i : Nat} (hT : TOK T V N) (h : T i = 13 ∨ (0 ≤ T i ∧ T i < 7)) : actOf (if T i = 13 then V i else -1 - T i) = rTk (T i) ∧ (if 0 ≤ (if T i = 13 then V i else -1 - T i) then (if T i = 13 then V i else -1 - T i) else 0) = if T i = 13 then V i else 0 := by
  by_cases c : T i = 13
  · have hv := hT.2.2.2.2 i c
    rw [if_pos c, if_pos c, if_pos hv.1, c]
    unfold actOf
    rw [if_pos hv.1]
    exact ⟨rfl, rfl⟩
  · rw [if_neg c, if_neg c, if_neg (by omega)]
    unfold actOf rTk
    rw [if_neg (by omega), if_pos (by omega), if_pos (by omega)]
    exact ⟨by omega, rfl⟩
theorem rTk_b {t : Int} (t0 : 0 ≤ t) (t1 : t ≤ 23) : -1 ≤ rTk t ∧ rTk t ≤ 200 := by
  have := rTk_inv t0 t1
  omega
theorem rkT_t {t : Int} (h : rkT t ≠ 0) (h2 : t ≠ 12) (t1 : t ≤ 23) : vW t ∧ rTk t = rW t ∧ t ≠ 22 ∧ t ≠ 23 := by
  have := lv_rk t
  have h3 : t = 10 ∨ t = 11 ∨ t = 17 ∨ t = 18 ∨ t = 19 ∨ t = 20 ∨ t = 21 := by omega
  rcases h3 with rfl | rfl | rfl | rfl | rfl | rfl | rfl <;> exact ⟨by unfold vW; decide, rfl, by decide, by decide⟩
set_option maxHeartbeats 4000000 in
theorem s_X12_isRead {u : gT} {h : mH} {d b : Nat} {n row : Int} {f : Int → Int} {N : Nat} {R : pR} {i0 : Nat} (RT : rT h n f) (hTK : TOK (tk f) (Vf f) N) (hr : 0 ≤ row ∧ row ≤ 17) (hp : h 200 38 = tP f i0) (hi0 : i0 ≤ N) (hR : Runs (tk f) (Vf f) (i0, [], 2, []) R) : Rlt (gX (gq u)) MX12_isRead (d + 3) b [(2, 200), (0, row)] h (fun r g1 => rfr h g1 row ∧ ((∃ j : Nat, R = .inl j ∧ r = (0, 0) ∧ g1 200 39 = tB f (tP f j)) ∨ (∃ (i2 : Nat) (o2 : List Int), R = .inr (i2, o2) ∧ r = (0, 1) ∧ g1 200 38 = tP f i2 ∧ rOu g1 row o2))) := by
  refine Rlt.of ?_
  have hS := RT.1
  have F := RT.2.2.1
  have loop : ∀ (nn : Nat) (i : Nat) (ww : List Int) (q : Nat) (oo : List Int) (g : mH) (wv mv : Int), rrn (tk f) (Vf f) nn (i, ww, q, oo) = some R → rSt h g n f N row i ww oo → flg q wv mv → WP (gX (gq u)) MX12_isRead (d + 3) b (fun r g1 => rfr h g1 row ∧ ((∃ j : Nat, R = .inl j ∧ r = (0, 0) ∧ g1 200 39 = tB f (tP f j)) ∨ (∃ (i2 : Nat) (o2 : List Int), R = .inr (i2, o2) ∧ r = (0, 1) ∧ g1 200 38 = tP f i2 ∧ rOu g1 row o2))) 16 [(2, 200), (0, row), (0, wv), (0, mv), (9, 0)] [] g := by
    intro nn
    induction nn with
    | zero =>
      intro i ww q oo g wv mv hrr
      cases hrr
    | succ nn ih =>
      intro i ww q oo g wv mv hrr S hfl
      have kont : ∀ (i2 : Nat) (w2 : List Int) (q2 : Nat) (o2 : List Int) (g2 : mH) (wv2 mv2 : Int), rstp (tk f) (Vf f) (i, ww, q, oo) = .inl (i2, w2, q2, o2) → rSt h g2 n f N row i2 w2 o2 → flg q2 wv2 mv2 → WP (gX (gq u)) MX12_isRead (d + 3) b (fun r g1 => rfr h g1 row ∧ ((∃ j : Nat, R = .inl j ∧ r = (0, 0) ∧ g1 200 39 = tB f (tP f j)) ∨ (∃ (i2 : Nat) (o2 : List Int), R = .inr (i2, o2) ∧ r = (0, 1) ∧ g1 200 38 = tP f i2 ∧ rOu g1 row o2))) 16 [(2, 200), (0, row), (0, wv2), (0, mv2), (9, 0)] [] g2 := fun i2 w2 q2 o2 g2 wv2 mv2 e S2 fl2 => by
        rw [rrn, e] at hrr
        exact ih i2 w2 q2 o2 g2 wv2 mv2 hrr S2 fl2
      have stopk : ∀ R2 : pR, rstp (tk f) (Vf f) (i, ww, q, oo) = .inr R2 → R = R2 := fun R2 e => by
        rw [rrn, e] at hrr
        exact (Option.some.inj hrr).symm
      unfold flg at hfl
      have blk320 : ∀ g1, aSt h g1 n f N row i ww oo → q = 0 → tk f i ≠ 15 → tk f i ≠ 16 → ¬ ((tk f i = 12 ∨ rkT (tk f i) = 0) ∨ (rkT (tk f i) = 4 ∧ hcm ww = true)) → WP (gX (gq u)) MX12_isRead (d + 3) b (fun r g1 => rfr h g1 row ∧ ((∃ j : Nat, R = .inl j ∧ r = (0, 0) ∧ g1 200 39 = tB f (tP f j)) ∨ (∃ (i2 : Nat) (o2 : List Int), R = .inr (i2, o2) ∧ r = (0, 1) ∧ g1 200 38 = tP f i2 ∧ rOu g1 row o2))) 320 [(2, 200), (0, row), (0, wv), (0, mv), (0, rkT (tk f i))] [] g1 := by
        intro g1 A hq c15 c16 cne
        have h40 := A.2.2.2.2.1
        have h39 := A.2.2.2.1
        have gT := A.1
        have gS := gT.1
        have K := A.2.1
        have R1 := A.2.2.2.2.2.2.1
        have R2 := A.2.2.2.2.2.2.2.1
        have hl := A.2.2.2.2.2.2.2.2.1
        have hi := A.2.2.2.2.2.2.2.2.2
        have h43 := R1.1
        have ha := R2.1
        have ht0 := tk_inv (f := f) (i := i)
        have htb := rTk_b ht0.1 ht0.2
        have hNn := hTK.1
        have e38 := A.2.2.1
        have hrk := rk_b (tk f i)
        have htt := rkT_t (t := tk f i) (by omega) (by omega) ht0.2
        refine wp_aload_n rfl rfl dX12_isRead_320 ?_
        refine wp_iload_n rfl rfl dX12_isRead_321 ?_
        refine wp_iload rfl dX12_isRead_322 ?_
        refine wp_cV2r (ci := 12) okX12_settle rfl rfl wX12_257 dX12_isRead_324 (Nat.le_of_ble_eq_true rfl) (Nat.le_of_ble_eq_true rfl) (by first | omega | (simp (disch := omega) only [up2_ne, up2_eq, h43, h40, st_200_m1 gS, st_200_32 gS, st_200_42 gS, st_232_m2 gS, st_232_m1 gS, st_242_m2 gS, st_242_m1 gS]; first | done | omega)) (by first | assumption | (simp (disch := omega) only [up2_ne, up2_eq, h43, h40, st_200_m1 gS, st_200_32 gS, st_200_42 gS, st_232_m2 gS, st_232_m1 gS, st_242_m2 gS, st_242_m1 gS]; first | done | rfl | omega)) (s_X12_settle gS hr.1 hr.2 R1 R2 (by omega) (by omega) (by omega)) (Nat.zero_le _) ?_
        rintro r g2 ⟨rfl, P2, O2, K2⟩ -
        have S2 := rfr_St hr RT.1 (rfr_sfr K K2)
        have h43_2 := P2.1
        have t40_2 : g2 200 40 = rTk (tk f i) := by rw [K2 _ _ (by omega)]; exact h40
        have e382 : g2 200 38 = tP f (i + 1) := by rw [K2 _ _ (by omega)]; exact e38
        have hl2 := stl_len (r := rkT (tk f i)) ww oo
        show WP _ _ _ _ _ _ _ [] _
        refine wp_aload_n rfl rfl dX12_isRead_327 ?_
        refine wp_getfield1 (z := 13) (kI := 42) fX12_183 dX12_isRead_328 (by first | omega | (simp (disch := omega) only [up2_ne, up2_eq, h43_2, t40_2, st_200_m1 S2, st_200_32 S2, st_200_42 S2, st_232_m2 S2, st_232_m1 S2, st_242_m2 S2, st_242_m1 S2]; first | done | omega)) (by first | assumption | (simp (disch := omega) only [up2_ne, up2_eq, h43_2, t40_2, st_200_m1 S2, st_200_32 S2, st_200_42 S2, st_232_m2 S2, st_232_m1 S2, st_242_m2 S2, st_242_m1 S2]; first | done | rfl | omega)) rfl rfl ?_
        try simp (disch := omega) only [up2_ne, up2_eq, h43_2, t40_2, st_200_m1 S2, st_200_32 S2, st_200_42 S2, st_232_m2 S2, st_232_m1 S2, st_242_m2 S2, st_242_m1 S2]
        refine wp_aload_n rfl rfl dX12_isRead_331 ?_
        refine wp_getfield1 (z := 13) (kI := 43) fX12_244 dX12_isRead_332 (by first | omega | (simp (disch := omega) only [up2_ne, up2_eq, h43_2, t40_2, st_200_m1 S2, st_200_32 S2, st_200_42 S2, st_232_m2 S2, st_232_m1 S2, st_242_m2 S2, st_242_m1 S2]; first | done | omega)) (by first | assumption | (simp (disch := omega) only [up2_ne, up2_eq, h43_2, t40_2, st_200_m1 S2, st_200_32 S2, st_200_42 S2, st_232_m2 S2, st_232_m1 S2, st_242_m2 S2, st_242_m1 S2]; first | done | rfl | omega)) rfl rfl ?_
        try simp (disch := omega) only [up2_ne, up2_eq, h43_2, t40_2, st_200_m1 S2, st_200_32 S2, st_200_42 S2, st_232_m2 S2, st_232_m1 S2, st_242_m2 S2, st_242_m1 S2]
        refine wp_aload_n rfl rfl dX12_isRead_335 ?_
        refine wp_getfield1 (z := 13) (kI := 40) fX12_226 dX12_isRead_336 (by first | omega | (simp (disch := omega) only [up2_ne, up2_eq, h43_2, t40_2, st_200_m1 S2, st_200_32 S2, st_200_42 S2, st_232_m2 S2, st_232_m1 S2, st_242_m2 S2, st_242_m1 S2]; first | done | omega)) (by first | assumption | (simp (disch := omega) only [up2_ne, up2_eq, h43_2, t40_2, st_200_m1 S2, st_200_32 S2, st_200_42 S2, st_232_m2 S2, st_232_m1 S2, st_242_m2 S2, st_242_m1 S2]; first | done | rfl | omega)) rfl rfl ?_
        try simp (disch := omega) only [up2_ne, up2_eq, h43_2, t40_2, st_200_m1 S2, st_200_32 S2, st_200_42 S2, st_232_m2 S2, st_232_m1 S2, st_242_m2 S2, st_242_m1 S2]
        refine wp_iastore1 dX12_isRead_339 (by first | omega | (simp (disch := omega) only [up2_ne, up2_eq, h43_2, t40_2, st_200_m1 S2, st_200_32 S2, st_200_42 S2, st_232_m2 S2, st_232_m1 S2, st_242_m2 S2, st_242_m1 S2]; first | done | omega)) (by first | assumption | (simp (disch := omega) only [up2_ne, up2_eq, h43_2, t40_2, st_200_m1 S2, st_200_32 S2, st_200_42 S2, st_232_m2 S2, st_232_m1 S2, st_242_m2 S2, st_242_m1 S2]; first | done | rfl | omega)) (by first | omega | (simp (disch := omega) only [up2_ne, up2_eq, h43_2, t40_2, st_200_m1 S2, st_200_32 S2, st_200_42 S2, st_232_m2 S2, st_232_m1 S2, st_242_m2 S2, st_242_m1 S2]; first | done | omega)) (by first | omega | (simp (disch := omega) only [up2_ne, up2_eq, h43_2, t40_2, st_200_m1 S2, st_200_32 S2, st_200_42 S2, st_232_m2 S2, st_232_m1 S2, st_242_m2 S2, st_242_m1 S2]; first | done | omega)) ?_
        refine wp_aload_n rfl rfl dX12_isRead_340 ?_
        refine wp_dup (by decide) dX12_isRead_341 ?_
        refine wp_getfield1 (z := 13) (kI := 43) fX12_244 dX12_isRead_342 (by first | omega | (simp (disch := omega) only [up2_ne, up2_eq, h43_2, t40_2, st_200_m1 S2, st_200_32 S2, st_200_42 S2, st_232_m2 S2, st_232_m1 S2, st_242_m2 S2, st_242_m1 S2]; first | done | omega)) (by first | assumption | (simp (disch := omega) only [up2_ne, up2_eq, h43_2, t40_2, st_200_m1 S2, st_200_32 S2, st_200_42 S2, st_232_m2 S2, st_232_m1 S2, st_242_m2 S2, st_242_m1 S2]; first | done | rfl | omega)) rfl rfl ?_
        try simp (disch := omega) only [up2_ne, up2_eq, h43_2, t40_2, st_200_m1 S2, st_200_32 S2, st_200_42 S2, st_232_m2 S2, st_232_m1 S2, st_242_m2 S2, st_242_m1 S2]
        refine wp_iconst dX12_isRead_345 ?_
        refine wp_iadd dX12_isRead_346 ?_
        refine wp_putfield1 (z := 13) (kI := 43) fX12_244 dX12_isRead_347 (by first | omega | (simp (disch := omega) only [up2_ne, up2_eq, h43_2, t40_2, st_200_m1 S2, st_200_32 S2, st_200_42 S2, st_232_m2 S2, st_232_m1 S2, st_242_m2 S2, st_242_m1 S2]; first | done | omega)) (by first | assumption | (simp (disch := omega) only [up2_ne, up2_eq, h43_2, t40_2, st_200_m1 S2, st_200_32 S2, st_200_42 S2, st_232_m2 S2, st_232_m1 S2, st_242_m2 S2, st_242_m1 S2]; first | done | rfl | omega)) rfl rfl ?_
        refine wp_iconst dX12_isRead_350 ?_
        refine wp_istore_n rfl dX12_isRead_351 rfl (Nat.le_of_ble_eq_true rfl) rfl ?_
        try simp only [List.set_cons_zero, List.set_cons_succ]
        refine wp_iload rfl dX12_isRead_352 ?_
        refine wp_iconst dX12_isRead_354 ?_
        refine wp_icmp_ge (tgt := 362) (by first | assumption | exact bI_in _ | exact ⟨by omega, by omega⟩ | exact iAnd_in | exact iOr_in | exact iShr_in | exact iShl_in | exact iXor_in | exact hxs _) (by first | assumption | exact bI_in _ | exact ⟨by omega, by omega⟩ | exact iAnd_in | exact iOr_in | exact iShr_in | exact iShl_in | exact iXor_in | exact hxs _) dX12_isRead_355 (by decide) (fun c1 => ?_) (fun c1 => ?_)
        · refine wp_iconst dX12_isRead_362 ?_
          refine wp_istore_n rfl dX12_isRead_363 rfl (Nat.le_of_ble_eq_true rfl) rfl ?_
          try simp only [List.set_cons_zero, List.set_cons_succ]
          refine wp_goto (tgt := 16) dX12_isRead_364 (by decide) ?_
          refine wp_dropAt 4 rfl ?_
          subst hq
          have hs := st_opg (V := Vf f) (w := ww) (oo := oo) c15 c16 cne
          rw [htt.2.1]
          first
            | (rw [if_pos (by omega)] at hs
               exact kont _ _ _ _ _ _ _ hs (rSt_push hr RT (rfr_sfr K K2) e382 P2 O2 htt.1 (by omega) (tok_lt hTK hi htt.2.2)) (Or.inr (Or.inr ⟨rfl, rfl, rfl⟩)))
            | (rw [if_neg (by omega)] at hs
               exact kont _ _ _ _ _ _ _ hs (rSt_push hr RT (rfr_sfr K K2) e382 P2 O2 htt.1 (by omega) (tok_lt hTK hi htt.2.2)) (Or.inr (Or.inl ⟨rfl, rfl, rfl⟩)))
        · refine wp_iconst dX12_isRead_358 ?_
          refine wp_goto (tgt := 363) dX12_isRead_359 (by decide) ?_
          refine wp_istore_n rfl dX12_isRead_363 rfl (Nat.le_of_ble_eq_true rfl) rfl ?_
          try simp only [List.set_cons_zero, List.set_cons_succ]
          refine wp_goto (tgt := 16) dX12_isRead_364 (by decide) ?_
          refine wp_dropAt 4 rfl ?_
          subst hq
          have hs := st_opg (V := Vf f) (w := ww) (oo := oo) c15 c16 cne
          rw [htt.2.1]
          first
            | (rw [if_pos (by omega)] at hs
               exact kont _ _ _ _ _ _ _ hs (rSt_push hr RT (rfr_sfr K K2) e382 P2 O2 htt.1 (by omega) (tok_lt hTK hi htt.2.2)) (Or.inr (Or.inr ⟨rfl, rfl, rfl⟩)))
            | (rw [if_neg (by omega)] at hs
               exact kont _ _ _ _ _ _ _ hs (rSt_push hr RT (rfr_sfr K K2) e382 P2 O2 htt.1 (by omega) (tok_lt hTK hi htt.2.2)) (Or.inr (Or.inl ⟨rfl, rfl, rfl⟩)))
      have blk278 : ∀ g1, aSt h g1 n f N row i ww oo → q = 0 → ¬ (tk f i = 15 ∧ 14 ∈ ww) → ¬ (tk f i = 16 ∧ 14 ∉ ww) → WP (gX (gq u)) MX12_isRead (d + 3) b (fun r g1 => rfr h g1 row ∧ ((∃ j : Nat, R = .inl j ∧ r = (0, 0) ∧ g1 200 39 = tB f (tP f j)) ∨ (∃ (i2 : Nat) (o2 : List Int), R = .inr (i2, o2) ∧ r = (0, 1) ∧ g1 200 38 = tP f i2 ∧ rOu g1 row o2))) 278 [(2, 200), (0, row), (0, wv), (0, mv), (9, 0)] [] g1 := by
        intro g1 A hq c15 c16
        have h40 := A.2.2.2.2.1
        have h39 := A.2.2.2.1
        have gT := A.1
        have gS := gT.1
        have K := A.2.1
        have R1 := A.2.2.2.2.2.2.1
        have R2 := A.2.2.2.2.2.2.2.1
        have hl := A.2.2.2.2.2.2.2.2.1
        have hi := A.2.2.2.2.2.2.2.2.2
        have h43 := R1.1
        have ha := R2.1
        have ht0 := tk_inv (f := f) (i := i)
        have htb := rTk_b ht0.1 ht0.2
        have hNn := hTK.1
        have e38 := A.2.2.1
        have hrk := rk_b (tk f i)
        have hrkT := rkR_T ht0.1 ht0.2
        have hinT : InI (rTk (tk f i)) := ⟨by omega, by omega⟩
        refine wp_aload_n rfl rfl dX12_isRead_278 ?_
        refine wp_getfield1 (z := 13) (kI := 40) fX12_226 dX12_isRead_279 (by first | omega | (simp (disch := omega) only [up2_ne, up2_eq, h43, h40, hrkT, st_200_m1 gS, st_200_32 gS, st_200_42 gS, st_232_m2 gS, st_232_m1 gS, st_242_m2 gS, st_242_m1 gS]; first | done | omega)) (by first | assumption | (simp (disch := omega) only [up2_ne, up2_eq, h43, h40, hrkT, st_200_m1 gS, st_200_32 gS, st_200_42 gS, st_232_m2 gS, st_232_m1 gS, st_242_m2 gS, st_242_m1 gS]; first | done | rfl | omega)) rfl rfl ?_
        try simp (disch := omega) only [up2_ne, up2_eq, h43, h40, hrkT, st_200_m1 gS, st_200_32 gS, st_200_42 gS, st_232_m2 gS, st_232_m1 gS, st_242_m2 gS, st_242_m1 gS]
        refine wp_bipush (by decide) dX12_isRead_282 ?_
        refine wp_icmp_ne (tgt := 291) (by first | assumption | exact bI_in _ | exact ⟨by omega, by omega⟩ | exact iAnd_in | exact iOr_in | exact iShr_in | exact iShl_in | exact iXor_in | exact hxs _) (by first | assumption | exact bI_in _ | exact ⟨by omega, by omega⟩ | exact iAnd_in | exact iOr_in | exact iShr_in | exact iShl_in | exact iXor_in | exact hxs _) dX12_isRead_284 (by decide) (fun c2 => ?_) (fun c2 => ?_)
        · refine wp_aload_n rfl rfl dX12_isRead_291 ?_
          refine wp_getfield1 (z := 13) (kI := 40) fX12_226 dX12_isRead_292 (by first | omega | (simp (disch := omega) only [up2_ne, up2_eq, h43, h40, hrkT, st_200_m1 gS, st_200_32 gS, st_200_42 gS, st_232_m2 gS, st_232_m1 gS, st_242_m2 gS, st_242_m1 gS]; first | done | omega)) (by first | assumption | (simp (disch := omega) only [up2_ne, up2_eq, h43, h40, hrkT, st_200_m1 gS, st_200_32 gS, st_200_42 gS, st_232_m2 gS, st_232_m1 gS, st_242_m2 gS, st_242_m1 gS]; first | done | rfl | omega)) rfl rfl ?_
          try simp (disch := omega) only [up2_ne, up2_eq, h43, h40, hrkT, st_200_m1 gS, st_200_32 gS, st_200_42 gS, st_232_m2 gS, st_232_m1 gS, st_242_m2 gS, st_242_m1 gS]
          refine wp_cS1 okX12_rankOf wX12_247 dX12_isRead_295 rfl (Nat.le_of_ble_eq_true rfl) (Nat.le_of_ble_eq_true rfl) (s_X12_rankOf hinT) (Nat.zero_le _) ?_
          try simp (disch := omega) only [up2_ne, up2_eq, h43, h40, hrkT, st_200_m1 gS, st_200_32 gS, st_200_42 gS, st_232_m2 gS, st_232_m1 gS, st_242_m2 gS, st_242_m1 gS]
          refine wp_istore dX12_isRead_298 rfl (Nat.le_of_ble_eq_true rfl) rfl ?_
          try simp only [List.set_cons_zero, List.set_cons_succ]
          skip
          refine wp_iload rfl dX12_isRead_300 ?_
          refine wp_if_eq (tgt := 318) (by first | assumption | exact bI_in _ | exact ⟨by omega, by omega⟩ | exact iAnd_in | exact iOr_in | exact iShr_in | exact iShl_in | exact iXor_in | exact hxs _) dX12_isRead_302 (by decide) (fun c3 => ?_) (fun c3 => ?_)
          · refine wp_iconst dX12_isRead_318 ?_
            refine wp_zret (by first | exact Or.inl rfl | exact Or.inr rfl | omega) dX12_isRead_319 rfl ?_
            subst hq
            refine ⟨K, Or.inl ⟨i, stopk _ (st_err c15 c16 ?_), rfl, h39⟩⟩
            first
              | exact Or.inl (Or.inr (by omega))
              | exact Or.inl (Or.inl (by have := rTk_inv ht0.1 ht0.2; omega))
              | exact Or.inr ⟨by omega, by assumption⟩
          · have hrk0 : rkT (tk f i) ≠ 0 := by omega
            refine wp_iload rfl dX12_isRead_305 ?_
            refine wp_iconst dX12_isRead_307 ?_
            refine wp_icmp_ne (tgt := 320) (by first | assumption | exact bI_in _ | exact ⟨by omega, by omega⟩ | exact iAnd_in | exact iOr_in | exact iShr_in | exact iShl_in | exact iXor_in | exact hxs _) (by first | assumption | exact bI_in _ | exact ⟨by omega, by omega⟩ | exact iAnd_in | exact iOr_in | exact iShr_in | exact iShl_in | exact iXor_in | exact hxs _) dX12_isRead_308 (by decide) (fun c4 => ?_) (fun c4 => ?_)
            · refine blk320 g1 A hq (fun y => ?_) (fun y => ?_) (fun y => ?_)
              · rw [y] at hrk0
                exact hrk0 rfl
              · rw [y] at hrk0
                exact hrk0 rfl
              · rcases y with (y | y) | y
                · have := rTk_inv ht0.1 ht0.2
                  omega
                · omega
                · first
                    | (exfalso; omega)
                    | exact absurd y.2 (by assumption)
            · refine wp_aload_n rfl rfl dX12_isRead_311 ?_
              refine wp_cV0 (ci := 12) okX12_hasCompared rfl rfl wX12_264 dX12_isRead_312 rfl (Nat.le_of_ble_eq_true rfl) (Nat.le_of_ble_eq_true rfl) (by first | omega | (simp (disch := omega) only [up2_ne, up2_eq, h43, h40, hrkT, st_200_m1 gS, st_200_32 gS, st_200_42 gS, st_232_m2 gS, st_232_m1 gS, st_242_m2 gS, st_242_m1 gS]; first | done | omega)) (by first | assumption | (simp (disch := omega) only [up2_ne, up2_eq, h43, h40, hrkT, st_200_m1 gS, st_200_32 gS, st_200_42 gS, st_232_m2 gS, st_232_m1 gS, st_242_m2 gS, st_242_m1 gS]; first | done | rfl | omega)) (s_X12_hasCompared gS R1 (by omega)) (Nat.zero_le _) ?_
              try simp (disch := omega) only [up2_ne, up2_eq, h43, h40, hrkT, st_200_m1 gS, st_200_32 gS, st_200_42 gS, st_232_m2 gS, st_232_m1 gS, st_242_m2 gS, st_242_m1 gS]
              refine wp_ifB_eq (tgt := 320) dX12_isRead_315 (by decide) (fun c5 => ?_) (fun c5 => ?_)
              · refine blk320 g1 A hq (fun y => ?_) (fun y => ?_) (fun y => ?_)
                · rw [y] at hrk0
                  exact hrk0 rfl
                · rw [y] at hrk0
                  exact hrk0 rfl
                · rcases y with (y | y) | y
                  · have := rTk_inv ht0.1 ht0.2
                    omega
                  · omega
                  · first
                      | (exfalso; omega)
                      | exact absurd y.2 (by assumption)
              · refine wp_iconst dX12_isRead_318 ?_
                refine wp_zret (by first | exact Or.inl rfl | exact Or.inr rfl | omega) dX12_isRead_319 rfl ?_
                subst hq
                refine ⟨K, Or.inl ⟨i, stopk _ (st_err c15 c16 ?_), rfl, h39⟩⟩
                first
                  | exact Or.inl (Or.inr (by omega))
                  | exact Or.inl (Or.inl (by have := rTk_inv ht0.1 ht0.2; omega))
                  | exact Or.inr ⟨by omega, by assumption⟩
        · refine wp_iconst dX12_isRead_287 ?_
          refine wp_goto (tgt := 298) dX12_isRead_288 (by decide) ?_
          refine wp_istore dX12_isRead_298 rfl (Nat.le_of_ble_eq_true rfl) rfl ?_
          try simp only [List.set_cons_zero, List.set_cons_succ]
          skip
          refine wp_iload rfl dX12_isRead_300 ?_
          refine wp_if_eq (tgt := 318) (by first | assumption | exact bI_in _ | exact ⟨by omega, by omega⟩ | exact iAnd_in | exact iOr_in | exact iShr_in | exact iShl_in | exact iXor_in | exact hxs _) dX12_isRead_302 (by decide) (fun hx => ?_) (fun hx => absurd hx (by decide))
          refine wp_iconst dX12_isRead_318 ?_
          refine wp_zret (by first | exact Or.inl rfl | exact Or.inr rfl | omega) dX12_isRead_319 rfl ?_
          subst hq
          refine ⟨K, Or.inl ⟨i, stopk _ (st_err c15 c16 ?_), rfl, h39⟩⟩
          first
            | exact Or.inl (Or.inr (by omega))
            | exact Or.inl (Or.inl (by have := rTk_inv ht0.1 ht0.2; omega))
            | exact Or.inr ⟨by omega, by assumption⟩
      have blk252 : ∀ g1, aSt h g1 n f N row i ww oo → q = 0 → ¬ (tk f i = 15 ∧ 14 ∈ ww) → WP (gX (gq u)) MX12_isRead (d + 3) b (fun r g1 => rfr h g1 row ∧ ((∃ j : Nat, R = .inl j ∧ r = (0, 0) ∧ g1 200 39 = tB f (tP f j)) ∨ (∃ (i2 : Nat) (o2 : List Int), R = .inr (i2, o2) ∧ r = (0, 1) ∧ g1 200 38 = tP f i2 ∧ rOu g1 row o2))) 252 [(2, 200), (0, row), (0, wv), (0, mv), (9, 0)] [] g1 := by
        intro g1 A hq c15
        have h40 := A.2.2.2.2.1
        have h39 := A.2.2.2.1
        have gT := A.1
        have gS := gT.1
        have K := A.2.1
        have R1 := A.2.2.2.2.2.2.1
        have R2 := A.2.2.2.2.2.2.2.1
        have hl := A.2.2.2.2.2.2.2.2.1
        have hi := A.2.2.2.2.2.2.2.2.2
        have h43 := R1.1
        have ha := R2.1
        have ht0 := tk_inv (f := f) (i := i)
        have htb := rTk_b ht0.1 ht0.2
        have hNn := hTK.1
        have e38 := A.2.2.1
        refine wp_aload_n rfl rfl dX12_isRead_252 ?_
        refine wp_getfield1 (z := 13) (kI := 40) fX12_226 dX12_isRead_253 (by first | omega | (simp (disch := omega) only [up2_ne, up2_eq, h43, h40, st_200_m1 gS, st_200_32 gS, st_200_42 gS, st_232_m2 gS, st_232_m1 gS, st_242_m2 gS, st_242_m1 gS]; first | done | omega)) (by first | assumption | (simp (disch := omega) only [up2_ne, up2_eq, h43, h40, st_200_m1 gS, st_200_32 gS, st_200_42 gS, st_232_m2 gS, st_232_m1 gS, st_242_m2 gS, st_242_m1 gS]; first | done | rfl | omega)) rfl rfl ?_
        try simp (disch := omega) only [up2_ne, up2_eq, h43, h40, st_200_m1 gS, st_200_32 gS, st_200_42 gS, st_232_m2 gS, st_232_m1 gS, st_242_m2 gS, st_242_m1 gS]
        refine wp_bipush (by decide) dX12_isRead_256 ?_
        refine wp_icmp_ne (tgt := 278) (by first | assumption | exact bI_in _ | exact ⟨by omega, by omega⟩ | exact iAnd_in | exact iOr_in | exact iShr_in | exact iShl_in | exact iXor_in | exact hxs _) (by first | assumption | exact bI_in _ | exact ⟨by omega, by omega⟩ | exact iAnd_in | exact iOr_in | exact iShr_in | exact iShl_in | exact iXor_in | exact hxs _) dX12_isRead_258 (by decide) (fun c6 => ?_) (fun c6 => ?_)
        · refine blk278 g1 A hq c15 (fun y => ?_)
          have hy := y.1
          first
            | (exfalso; have := rTk_inv ht0.1 ht0.2; omega)
            | exact absurd (by assumption) y.2
        · refine wp_aload_n rfl rfl dX12_isRead_261 ?_
          refine wp_bipush (by decide) dX12_isRead_262 ?_
          refine wp_cV1 (ci := 12) okX12_waitsFor rfl rfl wX12_261 dX12_isRead_264 rfl (Nat.le_of_ble_eq_true rfl) (Nat.le_of_ble_eq_true rfl) (by first | omega | (simp (disch := omega) only [up2_ne, up2_eq, h43, h40, st_200_m1 gS, st_200_32 gS, st_200_42 gS, st_232_m2 gS, st_232_m1 gS, st_242_m2 gS, st_242_m1 gS]; first | done | omega)) (by first | assumption | (simp (disch := omega) only [up2_ne, up2_eq, h43, h40, st_200_m1 gS, st_200_32 gS, st_200_42 gS, st_232_m2 gS, st_232_m1 gS, st_242_m2 gS, st_242_m1 gS]; first | done | rfl | omega)) (s_X12_waitsFor gS R1 (by omega)) (Nat.zero_le _) ?_
          try simp (disch := omega) only [up2_ne, up2_eq, h43, h40, st_200_m1 gS, st_200_32 gS, st_200_42 gS, st_232_m2 gS, st_232_m1 gS, st_242_m2 gS, st_242_m1 gS]
          refine wp_ifB_ne (tgt := 278) dX12_isRead_267 (by decide) (fun c7 => ?_) (fun c7 => ?_)
          · refine blk278 g1 A hq c15 (fun y => ?_)
            have hy := y.1
            first
              | (exfalso; have := rTk_inv ht0.1 ht0.2; omega)
              | exact absurd (by assumption) y.2
          · have ht16 : tk f i = 16 := (by have := rTk_inv ht0.1 ht0.2; omega)
            have h14 : (14 : Int) ∉ ww := by assumption
            refine wp_aload_n rfl rfl dX12_isRead_270 ?_
            refine wp_iload_n rfl rfl dX12_isRead_271 ?_
            refine wp_iconst dX12_isRead_272 ?_
            refine wp_cV2r (ci := 12) okX12_settle rfl rfl wX12_257 dX12_isRead_273 (Nat.le_of_ble_eq_true rfl) (Nat.le_of_ble_eq_true rfl) (by first | omega | (simp (disch := omega) only [up2_ne, up2_eq, h43, h40, st_200_m1 gS, st_200_32 gS, st_200_42 gS, st_232_m2 gS, st_232_m1 gS, st_242_m2 gS, st_242_m1 gS]; first | done | omega)) (by first | assumption | (simp (disch := omega) only [up2_ne, up2_eq, h43, h40, st_200_m1 gS, st_200_32 gS, st_200_42 gS, st_232_m2 gS, st_232_m1 gS, st_242_m2 gS, st_242_m1 gS]; first | done | rfl | omega)) (s_X12_settle gS hr.1 hr.2 R1 R2 (by omega) (by omega) (by omega)) (Nat.zero_le _) ?_
            rintro r g2 ⟨rfl, P2, O2, K2⟩ -
            have S2 := rfr_St hr RT.1 (rfr_sfr K K2)
            have h43_2 := P2.1
            have t40_2 : g2 200 40 = rTk (tk f i) := by rw [K2 _ _ (by omega)]; exact h40
            show WP _ _ _ _ _ _ _ [] _
            refine wp_iconst dX12_isRead_276 ?_
            refine wp_zret (by first | exact Or.inl rfl | exact Or.inr rfl | omega) dX12_isRead_277 rfl ?_
            subst hq
            refine ⟨rfr_sfr K K2, Or.inr ⟨i + 1, _, stopk _ (st_end ht16 h14), rfl, ?_, O2⟩⟩
            rw [K2 _ _ (by omega)]
            exact e38
      have blk208 : ∀ g1, aSt h g1 n f N row i ww oo → q = 0 → WP (gX (gq u)) MX12_isRead (d + 3) b (fun r g1 => rfr h g1 row ∧ ((∃ j : Nat, R = .inl j ∧ r = (0, 0) ∧ g1 200 39 = tB f (tP f j)) ∨ (∃ (i2 : Nat) (o2 : List Int), R = .inr (i2, o2) ∧ r = (0, 1) ∧ g1 200 38 = tP f i2 ∧ rOu g1 row o2))) 208 [(2, 200), (0, row), (0, wv), (0, mv), (9, 0)] [] g1 := by
        intro g1 A hq
        have h40 := A.2.2.2.2.1
        have h39 := A.2.2.2.1
        have gT := A.1
        have gS := gT.1
        have K := A.2.1
        have R1 := A.2.2.2.2.2.2.1
        have R2 := A.2.2.2.2.2.2.2.1
        have hl := A.2.2.2.2.2.2.2.2.1
        have hi := A.2.2.2.2.2.2.2.2.2
        have h43 := R1.1
        have ha := R2.1
        have ht0 := tk_inv (f := f) (i := i)
        have htb := rTk_b ht0.1 ht0.2
        have hNn := hTK.1
        have e38 := A.2.2.1
        refine wp_aload_n rfl rfl dX12_isRead_208 ?_
        refine wp_getfield1 (z := 13) (kI := 40) fX12_226 dX12_isRead_209 (by first | omega | (simp (disch := omega) only [up2_ne, up2_eq, h43, h40, st_200_m1 gS, st_200_32 gS, st_200_42 gS, st_232_m2 gS, st_232_m1 gS, st_242_m2 gS, st_242_m1 gS]; first | done | omega)) (by first | assumption | (simp (disch := omega) only [up2_ne, up2_eq, h43, h40, st_200_m1 gS, st_200_32 gS, st_200_42 gS, st_232_m2 gS, st_232_m1 gS, st_242_m2 gS, st_242_m1 gS]; first | done | rfl | omega)) rfl rfl ?_
        try simp (disch := omega) only [up2_ne, up2_eq, h43, h40, st_200_m1 gS, st_200_32 gS, st_200_42 gS, st_232_m2 gS, st_232_m1 gS, st_242_m2 gS, st_242_m1 gS]
        refine wp_bipush (by decide) dX12_isRead_212 ?_
        refine wp_icmp_ne (tgt := 252) (by first | assumption | exact bI_in _ | exact ⟨by omega, by omega⟩ | exact iAnd_in | exact iOr_in | exact iShr_in | exact iShl_in | exact iXor_in | exact hxs _) (by first | assumption | exact bI_in _ | exact ⟨by omega, by omega⟩ | exact iAnd_in | exact iOr_in | exact iShr_in | exact iShl_in | exact iXor_in | exact hxs _) dX12_isRead_214 (by decide) (fun c8 => ?_) (fun c8 => ?_)
        · refine blk252 g1 A hq (fun y => ?_)
          have hy := y.1
          first
            | (exfalso; have := rTk_inv ht0.1 ht0.2; omega)
            | exact absurd y.2 (by assumption)
        · refine wp_aload_n rfl rfl dX12_isRead_217 ?_
          refine wp_bipush (by decide) dX12_isRead_218 ?_
          refine wp_cV1 (ci := 12) okX12_waitsFor rfl rfl wX12_261 dX12_isRead_220 rfl (Nat.le_of_ble_eq_true rfl) (Nat.le_of_ble_eq_true rfl) (by first | omega | (simp (disch := omega) only [up2_ne, up2_eq, h43, h40, st_200_m1 gS, st_200_32 gS, st_200_42 gS, st_232_m2 gS, st_232_m1 gS, st_242_m2 gS, st_242_m1 gS]; first | done | omega)) (by first | assumption | (simp (disch := omega) only [up2_ne, up2_eq, h43, h40, st_200_m1 gS, st_200_32 gS, st_200_42 gS, st_232_m2 gS, st_232_m1 gS, st_242_m2 gS, st_242_m1 gS]; first | done | rfl | omega)) (s_X12_waitsFor gS R1 (by omega)) (Nat.zero_le _) ?_
          try simp (disch := omega) only [up2_ne, up2_eq, h43, h40, st_200_m1 gS, st_200_32 gS, st_200_42 gS, st_232_m2 gS, st_232_m1 gS, st_242_m2 gS, st_242_m1 gS]
          refine wp_ifB_eq (tgt := 252) dX12_isRead_223 (by decide) (fun c9 => ?_) (fun c9 => ?_)
          · refine blk252 g1 A hq (fun y => ?_)
            have hy := y.1
            first
              | (exfalso; have := rTk_inv ht0.1 ht0.2; omega)
              | exact absurd y.2 (by assumption)
          · have ht15 : tk f i = 15 := (by have := rTk_inv ht0.1 ht0.2; omega)
            have h14 : (14 : Int) ∈ ww := by assumption
            refine wp_aload_n rfl rfl dX12_isRead_226 ?_
            refine wp_iload_n rfl rfl dX12_isRead_227 ?_
            refine wp_iconst dX12_isRead_228 ?_
            refine wp_cV2r (ci := 12) okX12_settle rfl rfl wX12_257 dX12_isRead_229 (Nat.le_of_ble_eq_true rfl) (Nat.le_of_ble_eq_true rfl) (by first | omega | (simp (disch := omega) only [up2_ne, up2_eq, h43, h40, st_200_m1 gS, st_200_32 gS, st_200_42 gS, st_232_m2 gS, st_232_m1 gS, st_242_m2 gS, st_242_m1 gS]; first | done | omega)) (by first | assumption | (simp (disch := omega) only [up2_ne, up2_eq, h43, h40, st_200_m1 gS, st_200_32 gS, st_200_42 gS, st_232_m2 gS, st_232_m1 gS, st_242_m2 gS, st_242_m1 gS]; first | done | rfl | omega)) (s_X12_settle gS hr.1 hr.2 R1 R2 (by omega) (by omega) (by omega)) (Nat.zero_le _) ?_
            rintro r g2 ⟨rfl, P2, O2, K2⟩ -
            have S2 := rfr_St hr RT.1 (rfr_sfr K K2)
            have h43_2 := P2.1
            have t40_2 : g2 200 40 = rTk (tk f i) := by rw [K2 _ _ (by omega)]; exact h40
            have hl2 := stl_len (r := 1) ww oo
            have h142 := (stl_in (r := 1) (by decide) ww oo).mpr h14
            have hst1 : stl 1 ww oo = ((stl 1 ww oo).1, (stl 1 ww oo).2) := rfl
            generalize hw1 : (stl 1 ww oo).1 = w1 at *
            generalize ho1 : (stl 1 ww oo).2 = o1 at *
            obtain ⟨e, w1, rfl⟩ : ∃ e w2, w1 = e :: w2 := by
              rcases w1 with _ | ⟨e, w2⟩
              · exact absurd h142 List.not_mem_nil
              · exact ⟨e, w2, rfl⟩
            have hlen : (e :: w1).length = w1.length + 1 := rfl
            show WP _ _ _ _ _ _ _ [] _
            refine wp_aload_n rfl rfl dX12_isRead_232 ?_
            refine wp_dup (by decide) dX12_isRead_233 ?_
            refine wp_getfield1 (z := 13) (kI := 43) fX12_244 dX12_isRead_234 (by first | omega | (simp (disch := omega) only [up2_ne, up2_eq, h43_2, t40_2, st_200_m1 S2, st_200_32 S2, st_200_42 S2, st_232_m2 S2, st_232_m1 S2, st_242_m2 S2, st_242_m1 S2]; first | done | omega)) (by first | assumption | (simp (disch := omega) only [up2_ne, up2_eq, h43_2, t40_2, st_200_m1 S2, st_200_32 S2, st_200_42 S2, st_232_m2 S2, st_232_m1 S2, st_242_m2 S2, st_242_m1 S2]; first | done | rfl | omega)) rfl rfl ?_
            try simp (disch := omega) only [up2_ne, up2_eq, h43_2, t40_2, st_200_m1 S2, st_200_32 S2, st_200_42 S2, st_232_m2 S2, st_232_m1 S2, st_242_m2 S2, st_242_m1 S2]
            refine wp_iconst dX12_isRead_237 ?_
            refine wp_isub dX12_isRead_238 ?_
            refine wp_putfield1 (z := 13) (kI := 43) fX12_244 dX12_isRead_239 (by first | omega | (simp (disch := omega) only [up2_ne, up2_eq, h43_2, t40_2, st_200_m1 S2, st_200_32 S2, st_200_42 S2, st_232_m2 S2, st_232_m1 S2, st_242_m2 S2, st_242_m1 S2]; first | done | omega)) (by first | assumption | (simp (disch := omega) only [up2_ne, up2_eq, h43_2, t40_2, st_200_m1 S2, st_200_32 S2, st_200_42 S2, st_232_m2 S2, st_232_m1 S2, st_242_m2 S2, st_242_m1 S2]; first | done | rfl | omega)) rfl rfl ?_
            rw [show ((e :: w1).length : Int) - 1 = (w1.length : Nat) by omega]
            have R13 := rWt_tl P2
            have R23 : rOu (up2 g2 200 43 (w1.length : Nat)) row o1 := rOu_cg O2 (by rw [up2_ne (by omega)]) (fun k => by rw [up2_ne (by omega)]) (fun k => by rw [up2_ne (by omega)])
            have gS3 : St (up2 g2 200 43 (w1.length : Nat)) := S2.up (by decide +kernel)
            have K3r : rfr h (up2 g2 200 43 (w1.length : Nat)) row := fun x k y => by rw [up2_ne (by omega)]; exact rfr_sfr K K2 x k y
            have e38c : up2 g2 200 43 (w1.length : Nat) 200 38 = tP f (i + 1) := by rw [up2_ne (by omega), K2 _ _ (by omega)]; exact e38
            refine wp_aload_n rfl rfl dX12_isRead_242 ?_
            refine wp_iload_n rfl rfl dX12_isRead_243 ?_
            refine wp_bipush (by decide) dX12_isRead_244 ?_
            refine wp_cV2r (ci := 12) okX12_settle rfl rfl wX12_257 dX12_isRead_246 (Nat.le_of_ble_eq_true rfl) (Nat.le_of_ble_eq_true rfl) (by first | omega | (simp (disch := omega) only [up2_ne, up2_eq, h43, st_200_m1 S2, st_200_32 S2, st_200_42 S2, st_232_m2 S2, st_232_m1 S2, st_242_m2 S2, st_242_m1 S2]; first | done | omega)) (by first | assumption | (simp (disch := omega) only [up2_ne, up2_eq, h43, st_200_m1 S2, st_200_32 S2, st_200_42 S2, st_232_m2 S2, st_232_m1 S2, st_242_m2 S2, st_242_m1 S2]; first | done | rfl | omega)) (s_X12_settle gS3 hr.1 hr.2 R13 R23 (by omega) (by omega) (by omega)) (Nat.zero_le _) ?_
            rintro r g5 ⟨rfl, P5, O5, K5⟩ -
            have S5 := rfr_St hr RT.1 (rfr_sfr K3r K5)
            have h43_5 := P5.1
            have t40_5 : g5 200 40 = g5 200 40 := rfl
            have hl5 := stl_len (r := 7) w1 o1
            show WP _ _ _ _ _ _ _ [] _
            refine wp_goto (tgt := 16) dX12_isRead_249 (by decide) ?_
            refine wp_dropAt 4 rfl ?_
            subst hq
            have hc := st_cl (V := Vf f) (oo := oo) ht15 h14
            rw [hw1, ho1, List.tail_cons] at hc
            exact kont _ _ _ _ _ _ _ hc (rSt_set hr RT K3r e38c K5 P5 O5 (by omega) (tok_lt hTK hi (by omega))) (Or.inl ⟨rfl, by omega, by omega⟩)
      have blk131 : ∀ g1, aSt h g1 n f N row i ww oo → (q = 1 ∨ q = 2) → ¬ (tk f i = 14 ∨ tk f i = 18 ∨ (tk f i = 12 ∧ q = 2)) → WP (gX (gq u)) MX12_isRead (d + 3) b (fun r g1 => rfr h g1 row ∧ ((∃ j : Nat, R = .inl j ∧ r = (0, 0) ∧ g1 200 39 = tB f (tP f j)) ∨ (∃ (i2 : Nat) (o2 : List Int), R = .inr (i2, o2) ∧ r = (0, 1) ∧ g1 200 38 = tP f i2 ∧ rOu g1 row o2))) 131 [(2, 200), (0, row), (0, wv), (0, mv), (0, 0)] [] g1 := by
        intro g1 A hq hno
        have h40 := A.2.2.2.2.1
        have h39 := A.2.2.2.1
        have gT := A.1
        have gS := gT.1
        have K := A.2.1
        have R1 := A.2.2.2.2.2.2.1
        have R2 := A.2.2.2.2.2.2.2.1
        have hl := A.2.2.2.2.2.2.2.2.1
        have hi := A.2.2.2.2.2.2.2.2.2
        have h43 := R1.1
        have ha := R2.1
        have ht0 := tk_inv (f := f) (i := i)
        have htb := rTk_b ht0.1 ht0.2
        have hNn := hTK.1
        have e38 := A.2.2.1
        have h41 := A.2.2.2.2.2.1
        refine wp_iload rfl dX12_isRead_131 ?_
        refine wp_if_ne (tgt := 203) (by first | assumption | exact bI_in _ | exact ⟨by omega, by omega⟩ | exact iAnd_in | exact iOr_in | exact iShr_in | exact iShl_in | exact iXor_in | exact hxs _) dX12_isRead_133 (by decide) (fun hx => absurd hx (by decide)) (fun hx => ?_)
        refine wp_aload_n rfl rfl dX12_isRead_136 ?_
        refine wp_getfield1 (z := 13) (kI := 40) fX12_226 dX12_isRead_137 (by first | omega | (simp (disch := omega) only [up2_ne, up2_eq, h43, h40, ha, st_200_m1 gS, st_200_32 gS, st_200_42 gS, st_232_m2 gS, st_232_m1 gS, st_242_m2 gS, st_242_m1 gS]; first | done | omega)) (by first | assumption | (simp (disch := omega) only [up2_ne, up2_eq, h43, h40, ha, st_200_m1 gS, st_200_32 gS, st_200_42 gS, st_232_m2 gS, st_232_m1 gS, st_242_m2 gS, st_242_m1 gS]; first | done | rfl | omega)) rfl rfl ?_
        try simp (disch := omega) only [up2_ne, up2_eq, h43, h40, ha, st_200_m1 gS, st_200_32 gS, st_200_42 gS, st_232_m2 gS, st_232_m1 gS, st_242_m2 gS, st_242_m1 gS]
        refine wp_sipush (by decide) dX12_isRead_140 ?_
        refine wp_icmp_eq (tgt := 164) (by first | assumption | exact bI_in _ | exact ⟨by omega, by omega⟩ | exact iAnd_in | exact iOr_in | exact iShr_in | exact iShl_in | exact iXor_in | exact hxs _) (by first | assumption | exact bI_in _ | exact ⟨by omega, by omega⟩ | exact iAnd_in | exact iOr_in | exact iShr_in | exact iShl_in | exact iXor_in | exact hxs _) dX12_isRead_143 (by decide) (fun c10 => ?_) (fun c10 => ?_)
        · refine wp_aload_n rfl rfl dX12_isRead_164 ?_
          refine wp_iload_n rfl rfl dX12_isRead_165 ?_
          refine wp_aload_n rfl rfl dX12_isRead_166 ?_
          refine wp_getfield1 (z := 13) (kI := 40) fX12_226 dX12_isRead_167 (by first | omega | (simp (disch := omega) only [up2_ne, up2_eq, h43, h40, ha, st_200_m1 gS, st_200_32 gS, st_200_42 gS, st_232_m2 gS, st_232_m1 gS, st_242_m2 gS, st_242_m1 gS]; first | done | omega)) (by first | assumption | (simp (disch := omega) only [up2_ne, up2_eq, h43, h40, ha, st_200_m1 gS, st_200_32 gS, st_200_42 gS, st_232_m2 gS, st_232_m1 gS, st_242_m2 gS, st_242_m1 gS]; first | done | rfl | omega)) rfl rfl ?_
          try simp (disch := omega) only [up2_ne, up2_eq, h43, h40, ha, st_200_m1 gS, st_200_32 gS, st_200_42 gS, st_232_m2 gS, st_232_m1 gS, st_242_m2 gS, st_242_m1 gS]
          refine wp_aload_n rfl rfl dX12_isRead_170 ?_
          refine wp_getfield1 (z := 13) (kI := 40) fX12_226 dX12_isRead_171 (by first | omega | (simp (disch := omega) only [up2_ne, up2_eq, h43, h40, ha, st_200_m1 gS, st_200_32 gS, st_200_42 gS, st_232_m2 gS, st_232_m1 gS, st_242_m2 gS, st_242_m1 gS]; first | done | omega)) (by first | assumption | (simp (disch := omega) only [up2_ne, up2_eq, h43, h40, ha, st_200_m1 gS, st_200_32 gS, st_200_42 gS, st_232_m2 gS, st_232_m1 gS, st_242_m2 gS, st_242_m1 gS]; first | done | rfl | omega)) rfl rfl ?_
          try simp (disch := omega) only [up2_ne, up2_eq, h43, h40, ha, st_200_m1 gS, st_200_32 gS, st_200_42 gS, st_232_m2 gS, st_232_m1 gS, st_242_m2 gS, st_242_m1 gS]
          refine wp_sipush (by decide) dX12_isRead_174 ?_
          refine wp_icmp_ne (tgt := 187) (by first | assumption | exact bI_in _ | exact ⟨by omega, by omega⟩ | exact iAnd_in | exact iOr_in | exact iShr_in | exact iShl_in | exact iXor_in | exact hxs _) (by first | assumption | exact bI_in _ | exact ⟨by omega, by omega⟩ | exact iAnd_in | exact iOr_in | exact iShr_in | exact iShl_in | exact iXor_in | exact hxs _) dX12_isRead_177 (by decide) (fun c11 => ?_) (fun c11 => ?_)
          · skip
            refine wp_iconst dX12_isRead_187 ?_
            have hnm : tk f i = 13 ∨ (0 ≤ tk f i ∧ tk f i < 7) := (by have := rTk_inv ht0.1 ht0.2; omega)
            have hcc : ∃ cc : Int, cc = (if tk f i = 13 then Vf f i else -1 - tk f i) ∧ actOf cc = rTk (tk f i) ∧ 0 = (if 0 ≤ cc then cc else 0) := by
              have hco := code_of hTK hnm
              refine ⟨_, rfl, hco.1, ?_⟩
              rw [hco.2]
              have hdd : tk f i = 13 ∨ tk f i ≠ 13 := by omega
              rcases hdd with y | y
              · first
                  | (exfalso; have := rTk_inv ht0.1 ht0.2; omega)
                  | (rw [if_pos y]; try rfl)
              · first
                  | (exfalso; have := rTk_inv ht0.1 ht0.2; omega)
                  | (rw [if_neg y]; try rfl)
            have hlt : i < N := tok_lt hTK hi (by omega)
            obtain ⟨cc, hcd, hca, hcn⟩ := hcc
            have hst4 := st_num (T := tk f) (V := Vf f) (w := ww) (o := oo) hq hnm
            rw [← hcd] at hst4
            refine wp_cV3v (ci := 12) okX12_add rfl rfl wX12_207 dX12_isRead_188 (Nat.le_of_ble_eq_true rfl) (Nat.le_of_ble_eq_true rfl) (by first | omega | (simp (disch := omega) only [up2_ne, up2_eq, h43, h40, ha, st_200_m1 gS, st_200_32 gS, st_200_42 gS, st_232_m2 gS, st_232_m1 gS, st_242_m2 gS, st_242_m1 gS]; first | done | omega)) (by first | assumption | (simp (disch := omega) only [up2_ne, up2_eq, h43, h40, ha, st_200_m1 gS, st_200_32 gS, st_200_42 gS, st_232_m2 gS, st_232_m1 gS, st_242_m2 gS, st_242_m1 gS]; first | done | rfl | omega)) (s_X12_add gS hr.1 hr.2 ha (by omega) (by omega)) (Nat.zero_le _) ?_
            try simp (disch := omega) only [up2_ne, up2_eq, h43, h40, ha, st_200_m1 gS, st_200_32 gS, st_200_42 gS, st_232_m2 gS, st_232_m1 gS, st_242_m2 gS, st_242_m1 gS]
            have R2c := rOu_add (c := cc) R2
            rw [hca, ← hcn] at R2c
            have K2 : rfr h (up2 (up2 (up2 g1 233 (160 * row + (oo.length : Nat)) (rTk (tk f i))) 234 (160 * row + (oo.length : Nat)) (0)) 232 row ((oo.length : Nat) + 1)) row := fun x k y => by rw [up2_ne (by omega), up2_ne (by omega), up2_ne (by omega)]; exact K x k y
            have gS3 := rfr_St hr RT.1 K2
            have R13 := rWt_cg R1 (g' := up2 (up2 (up2 g1 233 (160 * row + (oo.length : Nat)) (rTk (tk f i))) 234 (160 * row + (oo.length : Nat)) (0)) 232 row ((oo.length : Nat) + 1)) (by rw [up2_ne (by omega), up2_ne (by omega), up2_ne (by omega)]) (fun k => by rw [up2_ne (by omega), up2_ne (by omega), up2_ne (by omega)])
            have e38' : up2 (up2 (up2 g1 233 (160 * row + (oo.length : Nat)) (rTk (tk f i))) 234 (160 * row + (oo.length : Nat)) (0)) 232 row ((oo.length : Nat) + 1) 200 38 = tP f (i + 1) := by rw [up2_ne (by omega), up2_ne (by omega), up2_ne (by omega)]; exact e38
            have R23 := R2c
            refine wp_aload_n rfl rfl dX12_isRead_191 ?_
            refine wp_iload_n rfl rfl dX12_isRead_192 ?_
            refine wp_bipush (by decide) dX12_isRead_193 ?_
            refine wp_cV2r (ci := 12) okX12_settle rfl rfl wX12_257 dX12_isRead_195 (Nat.le_of_ble_eq_true rfl) (Nat.le_of_ble_eq_true rfl) (by first | omega | (simp (disch := omega) only [up2_ne, up2_eq, h43, h40, ha, st_200_m1 gS, st_200_32 gS, st_200_42 gS, st_232_m2 gS, st_232_m1 gS, st_242_m2 gS, st_242_m1 gS]; first | done | omega)) (by first | assumption | (simp (disch := omega) only [up2_ne, up2_eq, h43, h40, ha, st_200_m1 gS, st_200_32 gS, st_200_42 gS, st_232_m2 gS, st_232_m1 gS, st_242_m2 gS, st_242_m1 gS]; first | done | rfl | omega)) (s_X12_settle gS3 hr.1 hr.2 R13 R23 (by rw [List.length_append, List.length_singleton]; omega) (by omega) (by omega)) (Nat.zero_le _) ?_
            rintro r g4 ⟨rfl, P4, O4, K4⟩ -
            have S4 := rfr_St hr RT.1 (rfr_sfr K2 K4)
            have h43_4 := P4.1
            have t40_4 : g4 200 40 = g4 200 40 := rfl
            have hl4 := stl_len (r := 7) ww (oo ++ [cc])
            rw [List.length_append, List.length_singleton] at hl4
            show WP _ _ _ _ _ _ _ [] _
            refine wp_iconst dX12_isRead_198 ?_
            refine wp_istore_n rfl dX12_isRead_199 rfl (Nat.le_of_ble_eq_true rfl) rfl ?_
            try simp only [List.set_cons_zero, List.set_cons_succ]
            refine wp_goto (tgt := 205) dX12_isRead_200 (by decide) ?_
            refine wp_goto (tgt := 16) dX12_isRead_205 (by decide) ?_
            refine wp_dropAt 4 rfl ?_
            exact kont _ _ _ _ _ _ _ hst4 (rSt_set hr RT K2 e38' K4 P4 O4 (by omega) (tok_lt hTK hi (by omega))) (Or.inl ⟨rfl, rfl, by omega⟩)
          · have h41 := h41 (by have := rTk_inv ht0.1 ht0.2; omega)
            refine wp_aload_n rfl rfl dX12_isRead_180 ?_
            refine wp_getfield1 (z := 13) (kI := 41) fX12_238 dX12_isRead_181 (by first | omega | (simp (disch := omega) only [up2_ne, up2_eq, h43, h40, ha, h41, st_200_m1 gS, st_200_32 gS, st_200_42 gS, st_232_m2 gS, st_232_m1 gS, st_242_m2 gS, st_242_m1 gS]; first | done | omega)) (by first | assumption | (simp (disch := omega) only [up2_ne, up2_eq, h43, h40, ha, h41, st_200_m1 gS, st_200_32 gS, st_200_42 gS, st_232_m2 gS, st_232_m1 gS, st_242_m2 gS, st_242_m1 gS]; first | done | rfl | omega)) rfl rfl ?_
            try simp (disch := omega) only [up2_ne, up2_eq, h43, h40, ha, h41, st_200_m1 gS, st_200_32 gS, st_200_42 gS, st_232_m2 gS, st_232_m1 gS, st_242_m2 gS, st_242_m1 gS]
            refine wp_goto (tgt := 188) dX12_isRead_184 (by decide) ?_
            have hnm : tk f i = 13 ∨ (0 ≤ tk f i ∧ tk f i < 7) := (by have := rTk_inv ht0.1 ht0.2; omega)
            have hcc : ∃ cc : Int, cc = (if tk f i = 13 then Vf f i else -1 - tk f i) ∧ actOf cc = rTk (tk f i) ∧ tN f (tP f i) = (if 0 ≤ cc then cc else 0) := by
              have hco := code_of hTK hnm
              refine ⟨_, rfl, hco.1, ?_⟩
              rw [hco.2]
              have hdd : tk f i = 13 ∨ tk f i ≠ 13 := by omega
              rcases hdd with y | y
              · first
                  | (exfalso; have := rTk_inv ht0.1 ht0.2; omega)
                  | (rw [if_pos y]; try rfl)
              · first
                  | (exfalso; have := rTk_inv ht0.1 ht0.2; omega)
                  | (rw [if_neg y]; try rfl)
            have hlt : i < N := tok_lt hTK hi (by omega)
            obtain ⟨cc, hcd, hca, hcn⟩ := hcc
            have hst4 := st_num (T := tk f) (V := Vf f) (w := ww) (o := oo) hq hnm
            rw [← hcd] at hst4
            refine wp_cV3v (ci := 12) okX12_add rfl rfl wX12_207 dX12_isRead_188 (Nat.le_of_ble_eq_true rfl) (Nat.le_of_ble_eq_true rfl) (by first | omega | (simp (disch := omega) only [up2_ne, up2_eq, h43, h40, ha, h41, st_200_m1 gS, st_200_32 gS, st_200_42 gS, st_232_m2 gS, st_232_m1 gS, st_242_m2 gS, st_242_m1 gS]; first | done | omega)) (by first | assumption | (simp (disch := omega) only [up2_ne, up2_eq, h43, h40, ha, h41, st_200_m1 gS, st_200_32 gS, st_200_42 gS, st_232_m2 gS, st_232_m1 gS, st_242_m2 gS, st_242_m1 gS]; first | done | rfl | omega)) (s_X12_add gS hr.1 hr.2 ha (by omega) (by omega)) (Nat.zero_le _) ?_
            try simp (disch := omega) only [up2_ne, up2_eq, h43, h40, ha, h41, st_200_m1 gS, st_200_32 gS, st_200_42 gS, st_232_m2 gS, st_232_m1 gS, st_242_m2 gS, st_242_m1 gS]
            have R2c := rOu_add (c := cc) R2
            rw [hca, ← hcn] at R2c
            have K2 : rfr h (up2 (up2 (up2 g1 233 (160 * row + (oo.length : Nat)) (rTk (tk f i))) 234 (160 * row + (oo.length : Nat)) (tN f (tP f i))) 232 row ((oo.length : Nat) + 1)) row := fun x k y => by rw [up2_ne (by omega), up2_ne (by omega), up2_ne (by omega)]; exact K x k y
            have gS3 := rfr_St hr RT.1 K2
            have R13 := rWt_cg R1 (g' := up2 (up2 (up2 g1 233 (160 * row + (oo.length : Nat)) (rTk (tk f i))) 234 (160 * row + (oo.length : Nat)) (tN f (tP f i))) 232 row ((oo.length : Nat) + 1)) (by rw [up2_ne (by omega), up2_ne (by omega), up2_ne (by omega)]) (fun k => by rw [up2_ne (by omega), up2_ne (by omega), up2_ne (by omega)])
            have e38' : up2 (up2 (up2 g1 233 (160 * row + (oo.length : Nat)) (rTk (tk f i))) 234 (160 * row + (oo.length : Nat)) (tN f (tP f i))) 232 row ((oo.length : Nat) + 1) 200 38 = tP f (i + 1) := by rw [up2_ne (by omega), up2_ne (by omega), up2_ne (by omega)]; exact e38
            have R23 := R2c
            refine wp_aload_n rfl rfl dX12_isRead_191 ?_
            refine wp_iload_n rfl rfl dX12_isRead_192 ?_
            refine wp_bipush (by decide) dX12_isRead_193 ?_
            refine wp_cV2r (ci := 12) okX12_settle rfl rfl wX12_257 dX12_isRead_195 (Nat.le_of_ble_eq_true rfl) (Nat.le_of_ble_eq_true rfl) (by first | omega | (simp (disch := omega) only [up2_ne, up2_eq, h43, h40, ha, h41, st_200_m1 gS, st_200_32 gS, st_200_42 gS, st_232_m2 gS, st_232_m1 gS, st_242_m2 gS, st_242_m1 gS]; first | done | omega)) (by first | assumption | (simp (disch := omega) only [up2_ne, up2_eq, h43, h40, ha, h41, st_200_m1 gS, st_200_32 gS, st_200_42 gS, st_232_m2 gS, st_232_m1 gS, st_242_m2 gS, st_242_m1 gS]; first | done | rfl | omega)) (s_X12_settle gS3 hr.1 hr.2 R13 R23 (by rw [List.length_append, List.length_singleton]; omega) (by omega) (by omega)) (Nat.zero_le _) ?_
            rintro r g4 ⟨rfl, P4, O4, K4⟩ -
            have S4 := rfr_St hr RT.1 (rfr_sfr K2 K4)
            have h43_4 := P4.1
            have t40_4 : g4 200 40 = g4 200 40 := rfl
            have hl4 := stl_len (r := 7) ww (oo ++ [cc])
            rw [List.length_append, List.length_singleton] at hl4
            show WP _ _ _ _ _ _ _ [] _
            refine wp_iconst dX12_isRead_198 ?_
            refine wp_istore_n rfl dX12_isRead_199 rfl (Nat.le_of_ble_eq_true rfl) rfl ?_
            try simp only [List.set_cons_zero, List.set_cons_succ]
            refine wp_goto (tgt := 205) dX12_isRead_200 (by decide) ?_
            refine wp_goto (tgt := 16) dX12_isRead_205 (by decide) ?_
            refine wp_dropAt 4 rfl ?_
            exact kont _ _ _ _ _ _ _ hst4 (rSt_set hr RT K2 e38' K4 P4 O4 (by omega) (tok_lt hTK hi (by omega))) (Or.inl ⟨rfl, rfl, by omega⟩)
        · refine wp_aload_n rfl rfl dX12_isRead_146 ?_
          refine wp_getfield1 (z := 13) (kI := 40) fX12_226 dX12_isRead_147 (by first | omega | (simp (disch := omega) only [up2_ne, up2_eq, h43, h40, ha, st_200_m1 gS, st_200_32 gS, st_200_42 gS, st_232_m2 gS, st_232_m1 gS, st_242_m2 gS, st_242_m1 gS]; first | done | omega)) (by first | assumption | (simp (disch := omega) only [up2_ne, up2_eq, h43, h40, ha, st_200_m1 gS, st_200_32 gS, st_200_42 gS, st_232_m2 gS, st_232_m1 gS, st_242_m2 gS, st_242_m1 gS]; first | done | rfl | omega)) rfl rfl ?_
          try simp (disch := omega) only [up2_ne, up2_eq, h43, h40, ha, st_200_m1 gS, st_200_32 gS, st_200_42 gS, st_232_m2 gS, st_232_m1 gS, st_242_m2 gS, st_242_m1 gS]
          refine wp_bipush (by decide) dX12_isRead_150 ?_
          refine wp_icmp_lt (tgt := 203) (by first | assumption | exact bI_in _ | exact ⟨by omega, by omega⟩ | exact iAnd_in | exact iOr_in | exact iShr_in | exact iShl_in | exact iXor_in | exact hxs _) (by first | assumption | exact bI_in _ | exact ⟨by omega, by omega⟩ | exact iAnd_in | exact iOr_in | exact iShr_in | exact iShl_in | exact iXor_in | exact hxs _) dX12_isRead_152 (by decide) (fun c12 => ?_) (fun c12 => ?_)
          · refine wp_iconst dX12_isRead_203 ?_
            refine wp_zret (by first | exact Or.inl rfl | exact Or.inr rfl | omega) dX12_isRead_204 rfl ?_
            exact ⟨K, Or.inl ⟨i, stopk _ (st_bad hq hno (by have := rTk_inv ht0.1 ht0.2; omega)), rfl, h39⟩⟩
          · refine wp_aload_n rfl rfl dX12_isRead_155 ?_
            refine wp_getfield1 (z := 13) (kI := 40) fX12_226 dX12_isRead_156 (by first | omega | (simp (disch := omega) only [up2_ne, up2_eq, h43, h40, ha, st_200_m1 gS, st_200_32 gS, st_200_42 gS, st_232_m2 gS, st_232_m1 gS, st_242_m2 gS, st_242_m1 gS]; first | done | omega)) (by first | assumption | (simp (disch := omega) only [up2_ne, up2_eq, h43, h40, ha, st_200_m1 gS, st_200_32 gS, st_200_42 gS, st_232_m2 gS, st_232_m1 gS, st_242_m2 gS, st_242_m1 gS]; first | done | rfl | omega)) rfl rfl ?_
            try simp (disch := omega) only [up2_ne, up2_eq, h43, h40, ha, st_200_m1 gS, st_200_32 gS, st_200_42 gS, st_232_m2 gS, st_232_m1 gS, st_242_m2 gS, st_242_m1 gS]
            refine wp_bipush (by decide) dX12_isRead_159 ?_
            refine wp_icmp_ge (tgt := 203) (by first | assumption | exact bI_in _ | exact ⟨by omega, by omega⟩ | exact iAnd_in | exact iOr_in | exact iShr_in | exact iShl_in | exact iXor_in | exact hxs _) (by first | assumption | exact bI_in _ | exact ⟨by omega, by omega⟩ | exact iAnd_in | exact iOr_in | exact iShr_in | exact iShl_in | exact iXor_in | exact hxs _) dX12_isRead_161 (by decide) (fun c13 => ?_) (fun c13 => ?_)
            · refine wp_iconst dX12_isRead_203 ?_
              refine wp_zret (by first | exact Or.inl rfl | exact Or.inr rfl | omega) dX12_isRead_204 rfl ?_
              exact ⟨K, Or.inl ⟨i, stopk _ (st_bad hq hno (by have := rTk_inv ht0.1 ht0.2; omega)), rfl, h39⟩⟩
            · refine wp_aload_n rfl rfl dX12_isRead_164 ?_
              refine wp_iload_n rfl rfl dX12_isRead_165 ?_
              refine wp_aload_n rfl rfl dX12_isRead_166 ?_
              refine wp_getfield1 (z := 13) (kI := 40) fX12_226 dX12_isRead_167 (by first | omega | (simp (disch := omega) only [up2_ne, up2_eq, h43, h40, ha, st_200_m1 gS, st_200_32 gS, st_200_42 gS, st_232_m2 gS, st_232_m1 gS, st_242_m2 gS, st_242_m1 gS]; first | done | omega)) (by first | assumption | (simp (disch := omega) only [up2_ne, up2_eq, h43, h40, ha, st_200_m1 gS, st_200_32 gS, st_200_42 gS, st_232_m2 gS, st_232_m1 gS, st_242_m2 gS, st_242_m1 gS]; first | done | rfl | omega)) rfl rfl ?_
              try simp (disch := omega) only [up2_ne, up2_eq, h43, h40, ha, st_200_m1 gS, st_200_32 gS, st_200_42 gS, st_232_m2 gS, st_232_m1 gS, st_242_m2 gS, st_242_m1 gS]
              refine wp_aload_n rfl rfl dX12_isRead_170 ?_
              refine wp_getfield1 (z := 13) (kI := 40) fX12_226 dX12_isRead_171 (by first | omega | (simp (disch := omega) only [up2_ne, up2_eq, h43, h40, ha, st_200_m1 gS, st_200_32 gS, st_200_42 gS, st_232_m2 gS, st_232_m1 gS, st_242_m2 gS, st_242_m1 gS]; first | done | omega)) (by first | assumption | (simp (disch := omega) only [up2_ne, up2_eq, h43, h40, ha, st_200_m1 gS, st_200_32 gS, st_200_42 gS, st_232_m2 gS, st_232_m1 gS, st_242_m2 gS, st_242_m1 gS]; first | done | rfl | omega)) rfl rfl ?_
              try simp (disch := omega) only [up2_ne, up2_eq, h43, h40, ha, st_200_m1 gS, st_200_32 gS, st_200_42 gS, st_232_m2 gS, st_232_m1 gS, st_242_m2 gS, st_242_m1 gS]
              refine wp_sipush (by decide) dX12_isRead_174 ?_
              refine wp_icmp_ne (tgt := 187) (by first | assumption | exact bI_in _ | exact ⟨by omega, by omega⟩ | exact iAnd_in | exact iOr_in | exact iShr_in | exact iShl_in | exact iXor_in | exact hxs _) (by first | assumption | exact bI_in _ | exact ⟨by omega, by omega⟩ | exact iAnd_in | exact iOr_in | exact iShr_in | exact iShl_in | exact iXor_in | exact hxs _) dX12_isRead_177 (by decide) (fun c14 => ?_) (fun c14 => ?_)
              · skip
                refine wp_iconst dX12_isRead_187 ?_
                have hnm : tk f i = 13 ∨ (0 ≤ tk f i ∧ tk f i < 7) := (by have := rTk_inv ht0.1 ht0.2; omega)
                have hcc : ∃ cc : Int, cc = (if tk f i = 13 then Vf f i else -1 - tk f i) ∧ actOf cc = rTk (tk f i) ∧ 0 = (if 0 ≤ cc then cc else 0) := by
                  have hco := code_of hTK hnm
                  refine ⟨_, rfl, hco.1, ?_⟩
                  rw [hco.2]
                  have hdd : tk f i = 13 ∨ tk f i ≠ 13 := by omega
                  rcases hdd with y | y
                  · first
                      | (exfalso; have := rTk_inv ht0.1 ht0.2; omega)
                      | (rw [if_pos y]; try rfl)
                  · first
                      | (exfalso; have := rTk_inv ht0.1 ht0.2; omega)
                      | (rw [if_neg y]; try rfl)
                have hlt : i < N := tok_lt hTK hi (by omega)
                obtain ⟨cc, hcd, hca, hcn⟩ := hcc
                have hst4 := st_num (T := tk f) (V := Vf f) (w := ww) (o := oo) hq hnm
                rw [← hcd] at hst4
                refine wp_cV3v (ci := 12) okX12_add rfl rfl wX12_207 dX12_isRead_188 (Nat.le_of_ble_eq_true rfl) (Nat.le_of_ble_eq_true rfl) (by first | omega | (simp (disch := omega) only [up2_ne, up2_eq, h43, h40, ha, st_200_m1 gS, st_200_32 gS, st_200_42 gS, st_232_m2 gS, st_232_m1 gS, st_242_m2 gS, st_242_m1 gS]; first | done | omega)) (by first | assumption | (simp (disch := omega) only [up2_ne, up2_eq, h43, h40, ha, st_200_m1 gS, st_200_32 gS, st_200_42 gS, st_232_m2 gS, st_232_m1 gS, st_242_m2 gS, st_242_m1 gS]; first | done | rfl | omega)) (s_X12_add gS hr.1 hr.2 ha (by omega) (by omega)) (Nat.zero_le _) ?_
                try simp (disch := omega) only [up2_ne, up2_eq, h43, h40, ha, st_200_m1 gS, st_200_32 gS, st_200_42 gS, st_232_m2 gS, st_232_m1 gS, st_242_m2 gS, st_242_m1 gS]
                have R2c := rOu_add (c := cc) R2
                rw [hca, ← hcn] at R2c
                have K2 : rfr h (up2 (up2 (up2 g1 233 (160 * row + (oo.length : Nat)) (rTk (tk f i))) 234 (160 * row + (oo.length : Nat)) (0)) 232 row ((oo.length : Nat) + 1)) row := fun x k y => by rw [up2_ne (by omega), up2_ne (by omega), up2_ne (by omega)]; exact K x k y
                have gS3 := rfr_St hr RT.1 K2
                have R13 := rWt_cg R1 (g' := up2 (up2 (up2 g1 233 (160 * row + (oo.length : Nat)) (rTk (tk f i))) 234 (160 * row + (oo.length : Nat)) (0)) 232 row ((oo.length : Nat) + 1)) (by rw [up2_ne (by omega), up2_ne (by omega), up2_ne (by omega)]) (fun k => by rw [up2_ne (by omega), up2_ne (by omega), up2_ne (by omega)])
                have e38' : up2 (up2 (up2 g1 233 (160 * row + (oo.length : Nat)) (rTk (tk f i))) 234 (160 * row + (oo.length : Nat)) (0)) 232 row ((oo.length : Nat) + 1) 200 38 = tP f (i + 1) := by rw [up2_ne (by omega), up2_ne (by omega), up2_ne (by omega)]; exact e38
                have R23 := R2c
                refine wp_aload_n rfl rfl dX12_isRead_191 ?_
                refine wp_iload_n rfl rfl dX12_isRead_192 ?_
                refine wp_bipush (by decide) dX12_isRead_193 ?_
                refine wp_cV2r (ci := 12) okX12_settle rfl rfl wX12_257 dX12_isRead_195 (Nat.le_of_ble_eq_true rfl) (Nat.le_of_ble_eq_true rfl) (by first | omega | (simp (disch := omega) only [up2_ne, up2_eq, h43, h40, ha, st_200_m1 gS, st_200_32 gS, st_200_42 gS, st_232_m2 gS, st_232_m1 gS, st_242_m2 gS, st_242_m1 gS]; first | done | omega)) (by first | assumption | (simp (disch := omega) only [up2_ne, up2_eq, h43, h40, ha, st_200_m1 gS, st_200_32 gS, st_200_42 gS, st_232_m2 gS, st_232_m1 gS, st_242_m2 gS, st_242_m1 gS]; first | done | rfl | omega)) (s_X12_settle gS3 hr.1 hr.2 R13 R23 (by rw [List.length_append, List.length_singleton]; omega) (by omega) (by omega)) (Nat.zero_le _) ?_
                rintro r g4 ⟨rfl, P4, O4, K4⟩ -
                have S4 := rfr_St hr RT.1 (rfr_sfr K2 K4)
                have h43_4 := P4.1
                have t40_4 : g4 200 40 = g4 200 40 := rfl
                have hl4 := stl_len (r := 7) ww (oo ++ [cc])
                rw [List.length_append, List.length_singleton] at hl4
                show WP _ _ _ _ _ _ _ [] _
                refine wp_iconst dX12_isRead_198 ?_
                refine wp_istore_n rfl dX12_isRead_199 rfl (Nat.le_of_ble_eq_true rfl) rfl ?_
                try simp only [List.set_cons_zero, List.set_cons_succ]
                refine wp_goto (tgt := 205) dX12_isRead_200 (by decide) ?_
                refine wp_goto (tgt := 16) dX12_isRead_205 (by decide) ?_
                refine wp_dropAt 4 rfl ?_
                exact kont _ _ _ _ _ _ _ hst4 (rSt_set hr RT K2 e38' K4 P4 O4 (by omega) (tok_lt hTK hi (by omega))) (Or.inl ⟨rfl, rfl, by omega⟩)
              · have h41 := h41 (by have := rTk_inv ht0.1 ht0.2; omega)
                refine wp_aload_n rfl rfl dX12_isRead_180 ?_
                refine wp_getfield1 (z := 13) (kI := 41) fX12_238 dX12_isRead_181 (by first | omega | (simp (disch := omega) only [up2_ne, up2_eq, h43, h40, ha, h41, st_200_m1 gS, st_200_32 gS, st_200_42 gS, st_232_m2 gS, st_232_m1 gS, st_242_m2 gS, st_242_m1 gS]; first | done | omega)) (by first | assumption | (simp (disch := omega) only [up2_ne, up2_eq, h43, h40, ha, h41, st_200_m1 gS, st_200_32 gS, st_200_42 gS, st_232_m2 gS, st_232_m1 gS, st_242_m2 gS, st_242_m1 gS]; first | done | rfl | omega)) rfl rfl ?_
                try simp (disch := omega) only [up2_ne, up2_eq, h43, h40, ha, h41, st_200_m1 gS, st_200_32 gS, st_200_42 gS, st_232_m2 gS, st_232_m1 gS, st_242_m2 gS, st_242_m1 gS]
                refine wp_goto (tgt := 188) dX12_isRead_184 (by decide) ?_
                have hnm : tk f i = 13 ∨ (0 ≤ tk f i ∧ tk f i < 7) := (by have := rTk_inv ht0.1 ht0.2; omega)
                have hcc : ∃ cc : Int, cc = (if tk f i = 13 then Vf f i else -1 - tk f i) ∧ actOf cc = rTk (tk f i) ∧ tN f (tP f i) = (if 0 ≤ cc then cc else 0) := by
                  have hco := code_of hTK hnm
                  refine ⟨_, rfl, hco.1, ?_⟩
                  rw [hco.2]
                  have hdd : tk f i = 13 ∨ tk f i ≠ 13 := by omega
                  rcases hdd with y | y
                  · first
                      | (exfalso; have := rTk_inv ht0.1 ht0.2; omega)
                      | (rw [if_pos y]; try rfl)
                  · first
                      | (exfalso; have := rTk_inv ht0.1 ht0.2; omega)
                      | (rw [if_neg y]; try rfl)
                have hlt : i < N := tok_lt hTK hi (by omega)
                obtain ⟨cc, hcd, hca, hcn⟩ := hcc
                have hst4 := st_num (T := tk f) (V := Vf f) (w := ww) (o := oo) hq hnm
                rw [← hcd] at hst4
                refine wp_cV3v (ci := 12) okX12_add rfl rfl wX12_207 dX12_isRead_188 (Nat.le_of_ble_eq_true rfl) (Nat.le_of_ble_eq_true rfl) (by first | omega | (simp (disch := omega) only [up2_ne, up2_eq, h43, h40, ha, h41, st_200_m1 gS, st_200_32 gS, st_200_42 gS, st_232_m2 gS, st_232_m1 gS, st_242_m2 gS, st_242_m1 gS]; first | done | omega)) (by first | assumption | (simp (disch := omega) only [up2_ne, up2_eq, h43, h40, ha, h41, st_200_m1 gS, st_200_32 gS, st_200_42 gS, st_232_m2 gS, st_232_m1 gS, st_242_m2 gS, st_242_m1 gS]; first | done | rfl | omega)) (s_X12_add gS hr.1 hr.2 ha (by omega) (by omega)) (Nat.zero_le _) ?_
                try simp (disch := omega) only [up2_ne, up2_eq, h43, h40, ha, h41, st_200_m1 gS, st_200_32 gS, st_200_42 gS, st_232_m2 gS, st_232_m1 gS, st_242_m2 gS, st_242_m1 gS]
                have R2c := rOu_add (c := cc) R2
                rw [hca, ← hcn] at R2c
                have K2 : rfr h (up2 (up2 (up2 g1 233 (160 * row + (oo.length : Nat)) (rTk (tk f i))) 234 (160 * row + (oo.length : Nat)) (tN f (tP f i))) 232 row ((oo.length : Nat) + 1)) row := fun x k y => by rw [up2_ne (by omega), up2_ne (by omega), up2_ne (by omega)]; exact K x k y
                have gS3 := rfr_St hr RT.1 K2
                have R13 := rWt_cg R1 (g' := up2 (up2 (up2 g1 233 (160 * row + (oo.length : Nat)) (rTk (tk f i))) 234 (160 * row + (oo.length : Nat)) (tN f (tP f i))) 232 row ((oo.length : Nat) + 1)) (by rw [up2_ne (by omega), up2_ne (by omega), up2_ne (by omega)]) (fun k => by rw [up2_ne (by omega), up2_ne (by omega), up2_ne (by omega)])
                have e38' : up2 (up2 (up2 g1 233 (160 * row + (oo.length : Nat)) (rTk (tk f i))) 234 (160 * row + (oo.length : Nat)) (tN f (tP f i))) 232 row ((oo.length : Nat) + 1) 200 38 = tP f (i + 1) := by rw [up2_ne (by omega), up2_ne (by omega), up2_ne (by omega)]; exact e38
                have R23 := R2c
                refine wp_aload_n rfl rfl dX12_isRead_191 ?_
                refine wp_iload_n rfl rfl dX12_isRead_192 ?_
                refine wp_bipush (by decide) dX12_isRead_193 ?_
                refine wp_cV2r (ci := 12) okX12_settle rfl rfl wX12_257 dX12_isRead_195 (Nat.le_of_ble_eq_true rfl) (Nat.le_of_ble_eq_true rfl) (by first | omega | (simp (disch := omega) only [up2_ne, up2_eq, h43, h40, ha, h41, st_200_m1 gS, st_200_32 gS, st_200_42 gS, st_232_m2 gS, st_232_m1 gS, st_242_m2 gS, st_242_m1 gS]; first | done | omega)) (by first | assumption | (simp (disch := omega) only [up2_ne, up2_eq, h43, h40, ha, h41, st_200_m1 gS, st_200_32 gS, st_200_42 gS, st_232_m2 gS, st_232_m1 gS, st_242_m2 gS, st_242_m1 gS]; first | done | rfl | omega)) (s_X12_settle gS3 hr.1 hr.2 R13 R23 (by rw [List.length_append, List.length_singleton]; omega) (by omega) (by omega)) (Nat.zero_le _) ?_
                rintro r g4 ⟨rfl, P4, O4, K4⟩ -
                have S4 := rfr_St hr RT.1 (rfr_sfr K2 K4)
                have h43_4 := P4.1
                have t40_4 : g4 200 40 = g4 200 40 := rfl
                have hl4 := stl_len (r := 7) ww (oo ++ [cc])
                rw [List.length_append, List.length_singleton] at hl4
                show WP _ _ _ _ _ _ _ [] _
                refine wp_iconst dX12_isRead_198 ?_
                refine wp_istore_n rfl dX12_isRead_199 rfl (Nat.le_of_ble_eq_true rfl) rfl ?_
                try simp only [List.set_cons_zero, List.set_cons_succ]
                refine wp_goto (tgt := 205) dX12_isRead_200 (by decide) ?_
                refine wp_goto (tgt := 16) dX12_isRead_205 (by decide) ?_
                refine wp_dropAt 4 rfl ?_
                exact kont _ _ _ _ _ _ _ hst4 (rSt_set hr RT K2 e38' K4 P4 O4 (by omega) (tok_lt hTK hi (by omega))) (Or.inl ⟨rfl, rfl, by omega⟩)
      have blk67 : ∀ g1, aSt h g1 n f N row i ww oo → (q = 1 ∨ q = 2) → (tk f i = 14 ∨ tk f i = 18 ∨ (tk f i = 12 ∧ q = 2)) → WP (gX (gq u)) MX12_isRead (d + 3) b (fun r g1 => rfr h g1 row ∧ ((∃ j : Nat, R = .inl j ∧ r = (0, 0) ∧ g1 200 39 = tB f (tP f j)) ∨ (∃ (i2 : Nat) (o2 : List Int), R = .inr (i2, o2) ∧ r = (0, 1) ∧ g1 200 38 = tP f i2 ∧ rOu g1 row o2))) 67 [(2, 200), (0, row), (0, wv), (0, mv), (0, 1)] [] g1 := by
        intro g1 A hq hop
        have h40 := A.2.2.2.2.1
        have h39 := A.2.2.2.1
        have gT := A.1
        have gS := gT.1
        have K := A.2.1
        have R1 := A.2.2.2.2.2.2.1
        have R2 := A.2.2.2.2.2.2.2.1
        have hl := A.2.2.2.2.2.2.2.2.1
        have hi := A.2.2.2.2.2.2.2.2.2
        have h43 := R1.1
        have ha := R2.1
        have ht0 := tk_inv (f := f) (i := i)
        have htb := rTk_b ht0.1 ht0.2
        have hNn := hTK.1
        have e38 := A.2.2.1
        have hob := opN_b (w := ww) ww.length
        rw [opN_n] at hob
        refine wp_aload_n rfl rfl dX12_isRead_67 ?_
        refine wp_cV0 (ci := 12) okX12_openMany rfl rfl wX12_253 dX12_isRead_68 rfl (Nat.le_of_ble_eq_true rfl) (Nat.le_of_ble_eq_true rfl) (by first | omega | (simp (disch := omega) only [up2_ne, up2_eq, h43, h40, st_200_m1 gS, st_200_32 gS, st_200_42 gS, st_232_m2 gS, st_232_m1 gS, st_242_m2 gS, st_242_m1 gS]; first | done | omega)) (by first | assumption | (simp (disch := omega) only [up2_ne, up2_eq, h43, h40, st_200_m1 gS, st_200_32 gS, st_200_42 gS, st_232_m2 gS, st_232_m1 gS, st_242_m2 gS, st_242_m1 gS]; first | done | rfl | omega)) (s_X12_openMany gS R1 (by omega)) (Nat.zero_le _) ?_
        try simp (disch := omega) only [up2_ne, up2_eq, h43, h40, st_200_m1 gS, st_200_32 gS, st_200_42 gS, st_232_m2 gS, st_232_m1 gS, st_242_m2 gS, st_242_m1 gS]
        refine wp_iconst dX12_isRead_71 ?_
        refine wp_icmp_ge (tgt := 131) (by first | assumption | exact bI_in _ | exact ⟨by omega, by omega⟩ | exact iAnd_in | exact iOr_in | exact iShr_in | exact iShl_in | exact iXor_in | exact hxs _) (by first | assumption | exact bI_in _ | exact ⟨by omega, by omega⟩ | exact iAnd_in | exact iOr_in | exact iShr_in | exact iShl_in | exact iXor_in | exact hxs _) dX12_isRead_72 (by decide) (fun c15 => ?_) (fun c15 => ?_)
        · refine wp_iload rfl dX12_isRead_131 ?_
          refine wp_if_ne (tgt := 203) (by first | assumption | exact bI_in _ | exact ⟨by omega, by omega⟩ | exact iAnd_in | exact iOr_in | exact iShr_in | exact iShl_in | exact iXor_in | exact hxs _) dX12_isRead_133 (by decide) (fun hx => ?_) (fun hx => absurd hx (by decide))
          refine wp_iconst dX12_isRead_203 ?_
          refine wp_zret (by first | exact Or.inl rfl | exact Or.inr rfl | omega) dX12_isRead_204 rfl ?_
          exact ⟨K, Or.inl ⟨i, stopk _ (st_full hq hop (by omega)), rfl, h39⟩⟩
        · refine wp_aload_n rfl rfl dX12_isRead_75 ?_
          refine wp_getfield1 (z := 13) (kI := 42) fX12_183 dX12_isRead_76 (by first | omega | (simp (disch := omega) only [up2_ne, up2_eq, h43, h40, st_200_m1 gS, st_200_32 gS, st_200_42 gS, st_232_m2 gS, st_232_m1 gS, st_242_m2 gS, st_242_m1 gS]; first | done | omega)) (by first | assumption | (simp (disch := omega) only [up2_ne, up2_eq, h43, h40, st_200_m1 gS, st_200_32 gS, st_200_42 gS, st_232_m2 gS, st_232_m1 gS, st_242_m2 gS, st_242_m1 gS]; first | done | rfl | omega)) rfl rfl ?_
          try simp (disch := omega) only [up2_ne, up2_eq, h43, h40, st_200_m1 gS, st_200_32 gS, st_200_42 gS, st_232_m2 gS, st_232_m1 gS, st_242_m2 gS, st_242_m1 gS]
          refine wp_aload_n rfl rfl dX12_isRead_79 ?_
          refine wp_getfield1 (z := 13) (kI := 43) fX12_244 dX12_isRead_80 (by first | omega | (simp (disch := omega) only [up2_ne, up2_eq, h43, h40, st_200_m1 gS, st_200_32 gS, st_200_42 gS, st_232_m2 gS, st_232_m1 gS, st_242_m2 gS, st_242_m1 gS]; first | done | omega)) (by first | assumption | (simp (disch := omega) only [up2_ne, up2_eq, h43, h40, st_200_m1 gS, st_200_32 gS, st_200_42 gS, st_232_m2 gS, st_232_m1 gS, st_242_m2 gS, st_242_m1 gS]; first | done | rfl | omega)) rfl rfl ?_
          try simp (disch := omega) only [up2_ne, up2_eq, h43, h40, st_200_m1 gS, st_200_32 gS, st_200_42 gS, st_232_m2 gS, st_232_m1 gS, st_242_m2 gS, st_242_m1 gS]
          refine wp_aload_n rfl rfl dX12_isRead_83 ?_
          refine wp_getfield1 (z := 13) (kI := 40) fX12_226 dX12_isRead_84 (by first | omega | (simp (disch := omega) only [up2_ne, up2_eq, h43, h40, st_200_m1 gS, st_200_32 gS, st_200_42 gS, st_232_m2 gS, st_232_m1 gS, st_242_m2 gS, st_242_m1 gS]; first | done | omega)) (by first | assumption | (simp (disch := omega) only [up2_ne, up2_eq, h43, h40, st_200_m1 gS, st_200_32 gS, st_200_42 gS, st_232_m2 gS, st_232_m1 gS, st_242_m2 gS, st_242_m1 gS]; first | done | rfl | omega)) rfl rfl ?_
          try simp (disch := omega) only [up2_ne, up2_eq, h43, h40, st_200_m1 gS, st_200_32 gS, st_200_42 gS, st_232_m2 gS, st_232_m1 gS, st_242_m2 gS, st_242_m1 gS]
          refine wp_bipush (by decide) dX12_isRead_87 ?_
          refine wp_icmp_ne (tgt := 98) (by first | assumption | exact bI_in _ | exact ⟨by omega, by omega⟩ | exact iAnd_in | exact iOr_in | exact iShr_in | exact iShl_in | exact iXor_in | exact hxs _) (by first | assumption | exact bI_in _ | exact ⟨by omega, by omega⟩ | exact iAnd_in | exact iOr_in | exact iShr_in | exact iShl_in | exact iXor_in | exact hxs _) dX12_isRead_89 (by decide) (fun c16 => ?_) (fun c16 => ?_)
          · refine wp_aload_n rfl rfl dX12_isRead_98 ?_
            refine wp_getfield1 (z := 13) (kI := 40) fX12_226 dX12_isRead_99 (by first | omega | (simp (disch := omega) only [up2_ne, up2_eq, h43, h40, st_200_m1 gS, st_200_32 gS, st_200_42 gS, st_232_m2 gS, st_232_m1 gS, st_242_m2 gS, st_242_m1 gS]; first | done | omega)) (by first | assumption | (simp (disch := omega) only [up2_ne, up2_eq, h43, h40, st_200_m1 gS, st_200_32 gS, st_200_42 gS, st_232_m2 gS, st_232_m1 gS, st_242_m2 gS, st_242_m1 gS]; first | done | rfl | omega)) rfl rfl ?_
            try simp (disch := omega) only [up2_ne, up2_eq, h43, h40, st_200_m1 gS, st_200_32 gS, st_200_42 gS, st_232_m2 gS, st_232_m1 gS, st_242_m2 gS, st_242_m1 gS]
            refine wp_iastore1 dX12_isRead_102 (by first | omega | (simp (disch := omega) only [up2_ne, up2_eq, h43, h40, st_200_m1 gS, st_200_32 gS, st_200_42 gS, st_232_m2 gS, st_232_m1 gS, st_242_m2 gS, st_242_m1 gS]; first | done | omega)) (by first | assumption | (simp (disch := omega) only [up2_ne, up2_eq, h43, h40, st_200_m1 gS, st_200_32 gS, st_200_42 gS, st_232_m2 gS, st_232_m1 gS, st_242_m2 gS, st_242_m1 gS]; first | done | rfl | omega)) (by first | omega | (simp (disch := omega) only [up2_ne, up2_eq, h43, h40, st_200_m1 gS, st_200_32 gS, st_200_42 gS, st_232_m2 gS, st_232_m1 gS, st_242_m2 gS, st_242_m1 gS]; first | done | omega)) (by first | omega | (simp (disch := omega) only [up2_ne, up2_eq, h43, h40, st_200_m1 gS, st_200_32 gS, st_200_42 gS, st_232_m2 gS, st_232_m1 gS, st_242_m2 gS, st_242_m1 gS]; first | done | omega)) ?_
            refine wp_aload_n rfl rfl dX12_isRead_103 ?_
            refine wp_dup (by decide) dX12_isRead_104 ?_
            refine wp_getfield1 (z := 13) (kI := 43) fX12_244 dX12_isRead_105 (by first | omega | (simp (disch := omega) only [up2_ne, up2_eq, h43, h40, st_200_m1 gS, st_200_32 gS, st_200_42 gS, st_232_m2 gS, st_232_m1 gS, st_242_m2 gS, st_242_m1 gS]; first | done | omega)) (by first | assumption | (simp (disch := omega) only [up2_ne, up2_eq, h43, h40, st_200_m1 gS, st_200_32 gS, st_200_42 gS, st_232_m2 gS, st_232_m1 gS, st_242_m2 gS, st_242_m1 gS]; first | done | rfl | omega)) rfl rfl ?_
            try simp (disch := omega) only [up2_ne, up2_eq, h43, h40, st_200_m1 gS, st_200_32 gS, st_200_42 gS, st_232_m2 gS, st_232_m1 gS, st_242_m2 gS, st_242_m1 gS]
            refine wp_iconst dX12_isRead_108 ?_
            refine wp_iadd dX12_isRead_109 ?_
            refine wp_putfield1 (z := 13) (kI := 43) fX12_244 dX12_isRead_110 (by first | omega | (simp (disch := omega) only [up2_ne, up2_eq, h43, h40, st_200_m1 gS, st_200_32 gS, st_200_42 gS, st_232_m2 gS, st_232_m1 gS, st_242_m2 gS, st_242_m1 gS]; first | done | omega)) (by first | assumption | (simp (disch := omega) only [up2_ne, up2_eq, h43, h40, st_200_m1 gS, st_200_32 gS, st_200_42 gS, st_232_m2 gS, st_232_m1 gS, st_242_m2 gS, st_242_m1 gS]; first | done | rfl | omega)) rfl rfl ?_
            refine wp_aload_n rfl rfl dX12_isRead_113 ?_
            refine wp_getfield1 (z := 13) (kI := 40) fX12_226 dX12_isRead_114 (by first | omega | (simp (disch := omega) only [up2_ne, up2_eq, h43, h40, st_200_m1 gS, st_200_32 gS, st_200_42 gS, st_232_m2 gS, st_232_m1 gS, st_242_m2 gS, st_242_m1 gS]; first | done | omega)) (by first | assumption | (simp (disch := omega) only [up2_ne, up2_eq, h43, h40, st_200_m1 gS, st_200_32 gS, st_200_42 gS, st_232_m2 gS, st_232_m1 gS, st_242_m2 gS, st_242_m1 gS]; first | done | rfl | omega)) rfl rfl ?_
            try simp (disch := omega) only [up2_ne, up2_eq, h43, h40, st_200_m1 gS, st_200_32 gS, st_200_42 gS, st_232_m2 gS, st_232_m1 gS, st_242_m2 gS, st_242_m1 gS]
            refine wp_bipush (by decide) dX12_isRead_117 ?_
            refine wp_icmp_eq (tgt := 126) (by first | assumption | exact bI_in _ | exact ⟨by omega, by omega⟩ | exact iAnd_in | exact iOr_in | exact iShr_in | exact iShl_in | exact iXor_in | exact hxs _) (by first | assumption | exact bI_in _ | exact ⟨by omega, by omega⟩ | exact iAnd_in | exact iOr_in | exact iShr_in | exact iShl_in | exact iXor_in | exact hxs _) dX12_isRead_119 (by decide) (fun c17 => ?_) (fun c17 => ?_)
            · refine wp_iconst dX12_isRead_126 ?_
              refine wp_istore_n rfl dX12_isRead_127 rfl (Nat.le_of_ble_eq_true rfl) rfl ?_
              try simp only [List.set_cons_zero, List.set_cons_succ]
              refine wp_goto (tgt := 205) dX12_isRead_128 (by decide) ?_
              refine wp_goto (tgt := 16) dX12_isRead_205 (by decide) ?_
              refine wp_dropAt 4 rfl ?_
              first
                | (exfalso; omega)
                | (have ht : tk f i = 18 := (by have := rTk_inv ht0.1 ht0.2; omega)
                   have hs := st_push (T := tk f) (V := Vf f) (w := ww) (o := oo) hq hop (by omega)
                   rw [if_pos ht, if_pos ht] at hs
                   exact kont _ _ _ _ _ _ _ hs (rSt_push (e := 24) hr RT K e38 R1 R2 (by unfold vW; decide) (by omega) (tok_lt hTK hi (by omega))) (Or.inr (Or.inl ⟨rfl, by omega, rfl⟩)))
                | (have ht : tk f i ≠ 18 := (by have := rTk_inv ht0.1 ht0.2; omega)
                   have hs := st_push (T := tk f) (V := Vf f) (w := ww) (o := oo) hq hop (by omega)
                   rw [if_neg ht, if_neg ht] at hs
                   have hrw : rTk (tk f i) = rW (tk f i) := (if_neg (by omega)).symm
                   rw [hrw]
                   exact kont _ _ _ _ _ _ _ hs (rSt_push (e := tk f i) hr RT K e38 R1 R2 (by unfold vW; omega) (by omega) (tok_lt hTK hi (by omega))) (Or.inr (Or.inr ⟨rfl, by omega, rfl⟩)))
            · refine wp_iconst dX12_isRead_122 ?_
              refine wp_goto (tgt := 127) dX12_isRead_123 (by decide) ?_
              refine wp_istore_n rfl dX12_isRead_127 rfl (Nat.le_of_ble_eq_true rfl) rfl ?_
              try simp only [List.set_cons_zero, List.set_cons_succ]
              refine wp_goto (tgt := 205) dX12_isRead_128 (by decide) ?_
              refine wp_goto (tgt := 16) dX12_isRead_205 (by decide) ?_
              refine wp_dropAt 4 rfl ?_
              first
                | (exfalso; omega)
                | (have ht : tk f i = 18 := (by have := rTk_inv ht0.1 ht0.2; omega)
                   have hs := st_push (T := tk f) (V := Vf f) (w := ww) (o := oo) hq hop (by omega)
                   rw [if_pos ht, if_pos ht] at hs
                   exact kont _ _ _ _ _ _ _ hs (rSt_push (e := 24) hr RT K e38 R1 R2 (by unfold vW; decide) (by omega) (tok_lt hTK hi (by omega))) (Or.inr (Or.inl ⟨rfl, by omega, rfl⟩)))
                | (have ht : tk f i ≠ 18 := (by have := rTk_inv ht0.1 ht0.2; omega)
                   have hs := st_push (T := tk f) (V := Vf f) (w := ww) (o := oo) hq hop (by omega)
                   rw [if_neg ht, if_neg ht] at hs
                   have hrw : rTk (tk f i) = rW (tk f i) := (if_neg (by omega)).symm
                   rw [hrw]
                   exact kont _ _ _ _ _ _ _ hs (rSt_push (e := tk f i) hr RT K e38 R1 R2 (by unfold vW; omega) (by omega) (tok_lt hTK hi (by omega))) (Or.inr (Or.inr ⟨rfl, by omega, rfl⟩)))
          · refine wp_sipush (by decide) dX12_isRead_92 ?_
            refine wp_goto (tgt := 102) dX12_isRead_95 (by decide) ?_
            refine wp_iastore1 dX12_isRead_102 (by first | omega | (simp (disch := omega) only [up2_ne, up2_eq, h43, h40, st_200_m1 gS, st_200_32 gS, st_200_42 gS, st_232_m2 gS, st_232_m1 gS, st_242_m2 gS, st_242_m1 gS]; first | done | omega)) (by first | assumption | (simp (disch := omega) only [up2_ne, up2_eq, h43, h40, st_200_m1 gS, st_200_32 gS, st_200_42 gS, st_232_m2 gS, st_232_m1 gS, st_242_m2 gS, st_242_m1 gS]; first | done | rfl | omega)) (by first | omega | (simp (disch := omega) only [up2_ne, up2_eq, h43, h40, st_200_m1 gS, st_200_32 gS, st_200_42 gS, st_232_m2 gS, st_232_m1 gS, st_242_m2 gS, st_242_m1 gS]; first | done | omega)) (by first | omega | (simp (disch := omega) only [up2_ne, up2_eq, h43, h40, st_200_m1 gS, st_200_32 gS, st_200_42 gS, st_232_m2 gS, st_232_m1 gS, st_242_m2 gS, st_242_m1 gS]; first | done | omega)) ?_
            refine wp_aload_n rfl rfl dX12_isRead_103 ?_
            refine wp_dup (by decide) dX12_isRead_104 ?_
            refine wp_getfield1 (z := 13) (kI := 43) fX12_244 dX12_isRead_105 (by first | omega | (simp (disch := omega) only [up2_ne, up2_eq, h43, h40, st_200_m1 gS, st_200_32 gS, st_200_42 gS, st_232_m2 gS, st_232_m1 gS, st_242_m2 gS, st_242_m1 gS]; first | done | omega)) (by first | assumption | (simp (disch := omega) only [up2_ne, up2_eq, h43, h40, st_200_m1 gS, st_200_32 gS, st_200_42 gS, st_232_m2 gS, st_232_m1 gS, st_242_m2 gS, st_242_m1 gS]; first | done | rfl | omega)) rfl rfl ?_
            try simp (disch := omega) only [up2_ne, up2_eq, h43, h40, st_200_m1 gS, st_200_32 gS, st_200_42 gS, st_232_m2 gS, st_232_m1 gS, st_242_m2 gS, st_242_m1 gS]
            refine wp_iconst dX12_isRead_108 ?_
            refine wp_iadd dX12_isRead_109 ?_
            refine wp_putfield1 (z := 13) (kI := 43) fX12_244 dX12_isRead_110 (by first | omega | (simp (disch := omega) only [up2_ne, up2_eq, h43, h40, st_200_m1 gS, st_200_32 gS, st_200_42 gS, st_232_m2 gS, st_232_m1 gS, st_242_m2 gS, st_242_m1 gS]; first | done | omega)) (by first | assumption | (simp (disch := omega) only [up2_ne, up2_eq, h43, h40, st_200_m1 gS, st_200_32 gS, st_200_42 gS, st_232_m2 gS, st_232_m1 gS, st_242_m2 gS, st_242_m1 gS]; first | done | rfl | omega)) rfl rfl ?_
            refine wp_aload_n rfl rfl dX12_isRead_113 ?_
            refine wp_getfield1 (z := 13) (kI := 40) fX12_226 dX12_isRead_114 (by first | omega | (simp (disch := omega) only [up2_ne, up2_eq, h43, h40, st_200_m1 gS, st_200_32 gS, st_200_42 gS, st_232_m2 gS, st_232_m1 gS, st_242_m2 gS, st_242_m1 gS]; first | done | omega)) (by first | assumption | (simp (disch := omega) only [up2_ne, up2_eq, h43, h40, st_200_m1 gS, st_200_32 gS, st_200_42 gS, st_232_m2 gS, st_232_m1 gS, st_242_m2 gS, st_242_m1 gS]; first | done | rfl | omega)) rfl rfl ?_
            try simp (disch := omega) only [up2_ne, up2_eq, h43, h40, st_200_m1 gS, st_200_32 gS, st_200_42 gS, st_232_m2 gS, st_232_m1 gS, st_242_m2 gS, st_242_m1 gS]
            refine wp_bipush (by decide) dX12_isRead_117 ?_
            refine wp_icmp_eq (tgt := 126) (by first | assumption | exact bI_in _ | exact ⟨by omega, by omega⟩ | exact iAnd_in | exact iOr_in | exact iShr_in | exact iShl_in | exact iXor_in | exact hxs _) (by first | assumption | exact bI_in _ | exact ⟨by omega, by omega⟩ | exact iAnd_in | exact iOr_in | exact iShr_in | exact iShl_in | exact iXor_in | exact hxs _) dX12_isRead_119 (by decide) (fun c18 => ?_) (fun c18 => ?_)
            · refine wp_iconst dX12_isRead_126 ?_
              refine wp_istore_n rfl dX12_isRead_127 rfl (Nat.le_of_ble_eq_true rfl) rfl ?_
              try simp only [List.set_cons_zero, List.set_cons_succ]
              refine wp_goto (tgt := 205) dX12_isRead_128 (by decide) ?_
              refine wp_goto (tgt := 16) dX12_isRead_205 (by decide) ?_
              refine wp_dropAt 4 rfl ?_
              first
                | (exfalso; omega)
                | (have ht : tk f i = 18 := (by have := rTk_inv ht0.1 ht0.2; omega)
                   have hs := st_push (T := tk f) (V := Vf f) (w := ww) (o := oo) hq hop (by omega)
                   rw [if_pos ht, if_pos ht] at hs
                   exact kont _ _ _ _ _ _ _ hs (rSt_push (e := 24) hr RT K e38 R1 R2 (by unfold vW; decide) (by omega) (tok_lt hTK hi (by omega))) (Or.inr (Or.inl ⟨rfl, by omega, rfl⟩)))
                | (have ht : tk f i ≠ 18 := (by have := rTk_inv ht0.1 ht0.2; omega)
                   have hs := st_push (T := tk f) (V := Vf f) (w := ww) (o := oo) hq hop (by omega)
                   rw [if_neg ht, if_neg ht] at hs
                   have hrw : rTk (tk f i) = rW (tk f i) := (if_neg (by omega)).symm
                   rw [hrw]
                   exact kont _ _ _ _ _ _ _ hs (rSt_push (e := tk f i) hr RT K e38 R1 R2 (by unfold vW; omega) (by omega) (tok_lt hTK hi (by omega))) (Or.inr (Or.inr ⟨rfl, by omega, rfl⟩)))
            · refine wp_iconst dX12_isRead_122 ?_
              refine wp_goto (tgt := 127) dX12_isRead_123 (by decide) ?_
              refine wp_istore_n rfl dX12_isRead_127 rfl (Nat.le_of_ble_eq_true rfl) rfl ?_
              try simp only [List.set_cons_zero, List.set_cons_succ]
              refine wp_goto (tgt := 205) dX12_isRead_128 (by decide) ?_
              refine wp_goto (tgt := 16) dX12_isRead_205 (by decide) ?_
              refine wp_dropAt 4 rfl ?_
              first
                | (exfalso; omega)
                | (have ht : tk f i = 18 := (by have := rTk_inv ht0.1 ht0.2; omega)
                   have hs := st_push (T := tk f) (V := Vf f) (w := ww) (o := oo) hq hop (by omega)
                   rw [if_pos ht, if_pos ht] at hs
                   exact kont _ _ _ _ _ _ _ hs (rSt_push (e := 24) hr RT K e38 R1 R2 (by unfold vW; decide) (by omega) (tok_lt hTK hi (by omega))) (Or.inr (Or.inl ⟨rfl, by omega, rfl⟩)))
                | (have ht : tk f i ≠ 18 := (by have := rTk_inv ht0.1 ht0.2; omega)
                   have hs := st_push (T := tk f) (V := Vf f) (w := ww) (o := oo) hq hop (by omega)
                   rw [if_neg ht, if_neg ht] at hs
                   have hrw : rTk (tk f i) = rW (tk f i) := (if_neg (by omega)).symm
                   rw [hrw]
                   exact kont _ _ _ _ _ _ _ hs (rSt_push (e := tk f i) hr RT K e38 R1 R2 (by unfold vW; omega) (by omega) (tok_lt hTK hi (by omega))) (Or.inr (Or.inr ⟨rfl, by omega, rfl⟩)))
      have hpb := tP_b F i
      refine wp_aload_n rfl rfl dX12_isRead_16 ?_
      refine wp_cV0r (ci := 12) okX12_next rfl rfl wX12_250 dX12_isRead_17 (Nat.le_of_ble_eq_true rfl) (Nat.le_of_ble_eq_true rfl) (by first | omega | (simp (disch := omega) only [up2_ne, up2_eq, S.2.2.1, st_200_m1 S.1.1, st_200_32 S.1.1, st_200_42 S.1.1, st_232_m2 S.1.1, st_232_m1 S.1.1, st_242_m2 S.1.1, st_242_m1 S.1.1]; first | done | omega)) (by first | assumption | (simp (disch := omega) only [up2_ne, up2_eq, S.2.2.1, st_200_m1 S.1.1, st_200_32 S.1.1, st_200_42 S.1.1, st_232_m2 S.1.1, st_232_m1 S.1.1, st_242_m2 S.1.1, st_242_m1 S.1.1]; first | done | rfl | omega)) (s_X12_next S.1 S.2.2.1 hpb.1 hpb.2) (Nat.zero_le _) ?_
      rintro r g1 ⟨rfl, P⟩ -
      show WP _ _ _ _ _ _ _ [] _
      have A := aSt_of hr S P
      have h40 := A.2.2.2.2.1
      have gS := A.1.1
      have ht0 := tk_inv (f := f) (i := i)
      have htb := rTk_b ht0.1 ht0.2
      refine wp_iload_n rfl rfl dX12_isRead_20 ?_
      refine wp_if_eq (tgt := 208) (by first | assumption | exact bI_in _ | exact ⟨by omega, by omega⟩ | exact iAnd_in | exact iOr_in | exact iShr_in | exact iShl_in | exact iXor_in | exact hxs _) dX12_isRead_21 (by decide) (fun c19 => ?_) (fun c19 => ?_)
      · exact blk208 g1 A (by omega)
      · refine wp_aload_n rfl rfl dX12_isRead_24 ?_
        refine wp_getfield1 (z := 13) (kI := 40) fX12_226 dX12_isRead_25 (by first | omega | (simp (disch := omega) only [up2_ne, up2_eq, h40, st_200_m1 gS, st_200_32 gS, st_200_42 gS, st_232_m2 gS, st_232_m1 gS, st_242_m2 gS, st_242_m1 gS]; first | done | omega)) (by first | assumption | (simp (disch := omega) only [up2_ne, up2_eq, h40, st_200_m1 gS, st_200_32 gS, st_200_42 gS, st_232_m2 gS, st_232_m1 gS, st_242_m2 gS, st_242_m1 gS]; first | done | rfl | omega)) rfl rfl ?_
        try simp (disch := omega) only [up2_ne, up2_eq, h40, st_200_m1 gS, st_200_32 gS, st_200_42 gS, st_232_m2 gS, st_232_m1 gS, st_242_m2 gS, st_242_m1 gS]
        refine wp_bipush (by decide) dX12_isRead_28 ?_
        refine wp_icmp_eq (tgt := 55) (by first | assumption | exact bI_in _ | exact ⟨by omega, by omega⟩ | exact iAnd_in | exact iOr_in | exact iShr_in | exact iShl_in | exact iXor_in | exact hxs _) (by first | assumption | exact bI_in _ | exact ⟨by omega, by omega⟩ | exact iAnd_in | exact iOr_in | exact iShr_in | exact iShl_in | exact iXor_in | exact hxs _) dX12_isRead_30 (by decide) (fun c20 => ?_) (fun c20 => ?_)
        · refine wp_iconst dX12_isRead_55 ?_
          refine wp_goto (tgt := 60) dX12_isRead_56 (by decide) ?_
          refine wp_istore dX12_isRead_60 rfl (Nat.le_of_ble_eq_true rfl) rfl ?_
          try simp only [List.set_cons_zero, List.set_cons_succ]
          refine wp_iload rfl dX12_isRead_62 ?_
          refine wp_if_eq (tgt := 131) (by first | assumption | exact bI_in _ | exact ⟨by omega, by omega⟩ | exact iAnd_in | exact iOr_in | exact iShr_in | exact iShl_in | exact iXor_in | exact hxs _) dX12_isRead_64 (by decide) (fun hx => absurd hx (by decide)) (fun hx => ?_)
          have hq : q = 1 ∨ q = 2 := by omega
          exact blk67 g1 A hq (by have := rTk_inv ht0.1 ht0.2; omega)
        · refine wp_aload_n rfl rfl dX12_isRead_33 ?_
          refine wp_getfield1 (z := 13) (kI := 40) fX12_226 dX12_isRead_34 (by first | omega | (simp (disch := omega) only [up2_ne, up2_eq, h40, st_200_m1 gS, st_200_32 gS, st_200_42 gS, st_232_m2 gS, st_232_m1 gS, st_242_m2 gS, st_242_m1 gS]; first | done | omega)) (by first | assumption | (simp (disch := omega) only [up2_ne, up2_eq, h40, st_200_m1 gS, st_200_32 gS, st_200_42 gS, st_232_m2 gS, st_232_m1 gS, st_242_m2 gS, st_242_m1 gS]; first | done | rfl | omega)) rfl rfl ?_
          try simp (disch := omega) only [up2_ne, up2_eq, h40, st_200_m1 gS, st_200_32 gS, st_200_42 gS, st_232_m2 gS, st_232_m1 gS, st_242_m2 gS, st_242_m1 gS]
          refine wp_bipush (by decide) dX12_isRead_37 ?_
          refine wp_icmp_eq (tgt := 55) (by first | assumption | exact bI_in _ | exact ⟨by omega, by omega⟩ | exact iAnd_in | exact iOr_in | exact iShr_in | exact iShl_in | exact iXor_in | exact hxs _) (by first | assumption | exact bI_in _ | exact ⟨by omega, by omega⟩ | exact iAnd_in | exact iOr_in | exact iShr_in | exact iShl_in | exact iXor_in | exact hxs _) dX12_isRead_39 (by decide) (fun c21 => ?_) (fun c21 => ?_)
          · refine wp_iconst dX12_isRead_55 ?_
            refine wp_goto (tgt := 60) dX12_isRead_56 (by decide) ?_
            refine wp_istore dX12_isRead_60 rfl (Nat.le_of_ble_eq_true rfl) rfl ?_
            try simp only [List.set_cons_zero, List.set_cons_succ]
            refine wp_iload rfl dX12_isRead_62 ?_
            refine wp_if_eq (tgt := 131) (by first | assumption | exact bI_in _ | exact ⟨by omega, by omega⟩ | exact iAnd_in | exact iOr_in | exact iShr_in | exact iShl_in | exact iXor_in | exact hxs _) dX12_isRead_64 (by decide) (fun hx => absurd hx (by decide)) (fun hx => ?_)
            have hq : q = 1 ∨ q = 2 := by omega
            exact blk67 g1 A hq (by have := rTk_inv ht0.1 ht0.2; omega)
          · refine wp_aload_n rfl rfl dX12_isRead_42 ?_
            refine wp_getfield1 (z := 13) (kI := 40) fX12_226 dX12_isRead_43 (by first | omega | (simp (disch := omega) only [up2_ne, up2_eq, h40, st_200_m1 gS, st_200_32 gS, st_200_42 gS, st_232_m2 gS, st_232_m1 gS, st_242_m2 gS, st_242_m1 gS]; first | done | omega)) (by first | assumption | (simp (disch := omega) only [up2_ne, up2_eq, h40, st_200_m1 gS, st_200_32 gS, st_200_42 gS, st_232_m2 gS, st_232_m1 gS, st_242_m2 gS, st_242_m1 gS]; first | done | rfl | omega)) rfl rfl ?_
            try simp (disch := omega) only [up2_ne, up2_eq, h40, st_200_m1 gS, st_200_32 gS, st_200_42 gS, st_232_m2 gS, st_232_m1 gS, st_242_m2 gS, st_242_m1 gS]
            refine wp_bipush (by decide) dX12_isRead_46 ?_
            refine wp_icmp_ne (tgt := 59) (by first | assumption | exact bI_in _ | exact ⟨by omega, by omega⟩ | exact iAnd_in | exact iOr_in | exact iShr_in | exact iShl_in | exact iXor_in | exact hxs _) (by first | assumption | exact bI_in _ | exact ⟨by omega, by omega⟩ | exact iAnd_in | exact iOr_in | exact iShr_in | exact iShl_in | exact iXor_in | exact hxs _) dX12_isRead_48 (by decide) (fun c22 => ?_) (fun c22 => ?_)
            · refine wp_iconst dX12_isRead_59 ?_
              refine wp_istore dX12_isRead_60 rfl (Nat.le_of_ble_eq_true rfl) rfl ?_
              try simp only [List.set_cons_zero, List.set_cons_succ]
              refine wp_iload rfl dX12_isRead_62 ?_
              refine wp_if_eq (tgt := 131) (by first | assumption | exact bI_in _ | exact ⟨by omega, by omega⟩ | exact iAnd_in | exact iOr_in | exact iShr_in | exact iShl_in | exact iXor_in | exact hxs _) dX12_isRead_64 (by decide) (fun hx => ?_) (fun hx => absurd hx (by decide))
              have hq : q = 1 ∨ q = 2 := by omega
              exact blk131 g1 A hq (by have := rTk_inv ht0.1 ht0.2; omega)
            · refine wp_iload_n rfl rfl dX12_isRead_51 ?_
              refine wp_if_eq (tgt := 59) (by first | assumption | exact bI_in _ | exact ⟨by omega, by omega⟩ | exact iAnd_in | exact iOr_in | exact iShr_in | exact iShl_in | exact iXor_in | exact hxs _) dX12_isRead_52 (by decide) (fun c23 => ?_) (fun c23 => ?_)
              · refine wp_iconst dX12_isRead_59 ?_
                refine wp_istore dX12_isRead_60 rfl (Nat.le_of_ble_eq_true rfl) rfl ?_
                try simp only [List.set_cons_zero, List.set_cons_succ]
                refine wp_iload rfl dX12_isRead_62 ?_
                refine wp_if_eq (tgt := 131) (by first | assumption | exact bI_in _ | exact ⟨by omega, by omega⟩ | exact iAnd_in | exact iOr_in | exact iShr_in | exact iShl_in | exact iXor_in | exact hxs _) dX12_isRead_64 (by decide) (fun hx => ?_) (fun hx => absurd hx (by decide))
                have hq : q = 1 ∨ q = 2 := by omega
                exact blk131 g1 A hq (by have := rTk_inv ht0.1 ht0.2; omega)
              · refine wp_iconst dX12_isRead_55 ?_
                refine wp_goto (tgt := 60) dX12_isRead_56 (by decide) ?_
                refine wp_istore dX12_isRead_60 rfl (Nat.le_of_ble_eq_true rfl) rfl ?_
                try simp only [List.set_cons_zero, List.set_cons_succ]
                refine wp_iload rfl dX12_isRead_62 ?_
                refine wp_if_eq (tgt := 131) (by first | assumption | exact bI_in _ | exact ⟨by omega, by omega⟩ | exact iAnd_in | exact iOr_in | exact iShr_in | exact iShl_in | exact iXor_in | exact hxs _) dX12_isRead_64 (by decide) (fun hx => absurd hx (by decide)) (fun hx => ?_)
                have hq : q = 1 ∨ q = 2 := by omega
                exact blk67 g1 A hq (by have := rTk_inv ht0.1 ht0.2; omega)
  show WP (gX (gq u)) MX12_isRead (d + 3) b _ 0 [(2, 200), (0, row), (9, 0), (9, 0), (9, 0)] [] h
  refine wp_aload_n rfl rfl dX12_isRead_0 ?_
  refine wp_getfield1 (z := 13) (kI := 32) fX12_164 dX12_isRead_1 (by first | omega | (simp (disch := omega) only [up2_ne, up2_eq, st_200_m1 hS, st_200_32 hS, st_200_42 hS, st_232_m2 hS, st_232_m1 hS, st_242_m2 hS, st_242_m1 hS]; first | done | omega)) (by first | assumption | (simp (disch := omega) only [up2_ne, up2_eq, st_200_m1 hS, st_200_32 hS, st_200_42 hS, st_232_m2 hS, st_232_m1 hS, st_242_m2 hS, st_242_m1 hS]; first | done | rfl | omega)) rfl rfl ?_
  try simp (disch := omega) only [up2_ne, up2_eq, st_200_m1 hS, st_200_32 hS, st_200_42 hS, st_232_m2 hS, st_232_m1 hS, st_242_m2 hS, st_242_m1 hS]
  refine wp_iload_n rfl rfl dX12_isRead_4 ?_
  refine wp_iconst dX12_isRead_5 ?_
  refine wp_iastore1 dX12_isRead_6 (by first | omega | (simp (disch := omega) only [up2_ne, up2_eq, st_200_m1 hS, st_200_32 hS, st_200_42 hS, st_232_m2 hS, st_232_m1 hS, st_242_m2 hS, st_242_m1 hS]; first | done | omega)) (by first | assumption | (simp (disch := omega) only [up2_ne, up2_eq, st_200_m1 hS, st_200_32 hS, st_200_42 hS, st_232_m2 hS, st_232_m1 hS, st_242_m2 hS, st_242_m1 hS]; first | done | rfl | omega)) (by first | omega | (simp (disch := omega) only [up2_ne, up2_eq, st_200_m1 hS, st_200_32 hS, st_200_42 hS, st_232_m2 hS, st_232_m1 hS, st_242_m2 hS, st_242_m1 hS]; first | done | omega)) (by first | omega | (simp (disch := omega) only [up2_ne, up2_eq, st_200_m1 hS, st_200_32 hS, st_200_42 hS, st_232_m2 hS, st_232_m1 hS, st_242_m2 hS, st_242_m1 hS]; first | done | omega)) ?_
  refine wp_aload_n rfl rfl dX12_isRead_7 ?_
  refine wp_iconst dX12_isRead_8 ?_
  refine wp_putfield1 (z := 13) (kI := 43) fX12_244 dX12_isRead_9 (by first | omega | (simp (disch := omega) only [up2_ne, up2_eq, st_200_m1 hS, st_200_32 hS, st_200_42 hS, st_232_m2 hS, st_232_m1 hS, st_242_m2 hS, st_242_m1 hS]; first | done | omega)) (by first | assumption | (simp (disch := omega) only [up2_ne, up2_eq, st_200_m1 hS, st_200_32 hS, st_200_42 hS, st_232_m2 hS, st_232_m1 hS, st_242_m2 hS, st_242_m1 hS]; first | done | rfl | omega)) rfl rfl ?_
  have K0 : rfr h (up2 (up2 h 232 row 0) 200 43 0) row := fun x k y => by rw [up2_ne (by omega), up2_ne (by omega)]
  refine wp_iconst dX12_isRead_12 ?_
  refine wp_istore_n rfl dX12_isRead_13 rfl (Nat.le_of_ble_eq_true rfl) rfl ?_
  try simp only [List.set_cons_zero, List.set_cons_succ]
  refine wp_iconst dX12_isRead_14 ?_
  refine wp_istore_n rfl dX12_isRead_15 rfl (Nat.le_of_ble_eq_true rfl) rfl ?_
  try simp only [List.set_cons_zero, List.set_cons_succ]
  obtain ⟨nn, hnn⟩ := hR
  refine loop nn i0 [] 2 [] _ 1 1 hnn ⟨rfr_rT hr RT K0, K0, ?_, ⟨?_, fun e he => absurd he List.not_mem_nil, fun k hk => absurd hk (Nat.not_lt_zero k)⟩, ⟨?_, fun k hk => absurd hk (Nat.not_lt_zero k)⟩, Nat.zero_le _, hi0⟩ (Or.inr (Or.inr ⟨rfl, rfl, rfl⟩))
  · rw [up2_ne (by omega), up2_ne (by omega)]; exact hp
  · rw [up2_eq]; rfl
  · rw [up2_ne (by omega), up2_eq]; rfl
