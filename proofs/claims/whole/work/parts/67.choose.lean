/-! ===== choose: the class's public method ===== -/
theorem gs1 {j : Nat} {m : mH} (H : Inv j m) {a : Int} (a0 : 0 ≤ a) (a1 : a < m 200 10) : 1 ≤ m 215 a := by
  have hn := H.ns
  rcases (H.2.2.2.2.1 a a0 (by omega)).1 with w | w
  · omega
  · exfalso; omega
abbrev cIt (m : mH) (f a : Int) : Prop := fitP m f a ∧ 0 < wC m a ∧ m 215 a ≤ m 203 f
/-- the items among so many askings -/
def itL (m : mH) (f : Int) : Nat → List Int
  | 0 => []
  | n + 1 => if cIt m f n then itL m f n ++ [(n : Int)] else itL m f n
theorem itL_b {m : mH} {f : Int} : ∀ n : Nat, (itL m f n).length ≤ n ∧ ∀ a ∈ itL m f n, (0 ≤ a ∧ a < n) ∧ cIt m f a
  | 0 => ⟨Nat.le_refl _, fun a h => absurd h List.not_mem_nil⟩
  | n + 1 => by
    have ih := itL_b (m := m) (f := f) n
    rw [itL]
    split
    · rename_i q
      refine ⟨by rw [List.length_append, List.length_singleton]; omega, fun a h => ?_⟩
      rcases List.mem_append.mp h with z | z
      · have := ih.2 a z
        exact ⟨by omega, this.2⟩
      · rw [List.mem_singleton.mp z]
        exact ⟨by omega, q⟩
    · refine ⟨by omega, fun a h => ?_⟩
      have := ih.2 a h
      exact ⟨by omega, this.2⟩
theorem asc_snoc : ∀ (l : List Int) {lo b : Int}, asc lo l → lo ≤ b → b < 14 → (∀ a ∈ l, a < b) → asc lo (l ++ [b])
  | [], lo, b, _, h0, h1, _ => ⟨h0, h1, trivial⟩
  | a :: l, lo, b, h, h0, h1, h2 => ⟨h.1, h.2.1, asc_snoc l h.2.2 (by have := h2 a List.mem_cons_self; omega) h1 (fun x hx => h2 x (List.mem_cons_of_mem _ hx))⟩
theorem itL_asc {m : mH} {f : Int} : ∀ n : Nat, n ≤ 14 → asc 0 (itL m f n)
  | 0, _ => trivial
  | n + 1, h => by
    have ih := itL_asc (m := m) (f := f) n (by omega)
    rw [itL]
    split
    · exact asc_snoc _ ih (by omega) (by omega) (fun a ha => by have := ((itL_b n).2 a ha).1; omega)
    · exact ih
theorem itL_itm {j : Nat} {m : mH} (H : Inv j m) {f : Int} {n : Nat} (hn : (n : Int) ≤ m 200 10) : ∀ a ∈ itL m f n, itm m a := by
  intro a ha
  have hN := H.ns
  have h1 := (itL_b n).2 a ha
  have h2 := wUL_b H (a := a) (by omega) (by omega)
  have h3 := H.ra (a := a) (by omega) (by omega)
  have h4 := gs1 H (a := a) (by omega) (by omega)
  exact ⟨⟨h1.2.2.1, by omega⟩, h4, by omega⟩
def chV (m : mH) (f : Int) : Int := (sch (m 203 f) ((itL m f (m 200 10).toNat).map (ti m)) (0, 0, 0) (0, 0, 0)).2.2
abbrev Ksc (h g : mH) : Prop := ∀ x k : Int, ¬ (0 ≤ k ∧ ((8 ≤ x ∧ x ≤ 12) ∨ (14 ≤ x ∧ x ≤ 35) ∨ (70 ≤ x ∧ x ≤ 75) ∨ (40 ≤ x ∧ x ≤ 45 ∧ 3 ≤ k))) → g x k = h x k
theorem Ksc.cl {h g m : mH} (k : Ksc h g) (e : Cl h m) : Cl g m := fun x y q => by rw [k x y (by omega)]; exact e x y q
set_option maxHeartbeats 1000000 in
theorem choose_t {u : gT} {j : Nat} {h m : mH} {d b : Nat} (H : Inv j m) (e : Cl h m) (hS : St h) {f : Int} (f0 : 0 ≤ f) (f1 : f < m 200 0) (hj : j < 512) : Rlt (gX (gq u)) MX11_choose (d + 18) b [(2, 1), (0, f)] h (fun r h1 => r = (0, chV m f) ∧ St h1 ∧ Ksc h h1) := by
  refine Rlt.of ?_
  have hn := H.ns
  have e12 := H.n12
  have e13 := H.n13
  have e11 := H.n11
  have hfl := H.flb f0 (by omega)
  have loop : ∀ n : Nat, n ≤ (m 200 10).toNat → ∀ g, itI m g (m 203 f) (itL m f n) → Ksc h g → WP (gX (gq u)) MX11_choose (d + 18) b (fun r h1 => r = (0, chV m f) ∧ St h1 ∧ Ksc h h1) 26 [(2, 1), (0, f), (2, 100 + f), (0, (n : Int))] [] g := by
    refine loop_w (m 200 10).toNat (fun n hn2 ih => ?_)
    intro g I hK
    have gS := I.1
    have ge : Cl g m := hK.cl e
    have hil := itL_b (m := m) (f := f) n
    have hra := H.ra (a := (n : Int)) (by omega)
    refine wp_iload_n rfl rfl dX11_choose_26 ?_
    refine wp_aload_n rfl rfl dX11_choose_27 ?_
    refine wp_getfield1 (z := 12) (kI := 13) fX11_172 dX11_choose_28 (by first | omega | (simp (disch := omega) only [up2_ne, up2_eq, ge, e11, e12, e13, H.a4, H.az, H.as, H.fz, st_1_m1 gS, st_1_m1 H.1, st_1_2 gS, st_1_2 H.1, st_1_8 gS, st_1_8 H.1, st_1_9 gS, st_1_9 H.1, st_4_m2 gS, st_4_m2 H.1, st_4_m1 gS, st_4_m1 H.1, st_10_m1 gS, st_10_m1 H.1, st_11_m1 gS, st_11_m1 H.1]; first | done | omega)) (by first | assumption | (simp (disch := omega) only [up2_ne, up2_eq, ge, e11, e12, e13, H.a4, H.az, H.as, H.fz, st_1_m1 gS, st_1_m1 H.1, st_1_2 gS, st_1_2 H.1, st_1_8 gS, st_1_8 H.1, st_1_9 gS, st_1_9 H.1, st_4_m2 gS, st_4_m2 H.1, st_4_m1 gS, st_4_m1 H.1, st_10_m1 gS, st_10_m1 H.1, st_11_m1 gS, st_11_m1 H.1]; first | done | rfl | omega)) rfl rfl ?_
    try simp (disch := omega) only [up2_ne, up2_eq, ge, e11, e12, e13, H.a4, H.az, H.as, H.fz, st_1_m1 gS, st_1_m1 H.1, st_1_2 gS, st_1_2 H.1, st_1_8 gS, st_1_8 H.1, st_1_9 gS, st_1_9 H.1, st_4_m2 gS, st_4_m2 H.1, st_4_m1 gS, st_4_m1 H.1, st_10_m1 gS, st_10_m1 H.1, st_11_m1 gS, st_11_m1 H.1]
    refine wp_icmp_ge (tgt := 88) (by first | assumption | exact bI_in _ | exact ⟨by omega, by omega⟩ | exact iAnd_in | exact iOr_in | exact iShr_in | exact iShl_in | exact iXor_in | exact hxs _) (by first | assumption | exact bI_in _ | exact ⟨by omega, by omega⟩ | exact iAnd_in | exact iOr_in | exact iShr_in | exact iShl_in | exact iXor_in | exact hxs _) dX11_choose_31 (by decide) (fun c1 => ?_) (fun c1 => ?_)
    · have en : n = (m 200 10).toNat := by omega
      subst en
      obtain ⟨dd, hdd⟩ : ∃ dd, d + 17 = dd + (itL m f (m 200 10).toNat).length + 2 := ⟨d + 15 - (itL m f (m 200 10).toNat).length, by omega⟩
      refine wp_aload_n rfl rfl dX11_choose_88 ?_
      refine wp_getfield1 (z := 12) (kI := 9) fX11_67 dX11_choose_89 (by first | omega | (simp (disch := omega) only [up2_ne, up2_eq, ge, e11, e12, e13, H.a4, H.az, H.as, H.fz, st_1_m1 gS, st_1_m1 H.1, st_1_2 gS, st_1_2 H.1, st_1_8 gS, st_1_8 H.1, st_1_9 gS, st_1_9 H.1, st_4_m2 gS, st_4_m2 H.1, st_4_m1 gS, st_4_m1 H.1, st_10_m1 gS, st_10_m1 H.1, st_11_m1 gS, st_11_m1 H.1]; first | done | omega)) (by first | assumption | (simp (disch := omega) only [up2_ne, up2_eq, ge, e11, e12, e13, H.a4, H.az, H.as, H.fz, st_1_m1 gS, st_1_m1 H.1, st_1_2 gS, st_1_2 H.1, st_1_8 gS, st_1_8 H.1, st_1_9 gS, st_1_9 H.1, st_4_m2 gS, st_4_m2 H.1, st_4_m1 gS, st_4_m1 H.1, st_10_m1 gS, st_10_m1 H.1, st_11_m1 gS, st_11_m1 H.1]; first | done | rfl | omega)) rfl rfl ?_
      try simp (disch := omega) only [up2_ne, up2_eq, ge, e11, e12, e13, H.a4, H.az, H.as, H.fz, st_1_m1 gS, st_1_m1 H.1, st_1_2 gS, st_1_2 H.1, st_1_8 gS, st_1_8 H.1, st_1_9 gS, st_1_9 H.1, st_4_m2 gS, st_4_m2 H.1, st_4_m1 gS, st_4_m1 H.1, st_10_m1 gS, st_10_m1 H.1, st_11_m1 gS, st_11_m1 H.1]
      refine wp_cV0r (ci := 1) okX1_bestSet rfl rfl wX11_331 dX11_choose_92 (Nat.le_of_ble_eq_true rfl) (Nat.le_of_ble_eq_true rfl) (by first | omega | (simp (disch := omega) only [up2_ne, up2_eq, ge, e11, e12, e13, H.a4, H.az, H.as, H.fz, st_1_m1 gS, st_1_m1 H.1, st_1_2 gS, st_1_2 H.1, st_1_8 gS, st_1_8 H.1, st_1_9 gS, st_1_9 H.1, st_4_m2 gS, st_4_m2 H.1, st_4_m1 gS, st_4_m1 H.1, st_10_m1 gS, st_10_m1 H.1, st_11_m1 gS, st_11_m1 H.1]; first | done | omega)) (by first | assumption | (simp (disch := omega) only [up2_ne, up2_eq, ge, e11, e12, e13, H.a4, H.az, H.as, H.fz, st_1_m1 gS, st_1_m1 H.1, st_1_2 gS, st_1_2 H.1, st_1_8 gS, st_1_8 H.1, st_1_9 gS, st_1_9 H.1, st_4_m2 gS, st_4_m2 H.1, st_4_m1 gS, st_4_m1 H.1, st_10_m1 gS, st_10_m1 H.1, st_11_m1 gS, st_11_m1 H.1]; first | done | rfl | omega)) (hdd ▸ s_X1_bestSet (d := dd) (b := 0) (by omega) (by omega) I (by omega) (itL_asc _ (by omega)) (itL_itm H (by omega))) (Nat.zero_le _) ?_
      rintro r g1 ⟨rfl, S1, z3⟩ -
      show WP _ _ _ _ _ _ _ ((0, _) :: _) _
      refine wp_iret dX11_choose_95 rfl ?_
      exact ⟨rfl, S1, fun x k z => by rw [z3 x k (by omega)]; exact hK x k z⟩
    · refine wp_aload_n rfl rfl dX11_choose_34 ?_
      refine wp_aload_n rfl rfl dX11_choose_35 ?_
      refine wp_aload_n rfl rfl dX11_choose_36 ?_
      refine wp_getfield1 (z := 12) (kI := 2) fX11_23 dX11_choose_37 (by first | omega | (simp (disch := omega) only [up2_ne, up2_eq, ge, e11, e12, e13, H.a4, H.az, H.as, H.fz, st_1_m1 gS, st_1_m1 H.1, st_1_2 gS, st_1_2 H.1, st_1_8 gS, st_1_8 H.1, st_1_9 gS, st_1_9 H.1, st_4_m2 gS, st_4_m2 H.1, st_4_m1 gS, st_4_m1 H.1, st_10_m1 gS, st_10_m1 H.1, st_11_m1 gS, st_11_m1 H.1]; first | done | omega)) (by first | assumption | (simp (disch := omega) only [up2_ne, up2_eq, ge, e11, e12, e13, H.a4, H.az, H.as, H.fz, st_1_m1 gS, st_1_m1 H.1, st_1_2 gS, st_1_2 H.1, st_1_8 gS, st_1_8 H.1, st_1_9 gS, st_1_9 H.1, st_4_m2 gS, st_4_m2 H.1, st_4_m1 gS, st_4_m1 H.1, st_10_m1 gS, st_10_m1 H.1, st_11_m1 gS, st_11_m1 H.1]; first | done | rfl | omega)) rfl rfl ?_
      try simp (disch := omega) only [up2_ne, up2_eq, ge, e11, e12, e13, H.a4, H.az, H.as, H.fz, st_1_m1 gS, st_1_m1 H.1, st_1_2 gS, st_1_2 H.1, st_1_8 gS, st_1_8 H.1, st_1_9 gS, st_1_9 H.1, st_4_m2 gS, st_4_m2 H.1, st_4_m1 gS, st_4_m1 H.1, st_10_m1 gS, st_10_m1 H.1, st_11_m1 gS, st_11_m1 H.1]
      refine wp_iload_n rfl rfl dX11_choose_40 ?_
      refine wp_aaload1 dX11_choose_41 (by first | omega | (simp (disch := omega) only [up2_ne, up2_eq, ge, e11, e12, e13, H.a4, H.az, H.as, H.fz, st_1_m1 gS, st_1_m1 H.1, st_1_2 gS, st_1_2 H.1, st_1_8 gS, st_1_8 H.1, st_1_9 gS, st_1_9 H.1, st_4_m2 gS, st_4_m2 H.1, st_4_m1 gS, st_4_m1 H.1, st_10_m1 gS, st_10_m1 H.1, st_11_m1 gS, st_11_m1 H.1]; first | done | omega)) (by first | omega | (simp (disch := omega) only [up2_ne, up2_eq, ge, e11, e12, e13, H.a4, H.az, H.as, H.fz, st_1_m1 gS, st_1_m1 H.1, st_1_2 gS, st_1_2 H.1, st_1_8 gS, st_1_8 H.1, st_1_9 gS, st_1_9 H.1, st_4_m2 gS, st_4_m2 H.1, st_4_m1 gS, st_4_m1 H.1, st_10_m1 gS, st_10_m1 H.1, st_11_m1 gS, st_11_m1 H.1]; first | done | omega)) (by first | omega | (simp (disch := omega) only [up2_ne, up2_eq, ge, e11, e12, e13, H.a4, H.az, H.as, H.fz, st_1_m1 gS, st_1_m1 H.1, st_1_2 gS, st_1_2 H.1, st_1_8 gS, st_1_8 H.1, st_1_9 gS, st_1_9 H.1, st_4_m2 gS, st_4_m2 H.1, st_4_m1 gS, st_4_m1 H.1, st_10_m1 gS, st_10_m1 H.1, st_11_m1 gS, st_11_m1 H.1]; first | done | omega)) (by first | omega | (simp (disch := omega) only [up2_ne, up2_eq, ge, e11, e12, e13, H.a4, H.az, H.as, H.fz, st_1_m1 gS, st_1_m1 H.1, st_1_2 gS, st_1_2 H.1, st_1_8 gS, st_1_8 H.1, st_1_9 gS, st_1_9 H.1, st_4_m2 gS, st_4_m2 H.1, st_4_m1 gS, st_4_m1 H.1, st_10_m1 gS, st_10_m1 H.1, st_11_m1 gS, st_11_m1 H.1]; first | done | omega)) ?_
      try simp (disch := omega) only [up2_ne, up2_eq, ge, e11, e12, e13, H.a4, H.az, H.as, H.fz, st_1_m1 gS, st_1_m1 H.1, st_1_2 gS, st_1_2 H.1, st_1_8 gS, st_1_8 H.1, st_1_9 gS, st_1_9 H.1, st_4_m2 gS, st_4_m2 H.1, st_4_m1 gS, st_4_m1 H.1, st_10_m1 gS, st_10_m1 H.1, st_11_m1 gS, st_11_m1 H.1]
      refine wp_cV2r (ci := 11) okX11_isFit rfl rfl wX11_319 dX11_choose_42 (Nat.le_of_ble_eq_true rfl) (Nat.le_of_ble_eq_true rfl) (by first | omega | (simp (disch := omega) only [up2_ne, up2_eq, ge, e11, e12, e13, H.a4, H.az, H.as, H.fz, st_1_m1 gS, st_1_m1 H.1, st_1_2 gS, st_1_2 H.1, st_1_8 gS, st_1_8 H.1, st_1_9 gS, st_1_9 H.1, st_4_m2 gS, st_4_m2 H.1, st_4_m1 gS, st_4_m1 H.1, st_10_m1 gS, st_10_m1 H.1, st_11_m1 gS, st_11_m1 H.1]; first | done | omega)) (by first | assumption | (simp (disch := omega) only [up2_ne, up2_eq, ge, e11, e12, e13, H.a4, H.az, H.as, H.fz, st_1_m1 gS, st_1_m1 H.1, st_1_2 gS, st_1_2 H.1, st_1_8 gS, st_1_8 H.1, st_1_9 gS, st_1_9 H.1, st_4_m2 gS, st_4_m2 H.1, st_4_m1 gS, st_4_m1 H.1, st_10_m1 gS, st_10_m1 H.1, st_11_m1 gS, st_11_m1 H.1]; first | done | rfl | omega)) (s_X11_isFit H ge gS f0 f1 (by omega) (by omega)) (Nat.zero_le _) ?_
      rintro r g1 ⟨rfl, S1, z3⟩ -
      show WP _ _ _ _ _ _ _ ((0, bI _) :: _) _
      have I1 := itI_cg I S1 (fun x k q => z3 x k (by omega))
      have K1 : Ksc h g1 := fun x k q => by rw [z3 x k (by omega)]; exact hK x k q
      have e1 : Cl g1 m := K1.cl e
      refine wp_ifB_eq (tgt := 82) dX11_choose_45 (by decide) (fun c2 => ?_) (fun c2 => ?_)
      · refine wp_iinc rfl rfl dX11_choose_82 rfl rfl ?_
        try simp only [List.set_cons_zero, List.set_cons_succ]
        refine wp_goto (tgt := 26) dX11_choose_85 (by decide) ?_
        first
          | (have hq : ¬ fitP m f n := by assumption
             have z := ih (by omega) g1 (by rw [itL, if_neg (fun y => hq y.1)]; exact I1) K1
             exact z)
          | (have hq : fitP m f n := by assumption
             rcases hadd with ⟨y1, rfl⟩ | ⟨y1, rfl⟩
             · have z := ih (by omega) _ (by rw [itL, if_pos ⟨hq, y1⟩]; exact itI_add I2) (fun x k z => by simp (disch := omega) only [up2_ne]; exact K2 x k z)
               exact z
             · have z := ih (by omega) _ (by rw [itL, if_neg (fun y => y1 y.2)]; exact I2) K2
               exact z)
      · refine wp_aload_n rfl rfl dX11_choose_48 ?_
        refine wp_aload_n rfl rfl dX11_choose_49 ?_
        refine wp_getfield1 (z := 12) (kI := 2) fX11_23 dX11_choose_50 (by first | omega | (simp (disch := omega) only [up2_ne, up2_eq, e1, ge, e11, e12, e13, H.a4, H.az, H.as, H.fz, st_1_m1 S1, st_1_m1 gS, st_1_m1 H.1, st_1_2 S1, st_1_2 gS, st_1_2 H.1, st_1_8 S1, st_1_8 gS, st_1_8 H.1, st_1_9 S1, st_1_9 gS, st_1_9 H.1, st_4_m2 S1, st_4_m2 gS, st_4_m2 H.1, st_4_m1 S1, st_4_m1 gS, st_4_m1 H.1, st_10_m1 S1, st_10_m1 gS, st_10_m1 H.1, st_11_m1 S1, st_11_m1 gS, st_11_m1 H.1]; first | done | omega)) (by first | assumption | (simp (disch := omega) only [up2_ne, up2_eq, e1, ge, e11, e12, e13, H.a4, H.az, H.as, H.fz, st_1_m1 S1, st_1_m1 gS, st_1_m1 H.1, st_1_2 S1, st_1_2 gS, st_1_2 H.1, st_1_8 S1, st_1_8 gS, st_1_8 H.1, st_1_9 S1, st_1_9 gS, st_1_9 H.1, st_4_m2 S1, st_4_m2 gS, st_4_m2 H.1, st_4_m1 S1, st_4_m1 gS, st_4_m1 H.1, st_10_m1 S1, st_10_m1 gS, st_10_m1 H.1, st_11_m1 S1, st_11_m1 gS, st_11_m1 H.1]; first | done | rfl | omega)) rfl rfl ?_
        try simp (disch := omega) only [up2_ne, up2_eq, e1, ge, e11, e12, e13, H.a4, H.az, H.as, H.fz, st_1_m1 S1, st_1_m1 gS, st_1_m1 H.1, st_1_2 S1, st_1_2 gS, st_1_2 H.1, st_1_8 S1, st_1_8 gS, st_1_8 H.1, st_1_9 S1, st_1_9 gS, st_1_9 H.1, st_4_m2 S1, st_4_m2 gS, st_4_m2 H.1, st_4_m1 S1, st_4_m1 gS, st_4_m1 H.1, st_10_m1 S1, st_10_m1 gS, st_10_m1 H.1, st_11_m1 S1, st_11_m1 gS, st_11_m1 H.1]
        refine wp_iload_n rfl rfl dX11_choose_53 ?_
        refine wp_aaload1 dX11_choose_54 (by first | omega | (simp (disch := omega) only [up2_ne, up2_eq, e1, ge, e11, e12, e13, H.a4, H.az, H.as, H.fz, st_1_m1 S1, st_1_m1 gS, st_1_m1 H.1, st_1_2 S1, st_1_2 gS, st_1_2 H.1, st_1_8 S1, st_1_8 gS, st_1_8 H.1, st_1_9 S1, st_1_9 gS, st_1_9 H.1, st_4_m2 S1, st_4_m2 gS, st_4_m2 H.1, st_4_m1 S1, st_4_m1 gS, st_4_m1 H.1, st_10_m1 S1, st_10_m1 gS, st_10_m1 H.1, st_11_m1 S1, st_11_m1 gS, st_11_m1 H.1]; first | done | omega)) (by first | omega | (simp (disch := omega) only [up2_ne, up2_eq, e1, ge, e11, e12, e13, H.a4, H.az, H.as, H.fz, st_1_m1 S1, st_1_m1 gS, st_1_m1 H.1, st_1_2 S1, st_1_2 gS, st_1_2 H.1, st_1_8 S1, st_1_8 gS, st_1_8 H.1, st_1_9 S1, st_1_9 gS, st_1_9 H.1, st_4_m2 S1, st_4_m2 gS, st_4_m2 H.1, st_4_m1 S1, st_4_m1 gS, st_4_m1 H.1, st_10_m1 S1, st_10_m1 gS, st_10_m1 H.1, st_11_m1 S1, st_11_m1 gS, st_11_m1 H.1]; first | done | omega)) (by first | omega | (simp (disch := omega) only [up2_ne, up2_eq, e1, ge, e11, e12, e13, H.a4, H.az, H.as, H.fz, st_1_m1 S1, st_1_m1 gS, st_1_m1 H.1, st_1_2 S1, st_1_2 gS, st_1_2 H.1, st_1_8 S1, st_1_8 gS, st_1_8 H.1, st_1_9 S1, st_1_9 gS, st_1_9 H.1, st_4_m2 S1, st_4_m2 gS, st_4_m2 H.1, st_4_m1 S1, st_4_m1 gS, st_4_m1 H.1, st_10_m1 S1, st_10_m1 gS, st_10_m1 H.1, st_11_m1 S1, st_11_m1 gS, st_11_m1 H.1]; first | done | omega)) (by first | omega | (simp (disch := omega) only [up2_ne, up2_eq, e1, ge, e11, e12, e13, H.a4, H.az, H.as, H.fz, st_1_m1 S1, st_1_m1 gS, st_1_m1 H.1, st_1_2 S1, st_1_2 gS, st_1_2 H.1, st_1_8 S1, st_1_8 gS, st_1_8 H.1, st_1_9 S1, st_1_9 gS, st_1_9 H.1, st_4_m2 S1, st_4_m2 gS, st_4_m2 H.1, st_4_m1 S1, st_4_m1 gS, st_4_m1 H.1, st_10_m1 S1, st_10_m1 gS, st_10_m1 H.1, st_11_m1 S1, st_11_m1 gS, st_11_m1 H.1]; first | done | omega)) ?_
        try simp (disch := omega) only [up2_ne, up2_eq, e1, ge, e11, e12, e13, H.a4, H.az, H.as, H.fz, st_1_m1 S1, st_1_m1 gS, st_1_m1 H.1, st_1_2 S1, st_1_2 gS, st_1_2 H.1, st_1_8 S1, st_1_8 gS, st_1_8 H.1, st_1_9 S1, st_1_9 gS, st_1_9 H.1, st_4_m2 S1, st_4_m2 gS, st_4_m2 H.1, st_4_m1 S1, st_4_m1 gS, st_4_m1 H.1, st_10_m1 S1, st_10_m1 gS, st_10_m1 H.1, st_11_m1 S1, st_11_m1 gS, st_11_m1 H.1]
        refine wp_cV1r (ci := 11) okX11_weigh rfl rfl wX11_305 dX11_choose_55 (Nat.le_of_ble_eq_true rfl) (Nat.le_of_ble_eq_true rfl) (by first | omega | (simp (disch := omega) only [up2_ne, up2_eq, e1, ge, e11, e12, e13, H.a4, H.az, H.as, H.fz, st_1_m1 S1, st_1_m1 gS, st_1_m1 H.1, st_1_2 S1, st_1_2 gS, st_1_2 H.1, st_1_8 S1, st_1_8 gS, st_1_8 H.1, st_1_9 S1, st_1_9 gS, st_1_9 H.1, st_4_m2 S1, st_4_m2 gS, st_4_m2 H.1, st_4_m1 S1, st_4_m1 gS, st_4_m1 H.1, st_10_m1 S1, st_10_m1 gS, st_10_m1 H.1, st_11_m1 S1, st_11_m1 gS, st_11_m1 H.1]; first | done | omega)) (by first | assumption | (simp (disch := omega) only [up2_ne, up2_eq, e1, ge, e11, e12, e13, H.a4, H.az, H.as, H.fz, st_1_m1 S1, st_1_m1 gS, st_1_m1 H.1, st_1_2 S1, st_1_2 gS, st_1_2 H.1, st_1_8 S1, st_1_8 gS, st_1_8 H.1, st_1_9 S1, st_1_9 gS, st_1_9 H.1, st_4_m2 S1, st_4_m2 gS, st_4_m2 H.1, st_4_m1 S1, st_4_m1 gS, st_4_m1 H.1, st_10_m1 S1, st_10_m1 gS, st_10_m1 H.1, st_11_m1 S1, st_11_m1 gS, st_11_m1 H.1]; first | done | rfl | omega)) (s_X11_weigh H e1 S1 (by omega) (by omega)) (Nat.zero_le _) ?_
        rintro r g2 ⟨rfl, S2, z4, q6, q7⟩ -
        show WP _ _ _ _ _ _ _ [] _
        have I2 := itI_cg I1 S2 (fun x k q => z4 x k (by omega))
        have K2 : Ksc h g2 := fun x k q => by rw [z4 x k (by omega)]; exact K1 x k q
        have e2 : Cl g2 m := K2.cl e
        have hwb := wUL_b H (a := (n : Int)) (by omega) (by omega)
        refine wp_aload_n rfl rfl dX11_choose_58 ?_
        refine wp_getfield1 (z := 12) (kI := 9) fX11_67 dX11_choose_59 (by first | omega | (simp (disch := omega) only [up2_ne, up2_eq, e2, e1, ge, e11, e12, e13, H.a4, H.az, H.as, H.fz, st_1_m1 S2, st_1_m1 S1, st_1_m1 gS, st_1_m1 H.1, st_1_2 S2, st_1_2 S1, st_1_2 gS, st_1_2 H.1, st_1_8 S2, st_1_8 S1, st_1_8 gS, st_1_8 H.1, st_1_9 S2, st_1_9 S1, st_1_9 gS, st_1_9 H.1, st_4_m2 S2, st_4_m2 S1, st_4_m2 gS, st_4_m2 H.1, st_4_m1 S2, st_4_m1 S1, st_4_m1 gS, st_4_m1 H.1, st_10_m1 S2, st_10_m1 S1, st_10_m1 gS, st_10_m1 H.1, st_11_m1 S2, st_11_m1 S1, st_11_m1 gS, st_11_m1 H.1]; first | done | omega)) (by first | assumption | (simp (disch := omega) only [up2_ne, up2_eq, e2, e1, ge, e11, e12, e13, H.a4, H.az, H.as, H.fz, st_1_m1 S2, st_1_m1 S1, st_1_m1 gS, st_1_m1 H.1, st_1_2 S2, st_1_2 S1, st_1_2 gS, st_1_2 H.1, st_1_8 S2, st_1_8 S1, st_1_8 gS, st_1_8 H.1, st_1_9 S2, st_1_9 S1, st_1_9 gS, st_1_9 H.1, st_4_m2 S2, st_4_m2 S1, st_4_m2 gS, st_4_m2 H.1, st_4_m1 S2, st_4_m1 S1, st_4_m1 gS, st_4_m1 H.1, st_10_m1 S2, st_10_m1 S1, st_10_m1 gS, st_10_m1 H.1, st_11_m1 S2, st_11_m1 S1, st_11_m1 gS, st_11_m1 H.1]; first | done | rfl | omega)) rfl rfl ?_
        try simp (disch := omega) only [up2_ne, up2_eq, e2, e1, ge, e11, e12, e13, H.a4, H.az, H.as, H.fz, st_1_m1 S2, st_1_m1 S1, st_1_m1 gS, st_1_m1 H.1, st_1_2 S2, st_1_2 S1, st_1_2 gS, st_1_2 H.1, st_1_8 S2, st_1_8 S1, st_1_8 gS, st_1_8 H.1, st_1_9 S2, st_1_9 S1, st_1_9 gS, st_1_9 H.1, st_4_m2 S2, st_4_m2 S1, st_4_m2 gS, st_4_m2 H.1, st_4_m1 S2, st_4_m1 S1, st_4_m1 gS, st_4_m1 H.1, st_10_m1 S2, st_10_m1 S1, st_10_m1 gS, st_10_m1 H.1, st_11_m1 S2, st_11_m1 S1, st_11_m1 gS, st_11_m1 H.1]
        refine wp_iload_n rfl rfl dX11_choose_62 ?_
        refine wp_aload_n rfl rfl dX11_choose_63 ?_
        refine wp_getfield1 (z := 12) (kI := 2) fX11_23 dX11_choose_64 (by first | omega | (simp (disch := omega) only [up2_ne, up2_eq, e2, e1, ge, e11, e12, e13, H.a4, H.az, H.as, H.fz, st_1_m1 S2, st_1_m1 S1, st_1_m1 gS, st_1_m1 H.1, st_1_2 S2, st_1_2 S1, st_1_2 gS, st_1_2 H.1, st_1_8 S2, st_1_8 S1, st_1_8 gS, st_1_8 H.1, st_1_9 S2, st_1_9 S1, st_1_9 gS, st_1_9 H.1, st_4_m2 S2, st_4_m2 S1, st_4_m2 gS, st_4_m2 H.1, st_4_m1 S2, st_4_m1 S1, st_4_m1 gS, st_4_m1 H.1, st_10_m1 S2, st_10_m1 S1, st_10_m1 gS, st_10_m1 H.1, st_11_m1 S2, st_11_m1 S1, st_11_m1 gS, st_11_m1 H.1]; first | done | omega)) (by first | assumption | (simp (disch := omega) only [up2_ne, up2_eq, e2, e1, ge, e11, e12, e13, H.a4, H.az, H.as, H.fz, st_1_m1 S2, st_1_m1 S1, st_1_m1 gS, st_1_m1 H.1, st_1_2 S2, st_1_2 S1, st_1_2 gS, st_1_2 H.1, st_1_8 S2, st_1_8 S1, st_1_8 gS, st_1_8 H.1, st_1_9 S2, st_1_9 S1, st_1_9 gS, st_1_9 H.1, st_4_m2 S2, st_4_m2 S1, st_4_m2 gS, st_4_m2 H.1, st_4_m1 S2, st_4_m1 S1, st_4_m1 gS, st_4_m1 H.1, st_10_m1 S2, st_10_m1 S1, st_10_m1 gS, st_10_m1 H.1, st_11_m1 S2, st_11_m1 S1, st_11_m1 gS, st_11_m1 H.1]; first | done | rfl | omega)) rfl rfl ?_
        try simp (disch := omega) only [up2_ne, up2_eq, e2, e1, ge, e11, e12, e13, H.a4, H.az, H.as, H.fz, st_1_m1 S2, st_1_m1 S1, st_1_m1 gS, st_1_m1 H.1, st_1_2 S2, st_1_2 S1, st_1_2 gS, st_1_2 H.1, st_1_8 S2, st_1_8 S1, st_1_8 gS, st_1_8 H.1, st_1_9 S2, st_1_9 S1, st_1_9 gS, st_1_9 H.1, st_4_m2 S2, st_4_m2 S1, st_4_m2 gS, st_4_m2 H.1, st_4_m1 S2, st_4_m1 S1, st_4_m1 gS, st_4_m1 H.1, st_10_m1 S2, st_10_m1 S1, st_10_m1 gS, st_10_m1 H.1, st_11_m1 S2, st_11_m1 S1, st_11_m1 gS, st_11_m1 H.1]
        refine wp_iload_n rfl rfl dX11_choose_67 ?_
        refine wp_aaload1 dX11_choose_68 (by first | omega | (simp (disch := omega) only [up2_ne, up2_eq, e2, e1, ge, e11, e12, e13, H.a4, H.az, H.as, H.fz, st_1_m1 S2, st_1_m1 S1, st_1_m1 gS, st_1_m1 H.1, st_1_2 S2, st_1_2 S1, st_1_2 gS, st_1_2 H.1, st_1_8 S2, st_1_8 S1, st_1_8 gS, st_1_8 H.1, st_1_9 S2, st_1_9 S1, st_1_9 gS, st_1_9 H.1, st_4_m2 S2, st_4_m2 S1, st_4_m2 gS, st_4_m2 H.1, st_4_m1 S2, st_4_m1 S1, st_4_m1 gS, st_4_m1 H.1, st_10_m1 S2, st_10_m1 S1, st_10_m1 gS, st_10_m1 H.1, st_11_m1 S2, st_11_m1 S1, st_11_m1 gS, st_11_m1 H.1]; first | done | omega)) (by first | omega | (simp (disch := omega) only [up2_ne, up2_eq, e2, e1, ge, e11, e12, e13, H.a4, H.az, H.as, H.fz, st_1_m1 S2, st_1_m1 S1, st_1_m1 gS, st_1_m1 H.1, st_1_2 S2, st_1_2 S1, st_1_2 gS, st_1_2 H.1, st_1_8 S2, st_1_8 S1, st_1_8 gS, st_1_8 H.1, st_1_9 S2, st_1_9 S1, st_1_9 gS, st_1_9 H.1, st_4_m2 S2, st_4_m2 S1, st_4_m2 gS, st_4_m2 H.1, st_4_m1 S2, st_4_m1 S1, st_4_m1 gS, st_4_m1 H.1, st_10_m1 S2, st_10_m1 S1, st_10_m1 gS, st_10_m1 H.1, st_11_m1 S2, st_11_m1 S1, st_11_m1 gS, st_11_m1 H.1]; first | done | omega)) (by first | omega | (simp (disch := omega) only [up2_ne, up2_eq, e2, e1, ge, e11, e12, e13, H.a4, H.az, H.as, H.fz, st_1_m1 S2, st_1_m1 S1, st_1_m1 gS, st_1_m1 H.1, st_1_2 S2, st_1_2 S1, st_1_2 gS, st_1_2 H.1, st_1_8 S2, st_1_8 S1, st_1_8 gS, st_1_8 H.1, st_1_9 S2, st_1_9 S1, st_1_9 gS, st_1_9 H.1, st_4_m2 S2, st_4_m2 S1, st_4_m2 gS, st_4_m2 H.1, st_4_m1 S2, st_4_m1 S1, st_4_m1 gS, st_4_m1 H.1, st_10_m1 S2, st_10_m1 S1, st_10_m1 gS, st_10_m1 H.1, st_11_m1 S2, st_11_m1 S1, st_11_m1 gS, st_11_m1 H.1]; first | done | omega)) (by first | omega | (simp (disch := omega) only [up2_ne, up2_eq, e2, e1, ge, e11, e12, e13, H.a4, H.az, H.as, H.fz, st_1_m1 S2, st_1_m1 S1, st_1_m1 gS, st_1_m1 H.1, st_1_2 S2, st_1_2 S1, st_1_2 gS, st_1_2 H.1, st_1_8 S2, st_1_8 S1, st_1_8 gS, st_1_8 H.1, st_1_9 S2, st_1_9 S1, st_1_9 gS, st_1_9 H.1, st_4_m2 S2, st_4_m2 S1, st_4_m2 gS, st_4_m2 H.1, st_4_m1 S2, st_4_m1 S1, st_4_m1 gS, st_4_m1 H.1, st_10_m1 S2, st_10_m1 S1, st_10_m1 gS, st_10_m1 H.1, st_11_m1 S2, st_11_m1 S1, st_11_m1 gS, st_11_m1 H.1]; first | done | omega)) ?_
        try simp (disch := omega) only [up2_ne, up2_eq, e2, e1, ge, e11, e12, e13, H.a4, H.az, H.as, H.fz, st_1_m1 S2, st_1_m1 S1, st_1_m1 gS, st_1_m1 H.1, st_1_2 S2, st_1_2 S1, st_1_2 gS, st_1_2 H.1, st_1_8 S2, st_1_8 S1, st_1_8 gS, st_1_8 H.1, st_1_9 S2, st_1_9 S1, st_1_9 gS, st_1_9 H.1, st_4_m2 S2, st_4_m2 S1, st_4_m2 gS, st_4_m2 H.1, st_4_m1 S2, st_4_m1 S1, st_4_m1 gS, st_4_m1 H.1, st_10_m1 S2, st_10_m1 S1, st_10_m1 gS, st_10_m1 H.1, st_11_m1 S2, st_11_m1 S1, st_11_m1 gS, st_11_m1 H.1]
        refine wp_getfield1 (z := 1) (kI := 4) fX11_214 dX11_choose_69 (by first | omega | (simp (disch := omega) only [up2_ne, up2_eq, e2, e1, ge, e11, e12, e13, H.a4, H.az, H.as, H.fz, st_1_m1 S2, st_1_m1 S1, st_1_m1 gS, st_1_m1 H.1, st_1_2 S2, st_1_2 S1, st_1_2 gS, st_1_2 H.1, st_1_8 S2, st_1_8 S1, st_1_8 gS, st_1_8 H.1, st_1_9 S2, st_1_9 S1, st_1_9 gS, st_1_9 H.1, st_4_m2 S2, st_4_m2 S1, st_4_m2 gS, st_4_m2 H.1, st_4_m1 S2, st_4_m1 S1, st_4_m1 gS, st_4_m1 H.1, st_10_m1 S2, st_10_m1 S1, st_10_m1 gS, st_10_m1 H.1, st_11_m1 S2, st_11_m1 S1, st_11_m1 gS, st_11_m1 H.1]; first | done | omega)) (by first | assumption | (simp (disch := omega) only [up2_ne, up2_eq, e2, e1, ge, e11, e12, e13, H.a4, H.az, H.as, H.fz, st_1_m1 S2, st_1_m1 S1, st_1_m1 gS, st_1_m1 H.1, st_1_2 S2, st_1_2 S1, st_1_2 gS, st_1_2 H.1, st_1_8 S2, st_1_8 S1, st_1_8 gS, st_1_8 H.1, st_1_9 S2, st_1_9 S1, st_1_9 gS, st_1_9 H.1, st_4_m2 S2, st_4_m2 S1, st_4_m2 gS, st_4_m2 H.1, st_4_m1 S2, st_4_m1 S1, st_4_m1 gS, st_4_m1 H.1, st_10_m1 S2, st_10_m1 S1, st_10_m1 gS, st_10_m1 H.1, st_11_m1 S2, st_11_m1 S1, st_11_m1 gS, st_11_m1 H.1]; first | done | rfl | omega)) rfl rfl ?_
        try simp (disch := omega) only [up2_ne, up2_eq, e2, e1, ge, e11, e12, e13, H.a4, H.az, H.as, H.fz, st_1_m1 S2, st_1_m1 S1, st_1_m1 gS, st_1_m1 H.1, st_1_2 S2, st_1_2 S1, st_1_2 gS, st_1_2 H.1, st_1_8 S2, st_1_8 S1, st_1_8 gS, st_1_8 H.1, st_1_9 S2, st_1_9 S1, st_1_9 gS, st_1_9 H.1, st_4_m2 S2, st_4_m2 S1, st_4_m2 gS, st_4_m2 H.1, st_4_m1 S2, st_4_m1 S1, st_4_m1 gS, st_4_m1 H.1, st_10_m1 S2, st_10_m1 S1, st_10_m1 gS, st_10_m1 H.1, st_11_m1 S2, st_11_m1 S1, st_11_m1 gS, st_11_m1 H.1]
        refine wp_aload_n rfl rfl dX11_choose_72 ?_
        refine wp_getfield1 (z := 12) (kI := 8) fX11_60 dX11_choose_73 (by first | omega | (simp (disch := omega) only [up2_ne, up2_eq, e2, e1, ge, e11, e12, e13, H.a4, H.az, H.as, H.fz, st_1_m1 S2, st_1_m1 S1, st_1_m1 gS, st_1_m1 H.1, st_1_2 S2, st_1_2 S1, st_1_2 gS, st_1_2 H.1, st_1_8 S2, st_1_8 S1, st_1_8 gS, st_1_8 H.1, st_1_9 S2, st_1_9 S1, st_1_9 gS, st_1_9 H.1, st_4_m2 S2, st_4_m2 S1, st_4_m2 gS, st_4_m2 H.1, st_4_m1 S2, st_4_m1 S1, st_4_m1 gS, st_4_m1 H.1, st_10_m1 S2, st_10_m1 S1, st_10_m1 gS, st_10_m1 H.1, st_11_m1 S2, st_11_m1 S1, st_11_m1 gS, st_11_m1 H.1]; first | done | omega)) (by first | assumption | (simp (disch := omega) only [up2_ne, up2_eq, e2, e1, ge, e11, e12, e13, H.a4, H.az, H.as, H.fz, st_1_m1 S2, st_1_m1 S1, st_1_m1 gS, st_1_m1 H.1, st_1_2 S2, st_1_2 S1, st_1_2 gS, st_1_2 H.1, st_1_8 S2, st_1_8 S1, st_1_8 gS, st_1_8 H.1, st_1_9 S2, st_1_9 S1, st_1_9 gS, st_1_9 H.1, st_4_m2 S2, st_4_m2 S1, st_4_m2 gS, st_4_m2 H.1, st_4_m1 S2, st_4_m1 S1, st_4_m1 gS, st_4_m1 H.1, st_10_m1 S2, st_10_m1 S1, st_10_m1 gS, st_10_m1 H.1, st_11_m1 S2, st_11_m1 S1, st_11_m1 gS, st_11_m1 H.1]; first | done | rfl | omega)) rfl rfl ?_
        try simp (disch := omega) only [up2_ne, up2_eq, e2, e1, ge, e11, e12, e13, H.a4, H.az, H.as, H.fz, st_1_m1 S2, st_1_m1 S1, st_1_m1 gS, st_1_m1 H.1, st_1_2 S2, st_1_2 S1, st_1_2 gS, st_1_2 H.1, st_1_8 S2, st_1_8 S1, st_1_8 gS, st_1_8 H.1, st_1_9 S2, st_1_9 S1, st_1_9 gS, st_1_9 H.1, st_4_m2 S2, st_4_m2 S1, st_4_m2 gS, st_4_m2 H.1, st_4_m1 S2, st_4_m1 S1, st_4_m1 gS, st_4_m1 H.1, st_10_m1 S2, st_10_m1 S1, st_10_m1 gS, st_10_m1 H.1, st_11_m1 S2, st_11_m1 S1, st_11_m1 gS, st_11_m1 H.1]
        refine wp_cV0 (ci := 7) okX7_cutWorth rfl rfl wX11_326 dX11_choose_76 rfl (Nat.le_of_ble_eq_true rfl) (Nat.le_of_ble_eq_true rfl) (by first | omega | (simp (disch := omega) only [up2_ne, up2_eq, e2, e1, ge, e11, e12, e13, H.a4, H.az, H.as, H.fz, st_1_m1 S2, st_1_m1 S1, st_1_m1 gS, st_1_m1 H.1, st_1_2 S2, st_1_2 S1, st_1_2 gS, st_1_2 H.1, st_1_8 S2, st_1_8 S1, st_1_8 gS, st_1_8 H.1, st_1_9 S2, st_1_9 S1, st_1_9 gS, st_1_9 H.1, st_4_m2 S2, st_4_m2 S1, st_4_m2 gS, st_4_m2 H.1, st_4_m1 S2, st_4_m1 S1, st_4_m1 gS, st_4_m1 H.1, st_10_m1 S2, st_10_m1 S1, st_10_m1 gS, st_10_m1 H.1, st_11_m1 S2, st_11_m1 S1, st_11_m1 gS, st_11_m1 H.1]; first | done | omega)) (by first | assumption | (simp (disch := omega) only [up2_ne, up2_eq, e2, e1, ge, e11, e12, e13, H.a4, H.az, H.as, H.fz, st_1_m1 S2, st_1_m1 S1, st_1_m1 gS, st_1_m1 H.1, st_1_2 S2, st_1_2 S1, st_1_2 gS, st_1_2 H.1, st_1_8 S2, st_1_8 S1, st_1_8 gS, st_1_8 H.1, st_1_9 S2, st_1_9 S1, st_1_9 gS, st_1_9 H.1, st_4_m2 S2, st_4_m2 S1, st_4_m2 gS, st_4_m2 H.1, st_4_m1 S2, st_4_m1 S1, st_4_m1 gS, st_4_m1 H.1, st_10_m1 S2, st_10_m1 S1, st_10_m1 gS, st_10_m1 H.1, st_11_m1 S2, st_11_m1 S1, st_11_m1 gS, st_11_m1 H.1]; first | done | rfl | omega)) (s_X7_cutWorth (p := wU m n) (q := wL m n) S2 (by exact q6) (by exact q7) (by exact ⟨by omega, by omega⟩) (by exact ⟨by omega, by omega⟩)) (Nat.zero_le _) ?_
        try simp (disch := omega) only [up2_ne, up2_eq, e2, e1, ge, e11, e12, e13, H.a4, H.az, H.as, H.fz, st_1_m1 S2, st_1_m1 S1, st_1_m1 gS, st_1_m1 H.1, st_1_2 S2, st_1_2 S1, st_1_2 gS, st_1_2 H.1, st_1_8 S2, st_1_8 S1, st_1_8 gS, st_1_8 H.1, st_1_9 S2, st_1_9 S1, st_1_9 gS, st_1_9 H.1, st_4_m2 S2, st_4_m2 S1, st_4_m2 gS, st_4_m2 H.1, st_4_m1 S2, st_4_m1 S1, st_4_m1 gS, st_4_m1 H.1, st_10_m1 S2, st_10_m1 S1, st_10_m1 gS, st_10_m1 H.1, st_11_m1 S2, st_11_m1 S1, st_11_m1 gS, st_11_m1 H.1]
        refine wp_cV3r (ci := 1) okX1_add rfl rfl wX11_329 dX11_choose_79 (Nat.le_of_ble_eq_true rfl) (Nat.le_of_ble_eq_true rfl) (by first | omega | (simp (disch := omega) only [up2_ne, up2_eq, e2, e1, ge, e11, e12, e13, H.a4, H.az, H.as, H.fz, st_1_m1 S2, st_1_m1 S1, st_1_m1 gS, st_1_m1 H.1, st_1_2 S2, st_1_2 S1, st_1_2 gS, st_1_2 H.1, st_1_8 S2, st_1_8 S1, st_1_8 gS, st_1_8 H.1, st_1_9 S2, st_1_9 S1, st_1_9 gS, st_1_9 H.1, st_4_m2 S2, st_4_m2 S1, st_4_m2 gS, st_4_m2 H.1, st_4_m1 S2, st_4_m1 S1, st_4_m1 gS, st_4_m1 H.1, st_10_m1 S2, st_10_m1 S1, st_10_m1 gS, st_10_m1 H.1, st_11_m1 S2, st_11_m1 S1, st_11_m1 gS, st_11_m1 H.1]; first | done | omega)) (by first | assumption | (simp (disch := omega) only [up2_ne, up2_eq, e2, e1, ge, e11, e12, e13, H.a4, H.az, H.as, H.fz, st_1_m1 S2, st_1_m1 S1, st_1_m1 gS, st_1_m1 H.1, st_1_2 S2, st_1_2 S1, st_1_2 gS, st_1_2 H.1, st_1_8 S2, st_1_8 S1, st_1_8 gS, st_1_8 H.1, st_1_9 S2, st_1_9 S1, st_1_9 gS, st_1_9 H.1, st_4_m2 S2, st_4_m2 S1, st_4_m2 gS, st_4_m2 H.1, st_4_m1 S2, st_4_m1 S1, st_4_m1 gS, st_4_m1 H.1, st_10_m1 S2, st_10_m1 S1, st_10_m1 gS, st_10_m1 H.1, st_11_m1 S2, st_11_m1 S1, st_11_m1 gS, st_11_m1 H.1]; first | done | rfl | omega)) (s_X1_add (L := m 203 f) (n := ((itL m f n).length : Int)) S2 I2.2.1 I2.2.2.2.1 (by omega) (by omega) (by exact ⟨by omega, by omega⟩) (by exact ⟨by omega, by omega⟩) (by show InI (wC m n); exact ⟨by omega, by omega⟩)) (Nat.zero_le _) ?_
        rintro r g3 ⟨rfl, hadd⟩ -
        show WP _ _ _ _ _ _ _ [] _
        refine wp_iinc rfl rfl dX11_choose_82 rfl rfl ?_
        try simp only [List.set_cons_zero, List.set_cons_succ]
        refine wp_goto (tgt := 26) dX11_choose_85 (by decide) ?_
        first
          | (have hq : ¬ fitP m f n := by assumption
             have z := ih (by omega) g1 (by rw [itL, if_neg (fun y => hq y.1)]; exact I1) K1
             exact z)
          | (have hq : fitP m f n := by assumption
             rcases hadd with ⟨y1, rfl⟩ | ⟨y1, rfl⟩
             · have z := ih (by omega) _ (by rw [itL, if_pos ⟨hq, y1⟩]; exact itI_add I2) (fun x k z => by simp (disch := omega) only [up2_ne]; exact K2 x k z)
               exact z
             · have z := ih (by omega) _ (by rw [itL, if_neg (fun y => y1 y.2)]; exact I2) K2
               exact z)
  show WP (gX (gq u)) MX11_choose (d + 18) b _ 0 [(2, 1), (0, f), (9, 0), (9, 0)] [] h
  refine wp_aload_n rfl rfl dX11_choose_0 ?_
  refine wp_iload_n rfl rfl dX11_choose_1 ?_
  refine wp_cV1 (ci := 11) okX11_findFund rfl rfl wX11_108 dX11_choose_2 rfl (Nat.le_of_ble_eq_true rfl) (Nat.le_of_ble_eq_true rfl) (by first | omega | (simp (disch := omega) only [up2_ne, up2_eq, e, e11, e12, e13, H.a4, H.az, H.r3, H.rz, H.fe, H.fz, H.f2, H.a3, H.as, H.fl, st_1_m1 hS, st_1_m1 H.1, st_1_2 hS, st_1_2 H.1, st_1_8 hS, st_1_8 H.1, st_1_9 hS, st_1_9 H.1, st_4_m2 hS, st_4_m2 H.1, st_4_m1 hS, st_4_m1 H.1, st_10_m1 hS, st_10_m1 H.1, st_11_m1 hS, st_11_m1 H.1]; first | done | omega)) (by first | assumption | (simp (disch := omega) only [up2_ne, up2_eq, e, e11, e12, e13, H.a4, H.az, H.r3, H.rz, H.fe, H.fz, H.f2, H.a3, H.as, H.fl, st_1_m1 hS, st_1_m1 H.1, st_1_2 hS, st_1_2 H.1, st_1_8 hS, st_1_8 H.1, st_1_9 hS, st_1_9 H.1, st_4_m2 hS, st_4_m2 H.1, st_4_m1 hS, st_4_m1 H.1, st_10_m1 hS, st_10_m1 H.1, st_11_m1 hS, st_11_m1 H.1]; first | done | rfl | omega)) (ndF_t H e hS f0 f1) (Nat.zero_le _) ?_
  try simp (disch := omega) only [up2_ne, up2_eq, e, e11, e12, e13, H.a4, H.az, H.r3, H.rz, H.fe, H.fz, H.f2, H.a3, H.as, H.fl, st_1_m1 hS, st_1_m1 H.1, st_1_2 hS, st_1_2 H.1, st_1_8 hS, st_1_8 H.1, st_1_9 hS, st_1_9 H.1, st_4_m2 hS, st_4_m2 H.1, st_4_m1 hS, st_4_m1 H.1, st_10_m1 hS, st_10_m1 H.1, st_11_m1 hS, st_11_m1 H.1]
  refine wp_astore_n rfl dX11_choose_5 rfl (Nat.le_of_ble_eq_true rfl) rfl ?_
  try simp only [List.set_cons_zero, List.set_cons_succ]
  refine wp_aload_n rfl rfl dX11_choose_6 ?_
  refine wp_ifnonnull (tgt := 13) dX11_choose_7 (by decide) (fun hx => ?_) (fun hx => absurd hx (by omega))
  refine wp_aload_n rfl rfl dX11_choose_13 ?_
  refine wp_getfield1 (z := 12) (kI := 9) fX11_67 dX11_choose_14 (by first | omega | (simp (disch := omega) only [up2_ne, up2_eq, e, e11, e12, e13, H.a4, H.az, H.r3, H.rz, H.fe, H.fz, H.f2, H.a3, H.as, H.fl, st_1_m1 hS, st_1_m1 H.1, st_1_2 hS, st_1_2 H.1, st_1_8 hS, st_1_8 H.1, st_1_9 hS, st_1_9 H.1, st_4_m2 hS, st_4_m2 H.1, st_4_m1 hS, st_4_m1 H.1, st_10_m1 hS, st_10_m1 H.1, st_11_m1 hS, st_11_m1 H.1]; first | done | omega)) (by first | assumption | (simp (disch := omega) only [up2_ne, up2_eq, e, e11, e12, e13, H.a4, H.az, H.r3, H.rz, H.fe, H.fz, H.f2, H.a3, H.as, H.fl, st_1_m1 hS, st_1_m1 H.1, st_1_2 hS, st_1_2 H.1, st_1_8 hS, st_1_8 H.1, st_1_9 hS, st_1_9 H.1, st_4_m2 hS, st_4_m2 H.1, st_4_m1 hS, st_4_m1 H.1, st_10_m1 hS, st_10_m1 H.1, st_11_m1 hS, st_11_m1 H.1]; first | done | rfl | omega)) rfl rfl ?_
  try simp (disch := omega) only [up2_ne, up2_eq, e, e11, e12, e13, H.a4, H.az, H.r3, H.rz, H.fe, H.fz, H.f2, H.a3, H.as, H.fl, st_1_m1 hS, st_1_m1 H.1, st_1_2 hS, st_1_2 H.1, st_1_8 hS, st_1_8 H.1, st_1_9 hS, st_1_9 H.1, st_4_m2 hS, st_4_m2 H.1, st_4_m1 hS, st_4_m1 H.1, st_10_m1 hS, st_10_m1 H.1, st_11_m1 hS, st_11_m1 H.1]
  refine wp_aload_n rfl rfl dX11_choose_17 ?_
  refine wp_getfield1 (z := 3) (kI := 2) fX11_120 dX11_choose_18 (by first | omega | (simp (disch := omega) only [up2_ne, up2_eq, e, e11, e12, e13, H.a4, H.az, H.r3, H.rz, H.fe, H.fz, H.f2, H.a3, H.as, H.fl, st_1_m1 hS, st_1_m1 H.1, st_1_2 hS, st_1_2 H.1, st_1_8 hS, st_1_8 H.1, st_1_9 hS, st_1_9 H.1, st_4_m2 hS, st_4_m2 H.1, st_4_m1 hS, st_4_m1 H.1, st_10_m1 hS, st_10_m1 H.1, st_11_m1 hS, st_11_m1 H.1]; first | done | omega)) (by first | assumption | (simp (disch := omega) only [up2_ne, up2_eq, e, e11, e12, e13, H.a4, H.az, H.r3, H.rz, H.fe, H.fz, H.f2, H.a3, H.as, H.fl, st_1_m1 hS, st_1_m1 H.1, st_1_2 hS, st_1_2 H.1, st_1_8 hS, st_1_8 H.1, st_1_9 hS, st_1_9 H.1, st_4_m2 hS, st_4_m2 H.1, st_4_m1 hS, st_4_m1 H.1, st_10_m1 hS, st_10_m1 H.1, st_11_m1 hS, st_11_m1 H.1]; first | done | rfl | omega)) rfl rfl ?_
  try simp (disch := omega) only [up2_ne, up2_eq, e, e11, e12, e13, H.a4, H.az, H.r3, H.rz, H.fe, H.fz, H.f2, H.a3, H.as, H.fl, st_1_m1 hS, st_1_m1 H.1, st_1_2 hS, st_1_2 H.1, st_1_8 hS, st_1_8 H.1, st_1_9 hS, st_1_9 H.1, st_4_m2 hS, st_4_m2 H.1, st_4_m1 hS, st_4_m1 H.1, st_10_m1 hS, st_10_m1 H.1, st_11_m1 hS, st_11_m1 H.1]
  refine wp_cV1v (ci := 1) okX1_start rfl rfl wX11_323 dX11_choose_21 (Nat.le_of_ble_eq_true rfl) (Nat.le_of_ble_eq_true rfl) (by first | omega | (simp (disch := omega) only [up2_ne, up2_eq, e, e11, e12, e13, H.a4, H.az, H.r3, H.rz, H.fe, H.fz, H.f2, H.a3, H.as, H.fl, st_1_m1 hS, st_1_m1 H.1, st_1_2 hS, st_1_2 H.1, st_1_8 hS, st_1_8 H.1, st_1_9 hS, st_1_9 H.1, st_4_m2 hS, st_4_m2 H.1, st_4_m1 hS, st_4_m1 H.1, st_10_m1 hS, st_10_m1 H.1, st_11_m1 hS, st_11_m1 H.1]; first | done | omega)) (by first | assumption | (simp (disch := omega) only [up2_ne, up2_eq, e, e11, e12, e13, H.a4, H.az, H.r3, H.rz, H.fe, H.fz, H.f2, H.a3, H.as, H.fl, st_1_m1 hS, st_1_m1 H.1, st_1_2 hS, st_1_2 H.1, st_1_8 hS, st_1_8 H.1, st_1_9 hS, st_1_9 H.1, st_4_m2 hS, st_4_m2 H.1, st_4_m1 hS, st_4_m1 H.1, st_10_m1 hS, st_10_m1 H.1, st_11_m1 hS, st_11_m1 H.1]; first | done | rfl | omega)) (s_X1_start hS) (Nat.zero_le _) ?_
  try simp (disch := omega) only [up2_ne, up2_eq, e, e11, e12, e13, H.a4, H.az, H.r3, H.rz, H.fe, H.fz, H.f2, H.a3, H.as, H.fl, st_1_m1 hS, st_1_m1 H.1, st_1_2 hS, st_1_2 H.1, st_1_8 hS, st_1_8 H.1, st_1_9 hS, st_1_9 H.1, st_4_m2 hS, st_4_m2 H.1, st_4_m1 hS, st_4_m1 H.1, st_10_m1 hS, st_10_m1 H.1, st_11_m1 hS, st_11_m1 H.1]
  refine wp_iconst dX11_choose_24 ?_
  refine wp_istore_n rfl dX11_choose_25 rfl (Nat.le_of_ble_eq_true rfl) rfl ?_
  try simp only [List.set_cons_zero, List.set_cons_succ]
  refine loop 0 (by omega) _ ⟨?_, ?_, fun k a hk => absurd hk (by simp [itL]), ?_, ?_, ?_, ?_⟩ (fun x k z => by simp (disch := omega) only [up2_ne])
  · exact ((((hS.up (by decide +kernel)).up (by decide +kernel)).up (by decide +kernel)).up (by decide +kernel)).up (by decide +kernel)
  · simp (disch := omega) only [up2_ne, up2_eq]
    rfl
  all_goals simp (disch := omega) only [up2_ne, up2_eq]
theorem choose_f {u : gT} {j : Nat} {h m : mH} {d b : Nat} (H : Inv j m) (e : Cl h m) (hS : St h) {f : Int} (i1 : InI f) (q : ¬ (0 ≤ f ∧ f < m 200 0)) : Det (gX (gq u)) MX11_choose (d + 18) b [(2, 1), (0, f)] h (0, -2) h := by
  intro Q hQ
  have hn := H.ns
  have e12 := H.n12
  have e13 := H.n13
  have e11 := H.n11
  show WP (gX (gq u)) MX11_choose (d + 18) b Q 0 [(2, 1), (0, f), (9, 0), (9, 0)] [] h
  refine wp_aload_n rfl rfl dX11_choose_0 ?_
  refine wp_iload_n rfl rfl dX11_choose_1 ?_
  refine wp_cV1 (ci := 11) okX11_findFund rfl rfl wX11_108 dX11_choose_2 rfl (Nat.le_of_ble_eq_true rfl) (Nat.le_of_ble_eq_true rfl) (by first | omega | (simp (disch := omega) only [up2_ne, up2_eq, e, e11, e12, e13, H.a4, H.az, H.r3, H.rz, H.fe, H.fz, H.f2, H.a3, H.as, H.fl, st_1_m1 hS, st_1_m1 H.1]; first | done | omega)) (by first | assumption | (simp (disch := omega) only [up2_ne, up2_eq, e, e11, e12, e13, H.a4, H.az, H.r3, H.rz, H.fe, H.fz, H.f2, H.a3, H.as, H.fl, st_1_m1 hS, st_1_m1 H.1]; first | done | rfl | omega)) (ndF_f H e hS i1 q) (Nat.zero_le _) ?_
  try simp (disch := omega) only [up2_ne, up2_eq, e, e11, e12, e13, H.a4, H.az, H.r3, H.rz, H.fe, H.fz, H.f2, H.a3, H.as, H.fl, st_1_m1 hS, st_1_m1 H.1]
  refine wp_astore_n rfl dX11_choose_5 rfl (Nat.le_of_ble_eq_true rfl) rfl ?_
  try simp only [List.set_cons_zero, List.set_cons_succ]
  refine wp_aload_n rfl rfl dX11_choose_6 ?_
  refine wp_ifnonnull (tgt := 13) dX11_choose_7 (by decide) (fun hx => absurd rfl hx) (fun hx => ?_)
  refine wp_bipush (by decide) dX11_choose_10 ?_
  refine wp_iret dX11_choose_12 rfl ?_
  exact hQ
