/-! ===== the beginning: heaps as lists of what was done; small constructors; the first text ===== -/
abbrev hop : Type := Bool × Int × Int × Int
/-- what was done to a heap, the last first: a slot written, or an object made (its code, its length) -/
def hl (X : mX) : List hop → mH → mH
  | [], h => h
  | (false, a, k, v) :: L, h => up2 (hl X L h) a k v
  | (true, a, z, n) :: L, h => nwh X (hl X L h) a z n
def rd : List hop → Int → Int → Option Int
  | [], _, _ => none
  | (false, a, k, v) :: L, x, y => if x = a ∧ y = k then some v else rd L x y
  | (true, a, z, n) :: L, x, y => if x = a then some (if y = -1 then z else if y = -2 then n else if sref z y = true then -1 else 0) else rd L x y
theorem hl_nil {X : mX} {h : mH} : hl X [] h = h := rfl
theorem hl_cf {X : mX} {L : List hop} {h : mH} {a k v : Int} : hl X ((false, a, k, v) :: L) h = up2 (hl X L h) a k v := rfl
theorem hl_ct {X : mX} {L : List hop} {h : mH} {a z n : Int} : hl X ((true, a, z, n) :: L) h = nwh X (hl X L h) a z n := rfl
theorem hl_app {X : mX} {h : mH} : ∀ A B : List hop, hl X A (hl X B h) = hl X (A ++ B) h
  | [], B => rfl
  | (false, a, k, v) :: A, B => by rw [hl_cf, hl_app A B]; rfl
  | (true, a, z, n) :: A, B => by rw [hl_ct, hl_app A B]; rfl
theorem hl_read {g : gG} {h : mH} : ∀ {L : List hop} {x y v : Int}, rd L x y = some v → hl (gX g) L h x y = v
  | [], x, y, v, e => by cases e
  | (false, a, k, w) :: L, x, y, v, e => by
    rw [rd] at e
    rw [hl_cf]
    by_cases c : x = a ∧ y = k
    · rw [if_pos c] at e
      cases e
      rw [c.1, c.2, up2_eq]
    · rw [if_neg c] at e
      rw [up2_ne (by by_cases q : x = a; exact Or.inr (fun z => c ⟨q, z⟩); exact Or.inl q)]
      exact hl_read e
  | (true, a, z, n) :: L, x, y, v, e => by
    rw [rd] at e
    rw [hl_ct]
    by_cases c : x = a
    · rw [if_pos c] at e
      cases e
      rw [c, nwh_eq]
      rfl
    · rw [if_neg c] at e
      rw [nwh_ne c]
      exact hl_read e
theorem hl_none {g : gG} {h : mH} : ∀ {L : List hop} {x y : Int}, rd L x y = none → hl (gX g) L h x y = h x y
  | [], x, y, e => rfl
  | (false, a, k, w) :: L, x, y, e => by
    rw [rd] at e
    rw [hl_cf]
    by_cases c : x = a ∧ y = k
    · rw [if_pos c] at e
      cases e
    · rw [if_neg c] at e
      rw [up2_ne (by by_cases q : x = a; exact Or.inr (fun z => c ⟨q, z⟩); exact Or.inl q)]
      exact hl_none e
  | (true, a, z, n) :: L, x, y, e => by
    rw [rd] at e
    rw [hl_ct]
    by_cases c : x = a
    · rw [if_pos c] at e
      cases e
    · rw [if_neg c] at e
      rw [nwh_ne c]
      exact hl_none e
theorem hl_new {g : gG} {h : mH} {L : List hop} {x : Int} (hz : ∀ x : Int, 0 ≤ x → h x (-1) = 0) (x0 : 0 ≤ x) (e : rd L x (-1) = none) : hl (gX g) L h x (-1) = 0 := by rw [hl_none e, hz x x0]
theorem s_X1_init {u : gT} {h : mH} {d : Nat}  (hz : h (11) (-1) = 2) (z0 : h (19) (-1) = 0) (z1 : h (20) (-1) = 0) (z2 : h (21) (-1) = 0) (z3 : h (22) (-1) = 0) (z4 : h (23) (-1) = 0) (z5 : h (24) (-1) = 0) : Det (gX (gq u)) MX1_init (d + 1) 93 [(2, 11)] h (9, 0) (hl (gX (gq u)) [(false, 11, 5, 24), (true, 24, 20, 15), (false, 11, 4, 23), (true, 23, 20, 15), (false, 11, 3, 22), (true, 22, 20, 15), (false, 11, 2, 21), (true, 21, 20, 14), (false, 11, 1, 20), (true, 20, 20, 14), (false, 11, 0, 19), (true, 19, 20, 14)] h) := by
  intro Q hQ
  show WP (gX (gq u)) MX1_init (d + 1) 93 Q 0 [(2, 11)] [] h
  refine wp_aload_n rfl rfl dX1_init_0 ?_
  refine wp_objInit wX1_3.1 wX1_3.2.1 wX1_3.2.2 dX1_init_1 (by first | omega | (simp (disch := omega) only [up2_ne, up2_eq, nw_ne, nw_m1, nw_m2, nw_i, nw_q, hl_nil, hl_cf, hl_ct, hz, z0, z1, z2, z3, z4, z5, st_11_m1 hS]; first | done | omega)) (by decide) ?_
  refine wp_aload_n rfl rfl dX1_init_4 ?_
  refine wp_bipush (by decide) dX1_init_5 ?_
  refine wp_newarray (a := (19)) (code := 20) (b' := 78) dX1_init_7 rfl ac_int rfl (by decide) (by omega) (by first | assumption | (simp (disch := omega) only [up2_ne, up2_eq, nw_ne, nw_m1, nw_m2, nw_i, nw_q, hl_nil, hl_cf, hl_ct, hz, z0, z1, z2, z3, z4, z5, st_11_m1 hS]; first | done | rfl | omega)) (by decide) (Nat.le_of_ble_eq_true rfl) ?_
  refine wp_putfinal1 (z := 2) (kI := 0) fX1_9 rfl (fun _ q => by cases q; rfl) dX1_init_9 (by first | omega | (simp (disch := omega) only [up2_ne, up2_eq, nw_ne, nw_m1, nw_m2, nw_i, nw_q, hl_nil, hl_cf, hl_ct, hz, z0, z1, z2, z3, z4, z5, st_11_m1 hS]; first | done | omega)) (by first | assumption | (simp (disch := omega) only [up2_ne, up2_eq, nw_ne, nw_m1, nw_m2, nw_i, nw_q, hl_nil, hl_cf, hl_ct, hz, z0, z1, z2, z3, z4, z5, st_11_m1 hS]; first | done | rfl | omega)) rfl rfl ?_
  refine wp_aload_n rfl rfl dX1_init_12 ?_
  refine wp_bipush (by decide) dX1_init_13 ?_
  refine wp_newarray (a := (20)) (code := 20) (b' := 63) dX1_init_15 rfl ac_int rfl (by decide) (by omega) (by first | assumption | (simp (disch := omega) only [up2_ne, up2_eq, nw_ne, nw_m1, nw_m2, nw_i, nw_q, hl_nil, hl_cf, hl_ct, hz, z0, z1, z2, z3, z4, z5, st_11_m1 hS]; first | done | rfl | omega)) (by decide) (Nat.le_of_ble_eq_true rfl) ?_
  refine wp_putfinal1 (z := 2) (kI := 1) fX1_15 rfl (fun _ q => by cases q; rfl) dX1_init_17 (by first | omega | (simp (disch := omega) only [up2_ne, up2_eq, nw_ne, nw_m1, nw_m2, nw_i, nw_q, hl_nil, hl_cf, hl_ct, hz, z0, z1, z2, z3, z4, z5, st_11_m1 hS]; first | done | omega)) (by first | assumption | (simp (disch := omega) only [up2_ne, up2_eq, nw_ne, nw_m1, nw_m2, nw_i, nw_q, hl_nil, hl_cf, hl_ct, hz, z0, z1, z2, z3, z4, z5, st_11_m1 hS]; first | done | rfl | omega)) rfl rfl ?_
  refine wp_aload_n rfl rfl dX1_init_20 ?_
  refine wp_bipush (by decide) dX1_init_21 ?_
  refine wp_newarray (a := (21)) (code := 20) (b' := 48) dX1_init_23 rfl ac_int rfl (by decide) (by omega) (by first | assumption | (simp (disch := omega) only [up2_ne, up2_eq, nw_ne, nw_m1, nw_m2, nw_i, nw_q, hl_nil, hl_cf, hl_ct, hz, z0, z1, z2, z3, z4, z5, st_11_m1 hS]; first | done | rfl | omega)) (by decide) (Nat.le_of_ble_eq_true rfl) ?_
  refine wp_putfinal1 (z := 2) (kI := 2) fX1_18 rfl (fun _ q => by cases q; rfl) dX1_init_25 (by first | omega | (simp (disch := omega) only [up2_ne, up2_eq, nw_ne, nw_m1, nw_m2, nw_i, nw_q, hl_nil, hl_cf, hl_ct, hz, z0, z1, z2, z3, z4, z5, st_11_m1 hS]; first | done | omega)) (by first | assumption | (simp (disch := omega) only [up2_ne, up2_eq, nw_ne, nw_m1, nw_m2, nw_i, nw_q, hl_nil, hl_cf, hl_ct, hz, z0, z1, z2, z3, z4, z5, st_11_m1 hS]; first | done | rfl | omega)) rfl rfl ?_
  refine wp_aload_n rfl rfl dX1_init_28 ?_
  refine wp_bipush (by decide) dX1_init_29 ?_
  refine wp_newarray (a := (22)) (code := 20) (b' := 32) dX1_init_31 rfl ac_int rfl (by decide) (by omega) (by first | assumption | (simp (disch := omega) only [up2_ne, up2_eq, nw_ne, nw_m1, nw_m2, nw_i, nw_q, hl_nil, hl_cf, hl_ct, hz, z0, z1, z2, z3, z4, z5, st_11_m1 hS]; first | done | rfl | omega)) (by decide) (Nat.le_of_ble_eq_true rfl) ?_
  refine wp_putfinal1 (z := 2) (kI := 3) fX1_21 rfl (fun _ q => by cases q; rfl) dX1_init_33 (by first | omega | (simp (disch := omega) only [up2_ne, up2_eq, nw_ne, nw_m1, nw_m2, nw_i, nw_q, hl_nil, hl_cf, hl_ct, hz, z0, z1, z2, z3, z4, z5, st_11_m1 hS]; first | done | omega)) (by first | assumption | (simp (disch := omega) only [up2_ne, up2_eq, nw_ne, nw_m1, nw_m2, nw_i, nw_q, hl_nil, hl_cf, hl_ct, hz, z0, z1, z2, z3, z4, z5, st_11_m1 hS]; first | done | rfl | omega)) rfl rfl ?_
  refine wp_aload_n rfl rfl dX1_init_36 ?_
  refine wp_bipush (by decide) dX1_init_37 ?_
  refine wp_newarray (a := (23)) (code := 20) (b' := 16) dX1_init_39 rfl ac_int rfl (by decide) (by omega) (by first | assumption | (simp (disch := omega) only [up2_ne, up2_eq, nw_ne, nw_m1, nw_m2, nw_i, nw_q, hl_nil, hl_cf, hl_ct, hz, z0, z1, z2, z3, z4, z5, st_11_m1 hS]; first | done | rfl | omega)) (by decide) (Nat.le_of_ble_eq_true rfl) ?_
  refine wp_putfinal1 (z := 2) (kI := 4) fX1_24 rfl (fun _ q => by cases q; rfl) dX1_init_41 (by first | omega | (simp (disch := omega) only [up2_ne, up2_eq, nw_ne, nw_m1, nw_m2, nw_i, nw_q, hl_nil, hl_cf, hl_ct, hz, z0, z1, z2, z3, z4, z5, st_11_m1 hS]; first | done | omega)) (by first | assumption | (simp (disch := omega) only [up2_ne, up2_eq, nw_ne, nw_m1, nw_m2, nw_i, nw_q, hl_nil, hl_cf, hl_ct, hz, z0, z1, z2, z3, z4, z5, st_11_m1 hS]; first | done | rfl | omega)) rfl rfl ?_
  refine wp_aload_n rfl rfl dX1_init_44 ?_
  refine wp_bipush (by decide) dX1_init_45 ?_
  refine wp_newarray (a := (24)) (code := 20) (b' := 0) dX1_init_47 rfl ac_int rfl (by decide) (by omega) (by first | assumption | (simp (disch := omega) only [up2_ne, up2_eq, nw_ne, nw_m1, nw_m2, nw_i, nw_q, hl_nil, hl_cf, hl_ct, hz, z0, z1, z2, z3, z4, z5, st_11_m1 hS]; first | done | rfl | omega)) (by decide) (Nat.le_of_ble_eq_true rfl) ?_
  refine wp_putfinal1 (z := 2) (kI := 5) fX1_27 rfl (fun _ q => by cases q; rfl) dX1_init_49 (by first | omega | (simp (disch := omega) only [up2_ne, up2_eq, nw_ne, nw_m1, nw_m2, nw_i, nw_q, hl_nil, hl_cf, hl_ct, hz, z0, z1, z2, z3, z4, z5, st_11_m1 hS]; first | done | omega)) (by first | assumption | (simp (disch := omega) only [up2_ne, up2_eq, nw_ne, nw_m1, nw_m2, nw_i, nw_q, hl_nil, hl_cf, hl_ct, hz, z0, z1, z2, z3, z4, z5, st_11_m1 hS]; first | done | rfl | omega)) rfl rfl ?_
  refine wp_vret dX1_init_52 rfl ?_
  exact hQ
theorem s_X4_init {u : gT} {h : mH} {d : Nat}  (hz : h (12) (-1) = 5) (z0 : h (25) (-1) = 0) (z1 : h (26) (-1) = 0) (z2 : h (27) (-1) = 0) (z3 : h (28) (-1) = 0) (z4 : h (29) (-1) = 0) : Det (gX (gq u)) MX4_init (d + 1) 63 [(2, 12)] h (9, 0) (hl (gX (gq u)) [(false, 12, 4, 29), (true, 29, 20, 14), (false, 12, 3, 28), (true, 28, 20, 14), (false, 12, 2, 27), (true, 27, 20, 14), (false, 12, 1, 26), (true, 26, 20, 8), (false, 12, 0, 25), (true, 25, 20, 8)] h) := by
  intro Q hQ
  show WP (gX (gq u)) MX4_init (d + 1) 63 Q 0 [(2, 12)] [] h
  refine wp_aload_n rfl rfl dX4_init_0 ?_
  refine wp_objInit wX4_3.1 wX4_3.2.1 wX4_3.2.2 dX4_init_1 (by first | omega | (simp (disch := omega) only [up2_ne, up2_eq, nw_ne, nw_m1, nw_m2, nw_i, nw_q, hl_nil, hl_cf, hl_ct, hz, z0, z1, z2, z3, z4, st_12_m1 hS]; first | done | omega)) (by decide) ?_
  refine wp_aload_n rfl rfl dX4_init_4 ?_
  refine wp_bipush (by decide) dX4_init_5 ?_
  refine wp_newarray (a := (25)) (code := 20) (b' := 54) dX4_init_7 rfl ac_int rfl (by decide) (by omega) (by first | assumption | (simp (disch := omega) only [up2_ne, up2_eq, nw_ne, nw_m1, nw_m2, nw_i, nw_q, hl_nil, hl_cf, hl_ct, hz, z0, z1, z2, z3, z4, st_12_m1 hS]; first | done | rfl | omega)) (by decide) (Nat.le_of_ble_eq_true rfl) ?_
  refine wp_putfinal1 (z := 5) (kI := 0) fX4_9 rfl (fun _ q => by cases q; rfl) dX4_init_9 (by first | omega | (simp (disch := omega) only [up2_ne, up2_eq, nw_ne, nw_m1, nw_m2, nw_i, nw_q, hl_nil, hl_cf, hl_ct, hz, z0, z1, z2, z3, z4, st_12_m1 hS]; first | done | omega)) (by first | assumption | (simp (disch := omega) only [up2_ne, up2_eq, nw_ne, nw_m1, nw_m2, nw_i, nw_q, hl_nil, hl_cf, hl_ct, hz, z0, z1, z2, z3, z4, st_12_m1 hS]; first | done | rfl | omega)) rfl rfl ?_
  refine wp_aload_n rfl rfl dX4_init_12 ?_
  refine wp_bipush (by decide) dX4_init_13 ?_
  refine wp_newarray (a := (26)) (code := 20) (b' := 45) dX4_init_15 rfl ac_int rfl (by decide) (by omega) (by first | assumption | (simp (disch := omega) only [up2_ne, up2_eq, nw_ne, nw_m1, nw_m2, nw_i, nw_q, hl_nil, hl_cf, hl_ct, hz, z0, z1, z2, z3, z4, st_12_m1 hS]; first | done | rfl | omega)) (by decide) (Nat.le_of_ble_eq_true rfl) ?_
  refine wp_putfinal1 (z := 5) (kI := 1) fX4_15 rfl (fun _ q => by cases q; rfl) dX4_init_17 (by first | omega | (simp (disch := omega) only [up2_ne, up2_eq, nw_ne, nw_m1, nw_m2, nw_i, nw_q, hl_nil, hl_cf, hl_ct, hz, z0, z1, z2, z3, z4, st_12_m1 hS]; first | done | omega)) (by first | assumption | (simp (disch := omega) only [up2_ne, up2_eq, nw_ne, nw_m1, nw_m2, nw_i, nw_q, hl_nil, hl_cf, hl_ct, hz, z0, z1, z2, z3, z4, st_12_m1 hS]; first | done | rfl | omega)) rfl rfl ?_
  refine wp_aload_n rfl rfl dX4_init_20 ?_
  refine wp_bipush (by decide) dX4_init_21 ?_
  refine wp_newarray (a := (27)) (code := 20) (b' := 30) dX4_init_23 rfl ac_int rfl (by decide) (by omega) (by first | assumption | (simp (disch := omega) only [up2_ne, up2_eq, nw_ne, nw_m1, nw_m2, nw_i, nw_q, hl_nil, hl_cf, hl_ct, hz, z0, z1, z2, z3, z4, st_12_m1 hS]; first | done | rfl | omega)) (by decide) (Nat.le_of_ble_eq_true rfl) ?_
  refine wp_putfinal1 (z := 5) (kI := 2) fX4_18 rfl (fun _ q => by cases q; rfl) dX4_init_25 (by first | omega | (simp (disch := omega) only [up2_ne, up2_eq, nw_ne, nw_m1, nw_m2, nw_i, nw_q, hl_nil, hl_cf, hl_ct, hz, z0, z1, z2, z3, z4, st_12_m1 hS]; first | done | omega)) (by first | assumption | (simp (disch := omega) only [up2_ne, up2_eq, nw_ne, nw_m1, nw_m2, nw_i, nw_q, hl_nil, hl_cf, hl_ct, hz, z0, z1, z2, z3, z4, st_12_m1 hS]; first | done | rfl | omega)) rfl rfl ?_
  refine wp_aload_n rfl rfl dX4_init_28 ?_
  refine wp_bipush (by decide) dX4_init_29 ?_
  refine wp_newarray (a := (28)) (code := 20) (b' := 15) dX4_init_31 rfl ac_int rfl (by decide) (by omega) (by first | assumption | (simp (disch := omega) only [up2_ne, up2_eq, nw_ne, nw_m1, nw_m2, nw_i, nw_q, hl_nil, hl_cf, hl_ct, hz, z0, z1, z2, z3, z4, st_12_m1 hS]; first | done | rfl | omega)) (by decide) (Nat.le_of_ble_eq_true rfl) ?_
  refine wp_putfinal1 (z := 5) (kI := 3) fX4_21 rfl (fun _ q => by cases q; rfl) dX4_init_33 (by first | omega | (simp (disch := omega) only [up2_ne, up2_eq, nw_ne, nw_m1, nw_m2, nw_i, nw_q, hl_nil, hl_cf, hl_ct, hz, z0, z1, z2, z3, z4, st_12_m1 hS]; first | done | omega)) (by first | assumption | (simp (disch := omega) only [up2_ne, up2_eq, nw_ne, nw_m1, nw_m2, nw_i, nw_q, hl_nil, hl_cf, hl_ct, hz, z0, z1, z2, z3, z4, st_12_m1 hS]; first | done | rfl | omega)) rfl rfl ?_
  refine wp_aload_n rfl rfl dX4_init_36 ?_
  refine wp_bipush (by decide) dX4_init_37 ?_
  refine wp_newarray (a := (29)) (code := 20) (b' := 0) dX4_init_39 rfl ac_int rfl (by decide) (by omega) (by first | assumption | (simp (disch := omega) only [up2_ne, up2_eq, nw_ne, nw_m1, nw_m2, nw_i, nw_q, hl_nil, hl_cf, hl_ct, hz, z0, z1, z2, z3, z4, st_12_m1 hS]; first | done | rfl | omega)) (by decide) (Nat.le_of_ble_eq_true rfl) ?_
  refine wp_putfinal1 (z := 5) (kI := 4) fX4_24 rfl (fun _ q => by cases q; rfl) dX4_init_41 (by first | omega | (simp (disch := omega) only [up2_ne, up2_eq, nw_ne, nw_m1, nw_m2, nw_i, nw_q, hl_nil, hl_cf, hl_ct, hz, z0, z1, z2, z3, z4, st_12_m1 hS]; first | done | omega)) (by first | assumption | (simp (disch := omega) only [up2_ne, up2_eq, nw_ne, nw_m1, nw_m2, nw_i, nw_q, hl_nil, hl_cf, hl_ct, hz, z0, z1, z2, z3, z4, st_12_m1 hS]; first | done | rfl | omega)) rfl rfl ?_
  refine wp_vret dX4_init_44 rfl ?_
  exact hQ
theorem s_X5_init {u : gT} {h : mH} {d : Nat} {pa : Int} (hpa : pa = 8 ∨ pa = 35) (hz : h (pa) (-1) = 6)  : Det (gX (gq u)) MX5_init (d + 1) 0 [(2, pa)] h (9, 0) (hl (gX (gq u)) [] h) := by
  intro Q hQ
  show WP (gX (gq u)) MX5_init (d + 1) 0 Q 0 [(2, pa)] [] h
  refine wp_aload_n rfl rfl dX5_init_0 ?_
  refine wp_objInit wX5_3.1 wX5_3.2.1 wX5_3.2.2 dX5_init_1 (by first | omega | (simp (disch := omega) only [up2_ne, up2_eq, nw_ne, nw_m1, nw_m2, nw_i, nw_q, hl_nil, hl_cf, hl_ct, hz]; first | done | omega)) (by decide) ?_
  refine wp_vret dX5_init_4 rfl ?_
  exact hQ
theorem s_X7_init {u : gT} {h : mH} {d : Nat}  (hz : h (10) (-1) = 8) (z0 : h (17) (-1) = 0) (z1 : h (18) (-1) = 0) : Det (gX (gq u)) MX7_init (d + 1) 18 [(2, 10)] h (9, 0) (hl (gX (gq u)) [(false, 10, 1, 18), (true, 18, 20, 8), (false, 10, 0, 17), (true, 17, 20, 8)] h) := by
  intro Q hQ
  show WP (gX (gq u)) MX7_init (d + 1) 18 Q 0 [(2, 10)] [] h
  refine wp_aload_n rfl rfl dX7_init_0 ?_
  refine wp_objInit wX7_3.1 wX7_3.2.1 wX7_3.2.2 dX7_init_1 (by first | omega | (simp (disch := omega) only [up2_ne, up2_eq, nw_ne, nw_m1, nw_m2, nw_i, nw_q, hl_nil, hl_cf, hl_ct, hz, z0, z1, st_10_m1 hS]; first | done | omega)) (by decide) ?_
  refine wp_aload_n rfl rfl dX7_init_4 ?_
  refine wp_bipush (by decide) dX7_init_5 ?_
  refine wp_newarray (a := (17)) (code := 20) (b' := 9) dX7_init_7 rfl ac_int rfl (by decide) (by omega) (by first | assumption | (simp (disch := omega) only [up2_ne, up2_eq, nw_ne, nw_m1, nw_m2, nw_i, nw_q, hl_nil, hl_cf, hl_ct, hz, z0, z1, st_10_m1 hS]; first | done | rfl | omega)) (by decide) (Nat.le_of_ble_eq_true rfl) ?_
  refine wp_putfinal1 (z := 8) (kI := 0) fX7_9 rfl (fun _ q => by cases q; rfl) dX7_init_9 (by first | omega | (simp (disch := omega) only [up2_ne, up2_eq, nw_ne, nw_m1, nw_m2, nw_i, nw_q, hl_nil, hl_cf, hl_ct, hz, z0, z1, st_10_m1 hS]; first | done | omega)) (by first | assumption | (simp (disch := omega) only [up2_ne, up2_eq, nw_ne, nw_m1, nw_m2, nw_i, nw_q, hl_nil, hl_cf, hl_ct, hz, z0, z1, st_10_m1 hS]; first | done | rfl | omega)) rfl rfl ?_
  refine wp_aload_n rfl rfl dX7_init_12 ?_
  refine wp_bipush (by decide) dX7_init_13 ?_
  refine wp_newarray (a := (18)) (code := 20) (b' := 0) dX7_init_15 rfl ac_int rfl (by decide) (by omega) (by first | assumption | (simp (disch := omega) only [up2_ne, up2_eq, nw_ne, nw_m1, nw_m2, nw_i, nw_q, hl_nil, hl_cf, hl_ct, hz, z0, z1, st_10_m1 hS]; first | done | rfl | omega)) (by decide) (Nat.le_of_ble_eq_true rfl) ?_
  refine wp_putfinal1 (z := 8) (kI := 1) fX7_15 rfl (fun _ q => by cases q; rfl) dX7_init_17 (by first | omega | (simp (disch := omega) only [up2_ne, up2_eq, nw_ne, nw_m1, nw_m2, nw_i, nw_q, hl_nil, hl_cf, hl_ct, hz, z0, z1, st_10_m1 hS]; first | done | omega)) (by first | assumption | (simp (disch := omega) only [up2_ne, up2_eq, nw_ne, nw_m1, nw_m2, nw_i, nw_q, hl_nil, hl_cf, hl_ct, hz, z0, z1, st_10_m1 hS]; first | done | rfl | omega)) rfl rfl ?_
  refine wp_vret dX7_init_20 rfl ?_
  exact hQ
theorem s_X8_init {u : gT} {h : mH} {d : Nat} {x : Int} (x0 : 0 ≤ x) (x1 : x < 4) (hz : h (80 + x) (-1) = 9) (z0 : h (90 + x) (-1) = 0) : Det (gX (gq u)) MX8_init (d + 1) 41 [(2, 80 + x)] h (9, 0) (hl (gX (gq u)) [(false, 80 + x, 2, -1), (false, 80 + x, 0, 90 + x), (true, 90 + x, 20, 40)] h) := by
  intro Q hQ
  show WP (gX (gq u)) MX8_init (d + 1) 41 Q 0 [(2, 80 + x)] [] h
  refine wp_aload_n rfl rfl dX8_init_0 ?_
  refine wp_objInit wX8_3.1 wX8_3.2.1 wX8_3.2.2 dX8_init_1 (by first | omega | (simp (disch := omega) only [up2_ne, up2_eq, nw_ne, nw_m1, nw_m2, nw_i, nw_q, hl_nil, hl_cf, hl_ct, hz, z0]; first | done | omega)) (by decide) ?_
  refine wp_aload_n rfl rfl dX8_init_4 ?_
  refine wp_bipush (by decide) dX8_init_5 ?_
  refine wp_newarray (a := (90 + x)) (code := 20) (b' := 0) dX8_init_7 rfl ac_int rfl (by decide) (by omega) (by first | assumption | (simp (disch := omega) only [up2_ne, up2_eq, nw_ne, nw_m1, nw_m2, nw_i, nw_q, hl_nil, hl_cf, hl_ct, hz, z0]; first | done | rfl | omega)) (by decide) (Nat.le_of_ble_eq_true rfl) ?_
  refine wp_putfinal1 (z := 9) (kI := 0) fX8_9 rfl (fun _ q => by cases q; rfl) dX8_init_9 (by first | omega | (simp (disch := omega) only [up2_ne, up2_eq, nw_ne, nw_m1, nw_m2, nw_i, nw_q, hl_nil, hl_cf, hl_ct, hz, z0]; first | done | omega)) (by first | assumption | (simp (disch := omega) only [up2_ne, up2_eq, nw_ne, nw_m1, nw_m2, nw_i, nw_q, hl_nil, hl_cf, hl_ct, hz, z0]; first | done | rfl | omega)) rfl rfl ?_
  refine wp_aload_n rfl rfl dX8_init_12 ?_
  refine wp_iconst dX8_init_13 ?_
  refine wp_putfield1 (z := 9) (kI := 2) fX8_15 dX8_init_14 (by first | omega | (simp (disch := omega) only [up2_ne, up2_eq, nw_ne, nw_m1, nw_m2, nw_i, nw_q, hl_nil, hl_cf, hl_ct, hz, z0]; first | done | omega)) (by first | assumption | (simp (disch := omega) only [up2_ne, up2_eq, nw_ne, nw_m1, nw_m2, nw_i, nw_q, hl_nil, hl_cf, hl_ct, hz, z0]; first | done | rfl | omega)) rfl rfl ?_
  refine wp_vret dX8_init_17 rfl ?_
  exact hQ
theorem s_X9_init {u : gT} {h : mH} {d : Nat} {c tb : Int} (hcb : tcb c tb) (hz : h (c) (-1) = 10) (z0 : h (tb) (-1) = 0) (z1 : h (tb + 1) (-1) = 0) (z2 : h (tb + 2) (-1) = 0) (z3 : h (tb + 3) (-1) = 0) : Det (gX (gq u)) MX9_init (d + 1) 647 [(2, c)] h (9, 0) (hl (gX (gq u)) [(false, c, 4, tb + 3), (true, tb + 3, 20, 161), (false, c, 3, tb + 2), (true, tb + 2, 20, 161), (false, c, 2, tb + 1), (true, tb + 1, 20, 161), (false, c, 0, tb), (true, tb, 21, 160)] h) := by
  intro Q hQ
  show WP (gX (gq u)) MX9_init (d + 1) 647 Q 0 [(2, c)] [] h
  refine wp_aload_n rfl rfl dX9_init_0 ?_
  refine wp_objInit wX9_3.1 wX9_3.2.1 wX9_3.2.2 dX9_init_1 (by first | omega | (simp (disch := omega) only [up2_ne, up2_eq, nw_ne, nw_m1, nw_m2, nw_i, nw_q, hl_nil, hl_cf, hl_ct, hz, z0, z1, z2, z3]; first | done | omega)) (by decide) ?_
  refine wp_aload_n rfl rfl dX9_init_4 ?_
  refine wp_sipush (by decide) dX9_init_5 ?_
  refine wp_newarray (a := (tb)) (code := 21) (b' := 486) dX9_init_8 rfl ac_byte rfl (by decide) (by omega) (by first | assumption | (simp (disch := omega) only [up2_ne, up2_eq, nw_ne, nw_m1, nw_m2, nw_i, nw_q, hl_nil, hl_cf, hl_ct, hz, z0, z1, z2, z3]; first | done | rfl | omega)) (by decide) (Nat.le_of_ble_eq_true rfl) ?_
  refine wp_putfinal1 (z := 10) (kI := 0) fX9_9 rfl (fun _ q => by cases q; rfl) dX9_init_10 (by first | omega | (simp (disch := omega) only [up2_ne, up2_eq, nw_ne, nw_m1, nw_m2, nw_i, nw_q, hl_nil, hl_cf, hl_ct, hz, z0, z1, z2, z3]; first | done | omega)) (by first | assumption | (simp (disch := omega) only [up2_ne, up2_eq, nw_ne, nw_m1, nw_m2, nw_i, nw_q, hl_nil, hl_cf, hl_ct, hz, z0, z1, z2, z3]; first | done | rfl | omega)) rfl rfl ?_
  refine wp_aload_n rfl rfl dX9_init_13 ?_
  refine wp_sipush (by decide) dX9_init_14 ?_
  refine wp_newarray (a := (tb + 1)) (code := 20) (b' := 324) dX9_init_17 rfl ac_int rfl (by decide) (by omega) (by first | assumption | (simp (disch := omega) only [up2_ne, up2_eq, nw_ne, nw_m1, nw_m2, nw_i, nw_q, hl_nil, hl_cf, hl_ct, hz, z0, z1, z2, z3]; first | done | rfl | omega)) (by decide) (Nat.le_of_ble_eq_true rfl) ?_
  refine wp_putfinal1 (z := 10) (kI := 2) fX9_15 rfl (fun _ q => by cases q; rfl) dX9_init_19 (by first | omega | (simp (disch := omega) only [up2_ne, up2_eq, nw_ne, nw_m1, nw_m2, nw_i, nw_q, hl_nil, hl_cf, hl_ct, hz, z0, z1, z2, z3]; first | done | omega)) (by first | assumption | (simp (disch := omega) only [up2_ne, up2_eq, nw_ne, nw_m1, nw_m2, nw_i, nw_q, hl_nil, hl_cf, hl_ct, hz, z0, z1, z2, z3]; first | done | rfl | omega)) rfl rfl ?_
  refine wp_aload_n rfl rfl dX9_init_22 ?_
  refine wp_sipush (by decide) dX9_init_23 ?_
  refine wp_newarray (a := (tb + 2)) (code := 20) (b' := 162) dX9_init_26 rfl ac_int rfl (by decide) (by omega) (by first | assumption | (simp (disch := omega) only [up2_ne, up2_eq, nw_ne, nw_m1, nw_m2, nw_i, nw_q, hl_nil, hl_cf, hl_ct, hz, z0, z1, z2, z3]; first | done | rfl | omega)) (by decide) (Nat.le_of_ble_eq_true rfl) ?_
  refine wp_putfinal1 (z := 10) (kI := 3) fX9_19 rfl (fun _ q => by cases q; rfl) dX9_init_28 (by first | omega | (simp (disch := omega) only [up2_ne, up2_eq, nw_ne, nw_m1, nw_m2, nw_i, nw_q, hl_nil, hl_cf, hl_ct, hz, z0, z1, z2, z3]; first | done | omega)) (by first | assumption | (simp (disch := omega) only [up2_ne, up2_eq, nw_ne, nw_m1, nw_m2, nw_i, nw_q, hl_nil, hl_cf, hl_ct, hz, z0, z1, z2, z3]; first | done | rfl | omega)) rfl rfl ?_
  refine wp_aload_n rfl rfl dX9_init_31 ?_
  refine wp_sipush (by decide) dX9_init_32 ?_
  refine wp_newarray (a := (tb + 3)) (code := 20) (b' := 0) dX9_init_35 rfl ac_int rfl (by decide) (by omega) (by first | assumption | (simp (disch := omega) only [up2_ne, up2_eq, nw_ne, nw_m1, nw_m2, nw_i, nw_q, hl_nil, hl_cf, hl_ct, hz, z0, z1, z2, z3]; first | done | rfl | omega)) (by decide) (Nat.le_of_ble_eq_true rfl) ?_
  refine wp_putfinal1 (z := 10) (kI := 4) fX9_22 rfl (fun _ q => by cases q; rfl) dX9_init_37 (by first | omega | (simp (disch := omega) only [up2_ne, up2_eq, nw_ne, nw_m1, nw_m2, nw_i, nw_q, hl_nil, hl_cf, hl_ct, hz, z0, z1, z2, z3]; first | done | omega)) (by first | assumption | (simp (disch := omega) only [up2_ne, up2_eq, nw_ne, nw_m1, nw_m2, nw_i, nw_q, hl_nil, hl_cf, hl_ct, hz, z0, z1, z2, z3]; first | done | rfl | omega)) rfl rfl ?_
  refine wp_vret dX9_init_40 rfl ?_
  exact hQ
theorem s_X10_init {u : gT} {h : mH} {d : Nat} {x : Int} (x0 : 0 ≤ x) (x1 : x < 6) (hz : h (40 + x) (-1) = 11) (z0 : h (50 + x) (-1) = 0) (z1 : h (60 + x) (-1) = 0) (z2 : h (70 + x) (-1) = 0) : Det (gX (gq u)) MX10_init (d + 1) 326 [(2, 40 + x)] h (9, 0) (hl (gX (gq u)) [(false, 40 + x, 2, 70 + x), (true, 70 + x, 20, 160), (false, 40 + x, 1, 60 + x), (true, 60 + x, 20, 3), (false, 40 + x, 0, 50 + x), (true, 50 + x, 20, 160)] h) := by
  intro Q hQ
  show WP (gX (gq u)) MX10_init (d + 1) 326 Q 0 [(2, 40 + x)] [] h
  refine wp_aload_n rfl rfl dX10_init_0 ?_
  refine wp_objInit wX10_3.1 wX10_3.2.1 wX10_3.2.2 dX10_init_1 (by first | omega | (simp (disch := omega) only [up2_ne, up2_eq, nw_ne, nw_m1, nw_m2, nw_i, nw_q, hl_nil, hl_cf, hl_ct, hz, z0, z1, z2]; first | done | omega)) (by decide) ?_
  refine wp_aload_n rfl rfl dX10_init_4 ?_
  refine wp_sipush (by decide) dX10_init_5 ?_
  refine wp_newarray (a := (50 + x)) (code := 20) (b' := 165) dX10_init_8 rfl ac_int rfl (by decide) (by omega) (by first | assumption | (simp (disch := omega) only [up2_ne, up2_eq, nw_ne, nw_m1, nw_m2, nw_i, nw_q, hl_nil, hl_cf, hl_ct, hz, z0, z1, z2]; first | done | rfl | omega)) (by decide) (Nat.le_of_ble_eq_true rfl) ?_
  refine wp_putfinal1 (z := 11) (kI := 0) fX10_9 rfl (fun _ q => by cases q; rfl) dX10_init_10 (by first | omega | (simp (disch := omega) only [up2_ne, up2_eq, nw_ne, nw_m1, nw_m2, nw_i, nw_q, hl_nil, hl_cf, hl_ct, hz, z0, z1, z2]; first | done | omega)) (by first | assumption | (simp (disch := omega) only [up2_ne, up2_eq, nw_ne, nw_m1, nw_m2, nw_i, nw_q, hl_nil, hl_cf, hl_ct, hz, z0, z1, z2]; first | done | rfl | omega)) rfl rfl ?_
  refine wp_aload_n rfl rfl dX10_init_13 ?_
  refine wp_iconst dX10_init_14 ?_
  refine wp_newarray (a := (60 + x)) (code := 20) (b' := 161) dX10_init_15 rfl ac_int rfl (by decide) (by omega) (by first | assumption | (simp (disch := omega) only [up2_ne, up2_eq, nw_ne, nw_m1, nw_m2, nw_i, nw_q, hl_nil, hl_cf, hl_ct, hz, z0, z1, z2]; first | done | rfl | omega)) (by decide) (Nat.le_of_ble_eq_true rfl) ?_
  refine wp_putfinal1 (z := 11) (kI := 1) fX10_15 rfl (fun _ q => by cases q; rfl) dX10_init_17 (by first | omega | (simp (disch := omega) only [up2_ne, up2_eq, nw_ne, nw_m1, nw_m2, nw_i, nw_q, hl_nil, hl_cf, hl_ct, hz, z0, z1, z2]; first | done | omega)) (by first | assumption | (simp (disch := omega) only [up2_ne, up2_eq, nw_ne, nw_m1, nw_m2, nw_i, nw_q, hl_nil, hl_cf, hl_ct, hz, z0, z1, z2]; first | done | rfl | omega)) rfl rfl ?_
  refine wp_aload_n rfl rfl dX10_init_20 ?_
  refine wp_sipush (by decide) dX10_init_21 ?_
  refine wp_newarray (a := (70 + x)) (code := 20) (b' := 0) dX10_init_24 rfl ac_int rfl (by decide) (by omega) (by first | assumption | (simp (disch := omega) only [up2_ne, up2_eq, nw_ne, nw_m1, nw_m2, nw_i, nw_q, hl_nil, hl_cf, hl_ct, hz, z0, z1, z2]; first | done | rfl | omega)) (by decide) (Nat.le_of_ble_eq_true rfl) ?_
  refine wp_putfinal1 (z := 11) (kI := 2) fX10_18 rfl (fun _ q => by cases q; rfl) dX10_init_26 (by first | omega | (simp (disch := omega) only [up2_ne, up2_eq, nw_ne, nw_m1, nw_m2, nw_i, nw_q, hl_nil, hl_cf, hl_ct, hz, z0, z1, z2]; first | done | omega)) (by first | assumption | (simp (disch := omega) only [up2_ne, up2_eq, nw_ne, nw_m1, nw_m2, nw_i, nw_q, hl_nil, hl_cf, hl_ct, hz, z0, z1, z2]; first | done | rfl | omega)) rfl rfl ?_
  refine wp_vret dX10_init_29 rfl ?_
  exact hQ
theorem x9add {u : gT} {h : mH} {d b : Nat} {tc tb v s : Int} (hcb : tcb tc tb) (T : Tp h tc tb) (hs : h tc 1 = s) (s0 : 0 ≤ s) (s1 : s < 160) : Det (gX (gq u)) MX9_add d b [(2, tc), (0, v)] h (9, 0) (up2 (up2 h tb s (v.bmod 256)) tc 1 (s + 1)) := by
  intro Q hQ
  show WP (gX (gq u)) MX9_add d b Q 0 [(2, tc), (0, v)] [] h
  refine wp_aload_n rfl rfl dX9_add_0 ?_
  refine wp_getfield1 (z := 10) (kI := 1) fX9_25 dX9_add_1 (by first | omega | (simp (disch := omega) only [up2_ne, up2_eq, tpq_a T, tpq_b T, tpq_c T, tpq_d T, tpq_e T, tpq_f T, tpq_g T, tpq_h T, tpq_i T, tpq_j T, tpq_k T, tpq_l T, tpq_m T, hs]; first | done | omega)) (by first | assumption | (simp (disch := omega) only [up2_ne, up2_eq, tpq_a T, tpq_b T, tpq_c T, tpq_d T, tpq_e T, tpq_f T, tpq_g T, tpq_h T, tpq_i T, tpq_j T, tpq_k T, tpq_l T, tpq_m T, hs]; first | done | rfl | omega)) rfl rfl ?_
  try simp (disch := omega) only [up2_ne, up2_eq, tpq_a T, tpq_b T, tpq_c T, tpq_d T, tpq_e T, tpq_f T, tpq_g T, tpq_h T, tpq_i T, tpq_j T, tpq_k T, tpq_l T, tpq_m T, hs]
  refine wp_aload_n rfl rfl dX9_add_4 ?_
  refine wp_getfield1 (z := 10) (kI := 0) fX9_9 dX9_add_5 (by first | omega | (simp (disch := omega) only [up2_ne, up2_eq, tpq_a T, tpq_b T, tpq_c T, tpq_d T, tpq_e T, tpq_f T, tpq_g T, tpq_h T, tpq_i T, tpq_j T, tpq_k T, tpq_l T, tpq_m T, hs]; first | done | omega)) (by first | assumption | (simp (disch := omega) only [up2_ne, up2_eq, tpq_a T, tpq_b T, tpq_c T, tpq_d T, tpq_e T, tpq_f T, tpq_g T, tpq_h T, tpq_i T, tpq_j T, tpq_k T, tpq_l T, tpq_m T, hs]; first | done | rfl | omega)) rfl rfl ?_
  try simp (disch := omega) only [up2_ne, up2_eq, tpq_a T, tpq_b T, tpq_c T, tpq_d T, tpq_e T, tpq_f T, tpq_g T, tpq_h T, tpq_i T, tpq_j T, tpq_k T, tpq_l T, tpq_m T, hs]
  refine wp_alen1 dX9_add_8 (by first | omega | (simp (disch := omega) only [up2_ne, up2_eq, tpq_a T, tpq_b T, tpq_c T, tpq_d T, tpq_e T, tpq_f T, tpq_g T, tpq_h T, tpq_i T, tpq_j T, tpq_k T, tpq_l T, tpq_m T, hs]; first | done | omega)) (by first | omega | (simp (disch := omega) only [up2_ne, up2_eq, tpq_a T, tpq_b T, tpq_c T, tpq_d T, tpq_e T, tpq_f T, tpq_g T, tpq_h T, tpq_i T, tpq_j T, tpq_k T, tpq_l T, tpq_m T, hs]; first | done | omega)) ?_
  try simp (disch := omega) only [up2_ne, up2_eq, tpq_a T, tpq_b T, tpq_c T, tpq_d T, tpq_e T, tpq_f T, tpq_g T, tpq_h T, tpq_i T, tpq_j T, tpq_k T, tpq_l T, tpq_m T, hs]
  refine wp_icmp_ge (tgt := 32) (by first | assumption | exact bI_in _ | exact ⟨by omega, by omega⟩ | exact iAnd_in | exact iOr_in | exact iShr_in | exact iShl_in | exact iXor_in | exact hxs _) (by first | assumption | exact bI_in _ | exact ⟨by omega, by omega⟩ | exact iAnd_in | exact iOr_in | exact iShr_in | exact iShl_in | exact iXor_in | exact hxs _) dX9_add_9 (by decide) (fun c1 => ?_) (fun c1 => ?_)
  · refine wp_vret dX9_add_32 rfl ?_
    first | exact hQ | (exfalso; omega)
  · refine wp_aload_n rfl rfl dX9_add_12 ?_
    refine wp_getfield1 (z := 10) (kI := 0) fX9_9 dX9_add_13 (by first | omega | (simp (disch := omega) only [up2_ne, up2_eq, tpq_a T, tpq_b T, tpq_c T, tpq_d T, tpq_e T, tpq_f T, tpq_g T, tpq_h T, tpq_i T, tpq_j T, tpq_k T, tpq_l T, tpq_m T, hs]; first | done | omega)) (by first | assumption | (simp (disch := omega) only [up2_ne, up2_eq, tpq_a T, tpq_b T, tpq_c T, tpq_d T, tpq_e T, tpq_f T, tpq_g T, tpq_h T, tpq_i T, tpq_j T, tpq_k T, tpq_l T, tpq_m T, hs]; first | done | rfl | omega)) rfl rfl ?_
    try simp (disch := omega) only [up2_ne, up2_eq, tpq_a T, tpq_b T, tpq_c T, tpq_d T, tpq_e T, tpq_f T, tpq_g T, tpq_h T, tpq_i T, tpq_j T, tpq_k T, tpq_l T, tpq_m T, hs]
    refine wp_aload_n rfl rfl dX9_add_16 ?_
    refine wp_getfield1 (z := 10) (kI := 1) fX9_25 dX9_add_17 (by first | omega | (simp (disch := omega) only [up2_ne, up2_eq, tpq_a T, tpq_b T, tpq_c T, tpq_d T, tpq_e T, tpq_f T, tpq_g T, tpq_h T, tpq_i T, tpq_j T, tpq_k T, tpq_l T, tpq_m T, hs]; first | done | omega)) (by first | assumption | (simp (disch := omega) only [up2_ne, up2_eq, tpq_a T, tpq_b T, tpq_c T, tpq_d T, tpq_e T, tpq_f T, tpq_g T, tpq_h T, tpq_i T, tpq_j T, tpq_k T, tpq_l T, tpq_m T, hs]; first | done | rfl | omega)) rfl rfl ?_
    try simp (disch := omega) only [up2_ne, up2_eq, tpq_a T, tpq_b T, tpq_c T, tpq_d T, tpq_e T, tpq_f T, tpq_g T, tpq_h T, tpq_i T, tpq_j T, tpq_k T, tpq_l T, tpq_m T, hs]
    refine wp_iload_n rfl rfl dX9_add_20 ?_
    refine wp_bastore1 dX9_add_21 (by first | omega | (simp (disch := omega) only [up2_ne, up2_eq, tpq_a T, tpq_b T, tpq_c T, tpq_d T, tpq_e T, tpq_f T, tpq_g T, tpq_h T, tpq_i T, tpq_j T, tpq_k T, tpq_l T, tpq_m T, hs]; first | done | omega)) (by first | assumption | (simp (disch := omega) only [up2_ne, up2_eq, tpq_a T, tpq_b T, tpq_c T, tpq_d T, tpq_e T, tpq_f T, tpq_g T, tpq_h T, tpq_i T, tpq_j T, tpq_k T, tpq_l T, tpq_m T, hs]; first | done | rfl | omega)) (by first | omega | (simp (disch := omega) only [up2_ne, up2_eq, tpq_a T, tpq_b T, tpq_c T, tpq_d T, tpq_e T, tpq_f T, tpq_g T, tpq_h T, tpq_i T, tpq_j T, tpq_k T, tpq_l T, tpq_m T, hs]; first | done | omega)) (by first | omega | (simp (disch := omega) only [up2_ne, up2_eq, tpq_a T, tpq_b T, tpq_c T, tpq_d T, tpq_e T, tpq_f T, tpq_g T, tpq_h T, tpq_i T, tpq_j T, tpq_k T, tpq_l T, tpq_m T, hs]; first | done | omega)) ?_
    refine wp_aload_n rfl rfl dX9_add_22 ?_
    refine wp_dup (by decide) dX9_add_23 ?_
    refine wp_getfield1 (z := 10) (kI := 1) fX9_25 dX9_add_24 (by first | omega | (simp (disch := omega) only [up2_ne, up2_eq, tpq_a T, tpq_b T, tpq_c T, tpq_d T, tpq_e T, tpq_f T, tpq_g T, tpq_h T, tpq_i T, tpq_j T, tpq_k T, tpq_l T, tpq_m T, hs]; first | done | omega)) (by first | assumption | (simp (disch := omega) only [up2_ne, up2_eq, tpq_a T, tpq_b T, tpq_c T, tpq_d T, tpq_e T, tpq_f T, tpq_g T, tpq_h T, tpq_i T, tpq_j T, tpq_k T, tpq_l T, tpq_m T, hs]; first | done | rfl | omega)) rfl rfl ?_
    try simp (disch := omega) only [up2_ne, up2_eq, tpq_a T, tpq_b T, tpq_c T, tpq_d T, tpq_e T, tpq_f T, tpq_g T, tpq_h T, tpq_i T, tpq_j T, tpq_k T, tpq_l T, tpq_m T, hs]
    refine wp_iconst dX9_add_27 ?_
    refine wp_iadd dX9_add_28 ?_
    refine wp_putfield1 (z := 10) (kI := 1) fX9_25 dX9_add_29 (by first | omega | (simp (disch := omega) only [up2_ne, up2_eq, tpq_a T, tpq_b T, tpq_c T, tpq_d T, tpq_e T, tpq_f T, tpq_g T, tpq_h T, tpq_i T, tpq_j T, tpq_k T, tpq_l T, tpq_m T, hs]; first | done | omega)) (by first | assumption | (simp (disch := omega) only [up2_ne, up2_eq, tpq_a T, tpq_b T, tpq_c T, tpq_d T, tpq_e T, tpq_f T, tpq_g T, tpq_h T, tpq_i T, tpq_j T, tpq_k T, tpq_l T, tpq_m T, hs]; first | done | rfl | omega)) rfl rfl ?_
    refine wp_vret dX9_add_32 rfl ?_
    first | exact hQ | (exfalso; omega)
def fS0 : Int → Int := fun k => strF strL0 k.toNat
theorem fS0_b : ∀ k : Nat, k < 47 → ((strF strL0 k).bmod 256).bmod 256 = strF strL0 k ∧ 0 ≤ strF strL0 k ∧ strF strL0 k ≤ 127 := by decide +kernel
theorem Tp_w {h : mH} {tc tb n s : Int} {f : Int → Int} (hcb : tcb tc tb) (T : Tp h tc tb) : Tp (up2 (hfs h tb 0 n f) tc 1 s) tc tb := by
  refine ⟨?_, ?_, ?_, ?_, ?_, ?_, ?_, ?_, ?_, ?_, ?_, ?_, ?_⟩ <;> rw [up2_ne (by omega), hfs_ne (by omega)]
  · exact tpq_a T
  · exact tpq_b T
  · exact tpq_c T
  · exact tpq_d T
  · exact tpq_e T
  · exact tpq_f T
  · exact tpq_g T
  · exact tpq_h T
  · exact tpq_i T
  · exact tpq_j T
  · exact tpq_k T
  · exact tpq_l T
  · exact tpq_m T
theorem s_X9_write {u : gT} {h : mH} {d b : Nat} {tc tb : Int} (hcb : tcb tc tb) (T : Tp h tc tb) (hfm : u.2.2.2.2.2 ≤ -10 ∨ u.2.2.2.2.2 = -1) (hs : h tc 1 = 0) : Det (gX (gq u)) MX9_write (d + 4) b [(2, tc), (2, -20)] h (9, 0) (up2 (hfs h tb 0 47 fS0) tc 1 47) := by
  intro Q hQ
  have loop : ∀ i : Nat, i ≤ 47 → WP (gX (gq u)) MX9_write (d + 4) b Q 2 [(2, tc), (2, -20), (0, (i : Int))] [] (up2 (hfs h tb 0 (i : Int) fS0) tc 1 (i : Int)) := by
    refine loop_w 47 (fun i hi ih => ?_)
    have TG := Tp_w (n := (i : Int)) (s := (i : Int)) (f := fS0) hcb T
    have hcc := fun z : i < 47 => fS0_b i z
    refine wp_iload_n rfl rfl dX9_write_2 ?_
    refine wp_aload_n rfl rfl dX9_write_3 ?_
    refine wp_cR0 okJ0_length_8abf5 rfl (show (-20 : Int) ∈ ([-20, -21, -22] : List Int) by decide) wX9_29 dX9_write_4 rfl (Nat.le_of_ble_eq_true rfl) (Nat.le_of_ble_eq_true rfl) (by first | assumption | decide) (s_J0_length_8abf5 isStr0) (Nat.zero_le _) ?_
    try simp (disch := omega) only [up2_ne, up2_eq, up2_eq, hfs_ne, Int.toNat_natCast, tpq_a T, tpq_b T, tpq_c T, tpq_d T, tpq_e T, tpq_f T, tpq_g T, tpq_h T, tpq_i T, tpq_j T, tpq_k T, tpq_l T, tpq_m T]
    refine wp_icmp_ge (tgt := 26) (by first | assumption | exact bI_in _ | exact ⟨by omega, by omega⟩ | exact iAnd_in | exact iOr_in | exact iShr_in | exact iShl_in | exact iXor_in | exact hxs _) (by first | assumption | exact bI_in _ | exact ⟨by omega, by omega⟩ | exact iAnd_in | exact iOr_in | exact iShr_in | exact iShl_in | exact iXor_in | exact hxs _) dX9_write_7 (by decide) (fun c1 => ?_) (fun c1 => ?_)
    · refine wp_vret dX9_write_26 rfl ?_
      have ei : i = 47 := by omega
      subst ei
      exact hQ
    · refine wp_aload_n rfl rfl dX9_write_10 ?_
      refine wp_aload_n rfl rfl dX9_write_11 ?_
      refine wp_iload_n rfl rfl dX9_write_12 ?_
      refine wp_cR1 okJ0_charAt_5068e rfl (show (-20 : Int) ∈ ([-20, -21, -22] : List Int) by decide) wX9_35 dX9_write_13 rfl (Nat.le_of_ble_eq_true rfl) (Nat.le_of_ble_eq_true rfl) (by first | assumption | decide) (s_J0_charAt_5068e isStr0 hfm (by omega) (by omega)) (Nat.zero_le _) ?_
      try simp (disch := omega) only [up2_ne, up2_eq, up2_eq, hfs_ne, Int.toNat_natCast, tpq_a T, tpq_b T, tpq_c T, tpq_d T, tpq_e T, tpq_f T, tpq_g T, tpq_h T, tpq_i T, tpq_j T, tpq_k T, tpq_l T, tpq_m T]
      have hcc := hcc (by omega)
      refine wp_i2b dX9_write_16 ?_
      refine wp_cV1v (ci := 9) okX9_add rfl rfl wX9_39 dX9_write_17 (Nat.le_of_ble_eq_true rfl) (Nat.le_of_ble_eq_true rfl) (by first | omega | (simp (disch := omega) only [up2_ne, up2_eq, up2_eq, hfs_ne, Int.toNat_natCast, tpq_a T, tpq_b T, tpq_c T, tpq_d T, tpq_e T, tpq_f T, tpq_g T, tpq_h T, tpq_i T, tpq_j T, tpq_k T, tpq_l T, tpq_m T]; first | done | omega)) (by first | assumption | (simp (disch := omega) only [up2_ne, up2_eq, up2_eq, hfs_ne, Int.toNat_natCast, tpq_a T, tpq_b T, tpq_c T, tpq_d T, tpq_e T, tpq_f T, tpq_g T, tpq_h T, tpq_i T, tpq_j T, tpq_k T, tpq_l T, tpq_m T]; first | done | rfl | omega)) (x9add hcb TG up2_eq (by omega) (by omega)) (Nat.zero_le _) ?_
      try simp (disch := omega) only [up2_ne, up2_eq, up2_eq, hfs_ne, Int.toNat_natCast, tpq_a T, tpq_b T, tpq_c T, tpq_d T, tpq_e T, tpq_f T, tpq_g T, tpq_h T, tpq_i T, tpq_j T, tpq_k T, tpq_l T, tpq_m T]
      refine wp_iinc rfl rfl dX9_write_20 rfl rfl ?_
      try simp only [List.set_cons_zero, List.set_cons_succ]
      refine wp_goto (tgt := 2) dX9_write_23 (by decide) ?_
      rw [up_feed (by omega)]
      have es := hfs_s (h := h) (a := tb) (lo := 0) (n := (i : Int)) (f := fS0) (by omega)
      rw [Int.zero_add] at es
      have ev : ((strF strL0 i).bmod 256).bmod 256 = fS0 (i : Int) := by
        rw [hcc.1]
        unfold fS0
        rw [Int.toNat_natCast]
      rw [ev, es]
      have z := ih (by omega)
      rw [show ((i + 1 : Nat) : Int) = (i : Int) + 1 by omega] at z
      exact z
  show WP (gX (gq u)) MX9_write (d + 4) b Q 0 [(2, tc), (2, -20), (9, 0)] [] h
  refine wp_iconst dX9_write_0 ?_
  refine wp_istore_n rfl dX9_write_1 rfl (Nat.le_of_ble_eq_true rfl) rfl ?_
  try simp only [List.set_cons_zero, List.set_cons_succ]
  have z := loop 0 (by omega)
  rw [show ((0 : Nat) : Int) = 0 from rfl, hfs_0, up2_same hs] at z
  exact z
def wFd (f : Int → Int) (b : Int) (n : Nat) : Nat → Int
  | 0 => 23
  | k + 1 => if SZL.getD (12 - k) 0 = n ∧ ∀ j : Nat, j < n → f (b + j) = LETL.getD (BGL.getD (12 - k) 0 + j) 0 then ((12 - k : Nat) : Int) else wFd f b n k
theorem wFd_eq {f : Int → Int} {b : Int} {n : Nat} : ∀ k : Nat, wF f b n k = wFd f b n k
  | 0 => rfl
  | k + 1 => by
    rw [wFd]
    by_cases c : wMt f b n (12 - k)
    · have c' : SZL.getD (12 - k) 0 = n ∧ ∀ j : Nat, j < n → f (b + j) = LETL.getD (BGL.getD (12 - k) 0 + j) 0 := c
      rw [wF_t c, if_pos c']
    · have c' : ¬ (SZL.getD (12 - k) 0 = n ∧ ∀ j : Nat, j < n → f (b + j) = LETL.getD (BGL.getD (12 - k) 0 + j) 0) := c
      rw [wF_f c, if_neg c']
      exact wFd_eq k
def tKd (f : Int → Int) (p : Int) : Int := if f (tB f p) < 0 then 22 else if isL (f (tB f p)) = true then wFd f (tB f p) (tE f p - tB f p).toNat 13 else if isD (f (tB f p)) = true then (if 4 < tE f p - tB f p then 23 else 13) else sgT (f (tB f p))
theorem tKd_eq {f : Int → Int} {p : Int} : tK f p = tKd f p := by
  unfold tK tKd
  rw [wFd_eq]
def fS : Int → Int := fun k => if k < 47 then strF strL0 k.toNat else -1
def osS : List (List Int) := [[-2, 5000, -21], [49, -5, -21], [-7]]
theorem fS_LF : LF fS 47 := by
  refine ⟨by decide, by decide, fun k k0 k1 => ?_, fun k k1 => if_neg (by omega)⟩
  have := fS0_b k.toNat (by omega)
  unfold fS
  rw [if_pos k1]
  omega
theorem tk_S : tk fS = fun i => tKd fS (tP fS i) := funext (fun i => tKd_eq)
set_option maxRecDepth 100000 in
theorem ptx_S : ptx (tk fS) (Vf fS) = .inr osS := by
  rw [tk_S]
  show ptx (fun i => tKd fS (tP fS i)) (fun i => tN fS (tP fS i)) = .inr osS
  decide +kernel
