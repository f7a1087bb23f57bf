/-! ===== places: gains ===== -/
set_option maxHeartbeats 2000000 in
theorem gains_row {u : gT} {m : mH} {D : Nat} {dl : Int} (R0 : 0 ≤ m 200 6 ∧ m 200 6 ≤ 8) (A0 : 0 ≤ m 200 10 ∧ m 200 10 ≤ 14) (d0 : 0 ≤ dl) (hr : hSpec u m D dl) : gSpec u m (D + 1) dl := by
  intro b g x G x0 x1 hd
  have hN8 := snN_8 G.2.2.2.2.2.1 G.2.2.2.2.2.2.1
  refine Rlt.of ?_
  have loop : ∀ n : Nat, n ≤ (m 200 6).toNat → ∀ g1, pG m g1 → Ks g g1 → snM g g1 → (∃ X : Int → Bool, clo m (MH g) g g1 X) → (∀ s : Int, 0 ≤ s → s < (n : Int) → ¬ kb m s x → sn g1 s ∨ MH g x s = 1) → WP (gX (gq u)) MX4_gains (D + 1) b (gPost m g x) 10 [(2, 12), (0, x), (0, dl), (0, (n : Int))] [] g1 := by
    refine loop_w (m 200 6).toNat (fun n hn2 ih2 => ?_)
    intro g1 G1 K1 M1 hX hC
    have gS := G1.1
    have g5 := G1.2.1
    have hM1 := MH_Ks K1
    have hx1 := G1.2.2.2.2.1 x x0 x1
    have hs1 := G1.2.2.2.2.2
    have han := and_not hx1.1.1 hx1.1.2.1 hx1.2.1 hx1.2.2.1
    have han2 := and_not han.1 han.2.1 hs1.1 hs1.2.1
    have hle := snN_le M1 G.2.2.2.2.2.1 G.2.2.2.2.2.2.1 hs1.1 hs1.2.1
    have hcd : (n : Int) < m 200 6 → bt (iAnd (iAnd (g1 28 x) (iXor (g1 29 x) (-1))) (iXor (g1 12 7) (-1))) n = if (bt (g1 28 x) n = 1 ∧ bt (g1 29 x) n = 0) ∧ bt (g1 12 7) n = 0 then 1 else 0 := fun z => by
      rw [han2.2.2 n (by omega) (by omega), han.2.2 n (by omega) (by omega)]
      by_cases c : bt (g1 28 x) n = 1 ∧ bt (g1 29 x) n = 0
      · rw [if_pos c]
        by_cases c2 : bt (g1 12 7) n = 0
        · rw [if_pos ⟨rfl, c2⟩, if_pos ⟨c, c2⟩]
        · rw [if_neg (fun y => c2 y.2), if_neg (fun y => c2 y.2)]
      · rw [if_neg c, if_neg (fun y => absurd y.1 (by decide)), if_neg (fun y => c y.1)]
    refine wp_iload_n rfl rfl dX4_gains_10 ?_
    refine wp_aload_n rfl rfl dX4_gains_11 ?_
    refine wp_getfield1 (z := 5) (kI := 5) fX4_27 dX4_gains_12 (by first | omega | (simp (disch := omega) only [up2_ne, up2_eq, g5, st_12_m1 gS, st_12_3 gS, st_12_4 gS, st_28_m2 gS, st_28_m1 gS, st_29_m2 gS, st_29_m1 gS]; first | done | omega)) (by first | assumption | (simp (disch := omega) only [up2_ne, up2_eq, g5, st_12_m1 gS, st_12_3 gS, st_12_4 gS, st_28_m2 gS, st_28_m1 gS, st_29_m2 gS, st_29_m1 gS]; first | done | rfl | omega)) rfl rfl ?_
    try simp (disch := omega) only [up2_ne, up2_eq, g5, st_12_m1 gS, st_12_3 gS, st_12_4 gS, st_28_m2 gS, st_28_m1 gS, st_29_m2 gS, st_29_m1 gS]
    refine wp_icmp_ge (tgt := 88) (by first | assumption | exact bI_in _ | exact ⟨by omega, by omega⟩ | exact iAnd_in | exact iOr_in | exact iShr_in | exact iShl_in | exact iXor_in | exact hxs _) (by first | assumption | exact bI_in _ | exact ⟨by omega, by omega⟩ | exact iAnd_in | exact iOr_in | exact iShr_in | exact iShl_in | exact iXor_in | exact hxs _) dX4_gains_15 (by decide) (fun c1 => ?_) (fun c1 => ?_)
    · refine wp_iconst dX4_gains_88 ?_
      refine wp_zret (by first | exact Or.inl rfl | exact Or.inr rfl | omega) dX4_gains_89 rfl ?_
      first
        | (have e29 : ∀ a : Int, up2 h1 26 n (h1 26 n - 1) 29 a = h1 29 a := fun a => up2_ne (by omega)
           have eM0 : MH (up2 h1 26 n (h1 26 n - 1)) = MH h1 := by
             funext a r
             unfold MH
             rw [e29]
           have hb := H1.2.2.2.2.1 x x0 x1
           rw [e29] at hb
           have b1 := MH_01 H1 x0 x1 (r := n) (by omega) (by omega)
           rw [eM0] at b1
           have b2 := cp x x0 x1
           rw [hM2] at b2
           have b3 : MH g x n = 0 := by
             rw [← hM1]
             exact hcp.1.2
           have b4 : MH h1 x n = 0 := by omega
           have o1 := ((hx1.1.2.2 n (by omega) (by omega)).mp hcp.1.1).2
           have ho := or_bit (x := h1 29 x) (r := (n : Int)) hb.2.1 hb.2.2.1 (by omega) (by omega)
           have hx := pG_upd (h1 := up2 h1 26 n (h1 26 n - 1)) (h2 := up2 h1 29 x (iOr (h1 29 x) (iShl 1 n))) (a0 := x) (p := (n : Int)) (w := 1) (by omega) H1 (hS1.upA (by decide +kernel) (by omega)) x0 x1 (by omega) (by omega) (fun y k q1 q2 => by rw [up2_ne (by omega), up2_ne (by omega)]) (by rw [up2_eq]; exact ho.1) (by rw [up2_eq]; exact ho.2.1) (fun r r0 r1 => by rw [up2_eq, ho.2.2 r r0 r1, e29]) (Or.inr ⟨rfl, o1⟩) (by rw [up2_ne (by omega), up2_eq, eM0, b4]; omega) (by rw [up2_ne (by omega)]; exact hl1)
           rw [eM0] at hx
           refine ⟨hx.1, fun y k q1 q2 => ?_, fun s s0 s1 z => ?_, Or.inl ⟨rfl, fun a a0 a1 => ?_, fun a s a0 a1 s0 s1 z => ?_⟩⟩
           · rw [up2_ne (by omega), KP y k q1 q2, up2_ne (by omega)]
             exact K1 y k q1
           · show bt (up2 h1 29 x (iOr (h1 29 x) (iShl 1 n)) 12 7) s = 1
             rw [up2_ne (by omega)]
             exact M3 s s0 s1 (M2 s s0 s1 (M1 s s0 s1 z))
           · rw [hx.2.1 a, dg a a0 a1, hM2, b4]
             unfold inc
             split <;> omega
           · have zn : s ≠ n := fun q => by
               have z2 : bt (g1 12 7) s = 1 := M1 s s0 s1 z
               rw [q] at z2
               omega
             rw [hx.2.2 a s s0 s1 (fun q => zn q.2), cl a s a0 a1 s0 s1 (M2 s s0 s1 (M1 s s0 s1 z)) zn, hM2])
        | (obtain ⟨X, c1⟩ := hX
           refine ⟨G1, fun y k q1 q2 => K1 y k q1, M1, Or.inr ⟨rfl, K1, fun y => X y || decide (y = x), by show (X x || decide (x = x)) = true; rw [decide_eq_true rfl]; exact Bool.or_true _, fun y r y0 y1 r0 r1 q o => ?_, fun r r0 r1 q1 q2 => ?_⟩⟩
           · rcases Bool.or_eq_true _ _ |>.mp q with z | z
             · exact c1.1 y r y0 y1 r0 r1 z o
             · have z2 := of_decide_eq_true z
               rw [z2] at o ⊢
               exact hC r r0 (by omega) o
           · have := c1.2 r r0 r1 q1 q2
             exact ⟨this.1, fun y y0 y1 z => by show (X y || decide (y = x)) = true; rw [this.2 y y0 y1 z]; rfl⟩)
        | (exfalso; omega)
    · refine wp_aload_n rfl rfl dX4_gains_18 ?_
      refine wp_getfield1 (z := 5) (kI := 3) fX4_21 dX4_gains_19 (by first | omega | (simp (disch := omega) only [up2_ne, up2_eq, g5, st_12_m1 gS, st_12_3 gS, st_12_4 gS, st_28_m2 gS, st_28_m1 gS, st_29_m2 gS, st_29_m1 gS]; first | done | omega)) (by first | assumption | (simp (disch := omega) only [up2_ne, up2_eq, g5, st_12_m1 gS, st_12_3 gS, st_12_4 gS, st_28_m2 gS, st_28_m1 gS, st_29_m2 gS, st_29_m1 gS]; first | done | rfl | omega)) rfl rfl ?_
      try simp (disch := omega) only [up2_ne, up2_eq, g5, st_12_m1 gS, st_12_3 gS, st_12_4 gS, st_28_m2 gS, st_28_m1 gS, st_29_m2 gS, st_29_m1 gS]
      refine wp_iload_n rfl rfl dX4_gains_22 ?_
      refine wp_iaload1 dX4_gains_23 (by first | omega | (simp (disch := omega) only [up2_ne, up2_eq, g5, st_12_m1 gS, st_12_3 gS, st_12_4 gS, st_28_m2 gS, st_28_m1 gS, st_29_m2 gS, st_29_m1 gS]; first | done | omega)) (by first | assumption | (simp (disch := omega) only [up2_ne, up2_eq, g5, st_12_m1 gS, st_12_3 gS, st_12_4 gS, st_28_m2 gS, st_28_m1 gS, st_29_m2 gS, st_29_m1 gS]; first | done | rfl | omega)) (by first | omega | (simp (disch := omega) only [up2_ne, up2_eq, g5, st_12_m1 gS, st_12_3 gS, st_12_4 gS, st_28_m2 gS, st_28_m1 gS, st_29_m2 gS, st_29_m1 gS]; first | done | omega)) (by first | omega | (simp (disch := omega) only [up2_ne, up2_eq, g5, st_12_m1 gS, st_12_3 gS, st_12_4 gS, st_28_m2 gS, st_28_m1 gS, st_29_m2 gS, st_29_m1 gS]; first | done | omega)) ?_
      try simp (disch := omega) only [up2_ne, up2_eq, g5, st_12_m1 gS, st_12_3 gS, st_12_4 gS, st_28_m2 gS, st_28_m1 gS, st_29_m2 gS, st_29_m1 gS]
      refine wp_aload_n rfl rfl dX4_gains_24 ?_
      refine wp_getfield1 (z := 5) (kI := 4) fX4_24 dX4_gains_25 (by first | omega | (simp (disch := omega) only [up2_ne, up2_eq, g5, st_12_m1 gS, st_12_3 gS, st_12_4 gS, st_28_m2 gS, st_28_m1 gS, st_29_m2 gS, st_29_m1 gS]; first | done | omega)) (by first | assumption | (simp (disch := omega) only [up2_ne, up2_eq, g5, st_12_m1 gS, st_12_3 gS, st_12_4 gS, st_28_m2 gS, st_28_m1 gS, st_29_m2 gS, st_29_m1 gS]; first | done | rfl | omega)) rfl rfl ?_
      try simp (disch := omega) only [up2_ne, up2_eq, g5, st_12_m1 gS, st_12_3 gS, st_12_4 gS, st_28_m2 gS, st_28_m1 gS, st_29_m2 gS, st_29_m1 gS]
      refine wp_iload_n rfl rfl dX4_gains_28 ?_
      refine wp_iaload1 dX4_gains_29 (by first | omega | (simp (disch := omega) only [up2_ne, up2_eq, g5, st_12_m1 gS, st_12_3 gS, st_12_4 gS, st_28_m2 gS, st_28_m1 gS, st_29_m2 gS, st_29_m1 gS]; first | done | omega)) (by first | assumption | (simp (disch := omega) only [up2_ne, up2_eq, g5, st_12_m1 gS, st_12_3 gS, st_12_4 gS, st_28_m2 gS, st_28_m1 gS, st_29_m2 gS, st_29_m1 gS]; first | done | rfl | omega)) (by first | omega | (simp (disch := omega) only [up2_ne, up2_eq, g5, st_12_m1 gS, st_12_3 gS, st_12_4 gS, st_28_m2 gS, st_28_m1 gS, st_29_m2 gS, st_29_m1 gS]; first | done | omega)) (by first | omega | (simp (disch := omega) only [up2_ne, up2_eq, g5, st_12_m1 gS, st_12_3 gS, st_12_4 gS, st_28_m2 gS, st_28_m1 gS, st_29_m2 gS, st_29_m1 gS]; first | done | omega)) ?_
      try simp (disch := omega) only [up2_ne, up2_eq, g5, st_12_m1 gS, st_12_3 gS, st_12_4 gS, st_28_m2 gS, st_28_m1 gS, st_29_m2 gS, st_29_m1 gS]
      refine wp_iconst dX4_gains_30 ?_
      refine wp_ixor dX4_gains_31 ?_
      refine wp_iand dX4_gains_32 ?_
      refine wp_aload_n rfl rfl dX4_gains_33 ?_
      refine wp_getfield1 (z := 5) (kI := 7) fX4_34 dX4_gains_34 (by first | omega | (simp (disch := omega) only [up2_ne, up2_eq, g5, st_12_m1 gS, st_12_3 gS, st_12_4 gS, st_28_m2 gS, st_28_m1 gS, st_29_m2 gS, st_29_m1 gS]; first | done | omega)) (by first | assumption | (simp (disch := omega) only [up2_ne, up2_eq, g5, st_12_m1 gS, st_12_3 gS, st_12_4 gS, st_28_m2 gS, st_28_m1 gS, st_29_m2 gS, st_29_m1 gS]; first | done | rfl | omega)) rfl rfl ?_
      try simp (disch := omega) only [up2_ne, up2_eq, g5, st_12_m1 gS, st_12_3 gS, st_12_4 gS, st_28_m2 gS, st_28_m1 gS, st_29_m2 gS, st_29_m1 gS]
      refine wp_iconst dX4_gains_37 ?_
      refine wp_ixor dX4_gains_38 ?_
      refine wp_iand dX4_gains_39 ?_
      refine wp_iload_n rfl rfl dX4_gains_40 ?_
      refine wp_cSN2 okX11_hasBit wX4_41 dX4_gains_41 rfl (Nat.le_of_ble_eq_true rfl) (Nat.le_of_ble_eq_true rfl) (s_X11_hasBit) (Nat.zero_le _) ?_
      try simp (disch := omega) only [up2_ne, up2_eq, g5, st_12_m1 gS, st_12_3 gS, st_12_4 gS, st_28_m2 gS, st_28_m1 gS, st_29_m2 gS, st_29_m1 gS]
      refine wp_ifB_eq (tgt := 82) dX4_gains_44 (by decide) (fun c2 => ?_) (fun c2 => ?_)
      · refine wp_iinc rfl rfl dX4_gains_82 rfl rfl ?_
        try simp only [List.set_cons_zero, List.set_cons_succ]
        refine wp_goto (tgt := 10) dX4_gains_85 (by decide) ?_
        first
          | (have hcn : ¬ ((bt (g1 28 x) n = 1 ∧ bt (g1 29 x) n = 0) ∧ bt (g1 12 7) n = 0) := fun y => by
               have hcd := hcd (by omega)
               rw [if_pos y] at hcd
               omega
             refine ih2 (by omega) g1 G1 K1 M1 hX (fun s s0 s1 o => ?_)
             by_cases cs : s = n
             · subst cs
               have b1 := bt_01 (x := g1 29 x) (i := (n : Int)) hx1.2.1 (by have := hx1.2.2.1; omega) (by omega) (by omega)
               have b2 := bt_01 (x := g1 12 7) (i := (n : Int)) hs1.1 (by have := hs1.2.1; omega) (by omega) (by omega)
               have o1 := (hx1.1.2.2 n (by omega) (by omega)).mpr ⟨by omega, o⟩
               by_cases c2 : bt (g1 12 7) n = 1
               · exact Or.inl c2
               · refine Or.inr ?_
                 rw [← hM1]
                 show bt (g1 29 x) n = 1
                 by_cases c3 : bt (g1 29 x) n = 1
                 · exact c3
                 · exact absurd ⟨⟨o1, by omega⟩, by omega⟩ hcn
             · exact hC s s0 (by omega) o)
          | (obtain ⟨X, c1⟩ := hX
             refine ih2 (by omega) h1 H1 (fun y k q => (K3 y k q).trans ((K2 y k q).trans (K1 y k q))) (fun s s0 s1 z => M3 s s0 s1 (M2 s s0 s1 (M1 s s0 s1 z))) ⟨fun y => X y || Y y, ?_⟩ (fun s s0 s1 o => ?_)
             · have yc2 := yc
               rw [hM2] at yc2 yf yh
               refine ⟨fun y r y0 y1 r0 r1 q o => ?_, fun r r0 r1 q1 q2 => ?_⟩
               · rcases Bool.or_eq_true _ _ |>.mp q with z | z
                 · rcases c1.1 y r y0 y1 r0 r1 z o with w | w
                   · exact Or.inl (M3 r r0 (by omega) (M2 r r0 (by omega) w))
                   · exact Or.inr w
                 · exact yc2.1 y r y0 y1 r0 r1 z o
               · by_cases w : sn g1 r
                 · have := c1.2 r r0 r1 w q2
                   exact ⟨this.1, fun y y0 y1 z => by show (X y || Y y) = true; rw [this.2 y y0 y1 z]; rfl⟩
                 · by_cases w2 : r = n
                   · subst w2
                     exact ⟨yf, fun y y0 y1 z => by show (X y || Y y) = true; rw [yh y y0 y1 z]; exact Bool.or_true _⟩
                   · have w3 : ¬ sn (up2 g1 12 7 (iOr (g1 12 7) (iShl 1 n))) r := fun z => by
                       have z2 := hor.2.2 r r0 (by omega)
                       rw [if_neg w2] at z2
                       have z3 : bt (up2 g1 12 7 (iOr (g1 12 7) (iShl 1 n)) 12 7) r = 1 := z
                       rw [up2_eq, z2] at z3
                       exact w z3
                     have := yc2.2 r r0 r1 q1 w3
                     exact ⟨this.1, fun y y0 y1 z => by show (X y || Y y) = true; rw [this.2 y y0 y1 z]; exact Bool.or_true _⟩
             · by_cases cs : s = n
               · subst cs
                 exact Or.inl (M3 n (by omega) (by omega) hsn2)
               · rcases hC s s0 (by omega) o with z | z
                 · exact Or.inl (M3 s s0 (by omega) (M2 s s0 (by omega) z))
                 · exact Or.inr z)
      · refine wp_aload_n rfl rfl dX4_gains_47 ?_
        refine wp_dup (by decide) dX4_gains_48 ?_
        refine wp_getfield1 (z := 5) (kI := 7) fX4_34 dX4_gains_49 (by first | omega | (simp (disch := omega) only [up2_ne, up2_eq, g5, st_12_m1 gS, st_12_3 gS, st_12_4 gS, st_28_m2 gS, st_28_m1 gS, st_29_m2 gS, st_29_m1 gS]; first | done | omega)) (by first | assumption | (simp (disch := omega) only [up2_ne, up2_eq, g5, st_12_m1 gS, st_12_3 gS, st_12_4 gS, st_28_m2 gS, st_28_m1 gS, st_29_m2 gS, st_29_m1 gS]; first | done | rfl | omega)) rfl rfl ?_
        try simp (disch := omega) only [up2_ne, up2_eq, g5, st_12_m1 gS, st_12_3 gS, st_12_4 gS, st_28_m2 gS, st_28_m1 gS, st_29_m2 gS, st_29_m1 gS]
        refine wp_iconst dX4_gains_52 ?_
        refine wp_iload_n rfl rfl dX4_gains_53 ?_
        refine wp_ishl dX4_gains_54 ?_
        refine wp_ior dX4_gains_55 ?_
        refine wp_putfield1 (z := 5) (kI := 7) fX4_34 dX4_gains_56 (by first | omega | (simp (disch := omega) only [up2_ne, up2_eq, g5, st_12_m1 gS, st_12_3 gS, st_12_4 gS, st_28_m2 gS, st_28_m1 gS, st_29_m2 gS, st_29_m1 gS]; first | done | omega)) (by first | assumption | (simp (disch := omega) only [up2_ne, up2_eq, g5, st_12_m1 gS, st_12_3 gS, st_12_4 gS, st_28_m2 gS, st_28_m1 gS, st_29_m2 gS, st_29_m1 gS]; first | done | rfl | omega)) rfl rfl ?_
        have hcd := hcd (by omega)
        have hcp : (bt (g1 28 x) n = 1 ∧ bt (g1 29 x) n = 0) ∧ bt (g1 12 7) n = 0 := by
          by_cases y : (bt (g1 28 x) n = 1 ∧ bt (g1 29 x) n = 0) ∧ bt (g1 12 7) n = 0
          · exact y
          · exfalso
            rw [if_neg y] at hcd
            omega
        have hor := or_bit (x := g1 12 7) (r := (n : Int)) hs1.1 hs1.2.1 (by omega) (by omega)
        have K2 : Ks g1 (up2 g1 12 7 (iOr (g1 12 7) (iShl 1 n))) := fun y k q => up2_ne (by omega)
        have M2 : snM g1 (up2 g1 12 7 (iOr (g1 12 7) (iShl 1 n))) := fun s s0 s1 z => by
          show bt (up2 g1 12 7 (iOr (g1 12 7) (iShl 1 n)) 12 7) s = 1
          rw [up2_eq, hor.2.2 s s0 s1]
          split
          · rfl
          · exact z
        have hsn2 : sn (up2 g1 12 7 (iOr (g1 12 7) (iShl 1 n))) n := by
          show bt (up2 g1 12 7 (iOr (g1 12 7) (iShl 1 n)) 12 7) n = 1
          rw [up2_eq, hor.2.2 n (by omega) (by omega), if_pos rfl]
        have G2 : pG m (up2 g1 12 7 (iOr (g1 12 7) (iShl 1 n))) := pG_sn G1 (gS.up (by decide +kernel)) K2 (by rw [up2_eq]; exact hor.1) (by rw [up2_eq]; exact hor.2.1) (fun r r0 r1 z => by
          rw [up2_eq, hor.2.2 r r0 r1] at z
          by_cases c : r = n
          · omega
          · rw [if_neg c] at z
            exact hs1.2.2 r r0 r1 z)
        have hM2 : MH (up2 g1 12 7 (iOr (g1 12 7) (iShl 1 n))) = MH g := (MH_Ks K2).trans hM1
        have hN2 : snN (up2 g1 12 7 (iOr (g1 12 7) (iShl 1 n))) = snN g1 + 1 := by
          unfold snN
          rw [sm_congr (g := fun r => bt (g1 12 7) r + (if r = n then 1 else 0)) 8 (fun i hi => by
            rw [up2_eq, hor.2.2 i (by omega) (by omega)]
            by_cases c : (i : Int) = n
            · rw [if_pos c, if_pos c, c, hcp.2]
              rfl
            · rw [if_neg c, if_neg c]
              omega), sm_add, sm_one (g := fun _ => 1) (by omega) _ (by omega)]
        refine wp_aload_n rfl rfl dX4_gains_59 ?_
        refine wp_iload_n rfl rfl dX4_gains_60 ?_
        refine wp_iload_n rfl rfl dX4_gains_61 ?_
        refine wp_cV2r (ci := 4) okX4_hasRoom rfl rfl wX4_44 dX4_gains_62 (Nat.le_of_ble_eq_true rfl) (Nat.le_of_ble_eq_true rfl) (by first | omega | (simp (disch := omega) only [up2_ne, up2_eq, g5, st_12_m1 gS, st_12_3 gS, st_12_4 gS, st_28_m2 gS, st_28_m1 gS, st_29_m2 gS, st_29_m1 gS]; first | done | omega)) (by first | assumption | (simp (disch := omega) only [up2_ne, up2_eq, g5, st_12_m1 gS, st_12_3 gS, st_12_4 gS, st_28_m2 gS, st_28_m1 gS, st_29_m2 gS, st_29_m1 gS]; first | done | rfl | omega)) (hr 0 (up2 g1 12 7 (iOr (g1 12 7) (iShl 1 n))) n G2 (by omega) (by omega) hsn2 (by omega)) (Nat.zero_le _) ?_
        rintro r h1 ⟨KP, M3, (⟨rfl, H1, hS1, hl1, dg, cl, cp⟩ | ⟨rfl, H1, K3, Y, yc, yf, yh⟩)⟩ -
        · show WP _ _ _ _ _ _ _ ((0, 1) :: _) _
          refine wp_if_eq (tgt := 82) (by first | assumption | exact bI_in _ | exact ⟨by omega, by omega⟩ | exact iAnd_in | exact iOr_in | exact iShr_in | exact iShl_in | exact iXor_in | exact hxs _) dX4_gains_65 (by decide) (fun hx => absurd hx (by decide)) (fun hx => ?_)
          refine wp_aload_n rfl rfl dX4_gains_68 ?_
          refine wp_getfield1 (z := 5) (kI := 4) fX4_24 dX4_gains_69 (by first | omega | (simp (disch := omega) only [up2_ne, up2_eq, g5, st_12_m1 hS1, st_12_m1 gS, st_12_3 hS1, st_12_3 gS, st_12_4 hS1, st_12_4 gS, st_28_m2 hS1, st_28_m2 gS, st_28_m1 hS1, st_28_m1 gS, st_29_m2 hS1, st_29_m2 gS, st_29_m1 hS1, st_29_m1 gS]; first | done | omega)) (by first | assumption | (simp (disch := omega) only [up2_ne, up2_eq, g5, st_12_m1 hS1, st_12_m1 gS, st_12_3 hS1, st_12_3 gS, st_12_4 hS1, st_12_4 gS, st_28_m2 hS1, st_28_m2 gS, st_28_m1 hS1, st_28_m1 gS, st_29_m2 hS1, st_29_m2 gS, st_29_m1 hS1, st_29_m1 gS]; first | done | rfl | omega)) rfl rfl ?_
          try simp (disch := omega) only [up2_ne, up2_eq, g5, st_12_m1 hS1, st_12_m1 gS, st_12_3 hS1, st_12_3 gS, st_12_4 hS1, st_12_4 gS, st_28_m2 hS1, st_28_m2 gS, st_28_m1 hS1, st_28_m1 gS, st_29_m2 hS1, st_29_m2 gS, st_29_m1 hS1, st_29_m1 gS]
          refine wp_iload_n rfl rfl dX4_gains_72 ?_
          refine wp_dup2 (by decide) (by decide) dX4_gains_73 ?_
          refine wp_iaload1 dX4_gains_74 (by first | omega | (simp (disch := omega) only [up2_ne, up2_eq, g5, st_12_m1 hS1, st_12_m1 gS, st_12_3 hS1, st_12_3 gS, st_12_4 hS1, st_12_4 gS, st_28_m2 hS1, st_28_m2 gS, st_28_m1 hS1, st_28_m1 gS, st_29_m2 hS1, st_29_m2 gS, st_29_m1 hS1, st_29_m1 gS]; first | done | omega)) (by first | assumption | (simp (disch := omega) only [up2_ne, up2_eq, g5, st_12_m1 hS1, st_12_m1 gS, st_12_3 hS1, st_12_3 gS, st_12_4 hS1, st_12_4 gS, st_28_m2 hS1, st_28_m2 gS, st_28_m1 hS1, st_28_m1 gS, st_29_m2 hS1, st_29_m2 gS, st_29_m1 hS1, st_29_m1 gS]; first | done | rfl | omega)) (by first | omega | (simp (disch := omega) only [up2_ne, up2_eq, g5, st_12_m1 hS1, st_12_m1 gS, st_12_3 hS1, st_12_3 gS, st_12_4 hS1, st_12_4 gS, st_28_m2 hS1, st_28_m2 gS, st_28_m1 hS1, st_28_m1 gS, st_29_m2 hS1, st_29_m2 gS, st_29_m1 hS1, st_29_m1 gS]; first | done | omega)) (by first | omega | (simp (disch := omega) only [up2_ne, up2_eq, g5, st_12_m1 hS1, st_12_m1 gS, st_12_3 hS1, st_12_3 gS, st_12_4 hS1, st_12_4 gS, st_28_m2 hS1, st_28_m2 gS, st_28_m1 hS1, st_28_m1 gS, st_29_m2 hS1, st_29_m2 gS, st_29_m1 hS1, st_29_m1 gS]; first | done | omega)) ?_
          try simp (disch := omega) only [up2_ne, up2_eq, g5, st_12_m1 hS1, st_12_m1 gS, st_12_3 hS1, st_12_3 gS, st_12_4 hS1, st_12_4 gS, st_28_m2 hS1, st_28_m2 gS, st_28_m1 hS1, st_28_m1 gS, st_29_m2 hS1, st_29_m2 gS, st_29_m1 hS1, st_29_m1 gS]
          refine wp_iconst dX4_gains_75 ?_
          refine wp_iload_n rfl rfl dX4_gains_76 ?_
          refine wp_ishl dX4_gains_77 ?_
          refine wp_ior dX4_gains_78 ?_
          refine wp_iastore1 dX4_gains_79 (by first | omega | (simp (disch := omega) only [up2_ne, up2_eq, g5, st_12_m1 hS1, st_12_m1 gS, st_12_3 hS1, st_12_3 gS, st_12_4 hS1, st_12_4 gS, st_28_m2 hS1, st_28_m2 gS, st_28_m1 hS1, st_28_m1 gS, st_29_m2 hS1, st_29_m2 gS, st_29_m1 hS1, st_29_m1 gS]; first | done | omega)) (by first | assumption | (simp (disch := omega) only [up2_ne, up2_eq, g5, st_12_m1 hS1, st_12_m1 gS, st_12_3 hS1, st_12_3 gS, st_12_4 hS1, st_12_4 gS, st_28_m2 hS1, st_28_m2 gS, st_28_m1 hS1, st_28_m1 gS, st_29_m2 hS1, st_29_m2 gS, st_29_m1 hS1, st_29_m1 gS]; first | done | rfl | omega)) (by first | omega | (simp (disch := omega) only [up2_ne, up2_eq, g5, st_12_m1 hS1, st_12_m1 gS, st_12_3 hS1, st_12_3 gS, st_12_4 hS1, st_12_4 gS, st_28_m2 hS1, st_28_m2 gS, st_28_m1 hS1, st_28_m1 gS, st_29_m2 hS1, st_29_m2 gS, st_29_m1 hS1, st_29_m1 gS]; first | done | omega)) (by first | omega | (simp (disch := omega) only [up2_ne, up2_eq, g5, st_12_m1 hS1, st_12_m1 gS, st_12_3 hS1, st_12_3 gS, st_12_4 hS1, st_12_4 gS, st_28_m2 hS1, st_28_m2 gS, st_28_m1 hS1, st_28_m1 gS, st_29_m2 hS1, st_29_m2 gS, st_29_m1 hS1, st_29_m1 gS]; first | done | omega)) ?_
          refine wp_iconst dX4_gains_80 ?_
          refine wp_zret (by first | exact Or.inl rfl | exact Or.inr rfl | omega) dX4_gains_81 rfl ?_
          first
            | (have e29 : ∀ a : Int, up2 h1 26 n (h1 26 n - 1) 29 a = h1 29 a := fun a => up2_ne (by omega)
               have eM0 : MH (up2 h1 26 n (h1 26 n - 1)) = MH h1 := by
                 funext a r
                 unfold MH
                 rw [e29]
               have hb := H1.2.2.2.2.1 x x0 x1
               rw [e29] at hb
               have b1 := MH_01 H1 x0 x1 (r := n) (by omega) (by omega)
               rw [eM0] at b1
               have b2 := cp x x0 x1
               rw [hM2] at b2
               have b3 : MH g x n = 0 := by
                 rw [← hM1]
                 exact hcp.1.2
               have b4 : MH h1 x n = 0 := by omega
               have o1 := ((hx1.1.2.2 n (by omega) (by omega)).mp hcp.1.1).2
               have ho := or_bit (x := h1 29 x) (r := (n : Int)) hb.2.1 hb.2.2.1 (by omega) (by omega)
               have hx := pG_upd (h1 := up2 h1 26 n (h1 26 n - 1)) (h2 := up2 h1 29 x (iOr (h1 29 x) (iShl 1 n))) (a0 := x) (p := (n : Int)) (w := 1) (by omega) H1 (hS1.upA (by decide +kernel) (by omega)) x0 x1 (by omega) (by omega) (fun y k q1 q2 => by rw [up2_ne (by omega), up2_ne (by omega)]) (by rw [up2_eq]; exact ho.1) (by rw [up2_eq]; exact ho.2.1) (fun r r0 r1 => by rw [up2_eq, ho.2.2 r r0 r1, e29]) (Or.inr ⟨rfl, o1⟩) (by rw [up2_ne (by omega), up2_eq, eM0, b4]; omega) (by rw [up2_ne (by omega)]; exact hl1)
               rw [eM0] at hx
               refine ⟨hx.1, fun y k q1 q2 => ?_, fun s s0 s1 z => ?_, Or.inl ⟨rfl, fun a a0 a1 => ?_, fun a s a0 a1 s0 s1 z => ?_⟩⟩
               · rw [up2_ne (by omega), KP y k q1 q2, up2_ne (by omega)]
                 exact K1 y k q1
               · show bt (up2 h1 29 x (iOr (h1 29 x) (iShl 1 n)) 12 7) s = 1
                 rw [up2_ne (by omega)]
                 exact M3 s s0 s1 (M2 s s0 s1 (M1 s s0 s1 z))
               · rw [hx.2.1 a, dg a a0 a1, hM2, b4]
                 unfold inc
                 split <;> omega
               · have zn : s ≠ n := fun q => by
                   have z2 : bt (g1 12 7) s = 1 := M1 s s0 s1 z
                   rw [q] at z2
                   omega
                 rw [hx.2.2 a s s0 s1 (fun q => zn q.2), cl a s a0 a1 s0 s1 (M2 s s0 s1 (M1 s s0 s1 z)) zn, hM2])
            | (obtain ⟨X, c1⟩ := hX
               refine ⟨G1, fun y k q1 q2 => K1 y k q1, M1, Or.inr ⟨rfl, K1, fun y => X y || decide (y = x), by show (X x || decide (x = x)) = true; rw [decide_eq_true rfl]; exact Bool.or_true _, fun y r y0 y1 r0 r1 q o => ?_, fun r r0 r1 q1 q2 => ?_⟩⟩
               · rcases Bool.or_eq_true _ _ |>.mp q with z | z
                 · exact c1.1 y r y0 y1 r0 r1 z o
                 · have z2 := of_decide_eq_true z
                   rw [z2] at o ⊢
                   exact hC r r0 (by omega) o
               · have := c1.2 r r0 r1 q1 q2
                 exact ⟨this.1, fun y y0 y1 z => by show (X y || decide (y = x)) = true; rw [this.2 y y0 y1 z]; rfl⟩)
            | (exfalso; omega)
        · show WP _ _ _ _ _ _ _ ((0, 0) :: _) _
          have hS1 := H1.1
          refine wp_if_eq (tgt := 82) (by first | assumption | exact bI_in _ | exact ⟨by omega, by omega⟩ | exact iAnd_in | exact iOr_in | exact iShr_in | exact iShl_in | exact iXor_in | exact hxs _) dX4_gains_65 (by decide) (fun hx => ?_) (fun hx => absurd hx (by decide))
          refine wp_iinc rfl rfl dX4_gains_82 rfl rfl ?_
          try simp only [List.set_cons_zero, List.set_cons_succ]
          refine wp_goto (tgt := 10) dX4_gains_85 (by decide) ?_
          first
            | (have hcn : ¬ ((bt (g1 28 x) n = 1 ∧ bt (g1 29 x) n = 0) ∧ bt (g1 12 7) n = 0) := fun y => by
                 have hcd := hcd (by omega)
                 rw [if_pos y] at hcd
                 omega
               refine ih2 (by omega) g1 G1 K1 M1 hX (fun s s0 s1 o => ?_)
               by_cases cs : s = n
               · subst cs
                 have b1 := bt_01 (x := g1 29 x) (i := (n : Int)) hx1.2.1 (by have := hx1.2.2.1; omega) (by omega) (by omega)
                 have b2 := bt_01 (x := g1 12 7) (i := (n : Int)) hs1.1 (by have := hs1.2.1; omega) (by omega) (by omega)
                 have o1 := (hx1.1.2.2 n (by omega) (by omega)).mpr ⟨by omega, o⟩
                 by_cases c2 : bt (g1 12 7) n = 1
                 · exact Or.inl c2
                 · refine Or.inr ?_
                   rw [← hM1]
                   show bt (g1 29 x) n = 1
                   by_cases c3 : bt (g1 29 x) n = 1
                   · exact c3
                   · exact absurd ⟨⟨o1, by omega⟩, by omega⟩ hcn
               · exact hC s s0 (by omega) o)
            | (obtain ⟨X, c1⟩ := hX
               refine ih2 (by omega) h1 H1 (fun y k q => (K3 y k q).trans ((K2 y k q).trans (K1 y k q))) (fun s s0 s1 z => M3 s s0 s1 (M2 s s0 s1 (M1 s s0 s1 z))) ⟨fun y => X y || Y y, ?_⟩ (fun s s0 s1 o => ?_)
               · have yc2 := yc
                 rw [hM2] at yc2 yf yh
                 refine ⟨fun y r y0 y1 r0 r1 q o => ?_, fun r r0 r1 q1 q2 => ?_⟩
                 · rcases Bool.or_eq_true _ _ |>.mp q with z | z
                   · rcases c1.1 y r y0 y1 r0 r1 z o with w | w
                     · exact Or.inl (M3 r r0 (by omega) (M2 r r0 (by omega) w))
                     · exact Or.inr w
                   · exact yc2.1 y r y0 y1 r0 r1 z o
                 · by_cases w : sn g1 r
                   · have := c1.2 r r0 r1 w q2
                     exact ⟨this.1, fun y y0 y1 z => by show (X y || Y y) = true; rw [this.2 y y0 y1 z]; rfl⟩
                   · by_cases w2 : r = n
                     · subst w2
                       exact ⟨yf, fun y y0 y1 z => by show (X y || Y y) = true; rw [yh y y0 y1 z]; exact Bool.or_true _⟩
                     · have w3 : ¬ sn (up2 g1 12 7 (iOr (g1 12 7) (iShl 1 n))) r := fun z => by
                         have z2 := hor.2.2 r r0 (by omega)
                         rw [if_neg w2] at z2
                         have z3 : bt (up2 g1 12 7 (iOr (g1 12 7) (iShl 1 n)) 12 7) r = 1 := z
                         rw [up2_eq, z2] at z3
                         exact w z3
                       have := yc2.2 r r0 r1 q1 w3
                       exact ⟨this.1, fun y y0 y1 z => by show (X y || Y y) = true; rw [this.2 y y0 y1 z]; exact Bool.or_true _⟩
               · by_cases cs : s = n
                 · subst cs
                   exact Or.inl (M3 n (by omega) (by omega) hsn2)
                 · rcases hC s s0 (by omega) o with z | z
                   · exact Or.inl (M3 s s0 (by omega) (M2 s s0 (by omega) z))
                   · exact Or.inr z)
  show WP (gX (gq u)) MX4_gains (D + 1) b _ 0 [(2, 12), (0, x), (0, dl), (9, 0)] [] g
  refine wp_iload_n rfl rfl dX4_gains_0 ?_
  refine wp_bipush (by decide) dX4_gains_1 ?_
  refine wp_icmp_le (tgt := 8) (by first | assumption | exact bI_in _ | exact ⟨by omega, by omega⟩ | exact iAnd_in | exact iOr_in | exact iShr_in | exact iShl_in | exact iXor_in | exact hxs _) (by first | assumption | exact bI_in _ | exact ⟨by omega, by omega⟩ | exact iAnd_in | exact iOr_in | exact iShr_in | exact iShl_in | exact iXor_in | exact hxs _) dX4_gains_3 (by decide) (fun c3 => ?_) (fun c3 => by exfalso; omega)
  refine wp_iconst dX4_gains_8 ?_
  refine wp_istore_n rfl dX4_gains_9 rfl (Nat.le_of_ble_eq_true rfl) rfl ?_
  try simp only [List.set_cons_zero, List.set_cons_succ]
  exact loop 0 (by omega) g G (fun _ _ _ => rfl) (fun _ _ _ z => z) ⟨fun _ => false, ⟨fun y r _ _ _ _ q => absurd q Bool.false_ne_true, fun r _ _ q1 q2 => absurd q1 q2⟩⟩ (fun s s0 s1 => by exfalso; omega)
theorem gains_all {u : gT} {m : mH} {d : Nat} (R0 : 0 ≤ m 200 6 ∧ m 200 6 ≤ 8) (A0 : 0 ≤ m 200 10 ∧ m 200 10 ≤ 14) (L6 : ∀ r : Int, 0 ≤ r → r < m 200 6 → 1 ≤ m 209 r ∧ m 209 r ≤ 6) : ∀ (f : Nat) (dl : Int), 0 ≤ dl → dl + (f : Int) = 9 → gSpec u m (d + 2 * f + 1) dl
  | 0, dl, h0, h1 => by
    intro b g x G x0 x1 hd
    have hN8 := snN_8 G.2.2.2.2.2.1 G.2.2.2.2.2.2.1
    exfalso
    omega
  | f + 1, dl, h0, h1 => gains_row R0 A0 h0 (hasRoom_row R0 A0 L6 (gains_all (d := d) R0 A0 L6 f (dl + 1) (by omega) (by omega)))
