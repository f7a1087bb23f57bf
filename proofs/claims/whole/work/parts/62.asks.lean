/-! ===== asks ===== -/
theorem askM_sh {G : gG} {m : mH} {k ho o t s dd x y : Int} (n0 : 0 ≤ m 200 10) (n1 : m 200 10 ≤ 14) (q : (80 ≤ x ∧ x < 100) ∨ 253 ≤ x) : askM G m k ho o t s dd x y = m x y := by
  unfold askM
  split
  · rename_i z
    exact am_ne n0 (by omega) (by omega)
  · rfl
/-- both sides behind so many rows of a sheet -/
def asN (G : gG) (m : mH) (x fr : Int) : Nat → mH
  | 0 => m
  | n + 1 => askM G (asN G m x fr n) (m 255 (40 * x + (fr + 6 * (n : Int)))) (m 255 (40 * x + (fr + 6 * (n : Int)) + 1)) (m 255 (40 * x + (fr + 6 * (n : Int)) + 2)) (m 255 (40 * x + (fr + 6 * (n : Int)) + 3)) (m 255 (40 * x + (fr + 6 * (n : Int)) + 4)) (m 255 (40 * x + (fr + 6 * (n : Int)) + 5))
def asK (G : gG) (m : mH) (x fr : Int) : Nat → Int
  | 0 => 0
  | n + 1 => asK G m x fr n + bI (0 ≤ askV (asN G m x fr n) (m 255 (40 * x + (fr + 6 * (n : Int)))) (m 255 (40 * x + (fr + 6 * (n : Int)) + 1)) (m 255 (40 * x + (fr + 6 * (n : Int)) + 2)) (m 255 (40 * x + (fr + 6 * (n : Int)) + 3)) (m 255 (40 * x + (fr + 6 * (n : Int)) + 4)) (m 255 (40 * x + (fr + 6 * (n : Int)) + 5)))
abbrev asE (m : mH) (x fr : Int) (i : Nat) : Prop := 0 ≤ fr + 6 * (i : Int) ∧ fr + 6 * (i : Int) + 6 ≤ m 254 x
/-- the row at which it stops -/
def asX (m : mH) (x fr : Int) : Nat → Nat → Nat
  | 0, i => i
  | r + 1, i => if asE m x fr i then asX m x fr r (i + 1) else i
abbrev asZ (m : mH) (x z n : Int) : Prop := (0 ≤ x ∧ x ≤ 3) ∧ (0 ≤ z ∧ z ≤ 2) ∧ 0 ≤ n
def asV (G : gG) (m : mH) (x z fr n : Int) : Int := if ¬ asZ m x z n then -2 else if m 253 x = -1 then -11 else if m 253 x ≠ z then -13 else if asX m x fr n.toNat 0 = n.toNat then asK G m x fr n.toNat else -12
def asQ (G : gG) (m : mH) (x z fr n : Int) : mH := if asZ m x z n ∧ m 253 x = z then asN G m x fr (asX m x fr n.toNat 0) else m
theorem asX_s {m : mH} {x fr : Int} {N i : Nat} (hi : i < N) (q : asE m x fr i) : asX m x fr (N - i) i = asX m x fr (N - (i + 1)) (i + 1) := by
  obtain ⟨r, hr⟩ : ∃ r, N - i = r + 1 := ⟨N - i - 1, by omega⟩
  rw [hr, show N - (i + 1) = r by omega]
  exact if_pos q
theorem asX_e {m : mH} {x fr : Int} {N i : Nat} (hi : i < N) (q : ¬ asE m x fr i) : asX m x fr (N - i) i = i := by
  obtain ⟨r, hr⟩ : ∃ r, N - i = r + 1 := ⟨N - i - 1, by omega⟩
  rw [hr]
  exact if_neg q
theorem Inv_asN {j : Nat} {G : gG} {m : mH} (H : Inv j m) {x fr : Int} : ∀ n : Nat, Inv j (asN G m x fr n) ∧ ∀ p y, (80 ≤ p ∧ p < 100) ∨ 253 ≤ p → asN G m x fr n p y = m p y
  | 0 => ⟨H, fun _ _ _ => rfl⟩
  | n + 1 => by
    have ih := Inv_asN (G := G) H (x := x) (fr := fr) n
    have hn := ih.1.ns
    exact ⟨Inv_askM ih.1, fun p y q => (askM_sh (by omega) (by omega) q).trans (ih.2 p y q)⟩
theorem asK_b {G : gG} {m : mH} {x fr : Int} : ∀ n : Nat, 0 ≤ asK G m x fr n ∧ asK G m x fr n ≤ n
  | 0 => ⟨Int.le_refl _, Int.le_refl _⟩
  | n + 1 => by
    have ih := asK_b (G := G) (m := m) (x := x) (fr := fr) n
    rw [asK]
    unfold bI
    split <;> omega
theorem Inv.sh {j : Nat} {m : mH} (H : Inv j m) {x : Int} (x0 : 0 ≤ x) (x1 : x ≤ 3) : m (80 + x) 2 = m 253 x ∧ m (80 + x) 1 = m 254 x ∧ (-1 ≤ m 253 x ∧ m 253 x ≤ 2) ∧ (0 ≤ m 254 x ∧ m 254 x ≤ 40) ∧ ∀ i : Int, 0 ≤ i → i < 40 → (i < m 254 x → m (90 + x) i = m 255 (40 * x + i)) ∧ InI (m 255 (40 * x + i)) := by
  have := H.2.2.2.2.2.2.2.1 x x0 (by omega)
  exact ⟨this.1, this.2.1, ⟨this.2.2.1, this.2.2.2.1⟩, ⟨this.2.2.2.2.1, this.2.2.2.2.2.1⟩, fun i i0 i1 => ⟨(this.2.2.2.2.2.2 i i0 i1).1, (this.2.2.2.2.2.2 i i0 i1).2.2⟩⟩
theorem item_row {u : gT} {j : Nat} {g m2 m : mH} {d b : Nat} (H2 : Inv j m2) (ge : Cl g m2) (gS : St g) (hm : ∀ p y, (80 ≤ p ∧ p < 100) ∨ 253 ≤ p → m2 p y = m p y) {x n q : Int} (x0 : 0 ≤ x) (x1 : x ≤ 3) (n0 : 0 ≤ n) (n1 : n < m 254 x) (hq : 40 * x + n = q) : Det (gX (gq u)) MX8_item (d + 2) b [(2, 80 + x), (0, n)] g (0, m 255 q) g := by
  have hs := H2.sh x0 x1
  have e1 : g (80 + x) 1 = m 254 x := by rw [ge _ _ (by omega), hs.2.1, hm _ _ (by omega)]
  have e2 : m 254 x ≤ 40 := by rw [← hm _ _ (by omega)]; exact hs.2.2.2.1.2
  have := s_X8_item (u := u) (d := d) (b := b) (h := g) (s := 80 + x) (it := 90 + x) (n := n) (by omega) (sh6b gS x0 (by omega)) (sh6c gS x0 (by omega)) (by omega) (sh6d gS x0 (by omega)) (sh6e gS x0 (by omega)) (by rw [e1]; omega) (by rw [e1]; omega) (by exact ⟨by omega, by omega⟩)
  rw [if_pos (by rw [e1]; exact ⟨n0, n1⟩)] at this
  have e3 : g (90 + x) n = m 255 q := by
    rw [ge _ _ (by omega), (hs.2.2.2.2 n n0 (by omega)).1 (by rw [hm _ _ (by omega)]; exact n1), hm _ _ (by omega), hq]
  rw [e3] at this
  exact this
set_option maxHeartbeats 2000000 in
theorem s_X11_asks {u : gT} {j : Nat} {h m : mH} {d b : Nat} (H : Inv j m) (e : Cl h m) (hS : St h) {x z fr nn : Int} (ix : InI x) (iz : InI z) (ifr : InI fr) (inn : InI nn) : Rlt (gX (gq u)) MX11_asks (d + 6) (b + 154) [(2, 1), (0, x), (0, z), (0, fr), (0, nn)] h (fun r h1 => r = (0, asV (gq u) m x z fr nn) ∧ St h1 ∧ Cl h1 (asQ (gq u) m x z fr nn) ∧ Re h h1) := by
  refine Rlt.of ?_
  have hn := H.ns
  have ib1 := inn.1
  have ib2 := inn.2
  have if1 := ifr.1
  have if2 := ifr.2
  have hs := fun (y : 0 ≤ x ∧ x ≤ 3) => H.sh y.1 y.2
  have loop : asZ m x z nn → m 253 x = z → ∀ n : Nat, n ≤ nn.toNat → ∀ g, St g → Cl g (asN (gq u) m x fr n) → Re h g → asX m x fr (nn.toNat - n) n = asX m x fr nn.toNat 0 → (n = 0 ∨ (0 ≤ fr ∧ fr + 6 * (n : Int) ≤ m 254 x)) → WP (gX (gq u)) MX11_asks (d + 6) (b + 154 - 22 * n) (fun r h1 => r = (0, asV (gq u) m x z fr nn) ∧ St h1 ∧ Cl h1 (asQ (gq u) m x z fr nn) ∧ Re h h1) 64 [(2, 1), (0, x), (0, z), (0, fr), (0, nn), (2, 80 + x), (0, asK (gq u) m x fr n), (0, fr + 6 * (n : Int)), (0, (n : Int)), (9, 0)] [] g := by
    intro hz hzz
    refine loop_w nn.toNat (fun n hn2 ih => ?_)
    intro g gS ge gR hT hB
    have hI2 := Inv_asN (G := gq u) H (x := x) (fr := fr) n
    have H2 := hI2.1
    have hsm := H.sh (x := x) (by omega) (by omega)
    have hk := asK_b (G := gq u) (m := m) (x := x) (fr := fr) n
    have h1b : g (80 + x) 1 = m 254 x := by rw [ge _ _ (by omega), hI2.2 _ _ (by omega)]; exact hsm.2.1
    have hcI : ∀ i : Int, 0 ≤ i → i < m 254 x → InI (m 255 (40 * x + i)) := fun i i0 i1 => (hsm.2.2.2.2 i i0 (by omega)).2
    refine wp_iload rfl dX11_asks_64 ?_
    refine wp_iload rfl dX11_asks_66 ?_
    refine wp_icmp_ge (tgt := 174) (by first | assumption | exact bI_in _ | exact ⟨by omega, by omega⟩ | exact iAnd_in | exact iOr_in | exact iShr_in | exact iShl_in | exact iXor_in | exact hxs _) (by first | assumption | exact bI_in _ | exact ⟨by omega, by omega⟩ | exact iAnd_in | exact iOr_in | exact iShr_in | exact iShl_in | exact iXor_in | exact hxs _) dX11_asks_68 (by decide) (fun c1 => ?_) (fun c1 => ?_)
    · refine wp_iload rfl dX11_asks_174 ?_
      refine wp_iret dX11_asks_176 rfl ?_
      first
        | (have hz : asZ m x z nn := hz
           have en : n = nn.toNat := by omega
           subst en
           rw [Nat.sub_self] at hT
           have hT2 : asX m x fr nn.toNat 0 = nn.toNat := hT.symm
           refine ⟨?_, gS, ?_, gR⟩
           · unfold asV
             rw [if_neg (fun y => y hz), if_neg (by omega), if_neg (fun y => y hzz), if_pos hT2]
           · unfold asQ
             rw [if_pos ⟨hz, hzz⟩, hT2]
             exact ge)
        | (have hz : asZ m x z nn := hz
           have hE : ¬ asE m x fr n := by omega
           rw [asX_e (by omega) hE] at hT
           refine ⟨?_, gS, ?_, gR⟩
           · unfold asV
             rw [if_neg (fun y => y hz), if_neg (by omega), if_neg (fun y => y hzz), if_neg (by omega)]
           · unfold asQ
             rw [if_pos ⟨hz, hzz⟩, ← hT]
             exact ge)
    · refine wp_aload rfl dX11_asks_71 ?_
      refine wp_iload rfl dX11_asks_73 ?_
      refine wp_cV1 (ci := 8) okX8_holds rfl rfl wX11_189 dX11_asks_75 rfl (Nat.le_of_ble_eq_true rfl) (Nat.le_of_ble_eq_true rfl) (by first | omega | (simp (disch := omega) only [up2_ne, up2_eq, h1b, sh6a gS, sh6b gS, st_1_m1 gS, st_1_4 gS, st_6_m2 gS, st_6_m1 gS]; first | done | omega)) (by first | assumption | (simp (disch := omega) only [up2_ne, up2_eq, h1b, sh6a gS, sh6b gS, st_1_m1 gS, st_1_4 gS, st_6_m2 gS, st_6_m1 gS]; first | done | rfl | omega)) (s_X8_holds (s := 80 + x) (it := 90 + x) (by omega) (sh6b gS (by omega) (by omega)) (sh6c gS (by omega) (by omega)) (by omega) (sh6d gS (by omega) (by omega)) (sh6e gS (by omega) (by omega)) (by omega) (by omega) (by exact ⟨by have := ifr.1; omega, by have := ifr.2; omega⟩)) (Nat.zero_le _) ?_
      try simp (disch := omega) only [up2_ne, up2_eq, h1b, sh6a gS, sh6b gS, st_1_m1 gS, st_1_4 gS, st_6_m2 gS, st_6_m1 gS]
      refine wp_ifB_eq (tgt := 96) dX11_asks_78 (by decide) (fun c2 => ?_) (fun c2 => ?_)
      · refine wp_bipush (by decide) dX11_asks_96 ?_
        refine wp_iret dX11_asks_98 rfl ?_
        first
          | (have hz : asZ m x z nn := hz
             have en : n = nn.toNat := by omega
             subst en
             rw [Nat.sub_self] at hT
             have hT2 : asX m x fr nn.toNat 0 = nn.toNat := hT.symm
             refine ⟨?_, gS, ?_, gR⟩
             · unfold asV
               rw [if_neg (fun y => y hz), if_neg (by omega), if_neg (fun y => y hzz), if_pos hT2]
             · unfold asQ
               rw [if_pos ⟨hz, hzz⟩, hT2]
               exact ge)
          | (have hz : asZ m x z nn := hz
             have hE : ¬ asE m x fr n := by omega
             rw [asX_e (by omega) hE] at hT
             refine ⟨?_, gS, ?_, gR⟩
             · unfold asV
               rw [if_neg (fun y => y hz), if_neg (by omega), if_neg (fun y => y hzz), if_neg (by omega)]
             · unfold asQ
               rw [if_pos ⟨hz, hzz⟩, ← hT]
               exact ge)
      · refine wp_aload rfl dX11_asks_81 ?_
        refine wp_iload rfl dX11_asks_83 ?_
        refine wp_bipush (by decide) dX11_asks_85 ?_
        refine wp_iadd dX11_asks_87 ?_
        refine wp_iconst dX11_asks_88 ?_
        refine wp_isub dX11_asks_89 ?_
        refine wp_cV1 (ci := 8) okX8_holds rfl rfl wX11_189 dX11_asks_90 rfl (Nat.le_of_ble_eq_true rfl) (Nat.le_of_ble_eq_true rfl) (by first | omega | (simp (disch := omega) only [up2_ne, up2_eq, h1b, sh6a gS, sh6b gS, st_1_m1 gS, st_1_4 gS, st_6_m2 gS, st_6_m1 gS]; first | done | omega)) (by first | assumption | (simp (disch := omega) only [up2_ne, up2_eq, h1b, sh6a gS, sh6b gS, st_1_m1 gS, st_1_4 gS, st_6_m2 gS, st_6_m1 gS]; first | done | rfl | omega)) (s_X8_holds (s := 80 + x) (it := 90 + x) (by omega) (sh6b gS (by omega) (by omega)) (sh6c gS (by omega) (by omega)) (by omega) (sh6d gS (by omega) (by omega)) (sh6e gS (by omega) (by omega)) (by omega) (by omega) (by exact ⟨by have := ifr.1; omega, by have := ifr.2; omega⟩)) (Nat.zero_le _) ?_
        try simp (disch := omega) only [up2_ne, up2_eq, h1b, sh6a gS, sh6b gS, st_1_m1 gS, st_1_4 gS, st_6_m2 gS, st_6_m1 gS]
        refine wp_ifB_ne (tgt := 99) dX11_asks_93 (by decide) (fun c3 => ?_) (fun c3 => ?_)
        · have hE : asE m x fr n := by omega
          have hcE : ∀ i : Int, 0 ≤ i → i < 6 → InI (m 255 (40 * x + (fr + 6 * (n : Int)) + i)) := fun i i0 i1 => by rw [show 40 * x + (fr + 6 * (n : Int)) + i = 40 * x + (fr + 6 * (n : Int) + i) by omega]; exact hcI _ (by omega) (by omega)
          have hcE0 := hcE 0 (by decide) (by decide)
          rw [Int.add_zero] at hcE0
          refine wp_aload_n rfl rfl dX11_asks_99 ?_
          refine wp_aload rfl dX11_asks_100 ?_
          refine wp_iload rfl dX11_asks_102 ?_
          refine wp_cV1 (ci := 8) okX8_item rfl rfl wX11_192 dX11_asks_104 rfl (Nat.le_of_ble_eq_true rfl) (Nat.le_of_ble_eq_true rfl) (by first | omega | (simp (disch := omega) only [up2_ne, up2_eq, h1b, sh6a gS, sh6b gS, st_1_m1 gS, st_1_4 gS, st_6_m2 gS, st_6_m1 gS]; first | done | omega)) (by first | assumption | (simp (disch := omega) only [up2_ne, up2_eq, h1b, sh6a gS, sh6b gS, st_1_m1 gS, st_1_4 gS, st_6_m2 gS, st_6_m1 gS]; first | done | rfl | omega)) (item_row H2 ge gS hI2.2 (by omega) (by omega) (by omega) (by omega) (q := 40 * x + (fr + 6 * (n : Int))) (by omega)) (Nat.zero_le _) ?_
          try simp (disch := omega) only [up2_ne, up2_eq, h1b, sh6a gS, sh6b gS, st_1_m1 gS, st_1_4 gS, st_6_m2 gS, st_6_m1 gS]
          refine wp_aload rfl dX11_asks_107 ?_
          refine wp_iload rfl dX11_asks_109 ?_
          refine wp_iconst dX11_asks_111 ?_
          refine wp_iadd dX11_asks_112 ?_
          refine wp_cV1 (ci := 8) okX8_item rfl rfl wX11_192 dX11_asks_113 rfl (Nat.le_of_ble_eq_true rfl) (Nat.le_of_ble_eq_true rfl) (by first | omega | (simp (disch := omega) only [up2_ne, up2_eq, h1b, sh6a gS, sh6b gS, st_1_m1 gS, st_1_4 gS, st_6_m2 gS, st_6_m1 gS]; first | done | omega)) (by first | assumption | (simp (disch := omega) only [up2_ne, up2_eq, h1b, sh6a gS, sh6b gS, st_1_m1 gS, st_1_4 gS, st_6_m2 gS, st_6_m1 gS]; first | done | rfl | omega)) (item_row H2 ge gS hI2.2 (by omega) (by omega) (by omega) (by omega) (q := 40 * x + (fr + 6 * (n : Int)) + 1) (by omega)) (Nat.zero_le _) ?_
          try simp (disch := omega) only [up2_ne, up2_eq, h1b, sh6a gS, sh6b gS, st_1_m1 gS, st_1_4 gS, st_6_m2 gS, st_6_m1 gS]
          refine wp_aload rfl dX11_asks_116 ?_
          refine wp_iload rfl dX11_asks_118 ?_
          refine wp_iconst dX11_asks_120 ?_
          refine wp_iadd dX11_asks_121 ?_
          refine wp_cV1 (ci := 8) okX8_item rfl rfl wX11_192 dX11_asks_122 rfl (Nat.le_of_ble_eq_true rfl) (Nat.le_of_ble_eq_true rfl) (by first | omega | (simp (disch := omega) only [up2_ne, up2_eq, h1b, sh6a gS, sh6b gS, st_1_m1 gS, st_1_4 gS, st_6_m2 gS, st_6_m1 gS]; first | done | omega)) (by first | assumption | (simp (disch := omega) only [up2_ne, up2_eq, h1b, sh6a gS, sh6b gS, st_1_m1 gS, st_1_4 gS, st_6_m2 gS, st_6_m1 gS]; first | done | rfl | omega)) (item_row H2 ge gS hI2.2 (by omega) (by omega) (by omega) (by omega) (q := 40 * x + (fr + 6 * (n : Int)) + 2) (by omega)) (Nat.zero_le _) ?_
          try simp (disch := omega) only [up2_ne, up2_eq, h1b, sh6a gS, sh6b gS, st_1_m1 gS, st_1_4 gS, st_6_m2 gS, st_6_m1 gS]
          refine wp_aload rfl dX11_asks_125 ?_
          refine wp_iload rfl dX11_asks_127 ?_
          refine wp_iconst dX11_asks_129 ?_
          refine wp_iadd dX11_asks_130 ?_
          refine wp_cV1 (ci := 8) okX8_item rfl rfl wX11_192 dX11_asks_131 rfl (Nat.le_of_ble_eq_true rfl) (Nat.le_of_ble_eq_true rfl) (by first | omega | (simp (disch := omega) only [up2_ne, up2_eq, h1b, sh6a gS, sh6b gS, st_1_m1 gS, st_1_4 gS, st_6_m2 gS, st_6_m1 gS]; first | done | omega)) (by first | assumption | (simp (disch := omega) only [up2_ne, up2_eq, h1b, sh6a gS, sh6b gS, st_1_m1 gS, st_1_4 gS, st_6_m2 gS, st_6_m1 gS]; first | done | rfl | omega)) (item_row H2 ge gS hI2.2 (by omega) (by omega) (by omega) (by omega) (q := 40 * x + (fr + 6 * (n : Int)) + 3) (by omega)) (Nat.zero_le _) ?_
          try simp (disch := omega) only [up2_ne, up2_eq, h1b, sh6a gS, sh6b gS, st_1_m1 gS, st_1_4 gS, st_6_m2 gS, st_6_m1 gS]
          refine wp_aload rfl dX11_asks_134 ?_
          refine wp_iload rfl dX11_asks_136 ?_
          refine wp_iconst dX11_asks_138 ?_
          refine wp_iadd dX11_asks_139 ?_
          refine wp_cV1 (ci := 8) okX8_item rfl rfl wX11_192 dX11_asks_140 rfl (Nat.le_of_ble_eq_true rfl) (Nat.le_of_ble_eq_true rfl) (by first | omega | (simp (disch := omega) only [up2_ne, up2_eq, h1b, sh6a gS, sh6b gS, st_1_m1 gS, st_1_4 gS, st_6_m2 gS, st_6_m1 gS]; first | done | omega)) (by first | assumption | (simp (disch := omega) only [up2_ne, up2_eq, h1b, sh6a gS, sh6b gS, st_1_m1 gS, st_1_4 gS, st_6_m2 gS, st_6_m1 gS]; first | done | rfl | omega)) (item_row H2 ge gS hI2.2 (by omega) (by omega) (by omega) (by omega) (q := 40 * x + (fr + 6 * (n : Int)) + 4) (by omega)) (Nat.zero_le _) ?_
          try simp (disch := omega) only [up2_ne, up2_eq, h1b, sh6a gS, sh6b gS, st_1_m1 gS, st_1_4 gS, st_6_m2 gS, st_6_m1 gS]
          refine wp_aload rfl dX11_asks_143 ?_
          refine wp_iload rfl dX11_asks_145 ?_
          refine wp_iconst dX11_asks_147 ?_
          refine wp_iadd dX11_asks_148 ?_
          refine wp_cV1 (ci := 8) okX8_item rfl rfl wX11_192 dX11_asks_149 rfl (Nat.le_of_ble_eq_true rfl) (Nat.le_of_ble_eq_true rfl) (by first | omega | (simp (disch := omega) only [up2_ne, up2_eq, h1b, sh6a gS, sh6b gS, st_1_m1 gS, st_1_4 gS, st_6_m2 gS, st_6_m1 gS]; first | done | omega)) (by first | assumption | (simp (disch := omega) only [up2_ne, up2_eq, h1b, sh6a gS, sh6b gS, st_1_m1 gS, st_1_4 gS, st_6_m2 gS, st_6_m1 gS]; first | done | rfl | omega)) (item_row H2 ge gS hI2.2 (by omega) (by omega) (by omega) (by omega) (q := 40 * x + (fr + 6 * (n : Int)) + 5) (by omega)) (Nat.zero_le _) ?_
          try simp (disch := omega) only [up2_ne, up2_eq, h1b, sh6a gS, sh6b gS, st_1_m1 gS, st_1_4 gS, st_6_m2 gS, st_6_m1 gS]
          refine wp_cV6r (ci := 11) okX11_ask rfl rfl wX11_196 dX11_asks_152 (Nat.le_of_ble_eq_true rfl) (Nat.le_of_ble_eq_true rfl) (by first | omega | (simp (disch := omega) only [up2_ne, up2_eq, h1b, sh6a gS, sh6b gS, st_1_m1 gS, st_1_4 gS, st_6_m2 gS, st_6_m1 gS]; first | done | omega)) (by first | assumption | (simp (disch := omega) only [up2_ne, up2_eq, h1b, sh6a gS, sh6b gS, st_1_m1 gS, st_1_4 gS, st_6_m2 gS, st_6_m1 gS]; first | done | rfl | omega)) (s_X11_ask (b := 0) H2 ge gS hcE0 (hcE 1 (by decide) (by decide)) (hcE 2 (by decide) (by decide)) (hcE 3 (by decide) (by decide)) (hcE 4 (by decide) (by decide)) (hcE 5 (by decide) (by decide))) (by omega) ?_
          rintro r g2 ⟨rfl, S2, e2, r2⟩ -
          show WP _ _ _ _ _ _ _ ((0, _) :: _) _
          have hav := askV_in H2 (k := m 255 (40 * x + (fr + 6 * (n : Int)))) (ho := m 255 (40 * x + (fr + 6 * (n : Int)) + 1)) (o := m 255 (40 * x + (fr + 6 * (n : Int)) + 2)) (t := m 255 (40 * x + (fr + 6 * (n : Int)) + 3)) (s := m 255 (40 * x + (fr + 6 * (n : Int)) + 4)) (dd := m 255 (40 * x + (fr + 6 * (n : Int)) + 5))
          refine wp_istore dX11_asks_155 rfl (Nat.le_of_ble_eq_true rfl) rfl ?_
          try simp only [List.set_cons_zero, List.set_cons_succ]
          refine wp_iload rfl dX11_asks_157 ?_
          refine wp_if_lt (tgt := 165) (by first | assumption | exact bI_in _ | exact ⟨by omega, by omega⟩ | exact iAnd_in | exact iOr_in | exact iShr_in | exact iShl_in | exact iXor_in | exact hxs _) dX11_asks_159 (by decide) (fun c4 => ?_) (fun c4 => ?_)
          · refine wp_iinc rfl rfl dX11_asks_165 rfl rfl ?_
            try simp only [List.set_cons_zero, List.set_cons_succ]
            refine wp_iinc rfl rfl dX11_asks_168 rfl rfl ?_
            try simp only [List.set_cons_zero, List.set_cons_succ]
            refine wp_goto (tgt := 64) dX11_asks_171 (by decide) ?_
            refine wp_dropAt 9 rfl (WP.bud (b' := b + 154 - 22 * (n + 1)) (by omega) ?_)
            have z := ih (by omega) g2 S2 e2 (fun p y w => (r2 p y w).trans (gR p y w)) (by rw [← asX_s (by omega) hE]; exact hT) (Or.inr ⟨by omega, by omega⟩)
            rw [show fr + 6 * ((n + 1 : Nat) : Int) = fr + 6 * (n : Int) + 6 by omega, asK] at z
            first
              | (rw [bI_t (by omega)] at z
                 exact z)
              | (rw [bI_f (by omega), Int.add_zero] at z
                 exact z)
          · refine wp_iinc rfl rfl dX11_asks_162 rfl rfl ?_
            try simp only [List.set_cons_zero, List.set_cons_succ]
            refine wp_iinc rfl rfl dX11_asks_165 rfl rfl ?_
            try simp only [List.set_cons_zero, List.set_cons_succ]
            refine wp_iinc rfl rfl dX11_asks_168 rfl rfl ?_
            try simp only [List.set_cons_zero, List.set_cons_succ]
            refine wp_goto (tgt := 64) dX11_asks_171 (by decide) ?_
            refine wp_dropAt 9 rfl (WP.bud (b' := b + 154 - 22 * (n + 1)) (by omega) ?_)
            have z := ih (by omega) g2 S2 e2 (fun p y w => (r2 p y w).trans (gR p y w)) (by rw [← asX_s (by omega) hE]; exact hT) (Or.inr ⟨by omega, by omega⟩)
            rw [show fr + 6 * ((n + 1 : Nat) : Int) = fr + 6 * (n : Int) + 6 by omega, asK] at z
            first
              | (rw [bI_t (by omega)] at z
                 exact z)
              | (rw [bI_f (by omega), Int.add_zero] at z
                 exact z)
        · refine wp_bipush (by decide) dX11_asks_96 ?_
          refine wp_iret dX11_asks_98 rfl ?_
          first
            | (have hz : asZ m x z nn := hz
               have en : n = nn.toNat := by omega
               subst en
               rw [Nat.sub_self] at hT
               have hT2 : asX m x fr nn.toNat 0 = nn.toNat := hT.symm
               refine ⟨?_, gS, ?_, gR⟩
               · unfold asV
                 rw [if_neg (fun y => y hz), if_neg (by omega), if_neg (fun y => y hzz), if_pos hT2]
               · unfold asQ
                 rw [if_pos ⟨hz, hzz⟩, hT2]
                 exact ge)
            | (have hz : asZ m x z nn := hz
               have hE : ¬ asE m x fr n := by omega
               rw [asX_e (by omega) hE] at hT
               refine ⟨?_, gS, ?_, gR⟩
               · unfold asV
                 rw [if_neg (fun y => y hz), if_neg (by omega), if_neg (fun y => y hzz), if_neg (by omega)]
               · unfold asQ
                 rw [if_pos ⟨hz, hzz⟩, ← hT]
                 exact ge)
  show WP (gX (gq u)) MX11_asks (d + 6) (b + 154) _ 0 [(2, 1), (0, x), (0, z), (0, fr), (0, nn), (9, 0), (9, 0), (9, 0), (9, 0), (9, 0)] [] h
  refine wp_iload_n rfl rfl dX11_asks_0 ?_
  refine wp_iconst dX11_asks_1 ?_
  refine wp_iconst dX11_asks_2 ?_
  refine wp_cS3 okX11_isWithin wX11_98 dX11_asks_3 rfl (Nat.le_of_ble_eq_true rfl) (Nat.le_of_ble_eq_true rfl) (s_X11_isWithin (by first | assumption | exact ⟨by omega, by omega⟩) (by exact ⟨by decide, by decide⟩) (by exact ⟨by decide, by decide⟩)) (Nat.zero_le _) ?_
  try simp (disch := omega) only [up2_ne, up2_eq, e, sh6a hS, sh6b hS, sh6a H.1, sh6b H.1, st_1_m1 hS, st_1_m1 H.1, st_1_4 hS, st_1_4 H.1, st_6_m2 hS, st_6_m2 H.1, st_6_m1 hS, st_6_m1 H.1]
  refine wp_ifB_eq (tgt := 21) dX11_asks_6 (by decide) (fun c5 => ?_) (fun c5 => ?_)
  · refine wp_bipush (by decide) dX11_asks_21 ?_
    refine wp_iret dX11_asks_23 rfl ?_
    first
      | (exfalso; omega)
      | (have hz : ¬ asZ m x z nn := by omega
         refine ⟨?_, hS, ?_, fun _ _ _ => rfl⟩
         · unfold asV
           rw [if_pos hz]
         · unfold asQ
           rw [if_neg (fun y => hz y.1)]
           exact e)
      | (have hz : asZ m x z nn := by omega
         refine ⟨?_, hS, ?_, fun _ _ _ => rfl⟩
         · unfold asV
           first
             | rw [if_neg (fun y => y hz), if_pos (by omega)]
             | rw [if_neg (fun y => y hz), if_neg (by omega), if_pos (by omega)]
         · unfold asQ
           rw [if_neg (by omega)]
           exact e)
  · refine wp_iload_n rfl rfl dX11_asks_9 ?_
    refine wp_cS1 okX8_isSort wX11_178 dX11_asks_10 rfl (Nat.le_of_ble_eq_true rfl) (Nat.le_of_ble_eq_true rfl) (s_X8_isSort iz) (Nat.zero_le _) ?_
    try simp (disch := omega) only [up2_ne, up2_eq, e, sh6a hS, sh6b hS, sh6a H.1, sh6b H.1, st_1_m1 hS, st_1_m1 H.1, st_1_4 hS, st_1_4 H.1, st_6_m2 hS, st_6_m2 H.1, st_6_m1 hS, st_6_m1 H.1]
    refine wp_ifB_eq (tgt := 21) dX11_asks_13 (by decide) (fun c6 => ?_) (fun c6 => ?_)
    · refine wp_bipush (by decide) dX11_asks_21 ?_
      refine wp_iret dX11_asks_23 rfl ?_
      first
        | (exfalso; omega)
        | (have hz : ¬ asZ m x z nn := by omega
           refine ⟨?_, hS, ?_, fun _ _ _ => rfl⟩
           · unfold asV
             rw [if_pos hz]
           · unfold asQ
             rw [if_neg (fun y => hz y.1)]
             exact e)
        | (have hz : asZ m x z nn := by omega
           refine ⟨?_, hS, ?_, fun _ _ _ => rfl⟩
           · unfold asV
             first
               | rw [if_neg (fun y => y hz), if_pos (by omega)]
               | rw [if_neg (fun y => y hz), if_neg (by omega), if_pos (by omega)]
           · unfold asQ
             rw [if_neg (by omega)]
             exact e)
    · refine wp_iload rfl dX11_asks_16 ?_
      refine wp_if_ge (tgt := 24) (by first | assumption | exact bI_in _ | exact ⟨by omega, by omega⟩ | exact iAnd_in | exact iOr_in | exact iShr_in | exact iShl_in | exact iXor_in | exact hxs _) dX11_asks_18 (by decide) (fun c7 => ?_) (fun c7 => ?_)
      · have hs := hs (by omega)
        have h2b : h (80 + x) 2 = m 253 x := by rw [e _ _ (by omega)]; exact hs.1
        refine wp_aload_n rfl rfl dX11_asks_24 ?_
        refine wp_getfield1 (z := 12) (kI := 4) fX11_35 dX11_asks_25 (by first | omega | (simp (disch := omega) only [up2_ne, up2_eq, e, sh6a hS, sh6b hS, sh6a H.1, sh6b H.1, st_1_m1 hS, st_1_m1 H.1, st_1_4 hS, st_1_4 H.1, st_6_m2 hS, st_6_m2 H.1, st_6_m1 hS, st_6_m1 H.1]; first | done | omega)) (by first | assumption | (simp (disch := omega) only [up2_ne, up2_eq, e, sh6a hS, sh6b hS, sh6a H.1, sh6b H.1, st_1_m1 hS, st_1_m1 H.1, st_1_4 hS, st_1_4 H.1, st_6_m2 hS, st_6_m2 H.1, st_6_m1 hS, st_6_m1 H.1]; first | done | rfl | omega)) rfl rfl ?_
        try simp (disch := omega) only [up2_ne, up2_eq, e, sh6a hS, sh6b hS, sh6a H.1, sh6b H.1, st_1_m1 hS, st_1_m1 H.1, st_1_4 hS, st_1_4 H.1, st_6_m2 hS, st_6_m2 H.1, st_6_m1 hS, st_6_m1 H.1]
        refine wp_iload_n rfl rfl dX11_asks_28 ?_
        refine wp_aaload1 dX11_asks_29 (by first | omega | (simp (disch := omega) only [up2_ne, up2_eq, e, sh6a hS, sh6b hS, sh6a H.1, sh6b H.1, st_1_m1 hS, st_1_m1 H.1, st_1_4 hS, st_1_4 H.1, st_6_m2 hS, st_6_m2 H.1, st_6_m1 hS, st_6_m1 H.1]; first | done | omega)) (by first | omega | (simp (disch := omega) only [up2_ne, up2_eq, e, sh6a hS, sh6b hS, sh6a H.1, sh6b H.1, st_1_m1 hS, st_1_m1 H.1, st_1_4 hS, st_1_4 H.1, st_6_m2 hS, st_6_m2 H.1, st_6_m1 hS, st_6_m1 H.1]; first | done | omega)) (by first | omega | (simp (disch := omega) only [up2_ne, up2_eq, e, sh6a hS, sh6b hS, sh6a H.1, sh6b H.1, st_1_m1 hS, st_1_m1 H.1, st_1_4 hS, st_1_4 H.1, st_6_m2 hS, st_6_m2 H.1, st_6_m1 hS, st_6_m1 H.1]; first | done | omega)) (by first | omega | (simp (disch := omega) only [up2_ne, up2_eq, e, sh6a hS, sh6b hS, sh6a H.1, sh6b H.1, st_1_m1 hS, st_1_m1 H.1, st_1_4 hS, st_1_4 H.1, st_6_m2 hS, st_6_m2 H.1, st_6_m1 hS, st_6_m1 H.1]; first | done | omega)) ?_
        try simp (disch := omega) only [up2_ne, up2_eq, e, sh6a hS, sh6b hS, sh6a H.1, sh6b H.1, st_1_m1 hS, st_1_m1 H.1, st_1_4 hS, st_1_4 H.1, st_6_m2 hS, st_6_m2 H.1, st_6_m1 hS, st_6_m1 H.1]
        refine wp_astore dX11_asks_30 rfl (Nat.le_of_ble_eq_true rfl) rfl ?_
        try simp only [List.set_cons_zero, List.set_cons_succ]
        refine wp_aload rfl dX11_asks_32 ?_
        refine wp_cV0 (ci := 8) okX8_isMissing rfl rfl wX11_182 dX11_asks_34 rfl (Nat.le_of_ble_eq_true rfl) (Nat.le_of_ble_eq_true rfl) (by first | omega | (simp (disch := omega) only [up2_ne, up2_eq, e, sh6a hS, sh6b hS, sh6a H.1, sh6b H.1, st_1_m1 hS, st_1_m1 H.1, st_1_4 hS, st_1_4 H.1, st_6_m2 hS, st_6_m2 H.1, st_6_m1 hS, st_6_m1 H.1]; first | done | omega)) (by first | assumption | (simp (disch := omega) only [up2_ne, up2_eq, e, sh6a hS, sh6b hS, sh6a H.1, sh6b H.1, st_1_m1 hS, st_1_m1 H.1, st_1_4 hS, st_1_4 H.1, st_6_m2 hS, st_6_m2 H.1, st_6_m1 hS, st_6_m1 H.1]; first | done | rfl | omega)) (s_X8_isMissing (s := 80 + x) (by omega) (sh6b hS (by omega) (by omega)) (by exact ⟨by omega, by omega⟩)) (Nat.zero_le _) ?_
        try simp (disch := omega) only [up2_ne, up2_eq, e, sh6a hS, sh6b hS, sh6a H.1, sh6b H.1, st_1_m1 hS, st_1_m1 H.1, st_1_4 hS, st_1_4 H.1, st_6_m2 hS, st_6_m2 H.1, st_6_m1 hS, st_6_m1 H.1]
        refine wp_ifB_eq (tgt := 43) dX11_asks_37 (by decide) (fun c8 => ?_) (fun c8 => ?_)
        · refine wp_aload rfl dX11_asks_43 ?_
          refine wp_getfield1 (z := 9) (kI := 2) fX11_186 dX11_asks_45 (by first | omega | (simp (disch := omega) only [up2_ne, up2_eq, e, sh6a hS, sh6b hS, sh6a H.1, sh6b H.1, st_1_m1 hS, st_1_m1 H.1, st_1_4 hS, st_1_4 H.1, st_6_m2 hS, st_6_m2 H.1, st_6_m1 hS, st_6_m1 H.1]; first | done | omega)) (by first | assumption | (simp (disch := omega) only [up2_ne, up2_eq, e, sh6a hS, sh6b hS, sh6a H.1, sh6b H.1, st_1_m1 hS, st_1_m1 H.1, st_1_4 hS, st_1_4 H.1, st_6_m2 hS, st_6_m2 H.1, st_6_m1 hS, st_6_m1 H.1]; first | done | rfl | omega)) rfl rfl ?_
          try simp (disch := omega) only [up2_ne, up2_eq, e, sh6a hS, sh6b hS, sh6a H.1, sh6b H.1, st_1_m1 hS, st_1_m1 H.1, st_1_4 hS, st_1_4 H.1, st_6_m2 hS, st_6_m2 H.1, st_6_m1 hS, st_6_m1 H.1]
          refine wp_iload_n rfl rfl dX11_asks_48 ?_
          refine wp_icmp_eq (tgt := 55) (by first | assumption | exact bI_in _ | exact ⟨by omega, by omega⟩ | exact iAnd_in | exact iOr_in | exact iShr_in | exact iShl_in | exact iXor_in | exact hxs _) (by first | assumption | exact bI_in _ | exact ⟨by omega, by omega⟩ | exact iAnd_in | exact iOr_in | exact iShr_in | exact iShl_in | exact iXor_in | exact hxs _) dX11_asks_49 (by decide) (fun c9 => ?_) (fun c9 => ?_)
          · refine wp_iconst dX11_asks_55 ?_
            refine wp_istore dX11_asks_56 rfl (Nat.le_of_ble_eq_true rfl) rfl ?_
            try simp only [List.set_cons_zero, List.set_cons_succ]
            refine wp_iload_n rfl rfl dX11_asks_58 ?_
            refine wp_istore dX11_asks_59 rfl (Nat.le_of_ble_eq_true rfl) rfl ?_
            try simp only [List.set_cons_zero, List.set_cons_succ]
            refine wp_iconst dX11_asks_61 ?_
            refine wp_istore dX11_asks_62 rfl (Nat.le_of_ble_eq_true rfl) rfl ?_
            try simp only [List.set_cons_zero, List.set_cons_succ]
            have hz : asZ m x z nn := by omega
            refine WP.bud (b' := b + 154 - 22 * 0) (by omega) ?_
            have l0 := loop hz (by omega) 0 (by omega) h hS e (fun _ _ _ => rfl) rfl (Or.inl rfl)
            rw [show fr + 6 * ((0 : Nat) : Int) = fr by omega] at l0
            exact l0
          · refine wp_bipush (by decide) dX11_asks_52 ?_
            refine wp_iret dX11_asks_54 rfl ?_
            first
              | (exfalso; omega)
              | (have hz : ¬ asZ m x z nn := by omega
                 refine ⟨?_, hS, ?_, fun _ _ _ => rfl⟩
                 · unfold asV
                   rw [if_pos hz]
                 · unfold asQ
                   rw [if_neg (fun y => hz y.1)]
                   exact e)
              | (have hz : asZ m x z nn := by omega
                 refine ⟨?_, hS, ?_, fun _ _ _ => rfl⟩
                 · unfold asV
                   first
                     | rw [if_neg (fun y => y hz), if_pos (by omega)]
                     | rw [if_neg (fun y => y hz), if_neg (by omega), if_pos (by omega)]
                 · unfold asQ
                   rw [if_neg (by omega)]
                   exact e)
        · refine wp_bipush (by decide) dX11_asks_40 ?_
          refine wp_iret dX11_asks_42 rfl ?_
          first
            | (exfalso; omega)
            | (have hz : ¬ asZ m x z nn := by omega
               refine ⟨?_, hS, ?_, fun _ _ _ => rfl⟩
               · unfold asV
                 rw [if_pos hz]
               · unfold asQ
                 rw [if_neg (fun y => hz y.1)]
                 exact e)
            | (have hz : asZ m x z nn := by omega
               refine ⟨?_, hS, ?_, fun _ _ _ => rfl⟩
               · unfold asV
                 first
                   | rw [if_neg (fun y => y hz), if_pos (by omega)]
                   | rw [if_neg (fun y => y hz), if_neg (by omega), if_pos (by omega)]
               · unfold asQ
                 rw [if_neg (by omega)]
                 exact e)
      · refine wp_bipush (by decide) dX11_asks_21 ?_
        refine wp_iret dX11_asks_23 rfl ?_
        first
          | (exfalso; omega)
          | (have hz : ¬ asZ m x z nn := by omega
             refine ⟨?_, hS, ?_, fun _ _ _ => rfl⟩
             · unfold asV
               rw [if_pos hz]
             · unfold asQ
               rw [if_neg (fun y => hz y.1)]
               exact e)
          | (have hz : asZ m x z nn := by omega
             refine ⟨?_, hS, ?_, fun _ _ _ => rfl⟩
             · unfold asV
               first
                 | rw [if_neg (fun y => y hz), if_pos (by omega)]
                 | rw [if_neg (fun y => y hz), if_neg (by omega), if_pos (by omega)]
             · unfold asQ
               rw [if_neg (by omega)]
               exact e)
