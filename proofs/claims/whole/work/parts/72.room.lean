/-! ===== places: the class's search for one reader more ===== -/
theorem bit1 {p r : Int} (p0 : 0 ≤ p) (p1 : p < 8) (r0 : 0 ≤ r) (r1 : r < 8) : bt (iShl 1 p) r = if r = p then 1 else 0 := by
  rcases (show p = 0 ∨ p = 1 ∨ p = 2 ∨ p = 3 ∨ p = 4 ∨ p = 5 ∨ p = 6 ∨ p = 7 by omega) with rfl | rfl | rfl | rfl | rfl | rfl | rfl | rfl <;> rcases (show r = 0 ∨ r = 1 ∨ r = 2 ∨ r = 3 ∨ r = 4 ∨ r = 5 ∨ r = 6 ∨ r = 7 by omega) with rfl | rfl | rfl | rfl | rfl | rfl | rfl | rfl <;> decide +kernel
theorem bit1_b {p : Int} (p0 : 0 ≤ p) (p1 : p < 8) : 0 ≤ iShl 1 p ∧ iShl 1 p < 256 := by
  rcases (show p = 0 ∨ p = 1 ∨ p = 2 ∨ p = 3 ∨ p = 4 ∨ p = 5 ∨ p = 6 ∨ p = 7 by omega) with rfl | rfl | rfl | rfl | rfl | rfl | rfl | rfl <;> decide +kernel
theorem pG_upd {m h1 h2 : mH} {a0 p w : Int} (R8 : m 200 6 ≤ 8) (G : pG m h1) (S : St h2) (q0 : 0 ≤ a0) (q1 : a0 < m 200 10) (p0 : 0 ≤ p) (p1 : p < m 200 6) (e : ∀ x k : Int, ¬ (x = 29 ∧ k = a0) → ¬ (x = 26 ∧ k = p) → h2 x k = h1 x k) (w0 : 0 ≤ h2 29 a0) (w1 : h2 29 a0 < 256) (wb : ∀ r : Int, 0 ≤ r → r < 8 → bt (h2 29 a0) r = if r = p then w else bt (h1 29 a0) r) (hw : w = 0 ∨ (w = 1 ∧ ¬ kb m p a0)) (hu : h2 26 p = h1 26 p + w - MH h1 a0 p) (hl : h2 26 p ≤ m 209 p) : pG m h2 ∧ (∀ a : Int, degP m (MH h2) a = degP m (MH h1) a + (if a = a0 then w - MH h1 a0 p else 0)) ∧ (∀ a r : Int, 0 ≤ r → r < 8 → ¬ (a = a0 ∧ r = p) → MH h2 a r = MH h1 a r) := by
  have hM : ∀ a r : Int, 0 ≤ r → r < 8 → MH h2 a r = MH h1 a r + (if a = a0 ∧ r = p then w - MH h1 a0 p else 0) := by
    intro a r r0 r1
    by_cases c : a = a0
    · subst c
      show bt (h2 29 a) r = _
      rw [wb r r0 r1]
      by_cases c2 : r = p
      · subst c2
        rw [if_pos rfl, if_pos ⟨rfl, rfl⟩]
        omega
      · rw [if_neg c2, if_neg (fun z => c2 z.2)]
        show bt (h1 29 a) r = bt (h1 29 a) r + 0
        omega
    · rw [if_neg (fun z => c z.1)]
      show bt (h2 29 a) r = bt (h1 29 a) r + 0
      rw [e 29 a (by omega) (by omega)]
      omega
  have hU : ∀ r : Int, 0 ≤ r → r < 8 → useP m (MH h2) r = useP m (MH h1) r + (if r = p then w - MH h1 a0 p else 0) := by
    intro r r0 r1
    unfold useP
    have e1 : sm (fun a => MH h2 a r) (m 200 10).toNat = sm (fun a => MH h1 a r + (if a = a0 then (if r = p then w - MH h1 a0 p else 0) else 0)) (m 200 10).toNat := by
      refine sm_congr _ (fun i hi => ?_)
      rw [hM _ r r0 r1]
      congr 1
      by_cases c : (i : Int) = a0
      · by_cases c2 : r = p
        · rw [if_pos ⟨c, c2⟩, if_pos c, if_pos c2]
        · rw [if_neg (fun z => c2 z.2), if_pos c, if_neg c2]
      · rw [if_neg (fun z => c z.1), if_neg c]
    rw [e1, sm_add, sm_one (g := fun _ => if r = p then w - MH h1 a0 p else 0) q0 _ (by omega)]
  refine ⟨⟨S, by rw [e _ _ (by omega) (by omega)]; exact G.2.1, by rw [e _ _ (by omega) (by omega)]; exact G.2.2.1, fun r r0 r1 => ?_, fun a b0 b1 => ?_, ?_⟩, fun a => ?_, fun a r r0 r1 q => ?_⟩
  · have g1 := G.2.2.2.1 r r0 r1
    rw [hU r r0 (by omega), e 25 r (by omega) (by omega)]
    by_cases c : r = p
    · subst c
      rw [if_pos rfl]
      exact ⟨g1.1, by omega, hl⟩
    · rw [if_neg c, e 26 r (by omega) (by omega)]
      exact ⟨g1.1, by omega, g1.2.2⟩
  · have g1 := G.2.2.2.2.1 a b0 b1
    rw [e 28 a (by omega) (by omega)]
    refine ⟨g1.1, ?_⟩
    by_cases c : a = a0
    · subst c
      refine ⟨w0, w1, fun r r0 r1 y => ?_⟩
      rw [wb r r0 r1] at y
      by_cases c2 : r = p
      · subst c2
        rw [if_pos rfl] at y
        rcases hw with z | z
        · exfalso; omega
        · exact ⟨p1, z.2⟩
      · rw [if_neg c2] at y
        exact g1.2.2.2 r r0 r1 y
    · rw [e 29 a (by omega) (by omega)]
      exact g1.2
  · rw [e 12 7 (by omega) (by omega)]
    exact G.2.2.2.2.2
  · unfold degP
    have e1 : sm (fun r => MH h2 a r) (m 200 6).toNat = sm (fun r => MH h1 a r + (if r = p then (if a = a0 then w - MH h1 a0 p else 0) else 0)) (m 200 6).toNat := by
      refine sm_congr _ (fun i hi => ?_)
      rw [hM a _ (by omega) (by omega)]
      congr 1
      by_cases c : a = a0
      · by_cases c2 : (i : Int) = p
        · rw [if_pos ⟨c, c2⟩, if_pos c2, if_pos c]
        · rw [if_neg (fun z => c2 z.2), if_neg c2]
      · rw [if_neg (fun z => c z.1), if_neg c]
        split <;> rfl
    rw [e1, sm_add, sm_one (g := fun _ => if a = a0 then w - MH h1 a0 p else 0) p0 _ (by omega)]
  · rw [hM a r r0 r1, if_neg q]
    omega
def clo (m : mH) (M : mP) (g h1 : mH) (X : Int → Bool) : Prop := (∀ y r : Int, 0 ≤ y → y < m 200 10 → 0 ≤ r → r < m 200 6 → X y = true → ¬ kb m r y → sn h1 r ∨ M y r = 1) ∧ (∀ r : Int, 0 ≤ r → r < m 200 6 → sn h1 r → ¬ sn g r → m 209 r ≤ useP m M r ∧ ∀ y : Int, 0 ≤ y → y < m 200 10 → M y r = 1 → X y = true)
abbrev Ks (g h1 : mH) : Prop := ∀ x k : Int, ¬ (x = 12 ∧ k = 7) → h1 x k = g x k
abbrev snM (g h1 : mH) : Prop := ∀ s : Int, 0 ≤ s → s < 8 → sn g s → sn h1 s
def gPost (m g : mH) (x : Int) : mV → mH → Prop := fun r h1 => pG m h1 ∧ Kp g h1 ∧ snM g h1 ∧ ((r = (0, 1) ∧ (∀ a : Int, 0 ≤ a → a < m 200 10 → degP m (MH h1) a = inc (degP m (MH g)) x a) ∧ ∀ a s : Int, 0 ≤ a → a < m 200 10 → 0 ≤ s → s < 8 → sn g s → MH h1 a s = MH g a s) ∨ (r = (0, 0) ∧ Ks g h1 ∧ ∃ X : Int → Bool, X x = true ∧ clo m (MH g) g h1 X))
def hPost (m g : mH) (p : Int) : mV → mH → Prop := fun r h1 => Kp g h1 ∧ snM g h1 ∧ ((r = (0, 1) ∧ pG m (up2 h1 26 p (h1 26 p - 1)) ∧ St h1 ∧ h1 26 p ≤ m 209 p ∧ (∀ a : Int, 0 ≤ a → a < m 200 10 → degP m (MH h1) a = degP m (MH g) a) ∧ (∀ a s : Int, 0 ≤ a → a < m 200 10 → 0 ≤ s → s < 8 → sn g s → s ≠ p → MH h1 a s = MH g a s) ∧ (∀ a : Int, 0 ≤ a → a < m 200 10 → MH h1 a p ≤ MH g a p)) ∨ (r = (0, 0) ∧ pG m h1 ∧ Ks g h1 ∧ ∃ X : Int → Bool, clo m (MH g) g h1 X ∧ m 209 p ≤ useP m (MH g) p ∧ ∀ y : Int, 0 ≤ y → y < m 200 10 → MH g y p = 1 → X y = true))
def gSpec (u : gT) (m : mH) (D : Nat) (dl : Int) : Prop := ∀ (b : Nat) (g : mH) (x : Int), pG m g → 0 ≤ x → x < m 200 10 → dl ≤ snN g → Rlt (gX (gq u)) MX4_gains D b [(2, 12), (0, x), (0, dl)] g (gPost m g x)
def hSpec (u : gT) (m : mH) (D : Nat) (dl : Int) : Prop := ∀ (b : Nat) (g : mH) (p : Int), pG m g → 0 ≤ p → p < m 200 6 → sn g p → dl + 1 ≤ snN g → Rlt (gX (gq u)) MX4_hasRoom D b [(2, 12), (0, p), (0, dl)] g (hPost m g p)
theorem MH_Ks {g h1 : mH} (k : Ks g h1) : MH h1 = MH g := by
  funext a r
  unfold MH
  rw [k 29 a (by omega)]
theorem clo_un {m g g1 h1 : mH} {M : mP} {X Y : Int → Bool} (R8 : m 200 6 ≤ 8) (c1 : clo m M g g1 X) (c2 : clo m M g1 h1 Y) (hm : snM g1 h1) : clo m M g h1 (fun y => X y || Y y) := by
  refine ⟨fun y r y0 y1 r0 r1 q o => ?_, fun r r0 r1 q1 q2 => ?_⟩
  · rcases Bool.or_eq_true _ _ |>.mp q with z | z
    · rcases c1.1 y r y0 y1 r0 r1 z o with w | w
      · exact Or.inl (hm r r0 (by omega) w)
      · exact Or.inr w
    · exact c2.1 y r y0 y1 r0 r1 z o
  · by_cases w : sn g1 r
    · have := c1.2 r r0 r1 w q2
      exact ⟨this.1, fun y y0 y1 z => by show (X y || Y y) = true; rw [this.2 y y0 y1 z]; rfl⟩
    · have := c2.2 r r0 r1 q1 w
      exact ⟨this.1, fun y y0 y1 z => by show (X y || Y y) = true; rw [this.2 y y0 y1 z]; exact Bool.or_true _⟩
theorem snN_le {g h1 : mH} (h : snM g h1) (h0 : 0 ≤ g 12 7) (h01 : g 12 7 < 256) (k0 : 0 ≤ h1 12 7) (k1 : h1 12 7 < 256) : snN g ≤ snN h1 := by
  refine sm_le 8 (fun i hi => ?_)
  have b1 := bt_01 (x := g 12 7) (i := (i : Int)) h0 (by omega) (by omega) (by omega)
  have b2 := bt_01 (x := h1 12 7) (i := (i : Int)) k0 (by omega) (by omega) (by omega)
  by_cases c : bt (g 12 7) i = 1
  · have := h i (by omega) (by omega) c
    have e : bt (h1 12 7) i = 1 := this
    omega
  · omega
theorem up2_up2 {h : mH} {a k v w : Int} : up2 (up2 h a k v) a k w = up2 h a k w := by
  funext x y
  unfold up2
  split <;> rfl
set_option maxHeartbeats 2000000 in
theorem hasRoom_row {u : gT} {m : mH} {D : Nat} {dl : Int} (R0 : 0 ≤ m 200 6 ∧ m 200 6 ≤ 8) (A0 : 0 ≤ m 200 10 ∧ m 200 10 ≤ 14) (L6 : ∀ r : Int, 0 ≤ r → r < m 200 6 → 1 ≤ m 209 r ∧ m 209 r ≤ 6) (ih : gSpec u m D (dl + 1)) : hSpec u m (D + 1) dl := by
  intro b g p G p0 p1 hs hd
  have h26 := G.2.2.2.1 p p0 p1
  have h25 := h26.1
  have hL6 := L6 p p0 p1
  have hub : 0 ≤ useP m (MH g) p := by
    have := sm_bnd (f := fun a => MH g a p) (lo := 0) (hi := 1) (m 200 10).toNat (fun i hi => MH_01 G (by omega) (by omega) p0 (by omega))
    unfold useP
    omega
  refine Rlt.of ?_
  have loop : m 209 p ≤ useP m (MH g) p → ∀ n : Nat, n ≤ (m 200 10).toNat → ∀ g1, pG m g1 → Ks g g1 → snM g g1 → (∃ X : Int → Bool, clo m (MH g) g g1 X ∧ ∀ y : Int, 0 ≤ y → y < (n : Int) → MH g y p = 1 → X y = true) → WP (gX (gq u)) MX4_hasRoom (D + 1) b (hPost m g p) 29 [(2, 12), (0, p), (0, dl), (0, (n : Int))] [] g1 := by
    intro hfull
    refine loop_w (m 200 10).toNat (fun n hn2 ih2 => ?_)
    intro g1 G1 K1 M1 hX
    have gS := G1.1
    have g6 := G1.2.2.1
    have hM1 := MH_Ks K1
    have g29 : g1 29 n = g 29 n := K1 _ _ (by omega)
    refine wp_iload_n rfl rfl dX4_hasRoom_29 ?_
    refine wp_aload_n rfl rfl dX4_hasRoom_30 ?_
    refine wp_getfield1 (z := 5) (kI := 6) fX4_31 dX4_hasRoom_31 (by first | omega | (simp (disch := omega) only [up2_ne, up2_eq, g6, st_12_m1 gS, st_12_0 gS, st_12_1 gS, st_12_4 gS, st_25_m2 gS, st_25_m1 gS, st_26_m2 gS, st_26_m1 gS, st_29_m2 gS, st_29_m1 gS]; first | done | omega)) (by first | assumption | (simp (disch := omega) only [up2_ne, up2_eq, g6, st_12_m1 gS, st_12_0 gS, st_12_1 gS, st_12_4 gS, st_25_m2 gS, st_25_m1 gS, st_26_m2 gS, st_26_m1 gS, st_29_m2 gS, st_29_m1 gS]; first | done | rfl | omega)) rfl rfl ?_
    try simp (disch := omega) only [up2_ne, up2_eq, g6, st_12_m1 gS, st_12_0 gS, st_12_1 gS, st_12_4 gS, st_25_m2 gS, st_25_m1 gS, st_26_m2 gS, st_26_m1 gS, st_29_m2 gS, st_29_m1 gS]
    refine wp_icmp_ge (tgt := 83) (by first | assumption | exact bI_in _ | exact ⟨by omega, by omega⟩ | exact iAnd_in | exact iOr_in | exact iShr_in | exact iShl_in | exact iXor_in | exact hxs _) (by first | assumption | exact bI_in _ | exact ⟨by omega, by omega⟩ | exact iAnd_in | exact iOr_in | exact iShr_in | exact iShl_in | exact iXor_in | exact hxs _) dX4_hasRoom_34 (by decide) (fun c1 => ?_) (fun c1 => ?_)
    · refine wp_iconst dX4_hasRoom_83 ?_
      refine wp_zret (by first | exact Or.inl rfl | exact Or.inr rfl | omega) dX4_hasRoom_84 rfl ?_
      first
        | (have z29 : MH h1 n p = 1 := by
             rw [cl n p (by omega) (by omega) (by omega) (by omega) (M1 p (by omega) (by omega) hs)]
             show bt (g1 29 n) p = 1
             omega
           have hb := H1.2.2.2.2.1 n (by omega) (by omega)
           have hsh := bit1_b (p := p) (by omega) (by omega)
           have han := and_not hb.2.1 hb.2.2.1 hsh.1 hsh.2
           have hu := H1.2.2.2.1 p (by omega) (by omega)
           have hx := pG_upd (h1 := h1) (h2 := up2 (up2 h1 29 n (iAnd (h1 29 n) (iXor (iShl 1 p) (-1)))) 26 p (h1 26 p - 1)) (a0 := (n : Int)) (p := p) (w := 0) (by omega) H1 ((H1.1.upA (by decide +kernel) (by omega)).upA (by decide +kernel) (by omega)) (by omega) (by omega) (by omega) (by omega) (fun x k q1 q2 => by rw [up2_ne (by omega), up2_ne (by omega)]) (by rw [up2_ne (by omega), up2_eq]; exact han.1) (by rw [up2_ne (by omega), up2_eq]; exact han.2.1) (fun r r0 r1 => by
             rw [up2_ne (by omega), up2_eq, han.2.2 r r0 r1, bit1 (by omega) (by omega) r0 r1]
             have hb01 := bt_01 (x := h1 29 n) (i := r) hb.2.1 (by have := hb.2.2.1; omega) r0 (by omega)
             by_cases c : r = p
             · rw [if_pos c, if_pos c, if_neg (by omega)]
             · rw [if_neg c, if_neg c]
               by_cases c3 : bt (h1 29 n) r = 1
               · rw [if_pos ⟨c3, rfl⟩, c3]
               · rw [if_neg (fun z => c3 z.1)]
                 omega) (Or.inl rfl) (by rw [up2_eq, z29]; omega) (by rw [up2_eq]; omega)
           have eM : MH (up2 h1 29 n (iAnd (h1 29 n) (iXor (iShl 1 p) (-1)))) = MH (up2 (up2 h1 29 n (iAnd (h1 29 n) (iXor (iShl 1 p) (-1)))) 26 p (h1 26 p - 1)) := by
             funext a r
             unfold MH
             rw [up2_ne (a := 26) (by omega)]
           refine ⟨fun x k q1 q2 => ?_, fun s s0 s1 z => ?_, Or.inl ⟨rfl, ?_, H1.1.upA (by decide +kernel) (by omega), by rw [up2_ne (by omega)]; omega, fun a a0 a1 => ?_, fun a s a0 a1 s0 s1 z zp => ?_, fun a a0 a1 => ?_⟩⟩
           · rw [up2_ne (by omega), KP x k q1 q2]
             exact K1 x k q1
           · show bt (up2 h1 29 n (iAnd (h1 29 n) (iXor (iShl 1 p) (-1))) 12 7) s = 1
             rw [up2_ne (by omega)]
             exact M3 s s0 s1 (M1 s s0 s1 z)
           · rw [up2_ne (a := 29) (b := 26) (by omega)]
             exact hx.1
           · rw [eM, hx.2.1 a, dg a a0 a1, hM1, z29]
             unfold inc
             split <;> omega
           · rw [eM, hx.2.2 a s s0 s1 (fun q => zp q.2), cl a s a0 a1 s0 s1 (M1 s s0 s1 z), hM1]
           · rw [eM]
             by_cases c : a = n
             · subst c
               have b1 := MH_01 hx.1 a0 a1 (r := p) (by omega) (by omega)
               have b2 := MH_01 G a0 a1 (r := p) (by omega) (by omega)
               have z2 : MH (up2 (up2 h1 29 n (iAnd (h1 29 n) (iXor (iShl 1 p) (-1)))) 26 p (h1 26 p - 1)) n p = 0 := by
                 show bt (up2 (up2 h1 29 n (iAnd (h1 29 n) (iXor (iShl 1 p) (-1)))) 26 p (h1 26 p - 1) 29 n) p = 0
                 rw [up2_ne (by omega), up2_eq, han.2.2 p (by omega) (by omega), bit1 (by omega) (by omega) (by omega) (by omega), if_pos rfl, if_neg (by omega)]
               omega
             · rw [hx.2.2 a p (by omega) (by omega) (fun q => c q.1), cl a p a0 a1 (by omega) (by omega) (M1 p (by omega) (by omega) hs), hM1]
               exact Int.le_refl _)
        | (obtain ⟨X, c1, c2⟩ := hX
           exact ⟨fun x k q1 q2 => K1 x k q1, M1, Or.inr ⟨rfl, G1, K1, X, c1, hfull, fun y y0 y1 z => c2 y y0 (by omega) z⟩⟩)
        | (exfalso; omega)
    · refine wp_aload_n rfl rfl dX4_hasRoom_37 ?_
      refine wp_getfield1 (z := 5) (kI := 4) fX4_24 dX4_hasRoom_38 (by first | omega | (simp (disch := omega) only [up2_ne, up2_eq, g6, st_12_m1 gS, st_12_0 gS, st_12_1 gS, st_12_4 gS, st_25_m2 gS, st_25_m1 gS, st_26_m2 gS, st_26_m1 gS, st_29_m2 gS, st_29_m1 gS]; first | done | omega)) (by first | assumption | (simp (disch := omega) only [up2_ne, up2_eq, g6, st_12_m1 gS, st_12_0 gS, st_12_1 gS, st_12_4 gS, st_25_m2 gS, st_25_m1 gS, st_26_m2 gS, st_26_m1 gS, st_29_m2 gS, st_29_m1 gS]; first | done | rfl | omega)) rfl rfl ?_
      try simp (disch := omega) only [up2_ne, up2_eq, g6, st_12_m1 gS, st_12_0 gS, st_12_1 gS, st_12_4 gS, st_25_m2 gS, st_25_m1 gS, st_26_m2 gS, st_26_m1 gS, st_29_m2 gS, st_29_m1 gS]
      refine wp_iload_n rfl rfl dX4_hasRoom_41 ?_
      refine wp_iaload1 dX4_hasRoom_42 (by first | omega | (simp (disch := omega) only [up2_ne, up2_eq, g6, st_12_m1 gS, st_12_0 gS, st_12_1 gS, st_12_4 gS, st_25_m2 gS, st_25_m1 gS, st_26_m2 gS, st_26_m1 gS, st_29_m2 gS, st_29_m1 gS]; first | done | omega)) (by first | assumption | (simp (disch := omega) only [up2_ne, up2_eq, g6, st_12_m1 gS, st_12_0 gS, st_12_1 gS, st_12_4 gS, st_25_m2 gS, st_25_m1 gS, st_26_m2 gS, st_26_m1 gS, st_29_m2 gS, st_29_m1 gS]; first | done | rfl | omega)) (by first | omega | (simp (disch := omega) only [up2_ne, up2_eq, g6, st_12_m1 gS, st_12_0 gS, st_12_1 gS, st_12_4 gS, st_25_m2 gS, st_25_m1 gS, st_26_m2 gS, st_26_m1 gS, st_29_m2 gS, st_29_m1 gS]; first | done | omega)) (by first | omega | (simp (disch := omega) only [up2_ne, up2_eq, g6, st_12_m1 gS, st_12_0 gS, st_12_1 gS, st_12_4 gS, st_25_m2 gS, st_25_m1 gS, st_26_m2 gS, st_26_m1 gS, st_29_m2 gS, st_29_m1 gS]; first | done | omega)) ?_
      try simp (disch := omega) only [up2_ne, up2_eq, g6, st_12_m1 gS, st_12_0 gS, st_12_1 gS, st_12_4 gS, st_25_m2 gS, st_25_m1 gS, st_26_m2 gS, st_26_m1 gS, st_29_m2 gS, st_29_m1 gS]
      refine wp_iload_n rfl rfl dX4_hasRoom_43 ?_
      refine wp_cSN2 okX11_hasBit wX4_41 dX4_hasRoom_44 rfl (Nat.le_of_ble_eq_true rfl) (Nat.le_of_ble_eq_true rfl) (s_X11_hasBit) (Nat.zero_le _) ?_
      try simp (disch := omega) only [up2_ne, up2_eq, g6, st_12_m1 gS, st_12_0 gS, st_12_1 gS, st_12_4 gS, st_25_m2 gS, st_25_m1 gS, st_26_m2 gS, st_26_m1 gS, st_29_m2 gS, st_29_m1 gS]
      refine wp_ifB_eq (tgt := 77) dX4_hasRoom_47 (by decide) (fun c2 => ?_) (fun c2 => ?_)
      · refine wp_iinc rfl rfl dX4_hasRoom_77 rfl rfl ?_
        try simp only [List.set_cons_zero, List.set_cons_succ]
        refine wp_goto (tgt := 29) dX4_hasRoom_80 (by decide) ?_
        first
          | (obtain ⟨X, c1, c2⟩ := hX
             refine ih2 (by omega) g1 G1 K1 M1 ⟨X, c1, fun y y0 y1 z => ?_⟩
             by_cases cy : y = n
             · exfalso
               have z2 : bt (g 29 n) p = 1 := by rw [cy] at z; exact z
               rw [← g29] at z2
               omega
             · exact c2 y y0 (by omega) z)
          | (obtain ⟨X, c1, c2⟩ := hX
             refine ih2 (by omega) h1 H1 (fun x k q => (K3 x k q).trans (K1 x k q)) (fun s s0 s1 z => M3 s s0 s1 (M1 s s0 s1 z)) ⟨fun y => X y || Y y, ?_, fun y y0 y1 z => ?_⟩
             · rw [hM1] at yc
               exact clo_un (by omega) c1 yc M3
             · by_cases cy : y = n
               · subst cy
                 show (X _ || Y _) = true
                 rw [yn]
                 exact Bool.or_true _
               · show (X y || Y y) = true
                 rw [c2 y y0 (by omega) z]
                 rfl)
      · have hbn := (G1.2.2.2.2.1 n (by omega) (by omega)).2
        have hbt := bt_01 (x := g1 29 n) (i := p) hbn.1 (by have := hbn.2.1; omega) p0 (by omega)
        refine wp_aload_n rfl rfl dX4_hasRoom_50 ?_
        refine wp_iload_n rfl rfl dX4_hasRoom_51 ?_
        refine wp_iload_n rfl rfl dX4_hasRoom_52 ?_
        refine wp_iconst dX4_hasRoom_53 ?_
        refine wp_iadd dX4_hasRoom_54 ?_
        refine wp_cV2r (ci := 4) okX4_gains rfl rfl wX4_37 dX4_hasRoom_55 (Nat.le_of_ble_eq_true rfl) (Nat.le_of_ble_eq_true rfl) (by first | omega | (simp (disch := omega) only [up2_ne, up2_eq, g6, st_12_m1 gS, st_12_0 gS, st_12_1 gS, st_12_4 gS, st_25_m2 gS, st_25_m1 gS, st_26_m2 gS, st_26_m1 gS, st_29_m2 gS, st_29_m1 gS]; first | done | omega)) (by first | assumption | (simp (disch := omega) only [up2_ne, up2_eq, g6, st_12_m1 gS, st_12_0 gS, st_12_1 gS, st_12_4 gS, st_25_m2 gS, st_25_m1 gS, st_26_m2 gS, st_26_m1 gS, st_29_m2 gS, st_29_m1 gS]; first | done | rfl | omega)) (ih 0 g1 n G1 (by omega) (by omega) (by have := snN_le M1 G.2.2.2.2.2.1 G.2.2.2.2.2.2.1 G1.2.2.2.2.2.1 G1.2.2.2.2.2.2.1; omega)) (Nat.zero_le _) ?_
        rintro r h1 ⟨H1, KP, M3, (⟨rfl, dg, cl⟩ | ⟨rfl, K3, Y, yn, yc⟩)⟩ -
        · show WP _ _ _ _ _ _ _ ((0, 1) :: _) _
          have hS1 := H1.1
          refine wp_if_eq (tgt := 77) (by first | assumption | exact bI_in _ | exact ⟨by omega, by omega⟩ | exact iAnd_in | exact iOr_in | exact iShr_in | exact iShl_in | exact iXor_in | exact hxs _) dX4_hasRoom_58 (by decide) (fun hx => absurd hx (by decide)) (fun hx => ?_)
          refine wp_aload_n rfl rfl dX4_hasRoom_61 ?_
          refine wp_getfield1 (z := 5) (kI := 4) fX4_24 dX4_hasRoom_62 (by first | omega | (simp (disch := omega) only [up2_ne, up2_eq, g6, st_12_m1 hS1, st_12_m1 gS, st_12_0 hS1, st_12_0 gS, st_12_1 hS1, st_12_1 gS, st_12_4 hS1, st_12_4 gS, st_25_m2 hS1, st_25_m2 gS, st_25_m1 hS1, st_25_m1 gS, st_26_m2 hS1, st_26_m2 gS, st_26_m1 hS1, st_26_m1 gS, st_29_m2 hS1, st_29_m2 gS, st_29_m1 hS1, st_29_m1 gS]; first | done | omega)) (by first | assumption | (simp (disch := omega) only [up2_ne, up2_eq, g6, st_12_m1 hS1, st_12_m1 gS, st_12_0 hS1, st_12_0 gS, st_12_1 hS1, st_12_1 gS, st_12_4 hS1, st_12_4 gS, st_25_m2 hS1, st_25_m2 gS, st_25_m1 hS1, st_25_m1 gS, st_26_m2 hS1, st_26_m2 gS, st_26_m1 hS1, st_26_m1 gS, st_29_m2 hS1, st_29_m2 gS, st_29_m1 hS1, st_29_m1 gS]; first | done | rfl | omega)) rfl rfl ?_
          try simp (disch := omega) only [up2_ne, up2_eq, g6, st_12_m1 hS1, st_12_m1 gS, st_12_0 hS1, st_12_0 gS, st_12_1 hS1, st_12_1 gS, st_12_4 hS1, st_12_4 gS, st_25_m2 hS1, st_25_m2 gS, st_25_m1 hS1, st_25_m1 gS, st_26_m2 hS1, st_26_m2 gS, st_26_m1 hS1, st_26_m1 gS, st_29_m2 hS1, st_29_m2 gS, st_29_m1 hS1, st_29_m1 gS]
          refine wp_iload_n rfl rfl dX4_hasRoom_65 ?_
          refine wp_dup2 (by decide) (by decide) dX4_hasRoom_66 ?_
          refine wp_iaload1 dX4_hasRoom_67 (by first | omega | (simp (disch := omega) only [up2_ne, up2_eq, g6, st_12_m1 hS1, st_12_m1 gS, st_12_0 hS1, st_12_0 gS, st_12_1 hS1, st_12_1 gS, st_12_4 hS1, st_12_4 gS, st_25_m2 hS1, st_25_m2 gS, st_25_m1 hS1, st_25_m1 gS, st_26_m2 hS1, st_26_m2 gS, st_26_m1 hS1, st_26_m1 gS, st_29_m2 hS1, st_29_m2 gS, st_29_m1 hS1, st_29_m1 gS]; first | done | omega)) (by first | assumption | (simp (disch := omega) only [up2_ne, up2_eq, g6, st_12_m1 hS1, st_12_m1 gS, st_12_0 hS1, st_12_0 gS, st_12_1 hS1, st_12_1 gS, st_12_4 hS1, st_12_4 gS, st_25_m2 hS1, st_25_m2 gS, st_25_m1 hS1, st_25_m1 gS, st_26_m2 hS1, st_26_m2 gS, st_26_m1 hS1, st_26_m1 gS, st_29_m2 hS1, st_29_m2 gS, st_29_m1 hS1, st_29_m1 gS]; first | done | rfl | omega)) (by first | omega | (simp (disch := omega) only [up2_ne, up2_eq, g6, st_12_m1 hS1, st_12_m1 gS, st_12_0 hS1, st_12_0 gS, st_12_1 hS1, st_12_1 gS, st_12_4 hS1, st_12_4 gS, st_25_m2 hS1, st_25_m2 gS, st_25_m1 hS1, st_25_m1 gS, st_26_m2 hS1, st_26_m2 gS, st_26_m1 hS1, st_26_m1 gS, st_29_m2 hS1, st_29_m2 gS, st_29_m1 hS1, st_29_m1 gS]; first | done | omega)) (by first | omega | (simp (disch := omega) only [up2_ne, up2_eq, g6, st_12_m1 hS1, st_12_m1 gS, st_12_0 hS1, st_12_0 gS, st_12_1 hS1, st_12_1 gS, st_12_4 hS1, st_12_4 gS, st_25_m2 hS1, st_25_m2 gS, st_25_m1 hS1, st_25_m1 gS, st_26_m2 hS1, st_26_m2 gS, st_26_m1 hS1, st_26_m1 gS, st_29_m2 hS1, st_29_m2 gS, st_29_m1 hS1, st_29_m1 gS]; first | done | omega)) ?_
          try simp (disch := omega) only [up2_ne, up2_eq, g6, st_12_m1 hS1, st_12_m1 gS, st_12_0 hS1, st_12_0 gS, st_12_1 hS1, st_12_1 gS, st_12_4 hS1, st_12_4 gS, st_25_m2 hS1, st_25_m2 gS, st_25_m1 hS1, st_25_m1 gS, st_26_m2 hS1, st_26_m2 gS, st_26_m1 hS1, st_26_m1 gS, st_29_m2 hS1, st_29_m2 gS, st_29_m1 hS1, st_29_m1 gS]
          refine wp_iconst dX4_hasRoom_68 ?_
          refine wp_iload_n rfl rfl dX4_hasRoom_69 ?_
          refine wp_ishl dX4_hasRoom_70 ?_
          refine wp_iconst dX4_hasRoom_71 ?_
          refine wp_ixor dX4_hasRoom_72 ?_
          refine wp_iand dX4_hasRoom_73 ?_
          refine wp_iastore1 dX4_hasRoom_74 (by first | omega | (simp (disch := omega) only [up2_ne, up2_eq, g6, st_12_m1 hS1, st_12_m1 gS, st_12_0 hS1, st_12_0 gS, st_12_1 hS1, st_12_1 gS, st_12_4 hS1, st_12_4 gS, st_25_m2 hS1, st_25_m2 gS, st_25_m1 hS1, st_25_m1 gS, st_26_m2 hS1, st_26_m2 gS, st_26_m1 hS1, st_26_m1 gS, st_29_m2 hS1, st_29_m2 gS, st_29_m1 hS1, st_29_m1 gS]; first | done | omega)) (by first | assumption | (simp (disch := omega) only [up2_ne, up2_eq, g6, st_12_m1 hS1, st_12_m1 gS, st_12_0 hS1, st_12_0 gS, st_12_1 hS1, st_12_1 gS, st_12_4 hS1, st_12_4 gS, st_25_m2 hS1, st_25_m2 gS, st_25_m1 hS1, st_25_m1 gS, st_26_m2 hS1, st_26_m2 gS, st_26_m1 hS1, st_26_m1 gS, st_29_m2 hS1, st_29_m2 gS, st_29_m1 hS1, st_29_m1 gS]; first | done | rfl | omega)) (by first | omega | (simp (disch := omega) only [up2_ne, up2_eq, g6, st_12_m1 hS1, st_12_m1 gS, st_12_0 hS1, st_12_0 gS, st_12_1 hS1, st_12_1 gS, st_12_4 hS1, st_12_4 gS, st_25_m2 hS1, st_25_m2 gS, st_25_m1 hS1, st_25_m1 gS, st_26_m2 hS1, st_26_m2 gS, st_26_m1 hS1, st_26_m1 gS, st_29_m2 hS1, st_29_m2 gS, st_29_m1 hS1, st_29_m1 gS]; first | done | omega)) (by first | omega | (simp (disch := omega) only [up2_ne, up2_eq, g6, st_12_m1 hS1, st_12_m1 gS, st_12_0 hS1, st_12_0 gS, st_12_1 hS1, st_12_1 gS, st_12_4 hS1, st_12_4 gS, st_25_m2 hS1, st_25_m2 gS, st_25_m1 hS1, st_25_m1 gS, st_26_m2 hS1, st_26_m2 gS, st_26_m1 hS1, st_26_m1 gS, st_29_m2 hS1, st_29_m2 gS, st_29_m1 hS1, st_29_m1 gS]; first | done | omega)) ?_
          refine wp_iconst dX4_hasRoom_75 ?_
          refine wp_zret (by first | exact Or.inl rfl | exact Or.inr rfl | omega) dX4_hasRoom_76 rfl ?_
          first
            | (have z29 : MH h1 n p = 1 := by
                 rw [cl n p (by omega) (by omega) (by omega) (by omega) (M1 p (by omega) (by omega) hs)]
                 show bt (g1 29 n) p = 1
                 omega
               have hb := H1.2.2.2.2.1 n (by omega) (by omega)
               have hsh := bit1_b (p := p) (by omega) (by omega)
               have han := and_not hb.2.1 hb.2.2.1 hsh.1 hsh.2
               have hu := H1.2.2.2.1 p (by omega) (by omega)
               have hx := pG_upd (h1 := h1) (h2 := up2 (up2 h1 29 n (iAnd (h1 29 n) (iXor (iShl 1 p) (-1)))) 26 p (h1 26 p - 1)) (a0 := (n : Int)) (p := p) (w := 0) (by omega) H1 ((H1.1.upA (by decide +kernel) (by omega)).upA (by decide +kernel) (by omega)) (by omega) (by omega) (by omega) (by omega) (fun x k q1 q2 => by rw [up2_ne (by omega), up2_ne (by omega)]) (by rw [up2_ne (by omega), up2_eq]; exact han.1) (by rw [up2_ne (by omega), up2_eq]; exact han.2.1) (fun r r0 r1 => by
                 rw [up2_ne (by omega), up2_eq, han.2.2 r r0 r1, bit1 (by omega) (by omega) r0 r1]
                 have hb01 := bt_01 (x := h1 29 n) (i := r) hb.2.1 (by have := hb.2.2.1; omega) r0 (by omega)
                 by_cases c : r = p
                 · rw [if_pos c, if_pos c, if_neg (by omega)]
                 · rw [if_neg c, if_neg c]
                   by_cases c3 : bt (h1 29 n) r = 1
                   · rw [if_pos ⟨c3, rfl⟩, c3]
                   · rw [if_neg (fun z => c3 z.1)]
                     omega) (Or.inl rfl) (by rw [up2_eq, z29]; omega) (by rw [up2_eq]; omega)
               have eM : MH (up2 h1 29 n (iAnd (h1 29 n) (iXor (iShl 1 p) (-1)))) = MH (up2 (up2 h1 29 n (iAnd (h1 29 n) (iXor (iShl 1 p) (-1)))) 26 p (h1 26 p - 1)) := by
                 funext a r
                 unfold MH
                 rw [up2_ne (a := 26) (by omega)]
               refine ⟨fun x k q1 q2 => ?_, fun s s0 s1 z => ?_, Or.inl ⟨rfl, ?_, H1.1.upA (by decide +kernel) (by omega), by rw [up2_ne (by omega)]; omega, fun a a0 a1 => ?_, fun a s a0 a1 s0 s1 z zp => ?_, fun a a0 a1 => ?_⟩⟩
               · rw [up2_ne (by omega), KP x k q1 q2]
                 exact K1 x k q1
               · show bt (up2 h1 29 n (iAnd (h1 29 n) (iXor (iShl 1 p) (-1))) 12 7) s = 1
                 rw [up2_ne (by omega)]
                 exact M3 s s0 s1 (M1 s s0 s1 z)
               · rw [up2_ne (a := 29) (b := 26) (by omega)]
                 exact hx.1
               · rw [eM, hx.2.1 a, dg a a0 a1, hM1, z29]
                 unfold inc
                 split <;> omega
               · rw [eM, hx.2.2 a s s0 s1 (fun q => zp q.2), cl a s a0 a1 s0 s1 (M1 s s0 s1 z), hM1]
               · rw [eM]
                 by_cases c : a = n
                 · subst c
                   have b1 := MH_01 hx.1 a0 a1 (r := p) (by omega) (by omega)
                   have b2 := MH_01 G a0 a1 (r := p) (by omega) (by omega)
                   have z2 : MH (up2 (up2 h1 29 n (iAnd (h1 29 n) (iXor (iShl 1 p) (-1)))) 26 p (h1 26 p - 1)) n p = 0 := by
                     show bt (up2 (up2 h1 29 n (iAnd (h1 29 n) (iXor (iShl 1 p) (-1)))) 26 p (h1 26 p - 1) 29 n) p = 0
                     rw [up2_ne (by omega), up2_eq, han.2.2 p (by omega) (by omega), bit1 (by omega) (by omega) (by omega) (by omega), if_pos rfl, if_neg (by omega)]
                   omega
                 · rw [hx.2.2 a p (by omega) (by omega) (fun q => c q.1), cl a p a0 a1 (by omega) (by omega) (M1 p (by omega) (by omega) hs), hM1]
                   exact Int.le_refl _)
            | (obtain ⟨X, c1, c2⟩ := hX
               exact ⟨fun x k q1 q2 => K1 x k q1, M1, Or.inr ⟨rfl, G1, K1, X, c1, hfull, fun y y0 y1 z => c2 y y0 (by omega) z⟩⟩)
            | (exfalso; omega)
        · show WP _ _ _ _ _ _ _ ((0, 0) :: _) _
          have hS1 := H1.1
          refine wp_if_eq (tgt := 77) (by first | assumption | exact bI_in _ | exact ⟨by omega, by omega⟩ | exact iAnd_in | exact iOr_in | exact iShr_in | exact iShl_in | exact iXor_in | exact hxs _) dX4_hasRoom_58 (by decide) (fun hx => ?_) (fun hx => absurd hx (by decide))
          refine wp_iinc rfl rfl dX4_hasRoom_77 rfl rfl ?_
          try simp only [List.set_cons_zero, List.set_cons_succ]
          refine wp_goto (tgt := 29) dX4_hasRoom_80 (by decide) ?_
          first
            | (obtain ⟨X, c1, c2⟩ := hX
               refine ih2 (by omega) g1 G1 K1 M1 ⟨X, c1, fun y y0 y1 z => ?_⟩
               by_cases cy : y = n
               · exfalso
                 have z2 : bt (g 29 n) p = 1 := by rw [cy] at z; exact z
                 rw [← g29] at z2
                 omega
               · exact c2 y y0 (by omega) z)
            | (obtain ⟨X, c1, c2⟩ := hX
               refine ih2 (by omega) h1 H1 (fun x k q => (K3 x k q).trans (K1 x k q)) (fun s s0 s1 z => M3 s s0 s1 (M1 s s0 s1 z)) ⟨fun y => X y || Y y, ?_, fun y y0 y1 z => ?_⟩
               · rw [hM1] at yc
                 exact clo_un (by omega) c1 yc M3
               · by_cases cy : y = n
                 · subst cy
                   show (X _ || Y _) = true
                   rw [yn]
                   exact Bool.or_true _
                 · show (X y || Y y) = true
                   rw [c2 y y0 (by omega) z]
                   rfl)
  show WP (gX (gq u)) MX4_hasRoom (D + 1) b _ 0 [(2, 12), (0, p), (0, dl), (9, 0)] [] g
  refine wp_aload_n rfl rfl dX4_hasRoom_0 ?_
  refine wp_getfield1 (z := 5) (kI := 1) fX4_15 dX4_hasRoom_1 (by first | omega | (simp (disch := omega) only [up2_ne, up2_eq, h25, st_12_m1 G.1, st_12_0 G.1, st_12_1 G.1, st_12_4 G.1, st_25_m2 G.1, st_25_m1 G.1, st_26_m2 G.1, st_26_m1 G.1, st_29_m2 G.1, st_29_m1 G.1]; first | done | omega)) (by first | assumption | (simp (disch := omega) only [up2_ne, up2_eq, h25, st_12_m1 G.1, st_12_0 G.1, st_12_1 G.1, st_12_4 G.1, st_25_m2 G.1, st_25_m1 G.1, st_26_m2 G.1, st_26_m1 G.1, st_29_m2 G.1, st_29_m1 G.1]; first | done | rfl | omega)) rfl rfl ?_
  try simp (disch := omega) only [up2_ne, up2_eq, h25, st_12_m1 G.1, st_12_0 G.1, st_12_1 G.1, st_12_4 G.1, st_25_m2 G.1, st_25_m1 G.1, st_26_m2 G.1, st_26_m1 G.1, st_29_m2 G.1, st_29_m1 G.1]
  refine wp_iload_n rfl rfl dX4_hasRoom_4 ?_
  refine wp_iaload1 dX4_hasRoom_5 (by first | omega | (simp (disch := omega) only [up2_ne, up2_eq, h25, st_12_m1 G.1, st_12_0 G.1, st_12_1 G.1, st_12_4 G.1, st_25_m2 G.1, st_25_m1 G.1, st_26_m2 G.1, st_26_m1 G.1, st_29_m2 G.1, st_29_m1 G.1]; first | done | omega)) (by first | assumption | (simp (disch := omega) only [up2_ne, up2_eq, h25, st_12_m1 G.1, st_12_0 G.1, st_12_1 G.1, st_12_4 G.1, st_25_m2 G.1, st_25_m1 G.1, st_26_m2 G.1, st_26_m1 G.1, st_29_m2 G.1, st_29_m1 G.1]; first | done | rfl | omega)) (by first | omega | (simp (disch := omega) only [up2_ne, up2_eq, h25, st_12_m1 G.1, st_12_0 G.1, st_12_1 G.1, st_12_4 G.1, st_25_m2 G.1, st_25_m1 G.1, st_26_m2 G.1, st_26_m1 G.1, st_29_m2 G.1, st_29_m1 G.1]; first | done | omega)) (by first | omega | (simp (disch := omega) only [up2_ne, up2_eq, h25, st_12_m1 G.1, st_12_0 G.1, st_12_1 G.1, st_12_4 G.1, st_25_m2 G.1, st_25_m1 G.1, st_26_m2 G.1, st_26_m1 G.1, st_29_m2 G.1, st_29_m1 G.1]; first | done | omega)) ?_
  try simp (disch := omega) only [up2_ne, up2_eq, h25, st_12_m1 G.1, st_12_0 G.1, st_12_1 G.1, st_12_4 G.1, st_25_m2 G.1, st_25_m1 G.1, st_26_m2 G.1, st_26_m1 G.1, st_29_m2 G.1, st_29_m1 G.1]
  refine wp_aload_n rfl rfl dX4_hasRoom_6 ?_
  refine wp_getfield1 (z := 5) (kI := 0) fX4_9 dX4_hasRoom_7 (by first | omega | (simp (disch := omega) only [up2_ne, up2_eq, h25, st_12_m1 G.1, st_12_0 G.1, st_12_1 G.1, st_12_4 G.1, st_25_m2 G.1, st_25_m1 G.1, st_26_m2 G.1, st_26_m1 G.1, st_29_m2 G.1, st_29_m1 G.1]; first | done | omega)) (by first | assumption | (simp (disch := omega) only [up2_ne, up2_eq, h25, st_12_m1 G.1, st_12_0 G.1, st_12_1 G.1, st_12_4 G.1, st_25_m2 G.1, st_25_m1 G.1, st_26_m2 G.1, st_26_m1 G.1, st_29_m2 G.1, st_29_m1 G.1]; first | done | rfl | omega)) rfl rfl ?_
  try simp (disch := omega) only [up2_ne, up2_eq, h25, st_12_m1 G.1, st_12_0 G.1, st_12_1 G.1, st_12_4 G.1, st_25_m2 G.1, st_25_m1 G.1, st_26_m2 G.1, st_26_m1 G.1, st_29_m2 G.1, st_29_m1 G.1]
  refine wp_iload_n rfl rfl dX4_hasRoom_10 ?_
  refine wp_iaload1 dX4_hasRoom_11 (by first | omega | (simp (disch := omega) only [up2_ne, up2_eq, h25, st_12_m1 G.1, st_12_0 G.1, st_12_1 G.1, st_12_4 G.1, st_25_m2 G.1, st_25_m1 G.1, st_26_m2 G.1, st_26_m1 G.1, st_29_m2 G.1, st_29_m1 G.1]; first | done | omega)) (by first | assumption | (simp (disch := omega) only [up2_ne, up2_eq, h25, st_12_m1 G.1, st_12_0 G.1, st_12_1 G.1, st_12_4 G.1, st_25_m2 G.1, st_25_m1 G.1, st_26_m2 G.1, st_26_m1 G.1, st_29_m2 G.1, st_29_m1 G.1]; first | done | rfl | omega)) (by first | omega | (simp (disch := omega) only [up2_ne, up2_eq, h25, st_12_m1 G.1, st_12_0 G.1, st_12_1 G.1, st_12_4 G.1, st_25_m2 G.1, st_25_m1 G.1, st_26_m2 G.1, st_26_m1 G.1, st_29_m2 G.1, st_29_m1 G.1]; first | done | omega)) (by first | omega | (simp (disch := omega) only [up2_ne, up2_eq, h25, st_12_m1 G.1, st_12_0 G.1, st_12_1 G.1, st_12_4 G.1, st_25_m2 G.1, st_25_m1 G.1, st_26_m2 G.1, st_26_m1 G.1, st_29_m2 G.1, st_29_m1 G.1]; first | done | omega)) ?_
  try simp (disch := omega) only [up2_ne, up2_eq, h25, st_12_m1 G.1, st_12_0 G.1, st_12_1 G.1, st_12_4 G.1, st_25_m2 G.1, st_25_m1 G.1, st_26_m2 G.1, st_26_m1 G.1, st_29_m2 G.1, st_29_m1 G.1]
  refine wp_icmp_ge (tgt := 27) (by first | assumption | exact bI_in _ | exact ⟨by omega, by omega⟩ | exact iAnd_in | exact iOr_in | exact iShr_in | exact iShl_in | exact iXor_in | exact hxs _) (by first | assumption | exact bI_in _ | exact ⟨by omega, by omega⟩ | exact iAnd_in | exact iOr_in | exact iShr_in | exact iShl_in | exact iXor_in | exact hxs _) dX4_hasRoom_12 (by decide) (fun c3 => ?_) (fun c3 => ?_)
  · refine wp_iconst dX4_hasRoom_27 ?_
    refine wp_istore_n rfl dX4_hasRoom_28 rfl (Nat.le_of_ble_eq_true rfl) rfl ?_
    try simp only [List.set_cons_zero, List.set_cons_succ]
    exact loop (by omega) 0 (by omega) g G (fun _ _ _ => rfl) (fun _ _ _ z => z) ⟨fun _ => false, ⟨fun y r _ _ _ _ q => absurd q Bool.false_ne_true, fun r _ _ q1 q2 => absurd q1 q2⟩, fun y y0 y1 => by exfalso; omega⟩
  · refine wp_aload_n rfl rfl dX4_hasRoom_15 ?_
    refine wp_getfield1 (z := 5) (kI := 1) fX4_15 dX4_hasRoom_16 (by first | omega | (simp (disch := omega) only [up2_ne, up2_eq, h25, st_12_m1 G.1, st_12_0 G.1, st_12_1 G.1, st_12_4 G.1, st_25_m2 G.1, st_25_m1 G.1, st_26_m2 G.1, st_26_m1 G.1, st_29_m2 G.1, st_29_m1 G.1]; first | done | omega)) (by first | assumption | (simp (disch := omega) only [up2_ne, up2_eq, h25, st_12_m1 G.1, st_12_0 G.1, st_12_1 G.1, st_12_4 G.1, st_25_m2 G.1, st_25_m1 G.1, st_26_m2 G.1, st_26_m1 G.1, st_29_m2 G.1, st_29_m1 G.1]; first | done | rfl | omega)) rfl rfl ?_
    try simp (disch := omega) only [up2_ne, up2_eq, h25, st_12_m1 G.1, st_12_0 G.1, st_12_1 G.1, st_12_4 G.1, st_25_m2 G.1, st_25_m1 G.1, st_26_m2 G.1, st_26_m1 G.1, st_29_m2 G.1, st_29_m1 G.1]
    refine wp_iload_n rfl rfl dX4_hasRoom_19 ?_
    refine wp_dup2 (by decide) (by decide) dX4_hasRoom_20 ?_
    refine wp_iaload1 dX4_hasRoom_21 (by first | omega | (simp (disch := omega) only [up2_ne, up2_eq, h25, st_12_m1 G.1, st_12_0 G.1, st_12_1 G.1, st_12_4 G.1, st_25_m2 G.1, st_25_m1 G.1, st_26_m2 G.1, st_26_m1 G.1, st_29_m2 G.1, st_29_m1 G.1]; first | done | omega)) (by first | assumption | (simp (disch := omega) only [up2_ne, up2_eq, h25, st_12_m1 G.1, st_12_0 G.1, st_12_1 G.1, st_12_4 G.1, st_25_m2 G.1, st_25_m1 G.1, st_26_m2 G.1, st_26_m1 G.1, st_29_m2 G.1, st_29_m1 G.1]; first | done | rfl | omega)) (by first | omega | (simp (disch := omega) only [up2_ne, up2_eq, h25, st_12_m1 G.1, st_12_0 G.1, st_12_1 G.1, st_12_4 G.1, st_25_m2 G.1, st_25_m1 G.1, st_26_m2 G.1, st_26_m1 G.1, st_29_m2 G.1, st_29_m1 G.1]; first | done | omega)) (by first | omega | (simp (disch := omega) only [up2_ne, up2_eq, h25, st_12_m1 G.1, st_12_0 G.1, st_12_1 G.1, st_12_4 G.1, st_25_m2 G.1, st_25_m1 G.1, st_26_m2 G.1, st_26_m1 G.1, st_29_m2 G.1, st_29_m1 G.1]; first | done | omega)) ?_
    try simp (disch := omega) only [up2_ne, up2_eq, h25, st_12_m1 G.1, st_12_0 G.1, st_12_1 G.1, st_12_4 G.1, st_25_m2 G.1, st_25_m1 G.1, st_26_m2 G.1, st_26_m1 G.1, st_29_m2 G.1, st_29_m1 G.1]
    refine wp_iconst dX4_hasRoom_22 ?_
    refine wp_iadd dX4_hasRoom_23 ?_
    refine wp_iastore1 dX4_hasRoom_24 (by first | omega | (simp (disch := omega) only [up2_ne, up2_eq, h25, st_12_m1 G.1, st_12_0 G.1, st_12_1 G.1, st_12_4 G.1, st_25_m2 G.1, st_25_m1 G.1, st_26_m2 G.1, st_26_m1 G.1, st_29_m2 G.1, st_29_m1 G.1]; first | done | omega)) (by first | assumption | (simp (disch := omega) only [up2_ne, up2_eq, h25, st_12_m1 G.1, st_12_0 G.1, st_12_1 G.1, st_12_4 G.1, st_25_m2 G.1, st_25_m1 G.1, st_26_m2 G.1, st_26_m1 G.1, st_29_m2 G.1, st_29_m1 G.1]; first | done | rfl | omega)) (by first | omega | (simp (disch := omega) only [up2_ne, up2_eq, h25, st_12_m1 G.1, st_12_0 G.1, st_12_1 G.1, st_12_4 G.1, st_25_m2 G.1, st_25_m1 G.1, st_26_m2 G.1, st_26_m1 G.1, st_29_m2 G.1, st_29_m1 G.1]; first | done | omega)) (by first | omega | (simp (disch := omega) only [up2_ne, up2_eq, h25, st_12_m1 G.1, st_12_0 G.1, st_12_1 G.1, st_12_4 G.1, st_25_m2 G.1, st_25_m1 G.1, st_26_m2 G.1, st_26_m1 G.1, st_29_m2 G.1, st_29_m1 G.1]; first | done | omega)) ?_
    refine wp_iconst dX4_hasRoom_25 ?_
    refine wp_zret (by first | exact Or.inl rfl | exact Or.inr rfl | omega) dX4_hasRoom_26 rfl ?_
    first
      | (exfalso; omega)
      | (refine ⟨fun x k q1 q2 => up2_ne (by omega), fun s s0 s1 z => ?_, Or.inl ⟨rfl, ?_, G.1.upA (by decide +kernel) (by omega), by rw [up2_eq]; omega, fun a _ _ => rfl, fun a s _ _ _ _ _ _ => rfl, fun a _ _ => Int.le_refl _⟩⟩
         · show bt (up2 g 26 p (g 26 p + 1) 12 7) s = 1
           rw [up2_ne (by omega)]
           exact z
         · rw [up2_eq, show g 26 p + 1 - 1 = g 26 p by omega, up2_up2, up2_same rfl]
           exact G)
