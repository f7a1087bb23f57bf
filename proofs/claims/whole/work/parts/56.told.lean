/-! ===== what Inv tells of the class, in the words of the reference ===== -/
theorem Inv.n11 {j : Nat} {h : mH} (H : Inv j h)  : h 1 11 = h 200 0 := by
  have := H.2.1
  unfold iN at this
  omega
theorem Inv.n12 {j : Nat} {h : mH} (H : Inv j h)  : h 1 12 = h 200 6 := by
  have := H.2.1
  unfold iN at this
  omega
theorem Inv.n13 {j : Nat} {h : mH} (H : Inv j h)  : h 1 13 = h 200 10 := by
  have := H.2.1
  unfold iN at this
  omega
theorem Inv.n14 {j : Nat} {h : mH} (H : Inv j h)  : h 1 14 = h 200 30 := by
  have := H.2.1
  unfold iN at this
  omega
theorem Inv.n15 {j : Nat} {h : mH} (H : Inv j h)  : h 1 15 = h 200 31 := by
  have := H.2.1
  unfold iN at this
  omega
theorem Inv.n71 {j : Nat} {h : mH} (H : Inv j h)  : h 7 1 = h 200 29 := by
  have := H.2.1
  unfold iN at this
  omega
theorem Inv.a4 {j : Nat} {h : mH} (H : Inv j h) {a : Int} (a0 : 0 ≤ a) (a1 : a < h 200 10) : h 4 a = 120 + a := by
  have hn := H.2.1
  unfold iN at hn
  have := H.2.2.2.2.1 a a0 (by omega)
  omega
theorem Inv.az {j : Nat} {h : mH} (H : Inv j h) {a : Int} (a0 : 0 ≤ a) (a1 : a < h 200 10) : h (120 + a) (-1) = 1 := by
  have hn := H.2.1
  unfold iN at hn
  have := H.2.2.2.2.1 a a0 (by omega)
  omega
theorem Inv.a0 {j : Nat} {h : mH} (H : Inv j h) {a : Int} (a0 : 0 ≤ a) (a1 : a < h 200 10) : h (120 + a) 0 = h 211 a := by
  have hn := H.2.1
  unfold iN at hn
  have := H.2.2.2.2.1 a a0 (by omega)
  omega
theorem Inv.a1 {j : Nat} {h : mH} (H : Inv j h) {a : Int} (a0 : 0 ≤ a) (a1 : a < h 200 10) : h (120 + a) 1 = h 212 a := by
  have hn := H.2.1
  unfold iN at hn
  have := H.2.2.2.2.1 a a0 (by omega)
  omega
theorem Inv.a2 {j : Nat} {h : mH} (H : Inv j h) {a : Int} (a0 : 0 ≤ a) (a1 : a < h 200 10) : h (120 + a) 2 = h 213 a := by
  have hn := H.2.1
  unfold iN at hn
  have := H.2.2.2.2.1 a a0 (by omega)
  omega
theorem Inv.a3 {j : Nat} {h : mH} (H : Inv j h) {a : Int} (a0 : 0 ≤ a) (a1 : a < h 200 10) : h (120 + a) 3 = h 214 a := by
  have hn := H.2.1
  unfold iN at hn
  have := H.2.2.2.2.1 a a0 (by omega)
  omega
theorem Inv.as {j : Nat} {h : mH} (H : Inv j h) {a : Int} (a0 : 0 ≤ a) (a1 : a < h 200 10) : h (120 + a) 4 = h 215 a := by
  have hn := H.2.1
  unfold iN at hn
  have := H.2.2.2.2.1 a a0 (by omega)
  omega
theorem Inv.a5 {j : Nat} {h : mH} (H : Inv j h) {a : Int} (a0 : 0 ≤ a) (a1 : a < h 200 10) : h (120 + a) 5 = h 216 a := by
  have hn := H.2.1
  unfold iN at hn
  have := H.2.2.2.2.1 a a0 (by omega)
  omega
theorem Inv.a6 {j : Nat} {h : mH} (H : Inv j h) {a : Int} (a0 : 0 ≤ a) (a1 : a < h 200 10) : h (120 + a) 6 = h 217 a := by
  have hn := H.2.1
  unfold iN at hn
  have := H.2.2.2.2.1 a a0 (by omega)
  omega
theorem Inv.a7 {j : Nat} {h : mH} (H : Inv j h) {a : Int} (a0 : 0 ≤ a) (a1 : a < h 200 10) : h (120 + a) 7 = 140 + a := by
  have hn := H.2.1
  unfold iN at hn
  have := H.2.2.2.2.1 a a0 (by omega)
  omega
theorem Inv.amz {j : Nat} {h : mH} (H : Inv j h) {a : Int} (a0 : 0 ≤ a) (a1 : a < h 200 10) : h (140 + a) (-1) = 20 := by
  have hn := H.2.1
  unfold iN at hn
  have := H.2.2.2.2.1 a a0 (by omega)
  omega
theorem Inv.aml {j : Nat} {h : mH} (H : Inv j h) {a : Int} (a0 : 0 ≤ a) (a1 : a < h 200 10) : h (140 + a) (-2) = 8 := by
  have hn := H.2.1
  unfold iN at hn
  have := H.2.2.2.2.1 a a0 (by omega)
  omega
theorem Inv.a9 {j : Nat} {h : mH} (H : Inv j h) {a : Int} (a0 : 0 ≤ a) (a1 : a < h 200 10) : h (120 + a) 9 = h 218 a := by
  have hn := H.2.1
  unfold iN at hn
  have := H.2.2.2.2.1 a a0 (by omega)
  omega
theorem Inv.r3 {j : Nat} {h : mH} (H : Inv j h) {r : Int} (r0 : 0 ≤ r) (r1 : r < h 200 6) : h 3 r = 110 + r := by
  have hn := H.2.1
  unfold iN at hn
  have := H.2.2.2.1 r r0 (by omega)
  omega
theorem Inv.rz {j : Nat} {h : mH} (H : Inv j h) {r : Int} (r0 : 0 ≤ r) (r1 : r < h 200 6) : h (110 + r) (-1) = 7 := by
  have hn := H.2.1
  unfold iN at hn
  have := H.2.2.2.1 r r0 (by omega)
  omega
theorem Inv.ri {j : Nat} {h : mH} (H : Inv j h) {r : Int} (r0 : 0 ≤ r) (r1 : r < h 200 6) : h (110 + r) 0 = r := by
  have hn := H.2.1
  unfold iN at hn
  have := H.2.2.2.1 r r0 (by omega)
  omega
theorem Inv.rt {j : Nat} {h : mH} (H : Inv j h) {r : Int} (r0 : 0 ≤ r) (r1 : r < h 200 6) : h (110 + r) 1 = h 207 r := by
  have hn := H.2.1
  unfold iN at hn
  have := H.2.2.2.1 r r0 (by omega)
  omega
theorem Inv.rh {j : Nat} {h : mH} (H : Inv j h) {r : Int} (r0 : 0 ≤ r) (r1 : r < h 200 6) : h (110 + r) 2 = h 208 r := by
  have hn := H.2.1
  unfold iN at hn
  have := H.2.2.2.1 r r0 (by omega)
  omega
theorem Inv.rl {j : Nat} {h : mH} (H : Inv j h) {r : Int} (r0 : 0 ≤ r) (r1 : r < h 200 6) : h (110 + r) 3 = h 209 r := by
  have hn := H.2.1
  unfold iN at hn
  have := H.2.2.2.1 r r0 (by omega)
  omega
theorem Inv.rr {j : Nat} {h : mH} (H : Inv j h) {r : Int} (r0 : 0 ≤ r) (r1 : r < h 200 6) : h (110 + r) 4 = rds h r := by
  have hn := H.2.1
  unfold iN at hn
  have := H.2.2.2.1 r r0 (by omega)
  omega
theorem Inv.f2 {j : Nat} {h : mH} (H : Inv j h) {f : Int} (f0 : 0 ≤ f) (f1 : f < h 200 0) : h 2 f = 100 + f := by
  have hn := H.2.1
  unfold iN at hn
  have := H.2.2.1 f f0 (by omega)
  omega
theorem Inv.fz {j : Nat} {h : mH} (H : Inv j h) {f : Int} (f0 : 0 ≤ f) (f1 : f < h 200 0) : h (100 + f) (-1) = 3 := by
  have hn := H.2.1
  unfold iN at hn
  have := H.2.2.1 f f0 (by omega)
  omega
theorem Inv.fe {j : Nat} {h : mH} (H : Inv j h) {f : Int} (f0 : 0 ≤ f) (f1 : f < h 200 0) : h (100 + f) 0 = h 201 f := by
  have hn := H.2.1
  unfold iN at hn
  have := H.2.2.1 f f0 (by omega)
  omega
theorem Inv.fg {j : Nat} {h : mH} (H : Inv j h) {f : Int} (f0 : 0 ≤ f) (f1 : f < h 200 0) : h (100 + f) 1 = h 202 f := by
  have hn := H.2.1
  unfold iN at hn
  have := H.2.2.1 f f0 (by omega)
  omega
theorem Inv.fl {j : Nat} {h : mH} (H : Inv j h) {f : Int} (f0 : 0 ≤ f) (f1 : f < h 200 0) : h (100 + f) 2 = h 203 f := by
  have hn := H.2.1
  unfold iN at hn
  have := H.2.2.1 f f0 (by omega)
  omega
theorem Inv.fp {j : Nat} {h : mH} (H : Inv j h) {f : Int} (f0 : 0 ≤ f) (f1 : f < h 200 0) : h (100 + f) 3 = h 204 f := by
  have hn := H.2.1
  unfold iN at hn
  have := H.2.2.1 f f0 (by omega)
  omega
theorem Inv.fd {j : Nat} {h : mH} (H : Inv j h) {f : Int} (f0 : 0 ≤ f) (f1 : f < h 200 0) : h (100 + f) 4 = h 205 f := by
  have hn := H.2.1
  unfold iN at hn
  have := H.2.2.1 f f0 (by omega)
  omega
theorem Inv.ra {j : Nat} {h : mH} (H : Inv j h) {a : Int} (a0 : 0 ≤ a) (a1 : a < 14) : (0 ≤ h 211 a ∧ h 211 a ≤ 5) ∧ (0 ≤ h 212 a ∧ h 212 a ≤ 9) ∧ (-1 ≤ h 213 a ∧ h 213 a ≤ 9) ∧ (0 ≤ h 214 a ∧ h 214 a ≤ 5) ∧ (0 ≤ h 215 a ∧ h 215 a ≤ 9999) ∧ (0 ≤ h 216 a ∧ h 216 a ≤ 999) ∧ (0 ≤ h 217 a ∧ h 217 a < h 200 30) ∧ (0 ≤ h 218 a ∧ h 218 a < 256) := by
  have := (H.2.2.2.2.1 a a0 a1).2
  omega
theorem Inv.rr2 {j : Nat} {h : mH} (H : Inv j h) {r : Int} (r0 : 0 ≤ r) (r1 : r < 8) : (0 ≤ h 207 r ∧ h 207 r ≤ 63) ∧ (0 ≤ h 208 r ∧ h 208 r ≤ 9) := by
  have := (H.2.2.2.1 r r0 r1).2
  omega
theorem Inv.rm {j : Nat} {h : mH} (H : Inv j h) {a r : Int} (a0 : 0 ≤ a) (a1 : a < 14) (r0 : 0 ≤ r) (r1 : r < 8) : (0 ≤ h 219 (8 * a + r) ∧ h 219 (8 * a + r) ≤ 1) ∧ (-1 ≤ h 220 (8 * a + r) ∧ h 220 (8 * a + r) ≤ 100) := by
  have := (H.2.2.2.2.2.1 a r a0 a1 r0 r1).2
  omega
theorem Inv.rk {j : Nat} {h : mH} (H : Inv j h) {k : Int} (k0 : 0 ≤ k) (k1 : k < 112) : (0 ≤ h 219 k ∧ h 219 k ≤ 1) ∧ (-1 ≤ h 220 k ∧ h 220 k ≤ 100) := by
  have := H.rm (a := k / 8) (r := k % 8) (by omega) (by omega) (by omega) (by omega)
  rw [show 8 * (k / 8) + k % 8 = k by omega] at this
  exact this
theorem Inv.ns {j : Nat} {h : mH} (H : Inv j h)  : (0 ≤ h 200 0 ∧ h 200 0 ≤ 5) ∧ (0 ≤ h 200 6 ∧ h 200 6 ≤ 8) ∧ (0 ≤ h 200 10 ∧ h 200 10 ≤ 14) ∧ (1 ≤ h 200 30 ∧ h 200 30 ≤ 6) ∧ (0 ≤ h 200 31 ∧ h 200 31 < h 200 30) ∧ (0 ≤ h 200 29 ∧ h 200 29 ≤ 160) := by
  have hn := H.2.1
  unfold iN at hn
  omega
abbrev kb (h : mH) (r a : Int) : Prop := h 219 (8 * a + r) ≠ 0 ∨ h 208 r = h 212 a ∨ h 208 r = h 213 a
theorem Inv.kb {j : Nat} {h : mH} (H : Inv j h) {a r : Int} (a0 : 0 ≤ a) (a1 : a < h 200 10) (r0 : 0 ≤ r) (r1 : r < h 200 6) : (bt (h (120 + a) 10) (h (110 + r) 0) ≠ 0 ∨ h (110 + r) 2 = h (120 + a) 1 ∨ h (110 + r) 2 = h (120 + a) 2) ↔ kb h r a := by
  have hn := H.ns
  have hb := H.2.2.2.2.2.1 a r a0 (by omega) r0 (by omega)
  rw [H.ri r0 r1, H.rh r0 r1, H.a1 a0 a1, H.a2 a0 a1]
  rcases hb.1 with q | q
  · rw [q.2.2.2.2.2.1]
  · exfalso; omega
theorem Inv.mk {j : Nat} {h : mH} (H : Inv j h) {a r : Int} (a0 : 0 ≤ a) (a1 : a < h 200 10) (r0 : 0 ≤ r) (r1 : r < h 200 6) : (bt (h (120 + a) 8) r = 0 ∧ h 220 (8 * a + r) = -1) ∨ (bt (h (120 + a) 8) r = 1 ∧ h (140 + a) r = h 220 (8 * a + r) ∧ 0 ≤ h 220 (8 * a + r) ∧ bt (h 218 a) r = 1) := by
  have hn := H.ns
  have hb := H.2.2.2.2.2.1 a r a0 (by omega) r0 (by omega)
  rcases hb.1 with q | q
  · exact q.2.2.2.2.2.2.2
  · exfalso; omega
theorem Inv.kc {j : Nat} {h : mH} (H : Inv j h) {a r : Int} (a0 : 0 ≤ a) (a1 : a < h 200 10) (r0 : 0 ≤ r) (r1 : r < h 200 6) : (bt (h (120 + a) 8) (h (110 + r) 0) ≠ 0 ∧ ¬ (bt (h (120 + a) 10) (h (110 + r) 0) ≠ 0 ∨ h (110 + r) 2 = h (120 + a) 1 ∨ h (110 + r) 2 = h (120 + a) 2)) ↔ kc h r a := by
  rw [H.kb a0 a1 r0 r1, H.ri r0 r1]
  have := H.mk a0 a1 r0 r1
  refine and_congr ?_ Iff.rfl
  omega
abbrev Cl (h m : mH) : Prop := ∀ x k : Int, x < 200 ∧ ¬ (0 ≤ k ∧ ((8 ≤ x ∧ x ≤ 12) ∨ (14 ≤ x ∧ x ≤ 35) ∨ (70 ≤ x ∧ x ≤ 75) ∨ (x = 7 ∧ 5 ≤ k) ∨ (40 ≤ x ∧ x ≤ 45 ∧ 3 ≤ k))) → h x k = m x k
abbrev Cr (h m : mH) : Prop := ∀ x k : Int, 200 ≤ x ∧ ¬ (0 ≤ k ∧ ((x = 200 ∧ (38 ≤ k ∧ k ≤ 41 ∨ k = 43 ∨ k = 48 ∨ k = 49)) ∨ x = 242 ∨ x = 244 ∨ x = 245 ∨ x = 246 ∨ x = 247 ∨ x = 250 ∨ x = 251)) → h x k = m x k
abbrev Re (h h1 : mH) : Prop := ∀ x k : Int, 200 ≤ x → h1 x k = h x k
abbrev Ce (h h1 : mH) : Prop := ∀ x k : Int, x < 200 → h1 x k = h x k
theorem Inv_step {j : Nat} {h1 h2 m : mH} (H : Inv j m) (hS : St h2) (ec : Cl h1 m) (ee : Ce h1 h2) (er : Cr h2 m) : Inv (j + 1) h2 := by
  refine Inv_scr hS (fun x k q => ?_) H
  unfold scr at q
  by_cases c : x < 200
  · rw [ee x k c, ec x k (by omega)]
  · exact er x k (by omega)
theorem hm_row {u : gT} {j : Nat} {h m : mH} {d b : Nat} (H : Inv j m) (e : Cl h m) {a r : Int} (a0 : 0 ≤ a) (a1 : a < m 200 10) (r0 : 0 ≤ r) (r1 : r < m 200 6) : Det (gX (gq u)) MX0_hasMarkThatCounts (d + 2) b [(2, 120 + a), (2, 110 + r)] h (0, bI (kc m r a)) h := by
  have hn := H.ns
  have ha := H.ra a0 (by omega)
  have hr := H.rr2 r0 (by omega)
  have := s_X0_hasMarkThatCounts (u := u) (d := d) (b := b) (h := h) (a := 120 + a) (r := 110 + r) (by omega) (by rw [e _ _ (by omega)]; exact H.az a0 a1) (by omega) (by rw [e _ _ (by omega)]; exact H.rz r0 r1) (by rw [e _ _ (by omega), H.a1 a0 a1]; exact ⟨by omega, by omega⟩) (by rw [e _ _ (by omega), H.a2 a0 a1]; exact ⟨by omega, by omega⟩) (by rw [e _ _ (by omega), H.rh r0 r1]; exact ⟨by omega, by omega⟩)
  rw [e (120 + a) 8 (by omega), e (120 + a) 10 (by omega), e (120 + a) 1 (by omega), e (120 + a) 2 (by omega), e (110 + r) 0 (by omega), e (110 + r) 2 (by omega), bI_eq.2 (H.kc a0 a1 r0 r1)] at this
  exact this
theorem ib_row {u : gT} {j : Nat} {h m : mH} {d b : Nat} (H : Inv j m) (e : Cl h m) {a r : Int} (a0 : 0 ≤ a) (a1 : a < m 200 10) (r0 : 0 ≤ r) (r1 : r < m 200 6) : Det (gX (gq u)) MX0_isBarredTo (d + 1) b [(2, 120 + a), (2, 110 + r)] h (0, bI (kb m r a)) h := by
  have hn := H.ns
  have ha := H.ra a0 (by omega)
  have hr := H.rr2 r0 (by omega)
  have := s_X0_isBarredTo (u := u) (d := d) (b := b) (h := h) (a := 120 + a) (r := 110 + r) (by omega) (by rw [e _ _ (by omega)]; exact H.az a0 a1) (by omega) (by rw [e _ _ (by omega)]; exact H.rz r0 r1) (by rw [e _ _ (by omega), H.a1 a0 a1]; exact ⟨by omega, by omega⟩) (by rw [e _ _ (by omega), H.a2 a0 a1]; exact ⟨by omega, by omega⟩) (by rw [e _ _ (by omega), H.rh r0 r1]; exact ⟨by omega, by omega⟩)
  rw [e (120 + a) 10 (by omega), e (120 + a) 1 (by omega), e (120 + a) 2 (by omega), e (110 + r) 0 (by omega), e (110 + r) 2 (by omega), bI_eq.2 (H.kb a0 a1 r0 r1)] at this
  exact this
theorem mo_row {u : gT} {j : Nat} {h m : mH} {d b : Nat} (H : Inv j m) (e : Cl h m) {a r : Int} (a0 : 0 ≤ a) (a1 : a < m 200 10) (r0 : 0 ≤ r) (r1 : r < m 200 6) (hk : kc m r a) : Det (gX (gq u)) MX0_markOf (d + 1) b [(2, 120 + a), (2, 110 + r)] h (0, m 220 (8 * a + r)) h := by
  have hn := H.ns
  have ei : h (110 + r) 0 = r := by rw [e _ _ (by omega)]; exact H.ri r0 r1
  have := s_X0_markOf (u := u) (d := d) (b := b) (h := h) (a := 120 + a) (r := 110 + r) (mk := 140 + a) (by omega) (by rw [e _ _ (by omega)]; exact H.az a0 a1) (by omega) (by rw [e _ _ (by omega)]; exact H.rz r0 r1) (by rw [e _ _ (by omega)]; exact H.a7 a0 a1) (by omega) (by rw [e _ _ (by omega)]; exact H.amz a0 a1) (by rw [e _ _ (by omega)]; exact H.aml a0 a1) (by omega) (by omega) (by omega) (by omega)
  rw [ei, e (140 + a) r (by omega)] at this
  have hm := H.mk a0 a1 r0 r1
  rcases hm with q | q
  · exact absurd q.2 hk.1
  · rw [q.2.1] at this
    exact this
theorem kv1_t {h : mH} {w : Int → Int} {r a : Int} (q : kc h r a) : kv h w r a = w (8 * a + r) := if_pos q
theorem kv1_f {h : mH} {w : Int → Int} {r a : Int} (q : ¬ kc h r a) : kv h w r a = 0 := if_neg q
theorem smS {f : Int → Int} {n : Nat} {v : Int} (e : f n = v) : sm f (n + 1) = sm f n + v := by rw [sm, e]
theorem s_X11_marksThatCount {u : gT} {j : Nat} {h m : mH} {d b : Nat} (H : Inv j m) (e : Cl h m) (hS : St h) {a : Int} (a0 : 0 ≤ a) (a1 : a < m 200 10) : Det (gX (gq u)) MX11_marksThatCount (d + 3) b [(2, 1), (2, 120 + a)] h (0, tA m w1 a) h := by
  intro Q hQ
  have hn := H.ns
  have e12 := H.n12
  have e13 := H.n13
  have e11 := H.n11
  have loop : ∀ n : Nat, n ≤ (m 200 6).toNat → WP (gX (gq u)) MX11_marksThatCount (d + 3) b Q 4 [(2, 1), (2, 120 + a), (0, sm (fun r => kv m w1 r a) n), (0, (n : Int))] [] h := by
    refine loop_w ((m 200 6).toNat) (fun n hn2 ih => ?_)
    refine wp_iload_n rfl rfl dX11_marksThatCount_4 ?_
    refine wp_aload_n rfl rfl dX11_marksThatCount_5 ?_
    refine wp_getfield1 (z := 12) (kI := 12) fX11_132 dX11_marksThatCount_6 (by first | omega | (simp (disch := omega) only [up2_ne, up2_eq, e, e11, e12, e13, H.a4, H.az, H.r3, H.rz, st_1_m1 hS, st_1_m1 H.1, st_1_1 hS, st_1_1 H.1, st_3_m2 hS, st_3_m2 H.1, st_3_m1 hS, st_3_m1 H.1]; first | done | omega)) (by first | assumption | (simp (disch := omega) only [up2_ne, up2_eq, e, e11, e12, e13, H.a4, H.az, H.r3, H.rz, st_1_m1 hS, st_1_m1 H.1, st_1_1 hS, st_1_1 H.1, st_3_m2 hS, st_3_m2 H.1, st_3_m1 hS, st_3_m1 H.1]; first | done | rfl | omega)) rfl rfl ?_
    try simp (disch := omega) only [up2_ne, up2_eq, e, e11, e12, e13, H.a4, H.az, H.r3, H.rz, st_1_m1 hS, st_1_m1 H.1, st_1_1 hS, st_1_1 H.1, st_3_m2 hS, st_3_m2 H.1, st_3_m1 hS, st_3_m1 H.1]
    refine wp_icmp_ge (tgt := 34) (by first | assumption | exact bI_in _ | exact ⟨by omega, by omega⟩ | exact iAnd_in | exact iOr_in | exact iShr_in | exact iShl_in | exact iXor_in | exact hxs _) (by first | assumption | exact bI_in _ | exact ⟨by omega, by omega⟩ | exact iAnd_in | exact iOr_in | exact iShr_in | exact iShl_in | exact iXor_in | exact hxs _) dX11_marksThatCount_9 (by decide) (fun c1 => ?_) (fun c1 => ?_)
    · refine wp_iload_n rfl rfl dX11_marksThatCount_34 ?_
      refine wp_iret dX11_marksThatCount_35 rfl ?_
      have en : n = (m 200 6).toNat := by omega
      subst en
      exact hQ
    · refine wp_aload_n rfl rfl dX11_marksThatCount_12 ?_
      refine wp_aload_n rfl rfl dX11_marksThatCount_13 ?_
      refine wp_getfield1 (z := 12) (kI := 1) fX11_17 dX11_marksThatCount_14 (by first | omega | (simp (disch := omega) only [up2_ne, up2_eq, e, e11, e12, e13, H.a4, H.az, H.r3, H.rz, st_1_m1 hS, st_1_m1 H.1, st_1_1 hS, st_1_1 H.1, st_3_m2 hS, st_3_m2 H.1, st_3_m1 hS, st_3_m1 H.1]; first | done | omega)) (by first | assumption | (simp (disch := omega) only [up2_ne, up2_eq, e, e11, e12, e13, H.a4, H.az, H.r3, H.rz, st_1_m1 hS, st_1_m1 H.1, st_1_1 hS, st_1_1 H.1, st_3_m2 hS, st_3_m2 H.1, st_3_m1 hS, st_3_m1 H.1]; first | done | rfl | omega)) rfl rfl ?_
      try simp (disch := omega) only [up2_ne, up2_eq, e, e11, e12, e13, H.a4, H.az, H.r3, H.rz, st_1_m1 hS, st_1_m1 H.1, st_1_1 hS, st_1_1 H.1, st_3_m2 hS, st_3_m2 H.1, st_3_m1 hS, st_3_m1 H.1]
      refine wp_iload_n rfl rfl dX11_marksThatCount_17 ?_
      refine wp_aaload1 dX11_marksThatCount_18 (by first | omega | (simp (disch := omega) only [up2_ne, up2_eq, e, e11, e12, e13, H.a4, H.az, H.r3, H.rz, st_1_m1 hS, st_1_m1 H.1, st_1_1 hS, st_1_1 H.1, st_3_m2 hS, st_3_m2 H.1, st_3_m1 hS, st_3_m1 H.1]; first | done | omega)) (by first | omega | (simp (disch := omega) only [up2_ne, up2_eq, e, e11, e12, e13, H.a4, H.az, H.r3, H.rz, st_1_m1 hS, st_1_m1 H.1, st_1_1 hS, st_1_1 H.1, st_3_m2 hS, st_3_m2 H.1, st_3_m1 hS, st_3_m1 H.1]; first | done | omega)) (by first | omega | (simp (disch := omega) only [up2_ne, up2_eq, e, e11, e12, e13, H.a4, H.az, H.r3, H.rz, st_1_m1 hS, st_1_m1 H.1, st_1_1 hS, st_1_1 H.1, st_3_m2 hS, st_3_m2 H.1, st_3_m1 hS, st_3_m1 H.1]; first | done | omega)) (by first | omega | (simp (disch := omega) only [up2_ne, up2_eq, e, e11, e12, e13, H.a4, H.az, H.r3, H.rz, st_1_m1 hS, st_1_m1 H.1, st_1_1 hS, st_1_1 H.1, st_3_m2 hS, st_3_m2 H.1, st_3_m1 hS, st_3_m1 H.1]; first | done | omega)) ?_
      try simp (disch := omega) only [up2_ne, up2_eq, e, e11, e12, e13, H.a4, H.az, H.r3, H.rz, st_1_m1 hS, st_1_m1 H.1, st_1_1 hS, st_1_1 H.1, st_3_m2 hS, st_3_m2 H.1, st_3_m1 hS, st_3_m1 H.1]
      refine wp_cV1 (ci := 0) okX0_hasMarkThatCounts rfl rfl wX11_383 dX11_marksThatCount_19 rfl (Nat.le_of_ble_eq_true rfl) (Nat.le_of_ble_eq_true rfl) (by first | omega | (simp (disch := omega) only [up2_ne, up2_eq, e, e11, e12, e13, H.a4, H.az, H.r3, H.rz, st_1_m1 hS, st_1_m1 H.1, st_1_1 hS, st_1_1 H.1, st_3_m2 hS, st_3_m2 H.1, st_3_m1 hS, st_3_m1 H.1]; first | done | omega)) (by first | assumption | (simp (disch := omega) only [up2_ne, up2_eq, e, e11, e12, e13, H.a4, H.az, H.r3, H.rz, st_1_m1 hS, st_1_m1 H.1, st_1_1 hS, st_1_1 H.1, st_3_m2 hS, st_3_m2 H.1, st_3_m1 hS, st_3_m1 H.1]; first | done | rfl | omega)) (hm_row H e a0 a1 (by omega) (by omega)) (Nat.zero_le _) ?_
      try simp (disch := omega) only [up2_ne, up2_eq, e, e11, e12, e13, H.a4, H.az, H.r3, H.rz, st_1_m1 hS, st_1_m1 H.1, st_1_1 hS, st_1_1 H.1, st_3_m2 hS, st_3_m2 H.1, st_3_m1 hS, st_3_m1 H.1]
      refine wp_ifB_eq (tgt := 28) dX11_marksThatCount_22 (by decide) (fun c2 => ?_) (fun c2 => ?_)
      · refine wp_iinc rfl rfl dX11_marksThatCount_28 rfl rfl ?_
        try simp only [List.set_cons_zero, List.set_cons_succ]
        refine wp_goto (tgt := 4) dX11_marksThatCount_31 (by decide) ?_
        have hi := ih (by omega)
        first
          | (rw [smS (f := (fun r => kv m w1 r a)) (kv1_t (by assumption))] at hi; exact hi)
          | (rw [smS (f := (fun r => kv m w1 r a)) (kv1_f (by assumption)), Int.add_zero] at hi; exact hi)
      · refine wp_iinc rfl rfl dX11_marksThatCount_25 rfl rfl ?_
        try simp only [List.set_cons_zero, List.set_cons_succ]
        refine wp_iinc rfl rfl dX11_marksThatCount_28 rfl rfl ?_
        try simp only [List.set_cons_zero, List.set_cons_succ]
        refine wp_goto (tgt := 4) dX11_marksThatCount_31 (by decide) ?_
        have hi := ih (by omega)
        first
          | (rw [smS (f := (fun r => kv m w1 r a)) (kv1_t (by assumption))] at hi; exact hi)
          | (rw [smS (f := (fun r => kv m w1 r a)) (kv1_f (by assumption)), Int.add_zero] at hi; exact hi)
  show WP (gX (gq u)) MX11_marksThatCount (d + 3) b Q 0 [(2, 1), (2, 120 + a), (9, 0), (9, 0)] [] h
  refine wp_iconst dX11_marksThatCount_0 ?_
  refine wp_istore_n rfl dX11_marksThatCount_1 rfl (Nat.le_of_ble_eq_true rfl) rfl ?_
  try simp only [List.set_cons_zero, List.set_cons_succ]
  refine wp_iconst dX11_marksThatCount_2 ?_
  refine wp_istore_n rfl dX11_marksThatCount_3 rfl (Nat.le_of_ble_eq_true rfl) rfl ?_
  try simp only [List.set_cons_zero, List.set_cons_succ]
  exact loop 0 (by omega)
theorem s_X11_marksThatCountOf {u : gT} {j : Nat} {h m : mH} {d b : Nat} (H : Inv j m) (e : Cl h m) (hS : St h) {r : Int} (r0 : 0 ≤ r) (r1 : r < m 200 6) : Det (gX (gq u)) MX11_marksThatCountOf (d + 3) b [(2, 1), (2, 110 + r)] h (0, tR m w1 r) h := by
  intro Q hQ
  have hn := H.ns
  have e12 := H.n12
  have e13 := H.n13
  have e11 := H.n11
  have loop : ∀ n : Nat, n ≤ (m 200 10).toNat → WP (gX (gq u)) MX11_marksThatCountOf (d + 3) b Q 4 [(2, 1), (2, 110 + r), (0, sm (fun a => kv m w1 r a) n), (0, (n : Int))] [] h := by
    refine loop_w ((m 200 10).toNat) (fun n hn2 ih => ?_)
    refine wp_iload_n rfl rfl dX11_marksThatCountOf_4 ?_
    refine wp_aload_n rfl rfl dX11_marksThatCountOf_5 ?_
    refine wp_getfield1 (z := 12) (kI := 13) fX11_172 dX11_marksThatCountOf_6 (by first | omega | (simp (disch := omega) only [up2_ne, up2_eq, e, e11, e12, e13, H.a4, H.az, H.r3, H.rz, st_1_m1 hS, st_1_m1 H.1, st_1_2 hS, st_1_2 H.1, st_4_m2 hS, st_4_m2 H.1, st_4_m1 hS, st_4_m1 H.1]; first | done | omega)) (by first | assumption | (simp (disch := omega) only [up2_ne, up2_eq, e, e11, e12, e13, H.a4, H.az, H.r3, H.rz, st_1_m1 hS, st_1_m1 H.1, st_1_2 hS, st_1_2 H.1, st_4_m2 hS, st_4_m2 H.1, st_4_m1 hS, st_4_m1 H.1]; first | done | rfl | omega)) rfl rfl ?_
    try simp (disch := omega) only [up2_ne, up2_eq, e, e11, e12, e13, H.a4, H.az, H.r3, H.rz, st_1_m1 hS, st_1_m1 H.1, st_1_2 hS, st_1_2 H.1, st_4_m2 hS, st_4_m2 H.1, st_4_m1 hS, st_4_m1 H.1]
    refine wp_icmp_ge (tgt := 34) (by first | assumption | exact bI_in _ | exact ⟨by omega, by omega⟩ | exact iAnd_in | exact iOr_in | exact iShr_in | exact iShl_in | exact iXor_in | exact hxs _) (by first | assumption | exact bI_in _ | exact ⟨by omega, by omega⟩ | exact iAnd_in | exact iOr_in | exact iShr_in | exact iShl_in | exact iXor_in | exact hxs _) dX11_marksThatCountOf_9 (by decide) (fun c1 => ?_) (fun c1 => ?_)
    · refine wp_iload_n rfl rfl dX11_marksThatCountOf_34 ?_
      refine wp_iret dX11_marksThatCountOf_35 rfl ?_
      have en : n = (m 200 10).toNat := by omega
      subst en
      exact hQ
    · refine wp_aload_n rfl rfl dX11_marksThatCountOf_12 ?_
      refine wp_getfield1 (z := 12) (kI := 2) fX11_23 dX11_marksThatCountOf_13 (by first | omega | (simp (disch := omega) only [up2_ne, up2_eq, e, e11, e12, e13, H.a4, H.az, H.r3, H.rz, st_1_m1 hS, st_1_m1 H.1, st_1_2 hS, st_1_2 H.1, st_4_m2 hS, st_4_m2 H.1, st_4_m1 hS, st_4_m1 H.1]; first | done | omega)) (by first | assumption | (simp (disch := omega) only [up2_ne, up2_eq, e, e11, e12, e13, H.a4, H.az, H.r3, H.rz, st_1_m1 hS, st_1_m1 H.1, st_1_2 hS, st_1_2 H.1, st_4_m2 hS, st_4_m2 H.1, st_4_m1 hS, st_4_m1 H.1]; first | done | rfl | omega)) rfl rfl ?_
      try simp (disch := omega) only [up2_ne, up2_eq, e, e11, e12, e13, H.a4, H.az, H.r3, H.rz, st_1_m1 hS, st_1_m1 H.1, st_1_2 hS, st_1_2 H.1, st_4_m2 hS, st_4_m2 H.1, st_4_m1 hS, st_4_m1 H.1]
      refine wp_iload_n rfl rfl dX11_marksThatCountOf_16 ?_
      refine wp_aaload1 dX11_marksThatCountOf_17 (by first | omega | (simp (disch := omega) only [up2_ne, up2_eq, e, e11, e12, e13, H.a4, H.az, H.r3, H.rz, st_1_m1 hS, st_1_m1 H.1, st_1_2 hS, st_1_2 H.1, st_4_m2 hS, st_4_m2 H.1, st_4_m1 hS, st_4_m1 H.1]; first | done | omega)) (by first | omega | (simp (disch := omega) only [up2_ne, up2_eq, e, e11, e12, e13, H.a4, H.az, H.r3, H.rz, st_1_m1 hS, st_1_m1 H.1, st_1_2 hS, st_1_2 H.1, st_4_m2 hS, st_4_m2 H.1, st_4_m1 hS, st_4_m1 H.1]; first | done | omega)) (by first | omega | (simp (disch := omega) only [up2_ne, up2_eq, e, e11, e12, e13, H.a4, H.az, H.r3, H.rz, st_1_m1 hS, st_1_m1 H.1, st_1_2 hS, st_1_2 H.1, st_4_m2 hS, st_4_m2 H.1, st_4_m1 hS, st_4_m1 H.1]; first | done | omega)) (by first | omega | (simp (disch := omega) only [up2_ne, up2_eq, e, e11, e12, e13, H.a4, H.az, H.r3, H.rz, st_1_m1 hS, st_1_m1 H.1, st_1_2 hS, st_1_2 H.1, st_4_m2 hS, st_4_m2 H.1, st_4_m1 hS, st_4_m1 H.1]; first | done | omega)) ?_
      try simp (disch := omega) only [up2_ne, up2_eq, e, e11, e12, e13, H.a4, H.az, H.r3, H.rz, st_1_m1 hS, st_1_m1 H.1, st_1_2 hS, st_1_2 H.1, st_4_m2 hS, st_4_m2 H.1, st_4_m1 hS, st_4_m1 H.1]
      refine wp_aload_n rfl rfl dX11_marksThatCountOf_18 ?_
      refine wp_cV1 (ci := 0) okX0_hasMarkThatCounts rfl rfl wX11_383 dX11_marksThatCountOf_19 rfl (Nat.le_of_ble_eq_true rfl) (Nat.le_of_ble_eq_true rfl) (by first | omega | (simp (disch := omega) only [up2_ne, up2_eq, e, e11, e12, e13, H.a4, H.az, H.r3, H.rz, st_1_m1 hS, st_1_m1 H.1, st_1_2 hS, st_1_2 H.1, st_4_m2 hS, st_4_m2 H.1, st_4_m1 hS, st_4_m1 H.1]; first | done | omega)) (by first | assumption | (simp (disch := omega) only [up2_ne, up2_eq, e, e11, e12, e13, H.a4, H.az, H.r3, H.rz, st_1_m1 hS, st_1_m1 H.1, st_1_2 hS, st_1_2 H.1, st_4_m2 hS, st_4_m2 H.1, st_4_m1 hS, st_4_m1 H.1]; first | done | rfl | omega)) (hm_row H e (by omega) (by omega) r0 r1) (Nat.zero_le _) ?_
      try simp (disch := omega) only [up2_ne, up2_eq, e, e11, e12, e13, H.a4, H.az, H.r3, H.rz, st_1_m1 hS, st_1_m1 H.1, st_1_2 hS, st_1_2 H.1, st_4_m2 hS, st_4_m2 H.1, st_4_m1 hS, st_4_m1 H.1]
      refine wp_ifB_eq (tgt := 28) dX11_marksThatCountOf_22 (by decide) (fun c2 => ?_) (fun c2 => ?_)
      · refine wp_iinc rfl rfl dX11_marksThatCountOf_28 rfl rfl ?_
        try simp only [List.set_cons_zero, List.set_cons_succ]
        refine wp_goto (tgt := 4) dX11_marksThatCountOf_31 (by decide) ?_
        have hi := ih (by omega)
        first
          | (rw [smS (f := (fun a => kv m w1 r a)) (kv1_t (by assumption))] at hi; exact hi)
          | (rw [smS (f := (fun a => kv m w1 r a)) (kv1_f (by assumption)), Int.add_zero] at hi; exact hi)
      · refine wp_iinc rfl rfl dX11_marksThatCountOf_25 rfl rfl ?_
        try simp only [List.set_cons_zero, List.set_cons_succ]
        refine wp_iinc rfl rfl dX11_marksThatCountOf_28 rfl rfl ?_
        try simp only [List.set_cons_zero, List.set_cons_succ]
        refine wp_goto (tgt := 4) dX11_marksThatCountOf_31 (by decide) ?_
        have hi := ih (by omega)
        first
          | (rw [smS (f := (fun a => kv m w1 r a)) (kv1_t (by assumption))] at hi; exact hi)
          | (rw [smS (f := (fun a => kv m w1 r a)) (kv1_f (by assumption)), Int.add_zero] at hi; exact hi)
  show WP (gX (gq u)) MX11_marksThatCountOf (d + 3) b Q 0 [(2, 1), (2, 110 + r), (9, 0), (9, 0)] [] h
  refine wp_iconst dX11_marksThatCountOf_0 ?_
  refine wp_istore_n rfl dX11_marksThatCountOf_1 rfl (Nat.le_of_ble_eq_true rfl) rfl ?_
  try simp only [List.set_cons_zero, List.set_cons_succ]
  refine wp_iconst dX11_marksThatCountOf_2 ?_
  refine wp_istore_n rfl dX11_marksThatCountOf_3 rfl (Nat.le_of_ble_eq_true rfl) rfl ?_
  try simp only [List.set_cons_zero, List.set_cons_succ]
  exact loop 0 (by omega)
theorem s_X11_allMarksThatCount {u : gT} {j : Nat} {h m : mH} {d b : Nat} (H : Inv j m) (e : Cl h m) (hS : St h) : Det (gX (gq u)) MX11_allMarksThatCount (d + 4) b [(2, 1)] h (0, tT m w1) h := by
  intro Q hQ
  have hn := H.ns
  have e12 := H.n12
  have e13 := H.n13
  have e11 := H.n11
  have loop : ∀ n : Nat, n ≤ (m 200 10).toNat → WP (gX (gq u)) MX11_allMarksThatCount (d + 4) b Q 4 [(2, 1), (0, sm (fun a => tA m w1 a) n), (0, (n : Int))] [] h := by
    refine loop_w ((m 200 10).toNat) (fun n hn2 ih => ?_)
    refine wp_iload_n rfl rfl dX11_allMarksThatCount_4 ?_
    refine wp_aload_n rfl rfl dX11_allMarksThatCount_5 ?_
    refine wp_getfield1 (z := 12) (kI := 13) fX11_172 dX11_allMarksThatCount_6 (by first | omega | (simp (disch := omega) only [up2_ne, up2_eq, e, e11, e12, e13, H.a4, H.az, H.r3, H.rz, st_1_m1 hS, st_1_m1 H.1, st_1_2 hS, st_1_2 H.1, st_4_m2 hS, st_4_m2 H.1, st_4_m1 hS, st_4_m1 H.1]; first | done | omega)) (by first | assumption | (simp (disch := omega) only [up2_ne, up2_eq, e, e11, e12, e13, H.a4, H.az, H.r3, H.rz, st_1_m1 hS, st_1_m1 H.1, st_1_2 hS, st_1_2 H.1, st_4_m2 hS, st_4_m2 H.1, st_4_m1 hS, st_4_m1 H.1]; first | done | rfl | omega)) rfl rfl ?_
    try simp (disch := omega) only [up2_ne, up2_eq, e, e11, e12, e13, H.a4, H.az, H.r3, H.rz, st_1_m1 hS, st_1_m1 H.1, st_1_2 hS, st_1_2 H.1, st_4_m2 hS, st_4_m2 H.1, st_4_m1 hS, st_4_m1 H.1]
    refine wp_icmp_ge (tgt := 31) (by first | assumption | exact bI_in _ | exact ⟨by omega, by omega⟩ | exact iAnd_in | exact iOr_in | exact iShr_in | exact iShl_in | exact iXor_in | exact hxs _) (by first | assumption | exact bI_in _ | exact ⟨by omega, by omega⟩ | exact iAnd_in | exact iOr_in | exact iShr_in | exact iShl_in | exact iXor_in | exact hxs _) dX11_allMarksThatCount_9 (by decide) (fun c1 => ?_) (fun c1 => ?_)
    · refine wp_iload_n rfl rfl dX11_allMarksThatCount_31 ?_
      refine wp_iret dX11_allMarksThatCount_32 rfl ?_
      have en : n = (m 200 10).toNat := by omega
      subst en
      exact hQ
    · refine wp_iload_n rfl rfl dX11_allMarksThatCount_12 ?_
      refine wp_aload_n rfl rfl dX11_allMarksThatCount_13 ?_
      refine wp_aload_n rfl rfl dX11_allMarksThatCount_14 ?_
      refine wp_getfield1 (z := 12) (kI := 2) fX11_23 dX11_allMarksThatCount_15 (by first | omega | (simp (disch := omega) only [up2_ne, up2_eq, e, e11, e12, e13, H.a4, H.az, H.r3, H.rz, st_1_m1 hS, st_1_m1 H.1, st_1_2 hS, st_1_2 H.1, st_4_m2 hS, st_4_m2 H.1, st_4_m1 hS, st_4_m1 H.1]; first | done | omega)) (by first | assumption | (simp (disch := omega) only [up2_ne, up2_eq, e, e11, e12, e13, H.a4, H.az, H.r3, H.rz, st_1_m1 hS, st_1_m1 H.1, st_1_2 hS, st_1_2 H.1, st_4_m2 hS, st_4_m2 H.1, st_4_m1 hS, st_4_m1 H.1]; first | done | rfl | omega)) rfl rfl ?_
      try simp (disch := omega) only [up2_ne, up2_eq, e, e11, e12, e13, H.a4, H.az, H.r3, H.rz, st_1_m1 hS, st_1_m1 H.1, st_1_2 hS, st_1_2 H.1, st_4_m2 hS, st_4_m2 H.1, st_4_m1 hS, st_4_m1 H.1]
      refine wp_iload_n rfl rfl dX11_allMarksThatCount_18 ?_
      refine wp_aaload1 dX11_allMarksThatCount_19 (by first | omega | (simp (disch := omega) only [up2_ne, up2_eq, e, e11, e12, e13, H.a4, H.az, H.r3, H.rz, st_1_m1 hS, st_1_m1 H.1, st_1_2 hS, st_1_2 H.1, st_4_m2 hS, st_4_m2 H.1, st_4_m1 hS, st_4_m1 H.1]; first | done | omega)) (by first | omega | (simp (disch := omega) only [up2_ne, up2_eq, e, e11, e12, e13, H.a4, H.az, H.r3, H.rz, st_1_m1 hS, st_1_m1 H.1, st_1_2 hS, st_1_2 H.1, st_4_m2 hS, st_4_m2 H.1, st_4_m1 hS, st_4_m1 H.1]; first | done | omega)) (by first | omega | (simp (disch := omega) only [up2_ne, up2_eq, e, e11, e12, e13, H.a4, H.az, H.r3, H.rz, st_1_m1 hS, st_1_m1 H.1, st_1_2 hS, st_1_2 H.1, st_4_m2 hS, st_4_m2 H.1, st_4_m1 hS, st_4_m1 H.1]; first | done | omega)) (by first | omega | (simp (disch := omega) only [up2_ne, up2_eq, e, e11, e12, e13, H.a4, H.az, H.r3, H.rz, st_1_m1 hS, st_1_m1 H.1, st_1_2 hS, st_1_2 H.1, st_4_m2 hS, st_4_m2 H.1, st_4_m1 hS, st_4_m1 H.1]; first | done | omega)) ?_
      try simp (disch := omega) only [up2_ne, up2_eq, e, e11, e12, e13, H.a4, H.az, H.r3, H.rz, st_1_m1 hS, st_1_m1 H.1, st_1_2 hS, st_1_2 H.1, st_4_m2 hS, st_4_m2 H.1, st_4_m1 hS, st_4_m1 H.1]
      refine wp_cV1 (ci := 11) okX11_marksThatCount rfl rfl wX11_226 dX11_allMarksThatCount_20 rfl (Nat.le_of_ble_eq_true rfl) (Nat.le_of_ble_eq_true rfl) (by first | omega | (simp (disch := omega) only [up2_ne, up2_eq, e, e11, e12, e13, H.a4, H.az, H.r3, H.rz, st_1_m1 hS, st_1_m1 H.1, st_1_2 hS, st_1_2 H.1, st_4_m2 hS, st_4_m2 H.1, st_4_m1 hS, st_4_m1 H.1]; first | done | omega)) (by first | assumption | (simp (disch := omega) only [up2_ne, up2_eq, e, e11, e12, e13, H.a4, H.az, H.r3, H.rz, st_1_m1 hS, st_1_m1 H.1, st_1_2 hS, st_1_2 H.1, st_4_m2 hS, st_4_m2 H.1, st_4_m1 hS, st_4_m1 H.1]; first | done | rfl | omega)) (s_X11_marksThatCount H e hS (by omega) (by omega)) (Nat.zero_le _) ?_
      try simp (disch := omega) only [up2_ne, up2_eq, e, e11, e12, e13, H.a4, H.az, H.r3, H.rz, st_1_m1 hS, st_1_m1 H.1, st_1_2 hS, st_1_2 H.1, st_4_m2 hS, st_4_m2 H.1, st_4_m1 hS, st_4_m1 H.1]
      refine wp_iadd dX11_allMarksThatCount_23 ?_
      refine wp_istore_n rfl dX11_allMarksThatCount_24 rfl (Nat.le_of_ble_eq_true rfl) rfl ?_
      try simp only [List.set_cons_zero, List.set_cons_succ]
      refine wp_iinc rfl rfl dX11_allMarksThatCount_25 rfl rfl ?_
      try simp only [List.set_cons_zero, List.set_cons_succ]
      refine wp_goto (tgt := 4) dX11_allMarksThatCount_28 (by decide) ?_
      exact ih (by omega)
  show WP (gX (gq u)) MX11_allMarksThatCount (d + 4) b Q 0 [(2, 1), (9, 0), (9, 0)] [] h
  refine wp_iconst dX11_allMarksThatCount_0 ?_
  refine wp_istore_n rfl dX11_allMarksThatCount_1 rfl (Nat.le_of_ble_eq_true rfl) rfl ?_
  try simp only [List.set_cons_zero, List.set_cons_succ]
  refine wp_iconst dX11_allMarksThatCount_2 ?_
  refine wp_istore_n rfl dX11_allMarksThatCount_3 rfl (Nat.le_of_ble_eq_true rfl) rfl ?_
  try simp only [List.set_cons_zero, List.set_cons_succ]
  exact loop 0 (by omega)
