/-! ===== new cells, as the walker lays them; frames ===== -/
section MR23
variable {g : gG} {M : mD} {d b pc : Nat} {Q : mV → mH → Prop} {L S : List mV} {h : mH}
theorem nw_ne {X : mX} {a b z n k : Int} (hb : b ≠ a) : nwh X h a z n b k = h b k := by rw [nwh_ne hb]
theorem nw_m1 {X : mX} {a z n : Int} : nwh X h a z n a (-1) = z := by rw [nwh_eq]; rfl
theorem nw_m2 {X : mX} {a z n : Int} : nwh X h a z n a (-2) = n := by rw [nwh_eq]; rfl
theorem nw_0 {a z n k : Int} (hk : 0 ≤ k) (hs : sref z k = false) : nwh (gX g) h a z n a k = 0 := by rw [nwh_eq, nwr_k hk, if_neg (by show ¬ sref z k = true; rw [hs]; decide)]
theorem nw_r {a z n k : Int} (hk : 0 ≤ k) (hs : sref z k = true) : nwh (gX g) h a z n a k = -1 := by rw [nwh_eq, nwr_k hk, if_pos hs]
theorem sref_i {z k : Int} (h0 : 20 ≤ z) (h1 : z ≤ 23) : sref z k = false := by
  unfold sref
  rw [show decide (30 ≤ z) = false from decide_eq_false (by omega), show decide (1 ≤ z ∧ z ≤ 13) = false from decide_eq_false (by omega)]
  rfl
theorem nw_i {a z n k : Int} (hk : 0 ≤ k) (h0 : 20 ≤ z) (h1 : z ≤ 23) : nwh (gX g) h a z n a k = 0 := nw_0 hk (sref_i h0 h1)
theorem sref_q {z k : Int} (h0 : 30 ≤ z) : sref z k = true := by
  unfold sref
  rw [show decide (30 ≤ z) = true from decide_eq_true h0]
  rfl
theorem nw_q {a z n k : Int} (hk : 0 ≤ k) (h0 : 30 ≤ z) : nwh (gX g) h a z n a k = -1 := nw_r hk (sref_q h0)
theorem wp_new1 {X : mX} {a z : Int} {idx ci b' : Nat} {r : vw_C} (hr : (xC X)[ci]? = some r) (hw1 : Cond.classLink (mO M) idx r.1 ∈ xT X) (hw2 : Cond.instantiable r.1 r.2.2 ∈ xT X) (hw3 : Cond.initialized r.1 ∈ xT X) (hd : decode (mC M) pc = .ok (.new idx, 3)) (hzc : (ci : Int) + 1 = z) (ha : 0 ≤ a) (hz : h a (-1) = 0) (hb : r.2.2 + 1 + b' ≤ b)
    (k' : WP X M d b' Q (pc + 3) L ((2, a) :: S) (nwh X h a z 0)) : WP X M d b Q pc L S h := by subst hzc; exact wp_new hr hw1 hw2 hw3 hd ha hz hb k'
theorem wp_anewarray1 {X : mX} {a n z : Int} {idx ci b' : Nat} {r : vw_C} (hr : (xC X)[ci]? = some r) (hd : decode (mC M) pc = .ok (.anewarray idx, 3)) (hw1 : Cond.classLink (mO M) idx r.1 ∈ xT X) (hw2 : r.1 ∈ (xR X).2.2.2.2.2.1) (hzc : (ci : Int) + 30 = z) (ha : 0 ≤ a) (hz : h a (-1) = 0) (hn : 0 ≤ n ∧ n < 100000) (hb : n.toNat + 1 + b' ≤ b)
    (k' : WP X M d b' Q (pc + 3) L ((2, a) :: S) (nwh X h a z n)) : WP X M d b Q pc L ((0, n) :: S) h := by subst hzc; exact wp_anewarray hr hd hw1 hw2 ha hz hn hb k'
theorem Rlt.mono {X : mX} {As : List mV} {P P' : mV → mH → Prop} (hr : Rlt X M d b As h P) (hp : ∀ r h', P r h' → mKeep h h' → P' r h') : Rlt X M d b As h P' := fun Q hQ => hr Q (fun r h' q mk => hQ r h' (hp r h' q mk) mk)
/-- what a method does not change it keeps: its world's shapes are kept by the machine's relation -/
theorem WP.keep {X : mX} (k : WP X M d b (fun r h' => mKeep h h' → Q r h') pc L S h) : WP X M d b Q pc L S h := by
  intro p l e R s m args below meth c H locs cells slots Z ad ls mx hA hR hV h1 h2 h3 h4 hL hS hF
  exact k p l e R s m args below meth c H locs cells slots Z ad ls mx hA hR hV h1 h2 h3 h4 hL hS (fun r h' ad' H' locs' cells' slots' pc' ls' g1 g2 g3 g4 g5 g6 g7 g8 => hF r h' ad' H' locs' cells' slots' pc' ls' g1 g2 g3 g4 g5 g6 g7 (g8 (fun a ha => (g2 a ha).1)))
theorem Rlt.of {X : mX} {As : List mV} {P : mV → mH → Prop} (k : WPm X M d b P As h) : Rlt X M d b As h P := fun Q hQ => WP.keep (WP.mono (fun r h' q mk => hQ r h' q mk) k)
theorem Det.rlt {X : mX} {As : List mV} {r : mV} {h' : mH} (k : Det X M d b As h r h') : Rlt X M d b As h (fun r1 h1 => r1 = r ∧ h1 = h') := Rlt.of (k _ ⟨rfl, rfl⟩)
theorem Rlt.bud {X : mX} {As : List mV} {P : mV → mH → Prop} {b' : Nat} (hb : b' ≤ b) (k : Rlt X M d b' As h P) : Rlt X M d b As h P := fun Q hQ => WP.bud hb (k Q hQ)
theorem Rlt.deep {X : mX} {As : List mV} {P : mV → mH → Prop} {d' : Nat} (hd : d' ≤ d) (k : Rlt X M d' b As h P) : Rlt X M d b As h P := fun Q hQ => WP.deep hd (k Q hQ)
end MR23
