/-! ===== the beginning: the class's constructor ===== -/
theorem wp_getL {X : mX} {M : mD} {d b pc : Nat} {Q : mV → mH → Prop} {L S : List mV} {L0 : List hop} {h0 : mH} {a z kI v : Int} {idx ci k tag : Nat} {fin : Bool} (hf : fok X (mO M) idx ci k tag fin) (hd : decode (mC M) pc = .ok (.getfield idx, 3)) (ha : 0 ≤ a) (hz : (hl X L0 h0) a (-1) = z) (hzc : z = (ci : Int) + 1) (hk : (k : Int) = kI) (hv : (hl X L0 h0) a kI = v) (k' : WP X M d b Q (pc + 3) L ((tag, v) :: S) (hl X L0 h0)) : WP X M d b Q pc L ((2, a) :: S) (hl X L0 h0) := wp_getfield1 hf hd ha hz hzc hk (by rw [hv]; exact k')
theorem wp_putL {X : mX} {M : mD} {d b pc : Nat} {Q : mV → mH → Prop} {L S : List mV} {L0 : List hop} {h0 : mH} {a v z kI : Int} {idx ci k tag : Nat} (hf : fok X (mO M) idx ci k tag false) (hd : decode (mC M) pc = .ok (.putfield idx, 3)) (ha : 0 ≤ a) (hz : (hl X L0 h0) a (-1) = z) (hzc : z = (ci : Int) + 1) (hk : (k : Int) = kI) (k' : WP X M d b Q (pc + 3) L S (hl X ((false, a, kI, v) :: L0) h0)) : WP X M d b Q pc L ((tag, v) :: (2, a) :: S) (hl X L0 h0) := wp_putfield1 hf hd ha hz hzc hk k'
theorem wp_putfL {X : mX} {M : mD} {d b pc : Nat} {Q : mV → mH → Prop} {L S : List mV} {L0 : List hop} {h0 : mH} {a v z kI : Int} {idx ci k tag : Nat} (hf : fok X (mO M) idx ci k tag true) (hi : (mY M).name = "<init>") (hr : ∀ r : vw_C, (xC X)[ci]? = some r → (r.2.1 k).1 = mO M) (hd : decode (mC M) pc = .ok (.putfield idx, 3)) (ha : 0 ≤ a) (hz : (hl X L0 h0) a (-1) = z) (hzc : z = (ci : Int) + 1) (hk : (k : Int) = kI) (k' : WP X M d b Q (pc + 3) L S (hl X ((false, a, kI, v) :: L0) h0)) : WP X M d b Q pc L ((tag, v) :: (2, a) :: S) (hl X L0 h0) := wp_putfinal1 hf hi hr hd ha hz hzc hk k'
theorem wp_iastoreL {X : mX} {M : mD} {d b pc : Nat} {Q : mV → mH → Prop} {L S : List mV} {L0 : List hop} {h0 : mH} {a i x n : Int} (hd : decode (mC M) pc = .ok (.iastore, 1)) (ha : 0 ≤ a) (hz : (hl X L0 h0) a (-1) = 20) (j0 : 0 ≤ i) (hn : (hl X L0 h0) a (-2) = n) (hi : i < n) (k' : WP X M d b Q (pc + 1) L S (hl X ((false, a, i, x) :: L0) h0)) : WP X M d b Q pc L ((0, x) :: (0, i) :: (2, a) :: S) (hl X L0 h0) := wp_iastore1 hd ha hz j0 (by rw [hn]; exact hi) k'
theorem wp_castoreL {X : mX} {M : mD} {d b pc : Nat} {Q : mV → mH → Prop} {L S : List mV} {L0 : List hop} {h0 : mH} {a i x n : Int} (hx : 0 ≤ x ∧ x < 65536) (hd : decode (mC M) pc = .ok (.castore, 1)) (ha : 0 ≤ a) (hz : (hl X L0 h0) a (-1) = 23) (j0 : 0 ≤ i) (hn : (hl X L0 h0) a (-2) = n) (hi : i < n) (k' : WP X M d b Q (pc + 1) L S (hl X ((false, a, i, x) :: L0) h0)) : WP X M d b Q pc L ((0, x) :: (0, i) :: (2, a) :: S) (hl X L0 h0) := wp_castore1 hx hd ha hz j0 (by rw [hn]; exact hi) k'
theorem wp_aastoreL {X : mX} {M : mD} {d b pc : Nat} {Q : mV → mH → Prop} {L S : List mV} {L0 : List hop} {h0 : mH} {a i v n : Int} {ci : Nat} (hd : decode (mC M) pc = .ok (.aastore, 1)) (ha : 0 ≤ a) (hz : (hl X L0 h0) a (-1) = (ci : Int) + 30) (j0 : 0 ≤ i) (hn : (hl X L0 h0) a (-2) = n) (hi : i < n) (hv0 : 0 ≤ v) (hv : (hl X L0 h0) v (-1) = (ci : Int) + 1) (hci : ci < 15) (k' : WP X M d b Q (pc + 1) L S (hl X ((false, a, i, v) :: L0) h0)) : WP X M d b Q pc L ((2, v) :: (0, i) :: (2, a) :: S) (hl X L0 h0) := wp_aastore1 hd ha hz j0 (by rw [hn]; exact hi) hv0 hv hci k'
theorem wp_alenL {X : mX} {M : mD} {d b pc : Nat} {Q : mV → mH → Prop} {L S : List mV} {L0 : List hop} {h0 : mH} {a n z : Int} (hd : decode (mC M) pc = .ok (.arraylength, 1)) (ha : 0 ≤ a) (hz : (hl X L0 h0) a (-1) = z) (hz2 : 20 ≤ z) (hn : (hl X L0 h0) a (-2) = n) (k' : WP X M d b Q (pc + 1) L ((0, n) :: S) (hl X L0 h0)) : WP X M d b Q pc L ((2, a) :: S) (hl X L0 h0) := wp_alen1 hd ha (by rw [hz]; exact hz2) (by rw [hn]; exact k')
theorem wp_newL {X : mX} {M : mD} {d b pc : Nat} {Q : mV → mH → Prop} {L S : List mV} {L0 : List hop} {h0 : mH} {a z : Int} {idx ci b' : Nat} {r : vw_C} (hr : (xC X)[ci]? = some r) (hw1 : Cond.classLink (mO M) idx r.1 ∈ xT X) (hw2 : Cond.instantiable r.1 r.2.2 ∈ xT X) (hw3 : Cond.initialized r.1 ∈ xT X) (hd : decode (mC M) pc = .ok (.new idx, 3)) (hzc : (ci : Int) + 1 = z) (ha : 0 ≤ a) (hz : (hl X L0 h0) a (-1) = 0) (hb : r.2.2 + 1 + b' ≤ b) (k' : WP X M d b' Q (pc + 3) L ((2, a) :: S) (hl X ((true, a, z, 0) :: L0) h0)) : WP X M d b Q pc L S (hl X L0 h0) := wp_new1 hr hw1 hw2 hw3 hd hzc ha hz hb k'
theorem wp_newarrL {X : mX} {M : mD} {d b pc : Nat} {Q : mV → mH → Prop} {L S : List mV} {L0 : List hop} {h0 : mH} {a n : Int} {t : ArrayType} {ty : FieldType} {code : Int} {b' : Nat} (hd : decode (mC M) pc = .ok (.newarray t, 2)) (hty : newarray.typeOf t = ty) (hw : Cond.arrayClass ty ∈ xT X) (hcode : mTy code = some ty) (hc0 : 20 ≤ code ∧ code ≤ 23) (ha : 0 ≤ a) (hz : (hl X L0 h0) a (-1) = 0) (hn : 0 ≤ n ∧ n < 100000) (hb : n.toNat + 1 + b' ≤ b) (k' : WP X M d b' Q (pc + 2) L ((2, a) :: S) (hl X ((true, a, code, n) :: L0) h0)) : WP X M d b Q pc L ((0, n) :: S) (hl X L0 h0) := wp_newarray hd hty hw hcode hc0 ha hz hn hb k'
theorem wp_anewL {X : mX} {M : mD} {d b pc : Nat} {Q : mV → mH → Prop} {L S : List mV} {L0 : List hop} {h0 : mH} {a n z : Int} {idx ci b' : Nat} {r : vw_C} (hr : (xC X)[ci]? = some r) (hd : decode (mC M) pc = .ok (.anewarray idx, 3)) (hw1 : Cond.classLink (mO M) idx r.1 ∈ xT X) (hw2 : r.1 ∈ (xR X).2.2.2.2.2.1) (hzc : (ci : Int) + 30 = z) (ha : 0 ≤ a) (hz : (hl X L0 h0) a (-1) = 0) (hn : 0 ≤ n ∧ n < 100000) (hb : n.toNat + 1 + b' ≤ b) (k' : WP X M d b' Q (pc + 3) L ((2, a) :: S) (hl X ((true, a, z, n) :: L0) h0)) : WP X M d b Q pc L ((0, n) :: S) (hl X L0 h0) := wp_anewarray1 hr hd hw1 hw2 hzc ha hz hn hb k'
theorem hl_b {g0 : gG} {LA L0 : List hop} {h g1 : mH} {x y v : Int} (e : ∀ x k : Int, ¬ regF x → g1 x k = hl (gX g0) LA h x k) (q1 : rd L0 x y = none) (q2 : rd LA x y = some v) (q3 : ¬ regF x) : hl (gX g0) L0 g1 x y = v := by
  rw [hl_none q1, e x y q3]
  exact hl_read q2
theorem hl_bn {g0 : gG} {LA L0 : List hop} {h g1 : mH} {x : Int} (e : ∀ x k : Int, ¬ regF x → g1 x k = hl (gX g0) LA h x k) (hz : ∀ x : Int, 0 ≤ x → h x (-1) = 0) (x0 : 0 ≤ x) (q1 : rd L0 x (-1) = none) (q2 : rd LA x (-1) = none) (q3 : ¬ regF x) : hl (gX g0) L0 g1 x (-1) = 0 := by
  rw [hl_none q1, e x (-1) q3]
  exact hl_new hz x0 q2
def LA11 : List hop := [(false, 1, 10, 12), (false, 12, 4, 29), (true, 29, 20, 14), (false, 12, 3, 28), (true, 28, 20, 14), (false, 12, 2, 27), (true, 27, 20, 14), (false, 12, 1, 26), (true, 26, 20, 8), (false, 12, 0, 25), (true, 25, 20, 8), (true, 12, 5, 0), (false, 1, 9, 11), (false, 11, 5, 24), (true, 24, 20, 15), (false, 11, 4, 23), (true, 23, 20, 15), (false, 11, 3, 22), (true, 22, 20, 15), (false, 11, 2, 21), (true, 21, 20, 14), (false, 11, 1, 20), (true, 20, 20, 14), (false, 11, 0, 19), (true, 19, 20, 14), (true, 11, 2, 0), (false, 1, 8, 10), (false, 10, 1, 18), (true, 18, 20, 8), (false, 10, 0, 17), (true, 17, 20, 8), (true, 10, 8, 0), (false, 1, 7, 9), (true, 9, 20, 7), (false, 1, 6, 8), (true, 8, 6, 0), (false, 1, 5, 7), (false, 7, 4, 16), (true, 16, 20, 161), (false, 7, 3, 15), (true, 15, 20, 161), (false, 7, 2, 14), (true, 14, 20, 161), (false, 7, 0, 13), (true, 13, 21, 160), (true, 7, 10, 0), (false, 1, 4, 6), (true, 6, 38, 4), (false, 1, 3, 5), (true, 5, 40, 6), (false, 1, 2, 4), (true, 4, 30, 14), (false, 1, 1, 3), (true, 3, 36, 8), (false, 1, 0, 2), (true, 2, 32, 5), (true, 1, 12, 0)]
def LB11 : List hop := [(false, 6, 3, 83), (false, 83, 2, -1), (false, 83, 0, 93), (true, 93, 20, 40), (true, 83, 9, 0), (false, 6, 2, 82), (false, 82, 2, -1), (false, 82, 0, 92), (true, 92, 20, 40), (true, 82, 9, 0), (false, 6, 1, 81), (false, 81, 2, -1), (false, 81, 0, 91), (true, 91, 20, 40), (true, 81, 9, 0), (false, 6, 0, 80), (false, 80, 2, -1), (false, 80, 0, 90), (true, 90, 20, 40), (true, 80, 9, 0), (false, 5, 5, 45), (false, 45, 2, 75), (true, 75, 20, 160), (false, 45, 1, 65), (true, 65, 20, 3), (false, 45, 0, 55), (true, 55, 20, 160), (true, 45, 11, 0), (false, 5, 4, 44), (false, 44, 2, 74), (true, 74, 20, 160), (false, 44, 1, 64), (true, 64, 20, 3), (false, 44, 0, 54), (true, 54, 20, 160), (true, 44, 11, 0), (false, 5, 3, 43), (false, 43, 2, 73), (true, 73, 20, 160), (false, 43, 1, 63), (true, 63, 20, 3), (false, 43, 0, 53), (true, 53, 20, 160), (true, 43, 11, 0), (false, 5, 2, 42), (false, 42, 2, 72), (true, 72, 20, 160), (false, 42, 1, 62), (true, 62, 20, 3), (false, 42, 0, 52), (true, 52, 20, 160), (true, 42, 11, 0), (false, 5, 1, 41), (false, 41, 2, 71), (true, 71, 20, 160), (false, 41, 1, 61), (true, 61, 20, 3), (false, 41, 0, 51), (true, 51, 20, 160), (true, 41, 11, 0), (false, 1, 14, 1), (false, 5, 0, 40)]
set_option maxHeartbeats 4000000 in
set_option maxRecDepth 100000 in
theorem s_X11_init {u : gT} {h : mH} {d : Nat} (hfm : u.2.2.2.2.2 ≤ -10 ∨ u.2.2.2.2.2 = -1) (hz : ∀ x : Int, 0 ≤ x → h x (-1) = 0) : Rlt (gX (gq u)) MX11_init (d + 98) 3744 [(2, 1)] (hl (gX (gq u)) [(true, 1, 12, 0)] h) (fun r g => r = (9, 0) ∧ ∃ g1, (∀ x k : Int, ¬ regF x → g1 x k = hl (gX (gq u)) LA11 h x k) ∧ Tx g1 0 ∧ (g1 40 2 = 70 ∧ g1 70 (-1) = 20 ∧ g1 70 (-2) = 160) ∧ tC g1 0 osS 3 ∧ g = hl (gX (gq u)) LB11 g1) := by
  refine Rlt.of ?_
  show WP (gX (gq u)) MX11_init (d + 98) 3744 _ 0 [(2, 1), (9, 0)] [] (hl (gX (gq u)) [(true, 1, 12, 0)] h)
  refine wp_aload_n rfl rfl dX11_init_0 ?_
  refine wp_objInit wX11_1.1 wX11_1.2.1 wX11_1.2.2 dX11_init_1 (by decide) (by decide) ?_
  refine wp_aload_n rfl rfl dX11_init_4 ?_
  refine wp_iconst dX11_init_5 ?_
  refine wp_anewL (a := 2) (ci := 2) (b' := 3738) (z := 32) rfl dX11_init_6 clX11_9 (List.mem_of_getElem? (i := 0) rfl) rfl (by decide) (hl_new hz (by decide) (by decide +kernel)) (by decide) (Nat.le_of_ble_eq_true rfl) ?_
  refine wp_putfL (z := 12) (kI := 0) fX11_11 rfl (fun _ q => by cases q; rfl) dX11_init_9 (by decide) (hl_read (by decide +kernel)) rfl rfl ?_
  refine wp_aload_n rfl rfl dX11_init_12 ?_
  refine wp_bipush (by decide) dX11_init_13 ?_
  refine wp_anewL (a := 3) (ci := 6) (b' := 3729) (z := 36) rfl dX11_init_15 clX11_15 (List.mem_of_getElem? (i := 1) rfl) rfl (by decide) (hl_new hz (by decide) (by decide +kernel)) (by decide) (Nat.le_of_ble_eq_true rfl) ?_
  refine wp_putfL (z := 12) (kI := 1) fX11_17 rfl (fun _ q => by cases q; rfl) dX11_init_18 (by decide) (hl_read (by decide +kernel)) rfl rfl ?_
  refine wp_aload_n rfl rfl dX11_init_21 ?_
  refine wp_bipush (by decide) dX11_init_22 ?_
  refine wp_anewL (a := 4) (ci := 0) (b' := 3714) (z := 30) rfl dX11_init_24 clX11_21 (List.mem_of_getElem? (i := 2) rfl) rfl (by decide) (hl_new hz (by decide) (by decide +kernel)) (by decide) (Nat.le_of_ble_eq_true rfl) ?_
  refine wp_putfL (z := 12) (kI := 2) fX11_23 rfl (fun _ q => by cases q; rfl) dX11_init_27 (by decide) (hl_read (by decide +kernel)) rfl rfl ?_
  refine wp_aload_n rfl rfl dX11_init_30 ?_
  refine wp_bipush (by decide) dX11_init_31 ?_
  refine wp_anewL (a := 5) (ci := 10) (b' := 3707) (z := 40) rfl dX11_init_33 clX11_27 (List.mem_of_getElem? (i := 3) rfl) rfl (by decide) (hl_new hz (by decide) (by decide +kernel)) (by decide) (Nat.le_of_ble_eq_true rfl) ?_
  refine wp_putfL (z := 12) (kI := 3) fX11_29 rfl (fun _ q => by cases q; rfl) dX11_init_36 (by decide) (hl_read (by decide +kernel)) rfl rfl ?_
  refine wp_aload_n rfl rfl dX11_init_39 ?_
  refine wp_iconst dX11_init_40 ?_
  refine wp_anewL (a := 6) (ci := 8) (b' := 3702) (z := 38) rfl dX11_init_41 clX11_33 (List.mem_of_getElem? (i := 4) rfl) rfl (by decide) (hl_new hz (by decide) (by decide +kernel)) (by decide) (Nat.le_of_ble_eq_true rfl) ?_
  refine wp_putfL (z := 12) (kI := 4) fX11_35 rfl (fun _ q => by cases q; rfl) dX11_init_44 (by decide) (hl_read (by decide +kernel)) rfl rfl ?_
  refine wp_aload_n rfl rfl dX11_init_47 ?_
  refine wp_newL (a := 7) (ci := 9) (b' := 3694) (z := 10) rfl clX11_39 inX9 iniX9 dX11_init_48 rfl (by decide) (hl_new hz (by decide) (by decide +kernel)) (Nat.le_of_ble_eq_true rfl) ?_
  refine wp_dup (by decide) dX11_init_51 ?_
  refine wp_cIN0v okX9_init ⟨rfl, rfl⟩ wX11_41 dX11_init_52 (Nat.le_of_ble_eq_true rfl) (Nat.le_of_ble_eq_true rfl) (by decide) (x9i_7 (hl_read (by decide +kernel)) (hl_new hz (by decide) (by decide +kernel)) (hl_new hz (by decide) (by decide +kernel)) (hl_new hz (by decide) (by decide +kernel)) (hl_new hz (by decide) (by decide +kernel))) (Nat.le_of_ble_eq_true rfl) ?_
  rw [hl_app]
  simp only [List.cons_append, List.nil_append]
  refine wp_putfL (z := 12) (kI := 5) fX11_42 rfl (fun _ q => by cases q; rfl) dX11_init_55 (by decide) (hl_read (by decide +kernel)) rfl rfl ?_
  refine wp_aload_n rfl rfl dX11_init_58 ?_
  refine wp_newL (a := 8) (ci := 5) (b' := 3043) (z := 6) rfl clX11_46 inX5 iniX5 dX11_init_59 rfl (by decide) (hl_new hz (by decide) (by decide +kernel)) (Nat.le_of_ble_eq_true rfl) ?_
  refine wp_dup (by decide) dX11_init_62 ?_
  refine wp_cIN0v okX5_init ⟨rfl, rfl⟩ wX11_48 dX11_init_63 (Nat.le_of_ble_eq_true rfl) (Nat.le_of_ble_eq_true rfl) (by decide) (s_X5_init (pa := 8) (Or.inl rfl) (hl_read (by decide +kernel)) ) (Nat.le_of_ble_eq_true rfl) ?_
  rw [hl_app]
  simp only [List.cons_append, List.nil_append]
  refine wp_putfL (z := 12) (kI := 6) fX11_49 rfl (fun _ q => by cases q; rfl) dX11_init_66 (by decide) (hl_read (by decide +kernel)) rfl rfl ?_
  refine wp_aload_n rfl rfl dX11_init_69 ?_
  refine wp_bipush (by decide) dX11_init_70 ?_
  refine wp_newarrL (a := 9) (code := 20) (b' := 3035) dX11_init_72 rfl ac_int rfl (by decide) (by decide) (hl_new hz (by decide) (by decide +kernel)) (by decide) (Nat.le_of_ble_eq_true rfl) ?_
  refine wp_putfL (z := 12) (kI := 7) fX11_53 rfl (fun _ q => by cases q; rfl) dX11_init_74 (by decide) (hl_read (by decide +kernel)) rfl rfl ?_
  refine wp_aload_n rfl rfl dX11_init_77 ?_
  refine wp_newL (a := 10) (ci := 7) (b' := 3026) (z := 8) rfl clX11_57 inX7 iniX7 dX11_init_78 rfl (by decide) (hl_new hz (by decide) (by decide +kernel)) (Nat.le_of_ble_eq_true rfl) ?_
  refine wp_dup (by decide) dX11_init_81 ?_
  refine wp_cIN0v okX7_init ⟨rfl, rfl⟩ wX11_59 dX11_init_82 (Nat.le_of_ble_eq_true rfl) (Nat.le_of_ble_eq_true rfl) (by decide) (s_X7_init (hl_read (by decide +kernel)) (hl_new hz (by decide) (by decide +kernel)) (hl_new hz (by decide) (by decide +kernel))) (Nat.le_of_ble_eq_true rfl) ?_
  rw [hl_app]
  simp only [List.cons_append, List.nil_append]
  refine wp_putfL (z := 12) (kI := 8) fX11_60 rfl (fun _ q => by cases q; rfl) dX11_init_85 (by decide) (hl_read (by decide +kernel)) rfl rfl ?_
  refine wp_aload_n rfl rfl dX11_init_88 ?_
  refine wp_newL (a := 11) (ci := 1) (b' := 2996) (z := 2) rfl clX11_64 inX1 iniX1 dX11_init_89 rfl (by decide) (hl_new hz (by decide) (by decide +kernel)) (Nat.le_of_ble_eq_true rfl) ?_
  refine wp_dup (by decide) dX11_init_92 ?_
  refine wp_cIN0v okX1_init ⟨rfl, rfl⟩ wX11_66 dX11_init_93 (Nat.le_of_ble_eq_true rfl) (Nat.le_of_ble_eq_true rfl) (by decide) (s_X1_init (hl_read (by decide +kernel)) (hl_new hz (by decide) (by decide +kernel)) (hl_new hz (by decide) (by decide +kernel)) (hl_new hz (by decide) (by decide +kernel)) (hl_new hz (by decide) (by decide +kernel)) (hl_new hz (by decide) (by decide +kernel)) (hl_new hz (by decide) (by decide +kernel))) (Nat.le_of_ble_eq_true rfl) ?_
  rw [hl_app]
  simp only [List.cons_append, List.nil_append]
  refine wp_putfL (z := 12) (kI := 9) fX11_67 rfl (fun _ q => by cases q; rfl) dX11_init_96 (by decide) (hl_read (by decide +kernel)) rfl rfl ?_
  refine wp_aload_n rfl rfl dX11_init_99 ?_
  refine wp_newL (a := 12) (ci := 4) (b' := 2894) (z := 5) rfl clX11_71 inX4 iniX4 dX11_init_100 rfl (by decide) (hl_new hz (by decide) (by decide +kernel)) (Nat.le_of_ble_eq_true rfl) ?_
  refine wp_dup (by decide) dX11_init_103 ?_
  refine wp_cIN0v okX4_init ⟨rfl, rfl⟩ wX11_73 dX11_init_104 (Nat.le_of_ble_eq_true rfl) (Nat.le_of_ble_eq_true rfl) (by decide) (s_X4_init (hl_read (by decide +kernel)) (hl_new hz (by decide) (by decide +kernel)) (hl_new hz (by decide) (by decide +kernel)) (hl_new hz (by decide) (by decide +kernel)) (hl_new hz (by decide) (by decide +kernel)) (hl_new hz (by decide) (by decide +kernel))) (Nat.le_of_ble_eq_true rfl) ?_
  rw [hl_app]
  simp only [List.cons_append, List.nil_append]
  refine wp_putfL (z := 12) (kI := 10) fX11_74 rfl (fun _ q => by cases q; rfl) dX11_init_107 (by decide) (hl_read (by decide +kernel)) rfl rfl ?_
  refine wp_aload_n rfl rfl dX11_init_110 ?_
  refine wp_getL (z := 12) (kI := 3) (v := 5) fX11_29 dX11_init_111 (by decide) (hl_read (by decide +kernel)) rfl rfl (hl_read (by decide +kernel)) ?_
  refine wp_iconst dX11_init_114 ?_
  refine wp_cS0r okX11_firstText wX11_78 dX11_init_115 (Nat.le_of_ble_eq_true rfl) (Nat.le_of_ble_eq_true rfl) (s_X11_firstText hfm (fun x hx => by
        have hx2 : x = 30 ∨ x = 31 ∨ x = 32 ∨ x = 33 ∨ x = 34 ∨ x = 35 ∨ x = 40 ∨ x = 50 ∨ x = 60 ∨ x = 70 := by omega
        rcases hx2 with rfl | rfl | rfl | rfl | rfl | rfl | rfl | rfl | rfl | rfl <;> exact hl_new hz (by decide) (by decide +kernel))) (Nat.le_of_ble_eq_true rfl) ?_
  rintro r g1 ⟨rfl, e1, X1, q1, c1⟩ -
  have h40 : g1 40 (-1) = 11 := X1.1
  show WP _ _ _ _ _ _ _ ((2, 40) :: _) (hl (gX (gq u)) [] g1)
  refine wp_aastoreL (ci := 10) (n := 6) dX11_init_118 (by decide) (hl_b e1 (by decide +kernel) (by decide +kernel) (by decide)) (by decide) (hl_b e1 (by decide +kernel) (by decide +kernel) (by decide)) (by decide) (by decide) ((hl_none (by decide +kernel)).trans h40) (by decide) ?_
  refine wp_aload_n rfl rfl dX11_init_119 ?_
  refine wp_iconst dX11_init_120 ?_
  refine wp_putL (z := 12) (kI := 14) fX11_82 dX11_init_121 (by decide) (hl_b e1 (by decide +kernel) (by decide +kernel) (by decide)) rfl rfl ?_
  refine wp_iconst dX11_init_124 ?_
  refine wp_istore_n rfl dX11_init_125 rfl (Nat.le_of_ble_eq_true rfl) rfl ?_
  try simp only [List.set_cons_zero, List.set_cons_succ]
  refine wp_iload_n rfl rfl dX11_init_126 ?_
  refine wp_aload_n rfl rfl dX11_init_127 ?_
  refine wp_getL (z := 12) (kI := 3) (v := 5) fX11_29 dX11_init_128 (by decide) (hl_b e1 (by decide +kernel) (by decide +kernel) (by decide)) rfl rfl (hl_b e1 (by decide +kernel) (by decide +kernel) (by decide)) ?_
  refine wp_alenL (n := 6) (z := 40) dX11_init_131 (by decide) (hl_b e1 (by decide +kernel) (by decide +kernel) (by decide)) (by decide) (hl_b e1 (by decide +kernel) (by decide +kernel) (by decide)) ?_
  refine wp_icmp_ge (tgt := 154) (by exact ⟨by decide, by decide⟩) (by exact ⟨by decide, by decide⟩) dX11_init_132 (by decide) (fun hx => absurd hx (by decide)) (fun hx => ?_)
  refine wp_aload_n rfl rfl dX11_init_135 ?_
  refine wp_getL (z := 12) (kI := 3) (v := 5) fX11_29 dX11_init_136 (by decide) (hl_b e1 (by decide +kernel) (by decide +kernel) (by decide)) rfl rfl (hl_b e1 (by decide +kernel) (by decide +kernel) (by decide)) ?_
  refine wp_iload_n rfl rfl dX11_init_139 ?_
  refine wp_newL (a := 41) (ci := 10) (b' := 1834) (z := 11) rfl clX11_27 inX10 iniX10 dX11_init_140 rfl (by decide) (hl_bn e1 hz (by decide) (by decide +kernel) (by decide +kernel) (by decide)) (Nat.le_of_ble_eq_true rfl) ?_
  refine wp_dup (by decide) dX11_init_143 ?_
  refine wp_cIN0v okX10_init ⟨rfl, rfl⟩ wX11_86 dX11_init_144 (Nat.le_of_ble_eq_true rfl) (Nat.le_of_ble_eq_true rfl) (by decide) (x10i_1 (hl_read (by decide +kernel)) (hl_bn e1 hz (by decide) (by decide +kernel) (by decide +kernel) (by decide)) (hl_bn e1 hz (by decide) (by decide +kernel) (by decide +kernel) (by decide)) (hl_bn e1 hz (by decide) (by decide +kernel) (by decide +kernel) (by decide))) (Nat.le_of_ble_eq_true rfl) ?_
  rw [hl_app]
  simp only [List.cons_append, List.nil_append]
  refine wp_aastoreL (ci := 10) (n := 6) dX11_init_147 (by decide) (hl_b e1 (by decide +kernel) (by decide +kernel) (by decide)) (by decide) (hl_b e1 (by decide +kernel) (by decide +kernel) (by decide)) (by decide) (by decide) (hl_read (by decide +kernel)) (by decide) ?_
  refine wp_iinc (v := 2) rfl rfl dX11_init_148 rfl rfl ?_
  try simp only [List.set_cons_zero, List.set_cons_succ]
  refine wp_goto (tgt := 126) dX11_init_151 (by decide) ?_
  refine wp_iload_n rfl rfl dX11_init_126 ?_
  refine wp_aload_n rfl rfl dX11_init_127 ?_
  refine wp_getL (z := 12) (kI := 3) (v := 5) fX11_29 dX11_init_128 (by decide) (hl_b e1 (by decide +kernel) (by decide +kernel) (by decide)) rfl rfl (hl_b e1 (by decide +kernel) (by decide +kernel) (by decide)) ?_
  refine wp_alenL (n := 6) (z := 40) dX11_init_131 (by decide) (hl_b e1 (by decide +kernel) (by decide +kernel) (by decide)) (by decide) (hl_b e1 (by decide +kernel) (by decide +kernel) (by decide)) ?_
  refine wp_icmp_ge (tgt := 154) (by exact ⟨by decide, by decide⟩) (by exact ⟨by decide, by decide⟩) dX11_init_132 (by decide) (fun hx => absurd hx (by decide)) (fun hx => ?_)
  refine wp_aload_n rfl rfl dX11_init_135 ?_
  refine wp_getL (z := 12) (kI := 3) (v := 5) fX11_29 dX11_init_136 (by decide) (hl_b e1 (by decide +kernel) (by decide +kernel) (by decide)) rfl rfl (hl_b e1 (by decide +kernel) (by decide +kernel) (by decide)) ?_
  refine wp_iload_n rfl rfl dX11_init_139 ?_
  refine wp_newL (a := 42) (ci := 10) (b' := 1502) (z := 11) rfl clX11_27 inX10 iniX10 dX11_init_140 rfl (by decide) (hl_bn e1 hz (by decide) (by decide +kernel) (by decide +kernel) (by decide)) (Nat.le_of_ble_eq_true rfl) ?_
  refine wp_dup (by decide) dX11_init_143 ?_
  refine wp_cIN0v okX10_init ⟨rfl, rfl⟩ wX11_86 dX11_init_144 (Nat.le_of_ble_eq_true rfl) (Nat.le_of_ble_eq_true rfl) (by decide) (x10i_2 (hl_read (by decide +kernel)) (hl_bn e1 hz (by decide) (by decide +kernel) (by decide +kernel) (by decide)) (hl_bn e1 hz (by decide) (by decide +kernel) (by decide +kernel) (by decide)) (hl_bn e1 hz (by decide) (by decide +kernel) (by decide +kernel) (by decide))) (Nat.le_of_ble_eq_true rfl) ?_
  rw [hl_app]
  simp only [List.cons_append, List.nil_append]
  refine wp_aastoreL (ci := 10) (n := 6) dX11_init_147 (by decide) (hl_b e1 (by decide +kernel) (by decide +kernel) (by decide)) (by decide) (hl_b e1 (by decide +kernel) (by decide +kernel) (by decide)) (by decide) (by decide) (hl_read (by decide +kernel)) (by decide) ?_
  refine wp_iinc (v := 3) rfl rfl dX11_init_148 rfl rfl ?_
  try simp only [List.set_cons_zero, List.set_cons_succ]
  refine wp_goto (tgt := 126) dX11_init_151 (by decide) ?_
  refine wp_iload_n rfl rfl dX11_init_126 ?_
  refine wp_aload_n rfl rfl dX11_init_127 ?_
  refine wp_getL (z := 12) (kI := 3) (v := 5) fX11_29 dX11_init_128 (by decide) (hl_b e1 (by decide +kernel) (by decide +kernel) (by decide)) rfl rfl (hl_b e1 (by decide +kernel) (by decide +kernel) (by decide)) ?_
  refine wp_alenL (n := 6) (z := 40) dX11_init_131 (by decide) (hl_b e1 (by decide +kernel) (by decide +kernel) (by decide)) (by decide) (hl_b e1 (by decide +kernel) (by decide +kernel) (by decide)) ?_
  refine wp_icmp_ge (tgt := 154) (by exact ⟨by decide, by decide⟩) (by exact ⟨by decide, by decide⟩) dX11_init_132 (by decide) (fun hx => absurd hx (by decide)) (fun hx => ?_)
  refine wp_aload_n rfl rfl dX11_init_135 ?_
  refine wp_getL (z := 12) (kI := 3) (v := 5) fX11_29 dX11_init_136 (by decide) (hl_b e1 (by decide +kernel) (by decide +kernel) (by decide)) rfl rfl (hl_b e1 (by decide +kernel) (by decide +kernel) (by decide)) ?_
  refine wp_iload_n rfl rfl dX11_init_139 ?_
  refine wp_newL (a := 43) (ci := 10) (b' := 1170) (z := 11) rfl clX11_27 inX10 iniX10 dX11_init_140 rfl (by decide) (hl_bn e1 hz (by decide) (by decide +kernel) (by decide +kernel) (by decide)) (Nat.le_of_ble_eq_true rfl) ?_
  refine wp_dup (by decide) dX11_init_143 ?_
  refine wp_cIN0v okX10_init ⟨rfl, rfl⟩ wX11_86 dX11_init_144 (Nat.le_of_ble_eq_true rfl) (Nat.le_of_ble_eq_true rfl) (by decide) (x10i_3 (hl_read (by decide +kernel)) (hl_bn e1 hz (by decide) (by decide +kernel) (by decide +kernel) (by decide)) (hl_bn e1 hz (by decide) (by decide +kernel) (by decide +kernel) (by decide)) (hl_bn e1 hz (by decide) (by decide +kernel) (by decide +kernel) (by decide))) (Nat.le_of_ble_eq_true rfl) ?_
  rw [hl_app]
  simp only [List.cons_append, List.nil_append]
  refine wp_aastoreL (ci := 10) (n := 6) dX11_init_147 (by decide) (hl_b e1 (by decide +kernel) (by decide +kernel) (by decide)) (by decide) (hl_b e1 (by decide +kernel) (by decide +kernel) (by decide)) (by decide) (by decide) (hl_read (by decide +kernel)) (by decide) ?_
  refine wp_iinc (v := 4) rfl rfl dX11_init_148 rfl rfl ?_
  try simp only [List.set_cons_zero, List.set_cons_succ]
  refine wp_goto (tgt := 126) dX11_init_151 (by decide) ?_
  refine wp_iload_n rfl rfl dX11_init_126 ?_
  refine wp_aload_n rfl rfl dX11_init_127 ?_
  refine wp_getL (z := 12) (kI := 3) (v := 5) fX11_29 dX11_init_128 (by decide) (hl_b e1 (by decide +kernel) (by decide +kernel) (by decide)) rfl rfl (hl_b e1 (by decide +kernel) (by decide +kernel) (by decide)) ?_
  refine wp_alenL (n := 6) (z := 40) dX11_init_131 (by decide) (hl_b e1 (by decide +kernel) (by decide +kernel) (by decide)) (by decide) (hl_b e1 (by decide +kernel) (by decide +kernel) (by decide)) ?_
  refine wp_icmp_ge (tgt := 154) (by exact ⟨by decide, by decide⟩) (by exact ⟨by decide, by decide⟩) dX11_init_132 (by decide) (fun hx => absurd hx (by decide)) (fun hx => ?_)
  refine wp_aload_n rfl rfl dX11_init_135 ?_
  refine wp_getL (z := 12) (kI := 3) (v := 5) fX11_29 dX11_init_136 (by decide) (hl_b e1 (by decide +kernel) (by decide +kernel) (by decide)) rfl rfl (hl_b e1 (by decide +kernel) (by decide +kernel) (by decide)) ?_
  refine wp_iload_n rfl rfl dX11_init_139 ?_
  refine wp_newL (a := 44) (ci := 10) (b' := 838) (z := 11) rfl clX11_27 inX10 iniX10 dX11_init_140 rfl (by decide) (hl_bn e1 hz (by decide) (by decide +kernel) (by decide +kernel) (by decide)) (Nat.le_of_ble_eq_true rfl) ?_
  refine wp_dup (by decide) dX11_init_143 ?_
  refine wp_cIN0v okX10_init ⟨rfl, rfl⟩ wX11_86 dX11_init_144 (Nat.le_of_ble_eq_true rfl) (Nat.le_of_ble_eq_true rfl) (by decide) (x10i_4 (hl_read (by decide +kernel)) (hl_bn e1 hz (by decide) (by decide +kernel) (by decide +kernel) (by decide)) (hl_bn e1 hz (by decide) (by decide +kernel) (by decide +kernel) (by decide)) (hl_bn e1 hz (by decide) (by decide +kernel) (by decide +kernel) (by decide))) (Nat.le_of_ble_eq_true rfl) ?_
  rw [hl_app]
  simp only [List.cons_append, List.nil_append]
  refine wp_aastoreL (ci := 10) (n := 6) dX11_init_147 (by decide) (hl_b e1 (by decide +kernel) (by decide +kernel) (by decide)) (by decide) (hl_b e1 (by decide +kernel) (by decide +kernel) (by decide)) (by decide) (by decide) (hl_read (by decide +kernel)) (by decide) ?_
  refine wp_iinc (v := 5) rfl rfl dX11_init_148 rfl rfl ?_
  try simp only [List.set_cons_zero, List.set_cons_succ]
  refine wp_goto (tgt := 126) dX11_init_151 (by decide) ?_
  refine wp_iload_n rfl rfl dX11_init_126 ?_
  refine wp_aload_n rfl rfl dX11_init_127 ?_
  refine wp_getL (z := 12) (kI := 3) (v := 5) fX11_29 dX11_init_128 (by decide) (hl_b e1 (by decide +kernel) (by decide +kernel) (by decide)) rfl rfl (hl_b e1 (by decide +kernel) (by decide +kernel) (by decide)) ?_
  refine wp_alenL (n := 6) (z := 40) dX11_init_131 (by decide) (hl_b e1 (by decide +kernel) (by decide +kernel) (by decide)) (by decide) (hl_b e1 (by decide +kernel) (by decide +kernel) (by decide)) ?_
  refine wp_icmp_ge (tgt := 154) (by exact ⟨by decide, by decide⟩) (by exact ⟨by decide, by decide⟩) dX11_init_132 (by decide) (fun hx => absurd hx (by decide)) (fun hx => ?_)
  refine wp_aload_n rfl rfl dX11_init_135 ?_
  refine wp_getL (z := 12) (kI := 3) (v := 5) fX11_29 dX11_init_136 (by decide) (hl_b e1 (by decide +kernel) (by decide +kernel) (by decide)) rfl rfl (hl_b e1 (by decide +kernel) (by decide +kernel) (by decide)) ?_
  refine wp_iload_n rfl rfl dX11_init_139 ?_
  refine wp_newL (a := 45) (ci := 10) (b' := 506) (z := 11) rfl clX11_27 inX10 iniX10 dX11_init_140 rfl (by decide) (hl_bn e1 hz (by decide) (by decide +kernel) (by decide +kernel) (by decide)) (Nat.le_of_ble_eq_true rfl) ?_
  refine wp_dup (by decide) dX11_init_143 ?_
  refine wp_cIN0v okX10_init ⟨rfl, rfl⟩ wX11_86 dX11_init_144 (Nat.le_of_ble_eq_true rfl) (Nat.le_of_ble_eq_true rfl) (by decide) (x10i_5 (hl_read (by decide +kernel)) (hl_bn e1 hz (by decide) (by decide +kernel) (by decide +kernel) (by decide)) (hl_bn e1 hz (by decide) (by decide +kernel) (by decide +kernel) (by decide)) (hl_bn e1 hz (by decide) (by decide +kernel) (by decide +kernel) (by decide))) (Nat.le_of_ble_eq_true rfl) ?_
  rw [hl_app]
  simp only [List.cons_append, List.nil_append]
  refine wp_aastoreL (ci := 10) (n := 6) dX11_init_147 (by decide) (hl_b e1 (by decide +kernel) (by decide +kernel) (by decide)) (by decide) (hl_b e1 (by decide +kernel) (by decide +kernel) (by decide)) (by decide) (by decide) (hl_read (by decide +kernel)) (by decide) ?_
  refine wp_iinc (v := 6) rfl rfl dX11_init_148 rfl rfl ?_
  try simp only [List.set_cons_zero, List.set_cons_succ]
  refine wp_goto (tgt := 126) dX11_init_151 (by decide) ?_
  refine wp_iload_n rfl rfl dX11_init_126 ?_
  refine wp_aload_n rfl rfl dX11_init_127 ?_
  refine wp_getL (z := 12) (kI := 3) (v := 5) fX11_29 dX11_init_128 (by decide) (hl_b e1 (by decide +kernel) (by decide +kernel) (by decide)) rfl rfl (hl_b e1 (by decide +kernel) (by decide +kernel) (by decide)) ?_
  refine wp_alenL (n := 6) (z := 40) dX11_init_131 (by decide) (hl_b e1 (by decide +kernel) (by decide +kernel) (by decide)) (by decide) (hl_b e1 (by decide +kernel) (by decide +kernel) (by decide)) ?_
  refine wp_icmp_ge (tgt := 154) (by exact ⟨by decide, by decide⟩) (by exact ⟨by decide, by decide⟩) dX11_init_132 (by decide) (fun hx => ?_) (fun hx => absurd hx (by decide))
  refine wp_iconst dX11_init_154 ?_
  refine wp_istore_n rfl dX11_init_155 rfl (Nat.le_of_ble_eq_true rfl) rfl ?_
  try simp only [List.set_cons_zero, List.set_cons_succ]
  refine wp_iload_n rfl rfl dX11_init_156 ?_
  refine wp_aload_n rfl rfl dX11_init_157 ?_
  refine wp_getL (z := 12) (kI := 4) (v := 6) fX11_35 dX11_init_158 (by decide) (hl_b e1 (by decide +kernel) (by decide +kernel) (by decide)) rfl rfl (hl_b e1 (by decide +kernel) (by decide +kernel) (by decide)) ?_
  refine wp_alenL (n := 4) (z := 38) dX11_init_161 (by decide) (hl_b e1 (by decide +kernel) (by decide +kernel) (by decide)) (by decide) (hl_b e1 (by decide +kernel) (by decide +kernel) (by decide)) ?_
  refine wp_icmp_ge (tgt := 184) (by exact ⟨by decide, by decide⟩) (by exact ⟨by decide, by decide⟩) dX11_init_162 (by decide) (fun hx => absurd hx (by decide)) (fun hx => ?_)
  refine wp_aload_n rfl rfl dX11_init_165 ?_
  refine wp_getL (z := 12) (kI := 4) (v := 6) fX11_35 dX11_init_166 (by decide) (hl_b e1 (by decide +kernel) (by decide +kernel) (by decide)) rfl rfl (hl_b e1 (by decide +kernel) (by decide +kernel) (by decide)) ?_
  refine wp_iload_n rfl rfl dX11_init_169 ?_
  refine wp_newL (a := 80) (ci := 8) (b' := 176) (z := 9) rfl clX11_33 inX8 iniX8 dX11_init_170 rfl (by decide) (hl_bn e1 hz (by decide) (by decide +kernel) (by decide +kernel) (by decide)) (Nat.le_of_ble_eq_true rfl) ?_
  refine wp_dup (by decide) dX11_init_173 ?_
  refine wp_cIN0v okX8_init ⟨rfl, rfl⟩ wX11_87 dX11_init_174 (Nat.le_of_ble_eq_true rfl) (Nat.le_of_ble_eq_true rfl) (by decide) (x8i_0 (hl_read (by decide +kernel)) (hl_bn e1 hz (by decide) (by decide +kernel) (by decide +kernel) (by decide))) (Nat.le_of_ble_eq_true rfl) ?_
  rw [hl_app]
  simp only [List.cons_append, List.nil_append]
  refine wp_aastoreL (ci := 8) (n := 4) dX11_init_177 (by decide) (hl_b e1 (by decide +kernel) (by decide +kernel) (by decide)) (by decide) (hl_b e1 (by decide +kernel) (by decide +kernel) (by decide)) (by decide) (by decide) (hl_read (by decide +kernel)) (by decide) ?_
  refine wp_iinc (v := 1) rfl rfl dX11_init_178 rfl rfl ?_
  try simp only [List.set_cons_zero, List.set_cons_succ]
  refine wp_goto (tgt := 156) dX11_init_181 (by decide) ?_
  refine wp_iload_n rfl rfl dX11_init_156 ?_
  refine wp_aload_n rfl rfl dX11_init_157 ?_
  refine wp_getL (z := 12) (kI := 4) (v := 6) fX11_35 dX11_init_158 (by decide) (hl_b e1 (by decide +kernel) (by decide +kernel) (by decide)) rfl rfl (hl_b e1 (by decide +kernel) (by decide +kernel) (by decide)) ?_
  refine wp_alenL (n := 4) (z := 38) dX11_init_161 (by decide) (hl_b e1 (by decide +kernel) (by decide +kernel) (by decide)) (by decide) (hl_b e1 (by decide +kernel) (by decide +kernel) (by decide)) ?_
  refine wp_icmp_ge (tgt := 184) (by exact ⟨by decide, by decide⟩) (by exact ⟨by decide, by decide⟩) dX11_init_162 (by decide) (fun hx => absurd hx (by decide)) (fun hx => ?_)
  refine wp_aload_n rfl rfl dX11_init_165 ?_
  refine wp_getL (z := 12) (kI := 4) (v := 6) fX11_35 dX11_init_166 (by decide) (hl_b e1 (by decide +kernel) (by decide +kernel) (by decide)) rfl rfl (hl_b e1 (by decide +kernel) (by decide +kernel) (by decide)) ?_
  refine wp_iload_n rfl rfl dX11_init_169 ?_
  refine wp_newL (a := 81) (ci := 8) (b' := 131) (z := 9) rfl clX11_33 inX8 iniX8 dX11_init_170 rfl (by decide) (hl_bn e1 hz (by decide) (by decide +kernel) (by decide +kernel) (by decide)) (Nat.le_of_ble_eq_true rfl) ?_
  refine wp_dup (by decide) dX11_init_173 ?_
  refine wp_cIN0v okX8_init ⟨rfl, rfl⟩ wX11_87 dX11_init_174 (Nat.le_of_ble_eq_true rfl) (Nat.le_of_ble_eq_true rfl) (by decide) (x8i_1 (hl_read (by decide +kernel)) (hl_bn e1 hz (by decide) (by decide +kernel) (by decide +kernel) (by decide))) (Nat.le_of_ble_eq_true rfl) ?_
  rw [hl_app]
  simp only [List.cons_append, List.nil_append]
  refine wp_aastoreL (ci := 8) (n := 4) dX11_init_177 (by decide) (hl_b e1 (by decide +kernel) (by decide +kernel) (by decide)) (by decide) (hl_b e1 (by decide +kernel) (by decide +kernel) (by decide)) (by decide) (by decide) (hl_read (by decide +kernel)) (by decide) ?_
  refine wp_iinc (v := 2) rfl rfl dX11_init_178 rfl rfl ?_
  try simp only [List.set_cons_zero, List.set_cons_succ]
  refine wp_goto (tgt := 156) dX11_init_181 (by decide) ?_
  refine wp_iload_n rfl rfl dX11_init_156 ?_
  refine wp_aload_n rfl rfl dX11_init_157 ?_
  refine wp_getL (z := 12) (kI := 4) (v := 6) fX11_35 dX11_init_158 (by decide) (hl_b e1 (by decide +kernel) (by decide +kernel) (by decide)) rfl rfl (hl_b e1 (by decide +kernel) (by decide +kernel) (by decide)) ?_
  refine wp_alenL (n := 4) (z := 38) dX11_init_161 (by decide) (hl_b e1 (by decide +kernel) (by decide +kernel) (by decide)) (by decide) (hl_b e1 (by decide +kernel) (by decide +kernel) (by decide)) ?_
  refine wp_icmp_ge (tgt := 184) (by exact ⟨by decide, by decide⟩) (by exact ⟨by decide, by decide⟩) dX11_init_162 (by decide) (fun hx => absurd hx (by decide)) (fun hx => ?_)
  refine wp_aload_n rfl rfl dX11_init_165 ?_
  refine wp_getL (z := 12) (kI := 4) (v := 6) fX11_35 dX11_init_166 (by decide) (hl_b e1 (by decide +kernel) (by decide +kernel) (by decide)) rfl rfl (hl_b e1 (by decide +kernel) (by decide +kernel) (by decide)) ?_
  refine wp_iload_n rfl rfl dX11_init_169 ?_
  refine wp_newL (a := 82) (ci := 8) (b' := 86) (z := 9) rfl clX11_33 inX8 iniX8 dX11_init_170 rfl (by decide) (hl_bn e1 hz (by decide) (by decide +kernel) (by decide +kernel) (by decide)) (Nat.le_of_ble_eq_true rfl) ?_
  refine wp_dup (by decide) dX11_init_173 ?_
  refine wp_cIN0v okX8_init ⟨rfl, rfl⟩ wX11_87 dX11_init_174 (Nat.le_of_ble_eq_true rfl) (Nat.le_of_ble_eq_true rfl) (by decide) (x8i_2 (hl_read (by decide +kernel)) (hl_bn e1 hz (by decide) (by decide +kernel) (by decide +kernel) (by decide))) (Nat.le_of_ble_eq_true rfl) ?_
  rw [hl_app]
  simp only [List.cons_append, List.nil_append]
  refine wp_aastoreL (ci := 8) (n := 4) dX11_init_177 (by decide) (hl_b e1 (by decide +kernel) (by decide +kernel) (by decide)) (by decide) (hl_b e1 (by decide +kernel) (by decide +kernel) (by decide)) (by decide) (by decide) (hl_read (by decide +kernel)) (by decide) ?_
  refine wp_iinc (v := 3) rfl rfl dX11_init_178 rfl rfl ?_
  try simp only [List.set_cons_zero, List.set_cons_succ]
  refine wp_goto (tgt := 156) dX11_init_181 (by decide) ?_
  refine wp_iload_n rfl rfl dX11_init_156 ?_
  refine wp_aload_n rfl rfl dX11_init_157 ?_
  refine wp_getL (z := 12) (kI := 4) (v := 6) fX11_35 dX11_init_158 (by decide) (hl_b e1 (by decide +kernel) (by decide +kernel) (by decide)) rfl rfl (hl_b e1 (by decide +kernel) (by decide +kernel) (by decide)) ?_
  refine wp_alenL (n := 4) (z := 38) dX11_init_161 (by decide) (hl_b e1 (by decide +kernel) (by decide +kernel) (by decide)) (by decide) (hl_b e1 (by decide +kernel) (by decide +kernel) (by decide)) ?_
  refine wp_icmp_ge (tgt := 184) (by exact ⟨by decide, by decide⟩) (by exact ⟨by decide, by decide⟩) dX11_init_162 (by decide) (fun hx => absurd hx (by decide)) (fun hx => ?_)
  refine wp_aload_n rfl rfl dX11_init_165 ?_
  refine wp_getL (z := 12) (kI := 4) (v := 6) fX11_35 dX11_init_166 (by decide) (hl_b e1 (by decide +kernel) (by decide +kernel) (by decide)) rfl rfl (hl_b e1 (by decide +kernel) (by decide +kernel) (by decide)) ?_
  refine wp_iload_n rfl rfl dX11_init_169 ?_
  refine wp_newL (a := 83) (ci := 8) (b' := 41) (z := 9) rfl clX11_33 inX8 iniX8 dX11_init_170 rfl (by decide) (hl_bn e1 hz (by decide) (by decide +kernel) (by decide +kernel) (by decide)) (Nat.le_of_ble_eq_true rfl) ?_
  refine wp_dup (by decide) dX11_init_173 ?_
  refine wp_cIN0v okX8_init ⟨rfl, rfl⟩ wX11_87 dX11_init_174 (Nat.le_of_ble_eq_true rfl) (Nat.le_of_ble_eq_true rfl) (by decide) (x8i_3 (hl_read (by decide +kernel)) (hl_bn e1 hz (by decide) (by decide +kernel) (by decide +kernel) (by decide))) (Nat.le_of_ble_eq_true rfl) ?_
  rw [hl_app]
  simp only [List.cons_append, List.nil_append]
  refine wp_aastoreL (ci := 8) (n := 4) dX11_init_177 (by decide) (hl_b e1 (by decide +kernel) (by decide +kernel) (by decide)) (by decide) (hl_b e1 (by decide +kernel) (by decide +kernel) (by decide)) (by decide) (by decide) (hl_read (by decide +kernel)) (by decide) ?_
  refine wp_iinc (v := 4) rfl rfl dX11_init_178 rfl rfl ?_
  try simp only [List.set_cons_zero, List.set_cons_succ]
  refine wp_goto (tgt := 156) dX11_init_181 (by decide) ?_
  refine wp_iload_n rfl rfl dX11_init_156 ?_
  refine wp_aload_n rfl rfl dX11_init_157 ?_
  refine wp_getL (z := 12) (kI := 4) (v := 6) fX11_35 dX11_init_158 (by decide) (hl_b e1 (by decide +kernel) (by decide +kernel) (by decide)) rfl rfl (hl_b e1 (by decide +kernel) (by decide +kernel) (by decide)) ?_
  refine wp_alenL (n := 4) (z := 38) dX11_init_161 (by decide) (hl_b e1 (by decide +kernel) (by decide +kernel) (by decide)) (by decide) (hl_b e1 (by decide +kernel) (by decide +kernel) (by decide)) ?_
  refine wp_icmp_ge (tgt := 184) (by exact ⟨by decide, by decide⟩) (by exact ⟨by decide, by decide⟩) dX11_init_162 (by decide) (fun hx => ?_) (fun hx => absurd hx (by decide))
  refine wp_vret dX11_init_184 rfl ?_
  exact ⟨rfl, g1, e1, X1, q1, c1, rfl⟩
