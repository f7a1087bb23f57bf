/-! ===== what is read alone: statics, texts, the script; Math ===== -/
section MR6
variable {X : mX} {M M' : mD} {d b b' n pc : Nat} {Q Q' : mV → mH → Prop} {L S As : List mV} {h : mH}
theorem mRel.ro {s : State} {ad : Int → Nat} {H : Heap} (r : mRel X s ad h H) {a : Int} (ha : a ≤ -10) : h a (-1) ≠ 0 ∧ ad a = xA X a := by
  obtain ⟨_, _, _, _, _, _, _, q, _⟩ := r
  exact ⟨(q a (by omega)).1.mpr ha, (q a (by omega)).2 ha⟩
theorem ro_en {s : State} {ad : Int → Nat} {H : Heap} (r : mRel X s ad h H) {v : mV} (hv : v.1 = 0 ∨ v.1 = 2 ∧ (v.2 ≤ -10 ∨ v.2 = -1)) : enV (xA X) v = enV ad v ∧ okV h v := by
  obtain ⟨t, x⟩ := v
  rcases hv with hv | ⟨hv, hx⟩
  · cases hv; exact ⟨rfl, okV_0⟩
  · cases hv
    rcases hx with hx | hx
    · have e := r.ro hx
      have hx' : x ≠ -1 := by intro q; have : x ≤ -10 := hx; omega
      refine ⟨?_, t23, fun _ => Or.inr e.1⟩
      rw [enV_r hx', enV_r hx', e.2]
    · cases hx; exact ⟨rfl, okV_n⟩
theorem wp_gets {idx : Nat} {C nm ds : String} {v : mV} (hm : (C, nm, ds, v) ∈ (xR X).2.1) (hw : Cond.fieldLink (mO M) idx C nm ds ∈ xT X) (hv : v.1 = 0 ∨ v.1 = 2 ∧ (v.2 ≤ -10 ∨ v.2 = -1)) (hd : decode (mC M) pc = .ok (.getstatic idx, 3)) (k' : WP X M d b Q (pc + 3) L (v :: S) h) : WP X M d b Q pc L S h := by
  intro p l e R s m args below meth c H locs cells slots Z ad ls mx hA hR hV h1 h2 h3 h4 hL hS hF
  obtain ⟨hx, hbb, hml, hown, hts, hret, hlk, hnm, hfr, hlo, hro, hba, hok⟩ := id hA
  obtain ⟨e1, e2⟩ := ro_en hR hv
  have kk := k' p l e R s m args below meth c H locs cells slots Z ad ls mx hA hR hV h1 h2 h3 h4 hL (mStk.cons e2 hS) hF
  have hZ := hro.2.1 C nm ds v hm
  rw [e1] at hZ
  exact va_gets hx hbb hZ hV hown (hts _ hw) (fun _ z => z) hd kk
theorem wp_ialoadR {a i : Int} {N : Nat} {f : Nat → Int} (hr : (xR X).1 a = some (.int, N, f)) (ha : a ≤ -10) (h0 : 0 ≤ i) (hi : i < N) (hd : decode (mC M) pc = .ok (.iaload, 1)) (k' : WP X M d b Q (pc + 1) L ((0, f i.toNat) :: S) h) : WP X M d b Q pc L ((0, i) :: (2, a) :: S) h := by
  intro p l e R s m args below meth c H locs cells slots Z ad ls mx hA hR hV h1 h2 h3 h4 hL hS hF
  obtain ⟨hx, hbb, hml, hown, hts, hret, hlk, hnm, hfr, hlo, hro, hba, hok⟩ := id hA
  have kk := k' p l e R s m args below meth c H locs cells slots Z ad ls mx hA hR hV h1 h2 h3 h4 hL (mStk.cons okV_0 hS.tail.tail) hF
  obtain ⟨hT, hN⟩ := hro.1 a _ N f hr
  rw [← (hR.ro ha).2] at hT
  show W p l e R s m args below meth c H locs cells slots Z (F0 m pc ls (.int (Int32.ofInt i) :: enV ad (2, a) :: S.map (enV ad)))
  rw [enV_r (by omega)]
  have hin := vin h0 hi (by omega)
  rw [Int.toNat_natCast] at hin
  exact va_ti hx hbb hT hV hin (by rw [vcl h0 (by omega)]; rfl) hd kk
theorem wp_baloadR {a i : Int} {N : Nat} {f : Nat → Int} (hr : (xR X).1 a = some (.byte, N, f)) (ha : a ≤ -10) (h0 : 0 ≤ i) (hi : i < N) (hd : decode (mC M) pc = .ok (.baload, 1)) (k' : WP X M d b Q (pc + 1) L ((0, f i.toNat) :: S) h) : WP X M d b Q pc L ((0, i) :: (2, a) :: S) h := by
  intro p l e R s m args below meth c H locs cells slots Z ad ls mx hA hR hV h1 h2 h3 h4 hL hS hF
  obtain ⟨hx, hbb, hml, hown, hts, hret, hlk, hnm, hfr, hlo, hro, hba, hok⟩ := id hA
  have kk := k' p l e R s m args below meth c H locs cells slots Z ad ls mx hA hR hV h1 h2 h3 h4 hL (mStk.cons okV_0 hS.tail.tail) hF
  obtain ⟨hT, hN⟩ := hro.1 a _ N f hr
  rw [← (hR.ro ha).2] at hT
  show W p l e R s m args below meth c H locs cells slots Z (F0 m pc ls (.int (Int32.ofInt i) :: enV ad (2, a) :: S.map (enV ad)))
  rw [enV_r (by omega)]
  have hin := vin h0 hi (by omega)
  rw [Int.toNat_natCast] at hin
  exact va_tb hx hbb hT hV hin (by rw [vcl h0 (by omega)]; rfl) hd kk
theorem wp_alenR {a : Int} {N : Nat} {ty : FieldType} {f : Nat → Int} (hr : (xR X).1 a = some (ty, N, f)) (ha : a ≤ -10) (hd : decode (mC M) pc = .ok (.arraylength, 1)) (k' : WP X M d b Q (pc + 1) L ((0, (N : Int)) :: S) h) : WP X M d b Q pc L ((2, a) :: S) h := by
  intro p l e R s m args below meth c H locs cells slots Z ad ls mx hA hR hV h1 h2 h3 h4 hL hS hF
  obtain ⟨hx, hbb, hml, hown, hts, hret, hlk, hnm, hfr, hlo, hro, hba, hok⟩ := id hA
  have kk := k' p l e R s m args below meth c H locs cells slots Z ad ls mx hA hR hV h1 h2 h3 h4 hL (mStk.cons okV_0 hS.tail) hF
  obtain ⟨hT, hN⟩ := hro.1 a _ N f hr
  rw [← (hR.ro ha).2] at hT
  show W p l e R s m args below meth c H locs cells slots Z (F0 m pc ls (enV ad (2, a) :: S.map (enV ad)))
  rw [enV_r (by omega)]
  exact va_tlen hx hbb hT hV (v := Int32.ofInt N) (by rw [← Int32.ofInt_eq_ofNat]) hd kk
theorem wp_ldcS {a : Int} {idx : Nat} {tx : String} (hl : (mO M, idx, tx, a) ∈ (xR X).2.2.1) (hd : decode (mC M) pc = .ok (.ldc idx, 2)) (k' : WP X M d b Q (pc + 2) L ((2, a) :: S) h) : WP X M d b Q pc L S h := by
  intro p l e R s m args below meth c H locs cells slots Z ad ls mx hA hR hV h1 h2 h3 h4 hL hS hF
  obtain ⟨hx, hbb, hml, hown, hts, hret, hlk, hnm, hfr, hlo, hro, hba, hok⟩ := id hA
  obtain ⟨hZ, ha⟩ := hro.2.2.1 _ _ _ _ hl
  have kk := k' p l e R s m args below meth c H locs cells slots Z ad ls mx hA hR hV h1 h2 h3 h4 hL (mStk.cons ⟨t23, fun _ => Or.inr (hR.ro ha).1⟩ hS) hF
  rw [← (hR.ro ha).2] at hZ
  refine va_ldcS hx hbb hown hZ hd ?_
  rw [← enV_r (ad := ad) (a := a) (by omega)]
  exact kk
theorem wp_getfR {a : Int} {idx : Nat} {nm ds : String} {v : mV} (he : (a, nm, ds, v) ∈ (xR X).2.2.2.1) (ha : a ≤ -10) (hw : Cond.fieldLink (mO M) idx "java/lang/String" nm ds ∈ xT X) (hv : v.1 = 0 ∨ v.1 = 2 ∧ (v.2 ≤ -10 ∨ v.2 = -1)) (hd : decode (mC M) pc = .ok (.getfield idx, 3)) (k' : WP X M d b Q (pc + 3) L (v :: S) h) : WP X M d b Q pc L ((2, a) :: S) h := by
  intro p l e R s m args below meth c H locs cells slots Z ad ls mx hA hR hV h1 h2 h3 h4 hL hS hF
  obtain ⟨hx, hbb, hml, hown, hts, hret, hlk, hnm, hfr, hlo, hro, hba, hok⟩ := id hA
  obtain ⟨e1, e2⟩ := ro_en hR hv
  have kk := k' p l e R s m args below meth c H locs cells slots Z ad ls mx hA hR hV h1 h2 h3 h4 hL (mStk.cons e2 hS.tail) hF
  have hE := hro.2.2.2.1 a nm ds v he
  rw [e1, ← (hR.ro ha).2] at hE
  show W p l e R s m args below meth c H locs cells slots Z (F0 m pc ls (enV ad (2, a) :: S.map (enV ad)))
  rw [enV_r (by omega)]
  exact vk_getf hx hbb hE hV hown (hts _ hw) (fun _ z => z) hd kk
/-- a method of a text -/
theorem wp_callR {idx : Nat} {a : Int} (hM : okM X M' n) (hw : Cond.methodLink (mO M) idx (mY M') ∈ xT X ∧ Cond.instanceMethod (mY M') ∈ xT X ∧ Cond.selects (mY M').cls (mY M') (mY M') ∈ xT X) (hrc : (mY M').cls = "java/lang/String") (hin : a ∈ (xR X).2.2.2.2.1) (hd : decode (mC M) pc = .ok (.invokevirtual idx, 3)) {st : List mV} (hst : st = As.reverse ++ (2, a) :: S) (hn : As.length = n) (hlen : (mLay ((2, a) :: As)).length ≤ mL M') (hm : mw S ≤ 8) (ha : a ≤ -10)
    (kc : WPm X M' d b' Q' ((2, a) :: As) h) (hb : b' ≤ b) (k : ∀ (r : mV) (h' : mH), Q' r h' → mKeep h h' → WP X M (d + 1) (b - b') Q (pc + 3) L (rs r ++ S) h') : WP X M (d + 1) b Q pc L st h := by
  subst hst
  refine wp_run (fun p l e R s m args below meth c H locs cells slots ad ls hA hR hV hce hsl hL hS => ?_) ⟨As.reverse ++ [(2, a)], by rw [List.append_assoc]; rfl⟩ hb k
  obtain ⟨hx, hbb, hml, hown, hts, hret, hlk, hnm, hfr, hlo, hro, hba, hok⟩ := id hA
  have hSA : mStk h ((2, a) :: As) := fun v hv => hS v ((List.mem_cons.mp hv).elim (fun z => List.mem_append_right _ (by rw [z]; exact List.mem_cons_self)) (fun z => List.mem_append_left _ (List.mem_reverse.mpr z)))
  have hSS : mStk h S := fun v hv => hS v (List.mem_append_right _ (List.mem_cons_of_mem _ hv))
  have hO := hro.2.2.2.2.1 a hin
  rw [← (hR.ro ha).2] at hO
  have hrecv := va_Orecv hO hV
  rw [← hrc] at hrecv
  have hp := mPre' (by omega) (mPre (As := (2, a) :: As) hA hR hV)
  refine ⟨_, va_runV (As := As.map (enV ad)) (b := ad a) (n := n) (C := (mY M').cls) ⟨hx, hbb, hml, hown, hts⟩ (met_of hM hSA hlen kc l ad) ⟨callB_of n hts (mGood hok hM) rfl rfl rfl (hts _ hM.2.2.1) (hts _ hw.1) ⟨hM.2.2.2.2.2.1.1, hM.2.2.2.2.2.1.2, hM.2.2.2.2.2.2⟩ (mRoom hA hM), hts _ hw.2.1, hts _ hw.2.2⟩ ⟨hp.1, hrecv, hp.2⟩ rfl (by rw [List.length_map]; exact hn) (by rw [hL.size]) (by rw [map_rev, List.map_cons, enV_r (by omega)]) (lv_room (by rw [mw_eq hSS]; exact hm)) hd ⟨hce, hsl⟩⟩
theorem wp_max {idx : Nat} {x y : Int} (hx : InI x) (hy : InI y) (hw : Cond.methodLink (mO M) idx Lib.Math.max.name ∈ xT X ∧ Cond.static Lib.Math.max.name ∈ xT X ∧ Cond.initialized "java/lang/Math" ∈ xT X ∧ Cond.code Lib.Math.max.name Lib.Math.max.code 2 (some .int) ∈ xT X) (hd : decode (mC M) pc = .ok (.invokestatic idx, 3)) (hm : mw S ≤ 8) (k' : WP X M (d + 1) b Q (pc + 3) L ((0, if x < y then y else x) :: S) h) : WP X M (d + 1) b Q pc L ((0, y) :: (0, x) :: S) h := by
  intro p l e R s m args below meth c H locs cells slots Z ad ls mx hA hR hV h1 h2 h3 h4 hL hS hF
  obtain ⟨hX, hbb, hml, hown, hts, hret, hlk, hnm, hfr, hlo, hro, hba, hok⟩ := id hA
  have kk := k' p l e R s m args below meth c H locs cells slots Z ad ls mx hA hR hV h1 h2 h3 h4 hL (mStk.cons okV_0 hS.tail.tail) hF
  have e1 : Int32.ofInt (if x < y then y else x) = if Int32.ofInt x < Int32.ofInt y then Int32.ofInt y else Int32.ofInt x := by
    by_cases q : x < y
    · rw [if_pos q, if_pos ((ltI hx hy).mpr q)]
    · rw [if_neg q, if_neg (fun z => q ((ltI hx hy).mp z))]
  refine va_mmax hX hbb (hml.trans hL.size.symm) hown (hts _ hw.1) (hts _ hw.2.1) (hts _ hw.2.2.1) (hts _ hw.2.2.2) (by omega) (by rw [mw_eq hS.tail.tail]; omega) (by omega) (by omega) hd ?_
  rw [← e1]
  exact kk
theorem wp_min {idx : Nat} {x y : Int} (hx : InI x) (hy : InI y) (hw : Cond.methodLink (mO M) idx Lib.Math.min.name ∈ xT X ∧ Cond.static Lib.Math.min.name ∈ xT X ∧ Cond.initialized "java/lang/Math" ∈ xT X ∧ Cond.code Lib.Math.min.name Lib.Math.min.code 2 (some .int) ∈ xT X) (hd : decode (mC M) pc = .ok (.invokestatic idx, 3)) (hm : mw S ≤ 8) (k' : WP X M (d + 1) b Q (pc + 3) L ((0, if y < x then y else x) :: S) h) : WP X M (d + 1) b Q pc L ((0, y) :: (0, x) :: S) h := by
  intro p l e R s m args below meth c H locs cells slots Z ad ls mx hA hR hV h1 h2 h3 h4 hL hS hF
  obtain ⟨hX, hbb, hml, hown, hts, hret, hlk, hnm, hfr, hlo, hro, hba, hok⟩ := id hA
  have kk := k' p l e R s m args below meth c H locs cells slots Z ad ls mx hA hR hV h1 h2 h3 h4 hL (mStk.cons okV_0 hS.tail.tail) hF
  have e1 : Int32.ofInt (if y < x then y else x) = if Int32.ofInt y < Int32.ofInt x then Int32.ofInt y else Int32.ofInt x := by
    by_cases q : y < x
    · rw [if_pos q, if_pos ((ltI hy hx).mpr q)]
    · rw [if_neg q, if_neg (fun z => q ((ltI hy hx).mp z))]
  refine va_mmin hX hbb (hml.trans hL.size.symm) hown (hts _ hw.1) (hts _ hw.2.1) (hts _ hw.2.2.1) (hts _ hw.2.2.2) (by omega) (by rw [mw_eq hS.tail.tail]; omega) (by omega) (by omega) hd ?_
  rw [← e1]
  exact kk
theorem wp_absL {idx : Nat} {x : Int} (hx : InL x) (hw : Cond.methodLink (mO M) idx Lib.MathLoose.abs_long.x ∈ xT X ∧ Cond.static Lib.MathLoose.abs_long.x ∈ xT X ∧ Cond.initialized "java/lang/Math" ∈ xT X ∧ Cond.code Lib.MathLoose.abs_long.x Lib.MathLoose.abs_long.code 2 (some .long) ∈ xT X) (hd : decode (mC M) pc = .ok (.invokestatic idx, 3)) (hm : mw S ≤ 8) (k' : WP X M (d + 1) b Q (pc + 3) L ((1, if 0 < x then x else -x) :: S) h) : WP X M (d + 1) b Q pc L ((1, x) :: S) h := by
  intro p l e R s m args below meth c H locs cells slots Z ad ls mx hA hR hV h1 h2 h3 h4 hL hS hF
  obtain ⟨hX, hbb, hml, hown, hts, hret, hlk, hnm, hfr, hlo, hro, hba, hok⟩ := id hA
  have kk := k' p l e R s m args below meth c H locs cells slots Z ad ls mx hA hR hV h1 h2 h3 h4 hL (mStk.cons okV_1 hS.tail) hF
  have e0 : (0 : Int64) < Int64.ofInt x ↔ 0 < x := by rw [Int64.lt_iff_toInt_lt, toL hx]; exact Iff.rfl
  have e1 : Int64.ofInt (if 0 < x then x else -x) = if 0 < Int64.ofInt x then Int64.ofInt x else -Int64.ofInt x := by
    by_cases q : 0 < x
    · rw [if_pos q, if_pos (e0.mpr q)]
    · rw [if_neg q, if_neg (fun z => q (e0.mp z)), Int64.ofInt_neg]
  refine va_mabs_long hX hbb (hml.trans hL.size.symm) hown (hts _ hw.1) (hts _ hw.2.1) (hts _ hw.2.2.1) (hts _ hw.2.2.2) (by omega) (by rw [mw_eq hS.tail]; omega) (by omega) (by omega) hd ?_
  rw [← e1]
  exact kk
end MR6
