/-! ===== the heap's rows ===== -/
def up2 (h : mH) (a k v : Int) : mH := fun a' k' => if a' = a ∧ k' = k then v else h a' k'
theorem up2_row {h : mH} {a b k v : Int} (hb : b ≠ a) : up2 h a k v b = h b := by
  funext j
  show (if b = a ∧ j = k then v else h b j) = h b j
  rw [if_neg (fun q => hb q.1)]
theorem up2_ne {h : mH} {a b k j v : Int} (hn : b ≠ a ∨ j ≠ k) : up2 h a k v b j = h b j := by
  show (if b = a ∧ j = k then v else h b j) = h b j
  rw [if_neg (fun q => hn.elim (fun z => z q.1) (fun z => z q.2))]
theorem up2_eq {h : mH} {a k v : Int} : up2 h a k v a k = v := by
  show (if a = a ∧ k = k then v else h a k) = v
  rw [if_pos ⟨rfl, rfl⟩]
theorem up2_ext {h : mH} {ad : Int → Nat} {a k v : Int} (hk : 0 ≤ k) : mExt h ad (up2 h a k v) ad := fun b _ => ⟨up2_ne (Or.inr (by omega)), rfl⟩
theorem mRel.cl {X : mX} {s : State} {ad : Int → Nat} {h : mH} {H : Heap} (r : mRel X s ad h H) : mCl X h := by obtain ⟨_, _, _, _, _, _, _, _, q⟩ := r; exact q
theorem mRel.moved {X : mX} {s t : State} {ad : Int → Nat} {h : mH} {H : Heap} (hv : s.vm.Alike t.vm) (r : mRel X s ad h H) : mRel X t ad h H := by
  obtain ⟨ws, tys, hK, q⟩ := r
  exact ⟨ws, tys, va_K.moved hv hK, q⟩
/-- one slot of an object or array is written -/
theorem mRel.put {X : mX} {s : State} {ad : Int → Nat} {h : mH} {H1 : Heap} {ws : va_W} {tys : List (ClassId × FieldType)} {a k v : Int} {q0 : Nat} {e0 e1 : va_E} (hK : va_K (xD X) (xC X) tys s)
    (hc : ∀ a : Int, 0 ≤ a → h a (-1) ≠ 0 → ∃ (q : Nat) (e : va_E), ws[q]? = some (ad a, e) ∧ celR X tys ad (h a) e) (hj : ∀ a b : Int, 0 ≤ a → 0 ≤ b → h a (-1) ≠ 0 → h b (-1) ≠ 0 → ad a = ad b → a = b)
    (hneg : ∀ a : Int, a < 0 → (h a (-1) ≠ 0 ↔ a ≤ -10) ∧ (a ≤ -10 → ad a = xA X a)) (hcl : mCl X h) (ha : 0 ≤ a) (hz : h a (-1) ≠ 0) (hk : 0 ≤ k) (he : ws[q0]? = some (ad a, e0)) (h1 : celR X tys ad (up2 h a k v a) e1)
    (hP : va_P (xD X) (xC X) (ws.set q0 (ad a, e1)) H1) (hD : va_D (mB X) (ws.set q0 (ad a, e1))) (hv : xS X (h a (-1)) k = true → okR h v) : mRel X s ad (up2 h a k v) H1 := by
  have hlt := (List.getElem?_eq_some_iff.mp he).1
  have hal : ∀ b : Int, up2 h a k v b (-1) = h b (-1) := fun b => up2_ne (Or.inr (by omega))
  refine ⟨ws.set q0 (ad a, e1), tys, hK, hP, hD, fun b hb hbz => ?_, fun x y hx hy hxz hyz hxy => hj x y hx hy (by rw [← hal x]; exact hxz) (by rw [← hal y]; exact hyz) hxy, fun x hx => ⟨by rw [hal x]; exact (hneg x hx).1, (hneg x hx).2⟩, fun x j hx hxz hj0 hs => ?_⟩
  · rw [hal b] at hbz
    by_cases hba : b = a
    · subst hba
      exact ⟨q0, e1, by rw [List.getElem?_set_self hlt], h1⟩
    · obtain ⟨q, e, hq, hce⟩ := hc b hb hbz
      have hqq : q0 ≠ q := by
        intro z
        subst z
        rw [he] at hq
        exact hba (hj b a hb ha hbz hz (congrArg Prod.fst (Option.some.inj hq)).symm)
      exact ⟨q, e, by rw [List.getElem?_set_ne hqq]; exact hq, by rw [up2_row hba]; exact hce⟩
  · rw [hal x] at hxz hs
    have hm : ∀ y : Int, okR h y → okR (up2 h a k v) y := fun y o => o.elim Or.inl (fun z => Or.inr (by rw [hal y]; exact z))
    by_cases hxa : x = a ∧ j = k
    · obtain ⟨rfl, rfl⟩ := hxa
      rw [up2_eq]
      exact hm _ (hv hs)
    · rw [up2_ne (Decidable.byCases (fun z : x = a => Or.inr (fun w => hxa ⟨z, w⟩)) (fun z => Or.inl z))]
      exact hm _ (hcl x j hx hxz hj0 hs)
/-- the field at an entry of a class's pool: class ci, slot k, its tag, whether it is final -/
def fok (X : mX) (own : String) (idx ci k tag : Nat) (fin : Bool) : Prop := ∃ r : vw_C, (xC X)[ci]? = some r ∧ k < r.2.2 ∧ dtag (r.2.1 k).2.2.1 = tag ∧ (r.2.1 k).2.2.2 = fin ∧ Cond.fieldLink own idx (r.2.1 k).1 (r.2.1 k).2.1 (r.2.1 k).2.2.1 ∈ xT X
theorem dtag_lt {d : String} : dtag d < 3 := by
  unfold dtag
  split
  · decide
  · split <;> decide
theorem celR.obj {X : mX} {tys : List (ClassId × FieldType)} {ad : Int → Nat} {row : Int → Int} {e : va_E} {ci : Nat} (hz : row (-1) = (ci : Int) + 1) (hci : ci < 15) (h : celR X tys ad row e) :
    ∃ r : vw_C, (xC X)[ci]? = some r ∧ e = .inr (ci, (List.range r.2.2).map fun k => enV ad (dtag (r.2.1 k).2.2.1, row (k : Int))) := by
  rcases h with ⟨cj, r, h1, h2, h3⟩ | ⟨cA, t0, ty, h1, _⟩ | ⟨cA, t0, cj, r, _, h2, _⟩
  · have : cj = ci := by omega
    subst this
    exact ⟨r, h1, h3⟩
  · unfold mTy at h1
    rw [hz] at h1
    rw [if_neg (by omega), if_neg (by omega), if_neg (by omega), if_neg (by omega)] at h1
    cases h1
  · omega
theorem celR.arr {X : mX} {tys : List (ClassId × FieldType)} {ad : Int → Nat} {row : Int → Int} {e : va_E} {ty : FieldType} (hok : xOK X) (hz : mTy (row (-1)) = some ty) (h : celR X tys ad row e) :
    ∃ (cA : ClassId) (t0 : Nat), tys[t0]? = some (cA, ty) ∧ 0 ≤ row (-2) ∧ row (-2) < 1000000 ∧ e = .inl (cA, (row (-2)).toNat, .inl fun k => Int32.ofInt (row (k : Int))) := by
  have hr : 20 ≤ row (-1) ∧ row (-1) ≤ 23 := by
    unfold mTy at hz
    split at hz
    · omega
    · split at hz
      · omega
      · split at hz
        · omega
        · split at hz
          · omega
          · cases hz
  rcases h with ⟨cj, r, h1, h2, h3⟩ | ⟨cA, t0, ty', h1, h2, h3, h4, h5⟩ | ⟨cA, t0, cj, r, _, h2, _⟩
  · have := (hok.2.1 cj r h1).1
    omega
  · rw [hz] at h1
    cases h1
    exact ⟨cA, t0, h2, h3, h4, h5⟩
  · omega
theorem celR.refs {X : mX} {tys : List (ClassId × FieldType)} {ad : Int → Nat} {row : Int → Int} {e : va_E} (hok : xOK X) (hz : 30 ≤ row (-1)) (h : celR X tys ad row e) :
    ∃ (cA : ClassId) (t0 ci : Nat) (r : vw_C), (xC X)[ci]? = some r ∧ row (-1) = (ci : Int) + 30 ∧ tys[t0]? = some (cA, .object r.1) ∧ 0 ≤ row (-2) ∧ row (-2) < 1000000 ∧ e = .inl (cA, (row (-2)).toNat, .inr (.inr (.inr (.inr fun k => enO ad (row (k : Int)))))) := by
  rcases h with ⟨cj, r, h1, h2, h3⟩ | ⟨cA, t0, ty', h1, h2, h3, h4, h5⟩ | h
  · have := (hok.2.1 cj r h1).1
    omega
  · unfold mTy at h1
    rw [if_neg (by omega), if_neg (by omega), if_neg (by omega), if_neg (by omega)] at h1
    cases h1
  · exact h
theorem fs_get {n : Nat} {f : Nat → Value} {k : Nat} (hk : k < n) : ((List.range n).map f)[k]? = some (f k) := by
  rw [List.getElem?_map, List.getElem?_range hk]; rfl
theorem fs_set {n : Nat} {f g : Nat → Value} {k : Nat} {v : Value} (hg : ∀ j, j ≠ k → g j = f j) (hk : g k = v) : ((List.range n).map f).set k v = (List.range n).map g := by
  apply List.ext_getElem?
  intro j
  by_cases hj : k = j
  · subst hj
    by_cases hl : k < n
    · rw [List.getElem?_set_self (by simpa using hl), fs_get hl, hk]
    · rw [List.getElem?_eq_none (by simpa using hl), List.getElem?_eq_none (by simpa using hl)]
  · rw [List.getElem?_set_ne hj]
    by_cases hl : j < n
    · rw [fs_get hl, fs_get hl, hg j (Ne.symm hj)]
    · rw [List.getElem?_eq_none (by simpa using hl), List.getElem?_eq_none (by simpa using hl)]
theorem enO_ne {ad : Int → Nat} {a : Int} (h : a ≠ -1) : enO ad a = some (ad a) := by unfold enO; rw [if_neg h]
theorem enV_r {ad : Int → Nat} {a : Int} (h : a ≠ -1) : enV ad (2, a) = .ref (ad a) := by show va_rf (enO ad a) = _; rw [enO_ne h]; rfl
theorem nb_of (x : Int) : (Int32.ofInt x).toInt8.toInt32 = Int32.ofInt (x.bmod 256) := by
  rw [Int32.toInt8_ofInt]
  apply Int32.toInt_inj.mp
  rw [Int8.toInt_toInt32, Int8.toInt_ofInt]
  show x.bmod 256 = _
  have e1 := Int.bmod_lt (x := x) (m := 256) (by decide)
  have e2 := Int.le_bmod (x := x) (m := 256) (by decide)
  exact (Int32.toInt_ofInt_of_le (by omega) (by omega)).symm
section MR3
variable {X : mX} {M : mD} {d b pc : Nat} {Q : mV → mH → Prop} {L S : List mV} {h : mH}
theorem alive_pos {a z : Int} (hz : h a (-1) = z) (h0 : z ≠ 0) : h a (-1) ≠ 0 := by rw [hz]; exact h0
theorem wp_getfield {a : Int} {idx ci k tag : Nat} {fin : Bool} (hf : fok X (mO M) idx ci k tag fin) (hd : decode (mC M) pc = .ok (.getfield idx, 3)) (ha : 0 ≤ a) (hz : h a (-1) = (ci : Int) + 1)
    (k' : WP X M d b Q (pc + 3) L ((tag, h a (k : Int)) :: S) h) : WP X M d b Q pc L ((2, a) :: S) h := by
  intro p l e R s m args below meth c H locs cells slots Z ad ls mx hA hR hV h1 h2 h3 h4 hL hS hF
  obtain ⟨r, hr, hk, ht, hfin, hw⟩ := hf
  obtain ⟨hx, hb, hml, hown, hts, hret, hlk, hnm, hfr, hlo, hro, hba, hok⟩ := id hA
  have hz0 : h a (-1) ≠ 0 := by rw [hz]; omega
  obtain ⟨ws, tys, hK, hP, hD, hc, hj, hneg, hcl⟩ := id hR
  obtain ⟨q0, e0, he, hce⟩ := hc a ha hz0
  obtain ⟨hci, hn, hin, hty, hnmm, hsr, -⟩ := hok.2.1 ci r hr
  obtain ⟨r', hr', rfl⟩ := celR.obj hz hci hce
  cases hr.symm.trans hr'
  have kk := k' p l e R s m args below meth c H locs cells slots Z ad ls mx hA hR hV h1 h2 h3 h4 hL (mStk.cons ⟨by rw [← ht]; exact dtag_lt, fun q => hcl a k ha hz0 (by omega) (by rw [hz]; exact (hsr k hk).mpr (ht.trans q))⟩ hS.tail) hF
  show W p l e R s m args below meth c H locs cells slots Z (F0 m pc ls (enV ad (2, a) :: S.map (enV ad)))
  rw [enV_r (by omega)]
  exact va_get (D := xD X) (C := r.1) (T := r.2.1) (N := r.2.2) (v := enV ad (tag, h a (k : Int))) hx hb hts hin hown hK hP q0 he hr k hk (hts _ hw) (fun _ z => z) (by rw [fs_get hk, ht]) hd kk
theorem mVfits {ad : Int → Nat} {tag : Nat} {v : Int} {ty : FieldType} (ht : tag = 0 ∧ ty = .int ∨ tag = 1 ∧ ty = .long ∨ tag = 2 ∧ ((∃ n, ty = .object n) ∨ ∃ t, ty = .array t)) : narrow ty (enV ad (tag, v)) = enV ad (tag, v) ∧ fits ty (enV ad (tag, v)) = true := by
  rcases ht with ⟨rfl, rfl⟩ | ⟨rfl, rfl⟩ | ⟨rfl, h⟩
  · exact ⟨rfl, rfl⟩
  · exact ⟨rfl, rfl⟩
  · show narrow ty (va_rf (enO ad v)) = va_rf (enO ad v) ∧ fits ty (va_rf (enO ad v)) = true
    cases enO ad v <;> rcases h with ⟨n, rfl⟩ | ⟨t, rfl⟩ <;> exact ⟨rfl, rfl⟩
theorem wp_put0 {a v : Int} {idx ci k tag : Nat} {fin : Bool} (hf : fok X (mO M) idx ci k tag fin) (hfin : fin = false ∨ ((mY M).name = "<init>" ∧ ∀ r : vw_C, (xC X)[ci]? = some r → (r.2.1 k).1 = mO M)) (hd : decode (mC M) pc = .ok (.putfield idx, 3)) (ha : 0 ≤ a) (hz : h a (-1) = (ci : Int) + 1)
    (k' : WP X M d b Q (pc + 3) L S (up2 h a (k : Int) v)) : WP X M d b Q pc L ((tag, v) :: (2, a) :: S) h := by
  intro p l e R s m args below meth c H locs cells slots Z ad ls mx hA hR hV h1 h2 h3 h4 hL hS hF
  obtain ⟨r, hr, hk, ht, hfn, hw⟩ := hf
  obtain ⟨hx, hb, hml, hown, hts, hret, hlk, hnm, hfr, hlo, hro, hba, hok⟩ := id hA
  have hz0 : h a (-1) ≠ 0 := by rw [hz]; omega
  obtain ⟨ws, tys, hK, hP, hD, hc, hj, hneg, hcl⟩ := id hR
  obtain ⟨q0, e0, he, hce⟩ := hc a ha hz0
  obtain ⟨hci, hn, hin, hty, hnmm, hsr, -⟩ := hok.2.1 ci r hr
  obtain ⟨r', hr', rfl⟩ := celR.obj hz hci hce
  cases hr.symm.trans hr'
  obtain ⟨ty, hty1, hty2⟩ := hty k hk
  rw [ht] at hty2
  obtain ⟨hnar, hfit⟩ := mVfits (ad := ad) (v := v) hty2
  have hset : ((List.range r.2.2).map fun k => enV ad (dtag (r.2.1 k).2.2.1, h a (k : Int))).set k (enV ad (tag, v)) = (List.range r.2.2).map fun j => enV ad (dtag (r.2.1 j).2.2.1, up2 h a (k : Int) v a (j : Int)) :=
    fs_set (fun j hj' => by rw [up2_ne (Or.inr (by omega))]) (by rw [up2_eq, ht])
  have hext : mExt h ad (up2 h a (k : Int) v) ad := up2_ext (by omega)
  show W p l e R s m args below meth c H locs cells slots Z (F0 m pc ls (enV ad (tag, v) :: enV ad (2, a) :: S.map (enV ad)))
  rw [enV_r (by omega)]
  have fin' : ∀ (H1 : Heap) (locs1 : List Loc), va_P (xD X) (xC X) (ws.set q0 (ad a, .inr (ci, ((List.range r.2.2).map fun k => enV ad (dtag (r.2.1 k).2.2.1, h a (k : Int))).set k (enV ad (tag, v))))) H1 → va_D (mB X) (ws.set q0 (ad a, .inr (ci, ((List.range r.2.2).map fun k => enV ad (dtag (r.2.1 k).2.2.1, h a (k : Int))).set k (enV ad (tag, v))))) → va_S (mB X) s.heap H1 locs1 → W p l e R s m args below meth c H1 locs1 cells slots Z (F0 m (pc + 3) ls (S.map (enV ad))) := by
    intro H1 locs1 hP1 hD1 hS1
    rw [hset] at hP1 hD1
    have hR1 : mRel X s ad (up2 h a (k : Int) v) H1 := mRel.put hK hc hj hneg hcl ha hz0 (by omega) he (Or.inl ⟨ci, r, hr, by rw [up2_ne (Or.inr (by omega))]; exact hz, rfl⟩) hP1 hD1 (fun q => hS.head.2 (by rw [hz] at q; exact ht.symm.trans ((hsr k hk).mp q)))
    exact k' p l e R s m args below meth c H1 locs1 cells slots Z ad ls mx hA hR1 hS1 h1 h2 h3 h4 (hL.ext hext) (hS.tail.tail.ext hext) (fun r h' ad' H' locs' cells' slots' pc' ls' g1 g2 => hF r h' ad' H' locs' cells' slots' pc' ls' g1 (hext.tr g2))
  by_cases hff : fin = false
  · exact va_put (D := xD X) (C := r.1) (T := r.2.1) (N := r.2.2) hx hb hts hin (fun k => ((parseFieldDescriptor (r.2.1 k).2.2.1).getD .int)) (fun j hj' => by obtain ⟨t, e1, -⟩ := hty j hj'; rw [e1]; rfl) hnmm hown hK hP hD hV q0 he hr k hk (hts _ hw) (fun _ z => z) (by rw [hfn]; exact hff) hty1 hnar hfit (by simpa using hk) hd fin'
  · obtain ⟨hi1, hi2⟩ := hfin.resolve_left hff
    exact va_putF (D := xD X) (C := r.1) (T := r.2.1) (N := r.2.2) hx hb hts hin (fun k => ((parseFieldDescriptor (r.2.1 k).2.2.1).getD .int)) (fun j hj' => by obtain ⟨t, e1, -⟩ := hty j hj'; rw [e1]; rfl) hnmm hown hK hP hD hV q0 he hr k hk (hts _ hw) (fun _ z => z) (by rw [hfn]; cases fin <;> simp_all) (hnm hi1) (hi2 r hr) hty1 hnar hfit (by simpa using hk) hd fin'
theorem wp_putfield {a v : Int} {idx ci k tag : Nat} (hf : fok X (mO M) idx ci k tag false) (hd : decode (mC M) pc = .ok (.putfield idx, 3)) (ha : 0 ≤ a) (hz : h a (-1) = (ci : Int) + 1) (k' : WP X M d b Q (pc + 3) L S (up2 h a (k : Int) v)) : WP X M d b Q pc L ((tag, v) :: (2, a) :: S) h := wp_put0 hf (Or.inl rfl) hd ha hz k'
theorem wp_putfinal {a v : Int} {idx ci k tag : Nat} (hf : fok X (mO M) idx ci k tag true) (hi : (mY M).name = "<init>") (hr : ∀ r : vw_C, (xC X)[ci]? = some r → (r.2.1 k).1 = mO M) (hd : decode (mC M) pc = .ok (.putfield idx, 3)) (ha : 0 ≤ a) (hz : h a (-1) = (ci : Int) + 1) (k' : WP X M d b Q (pc + 3) L S (up2 h a (k : Int) v)) : WP X M d b Q pc L ((tag, v) :: (2, a) :: S) h := wp_put0 hf (Or.inr ⟨hi, hr⟩) hd ha hz k'
theorem vin {i n : Int} (h0 : 0 ≤ i) (h1 : i < n) (hn : n < 1000000) : vp_in (Int32.ofInt i) n.toNat := by
  have e : Int32.ofInt i = nI i.toNat := by unfold nI; rw [← Int32.ofInt_eq_ofNat, Int.toNat_of_nonneg h0]
  rw [e]
  exact vp_in_nI (by omega) (by omega)
theorem vcl {i : Int} (h0 : 0 ≤ i) (h1 : i < 1000000) : (Int32.ofInt i).toNatClampNeg = i.toNat := Int32.toNatClampNeg_ofInt_of_le (by omega) (by omega)
theorem wp_iaload {a i n : Int} (hd : decode (mC M) pc = .ok (.iaload, 1)) (ha : 0 ≤ a) (hz : h a (-1) = 20) (hn : h a (-2) = n) (h0 : 0 ≤ i) (hi : i < n) (k' : WP X M d b Q (pc + 1) L ((0, h a i) :: S) h) : WP X M d b Q pc L ((0, i) :: (2, a) :: S) h := by
  intro p l e R s m args below meth c H locs cells slots Z ad ls mx hA hR hV h1 h2 h3 h4 hL hS hF
  obtain ⟨hx, hb, hml, hown, hts, hret, hlk, hnm, hfr, hlo, hro, hba, hok⟩ := id hA
  have hz0 : h a (-1) ≠ 0 := by rw [hz]; decide
  obtain ⟨ws, tys, hK, hP, hD, hc, hj, hneg, hcl⟩ := id hR
  obtain ⟨q0, e0, he, hce⟩ := hc a ha hz0
  obtain ⟨cA, t0, ht, hl0, hl1, rfl⟩ := celR.arr hok (ty := .int) (by rw [hz]; rfl) hce
  have kk := k' p l e R s m args below meth c H locs cells slots Z ad ls mx hA hR hV h1 h2 h3 h4 hL (mStk.cons okV_0 hS.tail.tail) hF
  show W p l e R s m args below meth c H locs cells slots Z (F0 m pc ls (.int (Int32.ofInt i) :: enV ad (2, a) :: S.map (enV ad)))
  rw [enV_r (by omega)]
  refine va_iald hx hb hK hP q0 t0 he ht (vin h0 (by rw [hn]; exact hi) hl1) hd ?_
  rw [vcl h0 (by omega), Int.toNat_of_nonneg h0]
  exact kk
theorem wp_baload {a i n : Int} (hd : decode (mC M) pc = .ok (.baload, 1)) (ha : 0 ≤ a) (hz : h a (-1) = 21) (hn : h a (-2) = n) (h0 : 0 ≤ i) (hi : i < n) (k' : WP X M d b Q (pc + 1) L ((0, h a i) :: S) h) : WP X M d b Q pc L ((0, i) :: (2, a) :: S) h := by
  intro p l e R s m args below meth c H locs cells slots Z ad ls mx hA hR hV h1 h2 h3 h4 hL hS hF
  obtain ⟨hx, hb, hml, hown, hts, hret, hlk, hnm, hfr, hlo, hro, hba, hok⟩ := id hA
  have hz0 : h a (-1) ≠ 0 := by rw [hz]; decide
  obtain ⟨ws, tys, hK, hP, hD, hc, hj, hneg, hcl⟩ := id hR
  obtain ⟨q0, e0, he, hce⟩ := hc a ha hz0
  obtain ⟨cA, t0, ht, hl0, hl1, rfl⟩ := celR.arr hok (ty := .byte) (by rw [hz]; rfl) hce
  have kk := k' p l e R s m args below meth c H locs cells slots Z ad ls mx hA hR hV h1 h2 h3 h4 hL (mStk.cons okV_0 hS.tail.tail) hF
  show W p l e R s m args below meth c H locs cells slots Z (F0 m pc ls (.int (Int32.ofInt i) :: enV ad (2, a) :: S.map (enV ad)))
  rw [enV_r (by omega)]
  refine va_bald hx hb hK hP q0 t0 he ht (vin h0 (by rw [hn]; exact hi) hl1) hd ?_
  rw [vcl h0 (by omega), Int.toNat_of_nonneg h0]
  exact kk
theorem wp_zaload {a i n : Int} (hd : decode (mC M) pc = .ok (.baload, 1)) (ha : 0 ≤ a) (hz : h a (-1) = 22) (hn : h a (-2) = n) (h0 : 0 ≤ i) (hi : i < n) (k' : WP X M d b Q (pc + 1) L ((0, h a i) :: S) h) : WP X M d b Q pc L ((0, i) :: (2, a) :: S) h := by
  intro p l e R s m args below meth c H locs cells slots Z ad ls mx hA hR hV h1 h2 h3 h4 hL hS hF
  obtain ⟨hx, hb, hml, hown, hts, hret, hlk, hnm, hfr, hlo, hro, hba, hok⟩ := id hA
  have hz0 : h a (-1) ≠ 0 := by rw [hz]; decide
  obtain ⟨ws, tys, hK, hP, hD, hc, hj, hneg, hcl⟩ := id hR
  obtain ⟨q0, e0, he, hce⟩ := hc a ha hz0
  obtain ⟨cA, t0, ht, hl0, hl1, rfl⟩ := celR.arr hok (ty := .boolean) (by rw [hz]; rfl) hce
  have kk := k' p l e R s m args below meth c H locs cells slots Z ad ls mx hA hR hV h1 h2 h3 h4 hL (mStk.cons okV_0 hS.tail.tail) hF
  show W p l e R s m args below meth c H locs cells slots Z (F0 m pc ls (.int (Int32.ofInt i) :: enV ad (2, a) :: S.map (enV ad)))
  rw [enV_r (by omega)]
  refine va_zald hx hb hK hP q0 t0 he ht (vin h0 (by rw [hn]; exact hi) hl1) hd ?_
  rw [vcl h0 (by omega), Int.toNat_of_nonneg h0]
  exact kk
theorem wp_caload {a i n : Int} (hd : decode (mC M) pc = .ok (.caload, 1)) (ha : 0 ≤ a) (hz : h a (-1) = 23) (hn : h a (-2) = n) (h0 : 0 ≤ i) (hi : i < n) (k' : WP X M d b Q (pc + 1) L ((0, h a i) :: S) h) : WP X M d b Q pc L ((0, i) :: (2, a) :: S) h := by
  intro p l e R s m args below meth c H locs cells slots Z ad ls mx hA hR hV h1 h2 h3 h4 hL hS hF
  obtain ⟨hx, hb, hml, hown, hts, hret, hlk, hnm, hfr, hlo, hro, hba, hok⟩ := id hA
  have hz0 : h a (-1) ≠ 0 := by rw [hz]; decide
  obtain ⟨ws, tys, hK, hP, hD, hc, hj, hneg, hcl⟩ := id hR
  obtain ⟨q0, e0, he, hce⟩ := hc a ha hz0
  obtain ⟨cA, t0, ht, hl0, hl1, rfl⟩ := celR.arr hok (ty := .char) (by rw [hz]; rfl) hce
  have kk := k' p l e R s m args below meth c H locs cells slots Z ad ls mx hA hR hV h1 h2 h3 h4 hL (mStk.cons okV_0 hS.tail.tail) hF
  show W p l e R s m args below meth c H locs cells slots Z (F0 m pc ls (.int (Int32.ofInt i) :: enV ad (2, a) :: S.map (enV ad)))
  rw [enV_r (by omega)]
  refine va_cald hx hb hK hP q0 t0 he ht (vin h0 (by rw [hn]; exact hi) hl1) hd ?_
  rw [vcl h0 (by omega), Int.toNat_of_nonneg h0]
  exact kk
theorem wp_aaload {a i n : Int} (hd : decode (mC M) pc = .ok (.aaload, 1)) (ha : 0 ≤ a) (hz : 30 ≤ h a (-1)) (hn : h a (-2) = n) (h0 : 0 ≤ i) (hi : i < n) (k' : WP X M d b Q (pc + 1) L ((2, h a i) :: S) h) : WP X M d b Q pc L ((0, i) :: (2, a) :: S) h := by
  intro p l e R s m args below meth c H locs cells slots Z ad ls mx hA hR hV h1 h2 h3 h4 hL hS hF
  obtain ⟨hx, hb, hml, hown, hts, hret, hlk, hnm, hfr, hlo, hro, hba, hok⟩ := id hA
  have hz0 : h a (-1) ≠ 0 := by omega
  obtain ⟨ws, tys, hK, hP, hD, hc, hj, hneg, hcl⟩ := id hR
  obtain ⟨q0, e0, he, hce⟩ := hc a ha hz0
  obtain ⟨cA, t0, ci, r, hr, hzz, ht, hl0, hl1, rfl⟩ := celR.refs hok hz hce
  have kk := k' p l e R s m args below meth c H locs cells slots Z ad ls mx hA hR hV h1 h2 h3 h4 hL (mStk.cons ⟨t23, fun _ => hcl a i ha hz0 h0 (by rw [hzz]; exact (hok.2.1 ci r hr).2.2.2.2.2.2 i h0)⟩ hS.tail.tail) hF
  show W p l e R s m args below meth c H locs cells slots Z (F0 m pc ls (.int (Int32.ofInt i) :: enV ad (2, a) :: S.map (enV ad)))
  rw [enV_r (by omega)]
  refine va_aldq hx hb hK hP q0 t0 he ht (vin h0 (by rw [hn]; exact hi) hl1) hd ?_
  rw [vcl h0 (by omega), Int.toNat_of_nonneg h0]
  exact kk
theorem wp_alen {a n : Int} (hd : decode (mC M) pc = .ok (.arraylength, 1)) (ha : 0 ≤ a) (hz : 20 ≤ h a (-1)) (hn : h a (-2) = n) (k' : WP X M d b Q (pc + 1) L ((0, n) :: S) h) : WP X M d b Q pc L ((2, a) :: S) h := by
  intro p l e R s m args below meth c H locs cells slots Z ad ls mx hA hR hV h1 h2 h3 h4 hL hS hF
  subst hn
  obtain ⟨hx, hb, hml, hown, hts, hret, hlk, hnm, hfr, hlo, hro, hba, hok⟩ := id hA
  have hz0 : h a (-1) ≠ 0 := by omega
  obtain ⟨ws, tys, hK, hP, hD, hc, hj, hneg, hcl⟩ := id hR
  obtain ⟨q0, e0, he, hce⟩ := hc a ha hz0
  have kk := k' p l e R s m args below meth c H locs cells slots Z ad ls mx hA hR hV h1 h2 h3 h4 hL (mStk.cons okV_0 hS.tail) hF
  show W p l e R s m args below meth c H locs cells slots Z (F0 m pc ls (enV ad (2, a) :: S.map (enV ad)))
  rw [enV_r (by omega)]
  have hlen : ∀ n : Int, 0 ≤ n → Int32.ofNat n.toNat = Int32.ofInt n := fun n hn => by rw [← Int32.ofInt_eq_ofNat, Int.toNat_of_nonneg hn]
  rcases hce with ⟨cj, r, g1, g2, g3⟩ | ⟨cA, t0, ty, g1, g2, g3, g4, rfl⟩ | ⟨cA, t0, ci, r, g1, g2, g3, g4, g5, rfl⟩
  · have := (hok.2.1 cj r g1).1
    omega
  · exact va_alen hx hb hK hP q0 t0 he g2 (hlen _ g3) hd kk
  · exact va_alen hx hb hK hP q0 t0 he g3 (hlen _ g4) hd kk
theorem wp_iastore {a i n x : Int} (hd : decode (mC M) pc = .ok (.iastore, 1)) (ha : 0 ≤ a) (hz : h a (-1) = 20) (hn : h a (-2) = n) (h0 : 0 ≤ i) (hi : i < n) (k' : WP X M d b Q (pc + 1) L S (up2 h a i (x))) : WP X M d b Q pc L ((0, x) :: (0, i) :: (2, a) :: S) h := by
  intro p l e R s m args below meth c H locs cells slots Z ad ls mx hA hR hV h1 h2 h3 h4 hL hS hF
  obtain ⟨hX, hb, hml, hown, hts, hret, hlk, hnm, hfr, hlo, hro, hba, hok⟩ := id hA
  have hz0 : h a (-1) ≠ 0 := by rw [hz]; decide
  obtain ⟨ws, tys, hK, hP, hD, hc, hj, hneg, hcl⟩ := id hR
  obtain ⟨q0, e0, he, hce⟩ := hc a ha hz0
  obtain ⟨cA, t0, ht, hl0, hl1, rfl⟩ := celR.arr hok (ty := .int) (by rw [hz]; rfl) hce
  have hext : mExt h ad (up2 h a i (x)) ad := up2_ext h0
  have hnar : Int32.ofInt x = Int32.ofInt (x) := rfl
  show W p l e R s m args below meth c H locs cells slots Z (F0 m pc ls (.int (Int32.ofInt x) :: .int (Int32.ofInt i) :: enV ad (2, a) :: S.map (enV ad)))
  rw [enV_r (by omega)]
  have hset : upd (fun k : Nat => Int32.ofInt (h a (k : Int))) (Int32.ofInt i).toNatClampNeg (Int32.ofInt (x)) = fun k : Nat => Int32.ofInt (up2 h a i (x) a (k : Int)) := by
    rw [vcl h0 (by omega)]
    funext k
    unfold upd
    by_cases hk : k = i.toNat
    · subst hk
      rw [if_pos rfl, Int.toNat_of_nonneg h0, up2_eq]
    · rw [if_neg hk, up2_ne (Or.inr (by omega))]
  refine va_iast hX hb hK hP hD hV q0 t0 he ht (vin h0 (by rw [hn]; exact hi) hl1) hd (fun H1 locs1 hP1 hD1 hS1 => ?_)
  
  rw [hset] at hP1 hD1
  have e1 : up2 h a i (x) a (-1) = h a (-1) := up2_ne (Or.inr (by omega))
  have e2 : up2 h a i (x) a (-2) = h a (-2) := up2_ne (Or.inr (by omega))
  have hR1 : mRel X s ad (up2 h a i (x)) H1 := mRel.put hK hc hj hneg hcl ha hz0 h0 he (Or.inr (Or.inl ⟨cA, t0, .int, by rw [e1, hz]; rfl, ht, by rw [e2]; exact hl0, by rw [e2]; exact hl1, by rw [e2]⟩)) hP1 hD1 (fun q => by rw [hz, hok.2.2 20 i (by decide) (by decide)] at q; cases q)
  exact k' p l e R s m args below meth c H1 locs1 cells slots Z ad ls mx hA hR1 hS1 h1 h2 h3 h4 (hL.ext hext) (hS.tail.tail.tail.ext hext) (fun r h' ad' H' locs' cells' slots' pc' ls' g1 g2 => hF r h' ad' H' locs' cells' slots' pc' ls' g1 (hext.tr g2))
theorem wp_bastore {a i n x : Int} (hd : decode (mC M) pc = .ok (.bastore, 1)) (ha : 0 ≤ a) (hz : h a (-1) = 21) (hn : h a (-2) = n) (h0 : 0 ≤ i) (hi : i < n) (k' : WP X M d b Q (pc + 1) L S (up2 h a i (x.bmod 256))) : WP X M d b Q pc L ((0, x) :: (0, i) :: (2, a) :: S) h := by
  intro p l e R s m args below meth c H locs cells slots Z ad ls mx hA hR hV h1 h2 h3 h4 hL hS hF
  obtain ⟨hX, hb, hml, hown, hts, hret, hlk, hnm, hfr, hlo, hro, hba, hok⟩ := id hA
  have hz0 : h a (-1) ≠ 0 := by rw [hz]; decide
  obtain ⟨ws, tys, hK, hP, hD, hc, hj, hneg, hcl⟩ := id hR
  obtain ⟨q0, e0, he, hce⟩ := hc a ha hz0
  obtain ⟨cA, t0, ht, hl0, hl1, rfl⟩ := celR.arr hok (ty := .byte) (by rw [hz]; rfl) hce
  have hext : mExt h ad (up2 h a i (x.bmod 256)) ad := up2_ext h0
  have hnar : vp_nar .byte (Int32.ofInt x) = Int32.ofInt (x.bmod 256) := by rw [vp_nar_byte]; exact nb_of x
  show W p l e R s m args below meth c H locs cells slots Z (F0 m pc ls (.int (Int32.ofInt x) :: .int (Int32.ofInt i) :: enV ad (2, a) :: S.map (enV ad)))
  rw [enV_r (by omega)]
  have hset : upd (fun k : Nat => Int32.ofInt (h a (k : Int))) (Int32.ofInt i).toNatClampNeg (Int32.ofInt (x.bmod 256)) = fun k : Nat => Int32.ofInt (up2 h a i (x.bmod 256) a (k : Int)) := by
    rw [vcl h0 (by omega)]
    funext k
    unfold upd
    by_cases hk : k = i.toNat
    · subst hk
      rw [if_pos rfl, Int.toNat_of_nonneg h0, up2_eq]
    · rw [if_neg hk, up2_ne (Or.inr (by omega))]
  refine va_bast hX hb hK hP hD hV q0 t0 he ht (vin h0 (by rw [hn]; exact hi) hl1) hd (fun H1 locs1 hP1 hD1 hS1 => ?_)
  rw [hnar] at hP1 hD1
  rw [hset] at hP1 hD1
  have e1 : up2 h a i (x.bmod 256) a (-1) = h a (-1) := up2_ne (Or.inr (by omega))
  have e2 : up2 h a i (x.bmod 256) a (-2) = h a (-2) := up2_ne (Or.inr (by omega))
  have hR1 : mRel X s ad (up2 h a i (x.bmod 256)) H1 := mRel.put hK hc hj hneg hcl ha hz0 h0 he (Or.inr (Or.inl ⟨cA, t0, .byte, by rw [e1, hz]; rfl, ht, by rw [e2]; exact hl0, by rw [e2]; exact hl1, by rw [e2]⟩)) hP1 hD1 (fun q => by rw [hz, hok.2.2 21 i (by decide) (by decide)] at q; cases q)
  exact k' p l e R s m args below meth c H1 locs1 cells slots Z ad ls mx hA hR1 hS1 h1 h2 h3 h4 (hL.ext hext) (hS.tail.tail.tail.ext hext) (fun r h' ad' H' locs' cells' slots' pc' ls' g1 g2 => hF r h' ad' H' locs' cells' slots' pc' ls' g1 (hext.tr g2))
theorem wp_zastore {a i n x : Int} (hx : x = 0 ∨ x = 1) (hd : decode (mC M) pc = .ok (.bastore, 1)) (ha : 0 ≤ a) (hz : h a (-1) = 22) (hn : h a (-2) = n) (h0 : 0 ≤ i) (hi : i < n) (k' : WP X M d b Q (pc + 1) L S (up2 h a i (x))) : WP X M d b Q pc L ((0, x) :: (0, i) :: (2, a) :: S) h := by
  intro p l e R s m args below meth c H locs cells slots Z ad ls mx hA hR hV h1 h2 h3 h4 hL hS hF
  obtain ⟨hX, hb, hml, hown, hts, hret, hlk, hnm, hfr, hlo, hro, hba, hok⟩ := id hA
  have hz0 : h a (-1) ≠ 0 := by rw [hz]; decide
  obtain ⟨ws, tys, hK, hP, hD, hc, hj, hneg, hcl⟩ := id hR
  obtain ⟨q0, e0, he, hce⟩ := hc a ha hz0
  obtain ⟨cA, t0, ht, hl0, hl1, rfl⟩ := celR.arr hok (ty := .boolean) (by rw [hz]; rfl) hce
  have hext : mExt h ad (up2 h a i (x)) ad := up2_ext h0
  have hnar : vp_nar .boolean (Int32.ofInt x) = Int32.ofInt (x) := by rcases hx with rfl | rfl <;> rfl
  show W p l e R s m args below meth c H locs cells slots Z (F0 m pc ls (.int (Int32.ofInt x) :: .int (Int32.ofInt i) :: enV ad (2, a) :: S.map (enV ad)))
  rw [enV_r (by omega)]
  have hset : upd (fun k : Nat => Int32.ofInt (h a (k : Int))) (Int32.ofInt i).toNatClampNeg (Int32.ofInt (x)) = fun k : Nat => Int32.ofInt (up2 h a i (x) a (k : Int)) := by
    rw [vcl h0 (by omega)]
    funext k
    unfold upd
    by_cases hk : k = i.toNat
    · subst hk
      rw [if_pos rfl, Int.toNat_of_nonneg h0, up2_eq]
    · rw [if_neg hk, up2_ne (Or.inr (by omega))]
  refine va_zast hX hb hK hP hD hV q0 t0 he ht (vin h0 (by rw [hn]; exact hi) hl1) hd (fun H1 locs1 hP1 hD1 hS1 => ?_)
  rw [hnar] at hP1 hD1
  rw [hset] at hP1 hD1
  have e1 : up2 h a i (x) a (-1) = h a (-1) := up2_ne (Or.inr (by omega))
  have e2 : up2 h a i (x) a (-2) = h a (-2) := up2_ne (Or.inr (by omega))
  have hR1 : mRel X s ad (up2 h a i (x)) H1 := mRel.put hK hc hj hneg hcl ha hz0 h0 he (Or.inr (Or.inl ⟨cA, t0, .boolean, by rw [e1, hz]; rfl, ht, by rw [e2]; exact hl0, by rw [e2]; exact hl1, by rw [e2]⟩)) hP1 hD1 (fun q => by rw [hz, hok.2.2 22 i (by decide) (by decide)] at q; cases q)
  exact k' p l e R s m args below meth c H1 locs1 cells slots Z ad ls mx hA hR1 hS1 h1 h2 h3 h4 (hL.ext hext) (hS.tail.tail.tail.ext hext) (fun r h' ad' H' locs' cells' slots' pc' ls' g1 g2 => hF r h' ad' H' locs' cells' slots' pc' ls' g1 (hext.tr g2))
theorem wp_castore {a i n x : Int} (hx : 0 ≤ x ∧ x < 65536) (hd : decode (mC M) pc = .ok (.castore, 1)) (ha : 0 ≤ a) (hz : h a (-1) = 23) (hn : h a (-2) = n) (h0 : 0 ≤ i) (hi : i < n) (k' : WP X M d b Q (pc + 1) L S (up2 h a i (x))) : WP X M d b Q pc L ((0, x) :: (0, i) :: (2, a) :: S) h := by
  intro p l e R s m args below meth c H locs cells slots Z ad ls mx hA hR hV h1 h2 h3 h4 hL hS hF
  obtain ⟨hX, hb, hml, hown, hts, hret, hlk, hnm, hfr, hlo, hro, hba, hok⟩ := id hA
  have hz0 : h a (-1) ≠ 0 := by rw [hz]; decide
  obtain ⟨ws, tys, hK, hP, hD, hc, hj, hneg, hcl⟩ := id hR
  obtain ⟨q0, e0, he, hce⟩ := hc a ha hz0
  obtain ⟨cA, t0, ht, hl0, hl1, rfl⟩ := celR.arr hok (ty := .char) (by rw [hz]; rfl) hce
  have hext : mExt h ad (up2 h a i (x)) ad := up2_ext h0
  have hnar : vp_nar .char (Int32.ofInt x) = Int32.ofInt (x) := by rw [vp_nar_char]; exact lg_i2c_small (by rw [toI ⟨by omega, by omega⟩]; omega) (by rw [toI ⟨by omega, by omega⟩]; omega)
  show W p l e R s m args below meth c H locs cells slots Z (F0 m pc ls (.int (Int32.ofInt x) :: .int (Int32.ofInt i) :: enV ad (2, a) :: S.map (enV ad)))
  rw [enV_r (by omega)]
  have hset : upd (fun k : Nat => Int32.ofInt (h a (k : Int))) (Int32.ofInt i).toNatClampNeg (Int32.ofInt (x)) = fun k : Nat => Int32.ofInt (up2 h a i (x) a (k : Int)) := by
    rw [vcl h0 (by omega)]
    funext k
    unfold upd
    by_cases hk : k = i.toNat
    · subst hk
      rw [if_pos rfl, Int.toNat_of_nonneg h0, up2_eq]
    · rw [if_neg hk, up2_ne (Or.inr (by omega))]
  refine va_cast hX hb hK hP hD hV q0 t0 he ht (vin h0 (by rw [hn]; exact hi) hl1) hd (fun H1 locs1 hP1 hD1 hS1 => ?_)
  rw [hnar] at hP1 hD1
  rw [hset] at hP1 hD1
  have e1 : up2 h a i (x) a (-1) = h a (-1) := up2_ne (Or.inr (by omega))
  have e2 : up2 h a i (x) a (-2) = h a (-2) := up2_ne (Or.inr (by omega))
  have hR1 : mRel X s ad (up2 h a i (x)) H1 := mRel.put hK hc hj hneg hcl ha hz0 h0 he (Or.inr (Or.inl ⟨cA, t0, .char, by rw [e1, hz]; rfl, ht, by rw [e2]; exact hl0, by rw [e2]; exact hl1, by rw [e2]⟩)) hP1 hD1 (fun q => by rw [hz, hok.2.2 23 i (by decide) (by decide)] at q; cases q)
  exact k' p l e R s m args below meth c H1 locs1 cells slots Z ad ls mx hA hR1 hS1 h1 h2 h3 h4 (hL.ext hext) (hS.tail.tail.tail.ext hext) (fun r h' ad' H' locs' cells' slots' pc' ls' g1 g2 => hF r h' ad' H' locs' cells' slots' pc' ls' g1 (hext.tr g2))
theorem wp_aastore {a i n v : Int} {ci : Nat} (hd : decode (mC M) pc = .ok (.aastore, 1)) (ha : 0 ≤ a) (hz : h a (-1) = (ci : Int) + 30) (hn : h a (-2) = n) (h0 : 0 ≤ i) (hi : i < n) (hv0 : 0 ≤ v) (hv : h v (-1) = (ci : Int) + 1) (hci : ci < 15) (k' : WP X M d b Q (pc + 1) L S (up2 h a i v)) : WP X M d b Q pc L ((2, v) :: (0, i) :: (2, a) :: S) h := by
  intro p l e R s m args below meth c H locs cells slots Z ad ls mx hA hR hV h1 h2 h3 h4 hL hS hF
  obtain ⟨hX, hb, hml, hown, hts, hret, hlk, hnm, hfr, hlo, hro, hba, hok⟩ := id hA
  have hz0 : h a (-1) ≠ 0 := by omega
  obtain ⟨ws, tys, hK, hP, hD, hc, hj, hneg, hcl⟩ := id hR
  obtain ⟨q0, e0, he, hce⟩ := hc a ha hz0
  obtain ⟨cA, t0, ci', r, hr, hzz, ht, hl0, hl1, rfl⟩ := celR.refs hok (by omega) hce
  have : ci' = ci := by omega
  subst this
  obtain ⟨qk, ek, hek, hcek⟩ := hc v hv0 (by omega)
  obtain ⟨r', hr', rfl⟩ := celR.obj hv hci hcek
  cases hr.symm.trans hr'
  have hext : mExt h ad (up2 h a i v) ad := up2_ext h0
  show W p l e R s m args below meth c H locs cells slots Z (F0 m pc ls (enV ad (2, v) :: .int (Int32.ofInt i) :: enV ad (2, a) :: S.map (enV ad)))
  rw [enV_r (by omega), enV_r (by omega)]
  have hset : va_up (fun k : Nat => enO ad (h a (k : Int))) (Int32.ofInt i).toNatClampNeg (some (ad v)) = fun k : Nat => enO ad (up2 h a i v a (k : Int)) := by
    rw [vcl h0 (by omega)]
    funext k
    unfold va_up
    by_cases hk : k = i.toNat
    · subst hk
      rw [if_pos rfl, Int.toNat_of_nonneg h0, up2_eq, enO_ne (by omega)]
    · rw [if_neg hk, up2_ne (Or.inr (by omega))]
  refine va_astq hX hb hK hP hD hV q0 t0 qk ci' he ht hek hr (vin h0 (by rw [hn]; exact hi) hl1) hd (fun H1 locs1 hP1 hD1 hS1 => ?_)
  rw [hset] at hP1 hD1
  have e1 : up2 h a i v a (-1) = h a (-1) := up2_ne (Or.inr (by omega))
  have e2 : up2 h a i v a (-2) = h a (-2) := up2_ne (Or.inr (by omega))
  have hR1 : mRel X s ad (up2 h a i v) H1 := mRel.put hK hc hj hneg hcl ha hz0 h0 he (Or.inr (Or.inr ⟨cA, t0, ci', r, hr, by rw [e1]; exact hz, ht, by rw [e2]; exact hl0, by rw [e2]; exact hl1, by rw [e2]⟩)) hP1 hD1 (fun _ => hS.head.2 rfl)
  exact k' p l e R s m args below meth c H1 locs1 cells slots Z ad ls mx hA hR1 hS1 h1 h2 h3 h4 (hL.ext hext) (hS.tail.tail.tail.ext hext) (fun r h' ad' H' locs' cells' slots' pc' ls' g1 g2 => hF r h' ad' H' locs' cells' slots' pc' ls' g1 (hext.tr g2))
end MR3
