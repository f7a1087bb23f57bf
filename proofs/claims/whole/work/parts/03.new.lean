/-! ===== new cells, and calls ===== -/
def nwr (X : mX) (z n : Int) : Int → Int := fun k => if k = -1 then z else if k = -2 then n else if xS X z k = true then -1 else 0
def nwh (X : mX) (h : mH) (a z n : Int) : mH := fun b k => if b = a then nwr X z n k else h b k
theorem nwh_ne {X : mX} {h : mH} {a b z n : Int} (hb : b ≠ a) : nwh X h a z n b = h b := by
  funext k
  show (if b = a then _ else _) = _
  rw [if_neg hb]
theorem nwh_eq {X : mX} {h : mH} {a z n : Int} : nwh X h a z n a = nwr X z n := by
  funext k
  show (if a = a then _ else _) = _
  rw [if_pos rfl]
theorem nwr_1 {X : mX} {z n : Int} : nwr X z n (-1) = z := rfl
theorem nwr_2 {X : mX} {z n : Int} : nwr X z n (-2) = n := rfl
theorem nwr_k {X : mX} {z n k : Int} (hk : 0 ≤ k) : nwr X z n k = if xS X z k = true then -1 else 0 := by
  unfold nwr
  rw [if_neg (by omega), if_neg (by omega)]
theorem celR.ext {X : mX} {tys tys' : List (ClassId × FieldType)} {ad ad' : Int → Nat} {h h' : mH} {b : Int} {e : va_E} (hok : xOK X) (H : mExt h ad h' ad') (hcl : mCl X h) (hb : 0 ≤ b) (hz : h b (-1) ≠ 0) (ht : ∀ (t0 : Nat) (y : ClassId × FieldType), tys[t0]? = some y → tys'[t0]? = some y) (c : celR X tys ad (h b) e) : celR X tys' ad' (h b) e := by
  rcases c with ⟨ci, r, g1, g2, rfl⟩ | ⟨cA, t0, ty, g1, g2, g3⟩ | ⟨cA, t0, ci, r, g1, g2, g3, g4, g5, rfl⟩
  · refine Or.inl ⟨ci, r, g1, g2, ?_⟩
    obtain ⟨-, -, -, -, -, hsr, -⟩ := hok.2.1 ci r g1
    congr 2
    refine List.map_congr_left fun k hk => ?_
    have hk' : k < r.2.2 := List.mem_range.mp hk
    exact (enV_ext H ⟨dtag_lt, fun q => hcl b k hb hz (by omega) (by rw [g2]; exact (hsr k hk').mpr q)⟩).symm
  · exact Or.inr (Or.inl ⟨cA, t0, ty, g1, ht _ _ g2, g3⟩)
  · refine Or.inr (Or.inr ⟨cA, t0, ci, r, g1, g2, ht _ _ g3, g4, g5, ?_⟩)
    congr 7
    funext k
    exact (enO_ext H (hcl b k hb hz (by omega) (by rw [g2]; exact (hok.2.1 ci r g1).2.2.2.2.2.2 k (by omega)))).symm
def adn (ad : Int → Nat) (a : Int) (q : Nat) : Int → Nat := fun x => if x = a then q else ad x
theorem nw_ext {X : mX} {h : mH} {ad : Int → Nat} {a z n : Int} {q : Nat} (hz : h a (-1) = 0) : mExt h ad (nwh X h a z n) (adn ad a q) := by
  intro b hb
  have hba : b ≠ a := fun e => hb (by rw [e]; exact hz)
  exact ⟨by rw [nwh_ne hba], if_neg hba⟩
theorem mRel.new {X : mX} {s : State} {ad : Int → Nat} {h : mH} {H1 : Heap} {ws : va_W} {tys tys' : List (ClassId × FieldType)} {a z n : Int} {q : Nat} {e : va_E} (hok : xOK X) (hK : va_K (xD X) (xC X) tys' s) (ht : ∀ (t0 : Nat) (y : ClassId × FieldType), tys[t0]? = some y → tys'[t0]? = some y)
    (hc : ∀ a : Int, 0 ≤ a → h a (-1) ≠ 0 → ∃ (q : Nat) (e : va_E), ws[q]? = some (ad a, e) ∧ celR X tys ad (h a) e) (hj : ∀ a b : Int, 0 ≤ a → 0 ≤ b → h a (-1) ≠ 0 → h b (-1) ≠ 0 → ad a = ad b → a = b)
    (hneg : ∀ a : Int, a < 0 → (h a (-1) ≠ 0 ↔ a ≤ -10) ∧ (a ≤ -10 → ad a = xA X a)) (hcl : mCl X h) (ha : 0 ≤ a) (hz : h a (-1) = 0) (hz1 : z ≠ 0) (h1 : celR X tys' (adn ad a q) (nwr X z n) e)
    (hP : va_P (xD X) (xC X) (ws ++ [(q, e)]) H1) (hD : va_D (mB X) (ws ++ [(q, e)])) : mRel X s (adn ad a q) (nwh X h a z n) H1 := by
  have hext : mExt h ad (nwh X h a z n) (adn ad a q) := nw_ext hz
  have hq : ∀ b : Int, 0 ≤ b → h b (-1) ≠ 0 → ad b ≠ q := by
    intro b hb hbz hbq
    obtain ⟨q1, e1, g1, -⟩ := hc b hb hbz
    have hl := (List.getElem?_eq_some_iff.mp g1).1
    have := hD.1 q1 ws.length (ad b, e1) (q, e) (by rw [List.getElem?_append_left hl]; exact g1) (by rw [List.getElem?_append_right (Nat.le_refl _), Nat.sub_self]; rfl) hbq
    omega
  refine ⟨ws ++ [(q, e)], tys', hK, hP, hD, fun b hb hbz => ?_, fun x y hx hy hxz hyz hxy => ?_, fun x hx => ?_, fun x j hx hxz hj0 hs => ?_⟩
  · by_cases hba : b = a
    · subst hba
      refine ⟨ws.length, e, ?_, by rw [nwh_eq]; exact h1⟩
      rw [List.getElem?_append_right (Nat.le_refl _), Nat.sub_self]
      show some (q, e) = some ((if b = b then q else ad b), e)
      rw [if_pos rfl]
    · rw [nwh_ne hba] at hbz ⊢
      obtain ⟨q1, e1, g1, g2⟩ := hc b hb hbz
      have hl := (List.getElem?_eq_some_iff.mp g1).1
      refine ⟨q1, e1, ?_, g2.ext hok hext hcl hb hbz ht⟩
      rw [List.getElem?_append_left hl, g1]
      show some (ad b, e1) = some ((if b = a then q else ad b), e1)
      rw [if_neg hba]
  · have key : ∀ x : Int, adn ad a q x = if x = a then q else ad x := fun _ => rfl
    rw [key, key] at hxy
    by_cases hxa : x = a <;> by_cases hya : y = a
    · rw [hxa, hya]
    · rw [if_pos hxa, if_neg hya] at hxy
      rw [nwh_ne hya] at hyz
      exact absurd hxy.symm (hq y hy hyz)
    · rw [if_neg hxa, if_pos hya] at hxy
      rw [nwh_ne hxa] at hxz
      exact absurd hxy (hq x hx hxz)
    · rw [if_neg hxa, if_neg hya] at hxy
      rw [nwh_ne hya] at hyz
      rw [nwh_ne hxa] at hxz
      exact hj x y hx hy hxz hyz hxy
  · have hxa : x ≠ a := by omega
    rw [nwh_ne hxa]
    exact ⟨(hneg x hx).1, fun hh => by rw [show adn ad a q x = ad x from if_neg hxa]; exact (hneg x hx).2 hh⟩
  · by_cases hxa : x = a
    · subst hxa
      rw [nwh_eq] at hs ⊢
      rw [nwr_1] at hs
      rw [nwr_k hj0, if_pos hs]
      exact Or.inl rfl
    · rw [nwh_ne hxa] at hxz hs ⊢
      exact (hcl x j hx hxz hj0 hs).ext hext
section MR4
variable {X : mX} {M : mD} {d b pc : Nat} {Q : mV → mH → Prop} {L S : List mV} {h : mH}
theorem dflt_tag {X : mX} {r : vw_C} {ci k : Nat} {ty : FieldType} {ad : Int → Nat} (hok : xOK X) (hr : (xC X)[ci]? = some r) (hk : k < r.2.2) (hty : parseFieldDescriptor (r.2.1 k).2.2.1 = some ty) (n : Int) : defaultValue ty = enV ad (dtag (r.2.1 k).2.2.1, nwr X ((ci : Int) + 1) n (k : Int)) := by
  obtain ⟨-, -, -, hty', -, hsr, -⟩ := hok.2.1 ci r hr
  obtain ⟨ty', e1, e2⟩ := hty' k hk
  rw [hty] at e1
  cases e1
  rw [nwr_k (by omega)]
  rcases e2 with ⟨e3, rfl⟩ | ⟨e3, rfl⟩ | ⟨e3, e4⟩
  · rw [e3, if_neg (fun q => by rw [(hsr k hk).mp q] at e3; cases e3)]; rfl
  · rw [e3, if_neg (fun q => by rw [(hsr k hk).mp q] at e3; cases e3)]; rfl
  · rw [e3, if_pos ((hsr k hk).mpr e3)]
    rcases e4 with ⟨n, rfl⟩ | ⟨t, rfl⟩ <;> rfl
theorem wp_new {a : Int} {idx ci b' : Nat} {r : vw_C} (hr : (xC X)[ci]? = some r) (hw1 : Cond.classLink (mO M) idx r.1 ∈ xT X) (hw2 : Cond.instantiable r.1 r.2.2 ∈ xT X) (hw3 : Cond.initialized r.1 ∈ xT X) (hd : decode (mC M) pc = .ok (.new idx, 3)) (ha : 0 ≤ a) (hz : h a (-1) = 0) (hb : r.2.2 + 1 + b' ≤ b)
    (k' : WP X M d b' Q (pc + 3) L ((2, a) :: S) (nwh X h a ((ci : Int) + 1) 0)) : WP X M d b Q pc L S h := by
  intro p l e R s m args below meth c H locs cells slots Z ad ls mx hA hR hV h1 h2 h3 h4 hL hS hF
  obtain ⟨hx, hbb, hml, hown, hts, hret, hlk, hnm, hfr, hlo, hro, hba, hok⟩ := id hA
  obtain ⟨ws, tys, hK, hP, hD, hc, hj, hneg, hcl⟩ := id hR
  obtain ⟨hci, hn, hin, hty, hnmm, hsr, -⟩ := hok.2.1 ci r hr
  refine va_new (D := xD X) (cl := xC X) (ci := ci) (C := r.1) (T := r.2.1) (N := r.2.2) (fs := (List.range r.2.2).map fun k => enV ad (dtag (r.2.1 k).2.2.1, nwr X ((ci : Int) + 1) 0 (k : Int))) hx hbb hts hin (fun k => ((parseFieldDescriptor (r.2.1 k).2.2.1).getD .int)) (fun j hj' => by obtain ⟨t, e1, -⟩ := hty j hj'; rw [e1]; rfl) hown (hts _ hw1) (hts _ hw2) (hts _ hw3) hK hP hD hV (fun q hq => Nat.le_trans hba hq) hr (fun j hj' => ?_) (by omega) (by omega) hd (fun q H1 hP1 hD1 hS1 => ?_)
  · obtain ⟨t, e1, -⟩ := hty j hj'
    unfold vp_V
    rw [List.getD_eq_getElem?_getD, fs_get hj', e1]
    exact dflt_tag hok hr hj' e1 0
  · have hext : mExt h ad (nwh X h a ((ci : Int) + 1) 0) (adn ad a q) := nw_ext hz
    have hfs : ((List.range r.2.2).map fun k => enV ad (dtag (r.2.1 k).2.2.1, nwr X ((ci : Int) + 1) 0 (k : Int))) = (List.range r.2.2).map fun k => enV (adn ad a q) (dtag (r.2.1 k).2.2.1, nwr X ((ci : Int) + 1) 0 (k : Int)) := by
      refine List.map_congr_left fun k hk => ?_
      have hk' : k < r.2.2 := List.mem_range.mp hk
      obtain ⟨t, e1, -⟩ := hty k hk'
      rw [← dflt_tag hok hr hk' e1 0, ← dflt_tag hok hr hk' e1 0]
    rw [hfs] at hP1 hD1
    have hR1 : mRel X s (adn ad a q) (nwh X h a ((ci : Int) + 1) 0) H1 := mRel.new hok hK (fun _ _ z => z) hc hj hneg hcl ha hz (by omega) (Or.inl ⟨ci, r, hr, rfl, rfl⟩) hP1 hD1
    have kk := k' p l e R s m args below meth c H1 locs (cells + 1) (slots + r.2.2) Z (adn ad a q) ls mx hA hR1 hS1 (by omega) (by omega) h3 h4 (hL.ext hext) (mStk.cons ⟨t23, fun _ => Or.inr (by show nwh X h a ((ci : Int) + 1) 0 a (-1) ≠ 0; rw [nwh_eq, nwr_1]; omega)⟩ (hS.ext hext)) (fun r h' ad' H' locs' cells' slots' pc' ls' g1 g2 => hF r h' ad' H' locs' cells' slots' pc' ls' g1 (hext.tr g2))
    have e1 : List.map (enV (adn ad a q)) ((2, a) :: S) = .ref q :: S.map (enV ad) := by
      show enV (adn ad a q) (2, a) :: S.map (enV (adn ad a q)) = _
      rw [map_ext hext hS, enV_r (by omega)]
      show Value.ref (if a = a then q else ad a) :: _ = _
      rw [if_pos rfl]
    rw [e1] at kk
    exact kk
theorem wp_newarray {a n : Int} {t : ArrayType} {ty : FieldType} {code : Int} {b' : Nat} (hd : decode (mC M) pc = .ok (.newarray t, 2)) (hty : newarray.typeOf t = ty) (hw : Cond.arrayClass ty ∈ xT X) (hcode : mTy code = some ty) (hc0 : 20 ≤ code ∧ code ≤ 23) (ha : 0 ≤ a) (hz : h a (-1) = 0) (hn : 0 ≤ n ∧ n < 100000) (hb : n.toNat + 1 + b' ≤ b)
    (k' : WP X M d b' Q (pc + 2) L ((2, a) :: S) (nwh X h a code n)) : WP X M d b Q pc L ((0, n) :: S) h := by
  intro p l e R s m args below meth c H locs cells slots Z ad ls mx hA hR hV h1 h2 h3 h4 hL hS hF
  obtain ⟨hx, hbb, hml, hown, hts, hret, hlk, hnm, hfr, hlo, hro, hba, hok⟩ := id hA
  obtain ⟨ws, tys, hK, hP, hD, hc, hj, hneg, hcl⟩ := id hR
  have hty4 : ty = .int ∨ ty = .byte ∨ ty = .boolean ∨ ty = .char := by
    unfold mTy at hcode
    split at hcode
    · exact Or.inl (Option.some.inj hcode).symm
    · split at hcode
      · exact Or.inr (Or.inl (Option.some.inj hcode).symm)
      · split at hcode
        · exact Or.inr (Or.inr (Or.inl (Option.some.inj hcode).symm))
        · split at hcode
          · exact Or.inr (Or.inr (Or.inr (Option.some.inj hcode).symm))
          · cases hcode
  have hrow : (fun k : Nat => Int32.ofInt (nwr X code n (k : Int))) = fun _ => 0 := by
    funext k
    rw [nwr_k (by omega), if_neg (by rw [hok.2.2 code k hc0.1 hc0.2]; decide)]
    rfl
  have hcb : componentBytes ty ≤ 4 := by rcases hty4 with rfl | rfl | rfl | rfl <;> decide
  refine va_newa (D := xD X) (cl := xC X) (ty := ty) (N' := n.toNat) (a0 := (n.toNat, .inl fun _ => 0)) hx hbb (by rw [hty]; exact hts _ hw) hty hK hP hD hV (fun q hq => Nat.le_trans hba hq) (fun cA => ?_) (fun q => ?_) (vcl hn.1 (by omega)) ?_ (by omega) (by omega) hd (fun q cA H1 hK1 hP1 hD1 hS1 => ?_)
  · rw [vp_cell_i]
    rcases hty4 with rfl | rfl | rfl | rfl <;> rfl
  · exact absurd ((ltI (x := n) (y := 0) ⟨by omega, by omega⟩ In0).mp q) (by omega)
  · exact Nat.le_trans (Nat.mul_le_mul_left _ hcb) (by omega)
  · have hext : mExt h ad (nwh X h a code n) (adn ad a q) := nw_ext hz
    have hR1 : mRel X s (adn ad a q) (nwh X h a code n) H1 := mRel.new hok hK1 (fun t0 y z => by rw [List.getElem?_append_left (List.getElem?_eq_some_iff.mp z).1]; exact z) hc hj hneg hcl ha hz (by omega) (Or.inr (Or.inl ⟨cA, tys.length, ty, hcode, by rw [List.getElem?_append_right (Nat.le_refl _), Nat.sub_self]; rfl, hn.1, by rw [nwr_2]; omega, by rw [hrow, nwr_2]⟩)) hP1 hD1
    have kk := k' p l e R s m args below meth c H1 locs (cells + 1) (slots + n.toNat) Z (adn ad a q) ls mx hA hR1 hS1 (by omega) (by omega) h3 h4 (hL.ext hext) (mStk.cons ⟨t23, fun _ => Or.inr (by show nwh X h a code n a (-1) ≠ 0; rw [nwh_eq, nwr_1]; omega)⟩ (hS.tail.ext hext)) (fun r h' ad' H' locs' cells' slots' pc' ls' g1 g2 => hF r h' ad' H' locs' cells' slots' pc' ls' g1 (hext.tr g2))
    have e1 : List.map (enV (adn ad a q)) ((2, a) :: S) = .ref q :: S.map (enV ad) := by
      show enV (adn ad a q) (2, a) :: S.map (enV (adn ad a q)) = _
      rw [map_ext hext hS.tail, enV_r (by omega)]
      show Value.ref (if a = a then q else ad a) :: _ = _
      rw [if_pos rfl]
    rw [e1] at kk
    exact kk
theorem wp_anewarray {a n : Int} {idx ci b' : Nat} {r : vw_C} (hr : (xC X)[ci]? = some r) (hd : decode (mC M) pc = .ok (.anewarray idx, 3)) (hw1 : Cond.classLink (mO M) idx r.1 ∈ xT X) (hw2 : r.1 ∈ (xR X).2.2.2.2.2.1) (ha : 0 ≤ a) (hz : h a (-1) = 0) (hn : 0 ≤ n ∧ n < 100000) (hb : n.toNat + 1 + b' ≤ b)
    (k' : WP X M d b' Q (pc + 3) L ((2, a) :: S) (nwh X h a ((ci : Int) + 30) n)) : WP X M d b Q pc L ((0, n) :: S) h := by
  intro p l e R s m args below meth c H locs cells slots Z ad ls mx hA hR hV h1 h2 h3 h4 hL hS hF
  obtain ⟨hx, hbb, hml, hown, hts, hret, hlk, hnm, hfr, hlo, hro, hba, hok⟩ := id hA
  obtain ⟨ws, tys, hK, hP, hD, hc, hj, hneg, hcl⟩ := id hR
  have hrow : ∀ ad' : Int → Nat, (fun k : Nat => enO ad' (nwr X ((ci : Int) + 30) n (k : Int))) = fun _ => none := by
    intro ad'
    funext k
    rw [nwr_k (by omega), if_pos ((hok.2.1 ci r hr).2.2.2.2.2.2 k (by omega))]
    rfl
  refine va_newq (D := xD X) (cl := xC X) (C := r.1) (N' := n.toNat) hx hbb hown (hts _ hw1) (hro.2.2.2.2.2.1 _ hw2) hK hP hD hV (fun q hq => Nat.le_trans hba hq) (fun q => ?_) (vcl hn.1 (by omega)) (by omega) (by omega) (by omega) hd (fun q cA H1 hK1 hP1 hD1 hS1 => ?_)
  · exact absurd ((ltI (x := n) (y := 0) ⟨by omega, by omega⟩ In0).mp q) (by omega)
  · have hext : mExt h ad (nwh X h a ((ci : Int) + 30) n) (adn ad a q) := nw_ext hz
    have hR1 : mRel X s (adn ad a q) (nwh X h a ((ci : Int) + 30) n) H1 := mRel.new hok hK1 (fun t0 y z => by rw [List.getElem?_append_left (List.getElem?_eq_some_iff.mp z).1]; exact z) hc hj hneg hcl ha hz (by omega) (Or.inr (Or.inr ⟨cA, tys.length, ci, r, hr, rfl, by rw [List.getElem?_append_right (Nat.le_refl _), Nat.sub_self]; rfl, hn.1, by rw [nwr_2]; omega, by rw [hrow, nwr_2]⟩)) hP1 hD1
    have kk := k' p l e R s m args below meth c H1 locs (cells + 1) (slots + n.toNat) Z (adn ad a q) ls mx hA hR1 hS1 (by omega) (by omega) h3 h4 (hL.ext hext) (mStk.cons ⟨t23, fun _ => Or.inr (by show nwh X h a ((ci : Int) + 30) n a (-1) ≠ 0; rw [nwh_eq, nwr_1]; omega)⟩ (hS.tail.ext hext)) (fun r h' ad' H' locs' cells' slots' pc' ls' g1 g2 => hF r h' ad' H' locs' cells' slots' pc' ls' g1 (hext.tr g2))
    have e1 : List.map (enV (adn ad a q)) ((2, a) :: S) = .ref q :: S.map (enV ad) := by
      show enV (adn ad a q) (2, a) :: S.map (enV (adn ad a q)) = _
      rw [map_ext hext hS.tail, enV_r (by omega)]
      show Value.ref (if a = a then q else ad a) :: _ = _
      rw [if_pos rfl]
    rw [e1] at kk
    exact kk
def mw (S : List mV) : Nat := (S.map fun v => if v.1 = 1 then 2 else 1).sum
theorem mw_eq {S : List mV} {h : mH} {ad : Int → Nat} (hS : mStk h S) : ((S.map (enV ad)).map fun v => v.category).sum = mw S := by
  unfold mw
  rw [List.map_map]
  congr 1
  exact List.map_congr_left fun v hv => enV_cat (hS v hv).1
theorem wp_objInit {a : Int} {idx : Nat} (hw1 : Cond.methodLink (mO M) idx Lib.objectInit ∈ xT X) (hw2 : Cond.instanceMethod Lib.objectInit ∈ xT X) (hw3 : Cond.code Lib.objectInit ⟨#[0xb1]⟩ 1 none ∈ xT X) (hd : decode (mC M) pc = .ok (.invokespecial idx, 3)) (ha : 0 ≤ a) (hm : mw S ≤ 8) (k' : WP X M (d + 1) b Q (pc + 3) L S h) : WP X M (d + 1) b Q pc L ((2, a) :: S) h := by
  intro p l e R s m args below meth c H locs cells slots Z ad ls mx hA hR hV h1 h2 h3 h4 hL hS hF
  obtain ⟨hx, hbb, hml, hown, hts, hret, hlk, hnm, hfr, hlo, hro, hba, hok⟩ := id hA
  have kk := k' p l e R s m args below meth c H locs cells slots Z ad ls mx hA hR hV h1 h2 h3 h4 hL hS.tail hF
  show W p l e R s m args below meth c H locs cells slots Z (F0 m pc ls (enV ad (2, a) :: S.map (enV ad)))
  rw [enV_r (by omega)]
  refine W.objInit hx hbb hown (hts _ hw1) (hts _ hw2) (hts _ hw3) rfl (by rw [hml]; exact hL.size) rfl hd (by omega) ?_ kk
  have := lv_room (m := m) (pc := pc) (ls := ls) (rest := .ref (ad a) :: S.map (enV ad)) (st := S.map (enV ad)) (by rw [mw_eq hS.tail]; exact hm)
  omega
end MR4
