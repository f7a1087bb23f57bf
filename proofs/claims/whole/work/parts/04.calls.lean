/-! ===== calls: a method's WP gives its contract; a call of it ===== -/
theorem xRO.kept {X : mX} {s : State} {H H1 : Heap} (o : xRO X s H) (hq : ∀ a : Nat, a < H.size → ¬ mB X a → H1[a]? = H[a]?) : xRO X s H1 :=
  ⟨fun a ty N f hh => ⟨(o.1 a ty N f hh).1.kept hq, (o.1 a ty N f hh).2⟩, fun C n d v hh => (o.2.1 C n d v hh).kept hq, o.2.2.1, fun a n d v hh => (o.2.2.2.1 a n d v hh).kept hq, fun a hh => (o.2.2.2.2.1 a hh).kept hq, o.2.2.2.2.2⟩
theorem xRO.warm {X : mX} {s U : State} {H : Heap} (hW : s.WarmedH U.vm) (o : xRO X s H) : xRO X U H :=
  ⟨fun a ty N f hh => ⟨(o.1 a ty N f hh).1.moved hW.alike, (o.1 a ty N f hh).2⟩, fun C n d v hh => (o.2.1 C n d v hh).moved hW.alike, fun own k tx a hh => ⟨(o.2.2.1 own k tx a hh).1.warm hW, (o.2.2.1 own k tx a hh).2⟩, fun a n d v hh => (o.2.2.2.1 a n d v hh).moved hW.alike, fun a hh => (o.2.2.2.2.1 a hh).moved hW.alike, fun C hh => (o.2.2.2.2.2.1 C hh).moved hW.alike, fun own k y host hh => (o.2.2.2.2.2.2 own k y host hh).warmM hW⟩
theorem xRO.same {X : mX} {s U : State} {H : Heap} (hv : U.vm = s.vm) (o : xRO X s H) : xRO X U H :=
  have hA : s.vm.Alike U.vm := by rw [hv]; exact Vm.Alike.refl _
  ⟨fun a ty N f hh => ⟨(o.1 a ty N f hh).1.moved hA, (o.1 a ty N f hh).2⟩, fun C n d v hh => (o.2.1 C n d v hh).moved hA, fun own k tx a hh => ⟨(o.2.2.1 own k tx a hh).1.same hv, (o.2.2.1 own k tx a hh).2⟩, fun a n d v hh => (o.2.2.2.1 a n d v hh).moved hA, fun a hh => (o.2.2.2.2.1 a hh).moved hA, fun C hh => (o.2.2.2.2.2.1 C hh).moved hA, fun own k y host hh => (o.2.2.2.2.2.2 own k y host hh).same rfl hv.symm⟩
def mPc (X : mX) (As : List mV) (ad : Int → Nat) (h : mH) : Array Value → State → Prop := fun v U => v = (As.map (enV ad)).toArray ∧ mRel X U ad h U.heap ∧ xRO X U U.heap ∧ xB X ≤ U.heap.size ∧ xOK X
def mQc (X : mX) (Q : mV → mH → Prop) (ad : Int → Nat) (h : mH) : Array Value → State → Outcome → State → Prop := fun _ st o t =>
  (∃ (r : mV) (h' : mH) (ad' : Int → Nat), o = .returned (rstk ad' r).head? ∧ okA h' r ∧ Q r h' ∧ mExt h ad h' ad' ∧ mRel X t ad' h' t.heap) ∧ va_F (mB X) st t
/-- what the tables say of a method: n arguments beside the receiver -/
def okM (X : mX) (M : mD) (n : Nat) : Prop := plainName (mY M).cls = true ∧ Cond.code (mY M) (mC M) (mL M) (mT M) ∈ xT X ∧ Cond.initialized (mY M).cls ∈ xT X ∧ (mY M).cls = mO M ∧ mL M ≤ 22 ∧ ((mY M).cls ≠ "java/lang/invoke/MethodHandle" ∧ (mY M).cls ≠ "java/lang/invoke/VarHandle") ∧ (parseMethodDescriptor (mY M).desc).map (fun d => d.parameters.length) = some n
def mLay (As : List mV) : List mV := As.flatMap fun v => if v.1 = 1 then [v, (9, 0)] else [v]
def mEnt (M : mD) (As : List mV) : List mV := mLay As ++ List.replicate (mL M - (mLay As).length) (9, 0)
def WPm (X : mX) (M : mD) (d b : Nat) (Q : mV → mH → Prop) (As : List mV) (h : mH) : Prop := WP X M d b Q 0 (mEnt M As) [] h
def mws (X : mX) (M : mD) : List Cond := Cond.code (mY M) (mC M) (mL M) (mT M) :: xT X
def mrm (d b : Nat) : Room := { frames := d, cells := b, slots := b, locals := 41 * d }
theorem mLay_cons {v : mV} {As : List mV} : mLay (v :: As) = (if v.1 = 1 then [v, (9, 0)] else [v]) ++ mLay As := rfl
theorem mLay_args {ad : Int → Nat} {h : mH} : ∀ (As : List mV) (i0 : Nat), mStk h As → ∀ (i : Nat) (v : mV), (mLay As)[i]? = some v → v.1 < 3 → (i0 + i, enV ad v) ∈ lv_args i0 (As.map (enV ad)) ∧ v ∈ As := by
  intro As
  induction As with
  | nil => intro i0 _ i v hv _; simp [mLay] at hv
  | cons w As ih =>
    intro i0 hS i v hv ht
    rw [mLay_cons] at hv
    rw [List.map_cons, lv_args, enV_cat (hS.head).1]
    by_cases hw : w.1 = 1
    · rw [if_pos hw] at hv ⊢
      match i, hv with
      | 0, hv => cases hv; exact ⟨List.mem_cons_self, List.mem_cons_self⟩
      | 1, hv => cases hv; exact absurd ht (by decide)
      | i + 2, hv =>
        have := ih (i0 + 2) hS.tail i v (by simpa using hv) ht
        exact ⟨List.mem_cons_of_mem _ (by rw [if_pos rfl, show i0 + (i + 2) = i0 + 2 + i by omega]; exact this.1), List.mem_cons_of_mem _ this.2⟩
    · rw [if_neg hw] at hv ⊢
      match i, hv with
      | 0, hv => cases hv; exact ⟨List.mem_cons_self, List.mem_cons_self⟩
      | i + 1, hv =>
        have := ih (i0 + 1) hS.tail i v (by simpa using hv) ht
        exact ⟨List.mem_cons_of_mem _ (by rw [if_neg (by decide), show i0 + (i + 1) = i0 + 1 + i by omega]; exact this.1), List.mem_cons_of_mem _ this.2⟩
theorem mLay_len {ad : Int → Nat} {h : mH} : ∀ (As : List mV), mStk h As → (lg_sl (As.map (enV ad))).length = (mLay As).length := by
  intro As
  induction As with
  | nil => intro _; rfl
  | cons w As ih =>
    intro hS
    have e1 : lg_sl ((w :: As).map (enV ad)) = (if (enV ad w).category = 2 then [.val (enV ad w), .second] else [.val (enV ad w)]) ++ lg_sl (As.map (enV ad)) := rfl
    rw [e1, mLay_cons, List.length_append, List.length_append, ih hS.tail, enV_cat hS.head.1]
    by_cases hw : w.1 = 1
    · rw [if_pos hw, if_pos rfl, if_pos hw]; rfl
    · rw [if_neg hw, if_neg (by decide), if_neg hw]; rfl
theorem mEnt_loc {M : mD} {ad : Int → Nat} {h : mH} {As : List mV} (hS : mStk h As) (hlen : (mLay As).length ≤ mL M) :
    mLoc ad h (mL M) ((lg_sl (As.map (enV ad)) ++ List.replicate (mL M - (lg_sl (As.map (enV ad))).length) Slot.unset).toArray) (mEnt M As) := by
  have hl := lv_entry (As.map (enV ad)) (n := mL M) (by rw [mLay_len As hS]; exact hlen)
  refine ⟨⟨hl.1, hl.2.1, fun _ hq => absurd hq List.not_mem_nil⟩, by unfold mEnt; rw [List.length_append, List.length_replicate]; omega, fun i v hv ht => ?_⟩
  unfold mEnt at hv
  by_cases hi : i < (mLay As).length
  · rw [List.getElem?_append_left hi] at hv
    obtain ⟨g1, g2⟩ := mLay_args (ad := ad) As 0 hS i v hv ht
    rw [Nat.zero_add] at g1
    exact ⟨hl.2.2 _ g1, hS v g2⟩
  · rw [List.getElem?_append_right (by omega), List.getElem?_replicate] at hv
    split at hv
    · cases hv; exact absurd ht (by decide)
    · cases hv
theorem met_of {X : mX} {M : mD} {d b n : Nat} {Q : mV → mH → Prop} {As : List mV} {h : mH} (hM : okM X M n) (hS : mStk h As) (hlen : (mLay As).length ≤ mL M) (k : WPm X M d b Q As h) (l : Launch) (ad : Int → Nat) :
    Met l (mY M) (mws X M) (mrm d b) (mPc X As ad h) (mQc X Q ad h) b b (mB X) := by
  refine Met.ofW (cc := mC M) (maxL := mL M) (ret := mT M) hM.1 rfl ?_
  intro p e s m args below meth c s₁ B hml hv
  obtain ⟨rfl, hR, hRO, hB, hOK⟩ := hv
  have hts0 := atoms_spec (ws := mws X M) B.pre
  have hts : ∀ w ∈ xT X, w.before (As.map (enV ad)).toArray s = true := fun w hw => hts0 w (List.mem_cons_of_mem _ hw)
  have hown : s.vm.findClass (mO M) = some m.cls := by rw [← hM.2.2.2.1]; exact findClass_of_methodNamed B.named
  have hlocks : meth.locks = false := B.notSynchronized
  have hnm : (mY M).name = "<init>" → meth.name = "<init>" := fun e => ((name_of_methodNamed B.named B.method).1).trans e
  have hret : meth.sig.returnType = mT M := B.returns
  rw [lg_entry_eq]
  refine k p l e (headSpec (mws X M) (mrm d b)).room s m _ below meth c s.heap [] 0 0 _ ad _ b ⟨B.exec, B.bytes, hml, hown, hts, hret, hlocks, hnm, Nat.le_refl _, Nat.le_refl _, hRO, hB, hOK⟩ hR va_S.rf (by omega) (by omega) (Nat.le_refl _) (Nat.le_refl _) (mEnt_loc hS hlen) (fun _ hq => absurd hq List.not_mem_nil) ?_
  intro r h' ad' H' locs' cells' slots' pc' ls' hR' hE' hS' hc' hs' hr hok hq
  have post : ∀ t : State, t.heap = H' → s.WarmedH t.vm → ∀ v : Option Value, v = (rstk ad' r).head? → mQc X Q ad h (As.map (enV ad)).toArray s (.returned v) t := by
    intro t ht hW v hv
    refine ⟨⟨r, h', ad', by rw [hv], hok, hq, hE', by rw [ht]; exact hR'.moved hW.alike⟩, hS'.F ht⟩
  refine W.widen hc' hs' ?_
  rcases hr with ⟨g1, g2, ty, g3, g4⟩ | ⟨g1, g2, g3⟩ | ⟨g1, g2, ty, g3, g4⟩ | ⟨g1, rfl, g3⟩
  · obtain ⟨t, x⟩ := r
    cases g2
    exact W.zret B.exec B.bytes (hret.trans g3) g4 (fun t ht hW => post t ht hW _ rfl) hS'.2.2 g1 hlocks
  · obtain ⟨t, x⟩ := r
    cases g2
    exact W.lret B.exec B.bytes (hret.trans g3) (fun t ht hW => post t ht hW _ rfl) hS'.2.2 g1 hlocks
  · obtain ⟨t, x⟩ := r
    cases g2
    refine W.aret B.exec B.bytes (hret.trans g3) g4 ?_ (fun t ht hW => post t ht hW _ rfl) hS'.2.2 g1 hlocks
    show va_rf (enO ad' x) = .null ∨ ∃ a, va_rf (enO ad' x) = .ref a
    cases enO ad' x with
    | none => exact Or.inl rfl
    | some y => exact Or.inr ⟨y, rfl⟩
  · exact W.vret B.exec B.bytes (hret.trans g3) (fun t ht hW => post t ht hW _ rfl) hS'.2.2 g1 hlocks
def rs (r : mV) : List mV := match r.1 with
  | 9 => []
  | _ => [r]
theorem rstk_rs {h : mH} {r : mV} {ad : Int → Nat} (o : okA h r) : (rstk ad r).head?.toList = (rs r).map (enV ad) ∧ mStk h (rs r) := by
  rcases o with o | rfl
  · obtain ⟨t, x⟩ := r
    have e : rs (t, x) = [(t, x)] := by
      match t, o.1 with
      | 0, _ => rfl
      | 1, _ => rfl
      | 2, _ => rfl
    rw [e]
    refine ⟨?_, mStk.cons o (fun _ hq => absurd hq List.not_mem_nil)⟩
    unfold rstk
    rw [if_pos o.1]
    rfl
  · exact ⟨rfl, fun _ hq => absurd hq List.not_mem_nil⟩
def mKeep (h h' : mH) : Prop := ∀ a : Int, h a (-1) ≠ 0 → h' a (-1) = h a (-1)
section MR5
variable {X : mX} {M M' : mD} {d b b' n pc : Nat} {Q Q' : mV → mH → Prop} {L S As : List mV} {h : mH}
theorem wp_run {st : List mV}
    (run : ∀ (p : Program) (l : Launch) (e : Env) (R : Room) (s : State) (m : MethodId) (args : Array Value) (below : List Frame) (meth : Method) (c : Code) (H : Heap) (locs : List Loc) (cells slots : Nat) (ad : Int → Nat) (ls : Array Slot), mAct X M (d + 1) p R s m args meth c → mRel X s ad h H → va_S (mB X) s.heap H locs → cells + b' ≤ R.cells → slots + b' ≤ R.slots → mLoc ad h (mL M) ls L → mStk h st →
      ∃ a : Array Value, va_Run p l e R s m args below meth c H locs cells slots b' b' (F0 m pc ls (st.map (enV ad))) (S.map (enV ad)) (mQc X Q' ad h a) (mB X))
    (hst : ∃ l1, st = l1 ++ S) (hb : b' ≤ b) (k : ∀ (r : mV) (h' : mH), Q' r h' → mKeep h h' → WP X M (d + 1) (b - b') Q (pc + 3) L (rs r ++ S) h') : WP X M (d + 1) b Q pc L st h := by
  intro p l e R s m args below meth c H locs cells slots Z ad ls mx hA hR hV h1 h2 h3 h4 hL hS hF
  obtain ⟨a, hrun⟩ := run p l e R s m args below meth c H locs cells slots ad ls hA hR hV (by omega) (by omega) hL hS
  intro T hT X'
  obtain ⟨v, st₀, t, T', L2, h0, X2, hL2, e1, e2, ⟨⟨r, h', ad', hv, hok, hq, hE, hR'⟩, hz, hkk⟩, go⟩ := hrun T hT X'
  have hv' : v = (rstk ad' r).head? := by injection hv
  obtain ⟨l1, hl1⟩ := hst
  have hSS : mStk h S := fun w hw => hS w (by rw [hl1]; exact List.mem_append_right _ hw)
  rw [h0] at hz hkk
  have hvm : t.vm.Alike s.vm := by rw [← e2]; exact X2.warmed.alike.symm
  have hR2 : mRel X s ad' h' T'.heap := by rw [e1]; exact hR'.moved hvm
  have hV2 : va_S (mB X) s.heap T'.heap (locs ++ L2) := ⟨Nat.le_trans hV.1 (by rw [e1]; exact hz), fun q g1 g2 => by rw [e1, hkk q (Nat.lt_of_lt_of_le g1 hV.1) g2]; exact hV.2.1 q g1 g2, fun q hq' => (List.mem_append.mp hq').elim (hV.2.2 q) (hL2 q)⟩
  obtain ⟨f1, f2⟩ := rstk_rs (ad := ad') hok
  have kk := k r h' hq (fun x hx => (hE x hx).1) p l e R s m args below meth c T'.heap (locs ++ L2) (cells + b') (slots + b') Z ad' ls mx hA hR2 hV2 (by omega) (by omega) h3 h4 (hL.ext hE) (fun w hw => (List.mem_append.mp hw).elim (f2 w) (fun z => (hSS w z).ext hE)) (fun r h'' ad'' H' locs' cells' slots' pc' ls' g1 g2 => hF r h'' ad'' H' locs' cells' slots' pc' ls' g1 (hE.tr g2))
  rw [List.map_append, map_ext hE hSS, ← f1, ← hv'] at kk
  obtain ⟨t2, a1, b1⟩ := kk T' rfl X2
  exact ⟨t2, go t2 a1, b1⟩
theorem mPre {ad : Int → Nat} {H : Heap} {p : Program} {R : Room} {s : State} {m : MethodId} {args : Array Value} {meth : Method} {c : Code} {locs : List Loc} (hA : mAct X M (d + 1) p R s m args meth c) (hR : mRel X s ad h H) (hV : va_S (mB X) s.heap H locs) : PreS s H (mPc X As ad h) (As.map (enV ad)) := by
  obtain ⟨hx, hbb, hml, hown, hts, hret, hlk, hnm, hfr, hlo, hro, hba, hok⟩ := hA
  refine ⟨fun a U g mk q => ⟨q.1, q.2.1.moved (t := U.calling g mk a) (Vm.Alike.refl U.vm), q.2.2.1.same (U := U.calling g mk a) rfl, q.2.2.2⟩, fun U hU hW => ⟨rfl, by rw [hU]; exact hR.moved hW.alike, ?_, by rw [hU]; exact Nat.le_trans hba hV.1, hok⟩⟩
  rw [hU]
  exact (hro.kept hV.2.1).warm hW
theorem mGood (hok : xOK X) (hM : okM X M' n) : GoodIn (xT X) (mws X M') := by
  intro w hw
  rcases List.mem_cons.mp hw with rfl | hw
  · exact ⟨hM.2.1, hok.1 _ hM.2.1⟩
  · exact ⟨hw, hok.1 w hw⟩
theorem mRoom {R : Room} {p : Program} {s : State} {m : MethodId} {args : Array Value} {meth : Method} {c : Code} (hA : mAct X M (d + 1) p R s m args meth c) (hM : okM X M' n) : (mrm d b').frames + 1 ≤ R.frames ∧ 8 + (mL M' + 11) + (mrm d b').locals ≤ R.locals := by
  obtain ⟨-, -, -, -, -, -, -, -, hfr, hlo, -⟩ := hA
  have := hM.2.2.2.2.1
  refine ⟨hfr, ?_⟩
  show 8 + (mL M' + 11) + 41 * d ≤ R.locals
  omega
theorem map_rev {ad : Int → Nat} : (As.reverse ++ S).map (enV ad) = (As.map (enV ad)).reverse ++ S.map (enV ad) := by rw [List.map_append, List.map_reverse]
/-- invokestatic, of the own class or another whose method may be seen -/
theorem wp_callS {idx : Nat} (hM : okM X M' n) (hw : Cond.methodLink (mO M) idx (mY M') ∈ xT X ∧ Cond.static (mY M') ∈ xT X) (hd : decode (mC M) pc = .ok (.invokestatic idx, 3)) {st : List mV} (hst : st = As.reverse ++ S) (hn : As.length = n) (hlen : (mLay As).length ≤ mL M') (hm : mw S ≤ 8)
    (kc : WPm X M' d b' Q' As h) (hb : b' ≤ b) (k : ∀ (r : mV) (h' : mH), Q' r h' → mKeep h h' → WP X M (d + 1) (b - b') Q (pc + 3) L (rs r ++ S) h') : WP X M (d + 1) b Q pc L st h := by
  subst hst
  refine wp_run (fun p l e R s m args below meth c H locs cells slots ad ls hA hR hV hce hsl hL hS => ?_) ⟨_, rfl⟩ hb k
  obtain ⟨hx, hbb, hml, hown, hts, hret, hlk, hnm, hfr, hlo, hro, hba, hok⟩ := id hA
  have hSA : mStk h As := fun v hv => hS v (List.mem_append_left _ (List.mem_reverse.mpr hv))
  have hSS : mStk h S := fun v hv => hS v (List.mem_append_right _ hv)
  refine ⟨_, va_runS (As := As.map (enV ad)) (n := n) ⟨hx, hbb, hml, hown, hts⟩ (met_of hM hSA hlen kc l ad) ⟨callB_of n hts (mGood hok hM) rfl rfl rfl (hts _ hM.2.2.1) (hts _ hw.1) ⟨hM.2.2.2.2.2.1.1, hM.2.2.2.2.2.1.2, hM.2.2.2.2.2.2⟩ (mRoom hA hM), hts _ hw.2⟩ (mPre hA hR hV) rfl (by rw [List.length_map]; exact hn) (by rw [hL.size]) map_rev (lv_room (by rw [mw_eq hSS]; exact hm)) hd ⟨hce, hsl⟩⟩
theorem wp_callSN {idx : Nat} {host : String} (hM : okM X M' n) (hw : (mO M, idx, mY M', host) ∈ (xR X).2.2.2.2.2.2 ∧ Cond.static (mY M') ∈ xT X) (hd : decode (mC M) pc = .ok (.invokestatic idx, 3)) {st : List mV} (hst : st = As.reverse ++ S) (hn : As.length = n) (hlen : (mLay As).length ≤ mL M') (hm : mw S ≤ 8)
    (kc : WPm X M' d b' Q' As h) (hb : b' ≤ b) (k : ∀ (r : mV) (h' : mH), Q' r h' → mKeep h h' → WP X M (d + 1) (b - b') Q (pc + 3) L (rs r ++ S) h') : WP X M (d + 1) b Q pc L st h := by
  subst hst
  refine wp_run (fun p l e R s m args below meth c H locs cells slots ad ls hA hR hV hce hsl hL hS => ?_) ⟨_, rfl⟩ hb k
  obtain ⟨hx, hbb, hml, hown, hts, hret, hlk, hnm, hfr, hlo, hro, hba, hok⟩ := id hA
  have hSA : mStk h As := fun v hv => hS v (List.mem_append_left _ (List.mem_reverse.mpr hv))
  have hSS : mStk h S := fun v hv => hS v (List.mem_append_right _ hv)
  refine ⟨_, va_runSN (As := As.map (enV ad)) (n := n) ⟨hx, hbb, hml, hown, hts⟩ (met_of hM hSA hlen kc l ad) ⟨va_cnB n hts (mGood hok hM) rfl rfl rfl (hro.2.2.2.2.2.2 _ _ _ _ hw.1) (hts _ hM.2.2.1) ⟨hM.2.2.2.2.2.1.1, hM.2.2.2.2.2.1.2, hM.2.2.2.2.2.2⟩ (mRoom hA hM), hts _ hw.2, trivial⟩ (mPre hA hR hV) rfl (by rw [List.length_map]; exact hn) (by rw [hL.size]) map_rev (lv_room (by rw [mw_eq hSS]; exact hm)) hd ⟨hce, hsl⟩⟩
theorem mPre' {a : Int} {ad : Int → Nat} {s : State} {H : Heap} (ha : a ≠ -1) (hp : PreS s H (mPc X ((2, a) :: As) ad h) (((2, a) :: As).map (enV ad))) : PreS s H (mPc X ((2, a) :: As) ad h) (.ref (ad a) :: As.map (enV ad)) := by
  have e1 : ((2, a) :: As).map (enV ad) = .ref (ad a) :: As.map (enV ad) := by rw [List.map_cons, enV_r ha]
  rw [e1] at hp
  exact hp
/-- a constructor -/
theorem wp_callI {idx : Nat} {a : Int} (hM : okM X M' n) (hi : (mY M').name = "<init>" ∧ mT M' = none) (hw : Cond.methodLink (mO M) idx (mY M') ∈ xT X ∧ Cond.instanceMethod (mY M') ∈ xT X) (hd : decode (mC M) pc = .ok (.invokespecial idx, 3)) {st : List mV} (hst : st = As.reverse ++ (2, a) :: S) (hn : As.length = n) (hlen : (mLay ((2, a) :: As)).length ≤ mL M') (hm : mw S ≤ 8) (ha : 0 ≤ a)
    (kc : WPm X M' d b' Q' ((2, a) :: As) h) (hb : b' ≤ b) (k : ∀ (r : mV) (h' : mH), Q' r h' → mKeep h h' → WP X M (d + 1) (b - b') Q (pc + 3) L (rs r ++ S) h') : WP X M (d + 1) b Q pc L st h := by
  subst hst
  refine wp_run (fun p l e R s m args below meth c H locs cells slots ad ls hA hR hV hce hsl hL hS => ?_) ⟨As.reverse ++ [(2, a)], by rw [List.append_assoc]; rfl⟩ hb k
  obtain ⟨hx, hbb, hml, hown, hts, hret, hlk, hnm, hfr, hlo, hro, hba, hok⟩ := id hA
  have hSA : mStk h ((2, a) :: As) := fun v hv => hS v ((List.mem_cons.mp hv).elim (fun z => List.mem_append_right _ (by rw [z]; exact List.mem_cons_self)) (fun z => List.mem_append_left _ (List.mem_reverse.mpr z)))
  have hSS : mStk h S := fun v hv => hS v (List.mem_append_right _ (List.mem_cons_of_mem _ hv))
  have hGd : GoodIn (xT X) (mws X M') := mGood hok hM
  have hMe := met_of hM hSA hlen kc l ad
  have hcc : Cond.code (mY M') (mC M') (mL M') none ∈ xT X := by rw [← hi.2]; exact hM.2.1
  have hcb : CallB R s args (mO M) idx (mY M') (mC M') (mL M') none (mws X M') (mrm d b') b' b' n := by
    have := callB_of (R := R) (own := mO M) (index := idx) (bytes := mC M') (maxL := mL M') (ret := none) (ws := mws X M') (ws' := xT X) (rm := mrm d b') (mc := b') (ms := b') (y := mY M') n hts hGd (by unfold mws; rw [hi.2]) rfl rfl (hts _ hM.2.2.1) (hts _ hw.1) ⟨hM.2.2.2.2.2.1.1, hM.2.2.2.2.2.1.2, hM.2.2.2.2.2.2⟩ (mRoom hA hM)
    exact this
  refine ⟨_, va_runI (As := As.map (enV ad)) (b := ad a) (n := n) ⟨hx, hbb, hml, hown, hts⟩ hMe ⟨hcb, hi.1, hts _ hw.2⟩ (mPre' (by omega) (mPre hA hR hV)) rfl (by rw [List.length_map]; exact hn) (by rw [hL.size]) (by rw [map_rev, List.map_cons, enV_r (by omega)]) (lv_room (by rw [mw_eq hSS]; exact hm)) hd ⟨hce, hsl⟩⟩
theorem wp_callIN {idx : Nat} {a : Int} {host : String} (hM : okM X M' n) (hi : (mY M').name = "<init>" ∧ mT M' = none) (hw : (mO M, idx, mY M', host) ∈ (xR X).2.2.2.2.2.2 ∧ Cond.instanceMethod (mY M') ∈ xT X) (hd : decode (mC M) pc = .ok (.invokespecial idx, 3)) {st : List mV} (hst : st = As.reverse ++ (2, a) :: S) (hn : As.length = n) (hlen : (mLay ((2, a) :: As)).length ≤ mL M') (hm : mw S ≤ 8) (ha : 0 ≤ a)
    (kc : WPm X M' d b' Q' ((2, a) :: As) h) (hb : b' ≤ b) (k : ∀ (r : mV) (h' : mH), Q' r h' → mKeep h h' → WP X M (d + 1) (b - b') Q (pc + 3) L (rs r ++ S) h') : WP X M (d + 1) b Q pc L st h := by
  subst hst
  refine wp_run (fun p l e R s m args below meth c H locs cells slots ad ls hA hR hV hce hsl hL hS => ?_) ⟨As.reverse ++ [(2, a)], by rw [List.append_assoc]; rfl⟩ hb k
  obtain ⟨hx, hbb, hml, hown, hts, hret, hlk, hnm, hfr, hlo, hro, hba, hok⟩ := id hA
  have hSA : mStk h ((2, a) :: As) := fun v hv => hS v ((List.mem_cons.mp hv).elim (fun z => List.mem_append_right _ (by rw [z]; exact List.mem_cons_self)) (fun z => List.mem_append_left _ (List.mem_reverse.mpr z)))
  have hSS : mStk h S := fun v hv => hS v (List.mem_append_right _ (List.mem_cons_of_mem _ hv))
  have hGd : GoodIn (xT X) (mws X M') := mGood hok hM
  have hMe := met_of hM hSA hlen kc l ad
  have hcb : va_CN R s args (mO M) idx (mY M') host (mC M') (mL M') none (mws X M') (mrm d b') b' b' n :=
    va_cnB (R := R) (own := mO M) (index := idx) (bytes := mC M') (maxL := mL M') (ret := none) (ws := mws X M') (ws' := xT X) (rm := mrm d b') (mc := b') (ms := b') (y := mY M') n hts hGd (by unfold mws; rw [hi.2]) rfl rfl (hro.2.2.2.2.2.2 _ _ _ _ hw.1) (hts _ hM.2.2.1) ⟨hM.2.2.2.2.2.1.1, hM.2.2.2.2.2.1.2, hM.2.2.2.2.2.2⟩ (mRoom hA hM)
  refine ⟨_, va_runIN (As := As.map (enV ad)) (b := ad a) (n := n) ⟨hx, hbb, hml, hown, hts⟩ hMe ⟨hcb, hi.1, hts _ hw.2⟩ (mPre' (by omega) (mPre hA hR hV)) rfl (by rw [List.length_map]; exact hn) (by rw [hL.size]) (by rw [map_rev, List.map_cons, enV_r (by omega)]) (lv_room (by rw [mw_eq hSS]; exact hm)) hd ⟨hce, hsl⟩⟩
/-- invokevirtual of a method of the receiver's own class -/
theorem wp_callV {idx ci : Nat} {a : Int} {r : vw_C} (hM : okM X M' n) (hw : Cond.methodLink (mO M) idx (mY M') ∈ xT X ∧ Cond.instanceMethod (mY M') ∈ xT X ∧ Cond.selects (mY M').cls (mY M') (mY M') ∈ xT X) (hr : (xC X)[ci]? = some r) (hrc : r.1 = (mY M').cls) (hd : decode (mC M) pc = .ok (.invokevirtual idx, 3)) {st : List mV} (hst : st = As.reverse ++ (2, a) :: S) (hn : As.length = n) (hlen : (mLay ((2, a) :: As)).length ≤ mL M') (hm : mw S ≤ 8) (ha : 0 ≤ a) (hz : h a (-1) = (ci : Int) + 1)
    (kc : WPm X M' d b' Q' ((2, a) :: As) h) (hb : b' ≤ b) (k : ∀ (r : mV) (h' : mH), Q' r h' → mKeep h h' → WP X M (d + 1) (b - b') Q (pc + 3) L (rs r ++ S) h') : WP X M (d + 1) b Q pc L st h := by
  subst hst
  refine wp_run (fun p l e R s m args below meth c H locs cells slots ad ls hA hR hV hce hsl hL hS => ?_) ⟨As.reverse ++ [(2, a)], by rw [List.append_assoc]; rfl⟩ hb k
  obtain ⟨hx, hbb, hml, hown, hts, hret, hlk, hnm, hfr, hlo, hro, hba, hok⟩ := id hA
  have hSA : mStk h ((2, a) :: As) := fun v hv => hS v ((List.mem_cons.mp hv).elim (fun z => List.mem_append_right _ (by rw [z]; exact List.mem_cons_self)) (fun z => List.mem_append_left _ (List.mem_reverse.mpr z)))
  have hSS : mStk h S := fun v hv => hS v (List.mem_append_right _ (List.mem_cons_of_mem _ hv))
  obtain ⟨ws, tys, hK, hP, hD, hc, hj, hneg, hcl⟩ := id hR
  obtain ⟨q0, e0, he, hce0⟩ := hc a ha (by omega)
  obtain ⟨hci, -⟩ := hok.2.1 ci r hr
  obtain ⟨r', hr', rfl⟩ := celR.obj hz hci hce0
  have hrecv := va_recv hK hP hr he
  rw [hrc] at hrecv
  have hp := mPre' (by omega) (mPre (As := (2, a) :: As) hA hR hV)
  refine ⟨_, va_runV (As := As.map (enV ad)) (b := ad a) (n := n) (C := (mY M').cls) ⟨hx, hbb, hml, hown, hts⟩ (met_of hM hSA hlen kc l ad) ⟨callB_of n hts (mGood hok hM) rfl rfl rfl (hts _ hM.2.2.1) (hts _ hw.1) ⟨hM.2.2.2.2.2.1.1, hM.2.2.2.2.2.1.2, hM.2.2.2.2.2.2⟩ (mRoom hA hM), hts _ hw.2.1, hts _ hw.2.2⟩ ⟨hp.1, hrecv, hp.2⟩ rfl (by rw [List.length_map]; exact hn) (by rw [hL.size]) (by rw [map_rev, List.map_cons, enV_r (by omega)]) (lv_room (by rw [mw_eq hSS]; exact hm)) hd ⟨hce, hsl⟩⟩
end MR5
