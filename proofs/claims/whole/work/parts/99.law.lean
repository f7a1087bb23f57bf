/-! THE CLAIM OUT OF ONE WALK OF THE LAW'S BODY. Your part is whole_start (and what it stands on); all else here is the same for every law, but numbers. -/
def R_law : String := "GiftOfficeLaw"
def lw_P (b : Addr) (xs : List Int32) (args : Array Value) (s : State) : Prop := args = #[.ref b] ∧ s.IntsAt b xs ∧ xs.length ≤ 3584 ∧ (Jvm.Cond.and given_1 narrow_1).before args s = true
def lw_Q (_ : Array Value) (s : State) (o : Outcome) (t : State) : Prop := o = .returned (some (.int 1)) ∧ Framed s o t [] 600000 7302250
def lw_Z (below : List Frame) (a : Array Value) (s : State) : State → Prop := fun t => ∃ o, t.status = .running ∧ Ended t below o ∧ lw_Q a s o t
/-- the law's own end, with 1 on the stack, nothing written that was there before, its room as the claim has it -/
theorem lw_ret {p : Program} {l : Launch} {e : Env} {s : State} {m : MethodId} {below : List Frame} {meth : Method} {c : Code} {b : Nat} (hx : p.tables.exec = Jvm.exec) (hb : c.code = code) (hr : meth.sig.returnType = ret) (hlocks : meth.locks = false) {pc : Nat} {H : Heap} {ls : Array Slot} (hdg : decode code pc = .ok (.ireturn, 1)) : W p l e room_1 s m #[Value.ref b] below meth c H [] 600000 7302250 (lw_Z below #[Value.ref b] s) (F0 m pc ls [.int 1]) := by
  intro T hT X
  obtain ⟨fs, hret, hrun, hended, hW, hframe⟩ := X.leave (v := some (.int 1)) (hlocks := hlocks) (fun h => by rw [hr] at h; cases h)
  have hmeth' : T.vm.method? m = some meth := X.method'
  refine ⟨T.setFrames fs, ?_, .returned (some (.int 1)), hrun, hended, rfl, ⟨_, rfl⟩, hW, hframe⟩
  jvm_step X.here [X.here.top, hx, hb, hdg, hmeth', hr, ret, narrow_b1]
  (try refine ⟨rfl, ?_⟩); (try refine ⟨rfl, ?_⟩)
  first | (intro acts; rw [hret _ acts rfl rfl rfl]) | rw [hret _ _ rfl rfl rfl]
  exact Steps.refl _
/-- what holds at the law's entry: the machine, the code, the tables' words (any of lw_tbl by 'hts w (by decide +kernel)'), the script of L ints xs at the cell b, what the Statement gives of the start (any of its parts by flat_of_before) -/
def lw_At (p : Program) (s : State) (m : MethodId) (meth : Method) (c : Code) (b L : Nat) (xs : Nat → Int32) : Prop :=
  p.tables.exec = Jvm.exec ∧ c.code = code ∧ meth.sig.returnType = ret ∧ c.maxLocals = 4 ∧ s.vm.findClass R_law = some m.cls ∧ (∀ w ∈ lw_tbl, w.before #[Value.ref b] s = true) ∧ va_X b L xs s s.heap ∧ b < s.heap.size ∧ meth.locks = false ∧ (Jvm.Cond.and given_1 narrow_1).before #[Value.ref b] s = true
-- ===== YOUR PART BEGINS =====

/-- the law's end -/
theorem law_out {p : Program} {l : Launch} {e : Env} {s : State} {m : MethodId} {below : List Frame} {meth : Method} {c : Code} {b : Nat} {X : mX} {ad0 : Int → Nat} {h0 : mH} {ls : Array Slot} (hB : xB X = s.heap.size) (hA : mAct X ML_law 2048 p room_1 s m #[Value.ref b] meth c) (hR : mRel X s ad0 h0 s.heap) (hL : mLoc ad0 h0 4 ls [(2, -10), (9, 0), (9, 0), (9, 0)])
    (k : WP X ML_law 2048 600000 (fun r _ => r = (0, 1)) 0 [(2, -10), (9, 0), (9, 0), (9, 0)] [] h0) : W p l e room_1 s m #[Value.ref b] below meth c s.heap [] 0 0 (lw_Z below #[Value.ref b] s) (F0 m 0 ls []) := by
  refine k p l e room_1 s m _ below meth c s.heap [] 0 0 _ ad0 ls 600000 hA hR va_S.rf (by omega) (by omega) (Nat.le_refl _) (by show 600000 ≤ 7302250; omega) hL (fun _ hq => absurd hq List.not_mem_nil) ?_
  intro r h' ad' H' locs' cells' slots' pc' ls' hR' hE' hS' hc' hs' hr hok hq
  subst hq
  obtain ⟨hx, hb, hml, hown, hts, hret, hlk, -⟩ := hA
  refine va_forget (fun q hq => by have := hS'.2.2 q hq; unfold mB at this; rw [hB] at this; exact this) ?_
  refine W.widen (k := 600000) (n := 7302250) hc' (by omega) ?_
  rcases hr with ⟨g1, -⟩ | ⟨-, g2, -⟩ | ⟨-, g2, -⟩ | ⟨-, g2, -⟩
  · exact lw_ret hx hb hret hlk g1
  · cases g2
  · cases g2
  · cases g2
theorem lw_in {k : Nat} {w : Cond} (h : tables_1[k]? = some w) : w ∈ lw_tbl := List.mem_append_right _ (List.mem_of_getElem? h)
theorem nest_in : ∀ q ∈ nestL, Cond.methodLinkNest q.1 q.2.1 q.2.2.1 q.2.2.2 ∈ lw_tbl := by
  intro q hq
  unfold nestL at hq
  rcases List.mem_cons.mp hq with e | hq
  · rw [e]; exact lw_in (k := 39) (by decide +kernel)
  rcases List.mem_cons.mp hq with e | hq
  · rw [e]; exact lw_in (k := 70) (by decide +kernel)
  rcases List.mem_cons.mp hq with e | hq
  · rw [e]; exact lw_in (k := 86) (by decide +kernel)
  rcases List.mem_cons.mp hq with e | hq
  · rw [e]; exact lw_in (k := 119) (by decide +kernel)
  rcases List.mem_cons.mp hq with e | hq
  · rw [e]; exact lw_in (k := 159) (by decide +kernel)
  rcases List.mem_cons.mp hq with e | hq
  · rw [e]; exact lw_in (k := 249) (by decide +kernel)
  rcases List.mem_cons.mp hq with e | hq
  · rw [e]; exact lw_in (k := 285) (by decide +kernel)
  rcases List.mem_cons.mp hq with e | hq
  · rw [e]; exact lw_in (k := 362) (by decide +kernel)
  rcases List.mem_cons.mp hq with e | hq
  · rw [e]; exact lw_in (k := 368) (by decide +kernel)
  rcases List.mem_cons.mp hq with e | hq
  · rw [e]; exact lw_in (k := 529) (by decide +kernel)
  rcases List.mem_cons.mp hq with e | hq
  · rw [e]; exact lw_in (k := 629) (by decide +kernel)
  rcases List.mem_cons.mp hq with e | hq
  · rw [e]; exact lw_in (k := 702) (by decide +kernel)
  rcases List.mem_cons.mp hq with e | hq
  · rw [e]; exact lw_in (k := 707) (by decide +kernel)
  rcases List.mem_cons.mp hq with e | hq
  · rw [e]; exact lw_in (k := 749) (by decide +kernel)
  rcases List.mem_cons.mp hq with e | hq
  · rw [e]; exact lw_in (k := 778) (by decide +kernel)
  cases hq
def tmS : Nat → Term := fun i => match i with
  | 0 => .string "GiftOffice" 88
  | 1 => .string "GiftOffice$Tape" 80
  | _ => .string "GiftOffice$Tape" 82
def lenS : List Nat := [strL0.length, strL1.length, strL2.length]
def bytS : List (List Int32) := [strL0.map Int32.ofInt, strL1.map Int32.ofInt, strL2.map Int32.ofInt]
theorem getD_ofI (l : List Int) (j : Nat) : (l.map Int32.ofInt).getD j 0 = Int32.ofInt (strF l j) := by
  unfold strF
  rw [List.getD_eq_getElem?_getD, List.getD_eq_getElem?_getD, List.getElem?_map]
  cases l[j]? <;> rfl
theorem elS : ∀ i : Nat, i < 3 → ∀ j : Nat, j < lenS.getD i 0 → (Cond.eq (.elem (.field (tmS i) "java/lang/String" "value" "[B") (.int (Int32.ofNat j))) (.int ((bytS.getD i []).getD j 0))) ∈ flatC (Jvm.Cond.and given_1 narrow_1) := by decide +kernel
theorem arrS {args : Array Value} {s : State} {A : Nat → Prop} (nm : String) (l : List Int) (hl : l.length = 6) (hlay : (Cond.laysStatic "GiftOffice" nm "[I").before args s = true) (hini : (Cond.initialized "GiftOffice").before args s = true) (h1 : (Cond.arrayOf (.static "GiftOffice" nm "[I") .int).before args s = true) (h2 : (Cond.eq (.length (.static "GiftOffice" nm "[I")) (.int 6)).before args s = true)
    (h3 : ∀ j : Nat, j < 6 → (Cond.eq (.elem (.static "GiftOffice" nm "[I") (.int (Int32.ofNat j))) (.int (Int32.ofInt (strF l j)))).before args s = true) (hA : ∀ a : Nat, a < s.heap.size → ¬ A a) : ∃ t : Nat, va_T .int t 6 (fun j => .int (Int32.ofInt (strF l j))) A s s.heap ∧ va_Z "GiftOffice" nm "[I" (.ref t) A s s.heap := by
  obtain ⟨t, ht, hT⟩ := va_Tof (f := fun j => .int (Int32.ofInt (strF l j))) (A := A) (N := 6) (by decide) h1 (va_eqt h2) (fun j hj => va_eqt (h3 j hj)) hA
  exact ⟨t, hT, va_Zof hlay hini ht hA⟩
set_option maxHeartbeats 4000000 in
set_option maxRecDepth 100000 in
/-- YOUR PART: from the entry, for every script of at most 3584 ints, the law comes to its end with true ('hflags': the launch's flags, for a law that throws: no stack traces) -/
theorem whole_start {p : Program} {e : Env} {s : State} {m : MethodId} {below : List Frame} {meth : Method} {c : Code} (l : Launch) (hflags : l.flags = flags0) {b L : Nat} {xs : Nat → Int32} (hL : L ≤ 3584) (C0 : lw_At p s m meth c b L xs) : W p l e room_1 s m #[Value.ref b] below meth c s.heap [] 0 0 (lw_Z below #[Value.ref b] s) (entryFrame m ([Value.ref b] : List Value).toArray 4) := by
  obtain ⟨hx, hb, hr, hml, hown, hts, hX, hbl, hlocks, hgv⟩ := id C0
  have hA : ∀ a : Nat, a < s.heap.size → ¬ (fun q : Nat => s.heap.size ≤ q) a := fun a h => Nat.not_le.mpr h
  have hs := flat_of_before _ hgv
  -- the classes
  obtain ⟨c0, iS0, hKn0⟩ := u_known (C := RX0) (T := TX0) (N := 12) (n := 12) (fun w hw => hts w (List.mem_filter.mp hw).1) uX0 (hts _ (List.mem_filter.mp (inX0 (g := gq ((fun _ => 0, fun _ _ => 0), 0, fun _ => 0, 0, fun _ => 0, 0)))).1)
  obtain ⟨c1, iS1, hKn1⟩ := u_known (C := RX1) (T := TX1) (N := 11) (n := 11) (fun w hw => hts w (List.mem_filter.mp hw).1) uX1 (hts _ (List.mem_filter.mp (inX1 (g := gq ((fun _ => 0, fun _ _ => 0), 0, fun _ => 0, 0, fun _ => 0, 0)))).1)
  obtain ⟨c2, iS2, hKn2⟩ := u_known (C := RX2) (T := TX2) (N := 5) (n := 5) (fun w hw => hts w (List.mem_filter.mp hw).1) uX2 (hts _ (List.mem_filter.mp (inX2 (g := gq ((fun _ => 0, fun _ _ => 0), 0, fun _ => 0, 0, fun _ => 0, 0)))).1)
  obtain ⟨c3, iS3, hKn3⟩ := u_known (C := RX3) (T := TX3) (N := 9) (n := 9) (fun w hw => hts w (List.mem_filter.mp hw).1) uX3 (hts _ (List.mem_filter.mp (inX3 (g := gq ((fun _ => 0, fun _ _ => 0), 0, fun _ => 0, 0, fun _ => 0, 0)))).1)
  obtain ⟨c4, iS4, hKn4⟩ := u_known (C := RX4) (T := TX4) (N := 8) (n := 8) (fun w hw => hts w (List.mem_filter.mp hw).1) uX4 (hts _ (List.mem_filter.mp (inX4 (g := gq ((fun _ => 0, fun _ _ => 0), 0, fun _ => 0, 0, fun _ => 0, 0)))).1)
  obtain ⟨c5, iS5, hKn5⟩ := u_known (C := RX5) (T := TX5) (N := 3) (n := 3) (fun w hw => hts w (List.mem_filter.mp hw).1) uX5 (hts _ (List.mem_filter.mp (inX5 (g := gq ((fun _ => 0, fun _ _ => 0), 0, fun _ => 0, 0, fun _ => 0, 0)))).1)
  obtain ⟨c6, iS6, hKn6⟩ := u_known (C := RX6) (T := TX6) (N := 5) (n := 5) (fun w hw => hts w (List.mem_filter.mp hw).1) uX6 (hts _ (List.mem_filter.mp (inX6 (g := gq ((fun _ => 0, fun _ _ => 0), 0, fun _ => 0, 0, fun _ => 0, 0)))).1)
  obtain ⟨c7, iS7, hKn7⟩ := u_known (C := RX7) (T := TX7) (N := 8) (n := 8) (fun w hw => hts w (List.mem_filter.mp hw).1) uX7 (hts _ (List.mem_filter.mp (inX7 (g := gq ((fun _ => 0, fun _ _ => 0), 0, fun _ => 0, 0, fun _ => 0, 0)))).1)
  obtain ⟨c8, iS8, hKn8⟩ := u_known (C := RX8) (T := TX8) (N := 3) (n := 3) (fun w hw => hts w (List.mem_filter.mp hw).1) uX8 (hts _ (List.mem_filter.mp (inX8 (g := gq ((fun _ => 0, fun _ _ => 0), 0, fun _ => 0, 0, fun _ => 0, 0)))).1)
  obtain ⟨c9, iS9, hKn9⟩ := u_known (C := RX9) (T := TX9) (N := 7) (n := 7) (fun w hw => hts w (List.mem_filter.mp hw).1) uX9 (hts _ (List.mem_filter.mp (inX9 (g := gq ((fun _ => 0, fun _ _ => 0), 0, fun _ => 0, 0, fun _ => 0, 0)))).1)
  obtain ⟨c10, iS10, hKn10⟩ := u_known (C := RX10) (T := TX10) (N := 5) (n := 5) (fun w hw => hts w (List.mem_filter.mp hw).1) uX10 (hts _ (List.mem_filter.mp (inX10 (g := gq ((fun _ => 0, fun _ _ => 0), 0, fun _ => 0, 0, fun _ => 0, 0)))).1)
  obtain ⟨c11, iS11, hKn11⟩ := u_known (C := RX11) (T := TX11) (N := 16) (n := 16) (fun w hw => hts w (List.mem_filter.mp hw).1) uX11 (hts _ (List.mem_filter.mp (inX11 (g := gq ((fun _ => 0, fun _ _ => 0), 0, fun _ => 0, 0, fun _ => 0, 0)))).1)
  obtain ⟨c12, iS12, hKn12⟩ := u_known (C := RX12) (T := TX12) (N := 56) (n := 56) (fun w hw => hts w (List.mem_filter.mp hw).1) uX12 (hts _ (List.mem_filter.mp (inX12 (g := gq ((fun _ => 0, fun _ _ => 0), 0, fun _ => 0, 0, fun _ => 0, 0)))).1)
  obtain ⟨dC, dI, hKc⟩ : ∃ (dC : Nat → ClassId) (dI : Nat → Nat → Nat), ∀ (k : Nat) (q : vw_C), vwCl[k]? = some q → u_Kn s q.1 q.2.1 q.2.2 (dC k) (dI k) := by
    refine ⟨fun k => if k = 0 then c0 else (if k = 1 then c1 else (if k = 2 then c2 else (if k = 3 then c3 else (if k = 4 then c4 else (if k = 5 then c5 else (if k = 6 then c6 else (if k = 7 then c7 else (if k = 8 then c8 else (if k = 9 then c9 else (if k = 10 then c10 else (if k = 11 then c11 else (c12)))))))))))), fun k => if k = 0 then iS0 else (if k = 1 then iS1 else (if k = 2 then iS2 else (if k = 3 then iS3 else (if k = 4 then iS4 else (if k = 5 then iS5 else (if k = 6 then iS6 else (if k = 7 then iS7 else (if k = 8 then iS8 else (if k = 9 then iS9 else (if k = 10 then iS10 else (if k = 11 then iS11 else (iS12)))))))))))), ?_⟩
    intro k q hq
    match k, hq with
    | 0, hq => cases hq; exact hKn0
    | 1, hq => cases hq; exact hKn1
    | 2, hq => cases hq; exact hKn2
    | 3, hq => cases hq; exact hKn3
    | 4, hq => cases hq; exact hKn4
    | 5, hq => cases hq; exact hKn5
    | 6, hq => cases hq; exact hKn6
    | 7, hq => cases hq; exact hKn7
    | 8, hq => cases hq; exact hKn8
    | 9, hq => cases hq; exact hKn9
    | 10, hq => cases hq; exact hKn10
    | 11, hq => cases hq; exact hKn11
    | 12, hq => cases hq; exact hKn12
    | k + 13, hq => exact absurd (List.getElem?_eq_some_iff.mp hq).1 (by show ¬ k + 13 < 13; omega)
  -- the statics
  obtain ⟨tA, hTA, hZA⟩ := arrS (args := #[Value.ref b]) (s := s) (A := fun q : Nat => s.heap.size ≤ q) "KIND_ABOVE" aboveL rfl (hts _ (lw_in (k := 983) (by decide +kernel))) (hts _ (lw_in (k := 1) (by decide +kernel))) (hs _ (by decide +kernel)) (hs _ (by decide +kernel)) (fun j hj => hs _ ((show ∀ j : Nat, j < 6 → (Cond.eq (.elem (.static "GiftOffice" "KIND_ABOVE" "[I") (.int (Int32.ofNat j))) (.int (Int32.ofInt (strF aboveL j)))) ∈ flatC (Jvm.Cond.and given_1 narrow_1) by decide +kernel) j hj)) hA
  obtain ⟨tN, hTN, hZN⟩ := arrS (args := #[Value.ref b]) (s := s) (A := fun q : Nat => s.heap.size ≤ q) "KIND_NEED" needL rfl (hts _ (lw_in (k := 656) (by decide +kernel))) (hts _ (lw_in (k := 1) (by decide +kernel))) (hs _ (by decide +kernel)) (hs _ (by decide +kernel)) (fun j hj => hs _ ((show ∀ j : Nat, j < 6 → (Cond.eq (.elem (.static "GiftOffice" "KIND_NEED" "[I") (.int (Int32.ofNat j))) (.int (Int32.ofInt (strF needL j)))) ∈ flatC (Jvm.Cond.and given_1 narrow_1) by decide +kernel) j hj)) hA
  have hZC : va_Z "java/lang/String" "COMPACT_STRINGS" "Z" (.int 1) (fun q : Nat => s.heap.size ≤ q) s s.heap := va_Zof (hts _ (lw_in (k := 205) (by decide +kernel))) (hts _ (lw_in (k := 7) (by decide +kernel))) (va_eqi (hs _ (by decide +kernel))) hA
  have hZF := va_Zqof (args := #[Value.ref b]) (s := s) (C := "jdk/internal/util/Preconditions") (n := "SIOOBE_FORMATTER") (d := "Ljava/util/function/BiFunction;") (A := fun q : Nat => s.heap.size ≤ q) (hts _ (lw_in (k := 221) (by decide +kernel))) (hts _ (lw_in (k := 9) (by decide +kernel))) (hs _ (by decide +kernel)) hA
  obtain ⟨fm, tF, hfm, hZF⟩ : ∃ (fm : Int) (tF : Nat), (fm = -40 ∨ fm = -1) ∧ va_Z "jdk/internal/util/Preconditions" "SIOOBE_FORMATTER" "Ljava/util/function/BiFunction;" (va_rf (if fm = -1 then none else some tF)) (fun q : Nat => s.heap.size ≤ q) s s.heap := by
    rcases hZF with h | ⟨t, h⟩
    · exact ⟨-1, 0, Or.inr rfl, h⟩
    · exact ⟨-40, t, Or.inl rfl, h⟩
  -- the texts
  obtain ⟨adK, adV, hSS, hev⟩ := vk_Sof (args := #[Value.ref b]) (s := s) (N := 3) (tm := tmS) (len := lenS) (byt := bytS) (A := fun q : Nat => s.heap.size ≤ q) (by decide +kernel)
    (fun i hi => hs _ ((show ∀ i : Nat, i < 3 → Cond.exactly (tmS i) "java/lang/String" ∈ flatC (Jvm.Cond.and given_1 narrow_1) by decide +kernel) i hi))
    (fun i hi => hs _ ((show ∀ i : Nat, i < 3 → Cond.eq (.field (tmS i) "java/lang/String" "coder" "B") (.int 0) ∈ flatC (Jvm.Cond.and given_1 narrow_1) by decide +kernel) i hi))
    (fun i hi => hs _ ((show ∀ i : Nat, i < 3 → Cond.arrayOf (.field (tmS i) "java/lang/String" "value" "[B") .byte ∈ flatC (Jvm.Cond.and given_1 narrow_1) by decide +kernel) i hi))
    (fun i hi => hs _ ((show ∀ i : Nat, i < 3 → Cond.eq (.length (.field (tmS i) "java/lang/String" "value" "[B")) (.int (Int32.ofNat (lenS.getD i 0))) ∈ flatC (Jvm.Cond.and given_1 narrow_1) by decide +kernel) i hi))
    (fun i hi j hj => hs _ (elS i hi j hj))
    (fun i j hi hj hij => (show ∀ i : Nat, i < 3 → ∀ j : Nat, j < 3 → i ≠ j → Cond.not (Cond.eq (tmS i) (tmS j)) ∈ flatC (Jvm.Cond.and given_1 narrow_1) ∨ Cond.not (Cond.eq (tmS j) (tmS i)) ∈ flatC (Jvm.Cond.and given_1 narrow_1) by decide +kernel) i hi j hj hij |>.imp (hs _) (hs _)) hA
  obtain ⟨adr, hadr⟩ : ∃ adr : Int → Nat, adr = fun a => if a = -10 then b else if a = -11 then tA else if a = -12 then tN else if a = -20 then adK 0 else if a = -21 then adK 1 else if a = -22 then adK 2 else if a = -30 then adV 0 else if a = -31 then adV 1 else if a = -32 then adV 2 else tF := ⟨_, rfl⟩
  obtain ⟨u, hu⟩ : ∃ u : gT, u = ((dC, dI), s.heap.size, adr, L, (fun j => (xs j).toInt), fm) := ⟨_, rfl⟩
  have hRO : xRO (gX (gq u)) s s.heap := by
    rw [hu]
    refine ⟨fun a ty N f hh => ?_, fun C n d v hv => ?_, fun own k tx a hv => ?_, fun a n d v hv => ?_, fun a ha => ?_, fun C hC => ?_, fun own k y host hn => ?_⟩
    · have hh : roArr L (fun j => (xs j).toInt) a = some (ty, N, f) := hh
      show va_T ty (adr a) N _ (fun q : Nat => s.heap.size ≤ q) s s.heap ∧ _
      rw [hadr]
      unfold roArr at hh
      by_cases e1 : a = -10
      · rw [if_pos e1] at hh
        cases hh
        dsimp only
        rw [if_pos e1]
        obtain ⟨scr, g1, g2, g3, g4, g5⟩ := hX
        exact ⟨⟨scr, g1, g2, g3, by omega, by rw [g4] <;> rfl, fun j hj => by rw [g5 j hj]; show some (Value.int (xs j)) = some (Value.int (Int32.ofInt (xs j).toInt)); rw [Int32.ofInt_toInt], Nat.not_le.mpr hbl⟩, by omega⟩
      rw [if_neg e1] at hh
      by_cases e2 : a = -11
      · rw [if_pos e2] at hh
        cases hh
        dsimp only
        rw [if_neg e1, if_pos e2]
        exact ⟨hTA, by decide⟩
      rw [if_neg e2] at hh
      by_cases e3 : a = -12
      · rw [if_pos e3] at hh
        cases hh
        dsimp only
        rw [if_neg e1, if_neg e2, if_pos e3]
        exact ⟨hTN, by decide⟩
      rw [if_neg e3] at hh
      by_cases f0 : a = -30
      · rw [if_pos f0] at hh
        cases hh
        dsimp only
        rw [if_neg e1, if_neg e2, if_neg e3, if_neg (by omega), if_neg (by omega), if_neg (by omega), if_pos f0]
        have hT := (hSS.1 0 (by decide)).2.2.2
        have e4 : (fun j => Value.int ((bytS.getD 0 []).getD j 0)) = fun j => Value.int (Int32.ofInt (strF strL0 j)) := by funext j; rw [← getD_ofI]; rfl
        rw [e4] at hT
        exact ⟨hT, by decide⟩
      rw [if_neg f0] at hh
      by_cases f1 : a = -31
      · rw [if_pos f1] at hh
        cases hh
        dsimp only
        rw [if_neg e1, if_neg e2, if_neg e3, if_neg (by omega), if_neg (by omega), if_neg (by omega), if_neg f0, if_pos f1]
        have hT := (hSS.1 1 (by decide)).2.2.2
        have e4 : (fun j => Value.int ((bytS.getD 1 []).getD j 0)) = fun j => Value.int (Int32.ofInt (strF strL1 j)) := by funext j; rw [← getD_ofI]; rfl
        rw [e4] at hT
        exact ⟨hT, by decide⟩
      rw [if_neg f1] at hh
      by_cases f2 : a = -32
      · rw [if_pos f2] at hh
        cases hh
        dsimp only
        rw [if_neg e1, if_neg e2, if_neg e3, if_neg (by omega), if_neg (by omega), if_neg (by omega), if_neg f0, if_neg f1, if_pos f2]
        have hT := (hSS.1 2 (by decide)).2.2.2
        have e4 : (fun j => Value.int ((bytS.getD 2 []).getD j 0)) = fun j => Value.int (Int32.ofInt (strF strL2 j)) := by funext j; rw [← getD_ofI]; rfl
        rw [e4] at hT
        exact ⟨hT, by decide⟩
      rw [if_neg f2] at hh
      cases hh
    · show va_Z C n d (enV adr v) (fun q : Nat => s.heap.size ≤ q) s s.heap
      have hv : (C, n, d, v) ∈ roStat fm := hv
      unfold roStat at hv
      rcases List.mem_cons.mp hv with q | hv
      · cases q; rw [hadr]; exact hZA
      rcases List.mem_cons.mp hv with q | hv
      · cases q; rw [hadr]; exact hZN
      rcases List.mem_cons.mp hv with q | hv
      · cases q; exact hZC
      rcases List.mem_cons.mp hv with q | hv
      · cases q
        rw [hadr]
        rcases hfm with rfl | rfl
        · exact hZF
        · exact hZF
      · cases hv
    · show vk_R own k tx (adr a) s ∧ a ≤ -10
      have hv : (own, k, tx, a) ∈ roLit := hv
      unfold roLit at hv
      rcases List.mem_cons.mp hv with q | hv
      · cases q; rw [hadr]; exact ⟨vk_R.of (hts _ (lw_in (k := 191) (by decide +kernel))) (hev 0 (by decide)), by decide⟩
      rcases List.mem_cons.mp hv with q | hv
      · cases q; rw [hadr]; exact ⟨vk_R.of (hts _ (lw_in (k := 303) (by decide +kernel))) (hev 1 (by decide)), by decide⟩
      rcases List.mem_cons.mp hv with q | hv
      · cases q; rw [hadr]; exact ⟨vk_R.of (hts _ (lw_in (k := 299) (by decide +kernel))) (hev 2 (by decide)), by decide⟩
      · cases hv
    · show va_OF "java/lang/String" n d (enV adr v) (adr a) (fun q : Nat => s.heap.size ≤ q) s s.heap
      have hv : (a, n, d, v) ∈ roFld := hv
      unfold roFld at hv
      rcases List.mem_cons.mp hv with q | hv
      · cases q; rw [hadr]; exact (hSS.1 0 (by decide)).2.2.1
      rcases List.mem_cons.mp hv with q | hv
      · cases q; rw [hadr]; exact (hSS.1 0 (by decide)).2.1
      rcases List.mem_cons.mp hv with q | hv
      · cases q; rw [hadr]; exact (hSS.1 1 (by decide)).2.2.1
      rcases List.mem_cons.mp hv with q | hv
      · cases q; rw [hadr]; exact (hSS.1 1 (by decide)).2.1
      rcases List.mem_cons.mp hv with q | hv
      · cases q; rw [hadr]; exact (hSS.1 2 (by decide)).2.2.1
      rcases List.mem_cons.mp hv with q | hv
      · cases q; rw [hadr]; exact (hSS.1 2 (by decide)).2.1
      · cases hv
    · show va_O "java/lang/String" (adr a) (fun q : Nat => s.heap.size ≤ q) s s.heap
      have ha : a ∈ ([-20, -21, -22] : List Int) := ha
      rcases List.mem_cons.mp ha with q | ha
      · cases q; rw [hadr]; exact (hSS.1 0 (by decide)).1
      rcases List.mem_cons.mp ha with q | ha
      · cases q; rw [hadr]; exact (hSS.1 1 (by decide)).1
      rcases List.mem_cons.mp ha with q | ha
      · cases q; rw [hadr]; exact (hSS.1 2 (by decide)).1
      · cases ha
    · have hC : C ∈ (["GiftOffice$Fund", "GiftOffice$Reader", "GiftOffice$Asking", "GiftOffice$Text", "GiftOffice$Sheet"] : List String) := hC
      rcases List.mem_cons.mp hC with q | hC
      · cases q; exact va_AO.of (hts _ (lw_in (k := 28) (by decide +kernel)))
      rcases List.mem_cons.mp hC with q | hC
      · cases q; exact va_AO.of (hts _ (lw_in (k := 30) (by decide +kernel)))
      rcases List.mem_cons.mp hC with q | hC
      · cases q; exact va_AO.of (hts _ (lw_in (k := 32) (by decide +kernel)))
      rcases List.mem_cons.mp hC with q | hC
      · cases q; exact va_AO.of (hts _ (lw_in (k := 34) (by decide +kernel)))
      rcases List.mem_cons.mp hC with q | hC
      · cases q; exact va_AO.of (hts _ (lw_in (k := 36) (by decide +kernel)))
      · cases hC
    · have hn : (own, k, y, host) ∈ nestL := hn
      have key : ∀ q ∈ nestL, Cond.methodLinkNest q.1 q.2.1 q.2.2.1 q.2.2.2 ∈ lw_tbl := nest_in
      exact va_Nw.of rfl (hts _ (key _ hn))
  have hAct : mAct (gX (gq u)) ML_law 2048 p room_1 s m #[Value.ref b] meth c := ⟨hx, hb, hml, hown, fun w hw => hts w (List.mem_filter.mp hw).1, hr, hlocks, fun q => absurd q (by decide), Nat.le_refl _, by show 41 * 2048 ≤ 84000; omega, hRO, by rw [hu]; exact Nat.le_refl _, gX_ok _⟩
  have hR : mRel (gX (gq u)) s adr h00 s.heap := by
    have z : ∀ a : Int, 0 ≤ a → h00 a (-1) = 0 := fun a ha => if_neg (fun q => by omega)
    refine ⟨[], [], ⟨by rw [hu]; exact hKc, fun k q h => by simp at h⟩, fun k q h => by simp at h, ⟨fun i j p q h => by simp at h, fun k q h => by simp at h⟩, fun a ha hz => absurd (z a ha) hz, fun a b ha _ hz => absurd (z a ha) hz, fun a ha => ⟨⟨fun hz => Decidable.byContradiction fun q => hz (if_neg (fun w => q w.1)), fun hz => by unfold h00; rw [if_pos ⟨hz, rfl⟩]; decide⟩, fun _ => by rw [hu]⟩, fun a k ha hz => absurd (z a ha) hz⟩
  have hl := lv_entry ([.ref b]) (n := 4) (Nat.le_of_ble_eq_true rfl)
  rw [lg_entry_eq]
  generalize (lg_sl ([.ref b]) ++ List.replicate (4 - (lg_sl ([.ref b])).length) Slot.unset).toArray = ls at hl ⊢
  have hLoc : mLoc adr h00 4 ls [(2, -10), (9, 0), (9, 0), (9, 0)] := by
    refine ⟨⟨hl.1, hl.2.1, fun _ hq => absurd hq List.not_mem_nil⟩, rfl, fun i v hv ht => ?_⟩
    match i, hv with
    | 0, hv =>
      cases hv
      refine ⟨?_, t23, fun _ => Or.inr (by decide)⟩
      have e1 : enV adr (2, -10) = .ref b := by rw [hadr]; rfl
      rw [e1]
      exact hl.2.2 (0, .ref b) List.mem_cons_self
    | 1, hv => cases hv; exact absurd ht (by decide)
    | 2, hv => cases hv; exact absurd ht (by decide)
    | 3, hv => cases hv; exact absurd ht (by decide)
    | i + 4, hv => simp at hv
  refine law_out (X := gX (gq u)) (by rw [hu]) hAct hR hLoc ?_
  refine law_main u (by rw [hu]; exact hL) (fun j => by rw [hu]; show InI (xs j).toInt; exact ⟨by have := (xs j).le_toInt; omega, by have := (xs j).toInt_lt; omega⟩) ?_
  rw [hu]
  rcases hfm with q | q
  · exact Or.inl (by show fm ≤ -10; omega)
  · exact Or.inr q
-- ===== YOUR PART ENDS =====
set_option maxHeartbeats 4000000 in
theorem lw_walk (l : Launch) (hflags : l.flags = flags0) (b : Addr) (xs : List Int32) : MetFree l x (headSpec (Jvm.Cond.code x code maxLocals ret :: tables_1) room_1) (lw_P b xs) (fun _ _ _ _ _ => True) lw_Q := by
  refine MetFree.of_bodyS (code := code) (maxLocals := maxLocals) (ret := ret) (by decide) ?_ ?_
  · intro args s m h hn
    obtain ⟨meth, c, h1, h2, h3, h4, h5, h6, -, -⟩ := Cond.code_spec hn (atoms_spec (ws := Jvm.Cond.code x code maxLocals ret :: tables_1) h _ List.mem_cons_self)
    exact ⟨meth, c, h1, h2, h3, h4, h5, h6⟩
  · intro p e s m args below meth c s₁ B hml0 hP _
    obtain ⟨rfl, hx, hbd, hgv⟩ := hP
    obtain ⟨scr, harrAt, hlist, hof, hsmall⟩ := hx
    obtain ⟨hcb, hkn, -, -⟩ := State.arrayAt?_spec harrAt
    have hown : s.vm.findClass R_law = some m.cls := findClass_of_methodNamed B.named
    have hts0 : ∀ c ∈ (Jvm.Cond.code x code maxLocals ret :: tables_1), c.before #[Value.ref b] s = true := atoms_spec (ws := Jvm.Cond.code x code maxLocals ret :: tables_1) B.pre
    have hts : ∀ w ∈ lw_tbl, w.before #[Value.ref b] s = true := k2_hts_sels lw_privs (fun w hw => hts0 w (List.mem_cons_of_mem _ hw)) lw_privs_ok
    have hml : c.maxLocals = 4 := B.maxLocals_eq (hts0 _ List.mem_cons_self)
    have X₀ : Stand p l e room_1 s m #[Value.ref b] below meth c s₁ [] 0 0 := Stand.of_body B
    have hh0 : s₁.heap = s.heap := by rw [B.state]; rfl
    have hsz : scr.slots.size = xs.length := by rw [← Array.length_toList, hlist, List.length_map]
    have hval : ∀ j : Nat, j < xs.length → scr.slots[j]? = some (.int (xs.getD j 0)) := fun j hj => by
      rw [← Array.getElem?_toList, hlist]
      simp [hj]
    have hbl : b < s.heap.size := (Array.getElem?_eq_some_iff.mp hcb).1
    have hX : va_X b xs.length (fun j => xs.getD j 0) s s.heap := ⟨scr, hcb, hof, hkn, hsz, hval⟩
    have K : W p l e room_1 s m #[Value.ref b] below meth c s₁.heap [] 0 0 (lw_Z below #[Value.ref b] s) (entryFrame m ([Value.ref b] : List Value).toArray 4) := by
      rw [hh0]
      exact whole_start l hflags hbd ⟨B.exec, B.bytes, B.returns, hml, hown, hts, hX, hbl, B.notSynchronized, hgv⟩
    obtain ⟨t, a1, o, b1, b2, b3⟩ := K s₁ rfl X₀
    exact ⟨t, o, a1, b1, b2, b3⟩
theorem lw_pre_spec {args : Array Value} {s : State} (h : (Jvm.Cond.and given_1 narrow_1).before args s = true) (hr : rest_1_c.before args s = true) : ∃ (b : Addr) (xs : List Int32), lw_P b xs args s := by
  have hs := flat_of_before _ h
  have hq := flat_of_before _ hr
  have hc : (Cond.count 1).before args s = true := hs _ (by decide +kernel)
  have harr : (Cond.arrayOf (.arg 0) .int).before args s = true := hs _ (by decide +kernel)
  have hle : (Cond.le (.length (.arg 0)) (.int 3584)).before args s = true := hs _ (by decide +kernel)
  have hlen : (Cond.isInt (.length (.arg 0))).before args s = true := hq _ (by decide +kernel)
  have hall : (Cond.all (.arg 0) (.isInt (.elem (.arg 0) (.index 0)))).before args s = true := hq _ (by decide +kernel)
  obtain ⟨b, xs, hb, hx⟩ := State.ints_of_pre rfl harr hlen hall
  have hsm : xs.length < 2 ^ 31 := hx.choose_spec.2.2.2
  have hev : (Term.length (.arg 0)).eval args s none [] s = some (.int xs.length.toInt32) := hx.length_eval hb
  have hv := Cond.le_ints hev (show (Term.int 3584).eval args s none [] s = some (.int 3584) from rfl)
  have hd : xs.length.toInt32 ≤ 3584 := by
    simpa [Cond.before, Cond.holds, hv] using hle
  have hN : xs.length ≤ 3584 := (Int32.ofNat_le_ofNat hsm (by decide)).mp (show Int32.ofNat xs.length ≤ Int32.ofNat 3584 from hd)
  exact ⟨b, xs, Cond.one_arg hc (show args[0]? = some (.ref b) from hb), hx, hN, h⟩
theorem lw_comes (l : Launch) (hflags : l.flags = flags0) : Comes l x (Jvm.Cond.code x code maxLocals ret :: tables_1) room_1 (fun tb e args s => Calls_1 tb e args s ∧ rest_1 tb e args s ∧ Pre_1 tb e args s)
    (fun _ _ args s o t => lw_Q args s o t) := by
  intro p e ha hc hk s m args below hf hfit hheap happ hpre
  obtain ⟨b, xs, hP⟩ := lw_pre_spec hpre.2.2 hpre.2.1
  obtain ⟨k, o, h1, h2, h3, hQ⟩ := lw_walk l hflags b xs p e ha hc hk s m args below hf ((Spec.applies_iff_loose hf).mp happ).1 hP trivial
  exact ⟨k, o, h1, h2, h3, hQ⟩
theorem lw_frame {s t : State} {o : Outcome} {args : Array Value} (h : Framed s o t [] 600000 7302250) :
    Framed s o t (fieldLocs frame_1_writes args s ++ arrayLocs frame_1_arrays args s ++ staticLocs frame_1_statics s) 600000 7302250 := h
theorem lw_limb (L : Cond) (hL : ∀ (args : Array Value) (s t : State), L.after args s (.returned (some (.int 1))) t = true) :
    ArmFor flags0 classFile x code maxLocals ret World_1 tables_1 room_1 Calls_1 rest_1 Pre_1
      (fun tb e a s o t => postC L tb e a s o t ∧ Framed s o t (fieldLocs frame_1_writes a s ++ arrayLocs frame_1_arrays a s ++ staticLocs frame_1_statics s) 600000 7302250) := by
  intro l hflags _ _ p e ha hc hk s m args below hf hfit hheap happ hpre
  obtain ⟨k, o, h1, h2, h3, rfl, hF⟩ := lw_comes l hflags p e ha hc hk s m args below hf hfit hheap happ hpre
  exact ⟨k, _, h1, h2, h3, hL args s _, lw_frame hF⟩
theorem i_vc : Claimed_1_1 ∧ Claimed_1_2 := ⟨lw_limb limb_1_1 (fun args s t => by simp [limb_1_1, Cond.after, Cond.holds, Cond.value]), lw_limb limb_1_2 (fun args s t => Cond.after_iff.mpr (by
  first | (rw [show limb_1_2 = Cond.eq .result (.int 1) from rfl, Cond.eq_ints (x := 1) (y := 1) rfl rfl]; simp; done) | (simp [limb_1_2, Cond.value, Term.eval]; done)))⟩
