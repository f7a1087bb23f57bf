/-! ===== ask: the class and the reference ===== -/
def asC (G : gG) (h : mH) (N k ho o t s dd ru : Int) : mH := (up2 (up2 (up2 (up2 (up2 (up2 (up2 (up2 (up2 (up2 (nwh (gX G) (nwh (gX G) h (120 + N) 1 0) (140 + N) 20 8) (120 + N) 7 (140 + N)) (120 + N) 0 k) (120 + N) 1 ho) (120 + N) 2 o) (120 + N) 3 t) (120 + N) 4 s) (120 + N) 5 dd) (120 + N) 6 ru) 4 N (120 + N)) 1 13 (N + 1))
def asR (h : mH) (N k ho o t s dd ru : Int) : mH := (up2 (hsr (up2 (up2 (up2 (up2 (up2 (up2 (up2 (up2 h 211 N k) 212 N ho) 213 N o) 214 N t) 215 N s) 216 N dd) 217 N ru) 221 N (-1)) 220 (8 * N) (8 * N + 8) (-1)) 200 10 (N + 1))
def fQ (k s t dd : Int) : Int → Int := fun i => if i = 0 then k else if i = 1 then s else if i = 2 then t else if i = 3 then dd else 0
abbrev asP (k ho o t s dd : Int) : Prop := (0 ≤ k ∧ k ≤ 5) ∧ (0 ≤ ho ∧ ho ≤ 9) ∧ (k = 3 → 0 ≤ o ∧ o ≤ 9) ∧ (0 ≤ t ∧ t ≤ 5) ∧ (1 ≤ s ∧ s ≤ 9999) ∧ (0 ≤ dd ∧ dd ≤ 999)
abbrev asT (m : mH) (k s t dd : Int) : Int := txV m (m 200 31) 0 (fQ k s t dd)
def askV (m : mH) (k ho o t s dd : Int) : Int := if ¬ asP k ho o t s dd then -2 else if asT m k s t dd = 0 then -3 else if m 200 10 = 14 then -4 else m 200 10
def askM (G : gG) (m : mH) (k ho o t s dd : Int) : mH := if asP k ho o t s dd ∧ asT m k s t dd ≠ 0 ∧ m 200 10 ≠ 14 then asR (asC G m (m 200 10) k ho (if k = 3 then o else -1) t s dd (m 200 31)) (m 200 10) k ho (if k = 3 then o else -1) t s dd (m 200 31) else m
theorem Cl.nw {G : gG} {h m : mH} (e : Cl h m) (a z n : Int) : Cl (nwh (gX G) h a z n) (nwh (gX G) m a z n) := by
  intro x k q
  by_cases c : x = a
  · rw [c, nwh_eq, nwh_eq]
  · rw [nwh_ne c, nwh_ne c]
    exact e x k q
theorem Cr.nwr {G : gG} {h m : mH} (e : Cr h m) {a : Int} (z n : Int) (ha : a < 200) : Cr h (nwh (gX G) m a z n) := by
  intro x k q
  rw [nwh_ne (by omega)]
  exact e x k q
theorem Cl.hsrr {h m : mH} (e : Cl h m) {a : Int} (lo n v : Int) (ha : 200 ≤ a) : Cl h (hsr m a lo n v) := by
  intro x k q
  rw [hsr_ne (Or.inl (by omega))]
  exact e x k q
theorem Cr.hsrc {h m : mH} (e : Cr h m) (a lo n v : Int) : Cr (hsr h a lo n v) (hsr m a lo n v) := by
  intro x k q
  unfold hsr
  split
  · rfl
  · exact e x k q
theorem asC_cl {G : gG} {h m : mH} (e : Cl h m) {N k ho o t s dd ru : Int} : Cl (asC G h N k ho o t s dd ru) (asC G m N k ho o t s dd ru) :=
  (((((((((((e.nw _ _ _).nw _ _ _).up _ _ _).up _ _ _).up _ _ _).up _ _ _).up _ _ _).up _ _ _).up _ _ _).up _ _ _).up _ _ _).up _ _ _
theorem asR_cl {h m : mH} (e : Cl h m) {N k ho o t s dd ru : Int} : Cl h (asR m N k ho o t s dd ru) :=
  (((((((((e.upr _ _ (by decide)).upr _ _ (by decide)).upr _ _ (by decide)).upr _ _ (by decide)).upr _ _ (by decide)).upr _ _ (by decide)).upr _ _ (by decide)).upr _ _ (by decide)).hsrr _ _ _ (by decide)).upr _ _ (by decide)
theorem asC_cr {G : gG} {h m : mH} (e : Cr h m) {N k ho o t s dd ru : Int} (n0 : N < 14) : Cr h (asC G m N k ho o t s dd ru) :=
  (((((((((((e.nwr _ _ (by omega)).nwr _ _ (by omega)).upl _ _ (by omega)).upl _ _ (by omega)).upl _ _ (by omega)).upl _ _ (by omega)).upl _ _ (by omega)).upl _ _ (by omega)).upl _ _ (by omega)).upl _ _ (by omega)).upl _ _ (by decide)).upl _ _ (by decide)
theorem asR_cr {h m : mH} (e : Cr h m) {N k ho o t s dd ru : Int} : Cr (asR h N k ho o t s dd ru) (asR m N k ho o t s dd ru) :=
  (((((((((e.up _ _ _).up _ _ _).up _ _ _).up _ _ _).up _ _ _).up _ _ _).up _ _ _).up _ _ _).hsrc _ _ _ _).up _ _ _
theorem asC_re {G : gG} {h : mH} {N k ho o t s dd ru : Int} (n0 : N < 14) : Re h (asC G h N k ho o t s dd ru) := by
  intro x y q
  unfold asC
  simp (disch := omega) only [up2_ne, nw_ne]
theorem asR_ce {h : mH} {N k ho o t s dd ru : Int} : Ce h (asR h N k ho o t s dd ru) := by
  intro x y q
  unfold asR
  simp (disch := omega) only [up2_ne, hsr_ne]
theorem asC_St {G : gG} {h : mH} (H : St h) {N k ho o t s dd ru : Int} (n0 : 0 ≤ N) (n1 : N < 14) : St (asC G h N k ho o t s dd ru) :=
  ((((((((((((H.nwD (by omega)).nwD (by omega)).upD (by omega)).upD (by omega)).upD (by omega)).upD (by omega)).upD (by omega)).upD (by omega)).upD (by omega)).upD (by omega)).upA (by decide +kernel) n0).up (by decide +kernel))
theorem asR_St {h : mH} (H : St h) {N k ho o t s dd ru : Int} (n0 : 0 ≤ N) : St (asR h N k ho o t s dd ru) :=
  (((((((((H.upA (by decide +kernel) n0).upA (by decide +kernel) n0).upA (by decide +kernel) n0).upA (by decide +kernel) n0).upA (by decide +kernel) n0).upA (by decide +kernel) n0).upA (by decide +kernel) n0).upA (by decide +kernel) n0).hsr (by decide +kernel) (by omega)).up (by decide +kernel)
theorem s_X0_init {u : gT} {h : mH} {d b : Nat} {a mk k ho o t s dd ru : Int} (ha : 0 ≤ a) (hz : h a (-1) = 1) (mk0 : 0 ≤ mk) (hmk : h mk (-1) = 0) (hne : mk ≠ a) : Det (gX (gq u)) MX0_init (d + 1) (b + 9) [(2, a), (0, k), (0, ho), (0, o), (0, t), (0, s), (0, dd), (0, ru)] h (9, 0) (up2 (up2 (up2 (up2 (up2 (up2 (up2 (up2 (nwh (gX (gq u)) h mk 20 8) a 7 mk) a 0 k) a 1 ho) a 2 o) a 3 t) a 4 s) a 5 dd) a 6 ru) := by
  intro Q hQ
  show WP (gX (gq u)) MX0_init (d + 1) (b + 9) Q 0 [(2, a), (0, k), (0, ho), (0, o), (0, t), (0, s), (0, dd), (0, ru)] [] h
  refine wp_aload_n rfl rfl dX0_init_0 ?_
  refine wp_objInit wX0_3.1 wX0_3.2.1 wX0_3.2.2 dX0_init_1 (by first | omega | (simp (disch := omega) only [up2_ne, up2_eq, nw_ne, nw_m1, nw_m2, nw_i, nw_q, hz]; first | done | omega)) (by decide) ?_
  refine wp_aload_n rfl rfl dX0_init_4 ?_
  refine wp_bipush (by decide) dX0_init_5 ?_
  refine wp_newarray (a := mk) (code := 20) (b' := b) dX0_init_7 rfl ac_int rfl (by decide) (by omega) hmk (by decide) (by show 8 + 1 + b ≤ b + 9; omega) ?_
  refine wp_putfinal1 (z := 1) (kI := 7) fX0_9 rfl (fun _ q => by cases q; rfl) dX0_init_9 (by first | omega | (simp (disch := omega) only [up2_ne, up2_eq, nw_ne, nw_m1, nw_m2, nw_i, nw_q, hz]; first | done | omega)) (by first | assumption | (simp (disch := omega) only [up2_ne, up2_eq, nw_ne, nw_m1, nw_m2, nw_i, nw_q, hz]; first | done | rfl | omega)) rfl rfl ?_
  refine wp_aload_n rfl rfl dX0_init_12 ?_
  refine wp_iload_n rfl rfl dX0_init_13 ?_
  refine wp_putfinal1 (z := 1) (kI := 0) fX0_15 rfl (fun _ q => by cases q; rfl) dX0_init_14 (by first | omega | (simp (disch := omega) only [up2_ne, up2_eq, nw_ne, nw_m1, nw_m2, nw_i, nw_q, hz]; first | done | omega)) (by first | assumption | (simp (disch := omega) only [up2_ne, up2_eq, nw_ne, nw_m1, nw_m2, nw_i, nw_q, hz]; first | done | rfl | omega)) rfl rfl ?_
  refine wp_aload_n rfl rfl dX0_init_17 ?_
  refine wp_iload_n rfl rfl dX0_init_18 ?_
  refine wp_putfinal1 (z := 1) (kI := 1) fX0_19 rfl (fun _ q => by cases q; rfl) dX0_init_19 (by first | omega | (simp (disch := omega) only [up2_ne, up2_eq, nw_ne, nw_m1, nw_m2, nw_i, nw_q, hz]; first | done | omega)) (by first | assumption | (simp (disch := omega) only [up2_ne, up2_eq, nw_ne, nw_m1, nw_m2, nw_i, nw_q, hz]; first | done | rfl | omega)) rfl rfl ?_
  refine wp_aload_n rfl rfl dX0_init_22 ?_
  refine wp_iload_n rfl rfl dX0_init_23 ?_
  refine wp_putfinal1 (z := 1) (kI := 2) fX0_22 rfl (fun _ q => by cases q; rfl) dX0_init_24 (by first | omega | (simp (disch := omega) only [up2_ne, up2_eq, nw_ne, nw_m1, nw_m2, nw_i, nw_q, hz]; first | done | omega)) (by first | assumption | (simp (disch := omega) only [up2_ne, up2_eq, nw_ne, nw_m1, nw_m2, nw_i, nw_q, hz]; first | done | rfl | omega)) rfl rfl ?_
  refine wp_aload_n rfl rfl dX0_init_27 ?_
  refine wp_iload rfl dX0_init_28 ?_
  refine wp_putfinal1 (z := 1) (kI := 3) fX0_25 rfl (fun _ q => by cases q; rfl) dX0_init_30 (by first | omega | (simp (disch := omega) only [up2_ne, up2_eq, nw_ne, nw_m1, nw_m2, nw_i, nw_q, hz]; first | done | omega)) (by first | assumption | (simp (disch := omega) only [up2_ne, up2_eq, nw_ne, nw_m1, nw_m2, nw_i, nw_q, hz]; first | done | rfl | omega)) rfl rfl ?_
  refine wp_aload_n rfl rfl dX0_init_33 ?_
  refine wp_iload rfl dX0_init_34 ?_
  refine wp_putfinal1 (z := 1) (kI := 4) fX0_28 rfl (fun _ q => by cases q; rfl) dX0_init_36 (by first | omega | (simp (disch := omega) only [up2_ne, up2_eq, nw_ne, nw_m1, nw_m2, nw_i, nw_q, hz]; first | done | omega)) (by first | assumption | (simp (disch := omega) only [up2_ne, up2_eq, nw_ne, nw_m1, nw_m2, nw_i, nw_q, hz]; first | done | rfl | omega)) rfl rfl ?_
  refine wp_aload_n rfl rfl dX0_init_39 ?_
  refine wp_iload rfl dX0_init_40 ?_
  refine wp_putfinal1 (z := 1) (kI := 5) fX0_31 rfl (fun _ q => by cases q; rfl) dX0_init_42 (by first | omega | (simp (disch := omega) only [up2_ne, up2_eq, nw_ne, nw_m1, nw_m2, nw_i, nw_q, hz]; first | done | omega)) (by first | assumption | (simp (disch := omega) only [up2_ne, up2_eq, nw_ne, nw_m1, nw_m2, nw_i, nw_q, hz]; first | done | rfl | omega)) rfl rfl ?_
  refine wp_aload_n rfl rfl dX0_init_45 ?_
  refine wp_iload rfl dX0_init_46 ?_
  refine wp_putfinal1 (z := 1) (kI := 6) fX0_34 rfl (fun _ q => by cases q; rfl) dX0_init_48 (by first | omega | (simp (disch := omega) only [up2_ne, up2_eq, nw_ne, nw_m1, nw_m2, nw_i, nw_q, hz]; first | done | omega)) (by first | assumption | (simp (disch := omega) only [up2_ne, up2_eq, nw_ne, nw_m1, nw_m2, nw_i, nw_q, hz]; first | done | rfl | omega)) rfl rfl ?_
  refine wp_vret dX0_init_51 rfl ?_
  exact hQ
theorem fQ_in {k s t dd : Int} (ik : InI k) (is : InI s) (it : InI t) (id : InI dd) : ∀ i, 0 ≤ i → i < 7 → InI (fQ k s t dd i) := by
  intro i _ _
  unfold fQ
  repeat' split
  all_goals first | assumption | exact ⟨by decide, by decide⟩
theorem ask_free {j : Nat} {m : mH} (H : Inv j m) : (m 200 10 < 14 → m (120 + m 200 10) (-1) = 0) ∧ (m 200 10 < 14 → m (140 + m 200 10) (-1) = 0) := by
  have hn := H.ns
  constructor
  · intro z
    rcases (H.2.2.2.2.1 (m 200 10) (by omega) z).1 with w | w
    · exfalso; omega
    · exact w.2.1
  · intro z
    rcases (H.2.2.2.2.1 (m 200 10) (by omega) z).1 with w | w
    · exfalso; omega
    · exact w.2.2.1
set_option maxHeartbeats 2000000 in
theorem s_X11_ask {u : gT} {j : Nat} {h m : mH} {d b : Nat} (H : Inv j m) (e : Cl h m) (hS : St h) {k ho o t s dd : Int} (ik : InI k) (iho : InI ho) (io : InI o) (it : InI t) (is : InI s) (id : InI dd) : Rlt (gX (gq u)) MX11_ask (d + 5) (b + 22) [(2, 1), (0, k), (0, ho), (0, o), (0, t), (0, s), (0, dd)] h (fun r h1 => r = (0, askV m k ho o t s dd) ∧ St h1 ∧ Cl h1 (askM (gq u) m k ho o t s dd) ∧ Re h h1) := by
  refine Rlt.of ?_
  have hn := H.ns
  have e13 := H.n13
  have e14 := H.n14
  have e15 := H.n15
  have hfr := ask_free H
  show WP (gX (gq u)) MX11_ask (d + 5) (b + 22) _ 0 [(2, 1), (0, k), (0, ho), (0, o), (0, t), (0, s), (0, dd), (9, 0), (9, 0)] [] h
  refine wp_iload_n rfl rfl dX11_ask_0 ?_
  refine wp_iconst dX11_ask_1 ?_
  refine wp_iconst dX11_ask_2 ?_
  refine wp_cS3 okX11_isWithin wX11_98 dX11_ask_3 rfl (Nat.le_of_ble_eq_true rfl) (Nat.le_of_ble_eq_true rfl) (s_X11_isWithin (by first | assumption | exact ⟨by omega, by omega⟩) (by exact ⟨by decide, by decide⟩) (by exact ⟨by decide, by decide⟩)) (Nat.zero_le _) ?_
  try simp (disch := omega) only [up2_ne, up2_eq, nw_ne, nw_m1, nw_m2, nw_i, nw_q, e, e13, e14, e15, st_1_m1 hS, st_1_m1 H.1, st_1_2 hS, st_1_2 H.1, st_4_m2 hS, st_4_m2 H.1, st_4_m1 hS, st_4_m1 H.1]
  refine wp_ifB_eq (tgt := 72) dX11_ask_6 (by decide) (fun c1 => ?_) (fun c1 => ?_)
  · refine wp_iconst dX11_ask_72 ?_
    refine wp_istore dX11_ask_73 rfl (Nat.le_of_ble_eq_true rfl) rfl ?_
    try simp only [List.set_cons_zero, List.set_cons_succ]
    refine wp_iload rfl dX11_ask_75 ?_
    refine wp_if_ne (tgt := 83) (by first | assumption | exact bI_in _ | exact ⟨by omega, by omega⟩ | exact iAnd_in | exact iOr_in | exact iShr_in | exact iShl_in | exact iXor_in | exact hxs _) dX11_ask_77 (by decide) (fun hx => absurd hx (by decide)) (fun hx => ?_)
    refine wp_bipush (by decide) dX11_ask_80 ?_
    refine wp_iret dX11_ask_82 rfl ?_
    first
      | (exfalso; omega)
      | (have q : ¬ asP k ho o t s dd := by omega
         refine ⟨?_, hS, ?_, fun _ _ _ => rfl⟩
         · unfold askV
           rw [if_pos q]
         · unfold askM
           rw [if_neg (fun z => q z.1)]
           exact e)
      | (have q : asP k ho o t s dd := by omega
         have q2 : asT m k s t dd = 0 := by assumption
         refine ⟨?_, S3, ?_, r3⟩
         · unfold askV
           rw [if_neg (fun z => z q), if_pos q2]
         · unfold askM
           rw [if_neg (fun z => z.2.1 q2)]
           exact e3)
      | (have q : asP k ho o t s dd := by omega
         have q2 : asT m k s t dd ≠ 0 := by assumption
         have q3 : m 200 10 = 14 := by omega
         refine ⟨?_, S3, ?_, r3⟩
         · unfold askV
           rw [if_neg (fun z => z q), if_neg q2, if_pos q3]
         · unfold askM
           rw [if_neg (fun z => z.2.2 q3)]
           exact e3)
      | (have q : asP k ho o t s dd := by omega
         have q2 : asT m k s t dd ≠ 0 := by assumption
         have q3 : m 200 10 ≠ 14 := by omega
         refine ⟨?_, asC_St S3 (by omega) (by omega), ?_, fun x y z => (asC_re (by omega) x y z).trans (r3 x y z)⟩
         · unfold askV
           rw [if_neg (fun z => z q), if_neg q2, if_neg q3]
           congr 1
           omega
         · unfold askM
           rw [if_pos ⟨q, q2, q3⟩]
           first
             | (rw [if_pos (show k = 3 by assumption)]
                exact asR_cl (asC_cl e3))
             | (rw [if_neg (show ¬ k = 3 by assumption)]
                exact asR_cl (asC_cl e3)))
  · refine wp_iload_n rfl rfl dX11_ask_9 ?_
    refine wp_iconst dX11_ask_10 ?_
    refine wp_bipush (by decide) dX11_ask_11 ?_
    refine wp_cS3 okX11_isWithin wX11_98 dX11_ask_13 rfl (Nat.le_of_ble_eq_true rfl) (Nat.le_of_ble_eq_true rfl) (s_X11_isWithin (by first | assumption | exact ⟨by omega, by omega⟩) (by exact ⟨by decide, by decide⟩) (by exact ⟨by decide, by decide⟩)) (Nat.zero_le _) ?_
    try simp (disch := omega) only [up2_ne, up2_eq, nw_ne, nw_m1, nw_m2, nw_i, nw_q, e, e13, e14, e15, st_1_m1 hS, st_1_m1 H.1, st_1_2 hS, st_1_2 H.1, st_4_m2 hS, st_4_m2 H.1, st_4_m1 hS, st_4_m1 H.1]
    refine wp_ifB_eq (tgt := 72) dX11_ask_16 (by decide) (fun c2 => ?_) (fun c2 => ?_)
    · refine wp_iconst dX11_ask_72 ?_
      refine wp_istore dX11_ask_73 rfl (Nat.le_of_ble_eq_true rfl) rfl ?_
      try simp only [List.set_cons_zero, List.set_cons_succ]
      refine wp_iload rfl dX11_ask_75 ?_
      refine wp_if_ne (tgt := 83) (by first | assumption | exact bI_in _ | exact ⟨by omega, by omega⟩ | exact iAnd_in | exact iOr_in | exact iShr_in | exact iShl_in | exact iXor_in | exact hxs _) dX11_ask_77 (by decide) (fun hx => absurd hx (by decide)) (fun hx => ?_)
      refine wp_bipush (by decide) dX11_ask_80 ?_
      refine wp_iret dX11_ask_82 rfl ?_
      first
        | (exfalso; omega)
        | (have q : ¬ asP k ho o t s dd := by omega
           refine ⟨?_, hS, ?_, fun _ _ _ => rfl⟩
           · unfold askV
             rw [if_pos q]
           · unfold askM
             rw [if_neg (fun z => q z.1)]
             exact e)
        | (have q : asP k ho o t s dd := by omega
           have q2 : asT m k s t dd = 0 := by assumption
           refine ⟨?_, S3, ?_, r3⟩
           · unfold askV
             rw [if_neg (fun z => z q), if_pos q2]
           · unfold askM
             rw [if_neg (fun z => z.2.1 q2)]
             exact e3)
        | (have q : asP k ho o t s dd := by omega
           have q2 : asT m k s t dd ≠ 0 := by assumption
           have q3 : m 200 10 = 14 := by omega
           refine ⟨?_, S3, ?_, r3⟩
           · unfold askV
             rw [if_neg (fun z => z q), if_neg q2, if_pos q3]
           · unfold askM
             rw [if_neg (fun z => z.2.2 q3)]
             exact e3)
        | (have q : asP k ho o t s dd := by omega
           have q2 : asT m k s t dd ≠ 0 := by assumption
           have q3 : m 200 10 ≠ 14 := by omega
           refine ⟨?_, asC_St S3 (by omega) (by omega), ?_, fun x y z => (asC_re (by omega) x y z).trans (r3 x y z)⟩
           · unfold askV
             rw [if_neg (fun z => z q), if_neg q2, if_neg q3]
             congr 1
             omega
           · unfold askM
             rw [if_pos ⟨q, q2, q3⟩]
             first
               | (rw [if_pos (show k = 3 by assumption)]
                  exact asR_cl (asC_cl e3))
               | (rw [if_neg (show ¬ k = 3 by assumption)]
                  exact asR_cl (asC_cl e3)))
    · refine wp_iload_n rfl rfl dX11_ask_19 ?_
      refine wp_iconst dX11_ask_20 ?_
      refine wp_icmp_ne (tgt := 34) (by first | assumption | exact bI_in _ | exact ⟨by omega, by omega⟩ | exact iAnd_in | exact iOr_in | exact iShr_in | exact iShl_in | exact iXor_in | exact hxs _) (by first | assumption | exact bI_in _ | exact ⟨by omega, by omega⟩ | exact iAnd_in | exact iOr_in | exact iShr_in | exact iShl_in | exact iXor_in | exact hxs _) dX11_ask_21 (by decide) (fun c3 => ?_) (fun c3 => ?_)
      · refine wp_iload rfl dX11_ask_34 ?_
        refine wp_iconst dX11_ask_36 ?_
        refine wp_iconst dX11_ask_37 ?_
        refine wp_cS3 okX11_isWithin wX11_98 dX11_ask_38 rfl (Nat.le_of_ble_eq_true rfl) (Nat.le_of_ble_eq_true rfl) (s_X11_isWithin (by first | assumption | exact ⟨by omega, by omega⟩) (by exact ⟨by decide, by decide⟩) (by exact ⟨by decide, by decide⟩)) (Nat.zero_le _) ?_
        try simp (disch := omega) only [up2_ne, up2_eq, nw_ne, nw_m1, nw_m2, nw_i, nw_q, e, e13, e14, e15, st_1_m1 hS, st_1_m1 H.1, st_1_2 hS, st_1_2 H.1, st_4_m2 hS, st_4_m2 H.1, st_4_m1 hS, st_4_m1 H.1]
        refine wp_ifB_eq (tgt := 72) dX11_ask_41 (by decide) (fun c4 => ?_) (fun c4 => ?_)
        · refine wp_iconst dX11_ask_72 ?_
          refine wp_istore dX11_ask_73 rfl (Nat.le_of_ble_eq_true rfl) rfl ?_
          try simp only [List.set_cons_zero, List.set_cons_succ]
          refine wp_iload rfl dX11_ask_75 ?_
          refine wp_if_ne (tgt := 83) (by first | assumption | exact bI_in _ | exact ⟨by omega, by omega⟩ | exact iAnd_in | exact iOr_in | exact iShr_in | exact iShl_in | exact iXor_in | exact hxs _) dX11_ask_77 (by decide) (fun hx => absurd hx (by decide)) (fun hx => ?_)
          refine wp_bipush (by decide) dX11_ask_80 ?_
          refine wp_iret dX11_ask_82 rfl ?_
          first
            | (exfalso; omega)
            | (have q : ¬ asP k ho o t s dd := by omega
               refine ⟨?_, hS, ?_, fun _ _ _ => rfl⟩
               · unfold askV
                 rw [if_pos q]
               · unfold askM
                 rw [if_neg (fun z => q z.1)]
                 exact e)
            | (have q : asP k ho o t s dd := by omega
               have q2 : asT m k s t dd = 0 := by assumption
               refine ⟨?_, S3, ?_, r3⟩
               · unfold askV
                 rw [if_neg (fun z => z q), if_pos q2]
               · unfold askM
                 rw [if_neg (fun z => z.2.1 q2)]
                 exact e3)
            | (have q : asP k ho o t s dd := by omega
               have q2 : asT m k s t dd ≠ 0 := by assumption
               have q3 : m 200 10 = 14 := by omega
               refine ⟨?_, S3, ?_, r3⟩
               · unfold askV
                 rw [if_neg (fun z => z q), if_neg q2, if_pos q3]
               · unfold askM
                 rw [if_neg (fun z => z.2.2 q3)]
                 exact e3)
            | (have q : asP k ho o t s dd := by omega
               have q2 : asT m k s t dd ≠ 0 := by assumption
               have q3 : m 200 10 ≠ 14 := by omega
               refine ⟨?_, asC_St S3 (by omega) (by omega), ?_, fun x y z => (asC_re (by omega) x y z).trans (r3 x y z)⟩
               · unfold askV
                 rw [if_neg (fun z => z q), if_neg q2, if_neg q3]
                 congr 1
                 omega
               · unfold askM
                 rw [if_pos ⟨q, q2, q3⟩]
                 first
                   | (rw [if_pos (show k = 3 by assumption)]
                      exact asR_cl (asC_cl e3))
                   | (rw [if_neg (show ¬ k = 3 by assumption)]
                      exact asR_cl (asC_cl e3)))
        · refine wp_iload rfl dX11_ask_44 ?_
          refine wp_iconst dX11_ask_46 ?_
          refine wp_sipush (by decide) dX11_ask_47 ?_
          refine wp_cS3 okX11_isWithin wX11_98 dX11_ask_50 rfl (Nat.le_of_ble_eq_true rfl) (Nat.le_of_ble_eq_true rfl) (s_X11_isWithin (by first | assumption | exact ⟨by omega, by omega⟩) (by exact ⟨by decide, by decide⟩) (by exact ⟨by decide, by decide⟩)) (Nat.zero_le _) ?_
          try simp (disch := omega) only [up2_ne, up2_eq, nw_ne, nw_m1, nw_m2, nw_i, nw_q, e, e13, e14, e15, st_1_m1 hS, st_1_m1 H.1, st_1_2 hS, st_1_2 H.1, st_4_m2 hS, st_4_m2 H.1, st_4_m1 hS, st_4_m1 H.1]
          refine wp_ifB_eq (tgt := 72) dX11_ask_53 (by decide) (fun c5 => ?_) (fun c5 => ?_)
          · refine wp_iconst dX11_ask_72 ?_
            refine wp_istore dX11_ask_73 rfl (Nat.le_of_ble_eq_true rfl) rfl ?_
            try simp only [List.set_cons_zero, List.set_cons_succ]
            refine wp_iload rfl dX11_ask_75 ?_
            refine wp_if_ne (tgt := 83) (by first | assumption | exact bI_in _ | exact ⟨by omega, by omega⟩ | exact iAnd_in | exact iOr_in | exact iShr_in | exact iShl_in | exact iXor_in | exact hxs _) dX11_ask_77 (by decide) (fun hx => absurd hx (by decide)) (fun hx => ?_)
            refine wp_bipush (by decide) dX11_ask_80 ?_
            refine wp_iret dX11_ask_82 rfl ?_
            first
              | (exfalso; omega)
              | (have q : ¬ asP k ho o t s dd := by omega
                 refine ⟨?_, hS, ?_, fun _ _ _ => rfl⟩
                 · unfold askV
                   rw [if_pos q]
                 · unfold askM
                   rw [if_neg (fun z => q z.1)]
                   exact e)
              | (have q : asP k ho o t s dd := by omega
                 have q2 : asT m k s t dd = 0 := by assumption
                 refine ⟨?_, S3, ?_, r3⟩
                 · unfold askV
                   rw [if_neg (fun z => z q), if_pos q2]
                 · unfold askM
                   rw [if_neg (fun z => z.2.1 q2)]
                   exact e3)
              | (have q : asP k ho o t s dd := by omega
                 have q2 : asT m k s t dd ≠ 0 := by assumption
                 have q3 : m 200 10 = 14 := by omega
                 refine ⟨?_, S3, ?_, r3⟩
                 · unfold askV
                   rw [if_neg (fun z => z q), if_neg q2, if_pos q3]
                 · unfold askM
                   rw [if_neg (fun z => z.2.2 q3)]
                   exact e3)
              | (have q : asP k ho o t s dd := by omega
                 have q2 : asT m k s t dd ≠ 0 := by assumption
                 have q3 : m 200 10 ≠ 14 := by omega
                 refine ⟨?_, asC_St S3 (by omega) (by omega), ?_, fun x y z => (asC_re (by omega) x y z).trans (r3 x y z)⟩
                 · unfold askV
                   rw [if_neg (fun z => z q), if_neg q2, if_neg q3]
                   congr 1
                   omega
                 · unfold askM
                   rw [if_pos ⟨q, q2, q3⟩]
                   first
                     | (rw [if_pos (show k = 3 by assumption)]
                        exact asR_cl (asC_cl e3))
                     | (rw [if_neg (show ¬ k = 3 by assumption)]
                        exact asR_cl (asC_cl e3)))
          · refine wp_iload rfl dX11_ask_56 ?_
            refine wp_iconst dX11_ask_58 ?_
            refine wp_sipush (by decide) dX11_ask_59 ?_
            refine wp_cS3 okX11_isWithin wX11_98 dX11_ask_62 rfl (Nat.le_of_ble_eq_true rfl) (Nat.le_of_ble_eq_true rfl) (s_X11_isWithin (by first | assumption | exact ⟨by omega, by omega⟩) (by exact ⟨by decide, by decide⟩) (by exact ⟨by decide, by decide⟩)) (Nat.zero_le _) ?_
            try simp (disch := omega) only [up2_ne, up2_eq, nw_ne, nw_m1, nw_m2, nw_i, nw_q, e, e13, e14, e15, st_1_m1 hS, st_1_m1 H.1, st_1_2 hS, st_1_2 H.1, st_4_m2 hS, st_4_m2 H.1, st_4_m1 hS, st_4_m1 H.1]
            refine wp_ifB_eq (tgt := 72) dX11_ask_65 (by decide) (fun c6 => ?_) (fun c6 => ?_)
            · refine wp_iconst dX11_ask_72 ?_
              refine wp_istore dX11_ask_73 rfl (Nat.le_of_ble_eq_true rfl) rfl ?_
              try simp only [List.set_cons_zero, List.set_cons_succ]
              refine wp_iload rfl dX11_ask_75 ?_
              refine wp_if_ne (tgt := 83) (by first | assumption | exact bI_in _ | exact ⟨by omega, by omega⟩ | exact iAnd_in | exact iOr_in | exact iShr_in | exact iShl_in | exact iXor_in | exact hxs _) dX11_ask_77 (by decide) (fun hx => absurd hx (by decide)) (fun hx => ?_)
              refine wp_bipush (by decide) dX11_ask_80 ?_
              refine wp_iret dX11_ask_82 rfl ?_
              first
                | (exfalso; omega)
                | (have q : ¬ asP k ho o t s dd := by omega
                   refine ⟨?_, hS, ?_, fun _ _ _ => rfl⟩
                   · unfold askV
                     rw [if_pos q]
                   · unfold askM
                     rw [if_neg (fun z => q z.1)]
                     exact e)
                | (have q : asP k ho o t s dd := by omega
                   have q2 : asT m k s t dd = 0 := by assumption
                   refine ⟨?_, S3, ?_, r3⟩
                   · unfold askV
                     rw [if_neg (fun z => z q), if_pos q2]
                   · unfold askM
                     rw [if_neg (fun z => z.2.1 q2)]
                     exact e3)
                | (have q : asP k ho o t s dd := by omega
                   have q2 : asT m k s t dd ≠ 0 := by assumption
                   have q3 : m 200 10 = 14 := by omega
                   refine ⟨?_, S3, ?_, r3⟩
                   · unfold askV
                     rw [if_neg (fun z => z q), if_neg q2, if_pos q3]
                   · unfold askM
                     rw [if_neg (fun z => z.2.2 q3)]
                     exact e3)
                | (have q : asP k ho o t s dd := by omega
                   have q2 : asT m k s t dd ≠ 0 := by assumption
                   have q3 : m 200 10 ≠ 14 := by omega
                   refine ⟨?_, asC_St S3 (by omega) (by omega), ?_, fun x y z => (asC_re (by omega) x y z).trans (r3 x y z)⟩
                   · unfold askV
                     rw [if_neg (fun z => z q), if_neg q2, if_neg q3]
                     congr 1
                     omega
                   · unfold askM
                     rw [if_pos ⟨q, q2, q3⟩]
                     first
                       | (rw [if_pos (show k = 3 by assumption)]
                          exact asR_cl (asC_cl e3))
                       | (rw [if_neg (show ¬ k = 3 by assumption)]
                          exact asR_cl (asC_cl e3)))
            · refine wp_iconst dX11_ask_68 ?_
              refine wp_goto (tgt := 73) dX11_ask_69 (by decide) ?_
              refine wp_istore dX11_ask_73 rfl (Nat.le_of_ble_eq_true rfl) rfl ?_
              try simp only [List.set_cons_zero, List.set_cons_succ]
              refine wp_iload rfl dX11_ask_75 ?_
              refine wp_if_ne (tgt := 83) (by first | assumption | exact bI_in _ | exact ⟨by omega, by omega⟩ | exact iAnd_in | exact iOr_in | exact iShr_in | exact iShl_in | exact iXor_in | exact hxs _) dX11_ask_77 (by decide) (fun hx => ?_) (fun hx => absurd hx (by decide))
              refine wp_aload_n rfl rfl dX11_ask_83 ?_
              refine wp_iload_n rfl rfl dX11_ask_84 ?_
              refine wp_iload rfl dX11_ask_85 ?_
              refine wp_iload rfl dX11_ask_87 ?_
              refine wp_iload rfl dX11_ask_89 ?_
              refine wp_cV4r (ci := 11) okX11_setFacts rfl rfl wX11_158 dX11_ask_91 (Nat.le_of_ble_eq_true rfl) (Nat.le_of_ble_eq_true rfl) (by first | omega | (simp (disch := omega) only [up2_ne, up2_eq, nw_ne, nw_m1, nw_m2, nw_i, nw_q, e, e13, e14, e15, st_1_m1 hS, st_1_m1 H.1, st_1_2 hS, st_1_2 H.1, st_4_m2 hS, st_4_m2 H.1, st_4_m1 hS, st_4_m1 H.1]; first | done | omega)) (by first | assumption | (simp (disch := omega) only [up2_ne, up2_eq, nw_ne, nw_m1, nw_m2, nw_i, nw_q, e, e13, e14, e15, st_1_m1 hS, st_1_m1 H.1, st_1_2 hS, st_1_2 H.1, st_4_m2 hS, st_4_m2 H.1, st_4_m1 hS, st_4_m1 H.1]; first | done | rfl | omega)) (s_X11_setFacts hS) (Nat.zero_le _) ?_
              rintro x g1 ⟨rfl, S1, K1, y0, y1, y2, y3⟩ -
              show WP _ _ _ _ _ _ _ [] _
              have e1 : Cl g1 m := fun x k z => by rw [K1 x k (by omega)]; exact e x k z
              refine wp_aload_n rfl rfl dX11_ask_94 ?_
              refine wp_iconst dX11_ask_95 ?_
              refine wp_iconst dX11_ask_96 ?_
              refine wp_iconst dX11_ask_97 ?_
              refine wp_cV3r (ci := 11) okX11_setReadingFacts rfl rfl wX11_161 dX11_ask_98 (Nat.le_of_ble_eq_true rfl) (Nat.le_of_ble_eq_true rfl) (by first | omega | (simp (disch := omega) only [up2_ne, up2_eq, nw_ne, nw_m1, nw_m2, nw_i, nw_q, e1, e13, e14, e15, H.a4, st_1_m1 S1, st_1_m1 H.1, st_1_2 S1, st_1_2 H.1, st_4_m2 S1, st_4_m2 H.1, st_4_m1 S1, st_4_m1 H.1]; first | done | omega)) (by first | assumption | (simp (disch := omega) only [up2_ne, up2_eq, nw_ne, nw_m1, nw_m2, nw_i, nw_q, e1, e13, e14, e15, H.a4, st_1_m1 S1, st_1_m1 H.1, st_1_2 S1, st_1_2 H.1, st_4_m2 S1, st_4_m2 H.1, st_4_m1 S1, st_4_m1 H.1]; first | done | rfl | omega)) (s_X11_setReadingFacts S1) (Nat.zero_le _) ?_
              rintro x g2 ⟨rfl, S2, K2, y4, y5, y6⟩ -
              show WP _ _ _ _ _ _ _ [] _
              have e2 : Cl g2 m := fun x k z => by rw [K2 x k (by omega)]; exact e1 x k z
              refine wp_aload_n rfl rfl dX11_ask_101 ?_
              refine wp_aload_n rfl rfl dX11_ask_102 ?_
              refine wp_getfield1 (z := 12) (kI := 15) fX11_165 dX11_ask_103 (by first | omega | (simp (disch := omega) only [up2_ne, up2_eq, nw_ne, nw_m1, nw_m2, nw_i, nw_q, e2, e13, e14, e15, H.a4, st_1_m1 S2, st_1_m1 H.1, st_1_2 S2, st_1_2 H.1, st_4_m2 S2, st_4_m2 H.1, st_4_m1 S2, st_4_m1 H.1]; first | done | omega)) (by first | assumption | (simp (disch := omega) only [up2_ne, up2_eq, nw_ne, nw_m1, nw_m2, nw_i, nw_q, e2, e13, e14, e15, H.a4, st_1_m1 S2, st_1_m1 H.1, st_1_2 S2, st_1_2 H.1, st_4_m2 S2, st_4_m2 H.1, st_4_m1 S2, st_4_m1 H.1]; first | done | rfl | omega)) rfl rfl ?_
              try simp (disch := omega) only [up2_ne, up2_eq, nw_ne, nw_m1, nw_m2, nw_i, nw_q, e2, e13, e14, e15, H.a4, st_1_m1 S2, st_1_m1 H.1, st_1_2 S2, st_1_2 H.1, st_4_m2 S2, st_4_m2 H.1, st_4_m1 S2, st_4_m1 H.1]
              refine wp_iconst dX11_ask_106 ?_
              refine wp_cV2r (ci := 11) okX11_reckon rfl rfl wX11_168 dX11_ask_107 (Nat.le_of_ble_eq_true rfl) (Nat.le_of_ble_eq_true rfl) (by first | omega | (simp (disch := omega) only [up2_ne, up2_eq, nw_ne, nw_m1, nw_m2, nw_i, nw_q, e2, e13, e14, e15, H.a4, st_1_m1 S2, st_1_m1 H.1, st_1_2 S2, st_1_2 H.1, st_4_m2 S2, st_4_m2 H.1, st_4_m1 S2, st_4_m1 H.1]; first | done | omega)) (by first | assumption | (simp (disch := omega) only [up2_ne, up2_eq, nw_ne, nw_m1, nw_m2, nw_i, nw_q, e2, e13, e14, e15, H.a4, st_1_m1 S2, st_1_m1 H.1, st_1_2 S2, st_1_2 H.1, st_4_m2 S2, st_4_m2 H.1, st_4_m1 S2, st_4_m1 H.1]; first | done | rfl | omega)) (s_X11_reckon H e2 S2 (by omega) (by omega) (by decide) (by decide) (f := fQ k s t dd) (fun i i0 i1 => by
    rcases (show i = 0 ∨ i = 1 ∨ i = 2 ∨ i = 3 ∨ i = 4 ∨ i = 5 ∨ i = 6 by omega) with rfl | rfl | rfl | rfl | rfl | rfl | rfl
    · rw [K2 _ _ (by omega), y0]; rfl
    · rw [K2 _ _ (by omega), y1]; rfl
    · rw [K2 _ _ (by omega), y2]; rfl
    · rw [K2 _ _ (by omega), y3]; rfl
    · rw [y4]; rfl
    · rw [y5]; rfl
    · rw [y6]; rfl) (fQ_in ik is it id)) (Nat.zero_le _) ?_
              rintro r g3 ⟨rfl, z1, S3, K3⟩ -
              show WP _ _ _ _ _ _ _ ((0, _) :: _) _
              have e3 : Cl g3 m := fun x k z => by rw [K3 x k (by omega)]; exact e2 x k z
              have r3 : Re h g3 := fun x k z => by rw [K3 x k (by omega), K2 x k (by omega), K1 x k (by omega)]
              refine wp_if_ne (tgt := 116) (by first | assumption | exact bI_in _ | exact ⟨by omega, by omega⟩ | exact iAnd_in | exact iOr_in | exact iShr_in | exact iShl_in | exact iXor_in | exact hxs _) dX11_ask_110 (by decide) (fun c7 => ?_) (fun c7 => ?_)
              · refine wp_aload_n rfl rfl dX11_ask_116 ?_
                refine wp_getfield1 (z := 12) (kI := 13) fX11_172 dX11_ask_117 (by first | omega | (simp (disch := omega) only [up2_ne, up2_eq, nw_ne, nw_m1, nw_m2, nw_i, nw_q, e3, e13, e14, e15, H.a4, st_1_m1 S3, st_1_m1 H.1, st_1_2 S3, st_1_2 H.1, st_4_m2 S3, st_4_m2 H.1, st_4_m1 S3, st_4_m1 H.1]; first | done | omega)) (by first | assumption | (simp (disch := omega) only [up2_ne, up2_eq, nw_ne, nw_m1, nw_m2, nw_i, nw_q, e3, e13, e14, e15, H.a4, st_1_m1 S3, st_1_m1 H.1, st_1_2 S3, st_1_2 H.1, st_4_m2 S3, st_4_m2 H.1, st_4_m1 S3, st_4_m1 H.1]; first | done | rfl | omega)) rfl rfl ?_
                try simp (disch := omega) only [up2_ne, up2_eq, nw_ne, nw_m1, nw_m2, nw_i, nw_q, e3, e13, e14, e15, H.a4, st_1_m1 S3, st_1_m1 H.1, st_1_2 S3, st_1_2 H.1, st_4_m2 S3, st_4_m2 H.1, st_4_m1 S3, st_4_m1 H.1]
                refine wp_aload_n rfl rfl dX11_ask_120 ?_
                refine wp_getfield1 (z := 12) (kI := 2) fX11_23 dX11_ask_121 (by first | omega | (simp (disch := omega) only [up2_ne, up2_eq, nw_ne, nw_m1, nw_m2, nw_i, nw_q, e3, e13, e14, e15, H.a4, st_1_m1 S3, st_1_m1 H.1, st_1_2 S3, st_1_2 H.1, st_4_m2 S3, st_4_m2 H.1, st_4_m1 S3, st_4_m1 H.1]; first | done | omega)) (by first | assumption | (simp (disch := omega) only [up2_ne, up2_eq, nw_ne, nw_m1, nw_m2, nw_i, nw_q, e3, e13, e14, e15, H.a4, st_1_m1 S3, st_1_m1 H.1, st_1_2 S3, st_1_2 H.1, st_4_m2 S3, st_4_m2 H.1, st_4_m1 S3, st_4_m1 H.1]; first | done | rfl | omega)) rfl rfl ?_
                try simp (disch := omega) only [up2_ne, up2_eq, nw_ne, nw_m1, nw_m2, nw_i, nw_q, e3, e13, e14, e15, H.a4, st_1_m1 S3, st_1_m1 H.1, st_1_2 S3, st_1_2 H.1, st_4_m2 S3, st_4_m2 H.1, st_4_m1 S3, st_4_m1 H.1]
                refine wp_alen1 dX11_ask_124 (by first | omega | (simp (disch := omega) only [up2_ne, up2_eq, nw_ne, nw_m1, nw_m2, nw_i, nw_q, e3, e13, e14, e15, H.a4, st_1_m1 S3, st_1_m1 H.1, st_1_2 S3, st_1_2 H.1, st_4_m2 S3, st_4_m2 H.1, st_4_m1 S3, st_4_m1 H.1]; first | done | omega)) (by first | omega | (simp (disch := omega) only [up2_ne, up2_eq, nw_ne, nw_m1, nw_m2, nw_i, nw_q, e3, e13, e14, e15, H.a4, st_1_m1 S3, st_1_m1 H.1, st_1_2 S3, st_1_2 H.1, st_4_m2 S3, st_4_m2 H.1, st_4_m1 S3, st_4_m1 H.1]; first | done | omega)) ?_
                try simp (disch := omega) only [up2_ne, up2_eq, nw_ne, nw_m1, nw_m2, nw_i, nw_q, e3, e13, e14, e15, H.a4, st_1_m1 S3, st_1_m1 H.1, st_1_2 S3, st_1_2 H.1, st_4_m2 S3, st_4_m2 H.1, st_4_m1 S3, st_4_m1 H.1]
                refine wp_icmp_lt (tgt := 131) (by first | assumption | exact bI_in _ | exact ⟨by omega, by omega⟩ | exact iAnd_in | exact iOr_in | exact iShr_in | exact iShl_in | exact iXor_in | exact hxs _) (by first | assumption | exact bI_in _ | exact ⟨by omega, by omega⟩ | exact iAnd_in | exact iOr_in | exact iShr_in | exact iShl_in | exact iXor_in | exact hxs _) dX11_ask_125 (by decide) (fun c8 => ?_) (fun c8 => ?_)
                · refine wp_iload_n rfl rfl dX11_ask_131 ?_
                  refine wp_iconst dX11_ask_132 ?_
                  refine wp_icmp_ne (tgt := 140) (by first | assumption | exact bI_in _ | exact ⟨by omega, by omega⟩ | exact iAnd_in | exact iOr_in | exact iShr_in | exact iShl_in | exact iXor_in | exact hxs _) (by first | assumption | exact bI_in _ | exact ⟨by omega, by omega⟩ | exact iAnd_in | exact iOr_in | exact iShr_in | exact iShl_in | exact iXor_in | exact hxs _) dX11_ask_133 (by decide) (fun c9 => ?_) (fun c9 => ?_)
                  · refine wp_iconst dX11_ask_140 ?_
                    refine wp_istore dX11_ask_141 rfl (Nat.le_of_ble_eq_true rfl) rfl ?_
                    try simp only [List.set_cons_zero, List.set_cons_succ]
                    refine wp_aload_n rfl rfl dX11_ask_143 ?_
                    refine wp_getfield1 (z := 12) (kI := 2) fX11_23 dX11_ask_144 (by first | omega | (simp (disch := omega) only [up2_ne, up2_eq, nw_ne, nw_m1, nw_m2, nw_i, nw_q, e3, e13, e14, e15, H.a4, st_1_m1 S3, st_1_m1 H.1, st_1_2 S3, st_1_2 H.1, st_4_m2 S3, st_4_m2 H.1, st_4_m1 S3, st_4_m1 H.1]; first | done | omega)) (by first | assumption | (simp (disch := omega) only [up2_ne, up2_eq, nw_ne, nw_m1, nw_m2, nw_i, nw_q, e3, e13, e14, e15, H.a4, st_1_m1 S3, st_1_m1 H.1, st_1_2 S3, st_1_2 H.1, st_4_m2 S3, st_4_m2 H.1, st_4_m1 S3, st_4_m1 H.1]; first | done | rfl | omega)) rfl rfl ?_
                    try simp (disch := omega) only [up2_ne, up2_eq, nw_ne, nw_m1, nw_m2, nw_i, nw_q, e3, e13, e14, e15, H.a4, st_1_m1 S3, st_1_m1 H.1, st_1_2 S3, st_1_2 H.1, st_4_m2 S3, st_4_m2 H.1, st_4_m1 S3, st_4_m1 H.1]
                    refine wp_aload_n rfl rfl dX11_ask_147 ?_
                    refine wp_getfield1 (z := 12) (kI := 13) fX11_172 dX11_ask_148 (by first | omega | (simp (disch := omega) only [up2_ne, up2_eq, nw_ne, nw_m1, nw_m2, nw_i, nw_q, e3, e13, e14, e15, H.a4, st_1_m1 S3, st_1_m1 H.1, st_1_2 S3, st_1_2 H.1, st_4_m2 S3, st_4_m2 H.1, st_4_m1 S3, st_4_m1 H.1]; first | done | omega)) (by first | assumption | (simp (disch := omega) only [up2_ne, up2_eq, nw_ne, nw_m1, nw_m2, nw_i, nw_q, e3, e13, e14, e15, H.a4, st_1_m1 S3, st_1_m1 H.1, st_1_2 S3, st_1_2 H.1, st_4_m2 S3, st_4_m2 H.1, st_4_m1 S3, st_4_m1 H.1]; first | done | rfl | omega)) rfl rfl ?_
                    try simp (disch := omega) only [up2_ne, up2_eq, nw_ne, nw_m1, nw_m2, nw_i, nw_q, e3, e13, e14, e15, H.a4, st_1_m1 S3, st_1_m1 H.1, st_1_2 S3, st_1_2 H.1, st_4_m2 S3, st_4_m2 H.1, st_4_m1 S3, st_4_m1 H.1]
                    refine wp_new1 (a := (120 + m 200 10)) (ci := 0) (b' := (b + 9)) (z := 1) rfl clX11_21 inX0 iniX0 dX11_ask_151 rfl (by omega) (by rw [e3 _ _ (by omega)]; exact hfr.1 (by omega)) (by show 12 + 1 + (b + 9) ≤ _; omega) ?_
                    refine wp_dup (by decide) dX11_ask_154 ?_
                    refine wp_iload_n rfl rfl dX11_ask_155 ?_
                    refine wp_iload_n rfl rfl dX11_ask_156 ?_
                    refine wp_iload rfl dX11_ask_157 ?_
                    refine wp_iload rfl dX11_ask_159 ?_
                    refine wp_iload rfl dX11_ask_161 ?_
                    refine wp_iload rfl dX11_ask_163 ?_
                    refine wp_aload_n rfl rfl dX11_ask_165 ?_
                    refine wp_getfield1 (z := 12) (kI := 15) fX11_165 dX11_ask_166 (by first | omega | (simp (disch := omega) only [up2_ne, up2_eq, nw_ne, nw_m1, nw_m2, nw_i, nw_q, e3, e13, e14, e15, H.a4, st_1_m1 S3, st_1_m1 H.1, st_1_2 S3, st_1_2 H.1, st_4_m2 S3, st_4_m2 H.1, st_4_m1 S3, st_4_m1 H.1]; first | done | omega)) (by first | assumption | (simp (disch := omega) only [up2_ne, up2_eq, nw_ne, nw_m1, nw_m2, nw_i, nw_q, e3, e13, e14, e15, H.a4, st_1_m1 S3, st_1_m1 H.1, st_1_2 S3, st_1_2 H.1, st_4_m2 S3, st_4_m2 H.1, st_4_m1 S3, st_4_m1 H.1]; first | done | rfl | omega)) rfl rfl ?_
                    try simp (disch := omega) only [up2_ne, up2_eq, nw_ne, nw_m1, nw_m2, nw_i, nw_q, e3, e13, e14, e15, H.a4, st_1_m1 S3, st_1_m1 H.1, st_1_2 S3, st_1_2 H.1, st_4_m2 S3, st_4_m2 H.1, st_4_m1 S3, st_4_m1 H.1]
                    refine wp_cI7v okX0_init ⟨rfl, rfl⟩ wX11_175 dX11_ask_169 (Nat.le_of_ble_eq_true rfl) (Nat.le_of_ble_eq_true rfl) (by first | omega | (simp (disch := omega) only [up2_ne, up2_eq, nw_ne, nw_m1, nw_m2, nw_i, nw_q, e3, e13, e14, e15, H.a4, st_1_m1 S3, st_1_m1 H.1, st_1_2 S3, st_1_2 H.1, st_4_m2 S3, st_4_m2 H.1, st_4_m1 S3, st_4_m1 H.1]; first | done | omega)) (s_X0_init (b := 0) (by omega) nw_m1 (mk := 140 + m 200 10) (by omega) (by rw [nw_ne (by omega), e3 _ _ (by omega)]; exact hfr.2 (by omega)) (by omega)) (by omega) ?_
                    try simp (disch := omega) only [up2_ne, up2_eq, nw_ne, nw_m1, nw_m2, nw_i, nw_q, e3, e13, e14, e15, H.a4, st_1_m1 S3, st_1_m1 H.1, st_1_2 S3, st_1_2 H.1, st_4_m2 S3, st_4_m2 H.1, st_4_m1 S3, st_4_m1 H.1]
                    refine wp_aastore1 (ci := 0) dX11_ask_172 (by first | omega | (simp (disch := omega) only [up2_ne, up2_eq, nw_ne, nw_m1, nw_m2, nw_i, nw_q, e3, e13, e14, e15, H.a4, st_1_m1 S3, st_1_m1 H.1, st_1_2 S3, st_1_2 H.1, st_4_m2 S3, st_4_m2 H.1, st_4_m1 S3, st_4_m1 H.1]; first | done | omega)) (by first | assumption | (simp (disch := omega) only [up2_ne, up2_eq, nw_ne, nw_m1, nw_m2, nw_i, nw_q, e3, e13, e14, e15, H.a4, st_1_m1 S3, st_1_m1 H.1, st_1_2 S3, st_1_2 H.1, st_4_m2 S3, st_4_m2 H.1, st_4_m1 S3, st_4_m1 H.1]; first | done | rfl | omega)) (by first | omega | (simp (disch := omega) only [up2_ne, up2_eq, nw_ne, nw_m1, nw_m2, nw_i, nw_q, e3, e13, e14, e15, H.a4, st_1_m1 S3, st_1_m1 H.1, st_1_2 S3, st_1_2 H.1, st_4_m2 S3, st_4_m2 H.1, st_4_m1 S3, st_4_m1 H.1]; first | done | omega)) (by first | omega | (simp (disch := omega) only [up2_ne, up2_eq, nw_ne, nw_m1, nw_m2, nw_i, nw_q, e3, e13, e14, e15, H.a4, st_1_m1 S3, st_1_m1 H.1, st_1_2 S3, st_1_2 H.1, st_4_m2 S3, st_4_m2 H.1, st_4_m1 S3, st_4_m1 H.1]; first | done | omega)) (by first | omega | (simp (disch := omega) only [up2_ne, up2_eq, nw_ne, nw_m1, nw_m2, nw_i, nw_q, e3, e13, e14, e15, H.a4, st_1_m1 S3, st_1_m1 H.1, st_1_2 S3, st_1_2 H.1, st_4_m2 S3, st_4_m2 H.1, st_4_m1 S3, st_4_m1 H.1]; first | done | omega)) (by first | assumption | (simp (disch := omega) only [up2_ne, up2_eq, nw_ne, nw_m1, nw_m2, nw_i, nw_q, e3, e13, e14, e15, H.a4, st_1_m1 S3, st_1_m1 H.1, st_1_2 S3, st_1_2 H.1, st_4_m2 S3, st_4_m2 H.1, st_4_m1 S3, st_4_m1 H.1]; first | done | rfl | omega)) (by decide) ?_
                    refine wp_aload_n rfl rfl dX11_ask_173 ?_
                    refine wp_dup (by decide) dX11_ask_174 ?_
                    refine wp_getfield1 (z := 12) (kI := 13) fX11_172 dX11_ask_175 (by first | omega | (simp (disch := omega) only [up2_ne, up2_eq, nw_ne, nw_m1, nw_m2, nw_i, nw_q, e3, e13, e14, e15, H.a4, st_1_m1 S3, st_1_m1 H.1, st_1_2 S3, st_1_2 H.1, st_4_m2 S3, st_4_m2 H.1, st_4_m1 S3, st_4_m1 H.1]; first | done | omega)) (by first | assumption | (simp (disch := omega) only [up2_ne, up2_eq, nw_ne, nw_m1, nw_m2, nw_i, nw_q, e3, e13, e14, e15, H.a4, st_1_m1 S3, st_1_m1 H.1, st_1_2 S3, st_1_2 H.1, st_4_m2 S3, st_4_m2 H.1, st_4_m1 S3, st_4_m1 H.1]; first | done | rfl | omega)) rfl rfl ?_
                    try simp (disch := omega) only [up2_ne, up2_eq, nw_ne, nw_m1, nw_m2, nw_i, nw_q, e3, e13, e14, e15, H.a4, st_1_m1 S3, st_1_m1 H.1, st_1_2 S3, st_1_2 H.1, st_4_m2 S3, st_4_m2 H.1, st_4_m1 S3, st_4_m1 H.1]
                    refine wp_iconst dX11_ask_178 ?_
                    refine wp_iadd dX11_ask_179 ?_
                    refine wp_putfield1 (z := 12) (kI := 13) fX11_172 dX11_ask_180 (by first | omega | (simp (disch := omega) only [up2_ne, up2_eq, nw_ne, nw_m1, nw_m2, nw_i, nw_q, e3, e13, e14, e15, H.a4, st_1_m1 S3, st_1_m1 H.1, st_1_2 S3, st_1_2 H.1, st_4_m2 S3, st_4_m2 H.1, st_4_m1 S3, st_4_m1 H.1]; first | done | omega)) (by first | assumption | (simp (disch := omega) only [up2_ne, up2_eq, nw_ne, nw_m1, nw_m2, nw_i, nw_q, e3, e13, e14, e15, H.a4, st_1_m1 S3, st_1_m1 H.1, st_1_2 S3, st_1_2 H.1, st_4_m2 S3, st_4_m2 H.1, st_4_m1 S3, st_4_m1 H.1]; first | done | rfl | omega)) rfl rfl ?_
                    refine wp_aload_n rfl rfl dX11_ask_183 ?_
                    refine wp_getfield1 (z := 12) (kI := 13) fX11_172 dX11_ask_184 (by first | omega | (simp (disch := omega) only [up2_ne, up2_eq, nw_ne, nw_m1, nw_m2, nw_i, nw_q, e3, e13, e14, e15, H.a4, st_1_m1 S3, st_1_m1 H.1, st_1_2 S3, st_1_2 H.1, st_4_m2 S3, st_4_m2 H.1, st_4_m1 S3, st_4_m1 H.1]; first | done | omega)) (by first | assumption | (simp (disch := omega) only [up2_ne, up2_eq, nw_ne, nw_m1, nw_m2, nw_i, nw_q, e3, e13, e14, e15, H.a4, st_1_m1 S3, st_1_m1 H.1, st_1_2 S3, st_1_2 H.1, st_4_m2 S3, st_4_m2 H.1, st_4_m1 S3, st_4_m1 H.1]; first | done | rfl | omega)) rfl rfl ?_
                    try simp (disch := omega) only [up2_ne, up2_eq, nw_ne, nw_m1, nw_m2, nw_i, nw_q, e3, e13, e14, e15, H.a4, st_1_m1 S3, st_1_m1 H.1, st_1_2 S3, st_1_2 H.1, st_4_m2 S3, st_4_m2 H.1, st_4_m1 S3, st_4_m1 H.1]
                    refine wp_iconst dX11_ask_187 ?_
                    refine wp_isub dX11_ask_188 ?_
                    refine wp_iret dX11_ask_189 rfl ?_
                    first
                      | (exfalso; omega)
                      | (have q : ¬ asP k ho o t s dd := by omega
                         refine ⟨?_, hS, ?_, fun _ _ _ => rfl⟩
                         · unfold askV
                           rw [if_pos q]
                         · unfold askM
                           rw [if_neg (fun z => q z.1)]
                           exact e)
                      | (have q : asP k ho o t s dd := by omega
                         have q2 : asT m k s t dd = 0 := by assumption
                         refine ⟨?_, S3, ?_, r3⟩
                         · unfold askV
                           rw [if_neg (fun z => z q), if_pos q2]
                         · unfold askM
                           rw [if_neg (fun z => z.2.1 q2)]
                           exact e3)
                      | (have q : asP k ho o t s dd := by omega
                         have q2 : asT m k s t dd ≠ 0 := by assumption
                         have q3 : m 200 10 = 14 := by omega
                         refine ⟨?_, S3, ?_, r3⟩
                         · unfold askV
                           rw [if_neg (fun z => z q), if_neg q2, if_pos q3]
                         · unfold askM
                           rw [if_neg (fun z => z.2.2 q3)]
                           exact e3)
                      | (have q : asP k ho o t s dd := by omega
                         have q2 : asT m k s t dd ≠ 0 := by assumption
                         have q3 : m 200 10 ≠ 14 := by omega
                         refine ⟨?_, asC_St S3 (by omega) (by omega), ?_, fun x y z => (asC_re (by omega) x y z).trans (r3 x y z)⟩
                         · unfold askV
                           rw [if_neg (fun z => z q), if_neg q2, if_neg q3]
                           congr 1
                           omega
                         · unfold askM
                           rw [if_pos ⟨q, q2, q3⟩]
                           first
                             | (rw [if_pos (show k = 3 by assumption)]
                                exact asR_cl (asC_cl e3))
                             | (rw [if_neg (show ¬ k = 3 by assumption)]
                                exact asR_cl (asC_cl e3)))
                  · refine wp_iload_n rfl rfl dX11_ask_136 ?_
                    refine wp_goto (tgt := 141) dX11_ask_137 (by decide) ?_
                    refine wp_istore dX11_ask_141 rfl (Nat.le_of_ble_eq_true rfl) rfl ?_
                    try simp only [List.set_cons_zero, List.set_cons_succ]
                    refine wp_aload_n rfl rfl dX11_ask_143 ?_
                    refine wp_getfield1 (z := 12) (kI := 2) fX11_23 dX11_ask_144 (by first | omega | (simp (disch := omega) only [up2_ne, up2_eq, nw_ne, nw_m1, nw_m2, nw_i, nw_q, e3, e13, e14, e15, H.a4, st_1_m1 S3, st_1_m1 H.1, st_1_2 S3, st_1_2 H.1, st_4_m2 S3, st_4_m2 H.1, st_4_m1 S3, st_4_m1 H.1]; first | done | omega)) (by first | assumption | (simp (disch := omega) only [up2_ne, up2_eq, nw_ne, nw_m1, nw_m2, nw_i, nw_q, e3, e13, e14, e15, H.a4, st_1_m1 S3, st_1_m1 H.1, st_1_2 S3, st_1_2 H.1, st_4_m2 S3, st_4_m2 H.1, st_4_m1 S3, st_4_m1 H.1]; first | done | rfl | omega)) rfl rfl ?_
                    try simp (disch := omega) only [up2_ne, up2_eq, nw_ne, nw_m1, nw_m2, nw_i, nw_q, e3, e13, e14, e15, H.a4, st_1_m1 S3, st_1_m1 H.1, st_1_2 S3, st_1_2 H.1, st_4_m2 S3, st_4_m2 H.1, st_4_m1 S3, st_4_m1 H.1]
                    refine wp_aload_n rfl rfl dX11_ask_147 ?_
                    refine wp_getfield1 (z := 12) (kI := 13) fX11_172 dX11_ask_148 (by first | omega | (simp (disch := omega) only [up2_ne, up2_eq, nw_ne, nw_m1, nw_m2, nw_i, nw_q, e3, e13, e14, e15, H.a4, st_1_m1 S3, st_1_m1 H.1, st_1_2 S3, st_1_2 H.1, st_4_m2 S3, st_4_m2 H.1, st_4_m1 S3, st_4_m1 H.1]; first | done | omega)) (by first | assumption | (simp (disch := omega) only [up2_ne, up2_eq, nw_ne, nw_m1, nw_m2, nw_i, nw_q, e3, e13, e14, e15, H.a4, st_1_m1 S3, st_1_m1 H.1, st_1_2 S3, st_1_2 H.1, st_4_m2 S3, st_4_m2 H.1, st_4_m1 S3, st_4_m1 H.1]; first | done | rfl | omega)) rfl rfl ?_
                    try simp (disch := omega) only [up2_ne, up2_eq, nw_ne, nw_m1, nw_m2, nw_i, nw_q, e3, e13, e14, e15, H.a4, st_1_m1 S3, st_1_m1 H.1, st_1_2 S3, st_1_2 H.1, st_4_m2 S3, st_4_m2 H.1, st_4_m1 S3, st_4_m1 H.1]
                    refine wp_new1 (a := (120 + m 200 10)) (ci := 0) (b' := (b + 9)) (z := 1) rfl clX11_21 inX0 iniX0 dX11_ask_151 rfl (by omega) (by rw [e3 _ _ (by omega)]; exact hfr.1 (by omega)) (by show 12 + 1 + (b + 9) ≤ _; omega) ?_
                    refine wp_dup (by decide) dX11_ask_154 ?_
                    refine wp_iload_n rfl rfl dX11_ask_155 ?_
                    refine wp_iload_n rfl rfl dX11_ask_156 ?_
                    refine wp_iload rfl dX11_ask_157 ?_
                    refine wp_iload rfl dX11_ask_159 ?_
                    refine wp_iload rfl dX11_ask_161 ?_
                    refine wp_iload rfl dX11_ask_163 ?_
                    refine wp_aload_n rfl rfl dX11_ask_165 ?_
                    refine wp_getfield1 (z := 12) (kI := 15) fX11_165 dX11_ask_166 (by first | omega | (simp (disch := omega) only [up2_ne, up2_eq, nw_ne, nw_m1, nw_m2, nw_i, nw_q, e3, e13, e14, e15, H.a4, st_1_m1 S3, st_1_m1 H.1, st_1_2 S3, st_1_2 H.1, st_4_m2 S3, st_4_m2 H.1, st_4_m1 S3, st_4_m1 H.1]; first | done | omega)) (by first | assumption | (simp (disch := omega) only [up2_ne, up2_eq, nw_ne, nw_m1, nw_m2, nw_i, nw_q, e3, e13, e14, e15, H.a4, st_1_m1 S3, st_1_m1 H.1, st_1_2 S3, st_1_2 H.1, st_4_m2 S3, st_4_m2 H.1, st_4_m1 S3, st_4_m1 H.1]; first | done | rfl | omega)) rfl rfl ?_
                    try simp (disch := omega) only [up2_ne, up2_eq, nw_ne, nw_m1, nw_m2, nw_i, nw_q, e3, e13, e14, e15, H.a4, st_1_m1 S3, st_1_m1 H.1, st_1_2 S3, st_1_2 H.1, st_4_m2 S3, st_4_m2 H.1, st_4_m1 S3, st_4_m1 H.1]
                    refine wp_cI7v okX0_init ⟨rfl, rfl⟩ wX11_175 dX11_ask_169 (Nat.le_of_ble_eq_true rfl) (Nat.le_of_ble_eq_true rfl) (by first | omega | (simp (disch := omega) only [up2_ne, up2_eq, nw_ne, nw_m1, nw_m2, nw_i, nw_q, e3, e13, e14, e15, H.a4, st_1_m1 S3, st_1_m1 H.1, st_1_2 S3, st_1_2 H.1, st_4_m2 S3, st_4_m2 H.1, st_4_m1 S3, st_4_m1 H.1]; first | done | omega)) (s_X0_init (b := 0) (by omega) nw_m1 (mk := 140 + m 200 10) (by omega) (by rw [nw_ne (by omega), e3 _ _ (by omega)]; exact hfr.2 (by omega)) (by omega)) (by omega) ?_
                    try simp (disch := omega) only [up2_ne, up2_eq, nw_ne, nw_m1, nw_m2, nw_i, nw_q, e3, e13, e14, e15, H.a4, st_1_m1 S3, st_1_m1 H.1, st_1_2 S3, st_1_2 H.1, st_4_m2 S3, st_4_m2 H.1, st_4_m1 S3, st_4_m1 H.1]
                    refine wp_aastore1 (ci := 0) dX11_ask_172 (by first | omega | (simp (disch := omega) only [up2_ne, up2_eq, nw_ne, nw_m1, nw_m2, nw_i, nw_q, e3, e13, e14, e15, H.a4, st_1_m1 S3, st_1_m1 H.1, st_1_2 S3, st_1_2 H.1, st_4_m2 S3, st_4_m2 H.1, st_4_m1 S3, st_4_m1 H.1]; first | done | omega)) (by first | assumption | (simp (disch := omega) only [up2_ne, up2_eq, nw_ne, nw_m1, nw_m2, nw_i, nw_q, e3, e13, e14, e15, H.a4, st_1_m1 S3, st_1_m1 H.1, st_1_2 S3, st_1_2 H.1, st_4_m2 S3, st_4_m2 H.1, st_4_m1 S3, st_4_m1 H.1]; first | done | rfl | omega)) (by first | omega | (simp (disch := omega) only [up2_ne, up2_eq, nw_ne, nw_m1, nw_m2, nw_i, nw_q, e3, e13, e14, e15, H.a4, st_1_m1 S3, st_1_m1 H.1, st_1_2 S3, st_1_2 H.1, st_4_m2 S3, st_4_m2 H.1, st_4_m1 S3, st_4_m1 H.1]; first | done | omega)) (by first | omega | (simp (disch := omega) only [up2_ne, up2_eq, nw_ne, nw_m1, nw_m2, nw_i, nw_q, e3, e13, e14, e15, H.a4, st_1_m1 S3, st_1_m1 H.1, st_1_2 S3, st_1_2 H.1, st_4_m2 S3, st_4_m2 H.1, st_4_m1 S3, st_4_m1 H.1]; first | done | omega)) (by first | omega | (simp (disch := omega) only [up2_ne, up2_eq, nw_ne, nw_m1, nw_m2, nw_i, nw_q, e3, e13, e14, e15, H.a4, st_1_m1 S3, st_1_m1 H.1, st_1_2 S3, st_1_2 H.1, st_4_m2 S3, st_4_m2 H.1, st_4_m1 S3, st_4_m1 H.1]; first | done | omega)) (by first | assumption | (simp (disch := omega) only [up2_ne, up2_eq, nw_ne, nw_m1, nw_m2, nw_i, nw_q, e3, e13, e14, e15, H.a4, st_1_m1 S3, st_1_m1 H.1, st_1_2 S3, st_1_2 H.1, st_4_m2 S3, st_4_m2 H.1, st_4_m1 S3, st_4_m1 H.1]; first | done | rfl | omega)) (by decide) ?_
                    refine wp_aload_n rfl rfl dX11_ask_173 ?_
                    refine wp_dup (by decide) dX11_ask_174 ?_
                    refine wp_getfield1 (z := 12) (kI := 13) fX11_172 dX11_ask_175 (by first | omega | (simp (disch := omega) only [up2_ne, up2_eq, nw_ne, nw_m1, nw_m2, nw_i, nw_q, e3, e13, e14, e15, H.a4, st_1_m1 S3, st_1_m1 H.1, st_1_2 S3, st_1_2 H.1, st_4_m2 S3, st_4_m2 H.1, st_4_m1 S3, st_4_m1 H.1]; first | done | omega)) (by first | assumption | (simp (disch := omega) only [up2_ne, up2_eq, nw_ne, nw_m1, nw_m2, nw_i, nw_q, e3, e13, e14, e15, H.a4, st_1_m1 S3, st_1_m1 H.1, st_1_2 S3, st_1_2 H.1, st_4_m2 S3, st_4_m2 H.1, st_4_m1 S3, st_4_m1 H.1]; first | done | rfl | omega)) rfl rfl ?_
                    try simp (disch := omega) only [up2_ne, up2_eq, nw_ne, nw_m1, nw_m2, nw_i, nw_q, e3, e13, e14, e15, H.a4, st_1_m1 S3, st_1_m1 H.1, st_1_2 S3, st_1_2 H.1, st_4_m2 S3, st_4_m2 H.1, st_4_m1 S3, st_4_m1 H.1]
                    refine wp_iconst dX11_ask_178 ?_
                    refine wp_iadd dX11_ask_179 ?_
                    refine wp_putfield1 (z := 12) (kI := 13) fX11_172 dX11_ask_180 (by first | omega | (simp (disch := omega) only [up2_ne, up2_eq, nw_ne, nw_m1, nw_m2, nw_i, nw_q, e3, e13, e14, e15, H.a4, st_1_m1 S3, st_1_m1 H.1, st_1_2 S3, st_1_2 H.1, st_4_m2 S3, st_4_m2 H.1, st_4_m1 S3, st_4_m1 H.1]; first | done | omega)) (by first | assumption | (simp (disch := omega) only [up2_ne, up2_eq, nw_ne, nw_m1, nw_m2, nw_i, nw_q, e3, e13, e14, e15, H.a4, st_1_m1 S3, st_1_m1 H.1, st_1_2 S3, st_1_2 H.1, st_4_m2 S3, st_4_m2 H.1, st_4_m1 S3, st_4_m1 H.1]; first | done | rfl | omega)) rfl rfl ?_
                    refine wp_aload_n rfl rfl dX11_ask_183 ?_
                    refine wp_getfield1 (z := 12) (kI := 13) fX11_172 dX11_ask_184 (by first | omega | (simp (disch := omega) only [up2_ne, up2_eq, nw_ne, nw_m1, nw_m2, nw_i, nw_q, e3, e13, e14, e15, H.a4, st_1_m1 S3, st_1_m1 H.1, st_1_2 S3, st_1_2 H.1, st_4_m2 S3, st_4_m2 H.1, st_4_m1 S3, st_4_m1 H.1]; first | done | omega)) (by first | assumption | (simp (disch := omega) only [up2_ne, up2_eq, nw_ne, nw_m1, nw_m2, nw_i, nw_q, e3, e13, e14, e15, H.a4, st_1_m1 S3, st_1_m1 H.1, st_1_2 S3, st_1_2 H.1, st_4_m2 S3, st_4_m2 H.1, st_4_m1 S3, st_4_m1 H.1]; first | done | rfl | omega)) rfl rfl ?_
                    try simp (disch := omega) only [up2_ne, up2_eq, nw_ne, nw_m1, nw_m2, nw_i, nw_q, e3, e13, e14, e15, H.a4, st_1_m1 S3, st_1_m1 H.1, st_1_2 S3, st_1_2 H.1, st_4_m2 S3, st_4_m2 H.1, st_4_m1 S3, st_4_m1 H.1]
                    refine wp_iconst dX11_ask_187 ?_
                    refine wp_isub dX11_ask_188 ?_
                    refine wp_iret dX11_ask_189 rfl ?_
                    first
                      | (exfalso; omega)
                      | (have q : ¬ asP k ho o t s dd := by omega
                         refine ⟨?_, hS, ?_, fun _ _ _ => rfl⟩
                         · unfold askV
                           rw [if_pos q]
                         · unfold askM
                           rw [if_neg (fun z => q z.1)]
                           exact e)
                      | (have q : asP k ho o t s dd := by omega
                         have q2 : asT m k s t dd = 0 := by assumption
                         refine ⟨?_, S3, ?_, r3⟩
                         · unfold askV
                           rw [if_neg (fun z => z q), if_pos q2]
                         · unfold askM
                           rw [if_neg (fun z => z.2.1 q2)]
                           exact e3)
                      | (have q : asP k ho o t s dd := by omega
                         have q2 : asT m k s t dd ≠ 0 := by assumption
                         have q3 : m 200 10 = 14 := by omega
                         refine ⟨?_, S3, ?_, r3⟩
                         · unfold askV
                           rw [if_neg (fun z => z q), if_neg q2, if_pos q3]
                         · unfold askM
                           rw [if_neg (fun z => z.2.2 q3)]
                           exact e3)
                      | (have q : asP k ho o t s dd := by omega
                         have q2 : asT m k s t dd ≠ 0 := by assumption
                         have q3 : m 200 10 ≠ 14 := by omega
                         refine ⟨?_, asC_St S3 (by omega) (by omega), ?_, fun x y z => (asC_re (by omega) x y z).trans (r3 x y z)⟩
                         · unfold askV
                           rw [if_neg (fun z => z q), if_neg q2, if_neg q3]
                           congr 1
                           omega
                         · unfold askM
                           rw [if_pos ⟨q, q2, q3⟩]
                           first
                             | (rw [if_pos (show k = 3 by assumption)]
                                exact asR_cl (asC_cl e3))
                             | (rw [if_neg (show ¬ k = 3 by assumption)]
                                exact asR_cl (asC_cl e3)))
                · refine wp_bipush (by decide) dX11_ask_128 ?_
                  refine wp_iret dX11_ask_130 rfl ?_
                  first
                    | (exfalso; omega)
                    | (have q : ¬ asP k ho o t s dd := by omega
                       refine ⟨?_, hS, ?_, fun _ _ _ => rfl⟩
                       · unfold askV
                         rw [if_pos q]
                       · unfold askM
                         rw [if_neg (fun z => q z.1)]
                         exact e)
                    | (have q : asP k ho o t s dd := by omega
                       have q2 : asT m k s t dd = 0 := by assumption
                       refine ⟨?_, S3, ?_, r3⟩
                       · unfold askV
                         rw [if_neg (fun z => z q), if_pos q2]
                       · unfold askM
                         rw [if_neg (fun z => z.2.1 q2)]
                         exact e3)
                    | (have q : asP k ho o t s dd := by omega
                       have q2 : asT m k s t dd ≠ 0 := by assumption
                       have q3 : m 200 10 = 14 := by omega
                       refine ⟨?_, S3, ?_, r3⟩
                       · unfold askV
                         rw [if_neg (fun z => z q), if_neg q2, if_pos q3]
                       · unfold askM
                         rw [if_neg (fun z => z.2.2 q3)]
                         exact e3)
                    | (have q : asP k ho o t s dd := by omega
                       have q2 : asT m k s t dd ≠ 0 := by assumption
                       have q3 : m 200 10 ≠ 14 := by omega
                       refine ⟨?_, asC_St S3 (by omega) (by omega), ?_, fun x y z => (asC_re (by omega) x y z).trans (r3 x y z)⟩
                       · unfold askV
                         rw [if_neg (fun z => z q), if_neg q2, if_neg q3]
                         congr 1
                         omega
                       · unfold askM
                         rw [if_pos ⟨q, q2, q3⟩]
                         first
                           | (rw [if_pos (show k = 3 by assumption)]
                              exact asR_cl (asC_cl e3))
                           | (rw [if_neg (show ¬ k = 3 by assumption)]
                              exact asR_cl (asC_cl e3)))
              · refine wp_bipush (by decide) dX11_ask_113 ?_
                refine wp_iret dX11_ask_115 rfl ?_
                first
                  | (exfalso; omega)
                  | (have q : ¬ asP k ho o t s dd := by omega
                     refine ⟨?_, hS, ?_, fun _ _ _ => rfl⟩
                     · unfold askV
                       rw [if_pos q]
                     · unfold askM
                       rw [if_neg (fun z => q z.1)]
                       exact e)
                  | (have q : asP k ho o t s dd := by omega
                     have q2 : asT m k s t dd = 0 := by assumption
                     refine ⟨?_, S3, ?_, r3⟩
                     · unfold askV
                       rw [if_neg (fun z => z q), if_pos q2]
                     · unfold askM
                       rw [if_neg (fun z => z.2.1 q2)]
                       exact e3)
                  | (have q : asP k ho o t s dd := by omega
                     have q2 : asT m k s t dd ≠ 0 := by assumption
                     have q3 : m 200 10 = 14 := by omega
                     refine ⟨?_, S3, ?_, r3⟩
                     · unfold askV
                       rw [if_neg (fun z => z q), if_neg q2, if_pos q3]
                     · unfold askM
                       rw [if_neg (fun z => z.2.2 q3)]
                       exact e3)
                  | (have q : asP k ho o t s dd := by omega
                     have q2 : asT m k s t dd ≠ 0 := by assumption
                     have q3 : m 200 10 ≠ 14 := by omega
                     refine ⟨?_, asC_St S3 (by omega) (by omega), ?_, fun x y z => (asC_re (by omega) x y z).trans (r3 x y z)⟩
                     · unfold askV
                       rw [if_neg (fun z => z q), if_neg q2, if_neg q3]
                       congr 1
                       omega
                     · unfold askM
                       rw [if_pos ⟨q, q2, q3⟩]
                       first
                         | (rw [if_pos (show k = 3 by assumption)]
                            exact asR_cl (asC_cl e3))
                         | (rw [if_neg (show ¬ k = 3 by assumption)]
                            exact asR_cl (asC_cl e3)))
      · refine wp_iload_n rfl rfl dX11_ask_24 ?_
        refine wp_iconst dX11_ask_25 ?_
        refine wp_bipush (by decide) dX11_ask_26 ?_
        refine wp_cS3 okX11_isWithin wX11_98 dX11_ask_28 rfl (Nat.le_of_ble_eq_true rfl) (Nat.le_of_ble_eq_true rfl) (s_X11_isWithin (by first | assumption | exact ⟨by omega, by omega⟩) (by exact ⟨by decide, by decide⟩) (by exact ⟨by decide, by decide⟩)) (Nat.zero_le _) ?_
        try simp (disch := omega) only [up2_ne, up2_eq, nw_ne, nw_m1, nw_m2, nw_i, nw_q, e, e13, e14, e15, st_1_m1 hS, st_1_m1 H.1, st_1_2 hS, st_1_2 H.1, st_4_m2 hS, st_4_m2 H.1, st_4_m1 hS, st_4_m1 H.1]
        refine wp_ifB_eq (tgt := 72) dX11_ask_31 (by decide) (fun c10 => ?_) (fun c10 => ?_)
        · refine wp_iconst dX11_ask_72 ?_
          refine wp_istore dX11_ask_73 rfl (Nat.le_of_ble_eq_true rfl) rfl ?_
          try simp only [List.set_cons_zero, List.set_cons_succ]
          refine wp_iload rfl dX11_ask_75 ?_
          refine wp_if_ne (tgt := 83) (by first | assumption | exact bI_in _ | exact ⟨by omega, by omega⟩ | exact iAnd_in | exact iOr_in | exact iShr_in | exact iShl_in | exact iXor_in | exact hxs _) dX11_ask_77 (by decide) (fun hx => absurd hx (by decide)) (fun hx => ?_)
          refine wp_bipush (by decide) dX11_ask_80 ?_
          refine wp_iret dX11_ask_82 rfl ?_
          first
            | (exfalso; omega)
            | (have q : ¬ asP k ho o t s dd := by omega
               refine ⟨?_, hS, ?_, fun _ _ _ => rfl⟩
               · unfold askV
                 rw [if_pos q]
               · unfold askM
                 rw [if_neg (fun z => q z.1)]
                 exact e)
            | (have q : asP k ho o t s dd := by omega
               have q2 : asT m k s t dd = 0 := by assumption
               refine ⟨?_, S3, ?_, r3⟩
               · unfold askV
                 rw [if_neg (fun z => z q), if_pos q2]
               · unfold askM
                 rw [if_neg (fun z => z.2.1 q2)]
                 exact e3)
            | (have q : asP k ho o t s dd := by omega
               have q2 : asT m k s t dd ≠ 0 := by assumption
               have q3 : m 200 10 = 14 := by omega
               refine ⟨?_, S3, ?_, r3⟩
               · unfold askV
                 rw [if_neg (fun z => z q), if_neg q2, if_pos q3]
               · unfold askM
                 rw [if_neg (fun z => z.2.2 q3)]
                 exact e3)
            | (have q : asP k ho o t s dd := by omega
               have q2 : asT m k s t dd ≠ 0 := by assumption
               have q3 : m 200 10 ≠ 14 := by omega
               refine ⟨?_, asC_St S3 (by omega) (by omega), ?_, fun x y z => (asC_re (by omega) x y z).trans (r3 x y z)⟩
               · unfold askV
                 rw [if_neg (fun z => z q), if_neg q2, if_neg q3]
                 congr 1
                 omega
               · unfold askM
                 rw [if_pos ⟨q, q2, q3⟩]
                 first
                   | (rw [if_pos (show k = 3 by assumption)]
                      exact asR_cl (asC_cl e3))
                   | (rw [if_neg (show ¬ k = 3 by assumption)]
                      exact asR_cl (asC_cl e3)))
        · refine wp_iload rfl dX11_ask_34 ?_
          refine wp_iconst dX11_ask_36 ?_
          refine wp_iconst dX11_ask_37 ?_
          refine wp_cS3 okX11_isWithin wX11_98 dX11_ask_38 rfl (Nat.le_of_ble_eq_true rfl) (Nat.le_of_ble_eq_true rfl) (s_X11_isWithin (by first | assumption | exact ⟨by omega, by omega⟩) (by exact ⟨by decide, by decide⟩) (by exact ⟨by decide, by decide⟩)) (Nat.zero_le _) ?_
          try simp (disch := omega) only [up2_ne, up2_eq, nw_ne, nw_m1, nw_m2, nw_i, nw_q, e, e13, e14, e15, st_1_m1 hS, st_1_m1 H.1, st_1_2 hS, st_1_2 H.1, st_4_m2 hS, st_4_m2 H.1, st_4_m1 hS, st_4_m1 H.1]
          refine wp_ifB_eq (tgt := 72) dX11_ask_41 (by decide) (fun c11 => ?_) (fun c11 => ?_)
          · refine wp_iconst dX11_ask_72 ?_
            refine wp_istore dX11_ask_73 rfl (Nat.le_of_ble_eq_true rfl) rfl ?_
            try simp only [List.set_cons_zero, List.set_cons_succ]
            refine wp_iload rfl dX11_ask_75 ?_
            refine wp_if_ne (tgt := 83) (by first | assumption | exact bI_in _ | exact ⟨by omega, by omega⟩ | exact iAnd_in | exact iOr_in | exact iShr_in | exact iShl_in | exact iXor_in | exact hxs _) dX11_ask_77 (by decide) (fun hx => absurd hx (by decide)) (fun hx => ?_)
            refine wp_bipush (by decide) dX11_ask_80 ?_
            refine wp_iret dX11_ask_82 rfl ?_
            first
              | (exfalso; omega)
              | (have q : ¬ asP k ho o t s dd := by omega
                 refine ⟨?_, hS, ?_, fun _ _ _ => rfl⟩
                 · unfold askV
                   rw [if_pos q]
                 · unfold askM
                   rw [if_neg (fun z => q z.1)]
                   exact e)
              | (have q : asP k ho o t s dd := by omega
                 have q2 : asT m k s t dd = 0 := by assumption
                 refine ⟨?_, S3, ?_, r3⟩
                 · unfold askV
                   rw [if_neg (fun z => z q), if_pos q2]
                 · unfold askM
                   rw [if_neg (fun z => z.2.1 q2)]
                   exact e3)
              | (have q : asP k ho o t s dd := by omega
                 have q2 : asT m k s t dd ≠ 0 := by assumption
                 have q3 : m 200 10 = 14 := by omega
                 refine ⟨?_, S3, ?_, r3⟩
                 · unfold askV
                   rw [if_neg (fun z => z q), if_neg q2, if_pos q3]
                 · unfold askM
                   rw [if_neg (fun z => z.2.2 q3)]
                   exact e3)
              | (have q : asP k ho o t s dd := by omega
                 have q2 : asT m k s t dd ≠ 0 := by assumption
                 have q3 : m 200 10 ≠ 14 := by omega
                 refine ⟨?_, asC_St S3 (by omega) (by omega), ?_, fun x y z => (asC_re (by omega) x y z).trans (r3 x y z)⟩
                 · unfold askV
                   rw [if_neg (fun z => z q), if_neg q2, if_neg q3]
                   congr 1
                   omega
                 · unfold askM
                   rw [if_pos ⟨q, q2, q3⟩]
                   first
                     | (rw [if_pos (show k = 3 by assumption)]
                        exact asR_cl (asC_cl e3))
                     | (rw [if_neg (show ¬ k = 3 by assumption)]
                        exact asR_cl (asC_cl e3)))
          · refine wp_iload rfl dX11_ask_44 ?_
            refine wp_iconst dX11_ask_46 ?_
            refine wp_sipush (by decide) dX11_ask_47 ?_
            refine wp_cS3 okX11_isWithin wX11_98 dX11_ask_50 rfl (Nat.le_of_ble_eq_true rfl) (Nat.le_of_ble_eq_true rfl) (s_X11_isWithin (by first | assumption | exact ⟨by omega, by omega⟩) (by exact ⟨by decide, by decide⟩) (by exact ⟨by decide, by decide⟩)) (Nat.zero_le _) ?_
            try simp (disch := omega) only [up2_ne, up2_eq, nw_ne, nw_m1, nw_m2, nw_i, nw_q, e, e13, e14, e15, st_1_m1 hS, st_1_m1 H.1, st_1_2 hS, st_1_2 H.1, st_4_m2 hS, st_4_m2 H.1, st_4_m1 hS, st_4_m1 H.1]
            refine wp_ifB_eq (tgt := 72) dX11_ask_53 (by decide) (fun c12 => ?_) (fun c12 => ?_)
            · refine wp_iconst dX11_ask_72 ?_
              refine wp_istore dX11_ask_73 rfl (Nat.le_of_ble_eq_true rfl) rfl ?_
              try simp only [List.set_cons_zero, List.set_cons_succ]
              refine wp_iload rfl dX11_ask_75 ?_
              refine wp_if_ne (tgt := 83) (by first | assumption | exact bI_in _ | exact ⟨by omega, by omega⟩ | exact iAnd_in | exact iOr_in | exact iShr_in | exact iShl_in | exact iXor_in | exact hxs _) dX11_ask_77 (by decide) (fun hx => absurd hx (by decide)) (fun hx => ?_)
              refine wp_bipush (by decide) dX11_ask_80 ?_
              refine wp_iret dX11_ask_82 rfl ?_
              first
                | (exfalso; omega)
                | (have q : ¬ asP k ho o t s dd := by omega
                   refine ⟨?_, hS, ?_, fun _ _ _ => rfl⟩
                   · unfold askV
                     rw [if_pos q]
                   · unfold askM
                     rw [if_neg (fun z => q z.1)]
                     exact e)
                | (have q : asP k ho o t s dd := by omega
                   have q2 : asT m k s t dd = 0 := by assumption
                   refine ⟨?_, S3, ?_, r3⟩
                   · unfold askV
                     rw [if_neg (fun z => z q), if_pos q2]
                   · unfold askM
                     rw [if_neg (fun z => z.2.1 q2)]
                     exact e3)
                | (have q : asP k ho o t s dd := by omega
                   have q2 : asT m k s t dd ≠ 0 := by assumption
                   have q3 : m 200 10 = 14 := by omega
                   refine ⟨?_, S3, ?_, r3⟩
                   · unfold askV
                     rw [if_neg (fun z => z q), if_neg q2, if_pos q3]
                   · unfold askM
                     rw [if_neg (fun z => z.2.2 q3)]
                     exact e3)
                | (have q : asP k ho o t s dd := by omega
                   have q2 : asT m k s t dd ≠ 0 := by assumption
                   have q3 : m 200 10 ≠ 14 := by omega
                   refine ⟨?_, asC_St S3 (by omega) (by omega), ?_, fun x y z => (asC_re (by omega) x y z).trans (r3 x y z)⟩
                   · unfold askV
                     rw [if_neg (fun z => z q), if_neg q2, if_neg q3]
                     congr 1
                     omega
                   · unfold askM
                     rw [if_pos ⟨q, q2, q3⟩]
                     first
                       | (rw [if_pos (show k = 3 by assumption)]
                          exact asR_cl (asC_cl e3))
                       | (rw [if_neg (show ¬ k = 3 by assumption)]
                          exact asR_cl (asC_cl e3)))
            · refine wp_iload rfl dX11_ask_56 ?_
              refine wp_iconst dX11_ask_58 ?_
              refine wp_sipush (by decide) dX11_ask_59 ?_
              refine wp_cS3 okX11_isWithin wX11_98 dX11_ask_62 rfl (Nat.le_of_ble_eq_true rfl) (Nat.le_of_ble_eq_true rfl) (s_X11_isWithin (by first | assumption | exact ⟨by omega, by omega⟩) (by exact ⟨by decide, by decide⟩) (by exact ⟨by decide, by decide⟩)) (Nat.zero_le _) ?_
              try simp (disch := omega) only [up2_ne, up2_eq, nw_ne, nw_m1, nw_m2, nw_i, nw_q, e, e13, e14, e15, st_1_m1 hS, st_1_m1 H.1, st_1_2 hS, st_1_2 H.1, st_4_m2 hS, st_4_m2 H.1, st_4_m1 hS, st_4_m1 H.1]
              refine wp_ifB_eq (tgt := 72) dX11_ask_65 (by decide) (fun c13 => ?_) (fun c13 => ?_)
              · refine wp_iconst dX11_ask_72 ?_
                refine wp_istore dX11_ask_73 rfl (Nat.le_of_ble_eq_true rfl) rfl ?_
                try simp only [List.set_cons_zero, List.set_cons_succ]
                refine wp_iload rfl dX11_ask_75 ?_
                refine wp_if_ne (tgt := 83) (by first | assumption | exact bI_in _ | exact ⟨by omega, by omega⟩ | exact iAnd_in | exact iOr_in | exact iShr_in | exact iShl_in | exact iXor_in | exact hxs _) dX11_ask_77 (by decide) (fun hx => absurd hx (by decide)) (fun hx => ?_)
                refine wp_bipush (by decide) dX11_ask_80 ?_
                refine wp_iret dX11_ask_82 rfl ?_
                first
                  | (exfalso; omega)
                  | (have q : ¬ asP k ho o t s dd := by omega
                     refine ⟨?_, hS, ?_, fun _ _ _ => rfl⟩
                     · unfold askV
                       rw [if_pos q]
                     · unfold askM
                       rw [if_neg (fun z => q z.1)]
                       exact e)
                  | (have q : asP k ho o t s dd := by omega
                     have q2 : asT m k s t dd = 0 := by assumption
                     refine ⟨?_, S3, ?_, r3⟩
                     · unfold askV
                       rw [if_neg (fun z => z q), if_pos q2]
                     · unfold askM
                       rw [if_neg (fun z => z.2.1 q2)]
                       exact e3)
                  | (have q : asP k ho o t s dd := by omega
                     have q2 : asT m k s t dd ≠ 0 := by assumption
                     have q3 : m 200 10 = 14 := by omega
                     refine ⟨?_, S3, ?_, r3⟩
                     · unfold askV
                       rw [if_neg (fun z => z q), if_neg q2, if_pos q3]
                     · unfold askM
                       rw [if_neg (fun z => z.2.2 q3)]
                       exact e3)
                  | (have q : asP k ho o t s dd := by omega
                     have q2 : asT m k s t dd ≠ 0 := by assumption
                     have q3 : m 200 10 ≠ 14 := by omega
                     refine ⟨?_, asC_St S3 (by omega) (by omega), ?_, fun x y z => (asC_re (by omega) x y z).trans (r3 x y z)⟩
                     · unfold askV
                       rw [if_neg (fun z => z q), if_neg q2, if_neg q3]
                       congr 1
                       omega
                     · unfold askM
                       rw [if_pos ⟨q, q2, q3⟩]
                       first
                         | (rw [if_pos (show k = 3 by assumption)]
                            exact asR_cl (asC_cl e3))
                         | (rw [if_neg (show ¬ k = 3 by assumption)]
                            exact asR_cl (asC_cl e3)))
              · refine wp_iconst dX11_ask_68 ?_
                refine wp_goto (tgt := 73) dX11_ask_69 (by decide) ?_
                refine wp_istore dX11_ask_73 rfl (Nat.le_of_ble_eq_true rfl) rfl ?_
                try simp only [List.set_cons_zero, List.set_cons_succ]
                refine wp_iload rfl dX11_ask_75 ?_
                refine wp_if_ne (tgt := 83) (by first | assumption | exact bI_in _ | exact ⟨by omega, by omega⟩ | exact iAnd_in | exact iOr_in | exact iShr_in | exact iShl_in | exact iXor_in | exact hxs _) dX11_ask_77 (by decide) (fun hx => ?_) (fun hx => absurd hx (by decide))
                refine wp_aload_n rfl rfl dX11_ask_83 ?_
                refine wp_iload_n rfl rfl dX11_ask_84 ?_
                refine wp_iload rfl dX11_ask_85 ?_
                refine wp_iload rfl dX11_ask_87 ?_
                refine wp_iload rfl dX11_ask_89 ?_
                refine wp_cV4r (ci := 11) okX11_setFacts rfl rfl wX11_158 dX11_ask_91 (Nat.le_of_ble_eq_true rfl) (Nat.le_of_ble_eq_true rfl) (by first | omega | (simp (disch := omega) only [up2_ne, up2_eq, nw_ne, nw_m1, nw_m2, nw_i, nw_q, e, e13, e14, e15, st_1_m1 hS, st_1_m1 H.1, st_1_2 hS, st_1_2 H.1, st_4_m2 hS, st_4_m2 H.1, st_4_m1 hS, st_4_m1 H.1]; first | done | omega)) (by first | assumption | (simp (disch := omega) only [up2_ne, up2_eq, nw_ne, nw_m1, nw_m2, nw_i, nw_q, e, e13, e14, e15, st_1_m1 hS, st_1_m1 H.1, st_1_2 hS, st_1_2 H.1, st_4_m2 hS, st_4_m2 H.1, st_4_m1 hS, st_4_m1 H.1]; first | done | rfl | omega)) (s_X11_setFacts hS) (Nat.zero_le _) ?_
                rintro x g1 ⟨rfl, S1, K1, y0, y1, y2, y3⟩ -
                show WP _ _ _ _ _ _ _ [] _
                have e1 : Cl g1 m := fun x k z => by rw [K1 x k (by omega)]; exact e x k z
                refine wp_aload_n rfl rfl dX11_ask_94 ?_
                refine wp_iconst dX11_ask_95 ?_
                refine wp_iconst dX11_ask_96 ?_
                refine wp_iconst dX11_ask_97 ?_
                refine wp_cV3r (ci := 11) okX11_setReadingFacts rfl rfl wX11_161 dX11_ask_98 (Nat.le_of_ble_eq_true rfl) (Nat.le_of_ble_eq_true rfl) (by first | omega | (simp (disch := omega) only [up2_ne, up2_eq, nw_ne, nw_m1, nw_m2, nw_i, nw_q, e1, e13, e14, e15, H.a4, st_1_m1 S1, st_1_m1 H.1, st_1_2 S1, st_1_2 H.1, st_4_m2 S1, st_4_m2 H.1, st_4_m1 S1, st_4_m1 H.1]; first | done | omega)) (by first | assumption | (simp (disch := omega) only [up2_ne, up2_eq, nw_ne, nw_m1, nw_m2, nw_i, nw_q, e1, e13, e14, e15, H.a4, st_1_m1 S1, st_1_m1 H.1, st_1_2 S1, st_1_2 H.1, st_4_m2 S1, st_4_m2 H.1, st_4_m1 S1, st_4_m1 H.1]; first | done | rfl | omega)) (s_X11_setReadingFacts S1) (Nat.zero_le _) ?_
                rintro x g2 ⟨rfl, S2, K2, y4, y5, y6⟩ -
                show WP _ _ _ _ _ _ _ [] _
                have e2 : Cl g2 m := fun x k z => by rw [K2 x k (by omega)]; exact e1 x k z
                refine wp_aload_n rfl rfl dX11_ask_101 ?_
                refine wp_aload_n rfl rfl dX11_ask_102 ?_
                refine wp_getfield1 (z := 12) (kI := 15) fX11_165 dX11_ask_103 (by first | omega | (simp (disch := omega) only [up2_ne, up2_eq, nw_ne, nw_m1, nw_m2, nw_i, nw_q, e2, e13, e14, e15, H.a4, st_1_m1 S2, st_1_m1 H.1, st_1_2 S2, st_1_2 H.1, st_4_m2 S2, st_4_m2 H.1, st_4_m1 S2, st_4_m1 H.1]; first | done | omega)) (by first | assumption | (simp (disch := omega) only [up2_ne, up2_eq, nw_ne, nw_m1, nw_m2, nw_i, nw_q, e2, e13, e14, e15, H.a4, st_1_m1 S2, st_1_m1 H.1, st_1_2 S2, st_1_2 H.1, st_4_m2 S2, st_4_m2 H.1, st_4_m1 S2, st_4_m1 H.1]; first | done | rfl | omega)) rfl rfl ?_
                try simp (disch := omega) only [up2_ne, up2_eq, nw_ne, nw_m1, nw_m2, nw_i, nw_q, e2, e13, e14, e15, H.a4, st_1_m1 S2, st_1_m1 H.1, st_1_2 S2, st_1_2 H.1, st_4_m2 S2, st_4_m2 H.1, st_4_m1 S2, st_4_m1 H.1]
                refine wp_iconst dX11_ask_106 ?_
                refine wp_cV2r (ci := 11) okX11_reckon rfl rfl wX11_168 dX11_ask_107 (Nat.le_of_ble_eq_true rfl) (Nat.le_of_ble_eq_true rfl) (by first | omega | (simp (disch := omega) only [up2_ne, up2_eq, nw_ne, nw_m1, nw_m2, nw_i, nw_q, e2, e13, e14, e15, H.a4, st_1_m1 S2, st_1_m1 H.1, st_1_2 S2, st_1_2 H.1, st_4_m2 S2, st_4_m2 H.1, st_4_m1 S2, st_4_m1 H.1]; first | done | omega)) (by first | assumption | (simp (disch := omega) only [up2_ne, up2_eq, nw_ne, nw_m1, nw_m2, nw_i, nw_q, e2, e13, e14, e15, H.a4, st_1_m1 S2, st_1_m1 H.1, st_1_2 S2, st_1_2 H.1, st_4_m2 S2, st_4_m2 H.1, st_4_m1 S2, st_4_m1 H.1]; first | done | rfl | omega)) (s_X11_reckon H e2 S2 (by omega) (by omega) (by decide) (by decide) (f := fQ k s t dd) (fun i i0 i1 => by
    rcases (show i = 0 ∨ i = 1 ∨ i = 2 ∨ i = 3 ∨ i = 4 ∨ i = 5 ∨ i = 6 by omega) with rfl | rfl | rfl | rfl | rfl | rfl | rfl
    · rw [K2 _ _ (by omega), y0]; rfl
    · rw [K2 _ _ (by omega), y1]; rfl
    · rw [K2 _ _ (by omega), y2]; rfl
    · rw [K2 _ _ (by omega), y3]; rfl
    · rw [y4]; rfl
    · rw [y5]; rfl
    · rw [y6]; rfl) (fQ_in ik is it id)) (Nat.zero_le _) ?_
                rintro r g3 ⟨rfl, z1, S3, K3⟩ -
                show WP _ _ _ _ _ _ _ ((0, _) :: _) _
                have e3 : Cl g3 m := fun x k z => by rw [K3 x k (by omega)]; exact e2 x k z
                have r3 : Re h g3 := fun x k z => by rw [K3 x k (by omega), K2 x k (by omega), K1 x k (by omega)]
                refine wp_if_ne (tgt := 116) (by first | assumption | exact bI_in _ | exact ⟨by omega, by omega⟩ | exact iAnd_in | exact iOr_in | exact iShr_in | exact iShl_in | exact iXor_in | exact hxs _) dX11_ask_110 (by decide) (fun c14 => ?_) (fun c14 => ?_)
                · refine wp_aload_n rfl rfl dX11_ask_116 ?_
                  refine wp_getfield1 (z := 12) (kI := 13) fX11_172 dX11_ask_117 (by first | omega | (simp (disch := omega) only [up2_ne, up2_eq, nw_ne, nw_m1, nw_m2, nw_i, nw_q, e3, e13, e14, e15, H.a4, st_1_m1 S3, st_1_m1 H.1, st_1_2 S3, st_1_2 H.1, st_4_m2 S3, st_4_m2 H.1, st_4_m1 S3, st_4_m1 H.1]; first | done | omega)) (by first | assumption | (simp (disch := omega) only [up2_ne, up2_eq, nw_ne, nw_m1, nw_m2, nw_i, nw_q, e3, e13, e14, e15, H.a4, st_1_m1 S3, st_1_m1 H.1, st_1_2 S3, st_1_2 H.1, st_4_m2 S3, st_4_m2 H.1, st_4_m1 S3, st_4_m1 H.1]; first | done | rfl | omega)) rfl rfl ?_
                  try simp (disch := omega) only [up2_ne, up2_eq, nw_ne, nw_m1, nw_m2, nw_i, nw_q, e3, e13, e14, e15, H.a4, st_1_m1 S3, st_1_m1 H.1, st_1_2 S3, st_1_2 H.1, st_4_m2 S3, st_4_m2 H.1, st_4_m1 S3, st_4_m1 H.1]
                  refine wp_aload_n rfl rfl dX11_ask_120 ?_
                  refine wp_getfield1 (z := 12) (kI := 2) fX11_23 dX11_ask_121 (by first | omega | (simp (disch := omega) only [up2_ne, up2_eq, nw_ne, nw_m1, nw_m2, nw_i, nw_q, e3, e13, e14, e15, H.a4, st_1_m1 S3, st_1_m1 H.1, st_1_2 S3, st_1_2 H.1, st_4_m2 S3, st_4_m2 H.1, st_4_m1 S3, st_4_m1 H.1]; first | done | omega)) (by first | assumption | (simp (disch := omega) only [up2_ne, up2_eq, nw_ne, nw_m1, nw_m2, nw_i, nw_q, e3, e13, e14, e15, H.a4, st_1_m1 S3, st_1_m1 H.1, st_1_2 S3, st_1_2 H.1, st_4_m2 S3, st_4_m2 H.1, st_4_m1 S3, st_4_m1 H.1]; first | done | rfl | omega)) rfl rfl ?_
                  try simp (disch := omega) only [up2_ne, up2_eq, nw_ne, nw_m1, nw_m2, nw_i, nw_q, e3, e13, e14, e15, H.a4, st_1_m1 S3, st_1_m1 H.1, st_1_2 S3, st_1_2 H.1, st_4_m2 S3, st_4_m2 H.1, st_4_m1 S3, st_4_m1 H.1]
                  refine wp_alen1 dX11_ask_124 (by first | omega | (simp (disch := omega) only [up2_ne, up2_eq, nw_ne, nw_m1, nw_m2, nw_i, nw_q, e3, e13, e14, e15, H.a4, st_1_m1 S3, st_1_m1 H.1, st_1_2 S3, st_1_2 H.1, st_4_m2 S3, st_4_m2 H.1, st_4_m1 S3, st_4_m1 H.1]; first | done | omega)) (by first | omega | (simp (disch := omega) only [up2_ne, up2_eq, nw_ne, nw_m1, nw_m2, nw_i, nw_q, e3, e13, e14, e15, H.a4, st_1_m1 S3, st_1_m1 H.1, st_1_2 S3, st_1_2 H.1, st_4_m2 S3, st_4_m2 H.1, st_4_m1 S3, st_4_m1 H.1]; first | done | omega)) ?_
                  try simp (disch := omega) only [up2_ne, up2_eq, nw_ne, nw_m1, nw_m2, nw_i, nw_q, e3, e13, e14, e15, H.a4, st_1_m1 S3, st_1_m1 H.1, st_1_2 S3, st_1_2 H.1, st_4_m2 S3, st_4_m2 H.1, st_4_m1 S3, st_4_m1 H.1]
                  refine wp_icmp_lt (tgt := 131) (by first | assumption | exact bI_in _ | exact ⟨by omega, by omega⟩ | exact iAnd_in | exact iOr_in | exact iShr_in | exact iShl_in | exact iXor_in | exact hxs _) (by first | assumption | exact bI_in _ | exact ⟨by omega, by omega⟩ | exact iAnd_in | exact iOr_in | exact iShr_in | exact iShl_in | exact iXor_in | exact hxs _) dX11_ask_125 (by decide) (fun c15 => ?_) (fun c15 => ?_)
                  · refine wp_iload_n rfl rfl dX11_ask_131 ?_
                    refine wp_iconst dX11_ask_132 ?_
                    refine wp_icmp_ne (tgt := 140) (by first | assumption | exact bI_in _ | exact ⟨by omega, by omega⟩ | exact iAnd_in | exact iOr_in | exact iShr_in | exact iShl_in | exact iXor_in | exact hxs _) (by first | assumption | exact bI_in _ | exact ⟨by omega, by omega⟩ | exact iAnd_in | exact iOr_in | exact iShr_in | exact iShl_in | exact iXor_in | exact hxs _) dX11_ask_133 (by decide) (fun c16 => ?_) (fun c16 => ?_)
                    · refine wp_iconst dX11_ask_140 ?_
                      refine wp_istore dX11_ask_141 rfl (Nat.le_of_ble_eq_true rfl) rfl ?_
                      try simp only [List.set_cons_zero, List.set_cons_succ]
                      refine wp_aload_n rfl rfl dX11_ask_143 ?_
                      refine wp_getfield1 (z := 12) (kI := 2) fX11_23 dX11_ask_144 (by first | omega | (simp (disch := omega) only [up2_ne, up2_eq, nw_ne, nw_m1, nw_m2, nw_i, nw_q, e3, e13, e14, e15, H.a4, st_1_m1 S3, st_1_m1 H.1, st_1_2 S3, st_1_2 H.1, st_4_m2 S3, st_4_m2 H.1, st_4_m1 S3, st_4_m1 H.1]; first | done | omega)) (by first | assumption | (simp (disch := omega) only [up2_ne, up2_eq, nw_ne, nw_m1, nw_m2, nw_i, nw_q, e3, e13, e14, e15, H.a4, st_1_m1 S3, st_1_m1 H.1, st_1_2 S3, st_1_2 H.1, st_4_m2 S3, st_4_m2 H.1, st_4_m1 S3, st_4_m1 H.1]; first | done | rfl | omega)) rfl rfl ?_
                      try simp (disch := omega) only [up2_ne, up2_eq, nw_ne, nw_m1, nw_m2, nw_i, nw_q, e3, e13, e14, e15, H.a4, st_1_m1 S3, st_1_m1 H.1, st_1_2 S3, st_1_2 H.1, st_4_m2 S3, st_4_m2 H.1, st_4_m1 S3, st_4_m1 H.1]
                      refine wp_aload_n rfl rfl dX11_ask_147 ?_
                      refine wp_getfield1 (z := 12) (kI := 13) fX11_172 dX11_ask_148 (by first | omega | (simp (disch := omega) only [up2_ne, up2_eq, nw_ne, nw_m1, nw_m2, nw_i, nw_q, e3, e13, e14, e15, H.a4, st_1_m1 S3, st_1_m1 H.1, st_1_2 S3, st_1_2 H.1, st_4_m2 S3, st_4_m2 H.1, st_4_m1 S3, st_4_m1 H.1]; first | done | omega)) (by first | assumption | (simp (disch := omega) only [up2_ne, up2_eq, nw_ne, nw_m1, nw_m2, nw_i, nw_q, e3, e13, e14, e15, H.a4, st_1_m1 S3, st_1_m1 H.1, st_1_2 S3, st_1_2 H.1, st_4_m2 S3, st_4_m2 H.1, st_4_m1 S3, st_4_m1 H.1]; first | done | rfl | omega)) rfl rfl ?_
                      try simp (disch := omega) only [up2_ne, up2_eq, nw_ne, nw_m1, nw_m2, nw_i, nw_q, e3, e13, e14, e15, H.a4, st_1_m1 S3, st_1_m1 H.1, st_1_2 S3, st_1_2 H.1, st_4_m2 S3, st_4_m2 H.1, st_4_m1 S3, st_4_m1 H.1]
                      refine wp_new1 (a := (120 + m 200 10)) (ci := 0) (b' := (b + 9)) (z := 1) rfl clX11_21 inX0 iniX0 dX11_ask_151 rfl (by omega) (by rw [e3 _ _ (by omega)]; exact hfr.1 (by omega)) (by show 12 + 1 + (b + 9) ≤ _; omega) ?_
                      refine wp_dup (by decide) dX11_ask_154 ?_
                      refine wp_iload_n rfl rfl dX11_ask_155 ?_
                      refine wp_iload_n rfl rfl dX11_ask_156 ?_
                      refine wp_iload rfl dX11_ask_157 ?_
                      refine wp_iload rfl dX11_ask_159 ?_
                      refine wp_iload rfl dX11_ask_161 ?_
                      refine wp_iload rfl dX11_ask_163 ?_
                      refine wp_aload_n rfl rfl dX11_ask_165 ?_
                      refine wp_getfield1 (z := 12) (kI := 15) fX11_165 dX11_ask_166 (by first | omega | (simp (disch := omega) only [up2_ne, up2_eq, nw_ne, nw_m1, nw_m2, nw_i, nw_q, e3, e13, e14, e15, H.a4, st_1_m1 S3, st_1_m1 H.1, st_1_2 S3, st_1_2 H.1, st_4_m2 S3, st_4_m2 H.1, st_4_m1 S3, st_4_m1 H.1]; first | done | omega)) (by first | assumption | (simp (disch := omega) only [up2_ne, up2_eq, nw_ne, nw_m1, nw_m2, nw_i, nw_q, e3, e13, e14, e15, H.a4, st_1_m1 S3, st_1_m1 H.1, st_1_2 S3, st_1_2 H.1, st_4_m2 S3, st_4_m2 H.1, st_4_m1 S3, st_4_m1 H.1]; first | done | rfl | omega)) rfl rfl ?_
                      try simp (disch := omega) only [up2_ne, up2_eq, nw_ne, nw_m1, nw_m2, nw_i, nw_q, e3, e13, e14, e15, H.a4, st_1_m1 S3, st_1_m1 H.1, st_1_2 S3, st_1_2 H.1, st_4_m2 S3, st_4_m2 H.1, st_4_m1 S3, st_4_m1 H.1]
                      refine wp_cI7v okX0_init ⟨rfl, rfl⟩ wX11_175 dX11_ask_169 (Nat.le_of_ble_eq_true rfl) (Nat.le_of_ble_eq_true rfl) (by first | omega | (simp (disch := omega) only [up2_ne, up2_eq, nw_ne, nw_m1, nw_m2, nw_i, nw_q, e3, e13, e14, e15, H.a4, st_1_m1 S3, st_1_m1 H.1, st_1_2 S3, st_1_2 H.1, st_4_m2 S3, st_4_m2 H.1, st_4_m1 S3, st_4_m1 H.1]; first | done | omega)) (s_X0_init (b := 0) (by omega) nw_m1 (mk := 140 + m 200 10) (by omega) (by rw [nw_ne (by omega), e3 _ _ (by omega)]; exact hfr.2 (by omega)) (by omega)) (by omega) ?_
                      try simp (disch := omega) only [up2_ne, up2_eq, nw_ne, nw_m1, nw_m2, nw_i, nw_q, e3, e13, e14, e15, H.a4, st_1_m1 S3, st_1_m1 H.1, st_1_2 S3, st_1_2 H.1, st_4_m2 S3, st_4_m2 H.1, st_4_m1 S3, st_4_m1 H.1]
                      refine wp_aastore1 (ci := 0) dX11_ask_172 (by first | omega | (simp (disch := omega) only [up2_ne, up2_eq, nw_ne, nw_m1, nw_m2, nw_i, nw_q, e3, e13, e14, e15, H.a4, st_1_m1 S3, st_1_m1 H.1, st_1_2 S3, st_1_2 H.1, st_4_m2 S3, st_4_m2 H.1, st_4_m1 S3, st_4_m1 H.1]; first | done | omega)) (by first | assumption | (simp (disch := omega) only [up2_ne, up2_eq, nw_ne, nw_m1, nw_m2, nw_i, nw_q, e3, e13, e14, e15, H.a4, st_1_m1 S3, st_1_m1 H.1, st_1_2 S3, st_1_2 H.1, st_4_m2 S3, st_4_m2 H.1, st_4_m1 S3, st_4_m1 H.1]; first | done | rfl | omega)) (by first | omega | (simp (disch := omega) only [up2_ne, up2_eq, nw_ne, nw_m1, nw_m2, nw_i, nw_q, e3, e13, e14, e15, H.a4, st_1_m1 S3, st_1_m1 H.1, st_1_2 S3, st_1_2 H.1, st_4_m2 S3, st_4_m2 H.1, st_4_m1 S3, st_4_m1 H.1]; first | done | omega)) (by first | omega | (simp (disch := omega) only [up2_ne, up2_eq, nw_ne, nw_m1, nw_m2, nw_i, nw_q, e3, e13, e14, e15, H.a4, st_1_m1 S3, st_1_m1 H.1, st_1_2 S3, st_1_2 H.1, st_4_m2 S3, st_4_m2 H.1, st_4_m1 S3, st_4_m1 H.1]; first | done | omega)) (by first | omega | (simp (disch := omega) only [up2_ne, up2_eq, nw_ne, nw_m1, nw_m2, nw_i, nw_q, e3, e13, e14, e15, H.a4, st_1_m1 S3, st_1_m1 H.1, st_1_2 S3, st_1_2 H.1, st_4_m2 S3, st_4_m2 H.1, st_4_m1 S3, st_4_m1 H.1]; first | done | omega)) (by first | assumption | (simp (disch := omega) only [up2_ne, up2_eq, nw_ne, nw_m1, nw_m2, nw_i, nw_q, e3, e13, e14, e15, H.a4, st_1_m1 S3, st_1_m1 H.1, st_1_2 S3, st_1_2 H.1, st_4_m2 S3, st_4_m2 H.1, st_4_m1 S3, st_4_m1 H.1]; first | done | rfl | omega)) (by decide) ?_
                      refine wp_aload_n rfl rfl dX11_ask_173 ?_
                      refine wp_dup (by decide) dX11_ask_174 ?_
                      refine wp_getfield1 (z := 12) (kI := 13) fX11_172 dX11_ask_175 (by first | omega | (simp (disch := omega) only [up2_ne, up2_eq, nw_ne, nw_m1, nw_m2, nw_i, nw_q, e3, e13, e14, e15, H.a4, st_1_m1 S3, st_1_m1 H.1, st_1_2 S3, st_1_2 H.1, st_4_m2 S3, st_4_m2 H.1, st_4_m1 S3, st_4_m1 H.1]; first | done | omega)) (by first | assumption | (simp (disch := omega) only [up2_ne, up2_eq, nw_ne, nw_m1, nw_m2, nw_i, nw_q, e3, e13, e14, e15, H.a4, st_1_m1 S3, st_1_m1 H.1, st_1_2 S3, st_1_2 H.1, st_4_m2 S3, st_4_m2 H.1, st_4_m1 S3, st_4_m1 H.1]; first | done | rfl | omega)) rfl rfl ?_
                      try simp (disch := omega) only [up2_ne, up2_eq, nw_ne, nw_m1, nw_m2, nw_i, nw_q, e3, e13, e14, e15, H.a4, st_1_m1 S3, st_1_m1 H.1, st_1_2 S3, st_1_2 H.1, st_4_m2 S3, st_4_m2 H.1, st_4_m1 S3, st_4_m1 H.1]
                      refine wp_iconst dX11_ask_178 ?_
                      refine wp_iadd dX11_ask_179 ?_
                      refine wp_putfield1 (z := 12) (kI := 13) fX11_172 dX11_ask_180 (by first | omega | (simp (disch := omega) only [up2_ne, up2_eq, nw_ne, nw_m1, nw_m2, nw_i, nw_q, e3, e13, e14, e15, H.a4, st_1_m1 S3, st_1_m1 H.1, st_1_2 S3, st_1_2 H.1, st_4_m2 S3, st_4_m2 H.1, st_4_m1 S3, st_4_m1 H.1]; first | done | omega)) (by first | assumption | (simp (disch := omega) only [up2_ne, up2_eq, nw_ne, nw_m1, nw_m2, nw_i, nw_q, e3, e13, e14, e15, H.a4, st_1_m1 S3, st_1_m1 H.1, st_1_2 S3, st_1_2 H.1, st_4_m2 S3, st_4_m2 H.1, st_4_m1 S3, st_4_m1 H.1]; first | done | rfl | omega)) rfl rfl ?_
                      refine wp_aload_n rfl rfl dX11_ask_183 ?_
                      refine wp_getfield1 (z := 12) (kI := 13) fX11_172 dX11_ask_184 (by first | omega | (simp (disch := omega) only [up2_ne, up2_eq, nw_ne, nw_m1, nw_m2, nw_i, nw_q, e3, e13, e14, e15, H.a4, st_1_m1 S3, st_1_m1 H.1, st_1_2 S3, st_1_2 H.1, st_4_m2 S3, st_4_m2 H.1, st_4_m1 S3, st_4_m1 H.1]; first | done | omega)) (by first | assumption | (simp (disch := omega) only [up2_ne, up2_eq, nw_ne, nw_m1, nw_m2, nw_i, nw_q, e3, e13, e14, e15, H.a4, st_1_m1 S3, st_1_m1 H.1, st_1_2 S3, st_1_2 H.1, st_4_m2 S3, st_4_m2 H.1, st_4_m1 S3, st_4_m1 H.1]; first | done | rfl | omega)) rfl rfl ?_
                      try simp (disch := omega) only [up2_ne, up2_eq, nw_ne, nw_m1, nw_m2, nw_i, nw_q, e3, e13, e14, e15, H.a4, st_1_m1 S3, st_1_m1 H.1, st_1_2 S3, st_1_2 H.1, st_4_m2 S3, st_4_m2 H.1, st_4_m1 S3, st_4_m1 H.1]
                      refine wp_iconst dX11_ask_187 ?_
                      refine wp_isub dX11_ask_188 ?_
                      refine wp_iret dX11_ask_189 rfl ?_
                      first
                        | (exfalso; omega)
                        | (have q : ¬ asP k ho o t s dd := by omega
                           refine ⟨?_, hS, ?_, fun _ _ _ => rfl⟩
                           · unfold askV
                             rw [if_pos q]
                           · unfold askM
                             rw [if_neg (fun z => q z.1)]
                             exact e)
                        | (have q : asP k ho o t s dd := by omega
                           have q2 : asT m k s t dd = 0 := by assumption
                           refine ⟨?_, S3, ?_, r3⟩
                           · unfold askV
                             rw [if_neg (fun z => z q), if_pos q2]
                           · unfold askM
                             rw [if_neg (fun z => z.2.1 q2)]
                             exact e3)
                        | (have q : asP k ho o t s dd := by omega
                           have q2 : asT m k s t dd ≠ 0 := by assumption
                           have q3 : m 200 10 = 14 := by omega
                           refine ⟨?_, S3, ?_, r3⟩
                           · unfold askV
                             rw [if_neg (fun z => z q), if_neg q2, if_pos q3]
                           · unfold askM
                             rw [if_neg (fun z => z.2.2 q3)]
                             exact e3)
                        | (have q : asP k ho o t s dd := by omega
                           have q2 : asT m k s t dd ≠ 0 := by assumption
                           have q3 : m 200 10 ≠ 14 := by omega
                           refine ⟨?_, asC_St S3 (by omega) (by omega), ?_, fun x y z => (asC_re (by omega) x y z).trans (r3 x y z)⟩
                           · unfold askV
                             rw [if_neg (fun z => z q), if_neg q2, if_neg q3]
                             congr 1
                             omega
                           · unfold askM
                             rw [if_pos ⟨q, q2, q3⟩]
                             first
                               | (rw [if_pos (show k = 3 by assumption)]
                                  exact asR_cl (asC_cl e3))
                               | (rw [if_neg (show ¬ k = 3 by assumption)]
                                  exact asR_cl (asC_cl e3)))
                    · refine wp_iload_n rfl rfl dX11_ask_136 ?_
                      refine wp_goto (tgt := 141) dX11_ask_137 (by decide) ?_
                      refine wp_istore dX11_ask_141 rfl (Nat.le_of_ble_eq_true rfl) rfl ?_
                      try simp only [List.set_cons_zero, List.set_cons_succ]
                      refine wp_aload_n rfl rfl dX11_ask_143 ?_
                      refine wp_getfield1 (z := 12) (kI := 2) fX11_23 dX11_ask_144 (by first | omega | (simp (disch := omega) only [up2_ne, up2_eq, nw_ne, nw_m1, nw_m2, nw_i, nw_q, e3, e13, e14, e15, H.a4, st_1_m1 S3, st_1_m1 H.1, st_1_2 S3, st_1_2 H.1, st_4_m2 S3, st_4_m2 H.1, st_4_m1 S3, st_4_m1 H.1]; first | done | omega)) (by first | assumption | (simp (disch := omega) only [up2_ne, up2_eq, nw_ne, nw_m1, nw_m2, nw_i, nw_q, e3, e13, e14, e15, H.a4, st_1_m1 S3, st_1_m1 H.1, st_1_2 S3, st_1_2 H.1, st_4_m2 S3, st_4_m2 H.1, st_4_m1 S3, st_4_m1 H.1]; first | done | rfl | omega)) rfl rfl ?_
                      try simp (disch := omega) only [up2_ne, up2_eq, nw_ne, nw_m1, nw_m2, nw_i, nw_q, e3, e13, e14, e15, H.a4, st_1_m1 S3, st_1_m1 H.1, st_1_2 S3, st_1_2 H.1, st_4_m2 S3, st_4_m2 H.1, st_4_m1 S3, st_4_m1 H.1]
                      refine wp_aload_n rfl rfl dX11_ask_147 ?_
                      refine wp_getfield1 (z := 12) (kI := 13) fX11_172 dX11_ask_148 (by first | omega | (simp (disch := omega) only [up2_ne, up2_eq, nw_ne, nw_m1, nw_m2, nw_i, nw_q, e3, e13, e14, e15, H.a4, st_1_m1 S3, st_1_m1 H.1, st_1_2 S3, st_1_2 H.1, st_4_m2 S3, st_4_m2 H.1, st_4_m1 S3, st_4_m1 H.1]; first | done | omega)) (by first | assumption | (simp (disch := omega) only [up2_ne, up2_eq, nw_ne, nw_m1, nw_m2, nw_i, nw_q, e3, e13, e14, e15, H.a4, st_1_m1 S3, st_1_m1 H.1, st_1_2 S3, st_1_2 H.1, st_4_m2 S3, st_4_m2 H.1, st_4_m1 S3, st_4_m1 H.1]; first | done | rfl | omega)) rfl rfl ?_
                      try simp (disch := omega) only [up2_ne, up2_eq, nw_ne, nw_m1, nw_m2, nw_i, nw_q, e3, e13, e14, e15, H.a4, st_1_m1 S3, st_1_m1 H.1, st_1_2 S3, st_1_2 H.1, st_4_m2 S3, st_4_m2 H.1, st_4_m1 S3, st_4_m1 H.1]
                      refine wp_new1 (a := (120 + m 200 10)) (ci := 0) (b' := (b + 9)) (z := 1) rfl clX11_21 inX0 iniX0 dX11_ask_151 rfl (by omega) (by rw [e3 _ _ (by omega)]; exact hfr.1 (by omega)) (by show 12 + 1 + (b + 9) ≤ _; omega) ?_
                      refine wp_dup (by decide) dX11_ask_154 ?_
                      refine wp_iload_n rfl rfl dX11_ask_155 ?_
                      refine wp_iload_n rfl rfl dX11_ask_156 ?_
                      refine wp_iload rfl dX11_ask_157 ?_
                      refine wp_iload rfl dX11_ask_159 ?_
                      refine wp_iload rfl dX11_ask_161 ?_
                      refine wp_iload rfl dX11_ask_163 ?_
                      refine wp_aload_n rfl rfl dX11_ask_165 ?_
                      refine wp_getfield1 (z := 12) (kI := 15) fX11_165 dX11_ask_166 (by first | omega | (simp (disch := omega) only [up2_ne, up2_eq, nw_ne, nw_m1, nw_m2, nw_i, nw_q, e3, e13, e14, e15, H.a4, st_1_m1 S3, st_1_m1 H.1, st_1_2 S3, st_1_2 H.1, st_4_m2 S3, st_4_m2 H.1, st_4_m1 S3, st_4_m1 H.1]; first | done | omega)) (by first | assumption | (simp (disch := omega) only [up2_ne, up2_eq, nw_ne, nw_m1, nw_m2, nw_i, nw_q, e3, e13, e14, e15, H.a4, st_1_m1 S3, st_1_m1 H.1, st_1_2 S3, st_1_2 H.1, st_4_m2 S3, st_4_m2 H.1, st_4_m1 S3, st_4_m1 H.1]; first | done | rfl | omega)) rfl rfl ?_
                      try simp (disch := omega) only [up2_ne, up2_eq, nw_ne, nw_m1, nw_m2, nw_i, nw_q, e3, e13, e14, e15, H.a4, st_1_m1 S3, st_1_m1 H.1, st_1_2 S3, st_1_2 H.1, st_4_m2 S3, st_4_m2 H.1, st_4_m1 S3, st_4_m1 H.1]
                      refine wp_cI7v okX0_init ⟨rfl, rfl⟩ wX11_175 dX11_ask_169 (Nat.le_of_ble_eq_true rfl) (Nat.le_of_ble_eq_true rfl) (by first | omega | (simp (disch := omega) only [up2_ne, up2_eq, nw_ne, nw_m1, nw_m2, nw_i, nw_q, e3, e13, e14, e15, H.a4, st_1_m1 S3, st_1_m1 H.1, st_1_2 S3, st_1_2 H.1, st_4_m2 S3, st_4_m2 H.1, st_4_m1 S3, st_4_m1 H.1]; first | done | omega)) (s_X0_init (b := 0) (by omega) nw_m1 (mk := 140 + m 200 10) (by omega) (by rw [nw_ne (by omega), e3 _ _ (by omega)]; exact hfr.2 (by omega)) (by omega)) (by omega) ?_
                      try simp (disch := omega) only [up2_ne, up2_eq, nw_ne, nw_m1, nw_m2, nw_i, nw_q, e3, e13, e14, e15, H.a4, st_1_m1 S3, st_1_m1 H.1, st_1_2 S3, st_1_2 H.1, st_4_m2 S3, st_4_m2 H.1, st_4_m1 S3, st_4_m1 H.1]
                      refine wp_aastore1 (ci := 0) dX11_ask_172 (by first | omega | (simp (disch := omega) only [up2_ne, up2_eq, nw_ne, nw_m1, nw_m2, nw_i, nw_q, e3, e13, e14, e15, H.a4, st_1_m1 S3, st_1_m1 H.1, st_1_2 S3, st_1_2 H.1, st_4_m2 S3, st_4_m2 H.1, st_4_m1 S3, st_4_m1 H.1]; first | done | omega)) (by first | assumption | (simp (disch := omega) only [up2_ne, up2_eq, nw_ne, nw_m1, nw_m2, nw_i, nw_q, e3, e13, e14, e15, H.a4, st_1_m1 S3, st_1_m1 H.1, st_1_2 S3, st_1_2 H.1, st_4_m2 S3, st_4_m2 H.1, st_4_m1 S3, st_4_m1 H.1]; first | done | rfl | omega)) (by first | omega | (simp (disch := omega) only [up2_ne, up2_eq, nw_ne, nw_m1, nw_m2, nw_i, nw_q, e3, e13, e14, e15, H.a4, st_1_m1 S3, st_1_m1 H.1, st_1_2 S3, st_1_2 H.1, st_4_m2 S3, st_4_m2 H.1, st_4_m1 S3, st_4_m1 H.1]; first | done | omega)) (by first | omega | (simp (disch := omega) only [up2_ne, up2_eq, nw_ne, nw_m1, nw_m2, nw_i, nw_q, e3, e13, e14, e15, H.a4, st_1_m1 S3, st_1_m1 H.1, st_1_2 S3, st_1_2 H.1, st_4_m2 S3, st_4_m2 H.1, st_4_m1 S3, st_4_m1 H.1]; first | done | omega)) (by first | omega | (simp (disch := omega) only [up2_ne, up2_eq, nw_ne, nw_m1, nw_m2, nw_i, nw_q, e3, e13, e14, e15, H.a4, st_1_m1 S3, st_1_m1 H.1, st_1_2 S3, st_1_2 H.1, st_4_m2 S3, st_4_m2 H.1, st_4_m1 S3, st_4_m1 H.1]; first | done | omega)) (by first | assumption | (simp (disch := omega) only [up2_ne, up2_eq, nw_ne, nw_m1, nw_m2, nw_i, nw_q, e3, e13, e14, e15, H.a4, st_1_m1 S3, st_1_m1 H.1, st_1_2 S3, st_1_2 H.1, st_4_m2 S3, st_4_m2 H.1, st_4_m1 S3, st_4_m1 H.1]; first | done | rfl | omega)) (by decide) ?_
                      refine wp_aload_n rfl rfl dX11_ask_173 ?_
                      refine wp_dup (by decide) dX11_ask_174 ?_
                      refine wp_getfield1 (z := 12) (kI := 13) fX11_172 dX11_ask_175 (by first | omega | (simp (disch := omega) only [up2_ne, up2_eq, nw_ne, nw_m1, nw_m2, nw_i, nw_q, e3, e13, e14, e15, H.a4, st_1_m1 S3, st_1_m1 H.1, st_1_2 S3, st_1_2 H.1, st_4_m2 S3, st_4_m2 H.1, st_4_m1 S3, st_4_m1 H.1]; first | done | omega)) (by first | assumption | (simp (disch := omega) only [up2_ne, up2_eq, nw_ne, nw_m1, nw_m2, nw_i, nw_q, e3, e13, e14, e15, H.a4, st_1_m1 S3, st_1_m1 H.1, st_1_2 S3, st_1_2 H.1, st_4_m2 S3, st_4_m2 H.1, st_4_m1 S3, st_4_m1 H.1]; first | done | rfl | omega)) rfl rfl ?_
                      try simp (disch := omega) only [up2_ne, up2_eq, nw_ne, nw_m1, nw_m2, nw_i, nw_q, e3, e13, e14, e15, H.a4, st_1_m1 S3, st_1_m1 H.1, st_1_2 S3, st_1_2 H.1, st_4_m2 S3, st_4_m2 H.1, st_4_m1 S3, st_4_m1 H.1]
                      refine wp_iconst dX11_ask_178 ?_
                      refine wp_iadd dX11_ask_179 ?_
                      refine wp_putfield1 (z := 12) (kI := 13) fX11_172 dX11_ask_180 (by first | omega | (simp (disch := omega) only [up2_ne, up2_eq, nw_ne, nw_m1, nw_m2, nw_i, nw_q, e3, e13, e14, e15, H.a4, st_1_m1 S3, st_1_m1 H.1, st_1_2 S3, st_1_2 H.1, st_4_m2 S3, st_4_m2 H.1, st_4_m1 S3, st_4_m1 H.1]; first | done | omega)) (by first | assumption | (simp (disch := omega) only [up2_ne, up2_eq, nw_ne, nw_m1, nw_m2, nw_i, nw_q, e3, e13, e14, e15, H.a4, st_1_m1 S3, st_1_m1 H.1, st_1_2 S3, st_1_2 H.1, st_4_m2 S3, st_4_m2 H.1, st_4_m1 S3, st_4_m1 H.1]; first | done | rfl | omega)) rfl rfl ?_
                      refine wp_aload_n rfl rfl dX11_ask_183 ?_
                      refine wp_getfield1 (z := 12) (kI := 13) fX11_172 dX11_ask_184 (by first | omega | (simp (disch := omega) only [up2_ne, up2_eq, nw_ne, nw_m1, nw_m2, nw_i, nw_q, e3, e13, e14, e15, H.a4, st_1_m1 S3, st_1_m1 H.1, st_1_2 S3, st_1_2 H.1, st_4_m2 S3, st_4_m2 H.1, st_4_m1 S3, st_4_m1 H.1]; first | done | omega)) (by first | assumption | (simp (disch := omega) only [up2_ne, up2_eq, nw_ne, nw_m1, nw_m2, nw_i, nw_q, e3, e13, e14, e15, H.a4, st_1_m1 S3, st_1_m1 H.1, st_1_2 S3, st_1_2 H.1, st_4_m2 S3, st_4_m2 H.1, st_4_m1 S3, st_4_m1 H.1]; first | done | rfl | omega)) rfl rfl ?_
                      try simp (disch := omega) only [up2_ne, up2_eq, nw_ne, nw_m1, nw_m2, nw_i, nw_q, e3, e13, e14, e15, H.a4, st_1_m1 S3, st_1_m1 H.1, st_1_2 S3, st_1_2 H.1, st_4_m2 S3, st_4_m2 H.1, st_4_m1 S3, st_4_m1 H.1]
                      refine wp_iconst dX11_ask_187 ?_
                      refine wp_isub dX11_ask_188 ?_
                      refine wp_iret dX11_ask_189 rfl ?_
                      first
                        | (exfalso; omega)
                        | (have q : ¬ asP k ho o t s dd := by omega
                           refine ⟨?_, hS, ?_, fun _ _ _ => rfl⟩
                           · unfold askV
                             rw [if_pos q]
                           · unfold askM
                             rw [if_neg (fun z => q z.1)]
                             exact e)
                        | (have q : asP k ho o t s dd := by omega
                           have q2 : asT m k s t dd = 0 := by assumption
                           refine ⟨?_, S3, ?_, r3⟩
                           · unfold askV
                             rw [if_neg (fun z => z q), if_pos q2]
                           · unfold askM
                             rw [if_neg (fun z => z.2.1 q2)]
                             exact e3)
                        | (have q : asP k ho o t s dd := by omega
                           have q2 : asT m k s t dd ≠ 0 := by assumption
                           have q3 : m 200 10 = 14 := by omega
                           refine ⟨?_, S3, ?_, r3⟩
                           · unfold askV
                             rw [if_neg (fun z => z q), if_neg q2, if_pos q3]
                           · unfold askM
                             rw [if_neg (fun z => z.2.2 q3)]
                             exact e3)
                        | (have q : asP k ho o t s dd := by omega
                           have q2 : asT m k s t dd ≠ 0 := by assumption
                           have q3 : m 200 10 ≠ 14 := by omega
                           refine ⟨?_, asC_St S3 (by omega) (by omega), ?_, fun x y z => (asC_re (by omega) x y z).trans (r3 x y z)⟩
                           · unfold askV
                             rw [if_neg (fun z => z q), if_neg q2, if_neg q3]
                             congr 1
                             omega
                           · unfold askM
                             rw [if_pos ⟨q, q2, q3⟩]
                             first
                               | (rw [if_pos (show k = 3 by assumption)]
                                  exact asR_cl (asC_cl e3))
                               | (rw [if_neg (show ¬ k = 3 by assumption)]
                                  exact asR_cl (asC_cl e3)))
                  · refine wp_bipush (by decide) dX11_ask_128 ?_
                    refine wp_iret dX11_ask_130 rfl ?_
                    first
                      | (exfalso; omega)
                      | (have q : ¬ asP k ho o t s dd := by omega
                         refine ⟨?_, hS, ?_, fun _ _ _ => rfl⟩
                         · unfold askV
                           rw [if_pos q]
                         · unfold askM
                           rw [if_neg (fun z => q z.1)]
                           exact e)
                      | (have q : asP k ho o t s dd := by omega
                         have q2 : asT m k s t dd = 0 := by assumption
                         refine ⟨?_, S3, ?_, r3⟩
                         · unfold askV
                           rw [if_neg (fun z => z q), if_pos q2]
                         · unfold askM
                           rw [if_neg (fun z => z.2.1 q2)]
                           exact e3)
                      | (have q : asP k ho o t s dd := by omega
                         have q2 : asT m k s t dd ≠ 0 := by assumption
                         have q3 : m 200 10 = 14 := by omega
                         refine ⟨?_, S3, ?_, r3⟩
                         · unfold askV
                           rw [if_neg (fun z => z q), if_neg q2, if_pos q3]
                         · unfold askM
                           rw [if_neg (fun z => z.2.2 q3)]
                           exact e3)
                      | (have q : asP k ho o t s dd := by omega
                         have q2 : asT m k s t dd ≠ 0 := by assumption
                         have q3 : m 200 10 ≠ 14 := by omega
                         refine ⟨?_, asC_St S3 (by omega) (by omega), ?_, fun x y z => (asC_re (by omega) x y z).trans (r3 x y z)⟩
                         · unfold askV
                           rw [if_neg (fun z => z q), if_neg q2, if_neg q3]
                           congr 1
                           omega
                         · unfold askM
                           rw [if_pos ⟨q, q2, q3⟩]
                           first
                             | (rw [if_pos (show k = 3 by assumption)]
                                exact asR_cl (asC_cl e3))
                             | (rw [if_neg (show ¬ k = 3 by assumption)]
                                exact asR_cl (asC_cl e3)))
                · refine wp_bipush (by decide) dX11_ask_113 ?_
                  refine wp_iret dX11_ask_115 rfl ?_
                  first
                    | (exfalso; omega)
                    | (have q : ¬ asP k ho o t s dd := by omega
                       refine ⟨?_, hS, ?_, fun _ _ _ => rfl⟩
                       · unfold askV
                         rw [if_pos q]
                       · unfold askM
                         rw [if_neg (fun z => q z.1)]
                         exact e)
                    | (have q : asP k ho o t s dd := by omega
                       have q2 : asT m k s t dd = 0 := by assumption
                       refine ⟨?_, S3, ?_, r3⟩
                       · unfold askV
                         rw [if_neg (fun z => z q), if_pos q2]
                       · unfold askM
                         rw [if_neg (fun z => z.2.1 q2)]
                         exact e3)
                    | (have q : asP k ho o t s dd := by omega
                       have q2 : asT m k s t dd ≠ 0 := by assumption
                       have q3 : m 200 10 = 14 := by omega
                       refine ⟨?_, S3, ?_, r3⟩
                       · unfold askV
                         rw [if_neg (fun z => z q), if_neg q2, if_pos q3]
                       · unfold askM
                         rw [if_neg (fun z => z.2.2 q3)]
                         exact e3)
                    | (have q : asP k ho o t s dd := by omega
                       have q2 : asT m k s t dd ≠ 0 := by assumption
                       have q3 : m 200 10 ≠ 14 := by omega
                       refine ⟨?_, asC_St S3 (by omega) (by omega), ?_, fun x y z => (asC_re (by omega) x y z).trans (r3 x y z)⟩
                       · unfold askV
                         rw [if_neg (fun z => z q), if_neg q2, if_neg q3]
                         congr 1
                         omega
                       · unfold askM
                         rw [if_pos ⟨q, q2, q3⟩]
                         first
                           | (rw [if_pos (show k = 3 by assumption)]
                              exact asR_cl (asC_cl e3))
                           | (rw [if_neg (show ¬ k = 3 by assumption)]
                              exact asR_cl (asC_cl e3)))
