/-! ===== the law, from its entry ===== -/
set_option maxHeartbeats 4000000 in
theorem law_main (u : gT) (hL : u.2.2.2.1 ≤ 3584) (hxs : ∀ j : Nat, InI (u.2.2.2.2.1 j)) (hfm : u.2.2.2.2.2 ≤ -10 ∨ u.2.2.2.2.2 = -1) : WP (gX (gq u)) ML_law 2048 600000 (fun r _ => r = (0, 1)) 0 [(2, -10), (9, 0), (9, 0), (9, 0)] [] (fun a k => if a ≤ -10 ∧ k = -1 then 99 else 0) := by
  have hz : ∀ x : Int, 0 ≤ x → h00 x (-1) = 0 := fun x x0 => h00_0 x0
  show WP (gX (gq u)) ML_law 2048 600000 (fun r _ => r = (0, 1)) 0 [(2, -10), (9, 0), (9, 0), (9, 0)] [] (hl (gX (gq u)) [] h00)
  refine wp_newL (a := 1) (ci := 11) (b' := 599983) (z := 12) rfl clL_7 inX11 iniX11 dL_law_0 rfl (by decide) (hl_new hz (by decide) (by decide +kernel)) (Nat.le_of_ble_eq_true rfl) ?_
  refine wp_dup (by decide) dL_law_3 ?_
  refine wp_cI0r okX11_init ⟨rfl, rfl⟩ wL_9 dL_law_4 (Nat.le_of_ble_eq_true rfl) (Nat.le_of_ble_eq_true rfl) (by decide) (s_X11_init (d := 1949) hfm hz) (Nat.le_of_ble_eq_true rfl) ?_
  rintro r g ⟨rfl, g1, e1, X1, q1, c1, rfl⟩ -
  have B : B1 u g1 := ⟨e1, X1, q1, c1⟩
  have hzM : ∀ x : Int, 200 ≤ x → hl (gX (gq u)) LB11 g1 x (-1) = 0 := fun x hx => by
    rw [hl_ge (fun q hq => by have := LB_lt q hq; omega), e1 x (-1) (by omega), hl_ge (fun q hq => by have := LA_lt q hq; omega)]
    exact h00_0 (by omega)
  show WP _ _ _ _ _ _ _ [(2, 1)] (hl (gX (gq u)) [] (hl (gX (gq u)) LB11 g1))
  refine wp_astore_n rfl dL_law_7 rfl (Nat.le_of_ble_eq_true rfl) rfl ?_
  try simp only [List.set_cons_zero, List.set_cons_succ]
  refine wp_newL (a := 200) (ci := 12) (b' := 596182) (z := 13) rfl clL_10 inX12 iniX12 dL_law_8 rfl (by decide) (hl_newM hzM (by decide) (by decide +kernel)) (Nat.le_of_ble_eq_true rfl) ?_
  refine wp_dup (by decide) dL_law_11 ?_
  refine wp_cI0v okX12_init ⟨rfl, rfl⟩ wL_12 dL_law_12 (Nat.le_of_ble_eq_true rfl) (Nat.le_of_ble_eq_true rfl) (by decide) (s_X12_init (d := 2045) hzM) (Nat.le_of_ble_eq_true rfl) ?_
  refine wp_astore_n rfl dL_law_15 rfl (Nat.le_of_ble_eq_true rfl) rfl ?_
  try simp only [List.set_cons_zero, List.set_cons_succ]
  refine wp_iconst dL_law_16 ?_
  refine wp_istore_n rfl dL_law_17 rfl (Nat.le_of_ble_eq_true rfl) rfl ?_
  try simp only [List.set_cons_zero, List.set_cons_succ]
  have hI : Inv 0 (F2 u g1) := Inv_0 B
  have z := law_loop u Inv hL hxs (fun _ _ H => H.1) (fun _ _ H => Inv_same H) (fun j h hj hI a1 i1 => p_fund j h hj hI a1 i1) (fun j h hj hI a1 a2 i1 i2 => p_give j h hj hI a1 a2 i1 i2) (fun j h hj hI a1 a2 i1 i2 => p_fundTold j h hj hI a1 a2 i1 i2) (fun j h hj hI a1 a2 a3 i1 i2 i3 => p_reader j h hj hI a1 a2 a3 i1 i2 i3) (fun j h hj hI a1 a2 i1 i2 => p_readerTold j h hj hI a1 a2 i1 i2) (fun j h hj hI a1 a2 a3 a4 a5 a6 i1 i2 i3 i4 i5 i6 => p_ask j h hj hI a1 a2 a3 a4 a5 a6 i1 i2 i3 i4 i5 i6) (fun j h hj hI a1 a2 a3 a4 i1 i2 i3 i4 => p_asks j h hj hI a1 a2 a3 a4 i1 i2 i3 i4) (fun j h hj hI a1 a2 i1 i2 => p_told j h hj hI a1 a2 i1 i2) (fun j h hj hI a1 a2 i1 i2 => p_feed j h hj hI a1 a2 i1 i2) (fun j h hj hI => p_text hfm j h hj hI) (fun j h hj hI a1 i1 => p_force j h hj hI a1 i1) (fun j h hj hI a1 a2 a3 i1 i2 i3 => p_says j h hj hI a1 a2 a3 i1 i2 i3) (fun j h hj hI a1 a2 i1 i2 => p_bar j h hj hI a1 a2 i1 i2) (fun j h hj hI a1 a2 i1 i2 => p_barred j h hj hI a1 a2 i1 i2) (fun j h hj hI => p_deal j h hj hI) (fun j h hj hI => p_places j h hj hI) (fun j h hj hI a1 a2 a3 i1 i2 i3 => p_mark j h hj hI a1 a2 a3 i1 i2 i3) (fun j h hj hI a1 a2 i1 i2 => p_worth j h hj hI a1 a2 i1 i2) (fun j h hj hI a1 a2 i1 i2 => p_fit j h hj hI a1 a2 i1 i2) (fun j h hj hI a1 i1 => p_choose j h hj hI a1 i1) (fun j h hj hI a1 a2 a3 a4 a5 i1 i2 i3 i4 i5 => p_grant j h hj hI a1 a2 a3 a4 a5 i1 i2 i3 i4 i5) (fun j h hj hI a1 a2 i1 i2 => p_proof j h hj hI a1 a2 i1 i2) (fun j h hj hI a1 a2 i1 i2 => p_due j h hj hI a1 a2 i1 i2) (fun j h hj hI a1 i1 => p_stop j h hj hI a1 i1) (fun j h hj hI a1 a2 i1 i2 => p_back j h hj hI a1 a2 i1 i2) (fun j h hj hI a1 i1 => p_count j h hj hI a1 i1) (fun j h hj hI a1 a2 a3 i1 i2 i3 => p_sheet j h hj hI a1 a2 a3 i1 i2 i3) (fun j h hj hI a1 a2 a3 i1 i2 i3 => p_cell j h hj hI a1 a2 a3 i1 i2 i3) (fun j h hj hI a1 a2 i1 i2 => p_taken j h hj hI a1 a2 i1 i2) 0 (Nat.zero_le _) (F2 u g1) hI
  exact WP.bud (Nat.le_of_ble_eq_true rfl) z
