/-! ===== pairs: readerTold, told, count ===== -/
theorem Cl_rfl {h : mH} : Cl h h := fun _ _ _ => rfl
theorem Cr_rfl {h : mH} : Cr h h := fun _ _ _ => rfl
theorem kv1_b {h : mH} {r a : Int} : 0 ≤ kv h w1 r a ∧ kv h w1 r a ≤ 1 := by unfold kv w1; split <;> omega
theorem tA_b {h : mH} {a : Int} (n0 : 0 ≤ h 200 6) (n1 : h 200 6 ≤ 8) : 0 ≤ tA h w1 a ∧ tA h w1 a ≤ 8 := by
  have := sm_bnd (f := fun r => kv h w1 r a) (lo := 0) (hi := 1) (h 200 6).toNat (fun i _ => kv1_b)
  unfold tA
  omega
theorem tR_b {h : mH} {r : Int} (n0 : 0 ≤ h 200 10) (n1 : h 200 10 ≤ 14) : 0 ≤ tR h w1 r ∧ tR h w1 r ≤ 14 := by
  have := sm_bnd (f := fun a => kv h w1 r a) (lo := 0) (hi := 1) (h 200 10).toNat (fun i _ => kv1_b)
  unfold tR
  omega
theorem tT_b {h : mH} (n0 : 0 ≤ h 200 10) (n1 : h 200 10 ≤ 14) (r0 : 0 ≤ h 200 6) (r1 : h 200 6 ≤ 8) : 0 ≤ tT h w1 ∧ tT h w1 ≤ 112 := by
  have := sm_bnd (f := fun a => tA h w1 a) (lo := 0) (hi := 8) (h 200 10).toNat (fun i _ => tA_b r0 r1)
  unfold tT
  omega
theorem grs_b {h : mH} (n0 : 0 ≤ h 200 10) (n1 : h 200 10 ≤ 14) : 0 ≤ grs h ∧ grs h ≤ 14 := by
  have := sm_bnd (f := fun a => bI (h 221 a ≠ -1)) (lo := 0) (hi := 1) (h 200 10).toNat (fun i _ => by have := bI_01 (h 221 i ≠ -1); omega)
  unfold grs
  omega
theorem bt_01 {x i : Int} (hx : 0 ≤ x) (hx2 : x < 2147483648) (h0 : 0 ≤ i) (h1 : i < 32) : 0 ≤ bt x i ∧ bt x i ≤ 1 := by
  rw [bt_eq hx hx2 h0 h1]
  omega
theorem rds_b {j : Nat} {h : mH} (H : Inv j h) {r : Int} (r0 : 0 ≤ r) (r1 : r < 8) : 0 ≤ rds h r ∧ rds h r ≤ 14 := by
  have hn := H.ns
  have := sm_bnd (f := rdsF h r) (lo := 0) (hi := 1) (h 200 10).toNat (fun i hi => by
    have := H.ra (a := (i : Int)) (by omega) (by omega)
    exact bt_01 (by omega) (by omega) r0 (by omega))
  unfold rds
  omega
theorem needM_b {k : Int} : 1 ≤ needM k ∧ needM k ≤ 3 := by
  unfold needM
  split
  · omega
  · split <;> omega
theorem Inv.gb {j : Nat} {h : mH} (H : Inv j h) {a : Int} (a0 : 0 ≤ a) (a1 : a < h 200 10) : (-1 ≤ h 221 a ∧ h 221 a < 5) ∧ (0 ≤ h 225 a ∧ h 225 a ≤ 4) ∧ (0 ≤ h 226 a ∧ h 226 a ≤ 9999) ∧ (0 ≤ h 227 a ∧ h 227 a ≤ 9999) := by
  have hn := H.ns
  have hr := H.ra a0 (by omega)
  have := H.2.2.2.2.2.2.1 a a0 (by omega)
  rcases this with q | q | q
  · exact ⟨by omega, by omega, by omega, by omega⟩
  · exact ⟨by omega, by omega, by omega, by omega⟩
  · exfalso; omega
theorem p_readerTold {u : gT} (j : Nat) (h : mH) (hj : j < 512) (hI : Inv j h) (x what : Int) (i1 : InI x) (i2 : InI what) : PairI u Inv MX11_readerTold MX12_readerTold [(0, x), (0, what)] j h := by
  have hS := hI.1
  have hn := hI.ns
  have hr := (s_X12_readerTold (u := u) (d := 2044) (b := 0) hI Cr_rfl hS i1 i2).rlt
  by_cases q : 0 ≤ x ∧ x < h 200 6
  · rw [if_pos q] at hr
    have h1 := hI.rr2 q.1 (by omega)
    have h2 := rds_b hI q.1 (by omega)
    have h3 := tR_b (h := h) (r := x) (by omega) (by omega)
    have h4 := hI.2.2.2.1 x q.1 (by omega)
    refine (readerTold_t (d := 2043) (b := 300) hI Cl_rfl hS q.1 q.2 i2).rlt.mono ?_
    rintro r h1 ⟨rfl, rfl⟩ -
    refine ⟨_, rfl, ?_, hr.mono ?_⟩
    · repeat' split
      all_goals exact ⟨by omega, by omega⟩
    · rintro r h2 ⟨rfl, rfl⟩ -
      exact ⟨rfl, Inv_same hI⟩
  · rw [if_neg q] at hr
    refine (readerTold_f (d := 2043) (b := 300) hI Cl_rfl hS i1 q i2).rlt.mono ?_
    rintro r h1 ⟨rfl, rfl⟩ -
    refine ⟨_, rfl, ⟨by decide, by decide⟩, hr.mono ?_⟩
    rintro r h2 ⟨rfl, rfl⟩ -
    exact ⟨rfl, Inv_same hI⟩
theorem p_told {u : gT} (j : Nat) (h : mH) (hj : j < 512) (hI : Inv j h) (x what : Int) (i1 : InI x) (i2 : InI what) : PairI u Inv MX11_told MX12_told [(0, x), (0, what)] j h := by
  have hS := hI.1
  have hn := hI.ns
  have hr := (s_X12_told (u := u) (d := 2044) (b := 0) hI Cr_rfl hS i1 i2).rlt
  by_cases q : 0 ≤ x ∧ x < h 200 10
  · rw [if_pos q] at hr
    have h1 := hI.ra q.1 (by omega)
    have h2 := hI.gb q.1 q.2
    have h3 := tA_b (h := h) (a := x) (by omega) (by omega)
    have h4 := needM_b (k := h 211 x)
    rcases hI.gr q.1 q.2 with g | g
    · refine (told_n (d := 2043) (b := 300) hI Cl_rfl hS q.1 q.2 i2 g.1).rlt.mono ?_
      rintro r h1 ⟨rfl, rfl⟩ -
      refine ⟨_, rfl, ?_, hr.mono ?_⟩
      · repeat' split
        all_goals exact ⟨by omega, by omega⟩
      · rintro r h2 ⟨rfl, rfl⟩ -
        exact ⟨rfl, Inv_same hI⟩
    · refine (told_g (d := 2043) (b := 300) hI Cl_rfl hS q.1 q.2 i2 g.1 g.2.2.2.1).rlt.mono ?_
      rintro r h1 ⟨rfl, rfl⟩ -
      refine ⟨_, rfl, ?_, hr.mono ?_⟩
      · repeat' split
        all_goals exact ⟨by omega, by omega⟩
      · rintro r h2 ⟨rfl, rfl⟩ -
        exact ⟨rfl, Inv_same hI⟩
  · rw [if_neg q] at hr
    refine (told_f (d := 2043) (b := 300) hI Cl_rfl hS i1 q i2).rlt.mono ?_
    rintro r h1 ⟨rfl, rfl⟩ -
    refine ⟨_, rfl, ⟨by decide, by decide⟩, hr.mono ?_⟩
    rintro r h2 ⟨rfl, rfl⟩ -
    exact ⟨rfl, Inv_same hI⟩
theorem p_count {u : gT} (j : Nat) (h : mH) (hj : j < 512) (hI : Inv j h) (what : Int) (i1 : InI what) : PairI u Inv MX11_count MX12_count [(0, what)] j h := by
  have hS := hI.1
  have hn := hI.ns
  have h3 := tT_b (h := h) (by omega) (by omega) (by omega) (by omega)
  have h4 := grs_b (h := h) (by omega) (by omega)
  refine (s_X11_count (d := 2042) (b := 300) hI Cl_rfl hS i1).rlt.mono ?_
  rintro r h1 ⟨rfl, rfl⟩ -
  refine ⟨_, rfl, ?_, (s_X12_count (u := u) (d := 2044) (b := 0) hI Cr_rfl hS i1).rlt.mono ?_⟩
  · repeat' split
    all_goals exact ⟨by omega, by omega⟩
  · rintro r h2 ⟨rfl, rfl⟩ -
    exact ⟨rfl, Inv_same hI⟩
