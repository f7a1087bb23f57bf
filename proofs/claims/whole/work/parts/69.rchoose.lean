/-! ===== choose: the reference's walk, the pair ===== -/
abbrev Kf (h g : mH) : Prop := ∀ x k : Int, ¬ ((x = 200 ∧ (k = 48 ∨ k = 49)) ∨ ((x = 244 ∨ x = 250 ∨ x = 251) ∧ 0 ≤ k)) → g x k = h x k
theorem Kf.cr {h g m : mH} (k : Kf h g) (e : Cr h m) : Cr g m := fun x y q => by rw [k x y (by omega)]; exact e x y q
def fI (m h g : mH) (f : Int) (n : Nat) : Prop := St g ∧ Kf h g ∧ ∀ k : Nat, k < n → g 250 k = bI (fitP m f k) ∧ g 251 k = wC m k
theorem sW_b {j : Nat} {m : mH} (H : Inv j m) {S : Int} (n : Nat) (hn : (n : Int) ≤ m 200 10) : -100000000 * (n : Int) ≤ sW m S n ∧ sW m S n ≤ 100000000 * (n : Int) ∧ 0 ≤ sC m S n ∧ sC m S n ≤ 9999 * (n : Int) := by
  have hN := H.ns
  have h1 := sm_bnd (f := fun a => if bt S a = 1 then wC m a else 0) (lo := -100000000) (hi := 100000000) n (fun i hi => by
    have := wUL_b H (a := (i : Int)) (by omega) (by omega)
    split <;> omega)
  have h2 := sm_bnd (f := fun a => if bt S a = 1 then m 215 a else 0) (lo := 0) (hi := 9999) n (fun i hi => by
    have := H.ra (a := (i : Int)) (by omega) (by omega)
    split <;> omega)
  unfold sW sC
  omega
theorem rb_b {j : Nat} {m : mH} (H : Inv j m) {f L : Int} {A : Nat} (hA : (A : Int) ≤ m 200 10) (N : Nat) : -1400000000 ≤ (rb m f L A N).1 ∧ (rb m f L A N).1 ≤ 1400000000 ∧ 0 ≤ (rb m f L A N).2.1 ∧ (rb m f L A N).2.1 ≤ 139986 := by
  have hN := H.ns
  rcases (rb_ok (m := m) (f := f) (L := L) (A := A) N).1 with z | ⟨S, z1, z2, z3, z4⟩
  · rw [z]
    decide
  · rw [z4]
    have := sW_b H (S := S) A hA
    show -1400000000 ≤ sW m S A ∧ sW m S A ≤ 1400000000 ∧ 0 ≤ sC m S A ∧ sC m S A ≤ 139986
    omega
set_option maxHeartbeats 2000000 in
theorem rchoose_t {u : gT} {j : Nat} {h m : mH} {d b : Nat} (H : Inv j m) (e : Cr h m) (hS : St h) {f : Int} (f0 : 0 ≤ f) (f1 : f < m 200 0) (hj : j < 512) : Rlt (gX (gq u)) MX12_choose (d + 8) b [(2, 200), (0, f)] h (fun r h1 => r = (0, (rb m f (m 203 f) (m 200 10).toNat (2 ^ (m 200 10).toNat - 1)).2.2) ∧ St h1 ∧ Kf h h1) := by
  refine Rlt.of ?_
  have hn := H.ns
  have i1 : InI f := ⟨by omega, by omega⟩
  have hfl := H.flb f0 (by omega)
  have hpw : (2 : Int) ^ (m 200 10).toNat = ((2 ^ (m 200 10).toNat : Nat) : Int) := by rw [Int.natCast_pow]; rfl
  have hp1 : (1 : Nat) ≤ 2 ^ (m 200 10).toNat := Nat.one_le_two_pow
  have hp2 : 2 ^ (m 200 10).toNat ≤ 2 ^ 14 := Nat.pow_le_pow_right (by decide) (by omega)
  have hsh : iShl 1 (m 200 10) = ((2 ^ (m 200 10).toNat : Nat) : Int) := by
    rw [iShl_eq (by decide) (by omega) (by omega) (by rw [hpw]; omega), Int.one_mul, hpw]
  have loop2 : ∀ g, fI m h g f (m 200 10).toNat → ∀ n : Nat, n ≤ 2 ^ (m 200 10).toNat - 1 → WP (gX (gq u)) MX12_choose (d + 8) b (fun r h1 => r = (0, (rb m f (m 203 f) (m 200 10).toNat (2 ^ (m 200 10).toNat - 1)).2.2) ∧ St h1 ∧ Kf h h1) 60 [(2, 200), (0, f), (0, (rb m f (m 203 f) (m 200 10).toNat n).2.2), (0, (rb m f (m 203 f) (m 200 10).toNat n).1), (0, (rb m f (m 203 f) (m 200 10).toNat n).2.1), (0, (n : Int) + 1), (9, 0), (9, 0), (9, 0), (9, 0)] [] g := by
    intro g I
    have gS := I.1
    have ge : Cr g m := I.2.1.cr e
    refine loop_w (2 ^ (m 200 10).toNat - 1) (fun n hn2 ih => ?_)
    have hrb := rb_b H (f := f) (L := m 203 f) (A := (m 200 10).toNat) (by omega) n
    have hrs : rb m f (m 203 f) (m 200 10).toNat (n + 1) = if gdB m f ((n : Int) + 1) (m 200 10).toNat = 1 ∧ sC m ((n : Int) + 1) (m 200 10).toNat ≤ m 203 f ∧ ((rb m f (m 203 f) (m 200 10).toNat n).1 < sW m ((n : Int) + 1) (m 200 10).toNat ∨ (sW m ((n : Int) + 1) (m 200 10).toNat = (rb m f (m 203 f) (m 200 10).toNat n).1 ∧ sC m ((n : Int) + 1) (m 200 10).toNat < (rb m f (m 203 f) (m 200 10).toNat n).2.1)) then sT m ((n : Int) + 1) (m 200 10).toNat else (rb m f (m 203 f) (m 200 10).toNat n) := rfl
    rw [hrs] at ih
    clear hrs
    generalize hB : rb m f (m 203 f) (m 200 10).toNat n = B at *
    have inner : n < 2 ^ (m 200 10).toNat - 1 → ∀ a : Nat, a ≤ (m 200 10).toNat → WP (gX (gq u)) MX12_choose (d + 8) b (fun r h1 => r = (0, (rb m f (m 203 f) (m 200 10).toNat (2 ^ (m 200 10).toNat - 1)).2.2) ∧ St h1 ∧ Kf h h1) 83 [(2, 200), (0, f), (0, B.2.2), (0, B.1), (0, B.2.1), (0, (n : Int) + 1), (0, sW m ((n : Int) + 1) a), (0, sC m ((n : Int) + 1) a), (0, gdB m f ((n : Int) + 1) a), (0, (a : Int))] [] g := by
      intro hn3
      refine loop_w (m 200 10).toNat (fun a ha2 iha => ?_)
      have hwb := sW_b H (S := (n : Int) + 1) a (by omega)
      have hgd := gdB_01 (m := m) (f := f) (S := (n : Int) + 1) a
      have hgs : gdB m f ((n : Int) + 1) (a + 1) = if bt ((n : Int) + 1) a = 1 ∧ ¬ fitP m f a then 0 else gdB m f ((n : Int) + 1) a := rfl
      have hws : sW m ((n : Int) + 1) (a + 1) = sW m ((n : Int) + 1) a + (if bt ((n : Int) + 1) a = 1 then wC m a else 0) := rfl
      have hcs : sC m ((n : Int) + 1) (a + 1) = sC m ((n : Int) + 1) a + (if bt ((n : Int) + 1) a = 1 then m 215 a else 0) := rfl
      rw [hgs, hws, hcs] at iha
      clear hgs hws hcs
      have h50 := fun z : a < (m 200 10).toNat => (I.2.2 a z).1
      have h51 := fun z : a < (m 200 10).toNat => (I.2.2 a z).2
      have hbt := bt_01 (x := (n : Int) + 1) (i := (a : Int)) (by omega) (by omega) (by omega) (by omega)
      refine wp_iload rfl dX12_choose_83 ?_
      refine wp_aload_n rfl rfl dX12_choose_85 ?_
      refine wp_getfield1 (z := 13) (kI := 10) fX12_10 dX12_choose_86 (by first | omega | (simp (disch := omega) only [up2_ne, up2_eq, h50, h51, ge, hsh, st_200_m1 gS, st_200_m1 H.1, st_200_3 gS, st_200_3 H.1, st_200_15 gS, st_200_15 H.1, st_200_50 gS, st_200_50 H.1, st_200_51 gS, st_200_51 H.1, st_203_m2 gS, st_203_m2 H.1, st_203_m1 gS, st_203_m1 H.1, st_215_m2 gS, st_215_m2 H.1, st_215_m1 gS, st_215_m1 H.1, st_250_m2 gS, st_250_m2 H.1, st_250_m1 gS, st_250_m1 H.1, st_251_m2 gS, st_251_m2 H.1, st_251_m1 gS, st_251_m1 H.1]; first | done | omega)) (by first | assumption | (simp (disch := omega) only [up2_ne, up2_eq, h50, h51, ge, hsh, st_200_m1 gS, st_200_m1 H.1, st_200_3 gS, st_200_3 H.1, st_200_15 gS, st_200_15 H.1, st_200_50 gS, st_200_50 H.1, st_200_51 gS, st_200_51 H.1, st_203_m2 gS, st_203_m2 H.1, st_203_m1 gS, st_203_m1 H.1, st_215_m2 gS, st_215_m2 H.1, st_215_m1 gS, st_215_m1 H.1, st_250_m2 gS, st_250_m2 H.1, st_250_m1 gS, st_250_m1 H.1, st_251_m2 gS, st_251_m2 H.1, st_251_m1 gS, st_251_m1 H.1]; first | done | rfl | omega)) rfl rfl ?_
      try simp (disch := omega) only [up2_ne, up2_eq, h50, h51, ge, hsh, st_200_m1 gS, st_200_m1 H.1, st_200_3 gS, st_200_3 H.1, st_200_15 gS, st_200_15 H.1, st_200_50 gS, st_200_50 H.1, st_200_51 gS, st_200_51 H.1, st_203_m2 gS, st_203_m2 H.1, st_203_m1 gS, st_203_m1 H.1, st_215_m2 gS, st_215_m2 H.1, st_215_m1 gS, st_215_m1 H.1, st_250_m2 gS, st_250_m2 H.1, st_250_m1 gS, st_250_m1 H.1, st_251_m2 gS, st_251_m2 H.1, st_251_m1 gS, st_251_m1 H.1]
      refine wp_icmp_ge (tgt := 155) (by first | assumption | exact bI_in _ | exact ⟨by omega, by omega⟩ | exact iAnd_in | exact iOr_in | exact iShr_in | exact iShl_in | exact iXor_in | exact hxs _) (by first | assumption | exact bI_in _ | exact ⟨by omega, by omega⟩ | exact iAnd_in | exact iOr_in | exact iShr_in | exact iShl_in | exact iXor_in | exact hxs _) dX12_choose_89 (by decide) (fun c1 => ?_) (fun c1 => ?_)
      · refine wp_iload rfl dX12_choose_155 ?_
        refine wp_if_eq (tgt := 200) (by first | assumption | exact bI_in _ | exact ⟨by omega, by omega⟩ | exact iAnd_in | exact iOr_in | exact iShr_in | exact iShl_in | exact iXor_in | exact hxs _) dX12_choose_157 (by decide) (fun c2 => ?_) (fun c2 => ?_)
        · refine wp_iinc rfl rfl dX12_choose_200 rfl rfl ?_
          try simp only [List.set_cons_zero, List.set_cons_succ]
          refine wp_goto (tgt := 60) dX12_choose_203 (by decide) ?_
          refine wp_dropAt 6 rfl (wp_dropAt 7 rfl (wp_dropAt 8 rfl (wp_dropAt 9 rfl ?_)))
          have ea : a = (m 200 10).toNat := by omega
          subst ea
          have z := ih (by omega)
          rw [show ((n + 1 : Nat) : Int) + 1 = (n : Int) + 1 + 1 by omega] at z
          first
            | (rw [if_pos (by omega)] at z
               exact z)
            | (rw [if_neg (by omega)] at z
               exact z)
        · refine wp_iload rfl dX12_choose_160 ?_
          refine wp_aload_n rfl rfl dX12_choose_162 ?_
          refine wp_getfield1 (z := 13) (kI := 3) fX12_33 dX12_choose_163 (by first | omega | (simp (disch := omega) only [up2_ne, up2_eq, h50, h51, ge, hsh, st_200_m1 gS, st_200_m1 H.1, st_200_3 gS, st_200_3 H.1, st_200_15 gS, st_200_15 H.1, st_200_50 gS, st_200_50 H.1, st_200_51 gS, st_200_51 H.1, st_203_m2 gS, st_203_m2 H.1, st_203_m1 gS, st_203_m1 H.1, st_215_m2 gS, st_215_m2 H.1, st_215_m1 gS, st_215_m1 H.1, st_250_m2 gS, st_250_m2 H.1, st_250_m1 gS, st_250_m1 H.1, st_251_m2 gS, st_251_m2 H.1, st_251_m1 gS, st_251_m1 H.1]; first | done | omega)) (by first | assumption | (simp (disch := omega) only [up2_ne, up2_eq, h50, h51, ge, hsh, st_200_m1 gS, st_200_m1 H.1, st_200_3 gS, st_200_3 H.1, st_200_15 gS, st_200_15 H.1, st_200_50 gS, st_200_50 H.1, st_200_51 gS, st_200_51 H.1, st_203_m2 gS, st_203_m2 H.1, st_203_m1 gS, st_203_m1 H.1, st_215_m2 gS, st_215_m2 H.1, st_215_m1 gS, st_215_m1 H.1, st_250_m2 gS, st_250_m2 H.1, st_250_m1 gS, st_250_m1 H.1, st_251_m2 gS, st_251_m2 H.1, st_251_m1 gS, st_251_m1 H.1]; first | done | rfl | omega)) rfl rfl ?_
          try simp (disch := omega) only [up2_ne, up2_eq, h50, h51, ge, hsh, st_200_m1 gS, st_200_m1 H.1, st_200_3 gS, st_200_3 H.1, st_200_15 gS, st_200_15 H.1, st_200_50 gS, st_200_50 H.1, st_200_51 gS, st_200_51 H.1, st_203_m2 gS, st_203_m2 H.1, st_203_m1 gS, st_203_m1 H.1, st_215_m2 gS, st_215_m2 H.1, st_215_m1 gS, st_215_m1 H.1, st_250_m2 gS, st_250_m2 H.1, st_250_m1 gS, st_250_m1 H.1, st_251_m2 gS, st_251_m2 H.1, st_251_m1 gS, st_251_m1 H.1]
          refine wp_iload_n rfl rfl dX12_choose_166 ?_
          refine wp_iaload1 dX12_choose_167 (by first | omega | (simp (disch := omega) only [up2_ne, up2_eq, h50, h51, ge, hsh, st_200_m1 gS, st_200_m1 H.1, st_200_3 gS, st_200_3 H.1, st_200_15 gS, st_200_15 H.1, st_200_50 gS, st_200_50 H.1, st_200_51 gS, st_200_51 H.1, st_203_m2 gS, st_203_m2 H.1, st_203_m1 gS, st_203_m1 H.1, st_215_m2 gS, st_215_m2 H.1, st_215_m1 gS, st_215_m1 H.1, st_250_m2 gS, st_250_m2 H.1, st_250_m1 gS, st_250_m1 H.1, st_251_m2 gS, st_251_m2 H.1, st_251_m1 gS, st_251_m1 H.1]; first | done | omega)) (by first | assumption | (simp (disch := omega) only [up2_ne, up2_eq, h50, h51, ge, hsh, st_200_m1 gS, st_200_m1 H.1, st_200_3 gS, st_200_3 H.1, st_200_15 gS, st_200_15 H.1, st_200_50 gS, st_200_50 H.1, st_200_51 gS, st_200_51 H.1, st_203_m2 gS, st_203_m2 H.1, st_203_m1 gS, st_203_m1 H.1, st_215_m2 gS, st_215_m2 H.1, st_215_m1 gS, st_215_m1 H.1, st_250_m2 gS, st_250_m2 H.1, st_250_m1 gS, st_250_m1 H.1, st_251_m2 gS, st_251_m2 H.1, st_251_m1 gS, st_251_m1 H.1]; first | done | rfl | omega)) (by first | omega | (simp (disch := omega) only [up2_ne, up2_eq, h50, h51, ge, hsh, st_200_m1 gS, st_200_m1 H.1, st_200_3 gS, st_200_3 H.1, st_200_15 gS, st_200_15 H.1, st_200_50 gS, st_200_50 H.1, st_200_51 gS, st_200_51 H.1, st_203_m2 gS, st_203_m2 H.1, st_203_m1 gS, st_203_m1 H.1, st_215_m2 gS, st_215_m2 H.1, st_215_m1 gS, st_215_m1 H.1, st_250_m2 gS, st_250_m2 H.1, st_250_m1 gS, st_250_m1 H.1, st_251_m2 gS, st_251_m2 H.1, st_251_m1 gS, st_251_m1 H.1]; first | done | omega)) (by first | omega | (simp (disch := omega) only [up2_ne, up2_eq, h50, h51, ge, hsh, st_200_m1 gS, st_200_m1 H.1, st_200_3 gS, st_200_3 H.1, st_200_15 gS, st_200_15 H.1, st_200_50 gS, st_200_50 H.1, st_200_51 gS, st_200_51 H.1, st_203_m2 gS, st_203_m2 H.1, st_203_m1 gS, st_203_m1 H.1, st_215_m2 gS, st_215_m2 H.1, st_215_m1 gS, st_215_m1 H.1, st_250_m2 gS, st_250_m2 H.1, st_250_m1 gS, st_250_m1 H.1, st_251_m2 gS, st_251_m2 H.1, st_251_m1 gS, st_251_m1 H.1]; first | done | omega)) ?_
          try simp (disch := omega) only [up2_ne, up2_eq, h50, h51, ge, hsh, st_200_m1 gS, st_200_m1 H.1, st_200_3 gS, st_200_3 H.1, st_200_15 gS, st_200_15 H.1, st_200_50 gS, st_200_50 H.1, st_200_51 gS, st_200_51 H.1, st_203_m2 gS, st_203_m2 H.1, st_203_m1 gS, st_203_m1 H.1, st_215_m2 gS, st_215_m2 H.1, st_215_m1 gS, st_215_m1 H.1, st_250_m2 gS, st_250_m2 H.1, st_250_m1 gS, st_250_m1 H.1, st_251_m2 gS, st_251_m2 H.1, st_251_m1 gS, st_251_m1 H.1]
          refine wp_icmp_gt (tgt := 200) (by first | assumption | exact bI_in _ | exact ⟨by omega, by omega⟩ | exact iAnd_in | exact iOr_in | exact iShr_in | exact iShl_in | exact iXor_in | exact hxs _) (by first | assumption | exact bI_in _ | exact ⟨by omega, by omega⟩ | exact iAnd_in | exact iOr_in | exact iShr_in | exact iShl_in | exact iXor_in | exact hxs _) dX12_choose_168 (by decide) (fun c3 => ?_) (fun c3 => ?_)
          · refine wp_iinc rfl rfl dX12_choose_200 rfl rfl ?_
            try simp only [List.set_cons_zero, List.set_cons_succ]
            refine wp_goto (tgt := 60) dX12_choose_203 (by decide) ?_
            refine wp_dropAt 6 rfl (wp_dropAt 7 rfl (wp_dropAt 8 rfl (wp_dropAt 9 rfl ?_)))
            have ea : a = (m 200 10).toNat := by omega
            subst ea
            have z := ih (by omega)
            rw [show ((n + 1 : Nat) : Int) + 1 = (n : Int) + 1 + 1 by omega] at z
            first
              | (rw [if_pos (by omega)] at z
                 exact z)
              | (rw [if_neg (by omega)] at z
                 exact z)
          · refine wp_iload rfl dX12_choose_171 ?_
            refine wp_iload_n rfl rfl dX12_choose_173 ?_
            refine wp_icmp_gt (tgt := 190) (by first | assumption | exact bI_in _ | exact ⟨by omega, by omega⟩ | exact iAnd_in | exact iOr_in | exact iShr_in | exact iShl_in | exact iXor_in | exact hxs _) (by first | assumption | exact bI_in _ | exact ⟨by omega, by omega⟩ | exact iAnd_in | exact iOr_in | exact iShr_in | exact iShl_in | exact iXor_in | exact hxs _) dX12_choose_174 (by decide) (fun c4 => ?_) (fun c4 => ?_)
            · refine wp_iload rfl dX12_choose_190 ?_
              refine wp_istore_n rfl dX12_choose_192 rfl (Nat.le_of_ble_eq_true rfl) rfl ?_
              try simp only [List.set_cons_zero, List.set_cons_succ]
              refine wp_iload rfl dX12_choose_193 ?_
              refine wp_istore_n rfl dX12_choose_195 rfl (Nat.le_of_ble_eq_true rfl) rfl ?_
              try simp only [List.set_cons_zero, List.set_cons_succ]
              refine wp_iload rfl dX12_choose_196 ?_
              refine wp_istore dX12_choose_198 rfl (Nat.le_of_ble_eq_true rfl) rfl ?_
              try simp only [List.set_cons_zero, List.set_cons_succ]
              refine wp_iinc rfl rfl dX12_choose_200 rfl rfl ?_
              try simp only [List.set_cons_zero, List.set_cons_succ]
              refine wp_goto (tgt := 60) dX12_choose_203 (by decide) ?_
              refine wp_dropAt 6 rfl (wp_dropAt 7 rfl (wp_dropAt 8 rfl (wp_dropAt 9 rfl ?_)))
              have ea : a = (m 200 10).toNat := by omega
              subst ea
              have z := ih (by omega)
              rw [show ((n + 1 : Nat) : Int) + 1 = (n : Int) + 1 + 1 by omega] at z
              first
                | (rw [if_pos (by omega)] at z
                   exact z)
                | (rw [if_neg (by omega)] at z
                   exact z)
            · refine wp_iload rfl dX12_choose_177 ?_
              refine wp_iload_n rfl rfl dX12_choose_179 ?_
              refine wp_icmp_ne (tgt := 200) (by first | assumption | exact bI_in _ | exact ⟨by omega, by omega⟩ | exact iAnd_in | exact iOr_in | exact iShr_in | exact iShl_in | exact iXor_in | exact hxs _) (by first | assumption | exact bI_in _ | exact ⟨by omega, by omega⟩ | exact iAnd_in | exact iOr_in | exact iShr_in | exact iShl_in | exact iXor_in | exact hxs _) dX12_choose_180 (by decide) (fun c5 => ?_) (fun c5 => ?_)
              · refine wp_iinc rfl rfl dX12_choose_200 rfl rfl ?_
                try simp only [List.set_cons_zero, List.set_cons_succ]
                refine wp_goto (tgt := 60) dX12_choose_203 (by decide) ?_
                refine wp_dropAt 6 rfl (wp_dropAt 7 rfl (wp_dropAt 8 rfl (wp_dropAt 9 rfl ?_)))
                have ea : a = (m 200 10).toNat := by omega
                subst ea
                have z := ih (by omega)
                rw [show ((n + 1 : Nat) : Int) + 1 = (n : Int) + 1 + 1 by omega] at z
                first
                  | (rw [if_pos (by omega)] at z
                     exact z)
                  | (rw [if_neg (by omega)] at z
                     exact z)
              · refine wp_iload rfl dX12_choose_183 ?_
                refine wp_iload rfl dX12_choose_185 ?_
                refine wp_icmp_ge (tgt := 200) (by first | assumption | exact bI_in _ | exact ⟨by omega, by omega⟩ | exact iAnd_in | exact iOr_in | exact iShr_in | exact iShl_in | exact iXor_in | exact hxs _) (by first | assumption | exact bI_in _ | exact ⟨by omega, by omega⟩ | exact iAnd_in | exact iOr_in | exact iShr_in | exact iShl_in | exact iXor_in | exact hxs _) dX12_choose_187 (by decide) (fun c6 => ?_) (fun c6 => ?_)
                · refine wp_iinc rfl rfl dX12_choose_200 rfl rfl ?_
                  try simp only [List.set_cons_zero, List.set_cons_succ]
                  refine wp_goto (tgt := 60) dX12_choose_203 (by decide) ?_
                  refine wp_dropAt 6 rfl (wp_dropAt 7 rfl (wp_dropAt 8 rfl (wp_dropAt 9 rfl ?_)))
                  have ea : a = (m 200 10).toNat := by omega
                  subst ea
                  have z := ih (by omega)
                  rw [show ((n + 1 : Nat) : Int) + 1 = (n : Int) + 1 + 1 by omega] at z
                  first
                    | (rw [if_pos (by omega)] at z
                       exact z)
                    | (rw [if_neg (by omega)] at z
                       exact z)
                · refine wp_iload rfl dX12_choose_190 ?_
                  refine wp_istore_n rfl dX12_choose_192 rfl (Nat.le_of_ble_eq_true rfl) rfl ?_
                  try simp only [List.set_cons_zero, List.set_cons_succ]
                  refine wp_iload rfl dX12_choose_193 ?_
                  refine wp_istore_n rfl dX12_choose_195 rfl (Nat.le_of_ble_eq_true rfl) rfl ?_
                  try simp only [List.set_cons_zero, List.set_cons_succ]
                  refine wp_iload rfl dX12_choose_196 ?_
                  refine wp_istore dX12_choose_198 rfl (Nat.le_of_ble_eq_true rfl) rfl ?_
                  try simp only [List.set_cons_zero, List.set_cons_succ]
                  refine wp_iinc rfl rfl dX12_choose_200 rfl rfl ?_
                  try simp only [List.set_cons_zero, List.set_cons_succ]
                  refine wp_goto (tgt := 60) dX12_choose_203 (by decide) ?_
                  refine wp_dropAt 6 rfl (wp_dropAt 7 rfl (wp_dropAt 8 rfl (wp_dropAt 9 rfl ?_)))
                  have ea : a = (m 200 10).toNat := by omega
                  subst ea
                  have z := ih (by omega)
                  rw [show ((n + 1 : Nat) : Int) + 1 = (n : Int) + 1 + 1 by omega] at z
                  first
                    | (rw [if_pos (by omega)] at z
                       exact z)
                    | (rw [if_neg (by omega)] at z
                       exact z)
      · refine wp_iload rfl dX12_choose_92 ?_
        refine wp_iload rfl dX12_choose_94 ?_
        refine wp_ishr dX12_choose_96 ?_
        refine wp_iconst dX12_choose_97 ?_
        refine wp_iand dX12_choose_98 ?_
        try simp only [bt_fold]
        refine wp_iconst dX12_choose_99 ?_
        refine wp_icmp_ne (tgt := 149) (by first | assumption | exact bI_in _ | exact ⟨by omega, by omega⟩ | exact iAnd_in | exact iOr_in | exact iShr_in | exact iShl_in | exact iXor_in | exact hxs _) (by first | assumption | exact bI_in _ | exact ⟨by omega, by omega⟩ | exact iAnd_in | exact iOr_in | exact iShr_in | exact iShl_in | exact iXor_in | exact hxs _) dX12_choose_100 (by decide) (fun c7 => ?_) (fun c7 => ?_)
        · refine wp_iinc rfl rfl dX12_choose_149 rfl rfl ?_
          try simp only [List.set_cons_zero, List.set_cons_succ]
          refine wp_goto (tgt := 83) dX12_choose_152 (by decide) ?_
          have z := iha (by omega)
          first
            | (have hb0 : ¬ bt ((n : Int) + 1) a = 1 := by omega
               rw [if_neg hb0, if_neg hb0, if_neg (fun y => hb0 y.1), Int.add_zero, Int.add_zero] at z
               exact z)
            | (have hb1 : bt ((n : Int) + 1) a = 1 := by omega
               rw [if_pos hb1, if_pos hb1] at z
               by_cases hq : fitP m f a
               · rw [if_neg (fun y => y.2 hq)] at z
                 first
                   | exact z
                   | (rw [show gdB m f ((n : Int) + 1) a = 1 by omega] at z
                      exact z)
                   | (rw [show gdB m f ((n : Int) + 1) a = 0 by omega] at z
                      exact z)
                   | (have y1 := bI_t hq
                      exfalso; omega)
               · rw [if_pos ⟨hb1, hq⟩] at z
                 first
                   | exact z
                   | (have y1 := bI_f hq
                      exfalso; omega))
        · refine wp_iload rfl dX12_choose_103 ?_
          refine wp_if_eq (tgt := 122) (by first | assumption | exact bI_in _ | exact ⟨by omega, by omega⟩ | exact iAnd_in | exact iOr_in | exact iShr_in | exact iShl_in | exact iXor_in | exact hxs _) dX12_choose_105 (by decide) (fun c8 => ?_) (fun c8 => ?_)
          · refine wp_iconst dX12_choose_122 ?_
            refine wp_istore dX12_choose_123 rfl (Nat.le_of_ble_eq_true rfl) rfl ?_
            try simp only [List.set_cons_zero, List.set_cons_succ]
            refine wp_iload rfl dX12_choose_125 ?_
            refine wp_aload_n rfl rfl dX12_choose_127 ?_
            refine wp_getfield1 (z := 13) (kI := 51) fX12_201 dX12_choose_128 (by first | omega | (simp (disch := omega) only [up2_ne, up2_eq, h50, h51, ge, hsh, st_200_m1 gS, st_200_m1 H.1, st_200_3 gS, st_200_3 H.1, st_200_15 gS, st_200_15 H.1, st_200_50 gS, st_200_50 H.1, st_200_51 gS, st_200_51 H.1, st_203_m2 gS, st_203_m2 H.1, st_203_m1 gS, st_203_m1 H.1, st_215_m2 gS, st_215_m2 H.1, st_215_m1 gS, st_215_m1 H.1, st_250_m2 gS, st_250_m2 H.1, st_250_m1 gS, st_250_m1 H.1, st_251_m2 gS, st_251_m2 H.1, st_251_m1 gS, st_251_m1 H.1]; first | done | omega)) (by first | assumption | (simp (disch := omega) only [up2_ne, up2_eq, h50, h51, ge, hsh, st_200_m1 gS, st_200_m1 H.1, st_200_3 gS, st_200_3 H.1, st_200_15 gS, st_200_15 H.1, st_200_50 gS, st_200_50 H.1, st_200_51 gS, st_200_51 H.1, st_203_m2 gS, st_203_m2 H.1, st_203_m1 gS, st_203_m1 H.1, st_215_m2 gS, st_215_m2 H.1, st_215_m1 gS, st_215_m1 H.1, st_250_m2 gS, st_250_m2 H.1, st_250_m1 gS, st_250_m1 H.1, st_251_m2 gS, st_251_m2 H.1, st_251_m1 gS, st_251_m1 H.1]; first | done | rfl | omega)) rfl rfl ?_
            try simp (disch := omega) only [up2_ne, up2_eq, h50, h51, ge, hsh, st_200_m1 gS, st_200_m1 H.1, st_200_3 gS, st_200_3 H.1, st_200_15 gS, st_200_15 H.1, st_200_50 gS, st_200_50 H.1, st_200_51 gS, st_200_51 H.1, st_203_m2 gS, st_203_m2 H.1, st_203_m1 gS, st_203_m1 H.1, st_215_m2 gS, st_215_m2 H.1, st_215_m1 gS, st_215_m1 H.1, st_250_m2 gS, st_250_m2 H.1, st_250_m1 gS, st_250_m1 H.1, st_251_m2 gS, st_251_m2 H.1, st_251_m1 gS, st_251_m1 H.1]
            refine wp_iload rfl dX12_choose_131 ?_
            refine wp_iaload1 dX12_choose_133 (by first | omega | (simp (disch := omega) only [up2_ne, up2_eq, h50, h51, ge, hsh, st_200_m1 gS, st_200_m1 H.1, st_200_3 gS, st_200_3 H.1, st_200_15 gS, st_200_15 H.1, st_200_50 gS, st_200_50 H.1, st_200_51 gS, st_200_51 H.1, st_203_m2 gS, st_203_m2 H.1, st_203_m1 gS, st_203_m1 H.1, st_215_m2 gS, st_215_m2 H.1, st_215_m1 gS, st_215_m1 H.1, st_250_m2 gS, st_250_m2 H.1, st_250_m1 gS, st_250_m1 H.1, st_251_m2 gS, st_251_m2 H.1, st_251_m1 gS, st_251_m1 H.1]; first | done | omega)) (by first | assumption | (simp (disch := omega) only [up2_ne, up2_eq, h50, h51, ge, hsh, st_200_m1 gS, st_200_m1 H.1, st_200_3 gS, st_200_3 H.1, st_200_15 gS, st_200_15 H.1, st_200_50 gS, st_200_50 H.1, st_200_51 gS, st_200_51 H.1, st_203_m2 gS, st_203_m2 H.1, st_203_m1 gS, st_203_m1 H.1, st_215_m2 gS, st_215_m2 H.1, st_215_m1 gS, st_215_m1 H.1, st_250_m2 gS, st_250_m2 H.1, st_250_m1 gS, st_250_m1 H.1, st_251_m2 gS, st_251_m2 H.1, st_251_m1 gS, st_251_m1 H.1]; first | done | rfl | omega)) (by first | omega | (simp (disch := omega) only [up2_ne, up2_eq, h50, h51, ge, hsh, st_200_m1 gS, st_200_m1 H.1, st_200_3 gS, st_200_3 H.1, st_200_15 gS, st_200_15 H.1, st_200_50 gS, st_200_50 H.1, st_200_51 gS, st_200_51 H.1, st_203_m2 gS, st_203_m2 H.1, st_203_m1 gS, st_203_m1 H.1, st_215_m2 gS, st_215_m2 H.1, st_215_m1 gS, st_215_m1 H.1, st_250_m2 gS, st_250_m2 H.1, st_250_m1 gS, st_250_m1 H.1, st_251_m2 gS, st_251_m2 H.1, st_251_m1 gS, st_251_m1 H.1]; first | done | omega)) (by first | omega | (simp (disch := omega) only [up2_ne, up2_eq, h50, h51, ge, hsh, st_200_m1 gS, st_200_m1 H.1, st_200_3 gS, st_200_3 H.1, st_200_15 gS, st_200_15 H.1, st_200_50 gS, st_200_50 H.1, st_200_51 gS, st_200_51 H.1, st_203_m2 gS, st_203_m2 H.1, st_203_m1 gS, st_203_m1 H.1, st_215_m2 gS, st_215_m2 H.1, st_215_m1 gS, st_215_m1 H.1, st_250_m2 gS, st_250_m2 H.1, st_250_m1 gS, st_250_m1 H.1, st_251_m2 gS, st_251_m2 H.1, st_251_m1 gS, st_251_m1 H.1]; first | done | omega)) ?_
            try simp (disch := omega) only [up2_ne, up2_eq, h50, h51, ge, hsh, st_200_m1 gS, st_200_m1 H.1, st_200_3 gS, st_200_3 H.1, st_200_15 gS, st_200_15 H.1, st_200_50 gS, st_200_50 H.1, st_200_51 gS, st_200_51 H.1, st_203_m2 gS, st_203_m2 H.1, st_203_m1 gS, st_203_m1 H.1, st_215_m2 gS, st_215_m2 H.1, st_215_m1 gS, st_215_m1 H.1, st_250_m2 gS, st_250_m2 H.1, st_250_m1 gS, st_250_m1 H.1, st_251_m2 gS, st_251_m2 H.1, st_251_m1 gS, st_251_m1 H.1]
            refine wp_iadd dX12_choose_134 ?_
            refine wp_istore dX12_choose_135 rfl (Nat.le_of_ble_eq_true rfl) rfl ?_
            try simp only [List.set_cons_zero, List.set_cons_succ]
            refine wp_iload rfl dX12_choose_137 ?_
            refine wp_aload_n rfl rfl dX12_choose_139 ?_
            refine wp_getfield1 (z := 13) (kI := 15) fX12_94 dX12_choose_140 (by first | omega | (simp (disch := omega) only [up2_ne, up2_eq, h50, h51, ge, hsh, st_200_m1 gS, st_200_m1 H.1, st_200_3 gS, st_200_3 H.1, st_200_15 gS, st_200_15 H.1, st_200_50 gS, st_200_50 H.1, st_200_51 gS, st_200_51 H.1, st_203_m2 gS, st_203_m2 H.1, st_203_m1 gS, st_203_m1 H.1, st_215_m2 gS, st_215_m2 H.1, st_215_m1 gS, st_215_m1 H.1, st_250_m2 gS, st_250_m2 H.1, st_250_m1 gS, st_250_m1 H.1, st_251_m2 gS, st_251_m2 H.1, st_251_m1 gS, st_251_m1 H.1]; first | done | omega)) (by first | assumption | (simp (disch := omega) only [up2_ne, up2_eq, h50, h51, ge, hsh, st_200_m1 gS, st_200_m1 H.1, st_200_3 gS, st_200_3 H.1, st_200_15 gS, st_200_15 H.1, st_200_50 gS, st_200_50 H.1, st_200_51 gS, st_200_51 H.1, st_203_m2 gS, st_203_m2 H.1, st_203_m1 gS, st_203_m1 H.1, st_215_m2 gS, st_215_m2 H.1, st_215_m1 gS, st_215_m1 H.1, st_250_m2 gS, st_250_m2 H.1, st_250_m1 gS, st_250_m1 H.1, st_251_m2 gS, st_251_m2 H.1, st_251_m1 gS, st_251_m1 H.1]; first | done | rfl | omega)) rfl rfl ?_
            try simp (disch := omega) only [up2_ne, up2_eq, h50, h51, ge, hsh, st_200_m1 gS, st_200_m1 H.1, st_200_3 gS, st_200_3 H.1, st_200_15 gS, st_200_15 H.1, st_200_50 gS, st_200_50 H.1, st_200_51 gS, st_200_51 H.1, st_203_m2 gS, st_203_m2 H.1, st_203_m1 gS, st_203_m1 H.1, st_215_m2 gS, st_215_m2 H.1, st_215_m1 gS, st_215_m1 H.1, st_250_m2 gS, st_250_m2 H.1, st_250_m1 gS, st_250_m1 H.1, st_251_m2 gS, st_251_m2 H.1, st_251_m1 gS, st_251_m1 H.1]
            refine wp_iload rfl dX12_choose_143 ?_
            refine wp_iaload1 dX12_choose_145 (by first | omega | (simp (disch := omega) only [up2_ne, up2_eq, h50, h51, ge, hsh, st_200_m1 gS, st_200_m1 H.1, st_200_3 gS, st_200_3 H.1, st_200_15 gS, st_200_15 H.1, st_200_50 gS, st_200_50 H.1, st_200_51 gS, st_200_51 H.1, st_203_m2 gS, st_203_m2 H.1, st_203_m1 gS, st_203_m1 H.1, st_215_m2 gS, st_215_m2 H.1, st_215_m1 gS, st_215_m1 H.1, st_250_m2 gS, st_250_m2 H.1, st_250_m1 gS, st_250_m1 H.1, st_251_m2 gS, st_251_m2 H.1, st_251_m1 gS, st_251_m1 H.1]; first | done | omega)) (by first | assumption | (simp (disch := omega) only [up2_ne, up2_eq, h50, h51, ge, hsh, st_200_m1 gS, st_200_m1 H.1, st_200_3 gS, st_200_3 H.1, st_200_15 gS, st_200_15 H.1, st_200_50 gS, st_200_50 H.1, st_200_51 gS, st_200_51 H.1, st_203_m2 gS, st_203_m2 H.1, st_203_m1 gS, st_203_m1 H.1, st_215_m2 gS, st_215_m2 H.1, st_215_m1 gS, st_215_m1 H.1, st_250_m2 gS, st_250_m2 H.1, st_250_m1 gS, st_250_m1 H.1, st_251_m2 gS, st_251_m2 H.1, st_251_m1 gS, st_251_m1 H.1]; first | done | rfl | omega)) (by first | omega | (simp (disch := omega) only [up2_ne, up2_eq, h50, h51, ge, hsh, st_200_m1 gS, st_200_m1 H.1, st_200_3 gS, st_200_3 H.1, st_200_15 gS, st_200_15 H.1, st_200_50 gS, st_200_50 H.1, st_200_51 gS, st_200_51 H.1, st_203_m2 gS, st_203_m2 H.1, st_203_m1 gS, st_203_m1 H.1, st_215_m2 gS, st_215_m2 H.1, st_215_m1 gS, st_215_m1 H.1, st_250_m2 gS, st_250_m2 H.1, st_250_m1 gS, st_250_m1 H.1, st_251_m2 gS, st_251_m2 H.1, st_251_m1 gS, st_251_m1 H.1]; first | done | omega)) (by first | omega | (simp (disch := omega) only [up2_ne, up2_eq, h50, h51, ge, hsh, st_200_m1 gS, st_200_m1 H.1, st_200_3 gS, st_200_3 H.1, st_200_15 gS, st_200_15 H.1, st_200_50 gS, st_200_50 H.1, st_200_51 gS, st_200_51 H.1, st_203_m2 gS, st_203_m2 H.1, st_203_m1 gS, st_203_m1 H.1, st_215_m2 gS, st_215_m2 H.1, st_215_m1 gS, st_215_m1 H.1, st_250_m2 gS, st_250_m2 H.1, st_250_m1 gS, st_250_m1 H.1, st_251_m2 gS, st_251_m2 H.1, st_251_m1 gS, st_251_m1 H.1]; first | done | omega)) ?_
            try simp (disch := omega) only [up2_ne, up2_eq, h50, h51, ge, hsh, st_200_m1 gS, st_200_m1 H.1, st_200_3 gS, st_200_3 H.1, st_200_15 gS, st_200_15 H.1, st_200_50 gS, st_200_50 H.1, st_200_51 gS, st_200_51 H.1, st_203_m2 gS, st_203_m2 H.1, st_203_m1 gS, st_203_m1 H.1, st_215_m2 gS, st_215_m2 H.1, st_215_m1 gS, st_215_m1 H.1, st_250_m2 gS, st_250_m2 H.1, st_250_m1 gS, st_250_m1 H.1, st_251_m2 gS, st_251_m2 H.1, st_251_m1 gS, st_251_m1 H.1]
            refine wp_iadd dX12_choose_146 ?_
            refine wp_istore dX12_choose_147 rfl (Nat.le_of_ble_eq_true rfl) rfl ?_
            try simp only [List.set_cons_zero, List.set_cons_succ]
            refine wp_iinc rfl rfl dX12_choose_149 rfl rfl ?_
            try simp only [List.set_cons_zero, List.set_cons_succ]
            refine wp_goto (tgt := 83) dX12_choose_152 (by decide) ?_
            have z := iha (by omega)
            first
              | (have hb0 : ¬ bt ((n : Int) + 1) a = 1 := by omega
                 rw [if_neg hb0, if_neg hb0, if_neg (fun y => hb0 y.1), Int.add_zero, Int.add_zero] at z
                 exact z)
              | (have hb1 : bt ((n : Int) + 1) a = 1 := by omega
                 rw [if_pos hb1, if_pos hb1] at z
                 by_cases hq : fitP m f a
                 · rw [if_neg (fun y => y.2 hq)] at z
                   first
                     | exact z
                     | (rw [show gdB m f ((n : Int) + 1) a = 1 by omega] at z
                        exact z)
                     | (rw [show gdB m f ((n : Int) + 1) a = 0 by omega] at z
                        exact z)
                     | (have y1 := bI_t hq
                        exfalso; omega)
                 · rw [if_pos ⟨hb1, hq⟩] at z
                   first
                     | exact z
                     | (have y1 := bI_f hq
                        exfalso; omega))
          · refine wp_aload_n rfl rfl dX12_choose_108 ?_
            refine wp_getfield1 (z := 13) (kI := 50) fX12_198 dX12_choose_109 (by first | omega | (simp (disch := omega) only [up2_ne, up2_eq, h50, h51, ge, hsh, st_200_m1 gS, st_200_m1 H.1, st_200_3 gS, st_200_3 H.1, st_200_15 gS, st_200_15 H.1, st_200_50 gS, st_200_50 H.1, st_200_51 gS, st_200_51 H.1, st_203_m2 gS, st_203_m2 H.1, st_203_m1 gS, st_203_m1 H.1, st_215_m2 gS, st_215_m2 H.1, st_215_m1 gS, st_215_m1 H.1, st_250_m2 gS, st_250_m2 H.1, st_250_m1 gS, st_250_m1 H.1, st_251_m2 gS, st_251_m2 H.1, st_251_m1 gS, st_251_m1 H.1]; first | done | omega)) (by first | assumption | (simp (disch := omega) only [up2_ne, up2_eq, h50, h51, ge, hsh, st_200_m1 gS, st_200_m1 H.1, st_200_3 gS, st_200_3 H.1, st_200_15 gS, st_200_15 H.1, st_200_50 gS, st_200_50 H.1, st_200_51 gS, st_200_51 H.1, st_203_m2 gS, st_203_m2 H.1, st_203_m1 gS, st_203_m1 H.1, st_215_m2 gS, st_215_m2 H.1, st_215_m1 gS, st_215_m1 H.1, st_250_m2 gS, st_250_m2 H.1, st_250_m1 gS, st_250_m1 H.1, st_251_m2 gS, st_251_m2 H.1, st_251_m1 gS, st_251_m1 H.1]; first | done | rfl | omega)) rfl rfl ?_
            try simp (disch := omega) only [up2_ne, up2_eq, h50, h51, ge, hsh, st_200_m1 gS, st_200_m1 H.1, st_200_3 gS, st_200_3 H.1, st_200_15 gS, st_200_15 H.1, st_200_50 gS, st_200_50 H.1, st_200_51 gS, st_200_51 H.1, st_203_m2 gS, st_203_m2 H.1, st_203_m1 gS, st_203_m1 H.1, st_215_m2 gS, st_215_m2 H.1, st_215_m1 gS, st_215_m1 H.1, st_250_m2 gS, st_250_m2 H.1, st_250_m1 gS, st_250_m1 H.1, st_251_m2 gS, st_251_m2 H.1, st_251_m1 gS, st_251_m1 H.1]
            refine wp_iload rfl dX12_choose_112 ?_
            refine wp_zaload1 dX12_choose_114 (by first | omega | (simp (disch := omega) only [up2_ne, up2_eq, h50, h51, ge, hsh, st_200_m1 gS, st_200_m1 H.1, st_200_3 gS, st_200_3 H.1, st_200_15 gS, st_200_15 H.1, st_200_50 gS, st_200_50 H.1, st_200_51 gS, st_200_51 H.1, st_203_m2 gS, st_203_m2 H.1, st_203_m1 gS, st_203_m1 H.1, st_215_m2 gS, st_215_m2 H.1, st_215_m1 gS, st_215_m1 H.1, st_250_m2 gS, st_250_m2 H.1, st_250_m1 gS, st_250_m1 H.1, st_251_m2 gS, st_251_m2 H.1, st_251_m1 gS, st_251_m1 H.1]; first | done | omega)) (by first | assumption | (simp (disch := omega) only [up2_ne, up2_eq, h50, h51, ge, hsh, st_200_m1 gS, st_200_m1 H.1, st_200_3 gS, st_200_3 H.1, st_200_15 gS, st_200_15 H.1, st_200_50 gS, st_200_50 H.1, st_200_51 gS, st_200_51 H.1, st_203_m2 gS, st_203_m2 H.1, st_203_m1 gS, st_203_m1 H.1, st_215_m2 gS, st_215_m2 H.1, st_215_m1 gS, st_215_m1 H.1, st_250_m2 gS, st_250_m2 H.1, st_250_m1 gS, st_250_m1 H.1, st_251_m2 gS, st_251_m2 H.1, st_251_m1 gS, st_251_m1 H.1]; first | done | rfl | omega)) (by first | omega | (simp (disch := omega) only [up2_ne, up2_eq, h50, h51, ge, hsh, st_200_m1 gS, st_200_m1 H.1, st_200_3 gS, st_200_3 H.1, st_200_15 gS, st_200_15 H.1, st_200_50 gS, st_200_50 H.1, st_200_51 gS, st_200_51 H.1, st_203_m2 gS, st_203_m2 H.1, st_203_m1 gS, st_203_m1 H.1, st_215_m2 gS, st_215_m2 H.1, st_215_m1 gS, st_215_m1 H.1, st_250_m2 gS, st_250_m2 H.1, st_250_m1 gS, st_250_m1 H.1, st_251_m2 gS, st_251_m2 H.1, st_251_m1 gS, st_251_m1 H.1]; first | done | omega)) (by first | omega | (simp (disch := omega) only [up2_ne, up2_eq, h50, h51, ge, hsh, st_200_m1 gS, st_200_m1 H.1, st_200_3 gS, st_200_3 H.1, st_200_15 gS, st_200_15 H.1, st_200_50 gS, st_200_50 H.1, st_200_51 gS, st_200_51 H.1, st_203_m2 gS, st_203_m2 H.1, st_203_m1 gS, st_203_m1 H.1, st_215_m2 gS, st_215_m2 H.1, st_215_m1 gS, st_215_m1 H.1, st_250_m2 gS, st_250_m2 H.1, st_250_m1 gS, st_250_m1 H.1, st_251_m2 gS, st_251_m2 H.1, st_251_m1 gS, st_251_m1 H.1]; first | done | omega)) ?_
            try simp (disch := omega) only [up2_ne, up2_eq, h50, h51, ge, hsh, st_200_m1 gS, st_200_m1 H.1, st_200_3 gS, st_200_3 H.1, st_200_15 gS, st_200_15 H.1, st_200_50 gS, st_200_50 H.1, st_200_51 gS, st_200_51 H.1, st_203_m2 gS, st_203_m2 H.1, st_203_m1 gS, st_203_m1 H.1, st_215_m2 gS, st_215_m2 H.1, st_215_m1 gS, st_215_m1 H.1, st_250_m2 gS, st_250_m2 H.1, st_250_m1 gS, st_250_m1 H.1, st_251_m2 gS, st_251_m2 H.1, st_251_m1 gS, st_251_m1 H.1]
            refine wp_if_eq (tgt := 122) (by first | assumption | exact bI_in _ | exact ⟨by omega, by omega⟩ | exact iAnd_in | exact iOr_in | exact iShr_in | exact iShl_in | exact iXor_in | exact hxs _) dX12_choose_115 (by decide) (fun c9 => ?_) (fun c9 => ?_)
            · refine wp_iconst dX12_choose_122 ?_
              refine wp_istore dX12_choose_123 rfl (Nat.le_of_ble_eq_true rfl) rfl ?_
              try simp only [List.set_cons_zero, List.set_cons_succ]
              refine wp_iload rfl dX12_choose_125 ?_
              refine wp_aload_n rfl rfl dX12_choose_127 ?_
              refine wp_getfield1 (z := 13) (kI := 51) fX12_201 dX12_choose_128 (by first | omega | (simp (disch := omega) only [up2_ne, up2_eq, h50, h51, ge, hsh, st_200_m1 gS, st_200_m1 H.1, st_200_3 gS, st_200_3 H.1, st_200_15 gS, st_200_15 H.1, st_200_50 gS, st_200_50 H.1, st_200_51 gS, st_200_51 H.1, st_203_m2 gS, st_203_m2 H.1, st_203_m1 gS, st_203_m1 H.1, st_215_m2 gS, st_215_m2 H.1, st_215_m1 gS, st_215_m1 H.1, st_250_m2 gS, st_250_m2 H.1, st_250_m1 gS, st_250_m1 H.1, st_251_m2 gS, st_251_m2 H.1, st_251_m1 gS, st_251_m1 H.1]; first | done | omega)) (by first | assumption | (simp (disch := omega) only [up2_ne, up2_eq, h50, h51, ge, hsh, st_200_m1 gS, st_200_m1 H.1, st_200_3 gS, st_200_3 H.1, st_200_15 gS, st_200_15 H.1, st_200_50 gS, st_200_50 H.1, st_200_51 gS, st_200_51 H.1, st_203_m2 gS, st_203_m2 H.1, st_203_m1 gS, st_203_m1 H.1, st_215_m2 gS, st_215_m2 H.1, st_215_m1 gS, st_215_m1 H.1, st_250_m2 gS, st_250_m2 H.1, st_250_m1 gS, st_250_m1 H.1, st_251_m2 gS, st_251_m2 H.1, st_251_m1 gS, st_251_m1 H.1]; first | done | rfl | omega)) rfl rfl ?_
              try simp (disch := omega) only [up2_ne, up2_eq, h50, h51, ge, hsh, st_200_m1 gS, st_200_m1 H.1, st_200_3 gS, st_200_3 H.1, st_200_15 gS, st_200_15 H.1, st_200_50 gS, st_200_50 H.1, st_200_51 gS, st_200_51 H.1, st_203_m2 gS, st_203_m2 H.1, st_203_m1 gS, st_203_m1 H.1, st_215_m2 gS, st_215_m2 H.1, st_215_m1 gS, st_215_m1 H.1, st_250_m2 gS, st_250_m2 H.1, st_250_m1 gS, st_250_m1 H.1, st_251_m2 gS, st_251_m2 H.1, st_251_m1 gS, st_251_m1 H.1]
              refine wp_iload rfl dX12_choose_131 ?_
              refine wp_iaload1 dX12_choose_133 (by first | omega | (simp (disch := omega) only [up2_ne, up2_eq, h50, h51, ge, hsh, st_200_m1 gS, st_200_m1 H.1, st_200_3 gS, st_200_3 H.1, st_200_15 gS, st_200_15 H.1, st_200_50 gS, st_200_50 H.1, st_200_51 gS, st_200_51 H.1, st_203_m2 gS, st_203_m2 H.1, st_203_m1 gS, st_203_m1 H.1, st_215_m2 gS, st_215_m2 H.1, st_215_m1 gS, st_215_m1 H.1, st_250_m2 gS, st_250_m2 H.1, st_250_m1 gS, st_250_m1 H.1, st_251_m2 gS, st_251_m2 H.1, st_251_m1 gS, st_251_m1 H.1]; first | done | omega)) (by first | assumption | (simp (disch := omega) only [up2_ne, up2_eq, h50, h51, ge, hsh, st_200_m1 gS, st_200_m1 H.1, st_200_3 gS, st_200_3 H.1, st_200_15 gS, st_200_15 H.1, st_200_50 gS, st_200_50 H.1, st_200_51 gS, st_200_51 H.1, st_203_m2 gS, st_203_m2 H.1, st_203_m1 gS, st_203_m1 H.1, st_215_m2 gS, st_215_m2 H.1, st_215_m1 gS, st_215_m1 H.1, st_250_m2 gS, st_250_m2 H.1, st_250_m1 gS, st_250_m1 H.1, st_251_m2 gS, st_251_m2 H.1, st_251_m1 gS, st_251_m1 H.1]; first | done | rfl | omega)) (by first | omega | (simp (disch := omega) only [up2_ne, up2_eq, h50, h51, ge, hsh, st_200_m1 gS, st_200_m1 H.1, st_200_3 gS, st_200_3 H.1, st_200_15 gS, st_200_15 H.1, st_200_50 gS, st_200_50 H.1, st_200_51 gS, st_200_51 H.1, st_203_m2 gS, st_203_m2 H.1, st_203_m1 gS, st_203_m1 H.1, st_215_m2 gS, st_215_m2 H.1, st_215_m1 gS, st_215_m1 H.1, st_250_m2 gS, st_250_m2 H.1, st_250_m1 gS, st_250_m1 H.1, st_251_m2 gS, st_251_m2 H.1, st_251_m1 gS, st_251_m1 H.1]; first | done | omega)) (by first | omega | (simp (disch := omega) only [up2_ne, up2_eq, h50, h51, ge, hsh, st_200_m1 gS, st_200_m1 H.1, st_200_3 gS, st_200_3 H.1, st_200_15 gS, st_200_15 H.1, st_200_50 gS, st_200_50 H.1, st_200_51 gS, st_200_51 H.1, st_203_m2 gS, st_203_m2 H.1, st_203_m1 gS, st_203_m1 H.1, st_215_m2 gS, st_215_m2 H.1, st_215_m1 gS, st_215_m1 H.1, st_250_m2 gS, st_250_m2 H.1, st_250_m1 gS, st_250_m1 H.1, st_251_m2 gS, st_251_m2 H.1, st_251_m1 gS, st_251_m1 H.1]; first | done | omega)) ?_
              try simp (disch := omega) only [up2_ne, up2_eq, h50, h51, ge, hsh, st_200_m1 gS, st_200_m1 H.1, st_200_3 gS, st_200_3 H.1, st_200_15 gS, st_200_15 H.1, st_200_50 gS, st_200_50 H.1, st_200_51 gS, st_200_51 H.1, st_203_m2 gS, st_203_m2 H.1, st_203_m1 gS, st_203_m1 H.1, st_215_m2 gS, st_215_m2 H.1, st_215_m1 gS, st_215_m1 H.1, st_250_m2 gS, st_250_m2 H.1, st_250_m1 gS, st_250_m1 H.1, st_251_m2 gS, st_251_m2 H.1, st_251_m1 gS, st_251_m1 H.1]
              refine wp_iadd dX12_choose_134 ?_
              refine wp_istore dX12_choose_135 rfl (Nat.le_of_ble_eq_true rfl) rfl ?_
              try simp only [List.set_cons_zero, List.set_cons_succ]
              refine wp_iload rfl dX12_choose_137 ?_
              refine wp_aload_n rfl rfl dX12_choose_139 ?_
              refine wp_getfield1 (z := 13) (kI := 15) fX12_94 dX12_choose_140 (by first | omega | (simp (disch := omega) only [up2_ne, up2_eq, h50, h51, ge, hsh, st_200_m1 gS, st_200_m1 H.1, st_200_3 gS, st_200_3 H.1, st_200_15 gS, st_200_15 H.1, st_200_50 gS, st_200_50 H.1, st_200_51 gS, st_200_51 H.1, st_203_m2 gS, st_203_m2 H.1, st_203_m1 gS, st_203_m1 H.1, st_215_m2 gS, st_215_m2 H.1, st_215_m1 gS, st_215_m1 H.1, st_250_m2 gS, st_250_m2 H.1, st_250_m1 gS, st_250_m1 H.1, st_251_m2 gS, st_251_m2 H.1, st_251_m1 gS, st_251_m1 H.1]; first | done | omega)) (by first | assumption | (simp (disch := omega) only [up2_ne, up2_eq, h50, h51, ge, hsh, st_200_m1 gS, st_200_m1 H.1, st_200_3 gS, st_200_3 H.1, st_200_15 gS, st_200_15 H.1, st_200_50 gS, st_200_50 H.1, st_200_51 gS, st_200_51 H.1, st_203_m2 gS, st_203_m2 H.1, st_203_m1 gS, st_203_m1 H.1, st_215_m2 gS, st_215_m2 H.1, st_215_m1 gS, st_215_m1 H.1, st_250_m2 gS, st_250_m2 H.1, st_250_m1 gS, st_250_m1 H.1, st_251_m2 gS, st_251_m2 H.1, st_251_m1 gS, st_251_m1 H.1]; first | done | rfl | omega)) rfl rfl ?_
              try simp (disch := omega) only [up2_ne, up2_eq, h50, h51, ge, hsh, st_200_m1 gS, st_200_m1 H.1, st_200_3 gS, st_200_3 H.1, st_200_15 gS, st_200_15 H.1, st_200_50 gS, st_200_50 H.1, st_200_51 gS, st_200_51 H.1, st_203_m2 gS, st_203_m2 H.1, st_203_m1 gS, st_203_m1 H.1, st_215_m2 gS, st_215_m2 H.1, st_215_m1 gS, st_215_m1 H.1, st_250_m2 gS, st_250_m2 H.1, st_250_m1 gS, st_250_m1 H.1, st_251_m2 gS, st_251_m2 H.1, st_251_m1 gS, st_251_m1 H.1]
              refine wp_iload rfl dX12_choose_143 ?_
              refine wp_iaload1 dX12_choose_145 (by first | omega | (simp (disch := omega) only [up2_ne, up2_eq, h50, h51, ge, hsh, st_200_m1 gS, st_200_m1 H.1, st_200_3 gS, st_200_3 H.1, st_200_15 gS, st_200_15 H.1, st_200_50 gS, st_200_50 H.1, st_200_51 gS, st_200_51 H.1, st_203_m2 gS, st_203_m2 H.1, st_203_m1 gS, st_203_m1 H.1, st_215_m2 gS, st_215_m2 H.1, st_215_m1 gS, st_215_m1 H.1, st_250_m2 gS, st_250_m2 H.1, st_250_m1 gS, st_250_m1 H.1, st_251_m2 gS, st_251_m2 H.1, st_251_m1 gS, st_251_m1 H.1]; first | done | omega)) (by first | assumption | (simp (disch := omega) only [up2_ne, up2_eq, h50, h51, ge, hsh, st_200_m1 gS, st_200_m1 H.1, st_200_3 gS, st_200_3 H.1, st_200_15 gS, st_200_15 H.1, st_200_50 gS, st_200_50 H.1, st_200_51 gS, st_200_51 H.1, st_203_m2 gS, st_203_m2 H.1, st_203_m1 gS, st_203_m1 H.1, st_215_m2 gS, st_215_m2 H.1, st_215_m1 gS, st_215_m1 H.1, st_250_m2 gS, st_250_m2 H.1, st_250_m1 gS, st_250_m1 H.1, st_251_m2 gS, st_251_m2 H.1, st_251_m1 gS, st_251_m1 H.1]; first | done | rfl | omega)) (by first | omega | (simp (disch := omega) only [up2_ne, up2_eq, h50, h51, ge, hsh, st_200_m1 gS, st_200_m1 H.1, st_200_3 gS, st_200_3 H.1, st_200_15 gS, st_200_15 H.1, st_200_50 gS, st_200_50 H.1, st_200_51 gS, st_200_51 H.1, st_203_m2 gS, st_203_m2 H.1, st_203_m1 gS, st_203_m1 H.1, st_215_m2 gS, st_215_m2 H.1, st_215_m1 gS, st_215_m1 H.1, st_250_m2 gS, st_250_m2 H.1, st_250_m1 gS, st_250_m1 H.1, st_251_m2 gS, st_251_m2 H.1, st_251_m1 gS, st_251_m1 H.1]; first | done | omega)) (by first | omega | (simp (disch := omega) only [up2_ne, up2_eq, h50, h51, ge, hsh, st_200_m1 gS, st_200_m1 H.1, st_200_3 gS, st_200_3 H.1, st_200_15 gS, st_200_15 H.1, st_200_50 gS, st_200_50 H.1, st_200_51 gS, st_200_51 H.1, st_203_m2 gS, st_203_m2 H.1, st_203_m1 gS, st_203_m1 H.1, st_215_m2 gS, st_215_m2 H.1, st_215_m1 gS, st_215_m1 H.1, st_250_m2 gS, st_250_m2 H.1, st_250_m1 gS, st_250_m1 H.1, st_251_m2 gS, st_251_m2 H.1, st_251_m1 gS, st_251_m1 H.1]; first | done | omega)) ?_
              try simp (disch := omega) only [up2_ne, up2_eq, h50, h51, ge, hsh, st_200_m1 gS, st_200_m1 H.1, st_200_3 gS, st_200_3 H.1, st_200_15 gS, st_200_15 H.1, st_200_50 gS, st_200_50 H.1, st_200_51 gS, st_200_51 H.1, st_203_m2 gS, st_203_m2 H.1, st_203_m1 gS, st_203_m1 H.1, st_215_m2 gS, st_215_m2 H.1, st_215_m1 gS, st_215_m1 H.1, st_250_m2 gS, st_250_m2 H.1, st_250_m1 gS, st_250_m1 H.1, st_251_m2 gS, st_251_m2 H.1, st_251_m1 gS, st_251_m1 H.1]
              refine wp_iadd dX12_choose_146 ?_
              refine wp_istore dX12_choose_147 rfl (Nat.le_of_ble_eq_true rfl) rfl ?_
              try simp only [List.set_cons_zero, List.set_cons_succ]
              refine wp_iinc rfl rfl dX12_choose_149 rfl rfl ?_
              try simp only [List.set_cons_zero, List.set_cons_succ]
              refine wp_goto (tgt := 83) dX12_choose_152 (by decide) ?_
              have z := iha (by omega)
              first
                | (have hb0 : ¬ bt ((n : Int) + 1) a = 1 := by omega
                   rw [if_neg hb0, if_neg hb0, if_neg (fun y => hb0 y.1), Int.add_zero, Int.add_zero] at z
                   exact z)
                | (have hb1 : bt ((n : Int) + 1) a = 1 := by omega
                   rw [if_pos hb1, if_pos hb1] at z
                   by_cases hq : fitP m f a
                   · rw [if_neg (fun y => y.2 hq)] at z
                     first
                       | exact z
                       | (rw [show gdB m f ((n : Int) + 1) a = 1 by omega] at z
                          exact z)
                       | (rw [show gdB m f ((n : Int) + 1) a = 0 by omega] at z
                          exact z)
                       | (have y1 := bI_t hq
                          exfalso; omega)
                   · rw [if_pos ⟨hb1, hq⟩] at z
                     first
                       | exact z
                       | (have y1 := bI_f hq
                          exfalso; omega))
            · refine wp_iconst dX12_choose_118 ?_
              refine wp_goto (tgt := 123) dX12_choose_119 (by decide) ?_
              refine wp_istore dX12_choose_123 rfl (Nat.le_of_ble_eq_true rfl) rfl ?_
              try simp only [List.set_cons_zero, List.set_cons_succ]
              refine wp_iload rfl dX12_choose_125 ?_
              refine wp_aload_n rfl rfl dX12_choose_127 ?_
              refine wp_getfield1 (z := 13) (kI := 51) fX12_201 dX12_choose_128 (by first | omega | (simp (disch := omega) only [up2_ne, up2_eq, h50, h51, ge, hsh, st_200_m1 gS, st_200_m1 H.1, st_200_3 gS, st_200_3 H.1, st_200_15 gS, st_200_15 H.1, st_200_50 gS, st_200_50 H.1, st_200_51 gS, st_200_51 H.1, st_203_m2 gS, st_203_m2 H.1, st_203_m1 gS, st_203_m1 H.1, st_215_m2 gS, st_215_m2 H.1, st_215_m1 gS, st_215_m1 H.1, st_250_m2 gS, st_250_m2 H.1, st_250_m1 gS, st_250_m1 H.1, st_251_m2 gS, st_251_m2 H.1, st_251_m1 gS, st_251_m1 H.1]; first | done | omega)) (by first | assumption | (simp (disch := omega) only [up2_ne, up2_eq, h50, h51, ge, hsh, st_200_m1 gS, st_200_m1 H.1, st_200_3 gS, st_200_3 H.1, st_200_15 gS, st_200_15 H.1, st_200_50 gS, st_200_50 H.1, st_200_51 gS, st_200_51 H.1, st_203_m2 gS, st_203_m2 H.1, st_203_m1 gS, st_203_m1 H.1, st_215_m2 gS, st_215_m2 H.1, st_215_m1 gS, st_215_m1 H.1, st_250_m2 gS, st_250_m2 H.1, st_250_m1 gS, st_250_m1 H.1, st_251_m2 gS, st_251_m2 H.1, st_251_m1 gS, st_251_m1 H.1]; first | done | rfl | omega)) rfl rfl ?_
              try simp (disch := omega) only [up2_ne, up2_eq, h50, h51, ge, hsh, st_200_m1 gS, st_200_m1 H.1, st_200_3 gS, st_200_3 H.1, st_200_15 gS, st_200_15 H.1, st_200_50 gS, st_200_50 H.1, st_200_51 gS, st_200_51 H.1, st_203_m2 gS, st_203_m2 H.1, st_203_m1 gS, st_203_m1 H.1, st_215_m2 gS, st_215_m2 H.1, st_215_m1 gS, st_215_m1 H.1, st_250_m2 gS, st_250_m2 H.1, st_250_m1 gS, st_250_m1 H.1, st_251_m2 gS, st_251_m2 H.1, st_251_m1 gS, st_251_m1 H.1]
              refine wp_iload rfl dX12_choose_131 ?_
              refine wp_iaload1 dX12_choose_133 (by first | omega | (simp (disch := omega) only [up2_ne, up2_eq, h50, h51, ge, hsh, st_200_m1 gS, st_200_m1 H.1, st_200_3 gS, st_200_3 H.1, st_200_15 gS, st_200_15 H.1, st_200_50 gS, st_200_50 H.1, st_200_51 gS, st_200_51 H.1, st_203_m2 gS, st_203_m2 H.1, st_203_m1 gS, st_203_m1 H.1, st_215_m2 gS, st_215_m2 H.1, st_215_m1 gS, st_215_m1 H.1, st_250_m2 gS, st_250_m2 H.1, st_250_m1 gS, st_250_m1 H.1, st_251_m2 gS, st_251_m2 H.1, st_251_m1 gS, st_251_m1 H.1]; first | done | omega)) (by first | assumption | (simp (disch := omega) only [up2_ne, up2_eq, h50, h51, ge, hsh, st_200_m1 gS, st_200_m1 H.1, st_200_3 gS, st_200_3 H.1, st_200_15 gS, st_200_15 H.1, st_200_50 gS, st_200_50 H.1, st_200_51 gS, st_200_51 H.1, st_203_m2 gS, st_203_m2 H.1, st_203_m1 gS, st_203_m1 H.1, st_215_m2 gS, st_215_m2 H.1, st_215_m1 gS, st_215_m1 H.1, st_250_m2 gS, st_250_m2 H.1, st_250_m1 gS, st_250_m1 H.1, st_251_m2 gS, st_251_m2 H.1, st_251_m1 gS, st_251_m1 H.1]; first | done | rfl | omega)) (by first | omega | (simp (disch := omega) only [up2_ne, up2_eq, h50, h51, ge, hsh, st_200_m1 gS, st_200_m1 H.1, st_200_3 gS, st_200_3 H.1, st_200_15 gS, st_200_15 H.1, st_200_50 gS, st_200_50 H.1, st_200_51 gS, st_200_51 H.1, st_203_m2 gS, st_203_m2 H.1, st_203_m1 gS, st_203_m1 H.1, st_215_m2 gS, st_215_m2 H.1, st_215_m1 gS, st_215_m1 H.1, st_250_m2 gS, st_250_m2 H.1, st_250_m1 gS, st_250_m1 H.1, st_251_m2 gS, st_251_m2 H.1, st_251_m1 gS, st_251_m1 H.1]; first | done | omega)) (by first | omega | (simp (disch := omega) only [up2_ne, up2_eq, h50, h51, ge, hsh, st_200_m1 gS, st_200_m1 H.1, st_200_3 gS, st_200_3 H.1, st_200_15 gS, st_200_15 H.1, st_200_50 gS, st_200_50 H.1, st_200_51 gS, st_200_51 H.1, st_203_m2 gS, st_203_m2 H.1, st_203_m1 gS, st_203_m1 H.1, st_215_m2 gS, st_215_m2 H.1, st_215_m1 gS, st_215_m1 H.1, st_250_m2 gS, st_250_m2 H.1, st_250_m1 gS, st_250_m1 H.1, st_251_m2 gS, st_251_m2 H.1, st_251_m1 gS, st_251_m1 H.1]; first | done | omega)) ?_
              try simp (disch := omega) only [up2_ne, up2_eq, h50, h51, ge, hsh, st_200_m1 gS, st_200_m1 H.1, st_200_3 gS, st_200_3 H.1, st_200_15 gS, st_200_15 H.1, st_200_50 gS, st_200_50 H.1, st_200_51 gS, st_200_51 H.1, st_203_m2 gS, st_203_m2 H.1, st_203_m1 gS, st_203_m1 H.1, st_215_m2 gS, st_215_m2 H.1, st_215_m1 gS, st_215_m1 H.1, st_250_m2 gS, st_250_m2 H.1, st_250_m1 gS, st_250_m1 H.1, st_251_m2 gS, st_251_m2 H.1, st_251_m1 gS, st_251_m1 H.1]
              refine wp_iadd dX12_choose_134 ?_
              refine wp_istore dX12_choose_135 rfl (Nat.le_of_ble_eq_true rfl) rfl ?_
              try simp only [List.set_cons_zero, List.set_cons_succ]
              refine wp_iload rfl dX12_choose_137 ?_
              refine wp_aload_n rfl rfl dX12_choose_139 ?_
              refine wp_getfield1 (z := 13) (kI := 15) fX12_94 dX12_choose_140 (by first | omega | (simp (disch := omega) only [up2_ne, up2_eq, h50, h51, ge, hsh, st_200_m1 gS, st_200_m1 H.1, st_200_3 gS, st_200_3 H.1, st_200_15 gS, st_200_15 H.1, st_200_50 gS, st_200_50 H.1, st_200_51 gS, st_200_51 H.1, st_203_m2 gS, st_203_m2 H.1, st_203_m1 gS, st_203_m1 H.1, st_215_m2 gS, st_215_m2 H.1, st_215_m1 gS, st_215_m1 H.1, st_250_m2 gS, st_250_m2 H.1, st_250_m1 gS, st_250_m1 H.1, st_251_m2 gS, st_251_m2 H.1, st_251_m1 gS, st_251_m1 H.1]; first | done | omega)) (by first | assumption | (simp (disch := omega) only [up2_ne, up2_eq, h50, h51, ge, hsh, st_200_m1 gS, st_200_m1 H.1, st_200_3 gS, st_200_3 H.1, st_200_15 gS, st_200_15 H.1, st_200_50 gS, st_200_50 H.1, st_200_51 gS, st_200_51 H.1, st_203_m2 gS, st_203_m2 H.1, st_203_m1 gS, st_203_m1 H.1, st_215_m2 gS, st_215_m2 H.1, st_215_m1 gS, st_215_m1 H.1, st_250_m2 gS, st_250_m2 H.1, st_250_m1 gS, st_250_m1 H.1, st_251_m2 gS, st_251_m2 H.1, st_251_m1 gS, st_251_m1 H.1]; first | done | rfl | omega)) rfl rfl ?_
              try simp (disch := omega) only [up2_ne, up2_eq, h50, h51, ge, hsh, st_200_m1 gS, st_200_m1 H.1, st_200_3 gS, st_200_3 H.1, st_200_15 gS, st_200_15 H.1, st_200_50 gS, st_200_50 H.1, st_200_51 gS, st_200_51 H.1, st_203_m2 gS, st_203_m2 H.1, st_203_m1 gS, st_203_m1 H.1, st_215_m2 gS, st_215_m2 H.1, st_215_m1 gS, st_215_m1 H.1, st_250_m2 gS, st_250_m2 H.1, st_250_m1 gS, st_250_m1 H.1, st_251_m2 gS, st_251_m2 H.1, st_251_m1 gS, st_251_m1 H.1]
              refine wp_iload rfl dX12_choose_143 ?_
              refine wp_iaload1 dX12_choose_145 (by first | omega | (simp (disch := omega) only [up2_ne, up2_eq, h50, h51, ge, hsh, st_200_m1 gS, st_200_m1 H.1, st_200_3 gS, st_200_3 H.1, st_200_15 gS, st_200_15 H.1, st_200_50 gS, st_200_50 H.1, st_200_51 gS, st_200_51 H.1, st_203_m2 gS, st_203_m2 H.1, st_203_m1 gS, st_203_m1 H.1, st_215_m2 gS, st_215_m2 H.1, st_215_m1 gS, st_215_m1 H.1, st_250_m2 gS, st_250_m2 H.1, st_250_m1 gS, st_250_m1 H.1, st_251_m2 gS, st_251_m2 H.1, st_251_m1 gS, st_251_m1 H.1]; first | done | omega)) (by first | assumption | (simp (disch := omega) only [up2_ne, up2_eq, h50, h51, ge, hsh, st_200_m1 gS, st_200_m1 H.1, st_200_3 gS, st_200_3 H.1, st_200_15 gS, st_200_15 H.1, st_200_50 gS, st_200_50 H.1, st_200_51 gS, st_200_51 H.1, st_203_m2 gS, st_203_m2 H.1, st_203_m1 gS, st_203_m1 H.1, st_215_m2 gS, st_215_m2 H.1, st_215_m1 gS, st_215_m1 H.1, st_250_m2 gS, st_250_m2 H.1, st_250_m1 gS, st_250_m1 H.1, st_251_m2 gS, st_251_m2 H.1, st_251_m1 gS, st_251_m1 H.1]; first | done | rfl | omega)) (by first | omega | (simp (disch := omega) only [up2_ne, up2_eq, h50, h51, ge, hsh, st_200_m1 gS, st_200_m1 H.1, st_200_3 gS, st_200_3 H.1, st_200_15 gS, st_200_15 H.1, st_200_50 gS, st_200_50 H.1, st_200_51 gS, st_200_51 H.1, st_203_m2 gS, st_203_m2 H.1, st_203_m1 gS, st_203_m1 H.1, st_215_m2 gS, st_215_m2 H.1, st_215_m1 gS, st_215_m1 H.1, st_250_m2 gS, st_250_m2 H.1, st_250_m1 gS, st_250_m1 H.1, st_251_m2 gS, st_251_m2 H.1, st_251_m1 gS, st_251_m1 H.1]; first | done | omega)) (by first | omega | (simp (disch := omega) only [up2_ne, up2_eq, h50, h51, ge, hsh, st_200_m1 gS, st_200_m1 H.1, st_200_3 gS, st_200_3 H.1, st_200_15 gS, st_200_15 H.1, st_200_50 gS, st_200_50 H.1, st_200_51 gS, st_200_51 H.1, st_203_m2 gS, st_203_m2 H.1, st_203_m1 gS, st_203_m1 H.1, st_215_m2 gS, st_215_m2 H.1, st_215_m1 gS, st_215_m1 H.1, st_250_m2 gS, st_250_m2 H.1, st_250_m1 gS, st_250_m1 H.1, st_251_m2 gS, st_251_m2 H.1, st_251_m1 gS, st_251_m1 H.1]; first | done | omega)) ?_
              try simp (disch := omega) only [up2_ne, up2_eq, h50, h51, ge, hsh, st_200_m1 gS, st_200_m1 H.1, st_200_3 gS, st_200_3 H.1, st_200_15 gS, st_200_15 H.1, st_200_50 gS, st_200_50 H.1, st_200_51 gS, st_200_51 H.1, st_203_m2 gS, st_203_m2 H.1, st_203_m1 gS, st_203_m1 H.1, st_215_m2 gS, st_215_m2 H.1, st_215_m1 gS, st_215_m1 H.1, st_250_m2 gS, st_250_m2 H.1, st_250_m1 gS, st_250_m1 H.1, st_251_m2 gS, st_251_m2 H.1, st_251_m1 gS, st_251_m1 H.1]
              refine wp_iadd dX12_choose_146 ?_
              refine wp_istore dX12_choose_147 rfl (Nat.le_of_ble_eq_true rfl) rfl ?_
              try simp only [List.set_cons_zero, List.set_cons_succ]
              refine wp_iinc rfl rfl dX12_choose_149 rfl rfl ?_
              try simp only [List.set_cons_zero, List.set_cons_succ]
              refine wp_goto (tgt := 83) dX12_choose_152 (by decide) ?_
              have z := iha (by omega)
              first
                | (have hb0 : ¬ bt ((n : Int) + 1) a = 1 := by omega
                   rw [if_neg hb0, if_neg hb0, if_neg (fun y => hb0 y.1), Int.add_zero, Int.add_zero] at z
                   exact z)
                | (have hb1 : bt ((n : Int) + 1) a = 1 := by omega
                   rw [if_pos hb1, if_pos hb1] at z
                   by_cases hq : fitP m f a
                   · rw [if_neg (fun y => y.2 hq)] at z
                     first
                       | exact z
                       | (rw [show gdB m f ((n : Int) + 1) a = 1 by omega] at z
                          exact z)
                       | (rw [show gdB m f ((n : Int) + 1) a = 0 by omega] at z
                          exact z)
                       | (have y1 := bI_t hq
                          exfalso; omega)
                   · rw [if_pos ⟨hb1, hq⟩] at z
                     first
                       | exact z
                       | (have y1 := bI_f hq
                          exfalso; omega))
    refine wp_iload rfl dX12_choose_60 ?_
    refine wp_iconst dX12_choose_62 ?_
    refine wp_aload_n rfl rfl dX12_choose_63 ?_
    refine wp_getfield1 (z := 13) (kI := 10) fX12_10 dX12_choose_64 (by first | omega | (simp (disch := omega) only [up2_ne, up2_eq, ge, hsh, st_200_m1 gS, st_200_m1 H.1, st_200_3 gS, st_200_3 H.1, st_200_15 gS, st_200_15 H.1, st_200_50 gS, st_200_50 H.1, st_200_51 gS, st_200_51 H.1, st_203_m2 gS, st_203_m2 H.1, st_203_m1 gS, st_203_m1 H.1, st_215_m2 gS, st_215_m2 H.1, st_215_m1 gS, st_215_m1 H.1, st_250_m2 gS, st_250_m2 H.1, st_250_m1 gS, st_250_m1 H.1, st_251_m2 gS, st_251_m2 H.1, st_251_m1 gS, st_251_m1 H.1]; first | done | omega)) (by first | assumption | (simp (disch := omega) only [up2_ne, up2_eq, ge, hsh, st_200_m1 gS, st_200_m1 H.1, st_200_3 gS, st_200_3 H.1, st_200_15 gS, st_200_15 H.1, st_200_50 gS, st_200_50 H.1, st_200_51 gS, st_200_51 H.1, st_203_m2 gS, st_203_m2 H.1, st_203_m1 gS, st_203_m1 H.1, st_215_m2 gS, st_215_m2 H.1, st_215_m1 gS, st_215_m1 H.1, st_250_m2 gS, st_250_m2 H.1, st_250_m1 gS, st_250_m1 H.1, st_251_m2 gS, st_251_m2 H.1, st_251_m1 gS, st_251_m1 H.1]; first | done | rfl | omega)) rfl rfl ?_
    try simp (disch := omega) only [up2_ne, up2_eq, ge, hsh, st_200_m1 gS, st_200_m1 H.1, st_200_3 gS, st_200_3 H.1, st_200_15 gS, st_200_15 H.1, st_200_50 gS, st_200_50 H.1, st_200_51 gS, st_200_51 H.1, st_203_m2 gS, st_203_m2 H.1, st_203_m1 gS, st_203_m1 H.1, st_215_m2 gS, st_215_m2 H.1, st_215_m1 gS, st_215_m1 H.1, st_250_m2 gS, st_250_m2 H.1, st_250_m1 gS, st_250_m1 H.1, st_251_m2 gS, st_251_m2 H.1, st_251_m1 gS, st_251_m1 H.1]
    refine wp_ishl dX12_choose_67 ?_
    refine wp_icmp_ge (tgt := 206) (by first | assumption | exact bI_in _ | exact ⟨by omega, by omega⟩ | exact iAnd_in | exact iOr_in | exact iShr_in | exact iShl_in | exact iXor_in | exact hxs _) (by first | assumption | exact bI_in _ | exact ⟨by omega, by omega⟩ | exact iAnd_in | exact iOr_in | exact iShr_in | exact iShl_in | exact iXor_in | exact hxs _) dX12_choose_68 (by decide) (fun c10 => ?_) (fun c10 => ?_)
    · refine wp_iload_n rfl rfl dX12_choose_206 ?_
      refine wp_iret dX12_choose_207 rfl ?_
      have en : n = 2 ^ (m 200 10).toNat - 1 := by omega
      rw [← en, hB]
      exact ⟨rfl, gS, I.2.1⟩
    · refine wp_iconst dX12_choose_71 ?_
      refine wp_istore dX12_choose_72 rfl (Nat.le_of_ble_eq_true rfl) rfl ?_
      try simp only [List.set_cons_zero, List.set_cons_succ]
      refine wp_iconst dX12_choose_74 ?_
      refine wp_istore dX12_choose_75 rfl (Nat.le_of_ble_eq_true rfl) rfl ?_
      try simp only [List.set_cons_zero, List.set_cons_succ]
      refine wp_iconst dX12_choose_77 ?_
      refine wp_istore dX12_choose_78 rfl (Nat.le_of_ble_eq_true rfl) rfl ?_
      try simp only [List.set_cons_zero, List.set_cons_succ]
      refine wp_iconst dX12_choose_80 ?_
      refine wp_istore dX12_choose_81 rfl (Nat.le_of_ble_eq_true rfl) rfl ?_
      try simp only [List.set_cons_zero, List.set_cons_succ]
      exact inner (by omega) 0 (by omega)
  have loop1 : ∀ n : Nat, n ≤ (m 200 10).toNat → ∀ g, fI m h g f n → WP (gX (gq u)) MX12_choose (d + 8) b (fun r h1 => r = (0, (rb m f (m 203 f) (m 200 10).toNat (2 ^ (m 200 10).toNat - 1)).2.2) ∧ St h1 ∧ Kf h h1) 13 [(2, 200), (0, f), (0, (n : Int)), (9, 0), (9, 0), (9, 0), (9, 0), (9, 0), (9, 0), (9, 0)] [] g := by
    refine loop_w (m 200 10).toNat (fun n hn2 ih => ?_)
    intro g I
    have gS := I.1
    have ge : Cr g m := I.2.1.cr e
    refine wp_iload_n rfl rfl dX12_choose_13 ?_
    refine wp_aload_n rfl rfl dX12_choose_14 ?_
    refine wp_getfield1 (z := 13) (kI := 10) fX12_10 dX12_choose_15 (by first | omega | (simp (disch := omega) only [up2_ne, up2_eq, ge, st_200_m1 gS, st_200_m1 H.1, st_200_3 gS, st_200_3 H.1, st_200_15 gS, st_200_15 H.1, st_200_50 gS, st_200_50 H.1, st_200_51 gS, st_200_51 H.1, st_203_m2 gS, st_203_m2 H.1, st_203_m1 gS, st_203_m1 H.1, st_215_m2 gS, st_215_m2 H.1, st_215_m1 gS, st_215_m1 H.1, st_250_m2 gS, st_250_m2 H.1, st_250_m1 gS, st_250_m1 H.1, st_251_m2 gS, st_251_m2 H.1, st_251_m1 gS, st_251_m1 H.1]; first | done | omega)) (by first | assumption | (simp (disch := omega) only [up2_ne, up2_eq, ge, st_200_m1 gS, st_200_m1 H.1, st_200_3 gS, st_200_3 H.1, st_200_15 gS, st_200_15 H.1, st_200_50 gS, st_200_50 H.1, st_200_51 gS, st_200_51 H.1, st_203_m2 gS, st_203_m2 H.1, st_203_m1 gS, st_203_m1 H.1, st_215_m2 gS, st_215_m2 H.1, st_215_m1 gS, st_215_m1 H.1, st_250_m2 gS, st_250_m2 H.1, st_250_m1 gS, st_250_m1 H.1, st_251_m2 gS, st_251_m2 H.1, st_251_m1 gS, st_251_m1 H.1]; first | done | rfl | omega)) rfl rfl ?_
    try simp (disch := omega) only [up2_ne, up2_eq, ge, st_200_m1 gS, st_200_m1 H.1, st_200_3 gS, st_200_3 H.1, st_200_15 gS, st_200_15 H.1, st_200_50 gS, st_200_50 H.1, st_200_51 gS, st_200_51 H.1, st_203_m2 gS, st_203_m2 H.1, st_203_m1 gS, st_203_m1 H.1, st_215_m2 gS, st_215_m2 H.1, st_215_m1 gS, st_215_m1 H.1, st_250_m2 gS, st_250_m2 H.1, st_250_m1 gS, st_250_m1 H.1, st_251_m2 gS, st_251_m2 H.1, st_251_m1 gS, st_251_m1 H.1]
    refine wp_icmp_ge (tgt := 50) (by first | assumption | exact bI_in _ | exact ⟨by omega, by omega⟩ | exact iAnd_in | exact iOr_in | exact iShr_in | exact iShl_in | exact iXor_in | exact hxs _) (by first | assumption | exact bI_in _ | exact ⟨by omega, by omega⟩ | exact iAnd_in | exact iOr_in | exact iShr_in | exact iShl_in | exact iXor_in | exact hxs _) dX12_choose_18 (by decide) (fun c11 => ?_) (fun c11 => ?_)
    · refine wp_iconst dX12_choose_50 ?_
      refine wp_istore_n rfl dX12_choose_51 rfl (Nat.le_of_ble_eq_true rfl) rfl ?_
      try simp only [List.set_cons_zero, List.set_cons_succ]
      refine wp_iconst dX12_choose_52 ?_
      refine wp_istore_n rfl dX12_choose_53 rfl (Nat.le_of_ble_eq_true rfl) rfl ?_
      try simp only [List.set_cons_zero, List.set_cons_succ]
      refine wp_iconst dX12_choose_54 ?_
      refine wp_istore dX12_choose_55 rfl (Nat.le_of_ble_eq_true rfl) rfl ?_
      try simp only [List.set_cons_zero, List.set_cons_succ]
      refine wp_iconst dX12_choose_57 ?_
      refine wp_istore dX12_choose_58 rfl (Nat.le_of_ble_eq_true rfl) rfl ?_
      try simp only [List.set_cons_zero, List.set_cons_succ]
      have en : n = (m 200 10).toNat := by omega
      subst en
      exact loop2 g I 0 (by omega)
    · refine wp_aload_n rfl rfl dX12_choose_21 ?_
      refine wp_getfield1 (z := 13) (kI := 50) fX12_198 dX12_choose_22 (by first | omega | (simp (disch := omega) only [up2_ne, up2_eq, ge, st_200_m1 gS, st_200_m1 H.1, st_200_3 gS, st_200_3 H.1, st_200_15 gS, st_200_15 H.1, st_200_50 gS, st_200_50 H.1, st_200_51 gS, st_200_51 H.1, st_203_m2 gS, st_203_m2 H.1, st_203_m1 gS, st_203_m1 H.1, st_215_m2 gS, st_215_m2 H.1, st_215_m1 gS, st_215_m1 H.1, st_250_m2 gS, st_250_m2 H.1, st_250_m1 gS, st_250_m1 H.1, st_251_m2 gS, st_251_m2 H.1, st_251_m1 gS, st_251_m1 H.1]; first | done | omega)) (by first | assumption | (simp (disch := omega) only [up2_ne, up2_eq, ge, st_200_m1 gS, st_200_m1 H.1, st_200_3 gS, st_200_3 H.1, st_200_15 gS, st_200_15 H.1, st_200_50 gS, st_200_50 H.1, st_200_51 gS, st_200_51 H.1, st_203_m2 gS, st_203_m2 H.1, st_203_m1 gS, st_203_m1 H.1, st_215_m2 gS, st_215_m2 H.1, st_215_m1 gS, st_215_m1 H.1, st_250_m2 gS, st_250_m2 H.1, st_250_m1 gS, st_250_m1 H.1, st_251_m2 gS, st_251_m2 H.1, st_251_m1 gS, st_251_m1 H.1]; first | done | rfl | omega)) rfl rfl ?_
      try simp (disch := omega) only [up2_ne, up2_eq, ge, st_200_m1 gS, st_200_m1 H.1, st_200_3 gS, st_200_3 H.1, st_200_15 gS, st_200_15 H.1, st_200_50 gS, st_200_50 H.1, st_200_51 gS, st_200_51 H.1, st_203_m2 gS, st_203_m2 H.1, st_203_m1 gS, st_203_m1 H.1, st_215_m2 gS, st_215_m2 H.1, st_215_m1 gS, st_215_m1 H.1, st_250_m2 gS, st_250_m2 H.1, st_250_m1 gS, st_250_m1 H.1, st_251_m2 gS, st_251_m2 H.1, st_251_m1 gS, st_251_m1 H.1]
      refine wp_iload_n rfl rfl dX12_choose_25 ?_
      refine wp_aload_n rfl rfl dX12_choose_26 ?_
      refine wp_iload_n rfl rfl dX12_choose_27 ?_
      refine wp_iload_n rfl rfl dX12_choose_28 ?_
      refine wp_cV2r (ci := 12) okX12_isFit rfl rfl wX12_330 dX12_choose_29 (Nat.le_of_ble_eq_true rfl) (Nat.le_of_ble_eq_true rfl) (by first | omega | (simp (disch := omega) only [up2_ne, up2_eq, ge, st_200_m1 gS, st_200_m1 H.1, st_200_3 gS, st_200_3 H.1, st_200_15 gS, st_200_15 H.1, st_200_50 gS, st_200_50 H.1, st_200_51 gS, st_200_51 H.1, st_203_m2 gS, st_203_m2 H.1, st_203_m1 gS, st_203_m1 H.1, st_215_m2 gS, st_215_m2 H.1, st_215_m1 gS, st_215_m1 H.1, st_250_m2 gS, st_250_m2 H.1, st_250_m1 gS, st_250_m1 H.1, st_251_m2 gS, st_251_m2 H.1, st_251_m1 gS, st_251_m1 H.1]; first | done | omega)) (by first | assumption | (simp (disch := omega) only [up2_ne, up2_eq, ge, st_200_m1 gS, st_200_m1 H.1, st_200_3 gS, st_200_3 H.1, st_200_15 gS, st_200_15 H.1, st_200_50 gS, st_200_50 H.1, st_200_51 gS, st_200_51 H.1, st_203_m2 gS, st_203_m2 H.1, st_203_m1 gS, st_203_m1 H.1, st_215_m2 gS, st_215_m2 H.1, st_215_m1 gS, st_215_m1 H.1, st_250_m2 gS, st_250_m2 H.1, st_250_m1 gS, st_250_m1 H.1, st_251_m2 gS, st_251_m2 H.1, st_251_m1 gS, st_251_m1 H.1]; first | done | rfl | omega)) (s_X12_isFit H ge gS f0 f1 (by omega) (by omega)) (Nat.zero_le _) ?_
      rintro r g1 ⟨rfl, S1, K1⟩ -
      have e1 : Cr g1 m := fun x k q => by rw [K1 x k (by omega)]; exact ge x k q
      by_cases hq : fitP m f n
      · rw [bI_t hq]
        show WP _ _ _ _ _ _ _ ((0, 1) :: _) _
        refine wp_zastore1 (by omega) dX12_choose_32 (by first | omega | (simp (disch := omega) only [up2_ne, up2_eq, e1, ge, st_200_m1 S1, st_200_m1 gS, st_200_m1 H.1, st_200_3 S1, st_200_3 gS, st_200_3 H.1, st_200_15 S1, st_200_15 gS, st_200_15 H.1, st_200_50 S1, st_200_50 gS, st_200_50 H.1, st_200_51 S1, st_200_51 gS, st_200_51 H.1, st_203_m2 S1, st_203_m2 gS, st_203_m2 H.1, st_203_m1 S1, st_203_m1 gS, st_203_m1 H.1, st_215_m2 S1, st_215_m2 gS, st_215_m2 H.1, st_215_m1 S1, st_215_m1 gS, st_215_m1 H.1, st_250_m2 S1, st_250_m2 gS, st_250_m2 H.1, st_250_m1 S1, st_250_m1 gS, st_250_m1 H.1, st_251_m2 S1, st_251_m2 gS, st_251_m2 H.1, st_251_m1 S1, st_251_m1 gS, st_251_m1 H.1]; first | done | omega)) (by first | assumption | (simp (disch := omega) only [up2_ne, up2_eq, e1, ge, st_200_m1 S1, st_200_m1 gS, st_200_m1 H.1, st_200_3 S1, st_200_3 gS, st_200_3 H.1, st_200_15 S1, st_200_15 gS, st_200_15 H.1, st_200_50 S1, st_200_50 gS, st_200_50 H.1, st_200_51 S1, st_200_51 gS, st_200_51 H.1, st_203_m2 S1, st_203_m2 gS, st_203_m2 H.1, st_203_m1 S1, st_203_m1 gS, st_203_m1 H.1, st_215_m2 S1, st_215_m2 gS, st_215_m2 H.1, st_215_m1 S1, st_215_m1 gS, st_215_m1 H.1, st_250_m2 S1, st_250_m2 gS, st_250_m2 H.1, st_250_m1 S1, st_250_m1 gS, st_250_m1 H.1, st_251_m2 S1, st_251_m2 gS, st_251_m2 H.1, st_251_m1 S1, st_251_m1 gS, st_251_m1 H.1]; first | done | rfl | omega)) (by first | omega | (simp (disch := omega) only [up2_ne, up2_eq, e1, ge, st_200_m1 S1, st_200_m1 gS, st_200_m1 H.1, st_200_3 S1, st_200_3 gS, st_200_3 H.1, st_200_15 S1, st_200_15 gS, st_200_15 H.1, st_200_50 S1, st_200_50 gS, st_200_50 H.1, st_200_51 S1, st_200_51 gS, st_200_51 H.1, st_203_m2 S1, st_203_m2 gS, st_203_m2 H.1, st_203_m1 S1, st_203_m1 gS, st_203_m1 H.1, st_215_m2 S1, st_215_m2 gS, st_215_m2 H.1, st_215_m1 S1, st_215_m1 gS, st_215_m1 H.1, st_250_m2 S1, st_250_m2 gS, st_250_m2 H.1, st_250_m1 S1, st_250_m1 gS, st_250_m1 H.1, st_251_m2 S1, st_251_m2 gS, st_251_m2 H.1, st_251_m1 S1, st_251_m1 gS, st_251_m1 H.1]; first | done | omega)) (by first | omega | (simp (disch := omega) only [up2_ne, up2_eq, e1, ge, st_200_m1 S1, st_200_m1 gS, st_200_m1 H.1, st_200_3 S1, st_200_3 gS, st_200_3 H.1, st_200_15 S1, st_200_15 gS, st_200_15 H.1, st_200_50 S1, st_200_50 gS, st_200_50 H.1, st_200_51 S1, st_200_51 gS, st_200_51 H.1, st_203_m2 S1, st_203_m2 gS, st_203_m2 H.1, st_203_m1 S1, st_203_m1 gS, st_203_m1 H.1, st_215_m2 S1, st_215_m2 gS, st_215_m2 H.1, st_215_m1 S1, st_215_m1 gS, st_215_m1 H.1, st_250_m2 S1, st_250_m2 gS, st_250_m2 H.1, st_250_m1 S1, st_250_m1 gS, st_250_m1 H.1, st_251_m2 S1, st_251_m2 gS, st_251_m2 H.1, st_251_m1 S1, st_251_m1 gS, st_251_m1 H.1]; first | done | omega)) ?_
        refine wp_aload_n rfl rfl dX12_choose_33 ?_
        refine wp_getfield1 (z := 13) (kI := 51) fX12_201 dX12_choose_34 (by first | omega | (simp (disch := omega) only [up2_ne, up2_eq, e1, ge, st_200_m1 S1, st_200_m1 gS, st_200_m1 H.1, st_200_3 S1, st_200_3 gS, st_200_3 H.1, st_200_15 S1, st_200_15 gS, st_200_15 H.1, st_200_50 S1, st_200_50 gS, st_200_50 H.1, st_200_51 S1, st_200_51 gS, st_200_51 H.1, st_203_m2 S1, st_203_m2 gS, st_203_m2 H.1, st_203_m1 S1, st_203_m1 gS, st_203_m1 H.1, st_215_m2 S1, st_215_m2 gS, st_215_m2 H.1, st_215_m1 S1, st_215_m1 gS, st_215_m1 H.1, st_250_m2 S1, st_250_m2 gS, st_250_m2 H.1, st_250_m1 S1, st_250_m1 gS, st_250_m1 H.1, st_251_m2 S1, st_251_m2 gS, st_251_m2 H.1, st_251_m1 S1, st_251_m1 gS, st_251_m1 H.1]; first | done | omega)) (by first | assumption | (simp (disch := omega) only [up2_ne, up2_eq, e1, ge, st_200_m1 S1, st_200_m1 gS, st_200_m1 H.1, st_200_3 S1, st_200_3 gS, st_200_3 H.1, st_200_15 S1, st_200_15 gS, st_200_15 H.1, st_200_50 S1, st_200_50 gS, st_200_50 H.1, st_200_51 S1, st_200_51 gS, st_200_51 H.1, st_203_m2 S1, st_203_m2 gS, st_203_m2 H.1, st_203_m1 S1, st_203_m1 gS, st_203_m1 H.1, st_215_m2 S1, st_215_m2 gS, st_215_m2 H.1, st_215_m1 S1, st_215_m1 gS, st_215_m1 H.1, st_250_m2 S1, st_250_m2 gS, st_250_m2 H.1, st_250_m1 S1, st_250_m1 gS, st_250_m1 H.1, st_251_m2 S1, st_251_m2 gS, st_251_m2 H.1, st_251_m1 S1, st_251_m1 gS, st_251_m1 H.1]; first | done | rfl | omega)) rfl rfl ?_
        try simp (disch := omega) only [up2_ne, up2_eq, e1, ge, st_200_m1 S1, st_200_m1 gS, st_200_m1 H.1, st_200_3 S1, st_200_3 gS, st_200_3 H.1, st_200_15 S1, st_200_15 gS, st_200_15 H.1, st_200_50 S1, st_200_50 gS, st_200_50 H.1, st_200_51 S1, st_200_51 gS, st_200_51 H.1, st_203_m2 S1, st_203_m2 gS, st_203_m2 H.1, st_203_m1 S1, st_203_m1 gS, st_203_m1 H.1, st_215_m2 S1, st_215_m2 gS, st_215_m2 H.1, st_215_m1 S1, st_215_m1 gS, st_215_m1 H.1, st_250_m2 S1, st_250_m2 gS, st_250_m2 H.1, st_250_m1 S1, st_250_m1 gS, st_250_m1 H.1, st_251_m2 S1, st_251_m2 gS, st_251_m2 H.1, st_251_m1 S1, st_251_m1 gS, st_251_m1 H.1]
        refine wp_iload_n rfl rfl dX12_choose_37 ?_
        refine wp_aload_n rfl rfl dX12_choose_38 ?_
        refine wp_iload_n rfl rfl dX12_choose_39 ?_
        refine wp_cV1r (ci := 12) okX12_whole rfl rfl wX12_280 dX12_choose_40 (Nat.le_of_ble_eq_true rfl) (Nat.le_of_ble_eq_true rfl) (by first | omega | (simp (disch := omega) only [up2_ne, up2_eq, e1, ge, st_200_m1 S1, st_200_m1 gS, st_200_m1 H.1, st_200_3 S1, st_200_3 gS, st_200_3 H.1, st_200_15 S1, st_200_15 gS, st_200_15 H.1, st_200_50 S1, st_200_50 gS, st_200_50 H.1, st_200_51 S1, st_200_51 gS, st_200_51 H.1, st_203_m2 S1, st_203_m2 gS, st_203_m2 H.1, st_203_m1 S1, st_203_m1 gS, st_203_m1 H.1, st_215_m2 S1, st_215_m2 gS, st_215_m2 H.1, st_215_m1 S1, st_215_m1 gS, st_215_m1 H.1, st_250_m2 S1, st_250_m2 gS, st_250_m2 H.1, st_250_m1 S1, st_250_m1 gS, st_250_m1 H.1, st_251_m2 S1, st_251_m2 gS, st_251_m2 H.1, st_251_m1 S1, st_251_m1 gS, st_251_m1 H.1]; first | done | omega)) (by first | assumption | (simp (disch := omega) only [up2_ne, up2_eq, e1, ge, st_200_m1 S1, st_200_m1 gS, st_200_m1 H.1, st_200_3 S1, st_200_3 gS, st_200_3 H.1, st_200_15 S1, st_200_15 gS, st_200_15 H.1, st_200_50 S1, st_200_50 gS, st_200_50 H.1, st_200_51 S1, st_200_51 gS, st_200_51 H.1, st_203_m2 S1, st_203_m2 gS, st_203_m2 H.1, st_203_m1 S1, st_203_m1 gS, st_203_m1 H.1, st_215_m2 S1, st_215_m2 gS, st_215_m2 H.1, st_215_m1 S1, st_215_m1 gS, st_215_m1 H.1, st_250_m2 S1, st_250_m2 gS, st_250_m2 H.1, st_250_m1 S1, st_250_m1 gS, st_250_m1 H.1, st_251_m2 S1, st_251_m2 gS, st_251_m2 H.1, st_251_m1 S1, st_251_m1 gS, st_251_m1 H.1]; first | done | rfl | omega)) (s_X12_whole H (fun x k q => by rw [up2_ne (by omega)]; exact e1 x k q) (S1.upA (by decide +kernel) (by omega)) (by omega) (by omega)) (Nat.zero_le _) ?_
        rintro r g2 ⟨rfl, S2, K2⟩ -
        show WP _ _ _ _ _ _ _ ((0, _) :: _) _
        refine wp_iastore1 dX12_choose_43 (by first | omega | (simp (disch := omega) only [up2_ne, up2_eq, K2, e1, ge, st_200_m1 S2, st_200_m1 S1, st_200_m1 gS, st_200_m1 H.1, st_200_3 S2, st_200_3 S1, st_200_3 gS, st_200_3 H.1, st_200_15 S2, st_200_15 S1, st_200_15 gS, st_200_15 H.1, st_200_50 S2, st_200_50 S1, st_200_50 gS, st_200_50 H.1, st_200_51 S2, st_200_51 S1, st_200_51 gS, st_200_51 H.1, st_203_m2 S2, st_203_m2 S1, st_203_m2 gS, st_203_m2 H.1, st_203_m1 S2, st_203_m1 S1, st_203_m1 gS, st_203_m1 H.1, st_215_m2 S2, st_215_m2 S1, st_215_m2 gS, st_215_m2 H.1, st_215_m1 S2, st_215_m1 S1, st_215_m1 gS, st_215_m1 H.1, st_250_m2 S2, st_250_m2 S1, st_250_m2 gS, st_250_m2 H.1, st_250_m1 S2, st_250_m1 S1, st_250_m1 gS, st_250_m1 H.1, st_251_m2 S2, st_251_m2 S1, st_251_m2 gS, st_251_m2 H.1, st_251_m1 S2, st_251_m1 S1, st_251_m1 gS, st_251_m1 H.1]; first | done | omega)) (by first | assumption | (simp (disch := omega) only [up2_ne, up2_eq, K2, e1, ge, st_200_m1 S2, st_200_m1 S1, st_200_m1 gS, st_200_m1 H.1, st_200_3 S2, st_200_3 S1, st_200_3 gS, st_200_3 H.1, st_200_15 S2, st_200_15 S1, st_200_15 gS, st_200_15 H.1, st_200_50 S2, st_200_50 S1, st_200_50 gS, st_200_50 H.1, st_200_51 S2, st_200_51 S1, st_200_51 gS, st_200_51 H.1, st_203_m2 S2, st_203_m2 S1, st_203_m2 gS, st_203_m2 H.1, st_203_m1 S2, st_203_m1 S1, st_203_m1 gS, st_203_m1 H.1, st_215_m2 S2, st_215_m2 S1, st_215_m2 gS, st_215_m2 H.1, st_215_m1 S2, st_215_m1 S1, st_215_m1 gS, st_215_m1 H.1, st_250_m2 S2, st_250_m2 S1, st_250_m2 gS, st_250_m2 H.1, st_250_m1 S2, st_250_m1 S1, st_250_m1 gS, st_250_m1 H.1, st_251_m2 S2, st_251_m2 S1, st_251_m2 gS, st_251_m2 H.1, st_251_m1 S2, st_251_m1 S1, st_251_m1 gS, st_251_m1 H.1]; first | done | rfl | omega)) (by first | omega | (simp (disch := omega) only [up2_ne, up2_eq, K2, e1, ge, st_200_m1 S2, st_200_m1 S1, st_200_m1 gS, st_200_m1 H.1, st_200_3 S2, st_200_3 S1, st_200_3 gS, st_200_3 H.1, st_200_15 S2, st_200_15 S1, st_200_15 gS, st_200_15 H.1, st_200_50 S2, st_200_50 S1, st_200_50 gS, st_200_50 H.1, st_200_51 S2, st_200_51 S1, st_200_51 gS, st_200_51 H.1, st_203_m2 S2, st_203_m2 S1, st_203_m2 gS, st_203_m2 H.1, st_203_m1 S2, st_203_m1 S1, st_203_m1 gS, st_203_m1 H.1, st_215_m2 S2, st_215_m2 S1, st_215_m2 gS, st_215_m2 H.1, st_215_m1 S2, st_215_m1 S1, st_215_m1 gS, st_215_m1 H.1, st_250_m2 S2, st_250_m2 S1, st_250_m2 gS, st_250_m2 H.1, st_250_m1 S2, st_250_m1 S1, st_250_m1 gS, st_250_m1 H.1, st_251_m2 S2, st_251_m2 S1, st_251_m2 gS, st_251_m2 H.1, st_251_m1 S2, st_251_m1 S1, st_251_m1 gS, st_251_m1 H.1]; first | done | omega)) (by first | omega | (simp (disch := omega) only [up2_ne, up2_eq, K2, e1, ge, st_200_m1 S2, st_200_m1 S1, st_200_m1 gS, st_200_m1 H.1, st_200_3 S2, st_200_3 S1, st_200_3 gS, st_200_3 H.1, st_200_15 S2, st_200_15 S1, st_200_15 gS, st_200_15 H.1, st_200_50 S2, st_200_50 S1, st_200_50 gS, st_200_50 H.1, st_200_51 S2, st_200_51 S1, st_200_51 gS, st_200_51 H.1, st_203_m2 S2, st_203_m2 S1, st_203_m2 gS, st_203_m2 H.1, st_203_m1 S2, st_203_m1 S1, st_203_m1 gS, st_203_m1 H.1, st_215_m2 S2, st_215_m2 S1, st_215_m2 gS, st_215_m2 H.1, st_215_m1 S2, st_215_m1 S1, st_215_m1 gS, st_215_m1 H.1, st_250_m2 S2, st_250_m2 S1, st_250_m2 gS, st_250_m2 H.1, st_250_m1 S2, st_250_m1 S1, st_250_m1 gS, st_250_m1 H.1, st_251_m2 S2, st_251_m2 S1, st_251_m2 gS, st_251_m2 H.1, st_251_m1 S2, st_251_m1 S1, st_251_m1 gS, st_251_m1 H.1]; first | done | omega)) ?_
        refine wp_iinc rfl rfl dX12_choose_44 rfl rfl ?_
        try simp only [List.set_cons_zero, List.set_cons_succ]
        refine wp_goto (tgt := 13) dX12_choose_47 (by decide) ?_
        refine ih (by omega) _ ⟨S2.upA (by decide +kernel) (by omega), fun x k z => ?_, fun k hk => ?_⟩
        · rw [up2_ne (by omega), K2 x k (by omega), up2_ne (by omega), K1 x k (by omega)]
          exact I.2.1 x k z
        · by_cases c : k = n
          · subst c
            rw [up2_ne (by omega), K2 _ _ (by omega), up2_eq, up2_eq]
            exact ⟨by first | rw [bI_t hq] | rw [bI_f hq], rfl⟩
          · rw [up2_ne (by omega), K2 _ _ (by omega), up2_ne (by omega), K1 _ _ (by omega), up2_ne (by omega), K2 _ _ (by omega), up2_ne (by omega), K1 _ _ (by omega)]
            exact I.2.2 k (by omega)
      · rw [bI_f hq]
        show WP _ _ _ _ _ _ _ ((0, 0) :: _) _
        refine wp_zastore1 (by omega) dX12_choose_32 (by first | omega | (simp (disch := omega) only [up2_ne, up2_eq, e1, ge, st_200_m1 S1, st_200_m1 gS, st_200_m1 H.1, st_200_3 S1, st_200_3 gS, st_200_3 H.1, st_200_15 S1, st_200_15 gS, st_200_15 H.1, st_200_50 S1, st_200_50 gS, st_200_50 H.1, st_200_51 S1, st_200_51 gS, st_200_51 H.1, st_203_m2 S1, st_203_m2 gS, st_203_m2 H.1, st_203_m1 S1, st_203_m1 gS, st_203_m1 H.1, st_215_m2 S1, st_215_m2 gS, st_215_m2 H.1, st_215_m1 S1, st_215_m1 gS, st_215_m1 H.1, st_250_m2 S1, st_250_m2 gS, st_250_m2 H.1, st_250_m1 S1, st_250_m1 gS, st_250_m1 H.1, st_251_m2 S1, st_251_m2 gS, st_251_m2 H.1, st_251_m1 S1, st_251_m1 gS, st_251_m1 H.1]; first | done | omega)) (by first | assumption | (simp (disch := omega) only [up2_ne, up2_eq, e1, ge, st_200_m1 S1, st_200_m1 gS, st_200_m1 H.1, st_200_3 S1, st_200_3 gS, st_200_3 H.1, st_200_15 S1, st_200_15 gS, st_200_15 H.1, st_200_50 S1, st_200_50 gS, st_200_50 H.1, st_200_51 S1, st_200_51 gS, st_200_51 H.1, st_203_m2 S1, st_203_m2 gS, st_203_m2 H.1, st_203_m1 S1, st_203_m1 gS, st_203_m1 H.1, st_215_m2 S1, st_215_m2 gS, st_215_m2 H.1, st_215_m1 S1, st_215_m1 gS, st_215_m1 H.1, st_250_m2 S1, st_250_m2 gS, st_250_m2 H.1, st_250_m1 S1, st_250_m1 gS, st_250_m1 H.1, st_251_m2 S1, st_251_m2 gS, st_251_m2 H.1, st_251_m1 S1, st_251_m1 gS, st_251_m1 H.1]; first | done | rfl | omega)) (by first | omega | (simp (disch := omega) only [up2_ne, up2_eq, e1, ge, st_200_m1 S1, st_200_m1 gS, st_200_m1 H.1, st_200_3 S1, st_200_3 gS, st_200_3 H.1, st_200_15 S1, st_200_15 gS, st_200_15 H.1, st_200_50 S1, st_200_50 gS, st_200_50 H.1, st_200_51 S1, st_200_51 gS, st_200_51 H.1, st_203_m2 S1, st_203_m2 gS, st_203_m2 H.1, st_203_m1 S1, st_203_m1 gS, st_203_m1 H.1, st_215_m2 S1, st_215_m2 gS, st_215_m2 H.1, st_215_m1 S1, st_215_m1 gS, st_215_m1 H.1, st_250_m2 S1, st_250_m2 gS, st_250_m2 H.1, st_250_m1 S1, st_250_m1 gS, st_250_m1 H.1, st_251_m2 S1, st_251_m2 gS, st_251_m2 H.1, st_251_m1 S1, st_251_m1 gS, st_251_m1 H.1]; first | done | omega)) (by first | omega | (simp (disch := omega) only [up2_ne, up2_eq, e1, ge, st_200_m1 S1, st_200_m1 gS, st_200_m1 H.1, st_200_3 S1, st_200_3 gS, st_200_3 H.1, st_200_15 S1, st_200_15 gS, st_200_15 H.1, st_200_50 S1, st_200_50 gS, st_200_50 H.1, st_200_51 S1, st_200_51 gS, st_200_51 H.1, st_203_m2 S1, st_203_m2 gS, st_203_m2 H.1, st_203_m1 S1, st_203_m1 gS, st_203_m1 H.1, st_215_m2 S1, st_215_m2 gS, st_215_m2 H.1, st_215_m1 S1, st_215_m1 gS, st_215_m1 H.1, st_250_m2 S1, st_250_m2 gS, st_250_m2 H.1, st_250_m1 S1, st_250_m1 gS, st_250_m1 H.1, st_251_m2 S1, st_251_m2 gS, st_251_m2 H.1, st_251_m1 S1, st_251_m1 gS, st_251_m1 H.1]; first | done | omega)) ?_
        refine wp_aload_n rfl rfl dX12_choose_33 ?_
        refine wp_getfield1 (z := 13) (kI := 51) fX12_201 dX12_choose_34 (by first | omega | (simp (disch := omega) only [up2_ne, up2_eq, e1, ge, st_200_m1 S1, st_200_m1 gS, st_200_m1 H.1, st_200_3 S1, st_200_3 gS, st_200_3 H.1, st_200_15 S1, st_200_15 gS, st_200_15 H.1, st_200_50 S1, st_200_50 gS, st_200_50 H.1, st_200_51 S1, st_200_51 gS, st_200_51 H.1, st_203_m2 S1, st_203_m2 gS, st_203_m2 H.1, st_203_m1 S1, st_203_m1 gS, st_203_m1 H.1, st_215_m2 S1, st_215_m2 gS, st_215_m2 H.1, st_215_m1 S1, st_215_m1 gS, st_215_m1 H.1, st_250_m2 S1, st_250_m2 gS, st_250_m2 H.1, st_250_m1 S1, st_250_m1 gS, st_250_m1 H.1, st_251_m2 S1, st_251_m2 gS, st_251_m2 H.1, st_251_m1 S1, st_251_m1 gS, st_251_m1 H.1]; first | done | omega)) (by first | assumption | (simp (disch := omega) only [up2_ne, up2_eq, e1, ge, st_200_m1 S1, st_200_m1 gS, st_200_m1 H.1, st_200_3 S1, st_200_3 gS, st_200_3 H.1, st_200_15 S1, st_200_15 gS, st_200_15 H.1, st_200_50 S1, st_200_50 gS, st_200_50 H.1, st_200_51 S1, st_200_51 gS, st_200_51 H.1, st_203_m2 S1, st_203_m2 gS, st_203_m2 H.1, st_203_m1 S1, st_203_m1 gS, st_203_m1 H.1, st_215_m2 S1, st_215_m2 gS, st_215_m2 H.1, st_215_m1 S1, st_215_m1 gS, st_215_m1 H.1, st_250_m2 S1, st_250_m2 gS, st_250_m2 H.1, st_250_m1 S1, st_250_m1 gS, st_250_m1 H.1, st_251_m2 S1, st_251_m2 gS, st_251_m2 H.1, st_251_m1 S1, st_251_m1 gS, st_251_m1 H.1]; first | done | rfl | omega)) rfl rfl ?_
        try simp (disch := omega) only [up2_ne, up2_eq, e1, ge, st_200_m1 S1, st_200_m1 gS, st_200_m1 H.1, st_200_3 S1, st_200_3 gS, st_200_3 H.1, st_200_15 S1, st_200_15 gS, st_200_15 H.1, st_200_50 S1, st_200_50 gS, st_200_50 H.1, st_200_51 S1, st_200_51 gS, st_200_51 H.1, st_203_m2 S1, st_203_m2 gS, st_203_m2 H.1, st_203_m1 S1, st_203_m1 gS, st_203_m1 H.1, st_215_m2 S1, st_215_m2 gS, st_215_m2 H.1, st_215_m1 S1, st_215_m1 gS, st_215_m1 H.1, st_250_m2 S1, st_250_m2 gS, st_250_m2 H.1, st_250_m1 S1, st_250_m1 gS, st_250_m1 H.1, st_251_m2 S1, st_251_m2 gS, st_251_m2 H.1, st_251_m1 S1, st_251_m1 gS, st_251_m1 H.1]
        refine wp_iload_n rfl rfl dX12_choose_37 ?_
        refine wp_aload_n rfl rfl dX12_choose_38 ?_
        refine wp_iload_n rfl rfl dX12_choose_39 ?_
        refine wp_cV1r (ci := 12) okX12_whole rfl rfl wX12_280 dX12_choose_40 (Nat.le_of_ble_eq_true rfl) (Nat.le_of_ble_eq_true rfl) (by first | omega | (simp (disch := omega) only [up2_ne, up2_eq, e1, ge, st_200_m1 S1, st_200_m1 gS, st_200_m1 H.1, st_200_3 S1, st_200_3 gS, st_200_3 H.1, st_200_15 S1, st_200_15 gS, st_200_15 H.1, st_200_50 S1, st_200_50 gS, st_200_50 H.1, st_200_51 S1, st_200_51 gS, st_200_51 H.1, st_203_m2 S1, st_203_m2 gS, st_203_m2 H.1, st_203_m1 S1, st_203_m1 gS, st_203_m1 H.1, st_215_m2 S1, st_215_m2 gS, st_215_m2 H.1, st_215_m1 S1, st_215_m1 gS, st_215_m1 H.1, st_250_m2 S1, st_250_m2 gS, st_250_m2 H.1, st_250_m1 S1, st_250_m1 gS, st_250_m1 H.1, st_251_m2 S1, st_251_m2 gS, st_251_m2 H.1, st_251_m1 S1, st_251_m1 gS, st_251_m1 H.1]; first | done | omega)) (by first | assumption | (simp (disch := omega) only [up2_ne, up2_eq, e1, ge, st_200_m1 S1, st_200_m1 gS, st_200_m1 H.1, st_200_3 S1, st_200_3 gS, st_200_3 H.1, st_200_15 S1, st_200_15 gS, st_200_15 H.1, st_200_50 S1, st_200_50 gS, st_200_50 H.1, st_200_51 S1, st_200_51 gS, st_200_51 H.1, st_203_m2 S1, st_203_m2 gS, st_203_m2 H.1, st_203_m1 S1, st_203_m1 gS, st_203_m1 H.1, st_215_m2 S1, st_215_m2 gS, st_215_m2 H.1, st_215_m1 S1, st_215_m1 gS, st_215_m1 H.1, st_250_m2 S1, st_250_m2 gS, st_250_m2 H.1, st_250_m1 S1, st_250_m1 gS, st_250_m1 H.1, st_251_m2 S1, st_251_m2 gS, st_251_m2 H.1, st_251_m1 S1, st_251_m1 gS, st_251_m1 H.1]; first | done | rfl | omega)) (s_X12_whole H (fun x k q => by rw [up2_ne (by omega)]; exact e1 x k q) (S1.upA (by decide +kernel) (by omega)) (by omega) (by omega)) (Nat.zero_le _) ?_
        rintro r g2 ⟨rfl, S2, K2⟩ -
        show WP _ _ _ _ _ _ _ ((0, _) :: _) _
        refine wp_iastore1 dX12_choose_43 (by first | omega | (simp (disch := omega) only [up2_ne, up2_eq, K2, e1, ge, st_200_m1 S2, st_200_m1 S1, st_200_m1 gS, st_200_m1 H.1, st_200_3 S2, st_200_3 S1, st_200_3 gS, st_200_3 H.1, st_200_15 S2, st_200_15 S1, st_200_15 gS, st_200_15 H.1, st_200_50 S2, st_200_50 S1, st_200_50 gS, st_200_50 H.1, st_200_51 S2, st_200_51 S1, st_200_51 gS, st_200_51 H.1, st_203_m2 S2, st_203_m2 S1, st_203_m2 gS, st_203_m2 H.1, st_203_m1 S2, st_203_m1 S1, st_203_m1 gS, st_203_m1 H.1, st_215_m2 S2, st_215_m2 S1, st_215_m2 gS, st_215_m2 H.1, st_215_m1 S2, st_215_m1 S1, st_215_m1 gS, st_215_m1 H.1, st_250_m2 S2, st_250_m2 S1, st_250_m2 gS, st_250_m2 H.1, st_250_m1 S2, st_250_m1 S1, st_250_m1 gS, st_250_m1 H.1, st_251_m2 S2, st_251_m2 S1, st_251_m2 gS, st_251_m2 H.1, st_251_m1 S2, st_251_m1 S1, st_251_m1 gS, st_251_m1 H.1]; first | done | omega)) (by first | assumption | (simp (disch := omega) only [up2_ne, up2_eq, K2, e1, ge, st_200_m1 S2, st_200_m1 S1, st_200_m1 gS, st_200_m1 H.1, st_200_3 S2, st_200_3 S1, st_200_3 gS, st_200_3 H.1, st_200_15 S2, st_200_15 S1, st_200_15 gS, st_200_15 H.1, st_200_50 S2, st_200_50 S1, st_200_50 gS, st_200_50 H.1, st_200_51 S2, st_200_51 S1, st_200_51 gS, st_200_51 H.1, st_203_m2 S2, st_203_m2 S1, st_203_m2 gS, st_203_m2 H.1, st_203_m1 S2, st_203_m1 S1, st_203_m1 gS, st_203_m1 H.1, st_215_m2 S2, st_215_m2 S1, st_215_m2 gS, st_215_m2 H.1, st_215_m1 S2, st_215_m1 S1, st_215_m1 gS, st_215_m1 H.1, st_250_m2 S2, st_250_m2 S1, st_250_m2 gS, st_250_m2 H.1, st_250_m1 S2, st_250_m1 S1, st_250_m1 gS, st_250_m1 H.1, st_251_m2 S2, st_251_m2 S1, st_251_m2 gS, st_251_m2 H.1, st_251_m1 S2, st_251_m1 S1, st_251_m1 gS, st_251_m1 H.1]; first | done | rfl | omega)) (by first | omega | (simp (disch := omega) only [up2_ne, up2_eq, K2, e1, ge, st_200_m1 S2, st_200_m1 S1, st_200_m1 gS, st_200_m1 H.1, st_200_3 S2, st_200_3 S1, st_200_3 gS, st_200_3 H.1, st_200_15 S2, st_200_15 S1, st_200_15 gS, st_200_15 H.1, st_200_50 S2, st_200_50 S1, st_200_50 gS, st_200_50 H.1, st_200_51 S2, st_200_51 S1, st_200_51 gS, st_200_51 H.1, st_203_m2 S2, st_203_m2 S1, st_203_m2 gS, st_203_m2 H.1, st_203_m1 S2, st_203_m1 S1, st_203_m1 gS, st_203_m1 H.1, st_215_m2 S2, st_215_m2 S1, st_215_m2 gS, st_215_m2 H.1, st_215_m1 S2, st_215_m1 S1, st_215_m1 gS, st_215_m1 H.1, st_250_m2 S2, st_250_m2 S1, st_250_m2 gS, st_250_m2 H.1, st_250_m1 S2, st_250_m1 S1, st_250_m1 gS, st_250_m1 H.1, st_251_m2 S2, st_251_m2 S1, st_251_m2 gS, st_251_m2 H.1, st_251_m1 S2, st_251_m1 S1, st_251_m1 gS, st_251_m1 H.1]; first | done | omega)) (by first | omega | (simp (disch := omega) only [up2_ne, up2_eq, K2, e1, ge, st_200_m1 S2, st_200_m1 S1, st_200_m1 gS, st_200_m1 H.1, st_200_3 S2, st_200_3 S1, st_200_3 gS, st_200_3 H.1, st_200_15 S2, st_200_15 S1, st_200_15 gS, st_200_15 H.1, st_200_50 S2, st_200_50 S1, st_200_50 gS, st_200_50 H.1, st_200_51 S2, st_200_51 S1, st_200_51 gS, st_200_51 H.1, st_203_m2 S2, st_203_m2 S1, st_203_m2 gS, st_203_m2 H.1, st_203_m1 S2, st_203_m1 S1, st_203_m1 gS, st_203_m1 H.1, st_215_m2 S2, st_215_m2 S1, st_215_m2 gS, st_215_m2 H.1, st_215_m1 S2, st_215_m1 S1, st_215_m1 gS, st_215_m1 H.1, st_250_m2 S2, st_250_m2 S1, st_250_m2 gS, st_250_m2 H.1, st_250_m1 S2, st_250_m1 S1, st_250_m1 gS, st_250_m1 H.1, st_251_m2 S2, st_251_m2 S1, st_251_m2 gS, st_251_m2 H.1, st_251_m1 S2, st_251_m1 S1, st_251_m1 gS, st_251_m1 H.1]; first | done | omega)) ?_
        refine wp_iinc rfl rfl dX12_choose_44 rfl rfl ?_
        try simp only [List.set_cons_zero, List.set_cons_succ]
        refine wp_goto (tgt := 13) dX12_choose_47 (by decide) ?_
        refine ih (by omega) _ ⟨S2.upA (by decide +kernel) (by omega), fun x k z => ?_, fun k hk => ?_⟩
        · rw [up2_ne (by omega), K2 x k (by omega), up2_ne (by omega), K1 x k (by omega)]
          exact I.2.1 x k z
        · by_cases c : k = n
          · subst c
            rw [up2_ne (by omega), K2 _ _ (by omega), up2_eq, up2_eq]
            exact ⟨by first | rw [bI_t hq] | rw [bI_f hq], rfl⟩
          · rw [up2_ne (by omega), K2 _ _ (by omega), up2_ne (by omega), K1 _ _ (by omega), up2_ne (by omega), K2 _ _ (by omega), up2_ne (by omega), K1 _ _ (by omega)]
            exact I.2.2 k (by omega)
  show WP (gX (gq u)) MX12_choose (d + 8) b _ 0 [(2, 200), (0, f), (9, 0), (9, 0), (9, 0), (9, 0), (9, 0), (9, 0), (9, 0), (9, 0)] [] h
  refine wp_aload_n rfl rfl dX12_choose_0 ?_
  refine wp_iload_n rfl rfl dX12_choose_1 ?_
  refine wp_cV1 (ci := 12) okX12_isFund rfl rfl wX12_23 dX12_choose_2 rfl (Nat.le_of_ble_eq_true rfl) (Nat.le_of_ble_eq_true rfl) (by first | omega | (simp (disch := omega) only [up2_ne, up2_eq, e, st_200_m1 hS, st_200_m1 H.1, st_200_3 hS, st_200_3 H.1, st_200_15 hS, st_200_15 H.1, st_200_50 hS, st_200_50 H.1, st_200_51 hS, st_200_51 H.1, st_203_m2 hS, st_203_m2 H.1, st_203_m1 hS, st_203_m1 H.1, st_215_m2 hS, st_215_m2 H.1, st_215_m1 hS, st_215_m1 H.1, st_250_m2 hS, st_250_m2 H.1, st_250_m1 hS, st_250_m1 H.1, st_251_m2 hS, st_251_m2 H.1, st_251_m1 hS, st_251_m1 H.1]; first | done | omega)) (by first | assumption | (simp (disch := omega) only [up2_ne, up2_eq, e, st_200_m1 hS, st_200_m1 H.1, st_200_3 hS, st_200_3 H.1, st_200_15 hS, st_200_15 H.1, st_200_50 hS, st_200_50 H.1, st_200_51 hS, st_200_51 H.1, st_203_m2 hS, st_203_m2 H.1, st_203_m1 hS, st_203_m1 H.1, st_215_m2 hS, st_215_m2 H.1, st_215_m1 hS, st_215_m1 H.1, st_250_m2 hS, st_250_m2 H.1, st_250_m1 hS, st_250_m1 H.1, st_251_m2 hS, st_251_m2 H.1, st_251_m1 hS, st_251_m1 H.1]; first | done | rfl | omega)) (risFund H e hS (by assumption)) (Nat.zero_le _) ?_
  try simp (disch := omega) only [up2_ne, up2_eq, e, st_200_m1 hS, st_200_m1 H.1, st_200_3 hS, st_200_3 H.1, st_200_15 hS, st_200_15 H.1, st_200_50 hS, st_200_50 H.1, st_200_51 hS, st_200_51 H.1, st_203_m2 hS, st_203_m2 H.1, st_203_m1 hS, st_203_m1 H.1, st_215_m2 hS, st_215_m2 H.1, st_215_m1 hS, st_215_m1 H.1, st_250_m2 hS, st_250_m2 H.1, st_250_m1 hS, st_250_m1 H.1, st_251_m2 hS, st_251_m2 H.1, st_251_m1 hS, st_251_m1 H.1]
  refine wp_ifB_ne (tgt := 11) dX12_choose_5 (by decide) (fun c12 => ?_) (fun c12 => by exfalso; omega)
  refine wp_iconst dX12_choose_11 ?_
  refine wp_istore_n rfl dX12_choose_12 rfl (Nat.le_of_ble_eq_true rfl) rfl ?_
  try simp only [List.set_cons_zero, List.set_cons_succ]
  exact loop1 0 (by omega) h ⟨hS, fun _ _ _ => rfl, fun k hk => absurd hk (Nat.not_lt_zero _)⟩
theorem rchoose_f {u : gT} {j : Nat} {h m : mH} {d b : Nat} (H : Inv j m) (e : Cr h m) (hS : St h) {f : Int} (i1 : InI f) (q : ¬ (0 ≤ f ∧ f < m 200 0)) : Det (gX (gq u)) MX12_choose (d + 8) b [(2, 200), (0, f)] h (0, -2) h := by
  intro Q hQ
  have hn := H.ns
  show WP (gX (gq u)) MX12_choose (d + 8) b Q 0 [(2, 200), (0, f), (9, 0), (9, 0), (9, 0), (9, 0), (9, 0), (9, 0), (9, 0), (9, 0)] [] h
  refine wp_aload_n rfl rfl dX12_choose_0 ?_
  refine wp_iload_n rfl rfl dX12_choose_1 ?_
  refine wp_cV1 (ci := 12) okX12_isFund rfl rfl wX12_23 dX12_choose_2 rfl (Nat.le_of_ble_eq_true rfl) (Nat.le_of_ble_eq_true rfl) (by first | omega | (simp (disch := omega) only [up2_ne, up2_eq, e, st_200_m1 hS, st_200_m1 H.1]; first | done | omega)) (by first | assumption | (simp (disch := omega) only [up2_ne, up2_eq, e, st_200_m1 hS, st_200_m1 H.1]; first | done | rfl | omega)) (risFund H e hS (by assumption)) (Nat.zero_le _) ?_
  try simp (disch := omega) only [up2_ne, up2_eq, e, st_200_m1 hS, st_200_m1 H.1]
  refine wp_ifB_ne (tgt := 11) dX12_choose_5 (by decide) (fun c1 => by exfalso; omega) (fun c1 => ?_)
  refine wp_bipush (by decide) dX12_choose_8 ?_
  refine wp_iret dX12_choose_10 rfl ?_
  exact hQ
theorem p_choose {u : gT} (j : Nat) (h : mH) (hj : j < 512) (hI : Inv j h) (x : Int) (i1 : InI x) : PairI u Inv MX11_choose MX12_choose [(0, x)] j h := by
  have hS := hI.1
  have hn := hI.ns
  by_cases q : 0 ≤ x ∧ x < h 200 0
  · refine (choose_t (d := 2029) (b := 300) hI Cl_rfl hS q.1 q.2 hj).mono ?_
    rintro r h1 ⟨rfl, gS, gK⟩ -
    have hv : 0 ≤ chV h x ∧ chV h x ≤ 16384 := by
      have h1 := rb_ok (m := h) (f := x) (L := h 203 x) (A := (h 200 10).toNat) (2 ^ (h 200 10).toNat - 1)
      have h2 : 2 ^ (h 200 10).toNat ≤ 2 ^ 14 := Nat.pow_le_pow_right (by decide) (by omega)
      rw [chV_rb hI]
      omega
    refine ⟨_, rfl, ⟨by omega, by omega⟩, (rchoose_t (u := u) (d := 2039) (b := 0) (m := h) hI (fun y k z => gK y k (by omega)) gS q.1 q.2 hj).mono ?_⟩
    rintro r h2 ⟨rfl, gS2, gK2⟩ -
    refine ⟨by rw [chV_rb hI], Inv_scr gS2 (fun y k z => ?_) hI⟩
    unfold scr at z
    rw [gK2 y k (by omega), gK y k (by omega)]
  · refine (choose_f (d := 2029) (b := 300) hI Cl_rfl hS i1 q).rlt.mono ?_
    rintro r h1 ⟨rfl, rfl⟩ -
    refine ⟨_, rfl, ⟨by decide, by decide⟩, (rchoose_f (u := u) (d := 2039) (b := 0) hI Cr_rfl hS i1 q).rlt.mono ?_⟩
    rintro r h2 ⟨rfl, rfl⟩ -
    exact ⟨rfl, Inv_same hI⟩
