/-! ===== asks: the reference, the pair ===== -/
set_option maxHeartbeats 2000000 in
theorem s_X12_asks {u : gT} {j : Nat} {h m : mH} {d b : Nat} (H : Inv j m) (e : Cr h m) (hS : St h) {x z fr nn : Int} (ix : InI x) (iz : InI z) (ifr : InI fr) (inn : InI nn) : Rlt (gX (gq u)) MX12_asks (d + 4) b [(2, 200), (0, x), (0, z), (0, fr), (0, nn)] h (fun r h1 => r = (0, asV (gq u) m x z fr nn) ∧ St h1 ∧ Cr h1 (asQ (gq u) m x z fr nn) ∧ Ce h h1) := by
  refine Rlt.of ?_
  have hn := H.ns
  have ib1 := inn.1
  have ib2 := inn.2
  have if1 := ifr.1
  have if2 := ifr.2
  have hs := fun (y : 0 ≤ x ∧ x ≤ 3) => H.sh y.1 y.2
  have loop : asZ m x z nn → m 253 x = z → ∀ n : Nat, n ≤ nn.toNat → ∀ g, St g → Cr g (asN (gq u) m x fr n) → Ce h g → asX m x fr (nn.toNat - n) n = asX m x fr nn.toNat 0 → (n = 0 ∨ (0 ≤ fr ∧ fr + 6 * (n : Int) ≤ m 254 x)) → WP (gX (gq u)) MX12_asks (d + 4) b (fun r h1 => r = (0, asV (gq u) m x z fr nn) ∧ St h1 ∧ Cr h1 (asQ (gq u) m x z fr nn) ∧ Ce h h1) 63 [(2, 200), (0, x), (0, z), (0, fr), (0, nn), (0, asK (gq u) m x fr n), (0, (n : Int)), (9, 0), (9, 0), (9, 0)] [] g := by
    intro hz hzz
    refine loop_w nn.toNat (fun n hn2 ih => ?_)
    intro g gS ge gR hT hB
    have hI2 := Inv_asN (G := gq u) H (x := x) (fr := fr) n
    have H2 := hI2.1
    have hsm := H.sh (x := x) (by omega) (by omega)
    have hk := asK_b (G := gq u) (m := m) (x := x) (fr := fr) n
    have g54 : ∀ y, g 254 y = m 254 y := fun y => by rw [ge _ _ (by omega)]; exact hI2.2 _ _ (by omega)
    have g55 : ∀ y, g 255 y = m 255 y := fun y => by rw [ge _ _ (by omega)]; exact hI2.2 _ _ (by omega)
    have hcI : ∀ i : Int, 0 ≤ i → i < m 254 x → InI (m 255 (40 * x + i)) := fun i i0 i1 => (hsm.2.2.2.2 i i0 (by omega)).2
    refine wp_iload rfl dX12_asks_63 ?_
    refine wp_iload rfl dX12_asks_65 ?_
    refine wp_icmp_ge (tgt := 194) (by first | assumption | exact bI_in _ | exact ⟨by omega, by omega⟩ | exact iAnd_in | exact iOr_in | exact iShr_in | exact iShl_in | exact iXor_in | exact hxs _) (by first | assumption | exact bI_in _ | exact ⟨by omega, by omega⟩ | exact iAnd_in | exact iOr_in | exact iShr_in | exact iShl_in | exact iXor_in | exact hxs _) dX12_asks_67 (by decide) (fun c1 => ?_) (fun c1 => ?_)
    · refine wp_iload rfl dX12_asks_194 ?_
      refine wp_iret dX12_asks_196 rfl ?_
      first
        | (have hz : asZ m x z nn := hz
           have en : n = nn.toNat := by omega
           subst en
           rw [Nat.sub_self] at hT
           have hT2 : asX m x fr nn.toNat 0 = nn.toNat := hT.symm
           refine ⟨?_, gS, ?_, gR⟩
           · unfold asV
             rw [if_neg (fun y => y hz), if_neg (by omega), if_neg (fun y => y hzz), if_pos hT2]
           · unfold asQ
             rw [if_pos ⟨hz, hzz⟩, hT2]
             exact ge)
        | (have hz : asZ m x z nn := hz
           have hE : ¬ asE m x fr n := by omega
           rw [asX_e (by omega) hE] at hT
           refine ⟨?_, gS, ?_, gR⟩
           · unfold asV
             rw [if_neg (fun y => y hz), if_neg (by omega), if_neg (fun y => y hzz), if_neg (by omega)]
           · unfold asQ
             rw [if_pos ⟨hz, hzz⟩, ← hT]
             exact ge)
    · refine wp_iload_n rfl rfl dX12_asks_70 ?_
      refine wp_i2l (by first | assumption | exact bI_in _ | exact ⟨by omega, by omega⟩ | exact iAnd_in | exact iOr_in | exact iShr_in | exact iShl_in | exact iXor_in | exact hxs _) dX12_asks_71 ?_
      refine wp_ldc2 kX12_44 dX12_asks_72 ?_
      refine wp_iload rfl dX12_asks_75 ?_
      refine wp_i2l (by first | assumption | exact bI_in _ | exact ⟨by omega, by omega⟩ | exact iAnd_in | exact iOr_in | exact iShr_in | exact iShl_in | exact iXor_in | exact hxs _) dX12_asks_77 ?_
      refine wp_lmul dX12_asks_78 ?_
      refine wp_ladd dX12_asks_79 ?_
      refine wp_lstore dX12_asks_80 rfl (Nat.le_of_ble_eq_true rfl) rfl ?_
      try simp only [List.set_cons_zero, List.set_cons_succ]
      refine wp_lload rfl dX12_asks_82 ?_
      refine wp_lconst (v := 0) rfl dX12_asks_84 ?_
      refine wp_lcif_lt (tgt := 106) (by first | assumption | exact ⟨by omega, by omega⟩) (by first | assumption | exact ⟨by omega, by omega⟩) dX12_asks_85 dX12_asks_86 (by decide) (fun c2 => ?_) (fun c2 => ?_)
      · refine wp_bipush (by decide) dX12_asks_106 ?_
        refine wp_iret dX12_asks_108 rfl ?_
        first
          | (have hz : asZ m x z nn := hz
             have en : n = nn.toNat := by omega
             subst en
             rw [Nat.sub_self] at hT
             have hT2 : asX m x fr nn.toNat 0 = nn.toNat := hT.symm
             refine ⟨?_, gS, ?_, gR⟩
             · unfold asV
               rw [if_neg (fun y => y hz), if_neg (by omega), if_neg (fun y => y hzz), if_pos hT2]
             · unfold asQ
               rw [if_pos ⟨hz, hzz⟩, hT2]
               exact ge)
          | (have hz : asZ m x z nn := hz
             have hE : ¬ asE m x fr n := by omega
             rw [asX_e (by omega) hE] at hT
             refine ⟨?_, gS, ?_, gR⟩
             · unfold asV
               rw [if_neg (fun y => y hz), if_neg (by omega), if_neg (fun y => y hzz), if_neg (by omega)]
             · unfold asQ
               rw [if_pos ⟨hz, hzz⟩, ← hT]
               exact ge)
      · refine wp_lload rfl dX12_asks_89 ?_
        refine wp_ldc2 kX12_44 dX12_asks_91 ?_
        refine wp_ladd dX12_asks_94 ?_
        refine wp_aload_n rfl rfl dX12_asks_95 ?_
        refine wp_getfield1 (z := 13) (kI := 54) fX12_116 dX12_asks_96 (by first | omega | (simp (disch := omega) only [up2_ne, up2_eq, g54, g55, st_200_m1 gS, st_200_m1 H.1, st_200_53 gS, st_200_53 H.1, st_200_54 gS, st_200_54 H.1, st_200_55 gS, st_200_55 H.1, st_253_m2 gS, st_253_m2 H.1, st_253_m1 gS, st_253_m1 H.1, st_254_m2 gS, st_254_m2 H.1, st_254_m1 gS, st_254_m1 H.1, st_255_m2 gS, st_255_m2 H.1, st_255_m1 gS, st_255_m1 H.1]; first | done | omega)) (by first | assumption | (simp (disch := omega) only [up2_ne, up2_eq, g54, g55, st_200_m1 gS, st_200_m1 H.1, st_200_53 gS, st_200_53 H.1, st_200_54 gS, st_200_54 H.1, st_200_55 gS, st_200_55 H.1, st_253_m2 gS, st_253_m2 H.1, st_253_m1 gS, st_253_m1 H.1, st_254_m2 gS, st_254_m2 H.1, st_254_m1 gS, st_254_m1 H.1, st_255_m2 gS, st_255_m2 H.1, st_255_m1 gS, st_255_m1 H.1]; first | done | rfl | omega)) rfl rfl ?_
        try simp (disch := omega) only [up2_ne, up2_eq, g54, g55, st_200_m1 gS, st_200_m1 H.1, st_200_53 gS, st_200_53 H.1, st_200_54 gS, st_200_54 H.1, st_200_55 gS, st_200_55 H.1, st_253_m2 gS, st_253_m2 H.1, st_253_m1 gS, st_253_m1 H.1, st_254_m2 gS, st_254_m2 H.1, st_254_m1 gS, st_254_m1 H.1, st_255_m2 gS, st_255_m2 H.1, st_255_m1 gS, st_255_m1 H.1]
        refine wp_iload_n rfl rfl dX12_asks_99 ?_
        refine wp_iaload1 dX12_asks_100 (by first | omega | (simp (disch := omega) only [up2_ne, up2_eq, g54, g55, st_200_m1 gS, st_200_m1 H.1, st_200_53 gS, st_200_53 H.1, st_200_54 gS, st_200_54 H.1, st_200_55 gS, st_200_55 H.1, st_253_m2 gS, st_253_m2 H.1, st_253_m1 gS, st_253_m1 H.1, st_254_m2 gS, st_254_m2 H.1, st_254_m1 gS, st_254_m1 H.1, st_255_m2 gS, st_255_m2 H.1, st_255_m1 gS, st_255_m1 H.1]; first | done | omega)) (by first | assumption | (simp (disch := omega) only [up2_ne, up2_eq, g54, g55, st_200_m1 gS, st_200_m1 H.1, st_200_53 gS, st_200_53 H.1, st_200_54 gS, st_200_54 H.1, st_200_55 gS, st_200_55 H.1, st_253_m2 gS, st_253_m2 H.1, st_253_m1 gS, st_253_m1 H.1, st_254_m2 gS, st_254_m2 H.1, st_254_m1 gS, st_254_m1 H.1, st_255_m2 gS, st_255_m2 H.1, st_255_m1 gS, st_255_m1 H.1]; first | done | rfl | omega)) (by first | omega | (simp (disch := omega) only [up2_ne, up2_eq, g54, g55, st_200_m1 gS, st_200_m1 H.1, st_200_53 gS, st_200_53 H.1, st_200_54 gS, st_200_54 H.1, st_200_55 gS, st_200_55 H.1, st_253_m2 gS, st_253_m2 H.1, st_253_m1 gS, st_253_m1 H.1, st_254_m2 gS, st_254_m2 H.1, st_254_m1 gS, st_254_m1 H.1, st_255_m2 gS, st_255_m2 H.1, st_255_m1 gS, st_255_m1 H.1]; first | done | omega)) (by first | omega | (simp (disch := omega) only [up2_ne, up2_eq, g54, g55, st_200_m1 gS, st_200_m1 H.1, st_200_53 gS, st_200_53 H.1, st_200_54 gS, st_200_54 H.1, st_200_55 gS, st_200_55 H.1, st_253_m2 gS, st_253_m2 H.1, st_253_m1 gS, st_253_m1 H.1, st_254_m2 gS, st_254_m2 H.1, st_254_m1 gS, st_254_m1 H.1, st_255_m2 gS, st_255_m2 H.1, st_255_m1 gS, st_255_m1 H.1]; first | done | omega)) ?_
        try simp (disch := omega) only [up2_ne, up2_eq, g54, g55, st_200_m1 gS, st_200_m1 H.1, st_200_53 gS, st_200_53 H.1, st_200_54 gS, st_200_54 H.1, st_200_55 gS, st_200_55 H.1, st_253_m2 gS, st_253_m2 H.1, st_253_m1 gS, st_253_m1 H.1, st_254_m2 gS, st_254_m2 H.1, st_254_m1 gS, st_254_m1 H.1, st_255_m2 gS, st_255_m2 H.1, st_255_m1 gS, st_255_m1 H.1]
        refine wp_i2l (by first | assumption | exact bI_in _ | exact ⟨by omega, by omega⟩ | exact iAnd_in | exact iOr_in | exact iShr_in | exact iShl_in | exact iXor_in | exact hxs _) dX12_asks_101 ?_
        refine wp_lcif_le (tgt := 109) (by first | assumption | exact ⟨by omega, by omega⟩) (by first | assumption | exact ⟨by omega, by omega⟩) dX12_asks_102 dX12_asks_103 (by decide) (fun c3 => ?_) (fun c3 => ?_)
        · have hE : asE m x fr n := by omega
          have hcE : ∀ i : Int, 0 ≤ i → i < 6 → InI (m 255 (40 * x + (fr + 6 * (n : Int)) + i)) := fun i i0 i1 => by rw [show 40 * x + (fr + 6 * (n : Int)) + i = 40 * x + (fr + 6 * (n : Int) + i) by omega]; exact hcI _ (by omega) (by omega)
          have hcE0 := hcE 0 (by decide) (by decide)
          rw [Int.add_zero] at hcE0
          refine wp_bipush (by decide) dX12_asks_109 ?_
          refine wp_iload_n rfl rfl dX12_asks_111 ?_
          refine wp_imul dX12_asks_112 ?_
          refine wp_lload rfl dX12_asks_113 ?_
          refine wp_l2i dX12_asks_115 ?_
          refine wp_iadd dX12_asks_116 ?_
          refine wp_istore dX12_asks_117 rfl (Nat.le_of_ble_eq_true rfl) rfl ?_
          try simp only [List.set_cons_zero, List.set_cons_succ]
          refine wp_iload rfl dX12_asks_119 ?_
          refine wp_aload_n rfl rfl dX12_asks_121 ?_
          refine wp_aload_n rfl rfl dX12_asks_122 ?_
          refine wp_getfield1 (z := 13) (kI := 55) fX12_119 dX12_asks_123 (by first | omega | (simp (disch := omega) only [up2_ne, up2_eq, g54, g55, st_200_m1 gS, st_200_m1 H.1, st_200_53 gS, st_200_53 H.1, st_200_54 gS, st_200_54 H.1, st_200_55 gS, st_200_55 H.1, st_253_m2 gS, st_253_m2 H.1, st_253_m1 gS, st_253_m1 H.1, st_254_m2 gS, st_254_m2 H.1, st_254_m1 gS, st_254_m1 H.1, st_255_m2 gS, st_255_m2 H.1, st_255_m1 gS, st_255_m1 H.1]; first | done | omega)) (by first | assumption | (simp (disch := omega) only [up2_ne, up2_eq, g54, g55, st_200_m1 gS, st_200_m1 H.1, st_200_53 gS, st_200_53 H.1, st_200_54 gS, st_200_54 H.1, st_200_55 gS, st_200_55 H.1, st_253_m2 gS, st_253_m2 H.1, st_253_m1 gS, st_253_m1 H.1, st_254_m2 gS, st_254_m2 H.1, st_254_m1 gS, st_254_m1 H.1, st_255_m2 gS, st_255_m2 H.1, st_255_m1 gS, st_255_m1 H.1]; first | done | rfl | omega)) rfl rfl ?_
          try simp (disch := omega) only [up2_ne, up2_eq, g54, g55, st_200_m1 gS, st_200_m1 H.1, st_200_53 gS, st_200_53 H.1, st_200_54 gS, st_200_54 H.1, st_200_55 gS, st_200_55 H.1, st_253_m2 gS, st_253_m2 H.1, st_253_m1 gS, st_253_m1 H.1, st_254_m2 gS, st_254_m2 H.1, st_254_m1 gS, st_254_m1 H.1, st_255_m2 gS, st_255_m2 H.1, st_255_m1 gS, st_255_m1 H.1]
          refine wp_iload rfl dX12_asks_126 ?_
          refine wp_iaload1 dX12_asks_128 (by first | omega | (simp (disch := omega) only [up2_ne, up2_eq, g54, g55, st_200_m1 gS, st_200_m1 H.1, st_200_53 gS, st_200_53 H.1, st_200_54 gS, st_200_54 H.1, st_200_55 gS, st_200_55 H.1, st_253_m2 gS, st_253_m2 H.1, st_253_m1 gS, st_253_m1 H.1, st_254_m2 gS, st_254_m2 H.1, st_254_m1 gS, st_254_m1 H.1, st_255_m2 gS, st_255_m2 H.1, st_255_m1 gS, st_255_m1 H.1]; first | done | omega)) (by first | assumption | (simp (disch := omega) only [up2_ne, up2_eq, g54, g55, st_200_m1 gS, st_200_m1 H.1, st_200_53 gS, st_200_53 H.1, st_200_54 gS, st_200_54 H.1, st_200_55 gS, st_200_55 H.1, st_253_m2 gS, st_253_m2 H.1, st_253_m1 gS, st_253_m1 H.1, st_254_m2 gS, st_254_m2 H.1, st_254_m1 gS, st_254_m1 H.1, st_255_m2 gS, st_255_m2 H.1, st_255_m1 gS, st_255_m1 H.1]; first | done | rfl | omega)) (by first | omega | (simp (disch := omega) only [up2_ne, up2_eq, g54, g55, st_200_m1 gS, st_200_m1 H.1, st_200_53 gS, st_200_53 H.1, st_200_54 gS, st_200_54 H.1, st_200_55 gS, st_200_55 H.1, st_253_m2 gS, st_253_m2 H.1, st_253_m1 gS, st_253_m1 H.1, st_254_m2 gS, st_254_m2 H.1, st_254_m1 gS, st_254_m1 H.1, st_255_m2 gS, st_255_m2 H.1, st_255_m1 gS, st_255_m1 H.1]; first | done | omega)) (by first | omega | (simp (disch := omega) only [up2_ne, up2_eq, g54, g55, st_200_m1 gS, st_200_m1 H.1, st_200_53 gS, st_200_53 H.1, st_200_54 gS, st_200_54 H.1, st_200_55 gS, st_200_55 H.1, st_253_m2 gS, st_253_m2 H.1, st_253_m1 gS, st_253_m1 H.1, st_254_m2 gS, st_254_m2 H.1, st_254_m1 gS, st_254_m1 H.1, st_255_m2 gS, st_255_m2 H.1, st_255_m1 gS, st_255_m1 H.1]; first | done | omega)) ?_
          try simp (disch := omega) only [up2_ne, up2_eq, g54, g55, st_200_m1 gS, st_200_m1 H.1, st_200_53 gS, st_200_53 H.1, st_200_54 gS, st_200_54 H.1, st_200_55 gS, st_200_55 H.1, st_253_m2 gS, st_253_m2 H.1, st_253_m1 gS, st_253_m1 H.1, st_254_m2 gS, st_254_m2 H.1, st_254_m1 gS, st_254_m1 H.1, st_255_m2 gS, st_255_m2 H.1, st_255_m1 gS, st_255_m1 H.1]
          refine wp_aload_n rfl rfl dX12_asks_129 ?_
          refine wp_getfield1 (z := 13) (kI := 55) fX12_119 dX12_asks_130 (by first | omega | (simp (disch := omega) only [up2_ne, up2_eq, g54, g55, st_200_m1 gS, st_200_m1 H.1, st_200_53 gS, st_200_53 H.1, st_200_54 gS, st_200_54 H.1, st_200_55 gS, st_200_55 H.1, st_253_m2 gS, st_253_m2 H.1, st_253_m1 gS, st_253_m1 H.1, st_254_m2 gS, st_254_m2 H.1, st_254_m1 gS, st_254_m1 H.1, st_255_m2 gS, st_255_m2 H.1, st_255_m1 gS, st_255_m1 H.1]; first | done | omega)) (by first | assumption | (simp (disch := omega) only [up2_ne, up2_eq, g54, g55, st_200_m1 gS, st_200_m1 H.1, st_200_53 gS, st_200_53 H.1, st_200_54 gS, st_200_54 H.1, st_200_55 gS, st_200_55 H.1, st_253_m2 gS, st_253_m2 H.1, st_253_m1 gS, st_253_m1 H.1, st_254_m2 gS, st_254_m2 H.1, st_254_m1 gS, st_254_m1 H.1, st_255_m2 gS, st_255_m2 H.1, st_255_m1 gS, st_255_m1 H.1]; first | done | rfl | omega)) rfl rfl ?_
          try simp (disch := omega) only [up2_ne, up2_eq, g54, g55, st_200_m1 gS, st_200_m1 H.1, st_200_53 gS, st_200_53 H.1, st_200_54 gS, st_200_54 H.1, st_200_55 gS, st_200_55 H.1, st_253_m2 gS, st_253_m2 H.1, st_253_m1 gS, st_253_m1 H.1, st_254_m2 gS, st_254_m2 H.1, st_254_m1 gS, st_254_m1 H.1, st_255_m2 gS, st_255_m2 H.1, st_255_m1 gS, st_255_m1 H.1]
          refine wp_iload rfl dX12_asks_133 ?_
          refine wp_iconst dX12_asks_135 ?_
          refine wp_iadd dX12_asks_136 ?_
          refine wp_iaload1 dX12_asks_137 (by first | omega | (simp (disch := omega) only [up2_ne, up2_eq, g54, g55, st_200_m1 gS, st_200_m1 H.1, st_200_53 gS, st_200_53 H.1, st_200_54 gS, st_200_54 H.1, st_200_55 gS, st_200_55 H.1, st_253_m2 gS, st_253_m2 H.1, st_253_m1 gS, st_253_m1 H.1, st_254_m2 gS, st_254_m2 H.1, st_254_m1 gS, st_254_m1 H.1, st_255_m2 gS, st_255_m2 H.1, st_255_m1 gS, st_255_m1 H.1]; first | done | omega)) (by first | assumption | (simp (disch := omega) only [up2_ne, up2_eq, g54, g55, st_200_m1 gS, st_200_m1 H.1, st_200_53 gS, st_200_53 H.1, st_200_54 gS, st_200_54 H.1, st_200_55 gS, st_200_55 H.1, st_253_m2 gS, st_253_m2 H.1, st_253_m1 gS, st_253_m1 H.1, st_254_m2 gS, st_254_m2 H.1, st_254_m1 gS, st_254_m1 H.1, st_255_m2 gS, st_255_m2 H.1, st_255_m1 gS, st_255_m1 H.1]; first | done | rfl | omega)) (by first | omega | (simp (disch := omega) only [up2_ne, up2_eq, g54, g55, st_200_m1 gS, st_200_m1 H.1, st_200_53 gS, st_200_53 H.1, st_200_54 gS, st_200_54 H.1, st_200_55 gS, st_200_55 H.1, st_253_m2 gS, st_253_m2 H.1, st_253_m1 gS, st_253_m1 H.1, st_254_m2 gS, st_254_m2 H.1, st_254_m1 gS, st_254_m1 H.1, st_255_m2 gS, st_255_m2 H.1, st_255_m1 gS, st_255_m1 H.1]; first | done | omega)) (by first | omega | (simp (disch := omega) only [up2_ne, up2_eq, g54, g55, st_200_m1 gS, st_200_m1 H.1, st_200_53 gS, st_200_53 H.1, st_200_54 gS, st_200_54 H.1, st_200_55 gS, st_200_55 H.1, st_253_m2 gS, st_253_m2 H.1, st_253_m1 gS, st_253_m1 H.1, st_254_m2 gS, st_254_m2 H.1, st_254_m1 gS, st_254_m1 H.1, st_255_m2 gS, st_255_m2 H.1, st_255_m1 gS, st_255_m1 H.1]; first | done | omega)) ?_
          try simp (disch := omega) only [up2_ne, up2_eq, g54, g55, st_200_m1 gS, st_200_m1 H.1, st_200_53 gS, st_200_53 H.1, st_200_54 gS, st_200_54 H.1, st_200_55 gS, st_200_55 H.1, st_253_m2 gS, st_253_m2 H.1, st_253_m1 gS, st_253_m1 H.1, st_254_m2 gS, st_254_m2 H.1, st_254_m1 gS, st_254_m1 H.1, st_255_m2 gS, st_255_m2 H.1, st_255_m1 gS, st_255_m1 H.1]
          refine wp_aload_n rfl rfl dX12_asks_138 ?_
          refine wp_getfield1 (z := 13) (kI := 55) fX12_119 dX12_asks_139 (by first | omega | (simp (disch := omega) only [up2_ne, up2_eq, g54, g55, st_200_m1 gS, st_200_m1 H.1, st_200_53 gS, st_200_53 H.1, st_200_54 gS, st_200_54 H.1, st_200_55 gS, st_200_55 H.1, st_253_m2 gS, st_253_m2 H.1, st_253_m1 gS, st_253_m1 H.1, st_254_m2 gS, st_254_m2 H.1, st_254_m1 gS, st_254_m1 H.1, st_255_m2 gS, st_255_m2 H.1, st_255_m1 gS, st_255_m1 H.1]; first | done | omega)) (by first | assumption | (simp (disch := omega) only [up2_ne, up2_eq, g54, g55, st_200_m1 gS, st_200_m1 H.1, st_200_53 gS, st_200_53 H.1, st_200_54 gS, st_200_54 H.1, st_200_55 gS, st_200_55 H.1, st_253_m2 gS, st_253_m2 H.1, st_253_m1 gS, st_253_m1 H.1, st_254_m2 gS, st_254_m2 H.1, st_254_m1 gS, st_254_m1 H.1, st_255_m2 gS, st_255_m2 H.1, st_255_m1 gS, st_255_m1 H.1]; first | done | rfl | omega)) rfl rfl ?_
          try simp (disch := omega) only [up2_ne, up2_eq, g54, g55, st_200_m1 gS, st_200_m1 H.1, st_200_53 gS, st_200_53 H.1, st_200_54 gS, st_200_54 H.1, st_200_55 gS, st_200_55 H.1, st_253_m2 gS, st_253_m2 H.1, st_253_m1 gS, st_253_m1 H.1, st_254_m2 gS, st_254_m2 H.1, st_254_m1 gS, st_254_m1 H.1, st_255_m2 gS, st_255_m2 H.1, st_255_m1 gS, st_255_m1 H.1]
          refine wp_iload rfl dX12_asks_142 ?_
          refine wp_iconst dX12_asks_144 ?_
          refine wp_iadd dX12_asks_145 ?_
          refine wp_iaload1 dX12_asks_146 (by first | omega | (simp (disch := omega) only [up2_ne, up2_eq, g54, g55, st_200_m1 gS, st_200_m1 H.1, st_200_53 gS, st_200_53 H.1, st_200_54 gS, st_200_54 H.1, st_200_55 gS, st_200_55 H.1, st_253_m2 gS, st_253_m2 H.1, st_253_m1 gS, st_253_m1 H.1, st_254_m2 gS, st_254_m2 H.1, st_254_m1 gS, st_254_m1 H.1, st_255_m2 gS, st_255_m2 H.1, st_255_m1 gS, st_255_m1 H.1]; first | done | omega)) (by first | assumption | (simp (disch := omega) only [up2_ne, up2_eq, g54, g55, st_200_m1 gS, st_200_m1 H.1, st_200_53 gS, st_200_53 H.1, st_200_54 gS, st_200_54 H.1, st_200_55 gS, st_200_55 H.1, st_253_m2 gS, st_253_m2 H.1, st_253_m1 gS, st_253_m1 H.1, st_254_m2 gS, st_254_m2 H.1, st_254_m1 gS, st_254_m1 H.1, st_255_m2 gS, st_255_m2 H.1, st_255_m1 gS, st_255_m1 H.1]; first | done | rfl | omega)) (by first | omega | (simp (disch := omega) only [up2_ne, up2_eq, g54, g55, st_200_m1 gS, st_200_m1 H.1, st_200_53 gS, st_200_53 H.1, st_200_54 gS, st_200_54 H.1, st_200_55 gS, st_200_55 H.1, st_253_m2 gS, st_253_m2 H.1, st_253_m1 gS, st_253_m1 H.1, st_254_m2 gS, st_254_m2 H.1, st_254_m1 gS, st_254_m1 H.1, st_255_m2 gS, st_255_m2 H.1, st_255_m1 gS, st_255_m1 H.1]; first | done | omega)) (by first | omega | (simp (disch := omega) only [up2_ne, up2_eq, g54, g55, st_200_m1 gS, st_200_m1 H.1, st_200_53 gS, st_200_53 H.1, st_200_54 gS, st_200_54 H.1, st_200_55 gS, st_200_55 H.1, st_253_m2 gS, st_253_m2 H.1, st_253_m1 gS, st_253_m1 H.1, st_254_m2 gS, st_254_m2 H.1, st_254_m1 gS, st_254_m1 H.1, st_255_m2 gS, st_255_m2 H.1, st_255_m1 gS, st_255_m1 H.1]; first | done | omega)) ?_
          try simp (disch := omega) only [up2_ne, up2_eq, g54, g55, st_200_m1 gS, st_200_m1 H.1, st_200_53 gS, st_200_53 H.1, st_200_54 gS, st_200_54 H.1, st_200_55 gS, st_200_55 H.1, st_253_m2 gS, st_253_m2 H.1, st_253_m1 gS, st_253_m1 H.1, st_254_m2 gS, st_254_m2 H.1, st_254_m1 gS, st_254_m1 H.1, st_255_m2 gS, st_255_m2 H.1, st_255_m1 gS, st_255_m1 H.1]
          refine wp_aload_n rfl rfl dX12_asks_147 ?_
          refine wp_getfield1 (z := 13) (kI := 55) fX12_119 dX12_asks_148 (by first | omega | (simp (disch := omega) only [up2_ne, up2_eq, g54, g55, st_200_m1 gS, st_200_m1 H.1, st_200_53 gS, st_200_53 H.1, st_200_54 gS, st_200_54 H.1, st_200_55 gS, st_200_55 H.1, st_253_m2 gS, st_253_m2 H.1, st_253_m1 gS, st_253_m1 H.1, st_254_m2 gS, st_254_m2 H.1, st_254_m1 gS, st_254_m1 H.1, st_255_m2 gS, st_255_m2 H.1, st_255_m1 gS, st_255_m1 H.1]; first | done | omega)) (by first | assumption | (simp (disch := omega) only [up2_ne, up2_eq, g54, g55, st_200_m1 gS, st_200_m1 H.1, st_200_53 gS, st_200_53 H.1, st_200_54 gS, st_200_54 H.1, st_200_55 gS, st_200_55 H.1, st_253_m2 gS, st_253_m2 H.1, st_253_m1 gS, st_253_m1 H.1, st_254_m2 gS, st_254_m2 H.1, st_254_m1 gS, st_254_m1 H.1, st_255_m2 gS, st_255_m2 H.1, st_255_m1 gS, st_255_m1 H.1]; first | done | rfl | omega)) rfl rfl ?_
          try simp (disch := omega) only [up2_ne, up2_eq, g54, g55, st_200_m1 gS, st_200_m1 H.1, st_200_53 gS, st_200_53 H.1, st_200_54 gS, st_200_54 H.1, st_200_55 gS, st_200_55 H.1, st_253_m2 gS, st_253_m2 H.1, st_253_m1 gS, st_253_m1 H.1, st_254_m2 gS, st_254_m2 H.1, st_254_m1 gS, st_254_m1 H.1, st_255_m2 gS, st_255_m2 H.1, st_255_m1 gS, st_255_m1 H.1]
          refine wp_iload rfl dX12_asks_151 ?_
          refine wp_iconst dX12_asks_153 ?_
          refine wp_iadd dX12_asks_154 ?_
          refine wp_iaload1 dX12_asks_155 (by first | omega | (simp (disch := omega) only [up2_ne, up2_eq, g54, g55, st_200_m1 gS, st_200_m1 H.1, st_200_53 gS, st_200_53 H.1, st_200_54 gS, st_200_54 H.1, st_200_55 gS, st_200_55 H.1, st_253_m2 gS, st_253_m2 H.1, st_253_m1 gS, st_253_m1 H.1, st_254_m2 gS, st_254_m2 H.1, st_254_m1 gS, st_254_m1 H.1, st_255_m2 gS, st_255_m2 H.1, st_255_m1 gS, st_255_m1 H.1]; first | done | omega)) (by first | assumption | (simp (disch := omega) only [up2_ne, up2_eq, g54, g55, st_200_m1 gS, st_200_m1 H.1, st_200_53 gS, st_200_53 H.1, st_200_54 gS, st_200_54 H.1, st_200_55 gS, st_200_55 H.1, st_253_m2 gS, st_253_m2 H.1, st_253_m1 gS, st_253_m1 H.1, st_254_m2 gS, st_254_m2 H.1, st_254_m1 gS, st_254_m1 H.1, st_255_m2 gS, st_255_m2 H.1, st_255_m1 gS, st_255_m1 H.1]; first | done | rfl | omega)) (by first | omega | (simp (disch := omega) only [up2_ne, up2_eq, g54, g55, st_200_m1 gS, st_200_m1 H.1, st_200_53 gS, st_200_53 H.1, st_200_54 gS, st_200_54 H.1, st_200_55 gS, st_200_55 H.1, st_253_m2 gS, st_253_m2 H.1, st_253_m1 gS, st_253_m1 H.1, st_254_m2 gS, st_254_m2 H.1, st_254_m1 gS, st_254_m1 H.1, st_255_m2 gS, st_255_m2 H.1, st_255_m1 gS, st_255_m1 H.1]; first | done | omega)) (by first | omega | (simp (disch := omega) only [up2_ne, up2_eq, g54, g55, st_200_m1 gS, st_200_m1 H.1, st_200_53 gS, st_200_53 H.1, st_200_54 gS, st_200_54 H.1, st_200_55 gS, st_200_55 H.1, st_253_m2 gS, st_253_m2 H.1, st_253_m1 gS, st_253_m1 H.1, st_254_m2 gS, st_254_m2 H.1, st_254_m1 gS, st_254_m1 H.1, st_255_m2 gS, st_255_m2 H.1, st_255_m1 gS, st_255_m1 H.1]; first | done | omega)) ?_
          try simp (disch := omega) only [up2_ne, up2_eq, g54, g55, st_200_m1 gS, st_200_m1 H.1, st_200_53 gS, st_200_53 H.1, st_200_54 gS, st_200_54 H.1, st_200_55 gS, st_200_55 H.1, st_253_m2 gS, st_253_m2 H.1, st_253_m1 gS, st_253_m1 H.1, st_254_m2 gS, st_254_m2 H.1, st_254_m1 gS, st_254_m1 H.1, st_255_m2 gS, st_255_m2 H.1, st_255_m1 gS, st_255_m1 H.1]
          refine wp_aload_n rfl rfl dX12_asks_156 ?_
          refine wp_getfield1 (z := 13) (kI := 55) fX12_119 dX12_asks_157 (by first | omega | (simp (disch := omega) only [up2_ne, up2_eq, g54, g55, st_200_m1 gS, st_200_m1 H.1, st_200_53 gS, st_200_53 H.1, st_200_54 gS, st_200_54 H.1, st_200_55 gS, st_200_55 H.1, st_253_m2 gS, st_253_m2 H.1, st_253_m1 gS, st_253_m1 H.1, st_254_m2 gS, st_254_m2 H.1, st_254_m1 gS, st_254_m1 H.1, st_255_m2 gS, st_255_m2 H.1, st_255_m1 gS, st_255_m1 H.1]; first | done | omega)) (by first | assumption | (simp (disch := omega) only [up2_ne, up2_eq, g54, g55, st_200_m1 gS, st_200_m1 H.1, st_200_53 gS, st_200_53 H.1, st_200_54 gS, st_200_54 H.1, st_200_55 gS, st_200_55 H.1, st_253_m2 gS, st_253_m2 H.1, st_253_m1 gS, st_253_m1 H.1, st_254_m2 gS, st_254_m2 H.1, st_254_m1 gS, st_254_m1 H.1, st_255_m2 gS, st_255_m2 H.1, st_255_m1 gS, st_255_m1 H.1]; first | done | rfl | omega)) rfl rfl ?_
          try simp (disch := omega) only [up2_ne, up2_eq, g54, g55, st_200_m1 gS, st_200_m1 H.1, st_200_53 gS, st_200_53 H.1, st_200_54 gS, st_200_54 H.1, st_200_55 gS, st_200_55 H.1, st_253_m2 gS, st_253_m2 H.1, st_253_m1 gS, st_253_m1 H.1, st_254_m2 gS, st_254_m2 H.1, st_254_m1 gS, st_254_m1 H.1, st_255_m2 gS, st_255_m2 H.1, st_255_m1 gS, st_255_m1 H.1]
          refine wp_iload rfl dX12_asks_160 ?_
          refine wp_iconst dX12_asks_162 ?_
          refine wp_iadd dX12_asks_163 ?_
          refine wp_iaload1 dX12_asks_164 (by first | omega | (simp (disch := omega) only [up2_ne, up2_eq, g54, g55, st_200_m1 gS, st_200_m1 H.1, st_200_53 gS, st_200_53 H.1, st_200_54 gS, st_200_54 H.1, st_200_55 gS, st_200_55 H.1, st_253_m2 gS, st_253_m2 H.1, st_253_m1 gS, st_253_m1 H.1, st_254_m2 gS, st_254_m2 H.1, st_254_m1 gS, st_254_m1 H.1, st_255_m2 gS, st_255_m2 H.1, st_255_m1 gS, st_255_m1 H.1]; first | done | omega)) (by first | assumption | (simp (disch := omega) only [up2_ne, up2_eq, g54, g55, st_200_m1 gS, st_200_m1 H.1, st_200_53 gS, st_200_53 H.1, st_200_54 gS, st_200_54 H.1, st_200_55 gS, st_200_55 H.1, st_253_m2 gS, st_253_m2 H.1, st_253_m1 gS, st_253_m1 H.1, st_254_m2 gS, st_254_m2 H.1, st_254_m1 gS, st_254_m1 H.1, st_255_m2 gS, st_255_m2 H.1, st_255_m1 gS, st_255_m1 H.1]; first | done | rfl | omega)) (by first | omega | (simp (disch := omega) only [up2_ne, up2_eq, g54, g55, st_200_m1 gS, st_200_m1 H.1, st_200_53 gS, st_200_53 H.1, st_200_54 gS, st_200_54 H.1, st_200_55 gS, st_200_55 H.1, st_253_m2 gS, st_253_m2 H.1, st_253_m1 gS, st_253_m1 H.1, st_254_m2 gS, st_254_m2 H.1, st_254_m1 gS, st_254_m1 H.1, st_255_m2 gS, st_255_m2 H.1, st_255_m1 gS, st_255_m1 H.1]; first | done | omega)) (by first | omega | (simp (disch := omega) only [up2_ne, up2_eq, g54, g55, st_200_m1 gS, st_200_m1 H.1, st_200_53 gS, st_200_53 H.1, st_200_54 gS, st_200_54 H.1, st_200_55 gS, st_200_55 H.1, st_253_m2 gS, st_253_m2 H.1, st_253_m1 gS, st_253_m1 H.1, st_254_m2 gS, st_254_m2 H.1, st_254_m1 gS, st_254_m1 H.1, st_255_m2 gS, st_255_m2 H.1, st_255_m1 gS, st_255_m1 H.1]; first | done | omega)) ?_
          try simp (disch := omega) only [up2_ne, up2_eq, g54, g55, st_200_m1 gS, st_200_m1 H.1, st_200_53 gS, st_200_53 H.1, st_200_54 gS, st_200_54 H.1, st_200_55 gS, st_200_55 H.1, st_253_m2 gS, st_253_m2 H.1, st_253_m1 gS, st_253_m1 H.1, st_254_m2 gS, st_254_m2 H.1, st_254_m1 gS, st_254_m1 H.1, st_255_m2 gS, st_255_m2 H.1, st_255_m1 gS, st_255_m1 H.1]
          refine wp_aload_n rfl rfl dX12_asks_165 ?_
          refine wp_getfield1 (z := 13) (kI := 55) fX12_119 dX12_asks_166 (by first | omega | (simp (disch := omega) only [up2_ne, up2_eq, g54, g55, st_200_m1 gS, st_200_m1 H.1, st_200_53 gS, st_200_53 H.1, st_200_54 gS, st_200_54 H.1, st_200_55 gS, st_200_55 H.1, st_253_m2 gS, st_253_m2 H.1, st_253_m1 gS, st_253_m1 H.1, st_254_m2 gS, st_254_m2 H.1, st_254_m1 gS, st_254_m1 H.1, st_255_m2 gS, st_255_m2 H.1, st_255_m1 gS, st_255_m1 H.1]; first | done | omega)) (by first | assumption | (simp (disch := omega) only [up2_ne, up2_eq, g54, g55, st_200_m1 gS, st_200_m1 H.1, st_200_53 gS, st_200_53 H.1, st_200_54 gS, st_200_54 H.1, st_200_55 gS, st_200_55 H.1, st_253_m2 gS, st_253_m2 H.1, st_253_m1 gS, st_253_m1 H.1, st_254_m2 gS, st_254_m2 H.1, st_254_m1 gS, st_254_m1 H.1, st_255_m2 gS, st_255_m2 H.1, st_255_m1 gS, st_255_m1 H.1]; first | done | rfl | omega)) rfl rfl ?_
          try simp (disch := omega) only [up2_ne, up2_eq, g54, g55, st_200_m1 gS, st_200_m1 H.1, st_200_53 gS, st_200_53 H.1, st_200_54 gS, st_200_54 H.1, st_200_55 gS, st_200_55 H.1, st_253_m2 gS, st_253_m2 H.1, st_253_m1 gS, st_253_m1 H.1, st_254_m2 gS, st_254_m2 H.1, st_254_m1 gS, st_254_m1 H.1, st_255_m2 gS, st_255_m2 H.1, st_255_m1 gS, st_255_m1 H.1]
          refine wp_iload rfl dX12_asks_169 ?_
          refine wp_iconst dX12_asks_171 ?_
          refine wp_iadd dX12_asks_172 ?_
          refine wp_iaload1 dX12_asks_173 (by first | omega | (simp (disch := omega) only [up2_ne, up2_eq, g54, g55, st_200_m1 gS, st_200_m1 H.1, st_200_53 gS, st_200_53 H.1, st_200_54 gS, st_200_54 H.1, st_200_55 gS, st_200_55 H.1, st_253_m2 gS, st_253_m2 H.1, st_253_m1 gS, st_253_m1 H.1, st_254_m2 gS, st_254_m2 H.1, st_254_m1 gS, st_254_m1 H.1, st_255_m2 gS, st_255_m2 H.1, st_255_m1 gS, st_255_m1 H.1]; first | done | omega)) (by first | assumption | (simp (disch := omega) only [up2_ne, up2_eq, g54, g55, st_200_m1 gS, st_200_m1 H.1, st_200_53 gS, st_200_53 H.1, st_200_54 gS, st_200_54 H.1, st_200_55 gS, st_200_55 H.1, st_253_m2 gS, st_253_m2 H.1, st_253_m1 gS, st_253_m1 H.1, st_254_m2 gS, st_254_m2 H.1, st_254_m1 gS, st_254_m1 H.1, st_255_m2 gS, st_255_m2 H.1, st_255_m1 gS, st_255_m1 H.1]; first | done | rfl | omega)) (by first | omega | (simp (disch := omega) only [up2_ne, up2_eq, g54, g55, st_200_m1 gS, st_200_m1 H.1, st_200_53 gS, st_200_53 H.1, st_200_54 gS, st_200_54 H.1, st_200_55 gS, st_200_55 H.1, st_253_m2 gS, st_253_m2 H.1, st_253_m1 gS, st_253_m1 H.1, st_254_m2 gS, st_254_m2 H.1, st_254_m1 gS, st_254_m1 H.1, st_255_m2 gS, st_255_m2 H.1, st_255_m1 gS, st_255_m1 H.1]; first | done | omega)) (by first | omega | (simp (disch := omega) only [up2_ne, up2_eq, g54, g55, st_200_m1 gS, st_200_m1 H.1, st_200_53 gS, st_200_53 H.1, st_200_54 gS, st_200_54 H.1, st_200_55 gS, st_200_55 H.1, st_253_m2 gS, st_253_m2 H.1, st_253_m1 gS, st_253_m1 H.1, st_254_m2 gS, st_254_m2 H.1, st_254_m1 gS, st_254_m1 H.1, st_255_m2 gS, st_255_m2 H.1, st_255_m1 gS, st_255_m1 H.1]; first | done | omega)) ?_
          try simp (disch := omega) only [up2_ne, up2_eq, g54, g55, st_200_m1 gS, st_200_m1 H.1, st_200_53 gS, st_200_53 H.1, st_200_54 gS, st_200_54 H.1, st_200_55 gS, st_200_55 H.1, st_253_m2 gS, st_253_m2 H.1, st_253_m1 gS, st_253_m1 H.1, st_254_m2 gS, st_254_m2 H.1, st_254_m1 gS, st_254_m1 H.1, st_255_m2 gS, st_255_m2 H.1, st_255_m1 gS, st_255_m1 H.1]
          refine wp_cV6r (ci := 12) okX12_ask rfl rfl wX12_122 dX12_asks_174 (Nat.le_of_ble_eq_true rfl) (Nat.le_of_ble_eq_true rfl) (by first | omega | (simp (disch := omega) only [up2_ne, up2_eq, g54, g55, st_200_m1 gS, st_200_m1 H.1, st_200_53 gS, st_200_53 H.1, st_200_54 gS, st_200_54 H.1, st_200_55 gS, st_200_55 H.1, st_253_m2 gS, st_253_m2 H.1, st_253_m1 gS, st_253_m1 H.1, st_254_m2 gS, st_254_m2 H.1, st_254_m1 gS, st_254_m1 H.1, st_255_m2 gS, st_255_m2 H.1, st_255_m1 gS, st_255_m1 H.1]; first | done | omega)) (by first | assumption | (simp (disch := omega) only [up2_ne, up2_eq, g54, g55, st_200_m1 gS, st_200_m1 H.1, st_200_53 gS, st_200_53 H.1, st_200_54 gS, st_200_54 H.1, st_200_55 gS, st_200_55 H.1, st_253_m2 gS, st_253_m2 H.1, st_253_m1 gS, st_253_m1 H.1, st_254_m2 gS, st_254_m2 H.1, st_254_m1 gS, st_254_m1 H.1, st_255_m2 gS, st_255_m2 H.1, st_255_m1 gS, st_255_m1 H.1]; first | done | rfl | omega)) (s_X12_ask H2 ge gS hcE0 (hcE 1 (by decide) (by decide)) (hcE 2 (by decide) (by decide)) (hcE 3 (by decide) (by decide)) (hcE 4 (by decide) (by decide)) (hcE 5 (by decide) (by decide))) (Nat.zero_le _) ?_
          rintro r g2 ⟨rfl, S2, e2, r2⟩ -
          show WP _ _ _ _ _ _ _ ((0, _) :: _) _
          have hav := askV_in H2 (k := m 255 (40 * x + (fr + 6 * (n : Int)))) (ho := m 255 (40 * x + (fr + 6 * (n : Int)) + 1)) (o := m 255 (40 * x + (fr + 6 * (n : Int)) + 2)) (t := m 255 (40 * x + (fr + 6 * (n : Int)) + 3)) (s := m 255 (40 * x + (fr + 6 * (n : Int)) + 4)) (dd := m 255 (40 * x + (fr + 6 * (n : Int)) + 5))
          refine wp_if_lt (tgt := 184) (by first | assumption | exact bI_in _ | exact ⟨by omega, by omega⟩ | exact iAnd_in | exact iOr_in | exact iShr_in | exact iShl_in | exact iXor_in | exact hxs _) dX12_asks_177 (by decide) (fun c4 => ?_) (fun c4 => ?_)
          · refine wp_iconst dX12_asks_184 ?_
            refine wp_iadd dX12_asks_185 ?_
            refine wp_istore dX12_asks_186 rfl (Nat.le_of_ble_eq_true rfl) rfl ?_
            try simp only [List.set_cons_zero, List.set_cons_succ]
            refine wp_iinc rfl rfl dX12_asks_188 rfl rfl ?_
            try simp only [List.set_cons_zero, List.set_cons_succ]
            refine wp_goto (tgt := 63) dX12_asks_191 (by decide) ?_
            refine wp_dropAt 7 rfl (wp_dropAt 9 rfl ?_)
            have z := ih (by omega) g2 S2 e2 (fun p y w => (r2 p y w).trans (gR p y w)) (by rw [← asX_s (by omega) hE]; exact hT) (Or.inr ⟨by omega, by omega⟩)
            rw [asK] at z
            first
              | (rw [bI_t (by omega)] at z
                 exact z)
              | (rw [bI_f (by omega)] at z
                 exact z)
          · refine wp_iconst dX12_asks_180 ?_
            refine wp_goto (tgt := 185) dX12_asks_181 (by decide) ?_
            refine wp_iadd dX12_asks_185 ?_
            refine wp_istore dX12_asks_186 rfl (Nat.le_of_ble_eq_true rfl) rfl ?_
            try simp only [List.set_cons_zero, List.set_cons_succ]
            refine wp_iinc rfl rfl dX12_asks_188 rfl rfl ?_
            try simp only [List.set_cons_zero, List.set_cons_succ]
            refine wp_goto (tgt := 63) dX12_asks_191 (by decide) ?_
            refine wp_dropAt 7 rfl (wp_dropAt 9 rfl ?_)
            have z := ih (by omega) g2 S2 e2 (fun p y w => (r2 p y w).trans (gR p y w)) (by rw [← asX_s (by omega) hE]; exact hT) (Or.inr ⟨by omega, by omega⟩)
            rw [asK] at z
            first
              | (rw [bI_t (by omega)] at z
                 exact z)
              | (rw [bI_f (by omega)] at z
                 exact z)
        · refine wp_bipush (by decide) dX12_asks_106 ?_
          refine wp_iret dX12_asks_108 rfl ?_
          first
            | (have hz : asZ m x z nn := hz
               have en : n = nn.toNat := by omega
               subst en
               rw [Nat.sub_self] at hT
               have hT2 : asX m x fr nn.toNat 0 = nn.toNat := hT.symm
               refine ⟨?_, gS, ?_, gR⟩
               · unfold asV
                 rw [if_neg (fun y => y hz), if_neg (by omega), if_neg (fun y => y hzz), if_pos hT2]
               · unfold asQ
                 rw [if_pos ⟨hz, hzz⟩, hT2]
                 exact ge)
            | (have hz : asZ m x z nn := hz
               have hE : ¬ asE m x fr n := by omega
               rw [asX_e (by omega) hE] at hT
               refine ⟨?_, gS, ?_, gR⟩
               · unfold asV
                 rw [if_neg (fun y => y hz), if_neg (by omega), if_neg (fun y => y hzz), if_neg (by omega)]
               · unfold asQ
                 rw [if_pos ⟨hz, hzz⟩, ← hT]
                 exact ge)
  show WP (gX (gq u)) MX12_asks (d + 4) b _ 0 [(2, 200), (0, x), (0, z), (0, fr), (0, nn), (9, 0), (9, 0), (9, 0), (9, 0), (9, 0)] [] h
  refine wp_iload_n rfl rfl dX12_asks_0 ?_
  refine wp_i2l (by first | assumption | exact bI_in _ | exact ⟨by omega, by omega⟩ | exact iAnd_in | exact iOr_in | exact iShr_in | exact iShl_in | exact iXor_in | exact hxs _) dX12_asks_1 ?_
  refine wp_lconst (v := 0) rfl dX12_asks_2 ?_
  refine wp_ldc2 kX12_109 dX12_asks_3 ?_
  refine wp_cS3 okX12_isIn wX12_15 dX12_asks_6 rfl (Nat.le_of_ble_eq_true rfl) (Nat.le_of_ble_eq_true rfl) (s_X12_isIn (by first | exact ⟨by have := ix.1; omega, by have := ix.2; omega⟩ | exact ⟨by have := iz.1; omega, by have := iz.2; omega⟩) (by exact ⟨by decide, by decide⟩) (by exact ⟨by decide, by decide⟩)) (Nat.zero_le _) ?_
  try simp (disch := omega) only [up2_ne, up2_eq, e, st_200_m1 hS, st_200_m1 H.1, st_200_53 hS, st_200_53 H.1, st_200_54 hS, st_200_54 H.1, st_200_55 hS, st_200_55 H.1, st_253_m2 hS, st_253_m2 H.1, st_253_m1 hS, st_253_m1 H.1, st_254_m2 hS, st_254_m2 H.1, st_254_m1 hS, st_254_m1 H.1, st_255_m2 hS, st_255_m2 H.1, st_255_m1 hS, st_255_m1 H.1]
  refine wp_ifB_eq (tgt := 29) dX12_asks_9 (by decide) (fun c5 => ?_) (fun c5 => ?_)
  · refine wp_bipush (by decide) dX12_asks_29 ?_
    refine wp_iret dX12_asks_31 rfl ?_
    first
      | (exfalso; omega)
      | (have hz : ¬ asZ m x z nn := by omega
         refine ⟨?_, hS, ?_, fun _ _ _ => rfl⟩
         · unfold asV
           rw [if_pos hz]
         · unfold asQ
           rw [if_neg (fun y => hz y.1)]
           exact e)
      | (have hz : asZ m x z nn := by omega
         refine ⟨?_, hS, ?_, fun _ _ _ => rfl⟩
         · unfold asV
           first
             | rw [if_neg (fun y => y hz), if_pos (by omega)]
             | rw [if_neg (fun y => y hz), if_neg (by omega), if_pos (by omega)]
         · unfold asQ
           rw [if_neg (by omega)]
           exact e)
  · refine wp_iload_n rfl rfl dX12_asks_12 ?_
    refine wp_i2l (by first | assumption | exact bI_in _ | exact ⟨by omega, by omega⟩ | exact iAnd_in | exact iOr_in | exact iShr_in | exact iShl_in | exact iXor_in | exact hxs _) dX12_asks_13 ?_
    refine wp_lconst (v := 0) rfl dX12_asks_14 ?_
    refine wp_ldc2 kX12_111 dX12_asks_15 ?_
    refine wp_cS3 okX12_isIn wX12_15 dX12_asks_18 rfl (Nat.le_of_ble_eq_true rfl) (Nat.le_of_ble_eq_true rfl) (s_X12_isIn (by first | exact ⟨by have := ix.1; omega, by have := ix.2; omega⟩ | exact ⟨by have := iz.1; omega, by have := iz.2; omega⟩) (by exact ⟨by decide, by decide⟩) (by exact ⟨by decide, by decide⟩)) (Nat.zero_le _) ?_
    try simp (disch := omega) only [up2_ne, up2_eq, e, st_200_m1 hS, st_200_m1 H.1, st_200_53 hS, st_200_53 H.1, st_200_54 hS, st_200_54 H.1, st_200_55 hS, st_200_55 H.1, st_253_m2 hS, st_253_m2 H.1, st_253_m1 hS, st_253_m1 H.1, st_254_m2 hS, st_254_m2 H.1, st_254_m1 hS, st_254_m1 H.1, st_255_m2 hS, st_255_m2 H.1, st_255_m1 hS, st_255_m1 H.1]
    refine wp_ifB_eq (tgt := 29) dX12_asks_21 (by decide) (fun c6 => ?_) (fun c6 => ?_)
    · refine wp_bipush (by decide) dX12_asks_29 ?_
      refine wp_iret dX12_asks_31 rfl ?_
      first
        | (exfalso; omega)
        | (have hz : ¬ asZ m x z nn := by omega
           refine ⟨?_, hS, ?_, fun _ _ _ => rfl⟩
           · unfold asV
             rw [if_pos hz]
           · unfold asQ
             rw [if_neg (fun y => hz y.1)]
             exact e)
        | (have hz : asZ m x z nn := by omega
           refine ⟨?_, hS, ?_, fun _ _ _ => rfl⟩
           · unfold asV
             first
               | rw [if_neg (fun y => y hz), if_pos (by omega)]
               | rw [if_neg (fun y => y hz), if_neg (by omega), if_pos (by omega)]
           · unfold asQ
             rw [if_neg (by omega)]
             exact e)
    · refine wp_iload rfl dX12_asks_24 ?_
      refine wp_if_ge (tgt := 32) (by first | assumption | exact bI_in _ | exact ⟨by omega, by omega⟩ | exact iAnd_in | exact iOr_in | exact iShr_in | exact iShl_in | exact iXor_in | exact hxs _) dX12_asks_26 (by decide) (fun c7 => ?_) (fun c7 => ?_)
      · have hs := hs (by omega)
        refine wp_aload_n rfl rfl dX12_asks_32 ?_
        refine wp_getfield1 (z := 13) (kI := 53) fX12_113 dX12_asks_33 (by first | omega | (simp (disch := omega) only [up2_ne, up2_eq, e, st_200_m1 hS, st_200_m1 H.1, st_200_53 hS, st_200_53 H.1, st_200_54 hS, st_200_54 H.1, st_200_55 hS, st_200_55 H.1, st_253_m2 hS, st_253_m2 H.1, st_253_m1 hS, st_253_m1 H.1, st_254_m2 hS, st_254_m2 H.1, st_254_m1 hS, st_254_m1 H.1, st_255_m2 hS, st_255_m2 H.1, st_255_m1 hS, st_255_m1 H.1]; first | done | omega)) (by first | assumption | (simp (disch := omega) only [up2_ne, up2_eq, e, st_200_m1 hS, st_200_m1 H.1, st_200_53 hS, st_200_53 H.1, st_200_54 hS, st_200_54 H.1, st_200_55 hS, st_200_55 H.1, st_253_m2 hS, st_253_m2 H.1, st_253_m1 hS, st_253_m1 H.1, st_254_m2 hS, st_254_m2 H.1, st_254_m1 hS, st_254_m1 H.1, st_255_m2 hS, st_255_m2 H.1, st_255_m1 hS, st_255_m1 H.1]; first | done | rfl | omega)) rfl rfl ?_
        try simp (disch := omega) only [up2_ne, up2_eq, e, st_200_m1 hS, st_200_m1 H.1, st_200_53 hS, st_200_53 H.1, st_200_54 hS, st_200_54 H.1, st_200_55 hS, st_200_55 H.1, st_253_m2 hS, st_253_m2 H.1, st_253_m1 hS, st_253_m1 H.1, st_254_m2 hS, st_254_m2 H.1, st_254_m1 hS, st_254_m1 H.1, st_255_m2 hS, st_255_m2 H.1, st_255_m1 hS, st_255_m1 H.1]
        refine wp_iload_n rfl rfl dX12_asks_36 ?_
        refine wp_iaload1 dX12_asks_37 (by first | omega | (simp (disch := omega) only [up2_ne, up2_eq, e, st_200_m1 hS, st_200_m1 H.1, st_200_53 hS, st_200_53 H.1, st_200_54 hS, st_200_54 H.1, st_200_55 hS, st_200_55 H.1, st_253_m2 hS, st_253_m2 H.1, st_253_m1 hS, st_253_m1 H.1, st_254_m2 hS, st_254_m2 H.1, st_254_m1 hS, st_254_m1 H.1, st_255_m2 hS, st_255_m2 H.1, st_255_m1 hS, st_255_m1 H.1]; first | done | omega)) (by first | assumption | (simp (disch := omega) only [up2_ne, up2_eq, e, st_200_m1 hS, st_200_m1 H.1, st_200_53 hS, st_200_53 H.1, st_200_54 hS, st_200_54 H.1, st_200_55 hS, st_200_55 H.1, st_253_m2 hS, st_253_m2 H.1, st_253_m1 hS, st_253_m1 H.1, st_254_m2 hS, st_254_m2 H.1, st_254_m1 hS, st_254_m1 H.1, st_255_m2 hS, st_255_m2 H.1, st_255_m1 hS, st_255_m1 H.1]; first | done | rfl | omega)) (by first | omega | (simp (disch := omega) only [up2_ne, up2_eq, e, st_200_m1 hS, st_200_m1 H.1, st_200_53 hS, st_200_53 H.1, st_200_54 hS, st_200_54 H.1, st_200_55 hS, st_200_55 H.1, st_253_m2 hS, st_253_m2 H.1, st_253_m1 hS, st_253_m1 H.1, st_254_m2 hS, st_254_m2 H.1, st_254_m1 hS, st_254_m1 H.1, st_255_m2 hS, st_255_m2 H.1, st_255_m1 hS, st_255_m1 H.1]; first | done | omega)) (by first | omega | (simp (disch := omega) only [up2_ne, up2_eq, e, st_200_m1 hS, st_200_m1 H.1, st_200_53 hS, st_200_53 H.1, st_200_54 hS, st_200_54 H.1, st_200_55 hS, st_200_55 H.1, st_253_m2 hS, st_253_m2 H.1, st_253_m1 hS, st_253_m1 H.1, st_254_m2 hS, st_254_m2 H.1, st_254_m1 hS, st_254_m1 H.1, st_255_m2 hS, st_255_m2 H.1, st_255_m1 hS, st_255_m1 H.1]; first | done | omega)) ?_
        try simp (disch := omega) only [up2_ne, up2_eq, e, st_200_m1 hS, st_200_m1 H.1, st_200_53 hS, st_200_53 H.1, st_200_54 hS, st_200_54 H.1, st_200_55 hS, st_200_55 H.1, st_253_m2 hS, st_253_m2 H.1, st_253_m1 hS, st_253_m1 H.1, st_254_m2 hS, st_254_m2 H.1, st_254_m1 hS, st_254_m1 H.1, st_255_m2 hS, st_255_m2 H.1, st_255_m1 hS, st_255_m1 H.1]
        refine wp_if_ge (tgt := 44) (by first | assumption | exact bI_in _ | exact ⟨by omega, by omega⟩ | exact iAnd_in | exact iOr_in | exact iShr_in | exact iShl_in | exact iXor_in | exact hxs _) dX12_asks_38 (by decide) (fun c8 => ?_) (fun c8 => ?_)
        · refine wp_aload_n rfl rfl dX12_asks_44 ?_
          refine wp_getfield1 (z := 13) (kI := 53) fX12_113 dX12_asks_45 (by first | omega | (simp (disch := omega) only [up2_ne, up2_eq, e, st_200_m1 hS, st_200_m1 H.1, st_200_53 hS, st_200_53 H.1, st_200_54 hS, st_200_54 H.1, st_200_55 hS, st_200_55 H.1, st_253_m2 hS, st_253_m2 H.1, st_253_m1 hS, st_253_m1 H.1, st_254_m2 hS, st_254_m2 H.1, st_254_m1 hS, st_254_m1 H.1, st_255_m2 hS, st_255_m2 H.1, st_255_m1 hS, st_255_m1 H.1]; first | done | omega)) (by first | assumption | (simp (disch := omega) only [up2_ne, up2_eq, e, st_200_m1 hS, st_200_m1 H.1, st_200_53 hS, st_200_53 H.1, st_200_54 hS, st_200_54 H.1, st_200_55 hS, st_200_55 H.1, st_253_m2 hS, st_253_m2 H.1, st_253_m1 hS, st_253_m1 H.1, st_254_m2 hS, st_254_m2 H.1, st_254_m1 hS, st_254_m1 H.1, st_255_m2 hS, st_255_m2 H.1, st_255_m1 hS, st_255_m1 H.1]; first | done | rfl | omega)) rfl rfl ?_
          try simp (disch := omega) only [up2_ne, up2_eq, e, st_200_m1 hS, st_200_m1 H.1, st_200_53 hS, st_200_53 H.1, st_200_54 hS, st_200_54 H.1, st_200_55 hS, st_200_55 H.1, st_253_m2 hS, st_253_m2 H.1, st_253_m1 hS, st_253_m1 H.1, st_254_m2 hS, st_254_m2 H.1, st_254_m1 hS, st_254_m1 H.1, st_255_m2 hS, st_255_m2 H.1, st_255_m1 hS, st_255_m1 H.1]
          refine wp_iload_n rfl rfl dX12_asks_48 ?_
          refine wp_iaload1 dX12_asks_49 (by first | omega | (simp (disch := omega) only [up2_ne, up2_eq, e, st_200_m1 hS, st_200_m1 H.1, st_200_53 hS, st_200_53 H.1, st_200_54 hS, st_200_54 H.1, st_200_55 hS, st_200_55 H.1, st_253_m2 hS, st_253_m2 H.1, st_253_m1 hS, st_253_m1 H.1, st_254_m2 hS, st_254_m2 H.1, st_254_m1 hS, st_254_m1 H.1, st_255_m2 hS, st_255_m2 H.1, st_255_m1 hS, st_255_m1 H.1]; first | done | omega)) (by first | assumption | (simp (disch := omega) only [up2_ne, up2_eq, e, st_200_m1 hS, st_200_m1 H.1, st_200_53 hS, st_200_53 H.1, st_200_54 hS, st_200_54 H.1, st_200_55 hS, st_200_55 H.1, st_253_m2 hS, st_253_m2 H.1, st_253_m1 hS, st_253_m1 H.1, st_254_m2 hS, st_254_m2 H.1, st_254_m1 hS, st_254_m1 H.1, st_255_m2 hS, st_255_m2 H.1, st_255_m1 hS, st_255_m1 H.1]; first | done | rfl | omega)) (by first | omega | (simp (disch := omega) only [up2_ne, up2_eq, e, st_200_m1 hS, st_200_m1 H.1, st_200_53 hS, st_200_53 H.1, st_200_54 hS, st_200_54 H.1, st_200_55 hS, st_200_55 H.1, st_253_m2 hS, st_253_m2 H.1, st_253_m1 hS, st_253_m1 H.1, st_254_m2 hS, st_254_m2 H.1, st_254_m1 hS, st_254_m1 H.1, st_255_m2 hS, st_255_m2 H.1, st_255_m1 hS, st_255_m1 H.1]; first | done | omega)) (by first | omega | (simp (disch := omega) only [up2_ne, up2_eq, e, st_200_m1 hS, st_200_m1 H.1, st_200_53 hS, st_200_53 H.1, st_200_54 hS, st_200_54 H.1, st_200_55 hS, st_200_55 H.1, st_253_m2 hS, st_253_m2 H.1, st_253_m1 hS, st_253_m1 H.1, st_254_m2 hS, st_254_m2 H.1, st_254_m1 hS, st_254_m1 H.1, st_255_m2 hS, st_255_m2 H.1, st_255_m1 hS, st_255_m1 H.1]; first | done | omega)) ?_
          try simp (disch := omega) only [up2_ne, up2_eq, e, st_200_m1 hS, st_200_m1 H.1, st_200_53 hS, st_200_53 H.1, st_200_54 hS, st_200_54 H.1, st_200_55 hS, st_200_55 H.1, st_253_m2 hS, st_253_m2 H.1, st_253_m1 hS, st_253_m1 H.1, st_254_m2 hS, st_254_m2 H.1, st_254_m1 hS, st_254_m1 H.1, st_255_m2 hS, st_255_m2 H.1, st_255_m1 hS, st_255_m1 H.1]
          refine wp_iload_n rfl rfl dX12_asks_50 ?_
          refine wp_icmp_eq (tgt := 57) (by first | assumption | exact bI_in _ | exact ⟨by omega, by omega⟩ | exact iAnd_in | exact iOr_in | exact iShr_in | exact iShl_in | exact iXor_in | exact hxs _) (by first | assumption | exact bI_in _ | exact ⟨by omega, by omega⟩ | exact iAnd_in | exact iOr_in | exact iShr_in | exact iShl_in | exact iXor_in | exact hxs _) dX12_asks_51 (by decide) (fun c9 => ?_) (fun c9 => ?_)
          · refine wp_iconst dX12_asks_57 ?_
            refine wp_istore dX12_asks_58 rfl (Nat.le_of_ble_eq_true rfl) rfl ?_
            try simp only [List.set_cons_zero, List.set_cons_succ]
            refine wp_iconst dX12_asks_60 ?_
            refine wp_istore dX12_asks_61 rfl (Nat.le_of_ble_eq_true rfl) rfl ?_
            try simp only [List.set_cons_zero, List.set_cons_succ]
            have hz : asZ m x z nn := by omega
            exact loop hz (by omega) 0 (by omega) h hS e (fun _ _ _ => rfl) rfl (Or.inl rfl)
          · refine wp_bipush (by decide) dX12_asks_54 ?_
            refine wp_iret dX12_asks_56 rfl ?_
            first
              | (exfalso; omega)
              | (have hz : ¬ asZ m x z nn := by omega
                 refine ⟨?_, hS, ?_, fun _ _ _ => rfl⟩
                 · unfold asV
                   rw [if_pos hz]
                 · unfold asQ
                   rw [if_neg (fun y => hz y.1)]
                   exact e)
              | (have hz : asZ m x z nn := by omega
                 refine ⟨?_, hS, ?_, fun _ _ _ => rfl⟩
                 · unfold asV
                   first
                     | rw [if_neg (fun y => y hz), if_pos (by omega)]
                     | rw [if_neg (fun y => y hz), if_neg (by omega), if_pos (by omega)]
                 · unfold asQ
                   rw [if_neg (by omega)]
                   exact e)
        · refine wp_bipush (by decide) dX12_asks_41 ?_
          refine wp_iret dX12_asks_43 rfl ?_
          first
            | (exfalso; omega)
            | (have hz : ¬ asZ m x z nn := by omega
               refine ⟨?_, hS, ?_, fun _ _ _ => rfl⟩
               · unfold asV
                 rw [if_pos hz]
               · unfold asQ
                 rw [if_neg (fun y => hz y.1)]
                 exact e)
            | (have hz : asZ m x z nn := by omega
               refine ⟨?_, hS, ?_, fun _ _ _ => rfl⟩
               · unfold asV
                 first
                   | rw [if_neg (fun y => y hz), if_pos (by omega)]
                   | rw [if_neg (fun y => y hz), if_neg (by omega), if_pos (by omega)]
               · unfold asQ
                 rw [if_neg (by omega)]
                 exact e)
      · refine wp_bipush (by decide) dX12_asks_29 ?_
        refine wp_iret dX12_asks_31 rfl ?_
        first
          | (exfalso; omega)
          | (have hz : ¬ asZ m x z nn := by omega
             refine ⟨?_, hS, ?_, fun _ _ _ => rfl⟩
             · unfold asV
               rw [if_pos hz]
             · unfold asQ
               rw [if_neg (fun y => hz y.1)]
               exact e)
          | (have hz : asZ m x z nn := by omega
             refine ⟨?_, hS, ?_, fun _ _ _ => rfl⟩
             · unfold asV
               first
                 | rw [if_neg (fun y => y hz), if_pos (by omega)]
                 | rw [if_neg (fun y => y hz), if_neg (by omega), if_pos (by omega)]
             · unfold asQ
               rw [if_neg (by omega)]
               exact e)
theorem Inv_asQ {j : Nat} {G : gG} {m : mH} (H : Inv j m) {x z fr n : Int} : Inv j (asQ G m x z fr n) := by
  unfold asQ
  split
  · exact (Inv_asN H _).1
  · exact H
theorem asV_in {G : gG} {m : mH} {x z fr n : Int} (inn : InI n) : InI (asV G m x z fr n) := by
  have h1 := asK_b (G := G) (m := m) (x := x) (fr := fr) n.toNat
  have h2 := inn.2
  unfold asV
  split
  · exact ⟨by decide, by decide⟩
  · rename_i q
    have q2 : 0 ≤ n := (Decidable.of_not_not q).2.2
    repeat' split
    all_goals first | exact ⟨by decide, by decide⟩ | exact ⟨by omega, by omega⟩
theorem p_asks {u : gT} (j : Nat) (h : mH) (hj : j < 512) (hI : Inv j h) (x z fr n : Int) (i1 : InI x) (i2 : InI z) (i3 : InI fr) (i4 : InI n) : PairI u Inv MX11_asks MX12_asks [(0, x), (0, z), (0, fr), (0, n)] j h := by
  have hS := hI.1
  refine (s_X11_asks (u := u) (d := 2041) (b := 146) hI Cl_rfl hS i1 i2 i3 i4).mono ?_
  rintro r h1 ⟨rfl, gS, ge, gR⟩ -
  refine ⟨_, rfl, asV_in i4, (s_X12_asks (u := u) (d := 2043) (b := 0) (m := h) hI (fun x k q => gR x k q.1) gS i1 i2 i3 i4).mono ?_⟩
  rintro r h2 ⟨rfl, gS2, ge2, gR2⟩ -
  exact ⟨rfl, Inv_step (Inv_asQ hI) gS2 ge gR2 ge2⟩
