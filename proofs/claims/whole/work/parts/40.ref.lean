/-! ===== the reference: small methods, counts, sums ===== -/
section MR40
variable {X : mX} {M : mD} {d b pc : Nat} {Q : mV → mH → Prop} {L S : List mV} {h : mH}
theorem wp_lcif_eq {x y off : Int} {tgt : Nat} (hx : InL x) (hy : InL y) (hd1 : decode (mC M) pc = .ok (.lcmp, 1)) (hd2 : decode (mC M) (pc + 1) = .ok (.ifCond .eq off, 3)) (ht : ((pc + 1 : Nat) : Int) + off = (tgt : Int)) (kt : x = y → WP X M d b Q tgt L S h) (kf : ¬ (x = y) → WP X M d b Q (pc + 1 + 3) L S h) : WP X M d b Q pc L ((1, y) :: (1, x) :: S) h := by
  refine wp_lcmp hx hy hd1 (wp_if_eq ?_ hd2 ht (fun z => kt ?_) (fun z => kf ?_))
  · split
    · exact ⟨by decide, by decide⟩
    · split <;> exact ⟨by decide, by decide⟩
  all_goals (revert z; split <;> (try split) <;> intro z <;> omega)
theorem wp_lcif_ne {x y off : Int} {tgt : Nat} (hx : InL x) (hy : InL y) (hd1 : decode (mC M) pc = .ok (.lcmp, 1)) (hd2 : decode (mC M) (pc + 1) = .ok (.ifCond .ne off, 3)) (ht : ((pc + 1 : Nat) : Int) + off = (tgt : Int)) (kt : x ≠ y → WP X M d b Q tgt L S h) (kf : x = y → WP X M d b Q (pc + 1 + 3) L S h) : WP X M d b Q pc L ((1, y) :: (1, x) :: S) h := by
  refine wp_lcmp hx hy hd1 (wp_if_ne ?_ hd2 ht (fun z => kt ?_) (fun z => kf ?_))
  · split
    · exact ⟨by decide, by decide⟩
    · split <;> exact ⟨by decide, by decide⟩
  all_goals (revert z; split <;> (try split) <;> intro z <;> omega)
theorem wp_lcif_lt {x y off : Int} {tgt : Nat} (hx : InL x) (hy : InL y) (hd1 : decode (mC M) pc = .ok (.lcmp, 1)) (hd2 : decode (mC M) (pc + 1) = .ok (.ifCond .lt off, 3)) (ht : ((pc + 1 : Nat) : Int) + off = (tgt : Int)) (kt : x < y → WP X M d b Q tgt L S h) (kf : ¬ (x < y) → WP X M d b Q (pc + 1 + 3) L S h) : WP X M d b Q pc L ((1, y) :: (1, x) :: S) h := by
  refine wp_lcmp hx hy hd1 (wp_if_lt ?_ hd2 ht (fun z => kt ?_) (fun z => kf ?_))
  · split
    · exact ⟨by decide, by decide⟩
    · split <;> exact ⟨by decide, by decide⟩
  all_goals (revert z; split <;> (try split) <;> intro z <;> omega)
theorem wp_lcif_ge {x y off : Int} {tgt : Nat} (hx : InL x) (hy : InL y) (hd1 : decode (mC M) pc = .ok (.lcmp, 1)) (hd2 : decode (mC M) (pc + 1) = .ok (.ifCond .ge off, 3)) (ht : ((pc + 1 : Nat) : Int) + off = (tgt : Int)) (kt : y ≤ x → WP X M d b Q tgt L S h) (kf : ¬ (y ≤ x) → WP X M d b Q (pc + 1 + 3) L S h) : WP X M d b Q pc L ((1, y) :: (1, x) :: S) h := by
  refine wp_lcmp hx hy hd1 (wp_if_ge ?_ hd2 ht (fun z => kt ?_) (fun z => kf ?_))
  · split
    · exact ⟨by decide, by decide⟩
    · split <;> exact ⟨by decide, by decide⟩
  all_goals (revert z; split <;> (try split) <;> intro z <;> omega)
theorem wp_lcif_gt {x y off : Int} {tgt : Nat} (hx : InL x) (hy : InL y) (hd1 : decode (mC M) pc = .ok (.lcmp, 1)) (hd2 : decode (mC M) (pc + 1) = .ok (.ifCond .gt off, 3)) (ht : ((pc + 1 : Nat) : Int) + off = (tgt : Int)) (kt : y < x → WP X M d b Q tgt L S h) (kf : ¬ (y < x) → WP X M d b Q (pc + 1 + 3) L S h) : WP X M d b Q pc L ((1, y) :: (1, x) :: S) h := by
  refine wp_lcmp hx hy hd1 (wp_if_gt ?_ hd2 ht (fun z => kt ?_) (fun z => kf ?_))
  · split
    · exact ⟨by decide, by decide⟩
    · split <;> exact ⟨by decide, by decide⟩
  all_goals (revert z; split <;> (try split) <;> intro z <;> omega)
theorem wp_lcif_le {x y off : Int} {tgt : Nat} (hx : InL x) (hy : InL y) (hd1 : decode (mC M) pc = .ok (.lcmp, 1)) (hd2 : decode (mC M) (pc + 1) = .ok (.ifCond .le off, 3)) (ht : ((pc + 1 : Nat) : Int) + off = (tgt : Int)) (kt : x ≤ y → WP X M d b Q tgt L S h) (kf : ¬ (x ≤ y) → WP X M d b Q (pc + 1 + 3) L S h) : WP X M d b Q pc L ((1, y) :: (1, x) :: S) h := by
  refine wp_lcmp hx hy hd1 (wp_if_le ?_ hd2 ht (fun z => kt ?_) (fun z => kf ?_))
  · split
    · exact ⟨by decide, by decide⟩
    · split <;> exact ⟨by decide, by decide⟩
  all_goals (revert z; split <;> (try split) <;> intro z <;> omega)
end MR40
theorem s_X12_isIn {u : gT} {h : mH} {d b : Nat} {v lo hi : Int} (h1 : InL v) (h2 : InL lo) (h3 : InL hi) : Det (gX (gq u)) MX12_isIn d b [(1, v), (1, lo), (1, hi)] h (0, bI (lo ≤ v ∧ v ≤ hi)) h := by
  intro Q hQ
  show WP (gX (gq u)) MX12_isIn d b Q 0 [(1, v), (9, 0), (1, lo), (9, 0), (1, hi), (9, 0)] [] h
  refine wp_lload_n rfl rfl dX12_isIn_0 ?_
  refine wp_lload_n rfl rfl dX12_isIn_1 ?_
  refine wp_lcif_lt (tgt := 17) (by first | assumption | exact ⟨by omega, by omega⟩) (by first | assumption | exact ⟨by omega, by omega⟩) dX12_isIn_2 dX12_isIn_3 (by decide) (fun c1 => ?_) (fun c1 => ?_)
  · refine wp_iconst dX12_isIn_17 ?_
    refine wp_zret (by first | exact Or.inl rfl | exact Or.inr rfl | omega) dX12_isIn_18 rfl ?_
    first | exact QB_t hQ (by omega) | exact QB_f hQ (by omega)
  · refine wp_lload_n rfl rfl dX12_isIn_6 ?_
    refine wp_lload rfl dX12_isIn_7 ?_
    refine wp_lcif_gt (tgt := 17) (by first | assumption | exact ⟨by omega, by omega⟩) (by first | assumption | exact ⟨by omega, by omega⟩) dX12_isIn_9 dX12_isIn_10 (by decide) (fun c2 => ?_) (fun c2 => ?_)
    · refine wp_iconst dX12_isIn_17 ?_
      refine wp_zret (by first | exact Or.inl rfl | exact Or.inr rfl | omega) dX12_isIn_18 rfl ?_
      first | exact QB_t hQ (by omega) | exact QB_f hQ (by omega)
    · refine wp_iconst dX12_isIn_13 ?_
      refine wp_goto (tgt := 18) dX12_isIn_14 (by decide) ?_
      refine wp_zret (by first | exact Or.inl rfl | exact Or.inr rfl | omega) dX12_isIn_18 rfl ?_
      first | exact QB_t hQ (by omega) | exact QB_f hQ (by omega)
theorem s_X12_isFund {u : gT} {h : mH} {d b : Nat} {f : Int} (hS : St h) (h1 : InI f) (h2 : InI (h 200 0)) : Det (gX (gq u)) MX12_isFund d b [(2, 200), (0, f)] h (0, bI (0 ≤ f ∧ f < h 200 0)) h := by
  intro Q hQ
  show WP (gX (gq u)) MX12_isFund d b Q 0 [(2, 200), (0, f)] [] h
  refine wp_iload_n rfl rfl dX12_isFund_0 ?_
  refine wp_if_lt (tgt := 16) (by first | assumption | exact bI_in _ | exact ⟨by omega, by omega⟩ | exact iAnd_in | exact iOr_in | exact iShr_in | exact iShl_in | exact iXor_in | exact hxs _) dX12_isFund_1 (by decide) (fun c1 => ?_) (fun c1 => ?_)
  · refine wp_iconst dX12_isFund_16 ?_
    refine wp_zret (by first | exact Or.inl rfl | exact Or.inr rfl | omega) dX12_isFund_17 rfl ?_
    first | exact QB_t hQ (by omega) | exact QB_f hQ (by omega)
  · refine wp_iload_n rfl rfl dX12_isFund_4 ?_
    refine wp_aload_n rfl rfl dX12_isFund_5 ?_
    refine wp_getfield1 (z := 13) (kI := 0) fX12_1 dX12_isFund_6 (by first | omega | (simp (disch := omega) only [up2_ne, up2_eq, st_200_m1 hS]; first | done | omega)) (by first | assumption | (simp (disch := omega) only [up2_ne, up2_eq, st_200_m1 hS]; first | done | rfl | omega)) rfl rfl ?_
    try simp (disch := omega) only [up2_ne, up2_eq, st_200_m1 hS]
    refine wp_icmp_ge (tgt := 16) (by first | assumption | exact bI_in _ | exact ⟨by omega, by omega⟩ | exact iAnd_in | exact iOr_in | exact iShr_in | exact iShl_in | exact iXor_in | exact hxs _) (by first | assumption | exact bI_in _ | exact ⟨by omega, by omega⟩ | exact iAnd_in | exact iOr_in | exact iShr_in | exact iShl_in | exact iXor_in | exact hxs _) dX12_isFund_9 (by decide) (fun c2 => ?_) (fun c2 => ?_)
    · refine wp_iconst dX12_isFund_16 ?_
      refine wp_zret (by first | exact Or.inl rfl | exact Or.inr rfl | omega) dX12_isFund_17 rfl ?_
      first | exact QB_t hQ (by omega) | exact QB_f hQ (by omega)
    · refine wp_iconst dX12_isFund_12 ?_
      refine wp_goto (tgt := 17) dX12_isFund_13 (by decide) ?_
      refine wp_zret (by first | exact Or.inl rfl | exact Or.inr rfl | omega) dX12_isFund_17 rfl ?_
      first | exact QB_t hQ (by omega) | exact QB_f hQ (by omega)
theorem s_X12_isReader {u : gT} {h : mH} {d b : Nat} {f : Int} (hS : St h) (h1 : InI f) (h2 : InI (h 200 6)) : Det (gX (gq u)) MX12_isReader d b [(2, 200), (0, f)] h (0, bI (0 ≤ f ∧ f < h 200 6)) h := by
  intro Q hQ
  show WP (gX (gq u)) MX12_isReader d b Q 0 [(2, 200), (0, f)] [] h
  refine wp_iload_n rfl rfl dX12_isReader_0 ?_
  refine wp_if_lt (tgt := 16) (by first | assumption | exact bI_in _ | exact ⟨by omega, by omega⟩ | exact iAnd_in | exact iOr_in | exact iShr_in | exact iShl_in | exact iXor_in | exact hxs _) dX12_isReader_1 (by decide) (fun c1 => ?_) (fun c1 => ?_)
  · refine wp_iconst dX12_isReader_16 ?_
    refine wp_zret (by first | exact Or.inl rfl | exact Or.inr rfl | omega) dX12_isReader_17 rfl ?_
    first | exact QB_t hQ (by omega) | exact QB_f hQ (by omega)
  · refine wp_iload_n rfl rfl dX12_isReader_4 ?_
    refine wp_aload_n rfl rfl dX12_isReader_5 ?_
    refine wp_getfield1 (z := 13) (kI := 6) fX12_7 dX12_isReader_6 (by first | omega | (simp (disch := omega) only [up2_ne, up2_eq, st_200_m1 hS]; first | done | omega)) (by first | assumption | (simp (disch := omega) only [up2_ne, up2_eq, st_200_m1 hS]; first | done | rfl | omega)) rfl rfl ?_
    try simp (disch := omega) only [up2_ne, up2_eq, st_200_m1 hS]
    refine wp_icmp_ge (tgt := 16) (by first | assumption | exact bI_in _ | exact ⟨by omega, by omega⟩ | exact iAnd_in | exact iOr_in | exact iShr_in | exact iShl_in | exact iXor_in | exact hxs _) (by first | assumption | exact bI_in _ | exact ⟨by omega, by omega⟩ | exact iAnd_in | exact iOr_in | exact iShr_in | exact iShl_in | exact iXor_in | exact hxs _) dX12_isReader_9 (by decide) (fun c2 => ?_) (fun c2 => ?_)
    · refine wp_iconst dX12_isReader_16 ?_
      refine wp_zret (by first | exact Or.inl rfl | exact Or.inr rfl | omega) dX12_isReader_17 rfl ?_
      first | exact QB_t hQ (by omega) | exact QB_f hQ (by omega)
    · refine wp_iconst dX12_isReader_12 ?_
      refine wp_goto (tgt := 17) dX12_isReader_13 (by decide) ?_
      refine wp_zret (by first | exact Or.inl rfl | exact Or.inr rfl | omega) dX12_isReader_17 rfl ?_
      first | exact QB_t hQ (by omega) | exact QB_f hQ (by omega)
theorem s_X12_isAsking {u : gT} {h : mH} {d b : Nat} {f : Int} (hS : St h) (h1 : InI f) (h2 : InI (h 200 10)) : Det (gX (gq u)) MX12_isAsking d b [(2, 200), (0, f)] h (0, bI (0 ≤ f ∧ f < h 200 10)) h := by
  intro Q hQ
  show WP (gX (gq u)) MX12_isAsking d b Q 0 [(2, 200), (0, f)] [] h
  refine wp_iload_n rfl rfl dX12_isAsking_0 ?_
  refine wp_if_lt (tgt := 16) (by first | assumption | exact bI_in _ | exact ⟨by omega, by omega⟩ | exact iAnd_in | exact iOr_in | exact iShr_in | exact iShl_in | exact iXor_in | exact hxs _) dX12_isAsking_1 (by decide) (fun c1 => ?_) (fun c1 => ?_)
  · refine wp_iconst dX12_isAsking_16 ?_
    refine wp_zret (by first | exact Or.inl rfl | exact Or.inr rfl | omega) dX12_isAsking_17 rfl ?_
    first | exact QB_t hQ (by omega) | exact QB_f hQ (by omega)
  · refine wp_iload_n rfl rfl dX12_isAsking_4 ?_
    refine wp_aload_n rfl rfl dX12_isAsking_5 ?_
    refine wp_getfield1 (z := 13) (kI := 10) fX12_10 dX12_isAsking_6 (by first | omega | (simp (disch := omega) only [up2_ne, up2_eq, st_200_m1 hS]; first | done | omega)) (by first | assumption | (simp (disch := omega) only [up2_ne, up2_eq, st_200_m1 hS]; first | done | rfl | omega)) rfl rfl ?_
    try simp (disch := omega) only [up2_ne, up2_eq, st_200_m1 hS]
    refine wp_icmp_ge (tgt := 16) (by first | assumption | exact bI_in _ | exact ⟨by omega, by omega⟩ | exact iAnd_in | exact iOr_in | exact iShr_in | exact iShl_in | exact iXor_in | exact hxs _) (by first | assumption | exact bI_in _ | exact ⟨by omega, by omega⟩ | exact iAnd_in | exact iOr_in | exact iShr_in | exact iShl_in | exact iXor_in | exact hxs _) dX12_isAsking_9 (by decide) (fun c2 => ?_) (fun c2 => ?_)
    · refine wp_iconst dX12_isAsking_16 ?_
      refine wp_zret (by first | exact Or.inl rfl | exact Or.inr rfl | omega) dX12_isAsking_17 rfl ?_
      first | exact QB_t hQ (by omega) | exact QB_f hQ (by omega)
    · refine wp_iconst dX12_isAsking_12 ?_
      refine wp_goto (tgt := 17) dX12_isAsking_13 (by decide) ?_
      refine wp_zret (by first | exact Or.inl rfl | exact Or.inr rfl | omega) dX12_isAsking_17 rfl ?_
      first | exact QB_t hQ (by omega) | exact QB_f hQ (by omega)
def needM (k : Int) : Int := if k = 0 ∨ k = 4 then 2 else if k = 1 ∨ k = 5 then 1 else 3
theorem s_X12_needOf {u : gT} {h : mH} {d b : Nat} {k : Int} (h1 : InI k) : Det (gX (gq u)) MX12_needOf d b [(0, k)] h (0, needM k) h := by
  intro Q hQ
  show WP (gX (gq u)) MX12_needOf d b Q 0 [(0, k)] [] h
  refine wp_iload_n rfl rfl dX12_needOf_0 ?_
  refine wp_if_eq (tgt := 9) (by first | assumption | exact bI_in _ | exact ⟨by omega, by omega⟩ | exact iAnd_in | exact iOr_in | exact iShr_in | exact iShl_in | exact iXor_in | exact hxs _) dX12_needOf_1 (by decide) (fun c1 => ?_) (fun c1 => ?_)
  · refine wp_iconst dX12_needOf_9 ?_
    refine wp_goto (tgt := 28) dX12_needOf_10 (by decide) ?_
    refine wp_iret dX12_needOf_28 rfl ?_
    unfold needM at hQ
    first | exact QI_t hQ (by omega) | exact QI_t (QI_f hQ (by omega)) (by omega) | exact QI_f (QI_f hQ (by omega)) (by omega)
  · refine wp_iload_n rfl rfl dX12_needOf_4 ?_
    refine wp_iconst dX12_needOf_5 ?_
    refine wp_icmp_ne (tgt := 13) (by first | assumption | exact bI_in _ | exact ⟨by omega, by omega⟩ | exact iAnd_in | exact iOr_in | exact iShr_in | exact iShl_in | exact iXor_in | exact hxs _) (by first | assumption | exact bI_in _ | exact ⟨by omega, by omega⟩ | exact iAnd_in | exact iOr_in | exact iShr_in | exact iShl_in | exact iXor_in | exact hxs _) dX12_needOf_6 (by decide) (fun c2 => ?_) (fun c2 => ?_)
    · refine wp_iload_n rfl rfl dX12_needOf_13 ?_
      refine wp_iconst dX12_needOf_14 ?_
      refine wp_icmp_eq (tgt := 23) (by first | assumption | exact bI_in _ | exact ⟨by omega, by omega⟩ | exact iAnd_in | exact iOr_in | exact iShr_in | exact iShl_in | exact iXor_in | exact hxs _) (by first | assumption | exact bI_in _ | exact ⟨by omega, by omega⟩ | exact iAnd_in | exact iOr_in | exact iShr_in | exact iShl_in | exact iXor_in | exact hxs _) dX12_needOf_15 (by decide) (fun c3 => ?_) (fun c3 => ?_)
      · refine wp_iconst dX12_needOf_23 ?_
        refine wp_goto (tgt := 28) dX12_needOf_24 (by decide) ?_
        refine wp_iret dX12_needOf_28 rfl ?_
        unfold needM at hQ
        first | exact QI_t hQ (by omega) | exact QI_t (QI_f hQ (by omega)) (by omega) | exact QI_f (QI_f hQ (by omega)) (by omega)
      · refine wp_iload_n rfl rfl dX12_needOf_18 ?_
        refine wp_iconst dX12_needOf_19 ?_
        refine wp_icmp_ne (tgt := 27) (by first | assumption | exact bI_in _ | exact ⟨by omega, by omega⟩ | exact iAnd_in | exact iOr_in | exact iShr_in | exact iShl_in | exact iXor_in | exact hxs _) (by first | assumption | exact bI_in _ | exact ⟨by omega, by omega⟩ | exact iAnd_in | exact iOr_in | exact iShr_in | exact iShl_in | exact iXor_in | exact hxs _) dX12_needOf_20 (by decide) (fun c4 => ?_) (fun c4 => ?_)
        · refine wp_iconst dX12_needOf_27 ?_
          refine wp_iret dX12_needOf_28 rfl ?_
          unfold needM at hQ
          first | exact QI_t hQ (by omega) | exact QI_t (QI_f hQ (by omega)) (by omega) | exact QI_f (QI_f hQ (by omega)) (by omega)
        · refine wp_iconst dX12_needOf_23 ?_
          refine wp_goto (tgt := 28) dX12_needOf_24 (by decide) ?_
          refine wp_iret dX12_needOf_28 rfl ?_
          unfold needM at hQ
          first | exact QI_t hQ (by omega) | exact QI_t (QI_f hQ (by omega)) (by omega) | exact QI_f (QI_f hQ (by omega)) (by omega)
    · refine wp_iconst dX12_needOf_9 ?_
      refine wp_goto (tgt := 28) dX12_needOf_10 (by decide) ?_
      refine wp_iret dX12_needOf_28 rfl ?_
      unfold needM at hQ
      first | exact QI_t hQ (by omega) | exact QI_t (QI_f hQ (by omega)) (by omega) | exact QI_f (QI_f hQ (by omega)) (by omega)
def barM (h : mH) (r a : Int) : Prop := h 219 (8 * a + r) ≠ 0 ∨ h 208 r = h 212 a ∨ h 208 r = h 213 a
theorem s_X12_isBarred {u : gT} {h : mH} {d b : Nat} {r a : Int} (hS : St h) (r0 : 0 ≤ r) (r1 : r < 8) (a0 : 0 ≤ a) (a1 : a < 14) (g1 : InI (h 219 (8 * a + r))) (g2 : InI (h 208 r)) (g3 : InI (h 212 a)) (g4 : InI (h 213 a)) : Det (gX (gq u)) MX12_isBarred d b [(2, 200), (0, r), (0, a)] h (0, bI (h 219 (8 * a + r) ≠ 0 ∨ h 208 r = h 212 a ∨ h 208 r = h 213 a)) h := by
  intro Q hQ
  show WP (gX (gq u)) MX12_isBarred d b Q 0 [(2, 200), (0, r), (0, a)] [] h
  refine wp_aload_n rfl rfl dX12_isBarred_0 ?_
  refine wp_getfield1 (z := 13) (kI := 19) fX12_147 dX12_isBarred_1 (by first | omega | (simp (disch := omega) only [up2_ne, up2_eq, st_200_m1 hS, st_200_8 hS, st_200_12 hS, st_200_13 hS, st_200_19 hS, st_208_m2 hS, st_208_m1 hS, st_212_m2 hS, st_212_m1 hS, st_213_m2 hS, st_213_m1 hS, st_219_m2 hS, st_219_m1 hS]; first | done | omega)) (by first | assumption | (simp (disch := omega) only [up2_ne, up2_eq, st_200_m1 hS, st_200_8 hS, st_200_12 hS, st_200_13 hS, st_200_19 hS, st_208_m2 hS, st_208_m1 hS, st_212_m2 hS, st_212_m1 hS, st_213_m2 hS, st_213_m1 hS, st_219_m2 hS, st_219_m1 hS]; first | done | rfl | omega)) rfl rfl ?_
  try simp (disch := omega) only [up2_ne, up2_eq, st_200_m1 hS, st_200_8 hS, st_200_12 hS, st_200_13 hS, st_200_19 hS, st_208_m2 hS, st_208_m1 hS, st_212_m2 hS, st_212_m1 hS, st_213_m2 hS, st_213_m1 hS, st_219_m2 hS, st_219_m1 hS]
  refine wp_bipush (by decide) dX12_isBarred_4 ?_
  refine wp_iload_n rfl rfl dX12_isBarred_6 ?_
  refine wp_imul dX12_isBarred_7 ?_
  refine wp_iload_n rfl rfl dX12_isBarred_8 ?_
  refine wp_iadd dX12_isBarred_9 ?_
  refine wp_zaload1 dX12_isBarred_10 (by first | omega | (simp (disch := omega) only [up2_ne, up2_eq, st_200_m1 hS, st_200_8 hS, st_200_12 hS, st_200_13 hS, st_200_19 hS, st_208_m2 hS, st_208_m1 hS, st_212_m2 hS, st_212_m1 hS, st_213_m2 hS, st_213_m1 hS, st_219_m2 hS, st_219_m1 hS]; first | done | omega)) (by first | assumption | (simp (disch := omega) only [up2_ne, up2_eq, st_200_m1 hS, st_200_8 hS, st_200_12 hS, st_200_13 hS, st_200_19 hS, st_208_m2 hS, st_208_m1 hS, st_212_m2 hS, st_212_m1 hS, st_213_m2 hS, st_213_m1 hS, st_219_m2 hS, st_219_m1 hS]; first | done | rfl | omega)) (by first | omega | (simp (disch := omega) only [up2_ne, up2_eq, st_200_m1 hS, st_200_8 hS, st_200_12 hS, st_200_13 hS, st_200_19 hS, st_208_m2 hS, st_208_m1 hS, st_212_m2 hS, st_212_m1 hS, st_213_m2 hS, st_213_m1 hS, st_219_m2 hS, st_219_m1 hS]; first | done | omega)) (by first | omega | (simp (disch := omega) only [up2_ne, up2_eq, st_200_m1 hS, st_200_8 hS, st_200_12 hS, st_200_13 hS, st_200_19 hS, st_208_m2 hS, st_208_m1 hS, st_212_m2 hS, st_212_m1 hS, st_213_m2 hS, st_213_m1 hS, st_219_m2 hS, st_219_m1 hS]; first | done | omega)) ?_
  try simp (disch := omega) only [up2_ne, up2_eq, st_200_m1 hS, st_200_8 hS, st_200_12 hS, st_200_13 hS, st_200_19 hS, st_208_m2 hS, st_208_m1 hS, st_212_m2 hS, st_212_m1 hS, st_213_m2 hS, st_213_m1 hS, st_219_m2 hS, st_219_m1 hS]
  refine wp_if_ne (tgt := 44) (by first | assumption | exact bI_in _ | exact ⟨by omega, by omega⟩ | exact iAnd_in | exact iOr_in | exact iShr_in | exact iShl_in | exact iXor_in | exact hxs _) dX12_isBarred_11 (by decide) (fun c1 => ?_) (fun c1 => ?_)
  · refine wp_iconst dX12_isBarred_44 ?_
    refine wp_goto (tgt := 49) dX12_isBarred_45 (by decide) ?_
    refine wp_zret (by first | exact Or.inl rfl | exact Or.inr rfl | omega) dX12_isBarred_49 rfl ?_
    first | exact QB_t hQ (by first | exact Or.inl c1 | exact Or.inr (Or.inl c2) | exact Or.inr (Or.inr c3)) | exact QB_f hQ (by rintro (z | z | z) <;> contradiction)
  · refine wp_aload_n rfl rfl dX12_isBarred_14 ?_
    refine wp_getfield1 (z := 13) (kI := 8) fX12_49 dX12_isBarred_15 (by first | omega | (simp (disch := omega) only [up2_ne, up2_eq, st_200_m1 hS, st_200_8 hS, st_200_12 hS, st_200_13 hS, st_200_19 hS, st_208_m2 hS, st_208_m1 hS, st_212_m2 hS, st_212_m1 hS, st_213_m2 hS, st_213_m1 hS, st_219_m2 hS, st_219_m1 hS]; first | done | omega)) (by first | assumption | (simp (disch := omega) only [up2_ne, up2_eq, st_200_m1 hS, st_200_8 hS, st_200_12 hS, st_200_13 hS, st_200_19 hS, st_208_m2 hS, st_208_m1 hS, st_212_m2 hS, st_212_m1 hS, st_213_m2 hS, st_213_m1 hS, st_219_m2 hS, st_219_m1 hS]; first | done | rfl | omega)) rfl rfl ?_
    try simp (disch := omega) only [up2_ne, up2_eq, st_200_m1 hS, st_200_8 hS, st_200_12 hS, st_200_13 hS, st_200_19 hS, st_208_m2 hS, st_208_m1 hS, st_212_m2 hS, st_212_m1 hS, st_213_m2 hS, st_213_m1 hS, st_219_m2 hS, st_219_m1 hS]
    refine wp_iload_n rfl rfl dX12_isBarred_18 ?_
    refine wp_iaload1 dX12_isBarred_19 (by first | omega | (simp (disch := omega) only [up2_ne, up2_eq, st_200_m1 hS, st_200_8 hS, st_200_12 hS, st_200_13 hS, st_200_19 hS, st_208_m2 hS, st_208_m1 hS, st_212_m2 hS, st_212_m1 hS, st_213_m2 hS, st_213_m1 hS, st_219_m2 hS, st_219_m1 hS]; first | done | omega)) (by first | assumption | (simp (disch := omega) only [up2_ne, up2_eq, st_200_m1 hS, st_200_8 hS, st_200_12 hS, st_200_13 hS, st_200_19 hS, st_208_m2 hS, st_208_m1 hS, st_212_m2 hS, st_212_m1 hS, st_213_m2 hS, st_213_m1 hS, st_219_m2 hS, st_219_m1 hS]; first | done | rfl | omega)) (by first | omega | (simp (disch := omega) only [up2_ne, up2_eq, st_200_m1 hS, st_200_8 hS, st_200_12 hS, st_200_13 hS, st_200_19 hS, st_208_m2 hS, st_208_m1 hS, st_212_m2 hS, st_212_m1 hS, st_213_m2 hS, st_213_m1 hS, st_219_m2 hS, st_219_m1 hS]; first | done | omega)) (by first | omega | (simp (disch := omega) only [up2_ne, up2_eq, st_200_m1 hS, st_200_8 hS, st_200_12 hS, st_200_13 hS, st_200_19 hS, st_208_m2 hS, st_208_m1 hS, st_212_m2 hS, st_212_m1 hS, st_213_m2 hS, st_213_m1 hS, st_219_m2 hS, st_219_m1 hS]; first | done | omega)) ?_
    try simp (disch := omega) only [up2_ne, up2_eq, st_200_m1 hS, st_200_8 hS, st_200_12 hS, st_200_13 hS, st_200_19 hS, st_208_m2 hS, st_208_m1 hS, st_212_m2 hS, st_212_m1 hS, st_213_m2 hS, st_213_m1 hS, st_219_m2 hS, st_219_m1 hS]
    refine wp_aload_n rfl rfl dX12_isBarred_20 ?_
    refine wp_getfield1 (z := 13) (kI := 12) fX12_85 dX12_isBarred_21 (by first | omega | (simp (disch := omega) only [up2_ne, up2_eq, st_200_m1 hS, st_200_8 hS, st_200_12 hS, st_200_13 hS, st_200_19 hS, st_208_m2 hS, st_208_m1 hS, st_212_m2 hS, st_212_m1 hS, st_213_m2 hS, st_213_m1 hS, st_219_m2 hS, st_219_m1 hS]; first | done | omega)) (by first | assumption | (simp (disch := omega) only [up2_ne, up2_eq, st_200_m1 hS, st_200_8 hS, st_200_12 hS, st_200_13 hS, st_200_19 hS, st_208_m2 hS, st_208_m1 hS, st_212_m2 hS, st_212_m1 hS, st_213_m2 hS, st_213_m1 hS, st_219_m2 hS, st_219_m1 hS]; first | done | rfl | omega)) rfl rfl ?_
    try simp (disch := omega) only [up2_ne, up2_eq, st_200_m1 hS, st_200_8 hS, st_200_12 hS, st_200_13 hS, st_200_19 hS, st_208_m2 hS, st_208_m1 hS, st_212_m2 hS, st_212_m1 hS, st_213_m2 hS, st_213_m1 hS, st_219_m2 hS, st_219_m1 hS]
    refine wp_iload_n rfl rfl dX12_isBarred_24 ?_
    refine wp_iaload1 dX12_isBarred_25 (by first | omega | (simp (disch := omega) only [up2_ne, up2_eq, st_200_m1 hS, st_200_8 hS, st_200_12 hS, st_200_13 hS, st_200_19 hS, st_208_m2 hS, st_208_m1 hS, st_212_m2 hS, st_212_m1 hS, st_213_m2 hS, st_213_m1 hS, st_219_m2 hS, st_219_m1 hS]; first | done | omega)) (by first | assumption | (simp (disch := omega) only [up2_ne, up2_eq, st_200_m1 hS, st_200_8 hS, st_200_12 hS, st_200_13 hS, st_200_19 hS, st_208_m2 hS, st_208_m1 hS, st_212_m2 hS, st_212_m1 hS, st_213_m2 hS, st_213_m1 hS, st_219_m2 hS, st_219_m1 hS]; first | done | rfl | omega)) (by first | omega | (simp (disch := omega) only [up2_ne, up2_eq, st_200_m1 hS, st_200_8 hS, st_200_12 hS, st_200_13 hS, st_200_19 hS, st_208_m2 hS, st_208_m1 hS, st_212_m2 hS, st_212_m1 hS, st_213_m2 hS, st_213_m1 hS, st_219_m2 hS, st_219_m1 hS]; first | done | omega)) (by first | omega | (simp (disch := omega) only [up2_ne, up2_eq, st_200_m1 hS, st_200_8 hS, st_200_12 hS, st_200_13 hS, st_200_19 hS, st_208_m2 hS, st_208_m1 hS, st_212_m2 hS, st_212_m1 hS, st_213_m2 hS, st_213_m1 hS, st_219_m2 hS, st_219_m1 hS]; first | done | omega)) ?_
    try simp (disch := omega) only [up2_ne, up2_eq, st_200_m1 hS, st_200_8 hS, st_200_12 hS, st_200_13 hS, st_200_19 hS, st_208_m2 hS, st_208_m1 hS, st_212_m2 hS, st_212_m1 hS, st_213_m2 hS, st_213_m1 hS, st_219_m2 hS, st_219_m1 hS]
    refine wp_icmp_eq (tgt := 44) (by first | assumption | exact bI_in _ | exact ⟨by omega, by omega⟩ | exact iAnd_in | exact iOr_in | exact iShr_in | exact iShl_in | exact iXor_in | exact hxs _) (by first | assumption | exact bI_in _ | exact ⟨by omega, by omega⟩ | exact iAnd_in | exact iOr_in | exact iShr_in | exact iShl_in | exact iXor_in | exact hxs _) dX12_isBarred_26 (by decide) (fun c2 => ?_) (fun c2 => ?_)
    · refine wp_iconst dX12_isBarred_44 ?_
      refine wp_goto (tgt := 49) dX12_isBarred_45 (by decide) ?_
      refine wp_zret (by first | exact Or.inl rfl | exact Or.inr rfl | omega) dX12_isBarred_49 rfl ?_
      first | exact QB_t hQ (by first | exact Or.inl c1 | exact Or.inr (Or.inl c2) | exact Or.inr (Or.inr c3)) | exact QB_f hQ (by rintro (z | z | z) <;> contradiction)
    · refine wp_aload_n rfl rfl dX12_isBarred_29 ?_
      refine wp_getfield1 (z := 13) (kI := 8) fX12_49 dX12_isBarred_30 (by first | omega | (simp (disch := omega) only [up2_ne, up2_eq, st_200_m1 hS, st_200_8 hS, st_200_12 hS, st_200_13 hS, st_200_19 hS, st_208_m2 hS, st_208_m1 hS, st_212_m2 hS, st_212_m1 hS, st_213_m2 hS, st_213_m1 hS, st_219_m2 hS, st_219_m1 hS]; first | done | omega)) (by first | assumption | (simp (disch := omega) only [up2_ne, up2_eq, st_200_m1 hS, st_200_8 hS, st_200_12 hS, st_200_13 hS, st_200_19 hS, st_208_m2 hS, st_208_m1 hS, st_212_m2 hS, st_212_m1 hS, st_213_m2 hS, st_213_m1 hS, st_219_m2 hS, st_219_m1 hS]; first | done | rfl | omega)) rfl rfl ?_
      try simp (disch := omega) only [up2_ne, up2_eq, st_200_m1 hS, st_200_8 hS, st_200_12 hS, st_200_13 hS, st_200_19 hS, st_208_m2 hS, st_208_m1 hS, st_212_m2 hS, st_212_m1 hS, st_213_m2 hS, st_213_m1 hS, st_219_m2 hS, st_219_m1 hS]
      refine wp_iload_n rfl rfl dX12_isBarred_33 ?_
      refine wp_iaload1 dX12_isBarred_34 (by first | omega | (simp (disch := omega) only [up2_ne, up2_eq, st_200_m1 hS, st_200_8 hS, st_200_12 hS, st_200_13 hS, st_200_19 hS, st_208_m2 hS, st_208_m1 hS, st_212_m2 hS, st_212_m1 hS, st_213_m2 hS, st_213_m1 hS, st_219_m2 hS, st_219_m1 hS]; first | done | omega)) (by first | assumption | (simp (disch := omega) only [up2_ne, up2_eq, st_200_m1 hS, st_200_8 hS, st_200_12 hS, st_200_13 hS, st_200_19 hS, st_208_m2 hS, st_208_m1 hS, st_212_m2 hS, st_212_m1 hS, st_213_m2 hS, st_213_m1 hS, st_219_m2 hS, st_219_m1 hS]; first | done | rfl | omega)) (by first | omega | (simp (disch := omega) only [up2_ne, up2_eq, st_200_m1 hS, st_200_8 hS, st_200_12 hS, st_200_13 hS, st_200_19 hS, st_208_m2 hS, st_208_m1 hS, st_212_m2 hS, st_212_m1 hS, st_213_m2 hS, st_213_m1 hS, st_219_m2 hS, st_219_m1 hS]; first | done | omega)) (by first | omega | (simp (disch := omega) only [up2_ne, up2_eq, st_200_m1 hS, st_200_8 hS, st_200_12 hS, st_200_13 hS, st_200_19 hS, st_208_m2 hS, st_208_m1 hS, st_212_m2 hS, st_212_m1 hS, st_213_m2 hS, st_213_m1 hS, st_219_m2 hS, st_219_m1 hS]; first | done | omega)) ?_
      try simp (disch := omega) only [up2_ne, up2_eq, st_200_m1 hS, st_200_8 hS, st_200_12 hS, st_200_13 hS, st_200_19 hS, st_208_m2 hS, st_208_m1 hS, st_212_m2 hS, st_212_m1 hS, st_213_m2 hS, st_213_m1 hS, st_219_m2 hS, st_219_m1 hS]
      refine wp_aload_n rfl rfl dX12_isBarred_35 ?_
      refine wp_getfield1 (z := 13) (kI := 13) fX12_88 dX12_isBarred_36 (by first | omega | (simp (disch := omega) only [up2_ne, up2_eq, st_200_m1 hS, st_200_8 hS, st_200_12 hS, st_200_13 hS, st_200_19 hS, st_208_m2 hS, st_208_m1 hS, st_212_m2 hS, st_212_m1 hS, st_213_m2 hS, st_213_m1 hS, st_219_m2 hS, st_219_m1 hS]; first | done | omega)) (by first | assumption | (simp (disch := omega) only [up2_ne, up2_eq, st_200_m1 hS, st_200_8 hS, st_200_12 hS, st_200_13 hS, st_200_19 hS, st_208_m2 hS, st_208_m1 hS, st_212_m2 hS, st_212_m1 hS, st_213_m2 hS, st_213_m1 hS, st_219_m2 hS, st_219_m1 hS]; first | done | rfl | omega)) rfl rfl ?_
      try simp (disch := omega) only [up2_ne, up2_eq, st_200_m1 hS, st_200_8 hS, st_200_12 hS, st_200_13 hS, st_200_19 hS, st_208_m2 hS, st_208_m1 hS, st_212_m2 hS, st_212_m1 hS, st_213_m2 hS, st_213_m1 hS, st_219_m2 hS, st_219_m1 hS]
      refine wp_iload_n rfl rfl dX12_isBarred_39 ?_
      refine wp_iaload1 dX12_isBarred_40 (by first | omega | (simp (disch := omega) only [up2_ne, up2_eq, st_200_m1 hS, st_200_8 hS, st_200_12 hS, st_200_13 hS, st_200_19 hS, st_208_m2 hS, st_208_m1 hS, st_212_m2 hS, st_212_m1 hS, st_213_m2 hS, st_213_m1 hS, st_219_m2 hS, st_219_m1 hS]; first | done | omega)) (by first | assumption | (simp (disch := omega) only [up2_ne, up2_eq, st_200_m1 hS, st_200_8 hS, st_200_12 hS, st_200_13 hS, st_200_19 hS, st_208_m2 hS, st_208_m1 hS, st_212_m2 hS, st_212_m1 hS, st_213_m2 hS, st_213_m1 hS, st_219_m2 hS, st_219_m1 hS]; first | done | rfl | omega)) (by first | omega | (simp (disch := omega) only [up2_ne, up2_eq, st_200_m1 hS, st_200_8 hS, st_200_12 hS, st_200_13 hS, st_200_19 hS, st_208_m2 hS, st_208_m1 hS, st_212_m2 hS, st_212_m1 hS, st_213_m2 hS, st_213_m1 hS, st_219_m2 hS, st_219_m1 hS]; first | done | omega)) (by first | omega | (simp (disch := omega) only [up2_ne, up2_eq, st_200_m1 hS, st_200_8 hS, st_200_12 hS, st_200_13 hS, st_200_19 hS, st_208_m2 hS, st_208_m1 hS, st_212_m2 hS, st_212_m1 hS, st_213_m2 hS, st_213_m1 hS, st_219_m2 hS, st_219_m1 hS]; first | done | omega)) ?_
      try simp (disch := omega) only [up2_ne, up2_eq, st_200_m1 hS, st_200_8 hS, st_200_12 hS, st_200_13 hS, st_200_19 hS, st_208_m2 hS, st_208_m1 hS, st_212_m2 hS, st_212_m1 hS, st_213_m2 hS, st_213_m1 hS, st_219_m2 hS, st_219_m1 hS]
      refine wp_icmp_ne (tgt := 48) (by first | assumption | exact bI_in _ | exact ⟨by omega, by omega⟩ | exact iAnd_in | exact iOr_in | exact iShr_in | exact iShl_in | exact iXor_in | exact hxs _) (by first | assumption | exact bI_in _ | exact ⟨by omega, by omega⟩ | exact iAnd_in | exact iOr_in | exact iShr_in | exact iShl_in | exact iXor_in | exact hxs _) dX12_isBarred_41 (by decide) (fun c3 => ?_) (fun c3 => ?_)
      · refine wp_iconst dX12_isBarred_48 ?_
        refine wp_zret (by first | exact Or.inl rfl | exact Or.inr rfl | omega) dX12_isBarred_49 rfl ?_
        first | exact QB_t hQ (by first | exact Or.inl c1 | exact Or.inr (Or.inl c2) | exact Or.inr (Or.inr c3)) | exact QB_f hQ (by rintro (z | z | z) <;> contradiction)
      · refine wp_iconst dX12_isBarred_44 ?_
        refine wp_goto (tgt := 49) dX12_isBarred_45 (by decide) ?_
        refine wp_zret (by first | exact Or.inl rfl | exact Or.inr rfl | omega) dX12_isBarred_49 rfl ?_
        first | exact QB_t hQ (by first | exact Or.inl c1 | exact Or.inr (Or.inl c2) | exact Or.inr (Or.inr c3)) | exact QB_f hQ (by rintro (z | z | z) <;> contradiction)
theorem s_X12_counts {u : gT} {h : mH} {d b : Nat} {r a : Int} (hS : St h) (r0 : 0 ≤ r) (r1 : r < 8) (a0 : 0 ≤ a) (a1 : a < 14) (g1 : InI (h 219 (8 * a + r))) (g2 : InI (h 208 r)) (g3 : InI (h 212 a)) (g4 : InI (h 213 a)) (g5 : InI (h 220 (8 * a + r))) : Det (gX (gq u)) MX12_counts (d + 1) b [(2, 200), (0, r), (0, a)] h (0, bI (h 220 (8 * a + r) ≠ -1 ∧ ¬ (h 219 (8 * a + r) ≠ 0 ∨ h 208 r = h 212 a ∨ h 208 r = h 213 a))) h := by
  intro Q hQ
  show WP (gX (gq u)) MX12_counts (d + 1) b Q 0 [(2, 200), (0, r), (0, a)] [] h
  refine wp_aload_n rfl rfl dX12_counts_0 ?_
  refine wp_getfield1 (z := 13) (kI := 20) fX12_106 dX12_counts_1 (by first | omega | (simp (disch := omega) only [up2_ne, up2_eq, st_200_m1 hS, st_200_20 hS, st_220_m2 hS, st_220_m1 hS]; first | done | omega)) (by first | assumption | (simp (disch := omega) only [up2_ne, up2_eq, st_200_m1 hS, st_200_20 hS, st_220_m2 hS, st_220_m1 hS]; first | done | rfl | omega)) rfl rfl ?_
  try simp (disch := omega) only [up2_ne, up2_eq, st_200_m1 hS, st_200_20 hS, st_220_m2 hS, st_220_m1 hS]
  refine wp_bipush (by decide) dX12_counts_4 ?_
  refine wp_iload_n rfl rfl dX12_counts_6 ?_
  refine wp_imul dX12_counts_7 ?_
  refine wp_iload_n rfl rfl dX12_counts_8 ?_
  refine wp_iadd dX12_counts_9 ?_
  refine wp_iaload1 dX12_counts_10 (by first | omega | (simp (disch := omega) only [up2_ne, up2_eq, st_200_m1 hS, st_200_20 hS, st_220_m2 hS, st_220_m1 hS]; first | done | omega)) (by first | assumption | (simp (disch := omega) only [up2_ne, up2_eq, st_200_m1 hS, st_200_20 hS, st_220_m2 hS, st_220_m1 hS]; first | done | rfl | omega)) (by first | omega | (simp (disch := omega) only [up2_ne, up2_eq, st_200_m1 hS, st_200_20 hS, st_220_m2 hS, st_220_m1 hS]; first | done | omega)) (by first | omega | (simp (disch := omega) only [up2_ne, up2_eq, st_200_m1 hS, st_200_20 hS, st_220_m2 hS, st_220_m1 hS]; first | done | omega)) ?_
  try simp (disch := omega) only [up2_ne, up2_eq, st_200_m1 hS, st_200_20 hS, st_220_m2 hS, st_220_m1 hS]
  refine wp_iconst dX12_counts_11 ?_
  refine wp_icmp_eq (tgt := 28) (by first | assumption | exact bI_in _ | exact ⟨by omega, by omega⟩ | exact iAnd_in | exact iOr_in | exact iShr_in | exact iShl_in | exact iXor_in | exact hxs _) (by first | assumption | exact bI_in _ | exact ⟨by omega, by omega⟩ | exact iAnd_in | exact iOr_in | exact iShr_in | exact iShl_in | exact iXor_in | exact hxs _) dX12_counts_12 (by decide) (fun c1 => ?_) (fun c1 => ?_)
  · refine wp_iconst dX12_counts_28 ?_
    refine wp_zret (by first | exact Or.inl rfl | exact Or.inr rfl | omega) dX12_counts_29 rfl ?_
    first | exact QB_t hQ ⟨by assumption, by assumption⟩ | exact QB_f hQ (fun z => z.1 c1) | exact QB_f hQ (fun z => z.2 c2)
  · refine wp_aload_n rfl rfl dX12_counts_15 ?_
    refine wp_iload_n rfl rfl dX12_counts_16 ?_
    refine wp_iload_n rfl rfl dX12_counts_17 ?_
    refine wp_cV2 (ci := 12) okX12_isBarred rfl rfl wX12_288 dX12_counts_18 rfl (Nat.le_of_ble_eq_true rfl) (Nat.le_of_ble_eq_true rfl) (by first | omega | (simp (disch := omega) only [up2_ne, up2_eq, st_200_m1 hS, st_200_20 hS, st_220_m2 hS, st_220_m1 hS]; first | done | omega)) (by first | assumption | (simp (disch := omega) only [up2_ne, up2_eq, st_200_m1 hS, st_200_20 hS, st_220_m2 hS, st_220_m1 hS]; first | done | rfl | omega)) (s_X12_isBarred hS r0 r1 a0 a1 g1 g2 g3 g4) (Nat.zero_le _) ?_
    try simp (disch := omega) only [up2_ne, up2_eq, st_200_m1 hS, st_200_20 hS, st_220_m2 hS, st_220_m1 hS]
    refine wp_ifB_ne (tgt := 28) dX12_counts_21 (by decide) (fun c2 => ?_) (fun c2 => ?_)
    · refine wp_iconst dX12_counts_28 ?_
      refine wp_zret (by first | exact Or.inl rfl | exact Or.inr rfl | omega) dX12_counts_29 rfl ?_
      first | exact QB_t hQ ⟨by assumption, by assumption⟩ | exact QB_f hQ (fun z => z.1 c1) | exact QB_f hQ (fun z => z.2 c2)
    · refine wp_iconst dX12_counts_24 ?_
      refine wp_goto (tgt := 29) dX12_counts_25 (by decide) ?_
      refine wp_zret (by first | exact Or.inl rfl | exact Or.inr rfl | omega) dX12_counts_29 rfl ?_
      first | exact QB_t hQ ⟨by assumption, by assumption⟩ | exact QB_f hQ (fun z => z.1 c1) | exact QB_f hQ (fun z => z.2 c2)
