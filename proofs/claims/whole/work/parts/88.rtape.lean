/-! ===== text: the reference's tape and tokens ===== -/
def rT (h : mH) (n : Int) (f : Int → Int) : Prop := St h ∧ h 200 29 = n ∧ LF f n ∧ ∀ k : Int, 0 ≤ k → k < n → iAnd (h 228 k) 255 = f k
theorem rT_cg {h g : mH} {n : Int} {f : Int → Int} (T : rT h n f) (gS : St g) (e1 : g 200 29 = h 200 29) (e2 : ∀ k, g 228 k = h 228 k) : rT g n f := ⟨gS, by rw [e1]; exact T.2.1, T.2.2.1, fun k k0 k1 => by rw [e2]; exact T.2.2.2 k k0 k1⟩
theorem rT_up {h : mH} {n k v : Int} {f : Int → Int} (T : rT h n f) (hk : stK 200 k = false) (k29 : k ≠ 29) : rT (up2 h 200 k v) n f := rT_cg T (T.1.up hk) (by rw [up2_ne (by omega)]) (fun k => by rw [up2_ne (by omega)])
/-- a token as the reference has it; what waits likewise -/
def rTk (t : Int) : Int := if t < 13 then 100 + t else if t = 13 then 200 else if t = 14 then 40 else if t = 15 then 41 else if t = 16 then 59 else if t = 17 then 43 else if t = 18 then 45 else if t = 19 then 42 else if t = 20 then 60 else if t = 21 then 61 else if t = 22 then 0 else -1
def rW (e : Int) : Int := if e = 24 then 300 else rTk e
theorem rTk_inv {t : Int} (t0 : 0 ≤ t) (t1 : t ≤ 23) : (t < 13 ∧ rTk t = 100 + t) ∨ (t = 13 ∧ rTk t = 200) ∨ (t = 14 ∧ rTk t = 40) ∨ (t = 15 ∧ rTk t = 41) ∨ (t = 16 ∧ rTk t = 59) ∨ (t = 17 ∧ rTk t = 43) ∨ (t = 18 ∧ rTk t = 45) ∨ (t = 19 ∧ rTk t = 42) ∨ (t = 20 ∧ rTk t = 60) ∨ (t = 21 ∧ rTk t = 61) ∨ (t = 22 ∧ rTk t = 0) ∨ (t = 23 ∧ rTk t = -1) := by
  by_cases c : t < 13
  · exact Or.inl ⟨c, if_pos c⟩
  · have : t = 13 ∨ t = 14 ∨ t = 15 ∨ t = 16 ∨ t = 17 ∨ t = 18 ∨ t = 19 ∨ t = 20 ∨ t = 21 ∨ t = 22 ∨ t = 23 := by omega
    rcases this with rfl | rfl | rfl | rfl | rfl | rfl | rfl | rfl | rfl | rfl | rfl <;> decide
theorem s_X12_isLetter {u : gT} {h : mH} {d b : Nat} {c : Int} (i1 : InI c) : Det (gX (gq u)) MX12_isLetter d b [(0, c)] h (0, bI (97 ≤ c ∧ c ≤ 122)) h := by
  intro Q hQ
  show WP (gX (gq u)) MX12_isLetter d b Q 0 [(0, c)] [] h
  refine wp_iload_n rfl rfl dX12_isLetter_0 ?_
  refine wp_bipush (by decide) dX12_isLetter_1 ?_
  refine wp_icmp_lt (tgt := 16) (by first | assumption | exact bI_in _ | exact ⟨by omega, by omega⟩ | exact iAnd_in | exact iOr_in | exact iShr_in | exact iShl_in | exact iXor_in | exact hxs _) (by first | assumption | exact bI_in _ | exact ⟨by omega, by omega⟩ | exact iAnd_in | exact iOr_in | exact iShr_in | exact iShl_in | exact iXor_in | exact hxs _) dX12_isLetter_3 (by decide) (fun c1 => ?_) (fun c1 => ?_)
  · refine wp_iconst dX12_isLetter_16 ?_
    refine wp_zret (by first | exact Or.inl rfl | exact Or.inr rfl | omega) dX12_isLetter_17 rfl ?_
    first | exact QB_t hQ (by omega) | exact QB_f hQ (by omega)
  · refine wp_iload_n rfl rfl dX12_isLetter_6 ?_
    refine wp_bipush (by decide) dX12_isLetter_7 ?_
    refine wp_icmp_gt (tgt := 16) (by first | assumption | exact bI_in _ | exact ⟨by omega, by omega⟩ | exact iAnd_in | exact iOr_in | exact iShr_in | exact iShl_in | exact iXor_in | exact hxs _) (by first | assumption | exact bI_in _ | exact ⟨by omega, by omega⟩ | exact iAnd_in | exact iOr_in | exact iShr_in | exact iShl_in | exact iXor_in | exact hxs _) dX12_isLetter_9 (by decide) (fun c2 => ?_) (fun c2 => ?_)
    · refine wp_iconst dX12_isLetter_16 ?_
      refine wp_zret (by first | exact Or.inl rfl | exact Or.inr rfl | omega) dX12_isLetter_17 rfl ?_
      first | exact QB_t hQ (by omega) | exact QB_f hQ (by omega)
    · refine wp_iconst dX12_isLetter_12 ?_
      refine wp_goto (tgt := 17) dX12_isLetter_13 (by decide) ?_
      refine wp_zret (by first | exact Or.inl rfl | exact Or.inr rfl | omega) dX12_isLetter_17 rfl ?_
      first | exact QB_t hQ (by omega) | exact QB_f hQ (by omega)
theorem s_X12_isDigit {u : gT} {h : mH} {d b : Nat} {c : Int} (i1 : InI c) : Det (gX (gq u)) MX12_isDigit d b [(0, c)] h (0, bI (48 ≤ c ∧ c ≤ 57)) h := by
  intro Q hQ
  show WP (gX (gq u)) MX12_isDigit d b Q 0 [(0, c)] [] h
  refine wp_iload_n rfl rfl dX12_isDigit_0 ?_
  refine wp_bipush (by decide) dX12_isDigit_1 ?_
  refine wp_icmp_lt (tgt := 16) (by first | assumption | exact bI_in _ | exact ⟨by omega, by omega⟩ | exact iAnd_in | exact iOr_in | exact iShr_in | exact iShl_in | exact iXor_in | exact hxs _) (by first | assumption | exact bI_in _ | exact ⟨by omega, by omega⟩ | exact iAnd_in | exact iOr_in | exact iShr_in | exact iShl_in | exact iXor_in | exact hxs _) dX12_isDigit_3 (by decide) (fun c1 => ?_) (fun c1 => ?_)
  · refine wp_iconst dX12_isDigit_16 ?_
    refine wp_zret (by first | exact Or.inl rfl | exact Or.inr rfl | omega) dX12_isDigit_17 rfl ?_
    first | exact QB_t hQ (by omega) | exact QB_f hQ (by omega)
  · refine wp_iload_n rfl rfl dX12_isDigit_6 ?_
    refine wp_bipush (by decide) dX12_isDigit_7 ?_
    refine wp_icmp_gt (tgt := 16) (by first | assumption | exact bI_in _ | exact ⟨by omega, by omega⟩ | exact iAnd_in | exact iOr_in | exact iShr_in | exact iShl_in | exact iXor_in | exact hxs _) (by first | assumption | exact bI_in _ | exact ⟨by omega, by omega⟩ | exact iAnd_in | exact iOr_in | exact iShr_in | exact iShl_in | exact iXor_in | exact hxs _) dX12_isDigit_9 (by decide) (fun c2 => ?_) (fun c2 => ?_)
    · refine wp_iconst dX12_isDigit_16 ?_
      refine wp_zret (by first | exact Or.inl rfl | exact Or.inr rfl | omega) dX12_isDigit_17 rfl ?_
      first | exact QB_t hQ (by omega) | exact QB_f hQ (by omega)
    · refine wp_iconst dX12_isDigit_12 ?_
      refine wp_goto (tgt := 17) dX12_isDigit_13 (by decide) ?_
      refine wp_zret (by first | exact Or.inl rfl | exact Or.inr rfl | omega) dX12_isDigit_17 rfl ?_
      first | exact QB_t hQ (by omega) | exact QB_f hQ (by omega)
theorem s_X12_isSign {u : gT} {h : mH} {d b : Nat} {c : Int} (i1 : InI c) : Det (gX (gq u)) MX12_isSign d b [(0, c)] h (0, bI (c = 40 ∨ c = 41 ∨ c = 59 ∨ c = 43 ∨ c = 45 ∨ c = 42 ∨ c = 60 ∨ c = 61)) h := by
  intro Q hQ
  show WP (gX (gq u)) MX12_isSign d b Q 0 [(0, c)] [] h
  refine wp_iload_n rfl rfl dX12_isSign_0 ?_
  refine wp_bipush (by decide) dX12_isSign_1 ?_
  refine wp_icmp_eq (tgt := 48) (by first | assumption | exact bI_in _ | exact ⟨by omega, by omega⟩ | exact iAnd_in | exact iOr_in | exact iShr_in | exact iShl_in | exact iXor_in | exact hxs _) (by first | assumption | exact bI_in _ | exact ⟨by omega, by omega⟩ | exact iAnd_in | exact iOr_in | exact iShr_in | exact iShl_in | exact iXor_in | exact hxs _) dX12_isSign_3 (by decide) (fun c1 => ?_) (fun c1 => ?_)
  · refine wp_iconst dX12_isSign_48 ?_
    refine wp_goto (tgt := 53) dX12_isSign_49 (by decide) ?_
    refine wp_zret (by first | exact Or.inl rfl | exact Or.inr rfl | omega) dX12_isSign_53 rfl ?_
    first | exact QB_t hQ (by omega) | exact QB_f hQ (by omega)
  · refine wp_iload_n rfl rfl dX12_isSign_6 ?_
    refine wp_bipush (by decide) dX12_isSign_7 ?_
    refine wp_icmp_eq (tgt := 48) (by first | assumption | exact bI_in _ | exact ⟨by omega, by omega⟩ | exact iAnd_in | exact iOr_in | exact iShr_in | exact iShl_in | exact iXor_in | exact hxs _) (by first | assumption | exact bI_in _ | exact ⟨by omega, by omega⟩ | exact iAnd_in | exact iOr_in | exact iShr_in | exact iShl_in | exact iXor_in | exact hxs _) dX12_isSign_9 (by decide) (fun c2 => ?_) (fun c2 => ?_)
    · refine wp_iconst dX12_isSign_48 ?_
      refine wp_goto (tgt := 53) dX12_isSign_49 (by decide) ?_
      refine wp_zret (by first | exact Or.inl rfl | exact Or.inr rfl | omega) dX12_isSign_53 rfl ?_
      first | exact QB_t hQ (by omega) | exact QB_f hQ (by omega)
    · refine wp_iload_n rfl rfl dX12_isSign_12 ?_
      refine wp_bipush (by decide) dX12_isSign_13 ?_
      refine wp_icmp_eq (tgt := 48) (by first | assumption | exact bI_in _ | exact ⟨by omega, by omega⟩ | exact iAnd_in | exact iOr_in | exact iShr_in | exact iShl_in | exact iXor_in | exact hxs _) (by first | assumption | exact bI_in _ | exact ⟨by omega, by omega⟩ | exact iAnd_in | exact iOr_in | exact iShr_in | exact iShl_in | exact iXor_in | exact hxs _) dX12_isSign_15 (by decide) (fun c3 => ?_) (fun c3 => ?_)
      · refine wp_iconst dX12_isSign_48 ?_
        refine wp_goto (tgt := 53) dX12_isSign_49 (by decide) ?_
        refine wp_zret (by first | exact Or.inl rfl | exact Or.inr rfl | omega) dX12_isSign_53 rfl ?_
        first | exact QB_t hQ (by omega) | exact QB_f hQ (by omega)
      · refine wp_iload_n rfl rfl dX12_isSign_18 ?_
        refine wp_bipush (by decide) dX12_isSign_19 ?_
        refine wp_icmp_eq (tgt := 48) (by first | assumption | exact bI_in _ | exact ⟨by omega, by omega⟩ | exact iAnd_in | exact iOr_in | exact iShr_in | exact iShl_in | exact iXor_in | exact hxs _) (by first | assumption | exact bI_in _ | exact ⟨by omega, by omega⟩ | exact iAnd_in | exact iOr_in | exact iShr_in | exact iShl_in | exact iXor_in | exact hxs _) dX12_isSign_21 (by decide) (fun c4 => ?_) (fun c4 => ?_)
        · refine wp_iconst dX12_isSign_48 ?_
          refine wp_goto (tgt := 53) dX12_isSign_49 (by decide) ?_
          refine wp_zret (by first | exact Or.inl rfl | exact Or.inr rfl | omega) dX12_isSign_53 rfl ?_
          first | exact QB_t hQ (by omega) | exact QB_f hQ (by omega)
        · refine wp_iload_n rfl rfl dX12_isSign_24 ?_
          refine wp_bipush (by decide) dX12_isSign_25 ?_
          refine wp_icmp_eq (tgt := 48) (by first | assumption | exact bI_in _ | exact ⟨by omega, by omega⟩ | exact iAnd_in | exact iOr_in | exact iShr_in | exact iShl_in | exact iXor_in | exact hxs _) (by first | assumption | exact bI_in _ | exact ⟨by omega, by omega⟩ | exact iAnd_in | exact iOr_in | exact iShr_in | exact iShl_in | exact iXor_in | exact hxs _) dX12_isSign_27 (by decide) (fun c5 => ?_) (fun c5 => ?_)
          · refine wp_iconst dX12_isSign_48 ?_
            refine wp_goto (tgt := 53) dX12_isSign_49 (by decide) ?_
            refine wp_zret (by first | exact Or.inl rfl | exact Or.inr rfl | omega) dX12_isSign_53 rfl ?_
            first | exact QB_t hQ (by omega) | exact QB_f hQ (by omega)
          · refine wp_iload_n rfl rfl dX12_isSign_30 ?_
            refine wp_bipush (by decide) dX12_isSign_31 ?_
            refine wp_icmp_eq (tgt := 48) (by first | assumption | exact bI_in _ | exact ⟨by omega, by omega⟩ | exact iAnd_in | exact iOr_in | exact iShr_in | exact iShl_in | exact iXor_in | exact hxs _) (by first | assumption | exact bI_in _ | exact ⟨by omega, by omega⟩ | exact iAnd_in | exact iOr_in | exact iShr_in | exact iShl_in | exact iXor_in | exact hxs _) dX12_isSign_33 (by decide) (fun c6 => ?_) (fun c6 => ?_)
            · refine wp_iconst dX12_isSign_48 ?_
              refine wp_goto (tgt := 53) dX12_isSign_49 (by decide) ?_
              refine wp_zret (by first | exact Or.inl rfl | exact Or.inr rfl | omega) dX12_isSign_53 rfl ?_
              first | exact QB_t hQ (by omega) | exact QB_f hQ (by omega)
            · refine wp_iload_n rfl rfl dX12_isSign_36 ?_
              refine wp_bipush (by decide) dX12_isSign_37 ?_
              refine wp_icmp_eq (tgt := 48) (by first | assumption | exact bI_in _ | exact ⟨by omega, by omega⟩ | exact iAnd_in | exact iOr_in | exact iShr_in | exact iShl_in | exact iXor_in | exact hxs _) (by first | assumption | exact bI_in _ | exact ⟨by omega, by omega⟩ | exact iAnd_in | exact iOr_in | exact iShr_in | exact iShl_in | exact iXor_in | exact hxs _) dX12_isSign_39 (by decide) (fun c7 => ?_) (fun c7 => ?_)
              · refine wp_iconst dX12_isSign_48 ?_
                refine wp_goto (tgt := 53) dX12_isSign_49 (by decide) ?_
                refine wp_zret (by first | exact Or.inl rfl | exact Or.inr rfl | omega) dX12_isSign_53 rfl ?_
                first | exact QB_t hQ (by omega) | exact QB_f hQ (by omega)
              · refine wp_iload_n rfl rfl dX12_isSign_42 ?_
                refine wp_bipush (by decide) dX12_isSign_43 ?_
                refine wp_icmp_ne (tgt := 52) (by first | assumption | exact bI_in _ | exact ⟨by omega, by omega⟩ | exact iAnd_in | exact iOr_in | exact iShr_in | exact iShl_in | exact iXor_in | exact hxs _) (by first | assumption | exact bI_in _ | exact ⟨by omega, by omega⟩ | exact iAnd_in | exact iOr_in | exact iShr_in | exact iShl_in | exact iXor_in | exact hxs _) dX12_isSign_45 (by decide) (fun c8 => ?_) (fun c8 => ?_)
                · refine wp_iconst dX12_isSign_52 ?_
                  refine wp_zret (by first | exact Or.inl rfl | exact Or.inr rfl | omega) dX12_isSign_53 rfl ?_
                  first | exact QB_t hQ (by omega) | exact QB_f hQ (by omega)
                · refine wp_iconst dX12_isSign_48 ?_
                  refine wp_goto (tgt := 53) dX12_isSign_49 (by decide) ?_
                  refine wp_zret (by first | exact Or.inl rfl | exact Or.inr rfl | omega) dX12_isSign_53 rfl ?_
                  first | exact QB_t hQ (by omega) | exact QB_f hQ (by omega)
theorem s_X12_letter {u : gT} {h : mH} {d b : Nat} {n : Int} {f : Int → Int} (RT : rT h n f) {p : Int} (p0 : 0 ≤ p) (p1 : p ≤ 2000) : Det (gX (gq u)) MX12_letter d b [(2, 200), (0, p)] h (0, f p) h := by
  intro Q hQ
  have hS := RT.1
  have hn := RT.2.1
  have F := RT.2.2.1
  have hB := RT.2.2.2
  have hn1 := F.1
  have hn2 := F.2.1
  show WP (gX (gq u)) MX12_letter d b Q 0 [(2, 200), (0, p)] [] h
  refine wp_iload_n rfl rfl dX12_letter_0 ?_
  refine wp_aload_n rfl rfl dX12_letter_1 ?_
  refine wp_getfield1 (z := 13) (kI := 29) fX12_214 dX12_letter_2 (by first | omega | (simp (disch := omega) only [up2_ne, up2_eq, hn, st_200_m1 hS, st_200_28 hS, st_228_m2 hS, st_228_m1 hS]; first | done | omega)) (by first | assumption | (simp (disch := omega) only [up2_ne, up2_eq, hn, st_200_m1 hS, st_200_28 hS, st_228_m2 hS, st_228_m1 hS]; first | done | rfl | omega)) rfl rfl ?_
  try simp (disch := omega) only [up2_ne, up2_eq, hn, st_200_m1 hS, st_200_28 hS, st_228_m2 hS, st_228_m1 hS]
  refine wp_icmp_ge (tgt := 21) (by first | assumption | exact bI_in _ | exact ⟨by omega, by omega⟩ | exact iAnd_in | exact iOr_in | exact iShr_in | exact iShl_in | exact iXor_in | exact hxs _) (by first | assumption | exact bI_in _ | exact ⟨by omega, by omega⟩ | exact iAnd_in | exact iOr_in | exact iShr_in | exact iShl_in | exact iXor_in | exact hxs _) dX12_letter_5 (by decide) (fun c1 => ?_) (fun c1 => ?_)
  · refine wp_iconst dX12_letter_21 ?_
    refine wp_iret dX12_letter_22 rfl ?_
    first
      | (rw [← hB p (by omega) (by omega)] at hQ; exact hQ)
      | (rw [F.2.2.2 p (by omega)] at hQ; exact hQ)
  · refine wp_aload_n rfl rfl dX12_letter_8 ?_
    refine wp_getfield1 (z := 13) (kI := 28) fX12_160 dX12_letter_9 (by first | omega | (simp (disch := omega) only [up2_ne, up2_eq, hn, st_200_m1 hS, st_200_28 hS, st_228_m2 hS, st_228_m1 hS]; first | done | omega)) (by first | assumption | (simp (disch := omega) only [up2_ne, up2_eq, hn, st_200_m1 hS, st_200_28 hS, st_228_m2 hS, st_228_m1 hS]; first | done | rfl | omega)) rfl rfl ?_
    try simp (disch := omega) only [up2_ne, up2_eq, hn, st_200_m1 hS, st_200_28 hS, st_228_m2 hS, st_228_m1 hS]
    refine wp_iload_n rfl rfl dX12_letter_12 ?_
    refine wp_baload1 dX12_letter_13 (by first | omega | (simp (disch := omega) only [up2_ne, up2_eq, hn, st_200_m1 hS, st_200_28 hS, st_228_m2 hS, st_228_m1 hS]; first | done | omega)) (by first | assumption | (simp (disch := omega) only [up2_ne, up2_eq, hn, st_200_m1 hS, st_200_28 hS, st_228_m2 hS, st_228_m1 hS]; first | done | rfl | omega)) (by first | omega | (simp (disch := omega) only [up2_ne, up2_eq, hn, st_200_m1 hS, st_200_28 hS, st_228_m2 hS, st_228_m1 hS]; first | done | omega)) (by first | omega | (simp (disch := omega) only [up2_ne, up2_eq, hn, st_200_m1 hS, st_200_28 hS, st_228_m2 hS, st_228_m1 hS]; first | done | omega)) ?_
    try simp (disch := omega) only [up2_ne, up2_eq, hn, st_200_m1 hS, st_200_28 hS, st_228_m2 hS, st_228_m1 hS]
    refine wp_sipush (by decide) dX12_letter_14 ?_
    refine wp_iand dX12_letter_17 ?_
    refine wp_goto (tgt := 22) dX12_letter_18 (by decide) ?_
    refine wp_iret dX12_letter_22 rfl ?_
    first
      | (rw [← hB p (by omega) (by omega)] at hQ; exact hQ)
      | (rw [F.2.2.2 p (by omega)] at hQ; exact hQ)
theorem st_let {h : mH} (H : St h) {k : Int} (k0 : 0 ≤ k) (k1 : k < 51) : h 235 k = LETL.getD k.toNat 0 := by
  have key : ∀ j : Nat, j < 51 → ((235 : Int), (j : Int), LETL.getD j 0) ∈ statL := by decide +kernel
  have := H _ (key k.toNat (by omega))
  dsimp only at this
  rw [Int.toNat_of_nonneg k0] at this
  exact this
theorem st_bg {h : mH} (H : St h) {k : Nat} (k1 : k < 13) : h 236 k = (BGL.getD k 0 : Nat) := by
  have key : ∀ j : Nat, j < 13 → ((236 : Int), (j : Int), ((BGL.getD j 0 : Nat) : Int)) ∈ statL := by decide +kernel
  exact H _ (key k k1)
theorem st_sz {h : mH} (H : St h) {k : Nat} (k1 : k < 13) : h 237 k = (SZL.getD k 0 : Nat) := by
  have key : ∀ j : Nat, j < 13 → ((237 : Int), (j : Int), ((SZL.getD j 0 : Nat) : Int)) ∈ statL := by decide +kernel
  exact H _ (key k k1)
theorem sz_b : ∀ w : Nat, w < 13 → SZL.getD w 0 ≤ 7 ∧ BGL.getD w 0 ≤ 48 := by decide +kernel
/-- the first k letters are the word's, and its size is right -/
def wPx (f : Int → Int) (p : Int) (m w k : Nat) : Prop := SZL.getD w 0 = m ∧ ∀ j : Nat, j < k → f (p + j) = LETL.getD (BGL.getD w 0 + j) 0
theorem wPx_s {f : Int → Int} {p : Int} {m w k : Nat} : wPx f p m w (k + 1) ↔ wPx f p m w k ∧ f (p + k) = LETL.getD (BGL.getD w 0 + k) 0 := by
  constructor
  · intro h
    exact ⟨⟨h.1, fun j hj => h.2 j (by omega)⟩, h.2 k (by omega)⟩
  · intro h
    refine ⟨h.1.1, fun j hj => ?_⟩
    by_cases c : j = k
    · rw [c]
      exact h.2
    · exact h.1.2 j (by omega)
set_option maxHeartbeats 1000000 in
theorem s_X12_wordAt {u : gT} {h : mH} {d b : Nat} {n : Int} {f : Int → Int} (RT : rT h n f) {p : Int} {m : Nat} (p0 : 0 ≤ p) (p1 : p + m ≤ n) : Det (gX (gq u)) MX12_wordAt (d + 1) b [(2, 200), (0, p), (0, (m : Int))] h (0, rTk (wF f p m 13)) h := by
  intro Q hQ
  have hS := RT.1
  have hn := RT.2.1
  have F := RT.2.2.1
  have hB := RT.2.2.2
  have hn1 := F.1
  have hn2 := F.2.1
  have inner : ∀ wn : Nat, wn < 13 → wF f p m (13 - wn) = wF f p m 13 → (wF f p m (13 - (wn + 1)) = wF f p m 13 → WP (gX (gq u)) MX12_wordAt (d + 1) b Q 2 [(2, 200), (0, p), (0, (m : Int)), (0, (wn : Int) + 1), (9, 0), (9, 0)] [] h) → ∀ k : Nat, k ≤ m → ∀ sv : Int, (sv = 0 ∨ sv = 1) → (sv = 1 ↔ wPx f p m wn k) → WP (gX (gq u)) MX12_wordAt (d + 1) b Q 28 [(2, 200), (0, p), (0, (m : Int)), (0, (wn : Int)), (0, sv), (0, (k : Int))] [] h := by
    intro wn hwn hw nx
    refine loop_w m (fun k hk ih => ?_)
    intro sv hsv hpr
    have hsz := sz_b wn hwn
    have hbg := st_bg hS hwn
    have hrg := fun (z : sv = 1) (y : k < m) => wd_rng wn hwn k (by have := (hpr.mp z).1; omega)
    have hs := F.rng (k := p + k) (by omega)
    refine wp_iload rfl dX12_wordAt_28 ?_
    refine wp_iload_n rfl rfl dX12_wordAt_30 ?_
    refine wp_icmp_ge (tgt := 77) (by first | assumption | exact bI_in _ | exact ⟨by omega, by omega⟩ | exact iAnd_in | exact iOr_in | exact iShr_in | exact iShl_in | exact iXor_in | exact hxs _) (by first | assumption | exact bI_in _ | exact ⟨by omega, by omega⟩ | exact iAnd_in | exact iOr_in | exact iShr_in | exact iShl_in | exact iXor_in | exact hxs _) dX12_wordAt_31 (by decide) (fun c1 => ?_) (fun c1 => ?_)
    · refine wp_iload rfl dX12_wordAt_77 ?_
      refine wp_if_eq (tgt := 87) (by first | assumption | exact bI_in _ | exact ⟨by omega, by omega⟩ | exact iAnd_in | exact iOr_in | exact iShr_in | exact iShl_in | exact iXor_in | exact hxs _) dX12_wordAt_79 (by decide) (fun c2 => ?_) (fun c2 => ?_)
      · refine wp_iinc rfl rfl dX12_wordAt_87 rfl rfl ?_
        try simp only [List.set_cons_zero, List.set_cons_succ]
        refine wp_goto (tgt := 2) dX12_wordAt_90 (by decide) ?_
        refine wp_dropAt 4 rfl (wp_dropAt 5 rfl ?_)
        exact nx (by
          rw [← wF_w hwn (fun y => ?_)]
          · exact hw
          · have y2 : wPx f p m wn m := y
            have y3 : wPx f p m wn k := ⟨y2.1, fun j hj => y2.2 j (by omega)⟩
            have := hpr.mpr y3
            omega)
      · refine wp_bipush (by decide) dX12_wordAt_82 ?_
        refine wp_iload_n rfl rfl dX12_wordAt_84 ?_
        refine wp_iadd dX12_wordAt_85 ?_
        refine wp_iret dX12_wordAt_86 rfl ?_
        first
          | (have s1 : sv = 1 := by omega
             have ek : k = m := by omega
             subst ek
             have y : wMt f p k wn := hpr.mp s1
             rw [← hw, wF_y hwn y, show rTk (wn : Int) = 100 + wn from if_pos (by omega)] at hQ
             exact hQ)
          | (have ew : wn = 13 := by omega
             subst ew
             rw [← hw] at hQ
             exact hQ)
    · refine wp_iload rfl dX12_wordAt_34 ?_
      skip
      refine wp_if_eq (tgt := 77) (by first | assumption | exact bI_in _ | exact ⟨by omega, by omega⟩ | exact iAnd_in | exact iOr_in | exact iShr_in | exact iShl_in | exact iXor_in | exact hxs _) dX12_wordAt_36 (by decide) (fun c3 => ?_) (fun c3 => ?_)
      · refine wp_iload rfl dX12_wordAt_77 ?_
        refine wp_if_eq (tgt := 87) (by first | assumption | exact bI_in _ | exact ⟨by omega, by omega⟩ | exact iAnd_in | exact iOr_in | exact iShr_in | exact iShl_in | exact iXor_in | exact hxs _) dX12_wordAt_79 (by decide) (fun c4 => ?_) (fun c4 => ?_)
        · refine wp_iinc rfl rfl dX12_wordAt_87 rfl rfl ?_
          try simp only [List.set_cons_zero, List.set_cons_succ]
          refine wp_goto (tgt := 2) dX12_wordAt_90 (by decide) ?_
          refine wp_dropAt 4 rfl (wp_dropAt 5 rfl ?_)
          exact nx (by
            rw [← wF_w hwn (fun y => ?_)]
            · exact hw
            · have y2 : wPx f p m wn m := y
              have y3 : wPx f p m wn k := ⟨y2.1, fun j hj => y2.2 j (by omega)⟩
              have := hpr.mpr y3
              omega)
        · refine wp_bipush (by decide) dX12_wordAt_82 ?_
          refine wp_iload_n rfl rfl dX12_wordAt_84 ?_
          refine wp_iadd dX12_wordAt_85 ?_
          refine wp_iret dX12_wordAt_86 rfl ?_
          first
            | (have s1 : sv = 1 := by omega
               have ek : k = m := by omega
               subst ek
               have y : wMt f p k wn := hpr.mp s1
               rw [← hw, wF_y hwn y, show rTk (wn : Int) = 100 + wn from if_pos (by omega)] at hQ
               exact hQ)
            | (have ew : wn = 13 := by omega
               subst ew
               rw [← hw] at hQ
               exact hQ)
      · have hrg := hrg (by omega) (by omega)
        have hlb := let_b _ hrg
        have hle := st_let hS (k := ((BGL.getD wn 0 : Nat) : Int) + (k : Int)) (by omega) (by omega)
        have hlt : LETL.getD ((((BGL.getD wn 0 : Nat) : Int) + (k : Int)).toNat) 0 = LETL.getD (BGL.getD wn 0 + k) 0 := by rw [show (((BGL.getD wn 0 : Nat) : Int) + (k : Int)).toNat = BGL.getD wn 0 + k by omega]
        refine wp_aload_n rfl rfl dX12_wordAt_39 ?_
        refine wp_iload_n rfl rfl dX12_wordAt_40 ?_
        refine wp_iload rfl dX12_wordAt_41 ?_
        refine wp_iadd dX12_wordAt_43 ?_
        refine wp_cV1 (ci := 12) okX12_letter rfl rfl wX12_217 dX12_wordAt_44 rfl (Nat.le_of_ble_eq_true rfl) (Nat.le_of_ble_eq_true rfl) (by first | omega | (simp (disch := omega) only [up2_ne, up2_eq, hn, hbg, st_200_m1 hS, st_200_35 hS, st_200_36 hS, st_200_37 hS, st_235_m2 hS, st_235_m1 hS, st_236_m2 hS, st_236_m1 hS, st_237_m2 hS, st_237_m1 hS]; first | done | omega)) (by first | assumption | (simp (disch := omega) only [up2_ne, up2_eq, hn, hbg, st_200_m1 hS, st_200_35 hS, st_200_36 hS, st_200_37 hS, st_235_m2 hS, st_235_m1 hS, st_236_m2 hS, st_236_m1 hS, st_237_m2 hS, st_237_m1 hS]; first | done | rfl | omega)) (s_X12_letter RT (by omega) (by omega)) (Nat.zero_le _) ?_
        try simp (disch := omega) only [up2_ne, up2_eq, hn, hbg, st_200_m1 hS, st_200_35 hS, st_200_36 hS, st_200_37 hS, st_235_m2 hS, st_235_m1 hS, st_236_m2 hS, st_236_m1 hS, st_237_m2 hS, st_237_m1 hS]
        refine wp_aload_n rfl rfl dX12_wordAt_47 ?_
        refine wp_getfield1 (z := 13) (kI := 35) fX12_173 dX12_wordAt_48 (by first | omega | (simp (disch := omega) only [up2_ne, up2_eq, hn, hbg, st_200_m1 hS, st_200_35 hS, st_200_36 hS, st_200_37 hS, st_235_m2 hS, st_235_m1 hS, st_236_m2 hS, st_236_m1 hS, st_237_m2 hS, st_237_m1 hS]; first | done | omega)) (by first | assumption | (simp (disch := omega) only [up2_ne, up2_eq, hn, hbg, st_200_m1 hS, st_200_35 hS, st_200_36 hS, st_200_37 hS, st_235_m2 hS, st_235_m1 hS, st_236_m2 hS, st_236_m1 hS, st_237_m2 hS, st_237_m1 hS]; first | done | rfl | omega)) rfl rfl ?_
        try simp (disch := omega) only [up2_ne, up2_eq, hn, hbg, st_200_m1 hS, st_200_35 hS, st_200_36 hS, st_200_37 hS, st_235_m2 hS, st_235_m1 hS, st_236_m2 hS, st_236_m1 hS, st_237_m2 hS, st_237_m1 hS]
        refine wp_aload_n rfl rfl dX12_wordAt_51 ?_
        refine wp_getfield1 (z := 13) (kI := 36) fX12_177 dX12_wordAt_52 (by first | omega | (simp (disch := omega) only [up2_ne, up2_eq, hn, hbg, st_200_m1 hS, st_200_35 hS, st_200_36 hS, st_200_37 hS, st_235_m2 hS, st_235_m1 hS, st_236_m2 hS, st_236_m1 hS, st_237_m2 hS, st_237_m1 hS]; first | done | omega)) (by first | assumption | (simp (disch := omega) only [up2_ne, up2_eq, hn, hbg, st_200_m1 hS, st_200_35 hS, st_200_36 hS, st_200_37 hS, st_235_m2 hS, st_235_m1 hS, st_236_m2 hS, st_236_m1 hS, st_237_m2 hS, st_237_m1 hS]; first | done | rfl | omega)) rfl rfl ?_
        try simp (disch := omega) only [up2_ne, up2_eq, hn, hbg, st_200_m1 hS, st_200_35 hS, st_200_36 hS, st_200_37 hS, st_235_m2 hS, st_235_m1 hS, st_236_m2 hS, st_236_m1 hS, st_237_m2 hS, st_237_m1 hS]
        refine wp_iload_n rfl rfl dX12_wordAt_55 ?_
        refine wp_iaload1 dX12_wordAt_56 (by first | omega | (simp (disch := omega) only [up2_ne, up2_eq, hn, hbg, st_200_m1 hS, st_200_35 hS, st_200_36 hS, st_200_37 hS, st_235_m2 hS, st_235_m1 hS, st_236_m2 hS, st_236_m1 hS, st_237_m2 hS, st_237_m1 hS]; first | done | omega)) (by first | assumption | (simp (disch := omega) only [up2_ne, up2_eq, hn, hbg, st_200_m1 hS, st_200_35 hS, st_200_36 hS, st_200_37 hS, st_235_m2 hS, st_235_m1 hS, st_236_m2 hS, st_236_m1 hS, st_237_m2 hS, st_237_m1 hS]; first | done | rfl | omega)) (by first | omega | (simp (disch := omega) only [up2_ne, up2_eq, hn, hbg, st_200_m1 hS, st_200_35 hS, st_200_36 hS, st_200_37 hS, st_235_m2 hS, st_235_m1 hS, st_236_m2 hS, st_236_m1 hS, st_237_m2 hS, st_237_m1 hS]; first | done | omega)) (by first | omega | (simp (disch := omega) only [up2_ne, up2_eq, hn, hbg, st_200_m1 hS, st_200_35 hS, st_200_36 hS, st_200_37 hS, st_235_m2 hS, st_235_m1 hS, st_236_m2 hS, st_236_m1 hS, st_237_m2 hS, st_237_m1 hS]; first | done | omega)) ?_
        try simp (disch := omega) only [up2_ne, up2_eq, hn, hbg, st_200_m1 hS, st_200_35 hS, st_200_36 hS, st_200_37 hS, st_235_m2 hS, st_235_m1 hS, st_236_m2 hS, st_236_m1 hS, st_237_m2 hS, st_237_m1 hS]
        refine wp_iload rfl dX12_wordAt_57 ?_
        refine wp_iadd dX12_wordAt_59 ?_
        refine wp_caload1 dX12_wordAt_60 (by first | omega | (simp (disch := omega) only [up2_ne, up2_eq, hn, hbg, st_200_m1 hS, st_200_35 hS, st_200_36 hS, st_200_37 hS, st_235_m2 hS, st_235_m1 hS, st_236_m2 hS, st_236_m1 hS, st_237_m2 hS, st_237_m1 hS]; first | done | omega)) (by first | assumption | (simp (disch := omega) only [up2_ne, up2_eq, hn, hbg, st_200_m1 hS, st_200_35 hS, st_200_36 hS, st_200_37 hS, st_235_m2 hS, st_235_m1 hS, st_236_m2 hS, st_236_m1 hS, st_237_m2 hS, st_237_m1 hS]; first | done | rfl | omega)) (by first | omega | (simp (disch := omega) only [up2_ne, up2_eq, hn, hbg, st_200_m1 hS, st_200_35 hS, st_200_36 hS, st_200_37 hS, st_235_m2 hS, st_235_m1 hS, st_236_m2 hS, st_236_m1 hS, st_237_m2 hS, st_237_m1 hS]; first | done | omega)) (by first | omega | (simp (disch := omega) only [up2_ne, up2_eq, hn, hbg, st_200_m1 hS, st_200_35 hS, st_200_36 hS, st_200_37 hS, st_235_m2 hS, st_235_m1 hS, st_236_m2 hS, st_236_m1 hS, st_237_m2 hS, st_237_m1 hS]; first | done | omega)) ?_
        try simp (disch := omega) only [up2_ne, up2_eq, hn, hbg, st_200_m1 hS, st_200_35 hS, st_200_36 hS, st_200_37 hS, st_235_m2 hS, st_235_m1 hS, st_236_m2 hS, st_236_m1 hS, st_237_m2 hS, st_237_m1 hS]
        refine wp_icmp_ne (tgt := 68) (by first | assumption | exact bI_in _ | exact ⟨by omega, by omega⟩ | exact iAnd_in | exact iOr_in | exact iShr_in | exact iShl_in | exact iXor_in | exact hxs _) (by first | assumption | exact bI_in _ | exact ⟨by omega, by omega⟩ | exact iAnd_in | exact iOr_in | exact iShr_in | exact iShl_in | exact iXor_in | exact hxs _) dX12_wordAt_61 (by decide) (fun c5 => ?_) (fun c5 => ?_)
        · refine wp_iconst dX12_wordAt_68 ?_
          refine wp_istore dX12_wordAt_69 rfl (Nat.le_of_ble_eq_true rfl) rfl ?_
          try simp only [List.set_cons_zero, List.set_cons_succ]
          refine wp_iinc rfl rfl dX12_wordAt_71 rfl rfl ?_
          try simp only [List.set_cons_zero, List.set_cons_succ]
          refine wp_goto (tgt := 28) dX12_wordAt_74 (by decide) ?_
          have hLq : LETL.getD ((((BGL.getD wn 0 : Nat) : Int) + (k : Int)).toNat) 0 = LETL.getD (BGL.getD wn 0 + k) 0 := by rw [show (((BGL.getD wn 0 : Nat) : Int) + (k : Int)).toNat = BGL.getD wn 0 + k by omega]
          have s1 : sv = 1 := by omega
          have z := ih (by omega)
          rw [show ((k + 1 : Nat) : Int) = (k : Int) + 1 by omega] at z
          refine z _ (by first | exact Or.inl rfl | exact Or.inr rfl) ?_
          rw [wPx_s, ← hpr, ← hLq]
          constructor
          · intro y
            first | (exfalso; omega) | exact ⟨s1, by omega⟩
          · intro y
            first | rfl | (exfalso; omega)
        · refine wp_iconst dX12_wordAt_64 ?_
          refine wp_goto (tgt := 69) dX12_wordAt_65 (by decide) ?_
          refine wp_istore dX12_wordAt_69 rfl (Nat.le_of_ble_eq_true rfl) rfl ?_
          try simp only [List.set_cons_zero, List.set_cons_succ]
          refine wp_iinc rfl rfl dX12_wordAt_71 rfl rfl ?_
          try simp only [List.set_cons_zero, List.set_cons_succ]
          refine wp_goto (tgt := 28) dX12_wordAt_74 (by decide) ?_
          have hLq : LETL.getD ((((BGL.getD wn 0 : Nat) : Int) + (k : Int)).toNat) 0 = LETL.getD (BGL.getD wn 0 + k) 0 := by rw [show (((BGL.getD wn 0 : Nat) : Int) + (k : Int)).toNat = BGL.getD wn 0 + k by omega]
          have s1 : sv = 1 := by omega
          have z := ih (by omega)
          rw [show ((k + 1 : Nat) : Int) = (k : Int) + 1 by omega] at z
          refine z _ (by first | exact Or.inl rfl | exact Or.inr rfl) ?_
          rw [wPx_s, ← hpr, ← hLq]
          constructor
          · intro y
            first | (exfalso; omega) | exact ⟨s1, by omega⟩
          · intro y
            first | rfl | (exfalso; omega)
  have loop : ∀ wn : Nat, wn ≤ 13 → wF f p m (13 - wn) = wF f p m 13 → WP (gX (gq u)) MX12_wordAt (d + 1) b Q 2 [(2, 200), (0, p), (0, (m : Int)), (0, (wn : Int)), (9, 0), (9, 0)] [] h := by
    refine loop_w 13 (fun wn hwn ih => ?_)
    intro hw
    have hsz2 := fun z : wn < 13 => st_sz hS z
    have hsz := fun z : wn < 13 => sz_b wn z
    refine wp_iload_n rfl rfl dX12_wordAt_2 ?_
    refine wp_bipush (by decide) dX12_wordAt_3 ?_
    refine wp_icmp_ge (tgt := 93) (by first | assumption | exact bI_in _ | exact ⟨by omega, by omega⟩ | exact iAnd_in | exact iOr_in | exact iShr_in | exact iShl_in | exact iXor_in | exact hxs _) (by first | assumption | exact bI_in _ | exact ⟨by omega, by omega⟩ | exact iAnd_in | exact iOr_in | exact iShr_in | exact iShl_in | exact iXor_in | exact hxs _) dX12_wordAt_5 (by decide) (fun c6 => ?_) (fun c6 => ?_)
    · refine wp_iconst dX12_wordAt_93 ?_
      refine wp_iret dX12_wordAt_94 rfl ?_
      first
        | (have s1 : sv = 1 := by omega
           have ek : k = m := by omega
           subst ek
           have y : wMt f p k wn := hpr.mp s1
           rw [← hw, wF_y hwn y, show rTk (wn : Int) = 100 + wn from if_pos (by omega)] at hQ
           exact hQ)
        | (have ew : wn = 13 := by omega
           subst ew
           rw [← hw] at hQ
           exact hQ)
    · have hsz2 := hsz2 (by omega)
      have hsz := hsz (by omega)
      refine wp_aload_n rfl rfl dX12_wordAt_8 ?_
      refine wp_getfield1 (z := 13) (kI := 37) fX12_180 dX12_wordAt_9 (by first | omega | (simp (disch := omega) only [up2_ne, up2_eq, hn, st_200_m1 hS, st_200_35 hS, st_200_36 hS, st_200_37 hS, st_235_m2 hS, st_235_m1 hS, st_236_m2 hS, st_236_m1 hS, st_237_m2 hS, st_237_m1 hS]; first | done | omega)) (by first | assumption | (simp (disch := omega) only [up2_ne, up2_eq, hn, st_200_m1 hS, st_200_35 hS, st_200_36 hS, st_200_37 hS, st_235_m2 hS, st_235_m1 hS, st_236_m2 hS, st_236_m1 hS, st_237_m2 hS, st_237_m1 hS]; first | done | rfl | omega)) rfl rfl ?_
      try simp (disch := omega) only [up2_ne, up2_eq, hn, st_200_m1 hS, st_200_35 hS, st_200_36 hS, st_200_37 hS, st_235_m2 hS, st_235_m1 hS, st_236_m2 hS, st_236_m1 hS, st_237_m2 hS, st_237_m1 hS]
      refine wp_iload_n rfl rfl dX12_wordAt_12 ?_
      refine wp_iaload1 dX12_wordAt_13 (by first | omega | (simp (disch := omega) only [up2_ne, up2_eq, hn, st_200_m1 hS, st_200_35 hS, st_200_36 hS, st_200_37 hS, st_235_m2 hS, st_235_m1 hS, st_236_m2 hS, st_236_m1 hS, st_237_m2 hS, st_237_m1 hS]; first | done | omega)) (by first | assumption | (simp (disch := omega) only [up2_ne, up2_eq, hn, st_200_m1 hS, st_200_35 hS, st_200_36 hS, st_200_37 hS, st_235_m2 hS, st_235_m1 hS, st_236_m2 hS, st_236_m1 hS, st_237_m2 hS, st_237_m1 hS]; first | done | rfl | omega)) (by first | omega | (simp (disch := omega) only [up2_ne, up2_eq, hn, st_200_m1 hS, st_200_35 hS, st_200_36 hS, st_200_37 hS, st_235_m2 hS, st_235_m1 hS, st_236_m2 hS, st_236_m1 hS, st_237_m2 hS, st_237_m1 hS]; first | done | omega)) (by first | omega | (simp (disch := omega) only [up2_ne, up2_eq, hn, st_200_m1 hS, st_200_35 hS, st_200_36 hS, st_200_37 hS, st_235_m2 hS, st_235_m1 hS, st_236_m2 hS, st_236_m1 hS, st_237_m2 hS, st_237_m1 hS]; first | done | omega)) ?_
      try simp (disch := omega) only [up2_ne, up2_eq, hn, st_200_m1 hS, st_200_35 hS, st_200_36 hS, st_200_37 hS, st_235_m2 hS, st_235_m1 hS, st_236_m2 hS, st_236_m1 hS, st_237_m2 hS, st_237_m1 hS]
      refine wp_iload_n rfl rfl dX12_wordAt_14 ?_
      refine wp_icmp_ne (tgt := 22) (by first | assumption | exact bI_in _ | exact ⟨by omega, by omega⟩ | exact iAnd_in | exact iOr_in | exact iShr_in | exact iShl_in | exact iXor_in | exact hxs _) (by first | assumption | exact bI_in _ | exact ⟨by omega, by omega⟩ | exact iAnd_in | exact iOr_in | exact iShr_in | exact iShl_in | exact iXor_in | exact hxs _) dX12_wordAt_15 (by decide) (fun c7 => ?_) (fun c7 => ?_)
      · refine wp_iconst dX12_wordAt_22 ?_
        refine wp_istore dX12_wordAt_23 rfl (Nat.le_of_ble_eq_true rfl) rfl ?_
        try simp only [List.set_cons_zero, List.set_cons_succ]
        refine wp_iconst dX12_wordAt_25 ?_
        refine wp_istore dX12_wordAt_26 rfl (Nat.le_of_ble_eq_true rfl) rfl ?_
        try simp only [List.set_cons_zero, List.set_cons_succ]
        refine inner wn (by omega) hw (fun q => by have z := ih (by omega) q; rw [show ((wn + 1 : Nat) : Int) = (wn : Int) + 1 by omega] at z; exact z) 0 (Nat.zero_le _) _ (by first | exact Or.inl rfl | exact Or.inr rfl) ?_
        constructor
        · intro y
          first | (exfalso; omega) | exact ⟨by omega, fun j hj => absurd hj (Nat.not_lt_zero j)⟩
        · intro y
          have := y.1
          first | rfl | (exfalso; omega)
      · refine wp_iconst dX12_wordAt_18 ?_
        refine wp_goto (tgt := 23) dX12_wordAt_19 (by decide) ?_
        refine wp_istore dX12_wordAt_23 rfl (Nat.le_of_ble_eq_true rfl) rfl ?_
        try simp only [List.set_cons_zero, List.set_cons_succ]
        refine wp_iconst dX12_wordAt_25 ?_
        refine wp_istore dX12_wordAt_26 rfl (Nat.le_of_ble_eq_true rfl) rfl ?_
        try simp only [List.set_cons_zero, List.set_cons_succ]
        refine inner wn (by omega) hw (fun q => by have z := ih (by omega) q; rw [show ((wn + 1 : Nat) : Int) = (wn : Int) + 1 by omega] at z; exact z) 0 (Nat.zero_le _) _ (by first | exact Or.inl rfl | exact Or.inr rfl) ?_
        constructor
        · intro y
          first | (exfalso; omega) | exact ⟨by omega, fun j hj => absurd hj (Nat.not_lt_zero j)⟩
        · intro y
          have := y.1
          first | rfl | (exfalso; omega)
  show WP (gX (gq u)) MX12_wordAt (d + 1) b Q 0 [(2, 200), (0, p), (0, (m : Int)), (9, 0), (9, 0), (9, 0)] [] h
  refine wp_iconst dX12_wordAt_0 ?_
  refine wp_istore_n rfl dX12_wordAt_1 rfl (Nat.le_of_ble_eq_true rfl) rfl ?_
  try simp only [List.set_cons_zero, List.set_cons_succ]
  exact loop 0 (by omega) rfl
