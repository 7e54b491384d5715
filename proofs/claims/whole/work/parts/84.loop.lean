/-! a text, on both sides -/
theorem YR_zero {Yf Yg : Nat → Nat → Int32} {N : Nat → Int32} (h : ∀ j, j < 240 → N j = 0) : YR Yf Yg (fun _ => 0) (fun _ => 0) N := by
  have z : ∀ i, rg (0 : Int32) 0 i ↔ 0 ≤ i := fun i => ⟨fun q => q.2, fun q => ⟨Int.le_refl 0, q⟩⟩
  have r0 : ∀ (f : Nat → Int32) (p : Nat), p < 4 → rowAt f 0 (nI p) = 0 := fun f p hp => by
    unfold rowAt
    rw [if_neg (nI_pos (by omega)), if_pos (nI_le (by omega) (by omega))]
  refine ⟨Nat.zero_le _, ⟨⟨h 13 (by omega), Nat.zero_le _⟩, ⟨h 23 (by omega), Nat.zero_le _⟩, ⟨h 36 (by omega), Nat.zero_le _⟩, ⟨h 117 (by omega), Nat.zero_le _⟩, ⟨h 198 (by omega), Nat.zero_le _⟩⟩,
    ⟨fun j hj => absurd hj (Nat.not_lt_zero _), fun j hj => absurd hj (Nat.not_lt_zero _), fun j hj => absurd hj (Nat.not_lt_zero _), fun j hj => absurd hj (Nat.not_lt_zero _), fun j hj => absurd hj (Nat.not_lt_zero _)⟩, fun p hp => ?_,
    ⟨(h 0 (by omega)).symm, (h 1 (by omega)).symm, (h 2 (by omega)).symm, (h 11 (by omega)).symm, (h 12 (by omega)).symm, (h 239 (by omega)).symm⟩, Or.inl ⟨h 22 (by omega), rfl⟩,
    ⟨?_, ?_, ?_, ?_, ?_, ?_⟩, fun p hp => ?_, fun j hj => absurd hj (Nat.not_lt_zero _), fun j hj => absurd hj (Nat.not_lt_zero _), fun j hj => absurd hj (Nat.not_lt_zero _), fun j hj => absurd hj (Nat.not_lt_zero _), fun j hj => absurd hj (Nat.not_lt_zero _), fun j hj => absurd hj (Nat.not_lt_zero _), fun j hj => absurd hj (Nat.not_lt_zero _)⟩
  · rw [h (3 + p) (by omega), h (7 + p) (by omega)]; exact ⟨r0 _ p hp, r0 _ p hp⟩
  · rw [h 0 (by omega)]; exact (z _).mpr (by omega)
  · rw [h 1 (by omega)]; exact (z _).mpr (by omega)
  · rw [h 2 (by omega)]; exact (z _).mpr (by omega)
  · rw [h 11 (by omega)]; exact (z _).mpr (by omega)
  · rw [h 12 (by omega)]; exact (z _).mpr (by omega)
  · rw [h 239 (by omega)]; exact (z _).mpr (by omega)
  · rw [h (3 + p) (by omega), h (7 + p) (by omega), h 2 (by omega)]; exact ⟨(z _).mpr (Int.le_refl 0), (z _).mpr (by omega)⟩
section TEXT
variable {B T : Nat → Int32} {n k : Nat} {S : XSt} {M : MSt} {Z : DYt}
theorem lnK_eq (hY : YR Z.1 Z.2.1 Z.2.2.1 Z.2.2.2 M.2.2.2.2.2.2.2) : lnK T n M k = lnM T n M k (Z.2.2.1 1) (Z.2.2.1 2) (Z.2.2.1 3) (Z.2.2.1 4) := by
  have c1 := hY.c1
  have c2 := hY.c2
  have c3 := hY.c3
  have c4 := hY.c4
  unfold lnK
  rw [clampR hY.cn.1.1 (by omega), clampR hY.cn.2.1.1 (by omega), clampR hY.cn.2.2.1.1 (by omega), clampR hY.cn.2.2.2.1.1 (by omega)]
theorem ln_none (hs : SY B n S M) (hL : S.1 = k) (hk : k ≤ 800) {s : Int32} (hsr : srX B n (tokX B n S) = s) (h0 : k = 0 → ¬ s = 0) (h1 : 0 < k → k ≤ 4 → ¬ s = 1) (h2 : k = 5 → ¬ s = 2) (h3 : 6 ≤ k → s < 3) (hln : lnK T n M k = (0, badM M 1)) : LO B T n k (lnX B n (tokX B n S) Z) (lnK T n M k) := by
  rw [hln]
  unfold lnX
  rw [if_pos (by rw [(tok_L B n S).1, hL, hsr]; exact cc_no (by omega) h0 h1 h2 h3)]
  exact lo_word hs.1.1 1 (by decide) (fun _ => rfl)
theorem line_eq (h : TRl B T n) (hs : SY B n S M) (hL : S.1 = k) (hk : k ≤ 800) (hM : M.2.2.2.2.1 = 0) (hR : LR k Z M.2.2.2.2.2.2.2) (ht : ¬ (tokX B n S).2.2.2.2.2.1 = 0) : LO B T n k (lnX B n (tokX B n S) Z) (lnK T n M k) := by
  have hY := hR.1
  have hK := lnK_eq (T := T) (n := n) (k := k) hY
  obtain ⟨tl, tf, tn⟩ := tok_L B n S
  by_cases c : (tokX B n S).2.2.2.2.2.1 = 1
  · have q : M.2.2.1 = 2 ∧ (tokX B n S).2.2.2.1 = M.1 ∧ ∀ i, i < 8 → (iwX B n (tokX B n S).2.2.2.2.1 (tokX B n S).2.2.2.1 i = 1 ↔ lg_cmp M.2.2.2.2.2.2.1 (wV i) = 0) := by
      rcases hs.1.2 with ⟨a, _⟩ | ⟨a, _⟩ | ⟨_, a⟩ | ⟨a, _⟩ | ⟨a, _⟩
      · exact absurd a ht
      · rw [c] at a; exact absurd a (by decide)
      · exact a
      · rw [c] at a; exact absurd a (by decide)
      · rw [c] at a; exact absurd a (by decide)
    obtain ⟨q1, q2, q3⟩ := q
    obtain ⟨i0, i1, i2, i3, i4, i5, i6, i7⟩ := is_f q1 q3
    have es : srX B n (tokX B n S) = swX (iwX B n (tokX B n S).2.2.2.2.1 (tokX B n S).2.2.2.1) 8 0 := by unfold srX soW; rw [if_pos c]
    have sy : SY B n (tokX B n S) (goM T n M) := ⟨tok_eq h q2 hs.2.1, goM_le hs.2.1, by rw [tf]; exact hs.2.2⟩
    have hL1 : (tokX B n S).1 = k := by rw [tl]; exact hL
    have hb : ∀ i, b01 (iwX B n (tokX B n S).2.2.2.2.1 (tokX B n S).2.2.2.1 i) := fun i => iwX_b _ _ _ _ i
    generalize hf : iwX B n (tokX B n S).2.2.2.2.1 (tokX B n S).2.2.2.1 = f at i0 i1 i2 i3 i4 i5 i6 i7 es hb q3
    have uniq : ∀ i, i < 8 → ¬ f i = 0 → ∀ j, j < 8 → j ≠ i → f j = 0 := fun i hi h1 j hj hne => by
      rcases hb j with z | z
      · exact z
      · have e1 : f i = 1 := (hb i).resolve_left h1
        have a := (lg_cmp_eq _ _).mp ((q3 i hi).mp e1)
        have b := (lg_cmp_eq _ _).mp ((q3 j hj).mp z)
        exact absurd (wV_ne j hj i hi (b.symm.trans a)) hne
    rcases sw_sp (f := f) 8 0 with ⟨a, b⟩ | ⟨i, _, hi, a, b⟩
    · refine ln_none hs hL hk (es.trans a) (fun _ => by decide) (fun _ _ => by decide) (fun _ => by decide) (fun _ => by decide) ?_
      rw [hK]
      exact lnM_none (fun _ => by rw [i0]; exact b 0 (by omega) (by omega)) (fun _ => by rw [i1]; exact b 1 (by omega) (by omega)) (fun _ => by rw [i2]; exact b 2 (by omega) (by omega)) (fun _ => by rw [i3]; exact b 3 (by omega) (by omega)) (fun _ => by rw [i4]; exact b 4 (by omega) (by omega)) (fun _ => by rw [i5]; exact b 5 (by omega) (by omega)) (fun _ => by rw [i6]; exact b 6 (by omega) (by omega)) (fun _ => by rw [i7]; exact b 7 (by omega) (by omega))
    · have hi : i < 8 := by omega
      have u := uniq i hi b
      have e := es.trans a
      have kk0 : nI k = 0 ↔ k = 0 := ⟨fun z => nI_inj (b := 0) z (by omega) (by omega), fun z => by rw [z]; rfl⟩
      have kk4 : 4 < nI k ↔ 4 < k := ⟨fun z => lt_nI' (a := 4) z (by omega) (by omega), fun z => nI_lt (a := 4) z (by omega)⟩
      have kk5 : nI k = 5 ↔ k = 5 := ⟨fun z => nI_inj (b := 5) z (by omega) (by omega), fun z => by rw [z]; rfl⟩
      rcases (show i = 0 ∨ i = 1 ∨ i = 2 ∨ i = 3 ∨ i = 4 ∨ i = 5 ∨ i = 6 ∨ i = 7 by omega) with rfl | rfl | rfl | rfl | rfl | rfl | rfl | rfl
      · by_cases kz : k = 0
        · unfold lnX
          rw [if_neg (show ¬ ccX (tokX B n S).1 (srX B n (tokX B n S)) = 0 by rw [hL1, e]; exact cc_yes (by omega) (Or.inl ⟨kz, rfl⟩)), e]
          rw [hK]
          subst kz
          unfold lnM
          rw [if_pos (show nI 0 = 0 from rfl)]
          exact ln_year h sy hM hL1 hR (by rw [i0]; exact b)
        · refine ln_none hs hL hk e (fun z => absurd z kz) (fun _ _ => by decide) (fun _ => by decide) (fun _ => by decide) ?_
          rw [hK]
          exact lnM_none (fun z => absurd z (by rw [kk0]; exact kz)) (fun _ => by rw [i1]; exact u 1 (by omega) (by omega)) (fun _ => by rw [i2]; exact u 2 (by omega) (by omega)) (fun _ => by rw [i3]; exact u 3 (by omega) (by omega)) (fun _ => by rw [i4]; exact u 4 (by omega) (by omega)) (fun _ => by rw [i5]; exact u 5 (by omega) (by omega)) (fun _ => by rw [i6]; exact u 6 (by omega) (by omega)) (fun _ => by rw [i7]; exact u 7 (by omega) (by omega))
      · by_cases kz : 0 < k ∧ k ≤ 4
        · unfold lnX
          rw [if_neg (show ¬ ccX (tokX B n S).1 (srX B n (tokX B n S)) = 0 by rw [hL1, e]; exact cc_yes (by omega) (Or.inr (Or.inl ⟨kz.1, kz.2, rfl⟩))), e]
          rw [hK]
          unfold lnM
          rw [if_neg (show ¬ nI k = 0 by rw [kk0]; omega), if_neg (show ¬ (4 : Int32) < nI k by rw [kk4]; omega)]
          exact ln_per h sy hM hL1 kz hR (by rw [i1]; exact b)
        · refine ln_none hs hL hk e (fun _ => by decide) (fun a b => absurd ⟨a, b⟩ kz) (fun _ => by decide) (fun _ => by decide) ?_
          rw [hK]
          exact lnM_none (fun _ => by rw [i0]; exact u 0 (by omega) (by omega)) (fun z => absurd z (by rw [kk0, kk4]; omega)) (fun _ => by rw [i2]; exact u 2 (by omega) (by omega)) (fun _ => by rw [i3]; exact u 3 (by omega) (by omega)) (fun _ => by rw [i4]; exact u 4 (by omega) (by omega)) (fun _ => by rw [i5]; exact u 5 (by omega) (by omega)) (fun _ => by rw [i6]; exact u 6 (by omega) (by omega)) (fun _ => by rw [i7]; exact u 7 (by omega) (by omega))
      · by_cases kz : k = 5
        · unfold lnX
          rw [if_neg (show ¬ ccX (tokX B n S).1 (srX B n (tokX B n S)) = 0 by rw [hL1, e]; exact cc_yes (by omega) (Or.inr (Or.inr (Or.inl ⟨kz, rfl⟩)))), e]
          rw [hK]
          subst kz
          unfold lnM
          rw [if_neg (show ¬ nI 5 = 0 by decide), if_pos (show (4 : Int32) < nI 5 by decide), if_pos (show nI 5 = 5 from rfl)]
          exact ln_share h sy hM hL1 hR (by rw [i2]; exact b)
        · refine ln_none hs hL hk e (fun _ => by decide) (fun _ _ => by decide) (fun z => absurd z kz) (fun _ => by decide) ?_
          rw [hK]
          exact lnM_none (fun _ => by rw [i0]; exact u 0 (by omega) (by omega)) (fun _ => by rw [i1]; exact u 1 (by omega) (by omega)) (fun z => absurd z (by rw [kk5]; exact kz)) (fun _ => by rw [i3]; exact u 3 (by omega) (by omega)) (fun _ => by rw [i4]; exact u 4 (by omega) (by omega)) (fun _ => by rw [i5]; exact u 5 (by omega) (by omega)) (fun _ => by rw [i6]; exact u 6 (by omega) (by omega)) (fun _ => by rw [i7]; exact u 7 (by omega) (by omega))
      · by_cases kz : 6 ≤ k
        · unfold lnX
          rw [if_neg (show ¬ ccX (tokX B n S).1 (srX B n (tokX B n S)) = 0 by rw [hL1, e]; exact cc_yes (by omega) (Or.inr (Or.inr (Or.inr ⟨kz, by decide⟩)))), e]
          rw [hK]
          unfold lnM
          rw [if_neg (show ¬ nI k = 0 by rw [kk0]; omega), if_pos (show (4 : Int32) < nI k by rw [kk4]; omega), if_neg (show ¬ nI k = 5 by rw [kk5]; omega)]
          unfold otM
          rw [if_neg (show ¬ isM M.2.2.1 M.2.2.2.2.2.2.1 117 112 116 111 0 0 = 0 by rw [i3]; exact b)]
          have kc := hY.c1
          have cC : M.2.2.2.2.2.2.2 13 = nI (Z.2.2.1 1) := hY.cn.1.1
          have hx : haX Z (nI 3) = if nI (Z.2.2.1 1) < nI 4 then 0 else 1 := rfl
          rw [hx]
          by_cases full : Z.2.2.1 1 < 4
          · rw [if_pos (show (if nI (Z.2.2.1 1) < nI 4 then 0 else 1 : Int32) = 0 by rw [if_pos (nI_lt full (by omega))])]
            exact ln_upto h sy hM hL1 kz hR (by rw [cC]; exact fun z => by have := nI_inj (b := 4) z (by omega) (by omega); omega)
          · rw [if_neg (show ¬ (if nI (Z.2.2.1 1) < nI 4 then 0 else 1 : Int32) = 0 by rw [if_neg (nI_nlt (by omega) (by omega))]; decide)]
            unfold two2M
            rw [if_pos (by rw [cC, show Z.2.2.1 1 = 4 by omega]; rfl)]
            exact lo_word hs.1.1 3 (by decide) (fun z => by rw [q1] at z; exact absurd z (by decide))
        · refine ln_none hs hL hk e (fun _ => by decide) (fun _ _ => by decide) (fun _ => by decide) (fun z => absurd z kz) ?_
          rw [hK]
          exact lnM_none (fun _ => by rw [i0]; exact u 0 (by omega) (by omega)) (fun _ => by rw [i1]; exact u 1 (by omega) (by omega)) (fun _ => by rw [i2]; exact u 2 (by omega) (by omega)) (fun z => absurd z (by rw [kk4, kk5]; omega)) (fun _ => by rw [i4]; exact u 4 (by omega) (by omega)) (fun _ => by rw [i5]; exact u 5 (by omega) (by omega)) (fun _ => by rw [i6]; exact u 6 (by omega) (by omega)) (fun _ => by rw [i7]; exact u 7 (by omega) (by omega))
      · by_cases kz : 6 ≤ k
        · unfold lnX
          rw [if_neg (show ¬ ccX (tokX B n S).1 (srX B n (tokX B n S)) = 0 by rw [hL1, e]; exact cc_yes (by omega) (Or.inr (Or.inr (Or.inr ⟨kz, by decide⟩)))), e]
          rw [hK]
          unfold lnM
          rw [if_neg (show ¬ nI k = 0 by rw [kk0]; omega), if_pos (show (4 : Int32) < nI k by rw [kk4]; omega), if_neg (show ¬ nI k = 5 by rw [kk5]; omega)]
          unfold otM
          rw [if_pos (show isM M.2.2.1 M.2.2.2.2.2.2.1 117 112 116 111 0 0 = 0 by rw [i3]; exact u 3 (by omega) (by omega)), if_pos (show isM M.2.2.1 M.2.2.2.2.2.2.1 114 97 116 101 0 0 = 0 by rw [i5]; exact u 5 (by omega) (by omega)), if_pos (show isM M.2.2.1 M.2.2.2.2.2.2.1 105 110 99 111 109 101 = 0 by rw [i6]; exact u 6 (by omega) (by omega)), if_pos (show isM M.2.2.1 M.2.2.2.2.2.2.1 112 97 121 0 0 0 = 0 by rw [i7]; exact u 7 (by omega) (by omega)), if_neg (show ¬ isM M.2.2.1 M.2.2.2.2.2.2.1 111 118 101 114 0 0 = 0 by rw [i4]; exact b)]
          have hx : haX Z (nI 4) = Z.2.2.2 11 := rfl
          rw [hx]
          rcases hR.2.2.2.2 with ⟨v0, r0⟩ | ⟨v1, r1⟩
          · rw [if_pos v0, if_pos r0]
            exact ln_over h sy hM hL1 kz hR r0
          · rw [if_neg (by rw [v1]; decide), if_neg r1]
            exact lo_word hs.1.1 3 (by decide) (fun z => by rw [q1] at z; exact absurd z (by decide))
        · refine ln_none hs hL hk e (fun _ => by decide) (fun _ _ => by decide) (fun _ => by decide) (fun z => absurd z kz) ?_
          rw [hK]
          exact lnM_none (fun _ => by rw [i0]; exact u 0 (by omega) (by omega)) (fun _ => by rw [i1]; exact u 1 (by omega) (by omega)) (fun _ => by rw [i2]; exact u 2 (by omega) (by omega)) (fun _ => by rw [i3]; exact u 3 (by omega) (by omega)) (fun z => absurd z (by rw [kk4, kk5]; omega)) (fun _ => by rw [i5]; exact u 5 (by omega) (by omega)) (fun _ => by rw [i6]; exact u 6 (by omega) (by omega)) (fun _ => by rw [i7]; exact u 7 (by omega) (by omega))
      · by_cases kz : 6 ≤ k
        · unfold lnX
          rw [if_neg (show ¬ ccX (tokX B n S).1 (srX B n (tokX B n S)) = 0 by rw [hL1, e]; exact cc_yes (by omega) (Or.inr (Or.inr (Or.inr ⟨kz, by decide⟩)))), e]
          rw [hK]
          unfold lnM
          rw [if_neg (show ¬ nI k = 0 by rw [kk0]; omega), if_pos (show (4 : Int32) < nI k by rw [kk4]; omega), if_neg (show ¬ nI k = 5 by rw [kk5]; omega)]
          unfold otM
          rw [if_pos (show isM M.2.2.1 M.2.2.2.2.2.2.1 117 112 116 111 0 0 = 0 by rw [i3]; exact u 3 (by omega) (by omega)), if_neg (show ¬ isM M.2.2.1 M.2.2.2.2.2.2.1 114 97 116 101 0 0 = 0 by rw [i5]; exact b)]
          have kc := hY.c2
          have cC : M.2.2.2.2.2.2.2 23 = nI (Z.2.2.1 2) := hY.cn.2.1.1
          have hx : haX Z (nI 5) = if nI (Z.2.2.1 2) < nI 6 then 0 else 1 := rfl
          rw [hx]
          by_cases full : Z.2.2.1 2 < 6
          · rw [if_pos (show (if nI (Z.2.2.1 2) < nI 6 then 0 else 1 : Int32) = 0 by rw [if_pos (nI_lt full (by omega))])]
            exact ln_rate h sy hM hL1 kz hR (by rw [cC]; exact fun z => by have := nI_inj (b := 6) z (by omega) (by omega); omega)
          · rw [if_neg (show ¬ (if nI (Z.2.2.1 2) < nI 6 then 0 else 1 : Int32) = 0 by rw [if_neg (nI_nlt (by omega) (by omega))]; decide)]
            unfold two2M
            rw [if_pos (by rw [cC, show Z.2.2.1 2 = 6 by omega]; rfl)]
            exact lo_word hs.1.1 3 (by decide) (fun z => by rw [q1] at z; exact absurd z (by decide))
        · refine ln_none hs hL hk e (fun _ => by decide) (fun _ _ => by decide) (fun _ => by decide) (fun z => absurd z kz) ?_
          rw [hK]
          exact lnM_none (fun _ => by rw [i0]; exact u 0 (by omega) (by omega)) (fun _ => by rw [i1]; exact u 1 (by omega) (by omega)) (fun _ => by rw [i2]; exact u 2 (by omega) (by omega)) (fun _ => by rw [i3]; exact u 3 (by omega) (by omega)) (fun _ => by rw [i4]; exact u 4 (by omega) (by omega)) (fun z => absurd z (by rw [kk4, kk5]; omega)) (fun _ => by rw [i6]; exact u 6 (by omega) (by omega)) (fun _ => by rw [i7]; exact u 7 (by omega) (by omega))
      · by_cases kz : 6 ≤ k
        · unfold lnX
          rw [if_neg (show ¬ ccX (tokX B n S).1 (srX B n (tokX B n S)) = 0 by rw [hL1, e]; exact cc_yes (by omega) (Or.inr (Or.inr (Or.inr ⟨kz, by decide⟩)))), e]
          rw [hK]
          unfold lnM
          rw [if_neg (show ¬ nI k = 0 by rw [kk0]; omega), if_pos (show (4 : Int32) < nI k by rw [kk4]; omega), if_neg (show ¬ nI k = 5 by rw [kk5]; omega)]
          unfold otM
          rw [if_pos (show isM M.2.2.1 M.2.2.2.2.2.2.1 117 112 116 111 0 0 = 0 by rw [i3]; exact u 3 (by omega) (by omega)), if_pos (show isM M.2.2.1 M.2.2.2.2.2.2.1 114 97 116 101 0 0 = 0 by rw [i5]; exact u 5 (by omega) (by omega)), if_neg (show ¬ isM M.2.2.1 M.2.2.2.2.2.2.1 105 110 99 111 109 101 = 0 by rw [i6]; exact b)]
          have kc := hR.2.2.1
          have cC : M.2.2.2.2.2.2.2 36 = nI (Z.2.2.1 3) := hY.cn.2.2.1.1
          have hx : haX Z (nI 6) = if nI (Z.2.2.1 3) < nI 20 then 0 else 1 := rfl
          rw [hx]
          by_cases full : Z.2.2.1 3 < 20
          · rw [if_pos (show (if nI (Z.2.2.1 3) < nI 20 then 0 else 1 : Int32) = 0 by rw [if_pos (nI_lt full (by omega))])]
            exact ln_income h sy hM hL1 kz hR (by rw [cC]; exact fun z => by have := nI_inj (b := 20) z (by omega) (by omega); omega)
          · rw [if_neg (show ¬ (if nI (Z.2.2.1 3) < nI 20 then 0 else 1 : Int32) = 0 by rw [if_neg (nI_nlt (by omega) (by omega))]; decide)]
            unfold two2M
            rw [if_pos (by rw [cC, show Z.2.2.1 3 = 20 by omega]; rfl)]
            exact lo_word hs.1.1 3 (by decide) (fun z => by rw [q1] at z; exact absurd z (by decide))
        · refine ln_none hs hL hk e (fun _ => by decide) (fun _ _ => by decide) (fun _ => by decide) (fun z => absurd z kz) ?_
          rw [hK]
          exact lnM_none (fun _ => by rw [i0]; exact u 0 (by omega) (by omega)) (fun _ => by rw [i1]; exact u 1 (by omega) (by omega)) (fun _ => by rw [i2]; exact u 2 (by omega) (by omega)) (fun _ => by rw [i3]; exact u 3 (by omega) (by omega)) (fun _ => by rw [i4]; exact u 4 (by omega) (by omega)) (fun _ => by rw [i5]; exact u 5 (by omega) (by omega)) (fun z => absurd z (by rw [kk4, kk5]; omega)) (fun _ => by rw [i7]; exact u 7 (by omega) (by omega))
      · by_cases kz : 6 ≤ k
        · unfold lnX
          rw [if_neg (show ¬ ccX (tokX B n S).1 (srX B n (tokX B n S)) = 0 by rw [hL1, e]; exact cc_yes (by omega) (Or.inr (Or.inr (Or.inr ⟨kz, by decide⟩)))), e]
          rw [hK]
          unfold lnM
          rw [if_neg (show ¬ nI k = 0 by rw [kk0]; omega), if_pos (show (4 : Int32) < nI k by rw [kk4]; omega), if_neg (show ¬ nI k = 5 by rw [kk5]; omega)]
          unfold otM
          rw [if_pos (show isM M.2.2.1 M.2.2.2.2.2.2.1 117 112 116 111 0 0 = 0 by rw [i3]; exact u 3 (by omega) (by omega)), if_pos (show isM M.2.2.1 M.2.2.2.2.2.2.1 114 97 116 101 0 0 = 0 by rw [i5]; exact u 5 (by omega) (by omega)), if_pos (show isM M.2.2.1 M.2.2.2.2.2.2.1 105 110 99 111 109 101 = 0 by rw [i6]; exact u 6 (by omega) (by omega)), if_neg (show ¬ isM M.2.2.1 M.2.2.2.2.2.2.1 112 97 121 0 0 0 = 0 by rw [i7]; exact b)]
          have kc := hR.2.2.2.1
          have cC : M.2.2.2.2.2.2.2 117 = nI (Z.2.2.1 4) := hY.cn.2.2.2.1.1
          have hx : haX Z (nI 7) = if nI (Z.2.2.1 4) < nI 20 then 0 else 1 := rfl
          rw [hx]
          by_cases full : Z.2.2.1 4 < 20
          · rw [if_pos (show (if nI (Z.2.2.1 4) < nI 20 then 0 else 1 : Int32) = 0 by rw [if_pos (nI_lt full (by omega))])]
            exact ln_pay h sy hM hL1 kz hR (by rw [cC]; exact fun z => by have := nI_inj (b := 20) z (by omega) (by omega); omega)
          · rw [if_neg (show ¬ (if nI (Z.2.2.1 4) < nI 20 then 0 else 1 : Int32) = 0 by rw [if_neg (nI_nlt (by omega) (by omega))]; decide)]
            unfold two2M
            rw [if_pos (by rw [cC, show Z.2.2.1 4 = 20 by omega]; rfl)]
            exact lo_word hs.1.1 3 (by decide) (fun z => by rw [q1] at z; exact absurd z (by decide))
        · refine ln_none hs hL hk e (fun _ => by decide) (fun _ _ => by decide) (fun _ => by decide) (fun z => absurd z kz) ?_
          rw [hK]
          exact lnM_none (fun _ => by rw [i0]; exact u 0 (by omega) (by omega)) (fun _ => by rw [i1]; exact u 1 (by omega) (by omega)) (fun _ => by rw [i2]; exact u 2 (by omega) (by omega)) (fun _ => by rw [i3]; exact u 3 (by omega) (by omega)) (fun _ => by rw [i4]; exact u 4 (by omega) (by omega)) (fun _ => by rw [i5]; exact u 5 (by omega) (by omega)) (fun _ => by rw [i6]; exact u 6 (by omega) (by omega)) (fun z => absurd z (by rw [kk4, kk5]; omega))
  · have ns : ¬ M.2.2.1 = 2 := fun z => by
      rcases hs.1.2 with ⟨_, a | a⟩ | ⟨_, a, _⟩ | ⟨a, _⟩ | ⟨_, a, _⟩ | ⟨_, a⟩
      · rw [z] at a; exact absurd a.1 (by decide)
      · rw [z] at a; exact absurd a.1 (by decide)
      · rw [z] at a; exact absurd a (by decide)
      · exact c a
      · rw [z] at a; exact absurd a (by decide)
      · rw [z] at a; exact absurd a (by decide)
    refine ln_none hs hL hk (s := -1) (by unfold srX; rw [if_neg c]) (fun _ => by decide) (fun _ _ => by decide) (fun _ => by decide) (fun _ => by decide) ?_
    rw [hK]
    exact lnM_none (fun _ => isM_no ns _ _ _ _ _ _) (fun _ => isM_no ns _ _ _ _ _ _) (fun _ => isM_no ns _ _ _ _ _ _) (fun _ => isM_no ns _ _ _ _ _ _) (fun _ => isM_no ns _ _ _ _ _ _) (fun _ => isM_no ns _ _ _ _ _ _) (fun _ => isM_no ns _ _ _ _ _ _) (fun _ => isM_no ns _ _ _ _ _ _)
end TEXT
def TRes (D : XSt × DYt) (x : Int32 × MSt × Bool) : Prop :=
  (x.2.2 = true ∧ D.1.2.1 = 0 ∧ x.1 = nI D.1.1 ∧ YR D.2.1 D.2.2.1 D.2.2.2.1 D.2.2.2.2 x.2.1.2.2.2.2.2.2.2 ∧ x.2.1.2.2.2.2.1 = 0) ∨ (x.2.2 = false ∧ D.1.2.1 = x.2.1.2.2.2.2.1 ∧ ¬ D.1.2.1 = 0 ∧ x.1 = -1 - nI D.1.2.2.1)
theorem rd_stop {B : Nat → Int32} {n : Nat} {S : XSt} {Z : DYt} (h : ¬ S.2.1 = 0) : ∀ m, rdX B n m S Z = (S, Z)
  | 0 => rfl
  | m + 1 => by rw [rdX_s, if_neg h]
theorem tok_ns {B : Nat → Int32} {n : Nat} {S : XSt} (h : ¬ (tokX B n S).2.2.2.2.2.1 = 0) : S.2.2.2.1 < 800 := by
  have hst := stoX_le n
  have t1 := toP_in (B := B) (n := n) (p := S.2.2.2.1)
  by_cases c : toP B n S.2.2.2.1 < stoX n
  · omega
  · unfold tokX at h
    rw [if_neg c] at h
    exact absurd rfl h
theorem text_loop {B T : Nat → Int32} {n : Nat} (h : TRl B T n) : ∀ (m k f : Nat) (S : XSt) (M : MSt) (Z : DYt), m + k = 801 → SY B n S M → S.1 = k → LR k Z M.2.2.2.2.2.2.2 → M.2.2.2.2.1 = 0 → k ≤ S.2.2.2.1 → k ≤ 800 → n + 1 - M.1 ≤ f → S.2.2.2.1 ≤ M.1 → TRes (rdX B n m S Z) (txM T n f M k)
  | 0, k, f, S, M, Z, hmk, _, _, _, _, _, hk, _, _ => by omega
  | m + 1, k, 0, S, M, Z, _, hs, _, _, _, _, _, hf, _ => by have := hs.2.1; omega
  | m + 1, k, f + 1, S, M, Z, hmk, hs, hL, hR, hM, hkp, hk, hf, hpm => by
    have hn8 := h.1
    obtain ⟨tl, tf, tn⟩ := tok_L B n S
    have hK := lnK_eq (T := T) (n := n) (k := k) hR.1
    have kk0 : nI k ≤ 0 ↔ k = 0 := ⟨fun z => by have := (nI_leI (b := 0) (by omega) (by omega)).mp z; omega, fun z => by rw [z]; decide⟩
    have kk6 : 6 ≤ nI k ↔ 6 ≤ k := ⟨fun z => ge_nI (b := 6) z (by omega) (by omega), fun z => nI_le (a := 6) z (by omega)⟩
    rw [rdX_s, if_pos hs.2.2, txM_s]
    by_cases ht : (tokX B n S).2.2.2.2.2.1 = 0
    · rw [if_pos ht]
      have bad : ¬ M.2.2.1 = 2 → ¬ (M.2.2.1 = 0 ∧ (nI k ≤ 0 ∨ 6 ≤ nI k)) → csX9 (tokX B n S) n = failX (tokX B n S) 1 → TRes (csX9 (tokX B n S) n, Z) (if M.2.2.1 = 0 ∧ (nI k ≤ 0 ∨ 6 ≤ nI k) then (nI k, M, true) else if (lnK T n M k).1 = 0 then (-1 - (lnK T n M k).2.2.2.2.2.2.1, (lnK T n M k).2, false) else if (endM T n (lnK T n M k).2).1 = 0 then (-1 - (endM T n (lnK T n M k).2).2.2.2.2.2.2.1, (endM T n (lnK T n M k).2).2, false) else txM T n f (endM T n (lnK T n M k).2).2 (k + 1)) := by
        intro ns hc hd
        have el : lnK T n M k = (0, badM M 1) := by
          rw [hK]
          exact lnM_none (fun _ => isM_no ns _ _ _ _ _ _) (fun _ => isM_no ns _ _ _ _ _ _) (fun _ => isM_no ns _ _ _ _ _ _) (fun _ => isM_no ns _ _ _ _ _ _) (fun _ => isM_no ns _ _ _ _ _ _) (fun _ => isM_no ns _ _ _ _ _ _) (fun _ => isM_no ns _ _ _ _ _ _) (fun _ => isM_no ns _ _ _ _ _ _)
        rw [if_neg hc, el, if_pos rfl, hd]
        refine Or.inr ⟨rfl, ?_, by show ¬ (1 : Int32) = 0; decide, ?_⟩
        · show (1 : Int32) = if M.2.2.1 = 1 then 1 else 1
          rw [ite_self]
        · show -1 - nI M.2.1 = -1 - nI (tokX B n S).2.2.2.2.1
          rw [hs.1.1]
      have two : (M.2.2.1 = 0 ∧ n ≤ 800) ∨ (M.2.2.1 = 1 ∧ 800 < n) := by
        rcases hs.1.2 with ⟨_, a⟩ | ⟨a, _⟩ | ⟨a, _⟩ | ⟨a, _⟩ | ⟨a, _⟩
        · exact a
        · rw [ht] at a; exact absurd a (by decide)
        · rw [ht] at a; exact absurd a (by decide)
        · rw [ht] at a; exact absurd a (by decide)
        · rw [ht] at a; exact absurd a (by decide)
      rcases two with ⟨a, b⟩ | ⟨a, b⟩
      · have n8 : nI n ≤ 800 := nI_le (b := 800) b (by omega)
        by_cases c : nI k ≤ 0 ∨ 6 ≤ nI k
        · rw [if_pos (And.intro a c)]
          have cs : csX9 (tokX B n S) n = tokX B n S := by
            unfold csX9
            rw [if_pos n8, tl, hL]
            rcases c with c | c
            · rw [if_pos c]
            · by_cases c0 : nI k ≤ 0
              · rw [if_pos c0]
              · rw [if_neg c0, if_pos c]
          rw [cs]
          exact Or.inl ⟨rfl, by show (tokX B n S).2.1 = 0; rw [tf]; exact hs.2.2, by show nI k = nI (tokX B n S).1; rw [tl, hL], hR.1, hM⟩
        · refine bad (by rw [a]; decide) (fun z => c z.2) ?_
          unfold csX9
          rw [if_pos n8, tl, hL, if_neg (fun z => c (Or.inl z)), if_neg (fun z => c (Or.inr z))]
      · refine bad (by rw [a]; decide) (fun z => by rw [a] at z; exact absurd z.1 (by decide)) ?_
        unfold csX9
        rw [if_neg (show ¬ nI n ≤ 800 from nI_ge (a := 800) b (by omega))]
    · rw [if_neg ht]
      have hp8 := tok_ns ht
      have ns0 : ¬ (M.2.2.1 = 0 ∧ (nI k ≤ 0 ∨ 6 ≤ nI k)) := fun z => by
        rcases hs.1.2 with ⟨a, _⟩ | ⟨_, a, _⟩ | ⟨_, a, _⟩ | ⟨_, a, _⟩ | ⟨_, a⟩
        · exact ht a
        · rw [a] at z; exact absurd z.1 (by decide)
        · rw [a] at z; exact absurd z.1 (by decide)
        · rw [a] at z; exact absurd z.1 (by decide)
        · rw [a] at z; exact absurd z.1 (by decide)
      rw [if_neg ns0]
      rcases line_eq h hs hL hk hM hR ht with ⟨a, f1⟩ | ⟨a, b, f1⟩ | ⟨a, b, sy, l, r, ff, pp⟩
      · rw [if_pos a, rd_stop f1.2.1]
        exact Or.inr ⟨rfl, f1.1, f1.2.1, by show -1 - (lnK T n M k).2.2.2.2.2.2.1 = _; rw [f1.2.2]⟩
      · rw [if_neg a, if_pos b, rd_stop f1.2.1]
        exact Or.inr ⟨rfl, f1.1, f1.2.1, by show -1 - (endM T n (lnK T n M k).2).2.2.2.2.2.2.1 = _; rw [f1.2.2]⟩
      · rw [if_neg a, if_neg b]
        have es := endM_sig b
        have ls := lnM_sig (T := T) (n := n) (k := k) (S := M) a es.1
        have ls : M.1 < (lnK T n M k).2.1 := ls
        exact text_loop h m (k + 1) f _ _ _ (by omega) sy l r ff (by omega) (by omega) (by omega) (by omega)
theorem text_eq {B T : Nat → Int32} {n : Nat} (h : TRl B T n) (S : XSt) (Z : DYt) (fmN : Nat) (so nu plc : Int32) (wd : Int64) (Rr : Nat → Int32) : TRes (reX B n S Z) (txM T n (n + 1) (goM T n (0, fmN, so, nu, 0, plc, wd, ov (fun _ => 0) Rr 240)) 0) := by
  have hz : ∀ j, j < 240 → ov (fun _ => (0 : Int32)) Rr 240 j = 0 := fun j hj => ov_lt hj
  refine text_loop h 801 0 (n + 1) _ _ _ rfl ⟨tok_eq h rfl (Nat.zero_le _), goM_le (Nat.zero_le _), rfl⟩ rfl ?_ (goM_F T n _) (Nat.zero_le _) (by omega) (by omega) (Nat.zero_le _)
  rw [goM_read]
  refine ⟨YR_zero hz, rfl, by show 0 ≤ 20; omega, by show 0 ≤ 20; omega, Or.inl ⟨rfl, ?_⟩⟩
  show ov (fun _ => (0 : Int32)) Rr 240 22 ≤ 0
  rw [hz 22 (by omega)]; decide
