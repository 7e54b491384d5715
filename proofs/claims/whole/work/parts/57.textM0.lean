def cntR (R : Nat → Int32) : Prop := ∃ s0 r0 e0 p0 : Nat, R 13 = nI s0 ∧ s0 ≤ 4 ∧ R 23 = nI r0 ∧ r0 ≤ 6 ∧ R 36 = nI e0 ∧ e0 ≤ 20 ∧ R 117 = nI p0 ∧ p0 ≤ 20
theorem cntR_upd {R : Nat → Int32} {A : Nat} {v : Int32} (h : cntR R) (h1 : A ≠ 13) (h2 : A ≠ 23) (h3 : A ≠ 36) (h4 : A ≠ 117) : cntR (upd R A v) := by
  obtain ⟨s0, r0, e0, p0, a, a1, b, b1, c, c1, d, d1⟩ := h
  exact ⟨s0, r0, e0, p0, (upd_ne (Ne.symm h1)).trans a, a1, (upd_ne (Ne.symm h2)).trans b, b1, (upd_ne (Ne.symm h3)).trans c, c1, (upd_ne (Ne.symm h4)).trans d, d1⟩
theorem badM_read (S : MSt) (w : Int32) : (badM S w).2.2.2.2.2.2.2 = S.2.2.2.2.2.2.2 := rfl
theorem toldM_read {T : Nat → Int32} {n A : Nat} {S : MSt} {lo hi : Int32} (h0 : ¬ (toldM T n S A lo hi).1 = 0) : (toldM T n S A lo hi).2.2.2.2.2.2.2.2 = upd S.2.2.2.2.2.2.2 A S.2.2.2.1 := by
  by_cases h1 : S.2.2.1 = 3
  · by_cases h2 : isInM S.2.2.2.1 lo hi = 0
    · unfold toldM at h0; rw [if_pos h1, if_pos h2] at h0; exact absurd rfl h0
    · unfold toldM; rw [if_pos h1, if_neg h2]
      exact goM_read T n (setR S A S.2.2.2.1)
  · unfold toldM at h0; rw [if_neg h1] at h0; exact absurd rfl h0
theorem twM_read {T : Nat → Int32} {n A B : Nat} {S : MSt} {lo hi lo2 hi2 : Int32} (h0 : ¬ (twM T n S A lo hi B lo2 hi2).1 = 0) : ∃ v w : Int32, (twM T n S A lo hi B lo2 hi2).2.2.2.2.2.2.2.2 = upd (upd S.2.2.2.2.2.2.2 A v) B w := by
  by_cases h1 : (toldM T n S A lo hi).1 = 0
  · rw [twM_1 h1] at h0; exact absurd rfl h0
  · by_cases h2 : (toldM T n (toldM T n S A lo hi).2 B lo2 hi2).1 = 0
    · rw [twM_2 h1 h2] at h0; exact absurd rfl h0
    · rw [twM_3 h1 h2]
      exact ⟨_, _, (toldM_read h2).trans (by rw [toldM_read h1])⟩
theorem cntR_tw {T : Nat → Int32} {n A B : Nat} {S : MSt} {lo hi lo2 hi2 : Int32} (h : cntR S.2.2.2.2.2.2.2) (h0 : ¬ (twM T n (goM T n S) A lo hi B lo2 hi2).1 = 0) (ha : A ≠ 13 ∧ A ≠ 23 ∧ A ≠ 36 ∧ A ≠ 117) (hb : B ≠ 13 ∧ B ≠ 23 ∧ B ≠ 36 ∧ B ≠ 117) : cntR (twM T n (goM T n S) A lo hi B lo2 hi2).2.2.2.2.2.2.2.2 := by
  obtain ⟨v, w, e⟩ := twM_read h0
  rw [e, goM_read]
  exact cntR_upd (cntR_upd h ha.1 ha.2.1 ha.2.2.1 ha.2.2.2) hb.1 hb.2.1 hb.2.2.1 hb.2.2.2
