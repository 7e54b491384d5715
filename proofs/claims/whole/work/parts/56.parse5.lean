theorem goP_ge (T : Nat → Int32) (n p : Nat) : p ≤ goP T n p := bl_ge _ _ _
theorem goM_ge (T : Nat → Int32) (n : Nat) (S : MSt) : S.1 ≤ (goM T n S).1 := by
  have hs := goP_ge T n S.1
  unfold goM
  split
  · exact hs
  · split
    · exact hs
    · split
      · exact Nat.le_succ_of_le hs
      · exact Nat.le_trans hs (bl_ge _ _ _)
theorem soM_ne4 (g L k : Int32) : ¬ soM g L k = 4 := by
  unfold soM
  split
  · decide
  · split
    · split <;> decide
    · decide
theorem goM_sig {T : Nat → Int32} {n : Nat} {S : MSt} (h : (goM T n S).2.2.1 = 4) : S.1 < (goM T n S).1 := by
  have hs := goP_ge T n S.1
  revert h
  unfold goM
  split
  · intro h; exact absurd h (show ¬ (1 : Int32) = 4 by decide)
  · split
    · intro h; exact absurd h (show ¬ (0 : Int32) = 4 by decide)
    · split
      · intro _; exact Nat.lt_succ_of_le hs
      · intro h; exact absurd h (soM_ne4 _ _ _)
theorem toldM_ge (T : Nat → Int32) (n A : Nat) (S : MSt) (lo hi : Int32) : S.1 ≤ (toldM T n S A lo hi).2.1 := by
  unfold toldM
  split
  · split
    · exact Nat.le_refl _
    · exact goM_ge T n (setR S A S.2.2.2.1)
  · exact Nat.le_refl _
theorem toldM_sig {T : Nat → Int32} {n A : Nat} {S : MSt} {lo hi : Int32} (h0 : ¬ (toldM T n S A lo hi).1 = 0) (h : (toldM T n S A lo hi).2.2.2.1 = 4) : S.1 < (toldM T n S A lo hi).2.1 := by
  revert h0 h
  unfold toldM
  split
  · split
    · intro h0; exact absurd rfl h0
    · intro _ h; exact goM_sig (S := setR S A S.2.2.2.1) h
  · intro h0; exact absurd rfl h0
theorem twM_sig {T : Nat → Int32} {n A B : Nat} {S : MSt} {lo hi lo2 hi2 : Int32} (h0 : ¬ (twM T n S A lo hi B lo2 hi2).1 = 0) (h : (twM T n S A lo hi B lo2 hi2).2.2.2.1 = 4) : S.1 < (twM T n S A lo hi B lo2 hi2).2.1 := by
  by_cases h1 : (toldM T n S A lo hi).1 = 0
  · rw [twM_1 h1] at h0; exact absurd rfl h0
  · by_cases h2 : (toldM T n (toldM T n S A lo hi).2 B lo2 hi2).1 = 0
    · rw [twM_2 h1 h2] at h0; exact absurd rfl h0
    · rw [twM_3 h1 h2] at h ⊢
      exact Nat.lt_of_le_of_lt (toldM_ge T n A S lo hi) (toldM_sig h2 h)
theorem twM_sig' {T : Nat → Int32} {n A B : Nat} {S : MSt} {lo hi lo2 hi2 : Int32} (h0 : ¬ (twM T n (goM T n S) A lo hi B lo2 hi2).1 = 0) (h : (twM T n (goM T n S) A lo hi B lo2 hi2).2.2.2.1 = 4) : S.1 < (twM T n (goM T n S) A lo hi B lo2 hi2).2.1 := Nat.lt_of_le_of_lt (goM_ge T n S) (twM_sig h0 h)
theorem two2M_sig {T : Nat → Int32} {n C c0 : Nat} {S : MSt} {m a b c d : Int32} (h0 : ¬ (two2M T n S C c0 m a b c d).1 = 0) (h : (two2M T n S C c0 m a b c d).2.2.2.1 = 4) : S.1 < (two2M T n S C c0 m a b c d).2.1 := by
  revert h0 h
  unfold two2M
  split
  · intro h0; exact absurd rfl h0
  · split
    · intro h0; exact absurd rfl h0
    · rename_i h1; intro _ h; exact twM_sig' h1 h
theorem lnM_sig {T : Nat → Int32} {n k s0 r0 e0 p0 : Nat} {S : MSt} (h0 : ¬ (lnM T n S k s0 r0 e0 p0).1 = 0) (h : (lnM T n S k s0 r0 e0 p0).2.2.2.1 = 4) : S.1 < (lnM T n S k s0 r0 e0 p0).2.1 := by
  revert h0 h
  unfold lnM
  split
  · unfold yM
    split
    · intro h0; exact absurd rfl h0
    · split
      · intro h0; exact absurd rfl h0
      · split
        · intro h0; exact absurd rfl h0
        · split
          · intro h0; exact absurd rfl h0
          · rename_i h1; intro _ h; exact Nat.lt_of_le_of_lt (Nat.le_trans (goM_ge T n S) (Nat.le_trans (toldM_ge T n 0 _ 0 99999) (toldM_ge T n 1 _ 0 99999))) (toldM_sig h1 h)
  · split
    · split
      · unfold shM
        split
        · intro h0; exact absurd rfl h0
        · intro h0 h; exact twM_sig' h0 h
      · unfold otM
        split
        · split
          · split
            · split
              · split
                · intro h0; exact absurd rfl h0
                · split
                  · unfold ovM
                    split
                    · intro h0; exact absurd rfl h0
                    · rename_i h1; intro _ h; exact Nat.lt_of_le_of_lt (goM_ge T n S) (toldM_sig h1 h)
                  · intro h0; exact absurd rfl h0
              · intro h0 h; exact two2M_sig h0 h
            · intro h0 h; exact two2M_sig h0 h
          · intro h0 h; exact two2M_sig h0 h
        · intro h0 h; exact two2M_sig h0 h
    · unfold perM
      split
      · intro h0; exact absurd rfl h0
      · intro h0 h; exact twM_sig' h0 h
theorem endM_sig {T : Nat → Int32} {n : Nat} {S : MSt} (h0 : ¬ (endM T n S).1 = 0) : S.2.2.1 = 4 ∧ S.1 ≤ (endM T n S).2.1 := by
  revert h0
  unfold endM
  split
  · rename_i h1; intro _; exact ⟨h1, goM_ge T n S⟩
  · intro h0; exact absurd rfl h0
