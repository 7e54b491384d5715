def lnK (T : Nat → Int32) (n : Nat) (S : MSt) (k : Nat) : Int32 × MSt := lnM T n S k (S.2.2.2.2.2.2.2 13).toNatClampNeg (S.2.2.2.2.2.2.2 23).toNatClampNeg (S.2.2.2.2.2.2.2 36).toNatClampNeg (S.2.2.2.2.2.2.2 117).toNatClampNeg
/-- the lines of a text, from line k on: the answer, what stands then, whether it is without a fault -/
def txM (T : Nat → Int32) (n : Nat) : Nat → MSt → Nat → Int32 × MSt × Bool
  | 0, S, _ => (0, S, false)
  | f + 1, S, k => if S.2.2.1 = 0 ∧ (nI k ≤ 0 ∨ 6 ≤ nI k) then (nI k, S, true)
    else if (lnK T n S k).1 = 0 then (-1 - (lnK T n S k).2.2.2.2.2.2.1, (lnK T n S k).2, false)
    else if (endM T n (lnK T n S k).2).1 = 0 then (-1 - (endM T n (lnK T n S k).2).2.2.2.2.2.2.1, (endM T n (lnK T n S k).2).2, false)
    else txM T n f (endM T n (lnK T n S k).2).2 (k + 1)
theorem txM_s (T : Nat → Int32) (n f : Nat) (S : MSt) (k : Nat) : txM T n (f + 1) S k = if S.2.2.1 = 0 ∧ (nI k ≤ 0 ∨ 6 ≤ nI k) then (nI k, S, true)
    else if (lnK T n S k).1 = 0 then (-1 - (lnK T n S k).2.2.2.2.2.2.1, (lnK T n S k).2, false)
    else if (endM T n (lnK T n S k).2).1 = 0 then (-1 - (endM T n (lnK T n S k).2).2.2.2.2.2.2.1, (endM T n (lnK T n S k).2).2, false)
    else txM T n f (endM T n (lnK T n S k).2).2 (k + 1) := rfl
theorem txM_more {T : Nat → Int32} {n : Nat} : ∀ {f g : Nat} {S : MSt} {k : Nat}, n + 1 - S.1 ≤ f → n + 1 - S.1 ≤ g → S.1 ≤ n → (∀ S k, S.1 ≤ n → (lnK T n S k).2.1 ≤ n) → txM T n f S k = txM T n g S k
  | 0, g, S, k, hf, _, hS, _ => by omega
  | f + 1, 0, S, k, _, hg, hS, _ => by omega
  | f + 1, g + 1, S, k, hf, hg, hS, hl => by
    rw [txM_s, txM_s]
    by_cases h1 : S.2.2.1 = 0 ∧ (nI k ≤ 0 ∨ 6 ≤ nI k)
    · rw [if_pos h1, if_pos h1]
    · rw [if_neg h1, if_neg h1]
      by_cases h2 : (lnK T n S k).1 = 0
      · rw [if_pos h2, if_pos h2]
      · rw [if_neg h2, if_neg h2]
        by_cases h3 : (endM T n (lnK T n S k).2).1 = 0
        · rw [if_pos h3, if_pos h3]
        · rw [if_neg h3, if_neg h3]
          have he := endM_sig h3
          have hs : S.1 < (lnK T n S k).2.1 := lnM_sig h2 he.1
          have hle : (endM T n (lnK T n S k).2).2.1 ≤ n := by
            have := hl S k hS
            by_cases h4 : (lnK T n S k).2.2.2.1 = 4
            · unfold endM; rw [if_pos h4]; exact goM_le this
            · unfold endM; rw [if_neg h4]; exact this
          exact txM_more (by omega) (by omega) hle hl
theorem two2M_le {T : Nat → Int32} {n C c0 : Nat} {S : MSt} {m a b c d : Int32} (h : S.1 ≤ n) : (two2M T n S C c0 m a b c d).2.1 ≤ n := by
  unfold two2M
  split
  · exact h
  · split
    · exact twM_le (goM_le h)
    · exact twM_le (S := goM T n S) (goM_le h)
theorem lnM_le {T : Nat → Int32} {n k s0 r0 e0 p0 : Nat} {S : MSt} (h : S.1 ≤ n) : (lnM T n S k s0 r0 e0 p0).2.1 ≤ n := by
  unfold lnM
  split
  · unfold yM
    split
    · exact h
    · split
      · exact toldM_le (goM_le h)
      · split
        · exact toldM_le (toldM_le (goM_le h))
        · split
          · exact toldM_le (toldM_le (toldM_le (goM_le h)))
          · exact toldM_le (toldM_le (toldM_le (goM_le h)))
  · split
    · split
      · unfold shM
        split
        · exact h
        · exact twM_le (goM_le h)
      · unfold otM
        split
        · split
          · split
            · split
              · split
                · exact h
                · split
                  · unfold ovM
                    split
                    · exact toldM_le (goM_le h)
                    · exact toldM_le (S := goM T n S) (goM_le h)
                  · exact h
              · exact two2M_le h
            · exact two2M_le h
          · exact two2M_le h
        · exact two2M_le h
    · unfold perM
      split
      · exact h
      · exact twM_le (goM_le h)
theorem endM_le {T : Nat → Int32} {n : Nat} {S : MSt} (h : S.1 ≤ n) : (endM T n S).2.1 ≤ n := by
  by_cases h4 : S.2.2.1 = 4
  · unfold endM; rw [if_pos h4]; exact goM_le h
  · unfold endM; rw [if_neg h4]; exact h
theorem cntR_0 (R : Nat → Int32) : cntR (ov (fun _ => 0) R 240) := ⟨0, 0, 0, 0, rfl, by omega, rfl, by omega, rfl, by omega, rfl, by omega⟩
