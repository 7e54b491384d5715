theorem two2M_read {T : Nat → Int32} {n C c0 : Nat} {S : MSt} {m x y z w : Int32} (h0 : ¬ (two2M T n S C c0 m x y z w).1 = 0) : ∃ v v2 : Int32, (two2M T n S C c0 m x y z w).2.2.2.2.2.2.2.2 = upd (upd (upd S.2.2.2.2.2.2.2 (C + 1 + 2 * c0) v) (C + 1 + 2 * c0 + 1) v2) C (upd (upd S.2.2.2.2.2.2.2 (C + 1 + 2 * c0) v) (C + 1 + 2 * c0 + 1) v2 C + 1) ∧ ¬ S.2.2.2.2.2.2.2 C = m := by
  by_cases h1 : S.2.2.2.2.2.2.2 C = m
  · unfold two2M at h0; rw [if_pos h1] at h0; exact absurd rfl h0
  · by_cases h2 : (twM T n (goM T n S) (C + 1 + 2 * c0) x y (C + 1 + 2 * c0 + 1) z w).1 = 0
    · unfold two2M at h0; rw [if_neg h1, if_pos h2] at h0; exact absurd rfl h0
    · obtain ⟨v, v2, e⟩ := twM_read h2
      refine ⟨v, v2, ?_, h1⟩
      unfold two2M
      rw [if_neg h1, if_neg h2]
      show upd _ C (_ + 1) = _
      rw [e, goM_read]
theorem cntR_13 {T : Nat → Int32} {n c0 : Nat} {S : MSt} {x y z w : Int32} (h : cntR S.2.2.2.2.2.2.2) (hc : S.2.2.2.2.2.2.2 13 = nI c0) (hl : c0 ≤ 4) (h0 : ¬ (two2M T n S 13 c0 4 x y z w).1 = 0) : cntR (two2M T n S 13 c0 4 x y z w).2.2.2.2.2.2.2.2 := by
  obtain ⟨v, v2, e, hne⟩ := two2M_read h0
  obtain ⟨s0, r0, e0, p0, a, a1, b, b1, c, c1, d, d1⟩ := h
  have hz : s0 = c0 := (nI_eq (by omega) (by omega)).mp (a.symm.trans hc)
  have hlt : ¬ c0 = 4 := fun z => hne (by rw [hc, z]; rfl)
  subst hz
  rw [e]
  exact ⟨s0 + 1, r0, e0, p0, by rw [upd_self, upd_ne (by omega), upd_ne (by omega), a, nI_1], by omega, by rw [upd_ne (by omega), upd_ne (by omega), upd_ne (by omega)]; exact b, b1, by rw [upd_ne (by omega), upd_ne (by omega), upd_ne (by omega)]; exact c, c1, by rw [upd_ne (by omega), upd_ne (by omega), upd_ne (by omega)]; exact d, d1⟩
theorem cntR_23 {T : Nat → Int32} {n c0 : Nat} {S : MSt} {x y z w : Int32} (h : cntR S.2.2.2.2.2.2.2) (hc : S.2.2.2.2.2.2.2 23 = nI c0) (hl : c0 ≤ 6) (h0 : ¬ (two2M T n S 23 c0 6 x y z w).1 = 0) : cntR (two2M T n S 23 c0 6 x y z w).2.2.2.2.2.2.2.2 := by
  obtain ⟨v, v2, e, hne⟩ := two2M_read h0
  obtain ⟨s0, r0, e0, p0, a, a1, b, b1, c, c1, d, d1⟩ := h
  have hz : r0 = c0 := (nI_eq (by omega) (by omega)).mp (b.symm.trans hc)
  have hlt : ¬ c0 = 6 := fun z => hne (by rw [hc, z]; rfl)
  subst hz
  rw [e]
  exact ⟨s0, r0 + 1, e0, p0, by rw [upd_ne (by omega), upd_ne (by omega), upd_ne (by omega)]; exact a, a1, by rw [upd_self, upd_ne (by omega), upd_ne (by omega), b, nI_1], by omega, by rw [upd_ne (by omega), upd_ne (by omega), upd_ne (by omega)]; exact c, c1, by rw [upd_ne (by omega), upd_ne (by omega), upd_ne (by omega)]; exact d, d1⟩
theorem cntR_36 {T : Nat → Int32} {n c0 : Nat} {S : MSt} {x y z w : Int32} (h : cntR S.2.2.2.2.2.2.2) (hc : S.2.2.2.2.2.2.2 36 = nI c0) (hl : c0 ≤ 20) (h0 : ¬ (two2M T n S 36 c0 20 x y z w).1 = 0) : cntR (two2M T n S 36 c0 20 x y z w).2.2.2.2.2.2.2.2 := by
  obtain ⟨v, v2, e, hne⟩ := two2M_read h0
  obtain ⟨s0, r0, e0, p0, a, a1, b, b1, c, c1, d, d1⟩ := h
  have hz : e0 = c0 := (nI_eq (by omega) (by omega)).mp (c.symm.trans hc)
  have hlt : ¬ c0 = 20 := fun z => hne (by rw [hc, z]; rfl)
  subst hz
  rw [e]
  exact ⟨s0, r0, e0 + 1, p0, by rw [upd_ne (by omega), upd_ne (by omega), upd_ne (by omega)]; exact a, a1, by rw [upd_ne (by omega), upd_ne (by omega), upd_ne (by omega)]; exact b, b1, by rw [upd_self, upd_ne (by omega), upd_ne (by omega), c, nI_1], by omega, by rw [upd_ne (by omega), upd_ne (by omega), upd_ne (by omega)]; exact d, d1⟩
theorem cntR_117 {T : Nat → Int32} {n c0 : Nat} {S : MSt} {x y z w : Int32} (h : cntR S.2.2.2.2.2.2.2) (hc : S.2.2.2.2.2.2.2 117 = nI c0) (hl : c0 ≤ 20) (h0 : ¬ (two2M T n S 117 c0 20 x y z w).1 = 0) : cntR (two2M T n S 117 c0 20 x y z w).2.2.2.2.2.2.2.2 := by
  obtain ⟨v, v2, e, hne⟩ := two2M_read h0
  obtain ⟨s0, r0, e0, p0, a, a1, b, b1, c, c1, d, d1⟩ := h
  have hz : p0 = c0 := (nI_eq (by omega) (by omega)).mp (d.symm.trans hc)
  have hlt : ¬ c0 = 20 := fun z => hne (by rw [hc, z]; rfl)
  subst hz
  rw [e]
  exact ⟨s0, r0, e0, p0 + 1, by rw [upd_ne (by omega), upd_ne (by omega), upd_ne (by omega)]; exact a, a1, by rw [upd_ne (by omega), upd_ne (by omega), upd_ne (by omega)]; exact b, b1, by rw [upd_ne (by omega), upd_ne (by omega), upd_ne (by omega)]; exact c, c1, by rw [upd_self, upd_ne (by omega), upd_ne (by omega), d, nI_1], by omega⟩
theorem cntR_ln {T : Nat → Int32} {n k s0 r0 e0 p0 : Nat} {S : MSt} (h : cntR S.2.2.2.2.2.2.2) (hs0 : S.2.2.2.2.2.2.2 13 = nI s0) (hs1 : s0 ≤ 4) (hr0 : S.2.2.2.2.2.2.2 23 = nI r0) (hr1 : r0 ≤ 6) (he0 : S.2.2.2.2.2.2.2 36 = nI e0) (he1 : e0 ≤ 20) (hp0 : S.2.2.2.2.2.2.2 117 = nI p0) (hp1 : p0 ≤ 20) (hk : k ≤ 1000) (h0 : ¬ (lnM T n S k s0 r0 e0 p0).1 = 0) : cntR (lnM T n S k s0 r0 e0 p0).2.2.2.2.2.2.2.2 := by
  revert h0
  unfold lnM
  by_cases k0 : nI k = 0
  · rw [if_pos k0]
    unfold yM
    split
    · intro h0; exact absurd rfl h0
    · split
      · intro h0; exact absurd rfl h0
      · rename_i q1
        split
        · intro h0; exact absurd rfl h0
        · rename_i q2
          split
          · intro h0; exact absurd rfl h0
          · rename_i q3
            intro _
            show cntR (toldM T n _ 2 0 499).2.2.2.2.2.2.2.2
            rw [toldM_read q3, toldM_read q2, toldM_read q1, goM_read]
            exact cntR_upd (cntR_upd (cntR_upd h (by omega) (by omega) (by omega) (by omega)) (by omega) (by omega) (by omega) (by omega)) (by omega) (by omega) (by omega) (by omega)
  · rw [if_neg k0]
    by_cases k4 : 4 < nI k
    · rw [if_pos k4]
      by_cases k5 : nI k = 5
      · rw [if_pos k5]
        unfold shM
        split
        · intro h0; exact absurd rfl h0
        · intro h0; exact cntR_tw h h0 (by omega) (by omega)
      · rw [if_neg k5]
        unfold otM
        split
        · split
          · split
            · split
              · split
                · intro h0; exact absurd rfl h0
                · split
                  · unfold ovM
                    split
                    · intro h0; exact absurd rfl h0
                    · rename_i q1
                      intro _
                      show cntR (upd _ 22 _)
                      rw [toldM_read q1, goM_read]
                      exact cntR_upd (cntR_upd h (by omega) (by omega) (by omega) (by omega)) (by omega) (by omega) (by omega) (by omega)
                  · intro h0; exact absurd rfl h0
              · intro h0; exact cntR_117 h hp0 hp1 h0
            · intro h0; exact cntR_36 h he0 he1 h0
          · intro h0; exact cntR_23 h hr0 hr1 h0
        · intro h0; exact cntR_13 h hs0 hs1 h0
    · rw [if_neg k4]
      have hk4 : k ≤ 4 := ge_nI' (a := 4) (b := k) k4 (by omega) (by omega)
      unfold perM
      split
      · intro h0; exact absurd rfl h0
      · intro h0; exact cntR_tw h h0 (by omega) (by omega)
theorem cntR_end {T : Nat → Int32} {n : Nat} {S : MSt} (h : cntR S.2.2.2.2.2.2.2) (h0 : ¬ (endM T n S).1 = 0) : cntR (endM T n S).2.2.2.2.2.2.2.2 := by
  by_cases h1 : S.2.2.1 = 4
  · unfold endM; rw [if_pos h1]
    show cntR (goM T n S).2.2.2.2.2.2.2
    rw [goM_read]; exact h
  · unfold endM at h0; rw [if_neg h1] at h0; exact absurd rfl h0
