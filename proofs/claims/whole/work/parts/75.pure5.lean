/-! another day, another amount -/
theorem sumUp_updf {f g : Nat → Int32} {m d : Int32} {k : Nat} : ∀ n, sumUp (upd f k d) g m n = if k < n then sumUp f g m n - (if m < f k then 0 else g k) + (if m < d then 0 else g k) else sumUp f g m n
  | 0 => by rw [if_neg (Nat.not_lt_zero _)]; rfl
  | n + 1 => by
    unfold sumUp
    rw [sumUp_updf n]
    by_cases h : k = n
    · subst h
      rw [upd_self, if_neg (Nat.lt_irrefl _), if_pos (Nat.lt_succ_self _)]
      split <;> split <;> grind
    · rw [upd_ne (fun z => h z.symm)]
      by_cases h2 : k < n
      · rw [if_pos h2, if_pos (show k < n + 1 by omega)]
        generalize (if m < f k then 0 else g k) = u1
        generalize (if m < d then 0 else g k) = u2
        by_cases hm : m < f n
        · rw [if_pos hm, if_pos hm]
        · rw [if_neg hm, if_neg hm]; grind
      · rw [if_neg h2, if_neg (show ¬ k < n + 1 by omega)]
theorem sumUp_updg {f g : Nat → Int32} {m a : Int32} {k : Nat} : ∀ n, sumUp f (upd g k a) m n = if k < n then sumUp f g m n - (if m < f k then 0 else g k) + (if m < f k then 0 else a) else sumUp f g m n
  | 0 => by rw [if_neg (Nat.not_lt_zero _)]; rfl
  | n + 1 => by
    unfold sumUp
    rw [sumUp_updg n]
    by_cases h : k = n
    · subst h
      rw [upd_self, if_neg (Nat.lt_irrefl _), if_pos (Nat.lt_succ_self _)]
      split <;> grind
    · rw [upd_ne (fun z => h z.symm)]
      by_cases h2 : k < n
      · rw [if_pos h2, if_pos (show k < n + 1 by omega)]
        generalize (if m < f k then 0 else g k) = u1
        generalize (if m < f k then 0 else a) = u2
        by_cases hm : m < f n
        · rw [if_pos hm, if_pos hm]
        · rw [if_neg hm, if_neg hm]; grind
      · rw [if_neg h2, if_neg (show ¬ k < n + 1 by omega)]
theorem evF_upd (N : Nat → Int32) (C k : Nat) (d : Int32) : evF (upd N (C + 1 + 2 * k) d) C = upd (evF N C) k d := by
  funext j
  unfold evF upd
  by_cases h : j = k
  · rw [if_pos h, if_pos (by omega)]
  · rw [if_neg h, if_neg (by omega)]
theorem odF_updE (N : Nat → Int32) (C k : Nat) (d : Int32) : odF (upd N (C + 1 + 2 * k) d) C = odF N C := by
  funext j
  unfold odF upd
  rw [if_neg (by omega)]
theorem odF_upd (N : Nat → Int32) (C k : Nat) (d : Int32) : odF (upd N (C + 1 + 2 * k + 1) d) C = upd (odF N C) k d := by
  funext j
  unfold odF upd
  by_cases h : j = k
  · rw [if_pos h, if_pos (by omega)]
  · rw [if_neg h, if_neg (by omega)]
theorem evF_updO (N : Nat → Int32) (C k : Nat) (d : Int32) : evF (upd N (C + 1 + 2 * k + 1) d) C = evF N C := by
  funext j
  unfold evF upd
  rw [if_neg (by omega)]
def pdayN (f : Nat → Int32) (j : Nat) : Nat := (f j).toNatClampNeg
section MV
variable {Yf Yg : Nat → Nat → Int32} {Yc : Nat → Nat} {Yv N : Nat → Int32}
theorem YR.pday (h : YR Yf Yg Yc Yv N) : ∀ j, j < Yc 4 → Yf 4 j = nI (pdayN (Yf 4) j) ∧ pdayN (Yf 4) j ≤ 499 := fun j hj => rg_nI (b := 499) (by rw [(h.r4 j hj).1]; exact (h.g.2.2.2.2.2.2.2.1 j hj).1) (by omega)
/-- costs with a row that differs in one place of a payment -/
theorem YR.costs2 (h : YR Yf Yg Yc Yv N) (A : Nat) (v : Int32) (hA : 118 ≤ A ∧ A < 198) (X R Th In Pd Rt : Nat → Int32) (hX : ∀ j, j < 500 → X j = paM (upd N A v) (Yc 4) (Yc 5) (nI j) ∧ rg (X j) (-500000000) 500000000) : cssX X (ov (lrF (Yf 2) (Yg 2) (Yc 2)) R 500) (ov (thF (sbX Yf Yg Yc Yv) (Yv 13)) Th 4) (dueN N) (edN N) 4 = cwM (ov (inM (lsM (upd N A v) (Yc 1) (Yc 3) (upd N A v 239))) In 4) (ov (fun j => paM (upd N A v) (Yc 4) (Yc 5) (nI j)) Pd 500) (ov (fun j => raM (upd N A v) (Yc 2) (nI j)) Rt 500) (dueN N) (edN N) 0 0 4 := by
  have lo : ∀ j, j < 117 → upd N A v j = N j := fun j hj => upd_ne (by omega)
  rw [cssX_ov4, upd_ne (show 239 ≠ A by omega), h.b8]
  rw [cwM_ov h.ed.2 (fun p hp => (h.du p hp).2), cwM_cong (I := inM (lsM (upd N A v) (Yc 1) (Yc 3) (N 239))) (J := inM (lsM N (Yc 1) (Yc 3) (N 239))) (Pd := fun j => paM (upd N A v) (Yc 4) (Yc 5) (nI j)) (Pd2 := fun j => paM (upd N A v) (Yc 4) (Yc 5) (nI j)) (Rt := fun j => raM (upd N A v) (Yc 2) (nI j)) (Rt2 := fun j => raM N (Yc 2) (nI j)) (fun q hq => inM_cong (fun p hp => lsM_low lo h.c1 h.c3 _ hp) hq) (fun j hj => rfl) (fun j hj => raM_low lo h.c2 _) h.ed.2 (fun p hp => (h.du p hp).2) 4 (by omega)]
  refine css_cw (h.sbk h.b) (fun j hj => ?_) (fun j hj => ?_) h.ed.2 (fun p hp => (h.du p hp).2) 4 (by omega)
  · rw [ite_self, Int32.add_zero]; exact hX j hj
  · rw [ov_lt hj, h.lr hj]
theorem a_moved (h : YR Yf Yg Yc Yv N) (P R Th In Pd Rt : Nat → Int32) (k d : Int32) : (if hasX (Yc 4) k = 0 then -1 else if isInM d 0 499 = 0 then -1 else cssX (adF (adF (pdF Yf Yg Yc Yv P) (-(Yg 4 k.toNatClampNeg)) (pdayN (Yf 4) k.toNatClampNeg) 500) (Yg 4 k.toNatClampNeg) d.toNatClampNeg 500) (ov (lrF (Yf 2) (Yg 2) (Yc 2)) R 500) (ov (thF (sbX Yf Yg Yc Yv) (Yv 13)) Th 4) (dueN N) (edN N) 4)
    = if isInM k 0 (N 117 - 1) = 0 then -1 else if isInM d 0 499 = 0 then -1 else cwM (ov (inM (lsM (upd N (118 + 2 * k.toNatClampNeg) d) (Yc 1) (Yc 3) (upd N (118 + 2 * k.toNatClampNeg) d 239))) In 4) (ov (fun j => paM (upd N (118 + 2 * k.toNatClampNeg) d) (Yc 4) (Yc 5) (nI j)) Pd 500) (ov (fun j => raM (upd N (118 + 2 * k.toNatClampNeg) d) (Yc 2) (nI j)) Rt 500) (dueN N) (edN N) 0 0 4 := by
  have c4 := h.c4
  rw [← h.has k]
  by_cases c : hasX (Yc 4) k = 0
  · rw [if_pos c, if_pos c]
  · rw [if_neg c, if_neg c]
    by_cases cd : isInM d 0 499 = 0
    · rw [if_pos cd, if_pos cd]
    · rw [if_neg cd, if_neg cd]
      obtain ⟨q, hq, rfl⟩ := hasX_nI (by omega) c
      obtain ⟨t, ht, rfl⟩ := isInM_nI (n := 499) (by omega) cd
      rw [nI_clamp (by omega), nI_clamp (by omega)]
      refine h.costs2 (118 + 2 * q) (nI t) ⟨by omega, by omega⟩ _ R Th In Pd Rt (fun j hj => ?_)
      have hpd := h.pday q hq
      have er : evF N 117 q = nI (pdayN (Yf 4) q) := (h.r4 q hq).1.symm.trans hpd.1
      have eg : odF N 117 q = Yg 4 q := (h.r4 q hq).2.symm
      have g1 := (h.g.2.2.2.2.2.2.2.1 q hq).2
      rw [eg] at g1
      have base := h.par (nI j)
      have c5 := h.c5
      have ep : paM (upd N (118 + 2 * q) (nI t)) (Yc 4) (Yc 5) (nI j) = paM N (Yc 4) (Yc 5) (nI j) - (if nI j < nI (pdayN (Yf 4) q) then 0 else Yg 4 q) + (if nI j < nI t then 0 else Yg 4 q) := by
        unfold paM upM
        rw [show 118 + 2 * q = 117 + 1 + 2 * q by omega, evF_upd, odF_updE, sumUp_updf, if_pos hq, er, eg, upd_ne (by omega), show sumUp (evF (upd N (117 + 1 + 2 * q) (nI t)) 198) (odF (upd N (117 + 1 + 2 * q) (nI t)) 198) (nI j) (Yc 5) = sumUp (evF N 198) (odF N 198) (nI j) (Yc 5) from upM_cong (fun i hi => ⟨upd_ne (by omega), upd_ne (by omega)⟩)]
        grind
      have ex : adF (adF (pdF Yf Yg Yc Yv P) (-(Yg 4 q)) (pdayN (Yf 4) q) 500) (Yg 4 q) t 500 j = paM N (Yc 4) (Yc 5) (nI j) - (if nI j < nI (pdayN (Yf 4) q) then 0 else Yg 4 q) + (if nI j < nI t then 0 else Yg 4 q) := by
        unfold adF
        rw [pdF_clean hj, h.pd hj]
        by_cases h1 : pdayN (Yf 4) q ≤ j
        · rw [if_pos (And.intro h1 hj), if_neg (nI_nlt h1 (show j < 2 ^ 31 by omega))]
          by_cases h2 : t ≤ j
          · rw [if_pos (And.intro h2 hj), if_neg (nI_nlt h2 (show j < 2 ^ 31 by omega))]; grind
          · rw [if_neg (show ¬ (t ≤ j ∧ j < 500) by omega), if_pos (nI_lt (show j < t by omega) (by omega))]; grind
        · rw [if_neg (show ¬ (pdayN (Yf 4) q ≤ j ∧ j < 500) by omega), if_pos (nI_lt (show j < pdayN (Yf 4) q by omega) (by omega))]
          by_cases h2 : t ≤ j
          · rw [if_pos (And.intro h2 hj), if_neg (nI_nlt h2 (show j < 2 ^ 31 by omega))]; grind
          · rw [if_neg (show ¬ (t ≤ j ∧ j < 500) by omega), if_pos (nI_lt (show j < t by omega) (by omega))]; grind
      refine ⟨ex.trans ep.symm, ?_⟩
      rw [ex]
      have z0 : (0 : Int32).toInt = 0 := rfl
      have k1 : rg (if nI j < nI (pdayN (Yf 4) q) then 0 else Yg 4 q) 0 99999 := by
        split
        · exact ⟨by rw [z0]; omega, by rw [z0]; omega⟩
        · exact g1
      have k2 : rg (if nI j < nI t then 0 else Yg 4 q) 0 99999 := by
        split
        · exact ⟨by rw [z0]; omega, by rw [z0]; omega⟩
        · exact g1
      generalize (if nI j < nI (pdayN (Yf 4) q) then 0 else Yg 4 q) = u1 at k1
      generalize (if nI j < nI t then 0 else Yg 4 q) = u2 at k2
      have s1 : (paM N (Yc 4) (Yc 5) (nI j) - u1).toInt = (paM N (Yc 4) (Yc 5) (nI j)).toInt - u1.toInt := i32s (by omega) (by omega)
      have s2 : (paM N (Yc 4) (Yc 5) (nI j) - u1 + u2).toInt = (paM N (Yc 4) (Yc 5) (nI j)).toInt - u1.toInt + u2.toInt := by rw [i32a (by rw [s1]; omega) (by rw [s1]; omega), s1]
      exact ⟨by rw [s2]; omega, by rw [s2]; omega⟩
theorem a_were (h : YR Yf Yg Yc Yv N) (P R Th In Pd Rt : Nat → Int32) (k a : Int32) : (if hasX (Yc 4) k = 0 then -1 else if isInM a 0 99999 = 0 then -1 else cssX (adF (pdF Yf Yg Yc Yv P) (a - Yg 4 k.toNatClampNeg) (pdayN (Yf 4) k.toNatClampNeg) 500) (ov (lrF (Yf 2) (Yg 2) (Yc 2)) R 500) (ov (thF (sbX Yf Yg Yc Yv) (Yv 13)) Th 4) (dueN N) (edN N) 4)
    = if isInM k 0 (N 117 - 1) = 0 then -1 else if isInM a 0 99999 = 0 then -1 else cwM (ov (inM (lsM (upd N (118 + 2 * k.toNatClampNeg + 1) a) (Yc 1) (Yc 3) (upd N (118 + 2 * k.toNatClampNeg + 1) a 239))) In 4) (ov (fun j => paM (upd N (118 + 2 * k.toNatClampNeg + 1) a) (Yc 4) (Yc 5) (nI j)) Pd 500) (ov (fun j => raM (upd N (118 + 2 * k.toNatClampNeg + 1) a) (Yc 2) (nI j)) Rt 500) (dueN N) (edN N) 0 0 4 := by
  have c4 := h.c4
  rw [← h.has k]
  by_cases c : hasX (Yc 4) k = 0
  · rw [if_pos c, if_pos c]
  · rw [if_neg c, if_neg c]
    by_cases cd : isInM a 0 99999 = 0
    · rw [if_pos cd, if_pos cd]
    · rw [if_neg cd, if_neg cd]
      obtain ⟨q, hq, rfl⟩ := hasX_nI (by omega) c
      have ga : rg a 0 99999 := isInM_rg cd
      rw [nI_clamp (by omega)]
      refine h.costs2 (118 + 2 * q + 1) a ⟨by omega, by omega⟩ _ R Th In Pd Rt (fun j hj => ?_)
      have hpd := h.pday q hq
      have er : evF N 117 q = nI (pdayN (Yf 4) q) := (h.r4 q hq).1.symm.trans hpd.1
      have eg : odF N 117 q = Yg 4 q := (h.r4 q hq).2.symm
      have g1 := (h.g.2.2.2.2.2.2.2.1 q hq).2
      rw [eg] at g1
      have base := h.par (nI j)
      have c5 := h.c5
      have ep : paM (upd N (118 + 2 * q + 1) a) (Yc 4) (Yc 5) (nI j) = paM N (Yc 4) (Yc 5) (nI j) - (if nI j < nI (pdayN (Yf 4) q) then 0 else Yg 4 q) + (if nI j < nI (pdayN (Yf 4) q) then 0 else a) := by
        unfold paM upM
        rw [show 118 + 2 * q + 1 = 117 + 1 + 2 * q + 1 by omega, evF_updO, odF_upd, sumUp_updg, if_pos hq, er, eg, upd_ne (by omega), show sumUp (evF (upd N (117 + 1 + 2 * q + 1) a) 198) (odF (upd N (117 + 1 + 2 * q + 1) a) 198) (nI j) (Yc 5) = sumUp (evF N 198) (odF N 198) (nI j) (Yc 5) from upM_cong (fun i hi => ⟨upd_ne (by omega), upd_ne (by omega)⟩)]
        grind
      have ex : adF (pdF Yf Yg Yc Yv P) (a - Yg 4 q) (pdayN (Yf 4) q) 500 j = paM N (Yc 4) (Yc 5) (nI j) - (if nI j < nI (pdayN (Yf 4) q) then 0 else Yg 4 q) + (if nI j < nI (pdayN (Yf 4) q) then 0 else a) := by
        unfold adF
        rw [pdF_clean hj, h.pd hj]
        by_cases h1 : pdayN (Yf 4) q ≤ j
        · rw [if_pos (And.intro h1 hj), if_neg (nI_nlt h1 (show j < 2 ^ 31 by omega)), if_neg (nI_nlt h1 (show j < 2 ^ 31 by omega))]; grind
        · rw [if_neg (show ¬ (pdayN (Yf 4) q ≤ j ∧ j < 500) by omega), if_pos (nI_lt (show j < pdayN (Yf 4) q by omega) (by omega)), if_pos (nI_lt (show j < pdayN (Yf 4) q by omega) (by omega))]; grind
      refine ⟨ex.trans ep.symm, ?_⟩
      rw [ex]
      have z0 : (0 : Int32).toInt = 0 := rfl
      have k1 : rg (if nI j < nI (pdayN (Yf 4) q) then 0 else Yg 4 q) 0 99999 := by
        split
        · exact ⟨by rw [z0]; omega, by rw [z0]; omega⟩
        · exact g1
      have k2 : rg (if nI j < nI (pdayN (Yf 4) q) then 0 else a) 0 99999 := by
        split
        · exact ⟨by rw [z0]; omega, by rw [z0]; omega⟩
        · exact ga
      generalize (if nI j < nI (pdayN (Yf 4) q) then 0 else Yg 4 q) = u1 at k1
      generalize (if nI j < nI (pdayN (Yf 4) q) then 0 else a) = u2 at k2
      have s1 : (paM N (Yc 4) (Yc 5) (nI j) - u1).toInt = (paM N (Yc 4) (Yc 5) (nI j)).toInt - u1.toInt := i32s (by omega) (by omega)
      have s2 : (paM N (Yc 4) (Yc 5) (nI j) - u1 + u2).toInt = (paM N (Yc 4) (Yc 5) (nI j)).toInt - u1.toInt + u2.toInt := by rw [i32a (by rw [s1]; omega) (by rw [s1]; omega), s1]
      exact ⟨by rw [s2]; omega, by rw [s2]; omega⟩
/-! a period's parts -/
theorem a_period (h : YR Yf Yg Yc Yv N) (L K Th P R In Pd Rt : Nat → Int32) (p w : Int32) : peX Yf Yg Yc Yv (dueN N) (edN N) L K Th P R p w = if isInM p 0 3 = 0 then -1 else if isInM w 0 9 = 0 then -1 else pmM N (Yc 1) (Yc 2) (Yc 3) (Yc 4) (Yc 5) (dueN N) (edN N) In Pd Rt p.toNatClampNeg w := by
  unfold peX
  by_cases c : isInM p 0 3 = 0
  · rw [if_pos c, if_pos c]
  · rw [if_neg c, if_neg c]
    obtain ⟨q, hq, rfl⟩ := isInM_nI (n := 3) (by omega) c
    have hq4 : q < 4 := by omega
    rw [nI_clamp (by omega)]
    have sep : ∀ (x a b : Int32), ¬ isInM x a b = 0 ∨ isInM x a b = 0 := fun x a b => (Decidable.em _).symm
    by_cases cw : isInM w 0 2 = 0
    · rw [if_pos cw, rowAt_ov4, rowAt_ov4, insX_ov4, coX_ov4, rowAt_nI hq4 (by omega), rowAt_nI hq4 (by omega), h.b8, (h.per q hq4).1, (h.per q hq4).2, h.yr hq4, h.ru _ hq4, ← (h.ls h.b hq4).1, h.ins h.b hq4]
      have hco : coX (pdF Yf Yg Yc Yv P) (ov (lrF (Yf 2) (Yg 2) (Yc 2)) R 500) (thF (sbX Yf Yg Yc Yv) (N 239)) (dueN N q) (edN N) (nI q) = coM (ov (inM (lsM N (Yc 1) (Yc 3) (N 239))) In 4) (ov (fun j => paM N (Yc 4) (Yc 5) (nI j)) Pd 500) (ov (fun j => raM N (Yc 2) (nI j)) Rt 500) q 0 0 (dueN N q) (edN N) := by
        rw [coM_ov hq4 h.ed.2 (h.du q hq4).2]
        refine co_eq (h.sbk h.b) (fun j hj => ?_) (fun j hj => ?_) h.ed.2 hq4 (h.du q hq4).2
        · have z := h.par (nI j)
          rw [pdF_clean hj, h.pd hj, ite_self, Int32.add_zero]
          exact ⟨rfl, by omega, by omega⟩
        · rw [ov_lt hj, h.lr hj]
      rw [hco]
      have z0 : (0 : Int32).toInt = 0 := rfl
      have z2 : (2 : Int32).toInt = 2 := rfl
      have z9 : (9 : Int32).toInt = 9 := rfl
      by_cases c9 : isInM w 0 9 = 0
      · rw [if_pos c9]
        have ne : ∀ v : Int32, ¬ isInM v 0 9 = 0 → ¬ w = v := fun v hv e => hv (e ▸ c9)
        rw [if_neg (ne 3 (by decide)), if_neg (ne 4 (by decide)), if_neg (ne 5 (by decide)), if_neg (ne 6 (by decide)), if_neg (ne 7 (by decide)), if_neg (ne 8 (by decide)), if_neg (ne 9 (by decide))]
      · rw [if_neg c9]
        unfold pmM
        rw [ov_lt hq4]
        have hw : ¬ (w.toInt < 0 ∨ 2 < w.toInt) ∨ (w.toInt < 0 ∨ 2 < w.toInt) := (Decidable.em _).symm
        have r9 := isInM_rg c9
        rw [z0, z9] at r9
        have r2 : 2 < w.toInt := by
          by_cases y : 2 < w.toInt
          · exact y
          · exact absurd cw (isInM_yes (by rw [z0]; omega) (by rw [z2]; omega))
        have hws : w = 3 ∨ w = 4 ∨ w = 5 ∨ w = 6 ∨ w = 7 ∨ w = 8 ∨ w = 9 := by
          rcases (show w.toInt = 3 ∨ w.toInt = 4 ∨ w.toInt = 5 ∨ w.toInt = 6 ∨ w.toInt = 7 ∨ w.toInt = 8 ∨ w.toInt = 9 by omega) with y | y | y | y | y | y | y
          · exact Or.inl (i32_ext y)
          · exact Or.inr (Or.inl (i32_ext y))
          · exact Or.inr (Or.inr (Or.inl (i32_ext y)))
          · exact Or.inr (Or.inr (Or.inr (Or.inl (i32_ext y))))
          · exact Or.inr (Or.inr (Or.inr (Or.inr (Or.inl (i32_ext y)))))
          · exact Or.inr (Or.inr (Or.inr (Or.inr (Or.inr (Or.inl (i32_ext y))))))
          · exact Or.inr (Or.inr (Or.inr (Or.inr (Or.inr (Or.inr (i32_ext y))))))
        rcases hws with rfl | rfl | rfl | rfl | rfl | rfl | rfl <;> rfl
    · rw [if_neg cw]
      have r2 := isInM_rg cw
      have z0 : (0 : Int32).toInt = 0 := rfl
      have z2 : (2 : Int32).toInt = 2 := rfl
      have z9 : (9 : Int32).toInt = 9 := rfl
      rw [z0, z2] at r2
      rw [if_neg (isInM_yes (by rw [z0]; omega) (by rw [z9]; omega))]
      have ne : ∀ v : Int32, 2 < v.toInt → ¬ w = v := fun v hv e => by rw [e] at r2; omega
      unfold pmM
      rw [if_neg (ne 3 (by decide)), if_neg (ne 4 (by decide)), if_neg (ne 5 (by decide)), if_neg (ne 6 (by decide)), if_neg (ne 7 (by decide)), if_neg (ne 8 (by decide)), if_neg (ne 9 (by decide))]
      exact h.sb w hq4
end MV
