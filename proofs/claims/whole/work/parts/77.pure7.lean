/-! late rows: the row that is looked for, and the rows of the reference -/
def RLw (wa : Int32) (s : LSt) (t : RSt) : Prop := s.1 = nI t.2 ∧ ∀ q : Nat, wa = nI q → q < 2 ^ 31 → (q < t.2 → s.2 = (t.1 (5 * q), t.1 (5 * q + 1), t.1 (5 * q + 2), t.1 (5 * q + 3), t.1 (5 * q + 4))) ∧ (t.2 ≤ q → s.2.2.2.1 = 0)
def LI (t : RSt) (op bo br : Int32) : Prop := (op = 0 ∧ bo ≤ 0) ∨ (¬ op = 0 ∧ ¬ bo ≤ 0 ∧ 1 ≤ t.2 ∧ t.1 (5 * (t.2 - 1) + 3) = bo ∧ t.1 (5 * (t.2 - 1) + 4) = br)
theorem rl_step {wa : Int32} {s : LSt} {t : RSt} {op p d o r bo br : Int32} (hm : t.2 ≤ 100000) (h : RLw wa s t) (hl : LI t op bo br) : RLw wa (wkS s p wa d o r bo br) (rwS t op p d o r) ∧ LI (rwS t op p d o r) (if o ≤ 0 then 0 else 1) o r := by
  obtain ⟨A, m⟩ := t
  obtain ⟨h1, h2⟩ := h
  dsimp only at hm h1 h2
  by_cases c0 : o ≤ 0
  · unfold wkS rwS
    rw [if_pos c0, if_pos c0, if_pos c0]
    exact ⟨⟨h1, h2⟩, Or.inl ⟨rfl, c0⟩⟩
  · unfold wkS rwS
    rw [if_neg c0, if_neg c0, if_neg c0]
    dsimp only
    by_cases c1 : o = bo ∧ r = br
    · have hop : ¬ op = 0 ∧ ¬ bo ≤ 0 ∧ 1 ≤ m ∧ A (5 * (m - 1) + 3) = bo ∧ A (5 * (m - 1) + 4) = br := by
        rcases hl with ⟨_, z⟩ | z
        · exact absurd (c1.1 ▸ z) c0
        · exact z
      obtain ⟨k1, k2, k3, k4, k5⟩ := hop
      rw [if_pos c1, if_pos (show ¬ op = 0 ∧ A (5 * (m - 1) + 3) = o ∧ A (5 * (m - 1) + 4) = r from ⟨k1, k4.trans c1.1.symm, k5.trans c1.2.symm⟩)]
      have em : s.1 - 1 = nI (m - 1) := by
        obtain ⟨j, rfl⟩ : ∃ j, m = j + 1 := ⟨m - 1, by omega⟩
        rw [h1, nI_pred]; rfl
      refine ⟨⟨?_, fun q hq hq2 => ?_⟩, Or.inr ⟨by decide, c0, k3, ?_, ?_⟩⟩
      · split <;> exact h1
      · obtain ⟨g1, g2⟩ := h2 q hq hq2
        dsimp only
        by_cases y : s.1 - 1 = wa
        · rw [if_pos y]
          have yq : q = m - 1 := by
            rw [em, hq] at y
            exact ((nI_eq (by omega) hq2).mp y).symm
          subst yq
          have g := g1 (by omega)
          refine ⟨fun _ => ?_, fun z => by omega⟩
          rw [g]
          dsimp only
          rw [upd_self, upd_ne (by omega), upd_ne (by omega), upd_ne (by omega), upd_ne (by omega)]
        · rw [if_neg y]
          have yq : q ≠ m - 1 := fun z => y (by rw [em, hq, z])
          refine ⟨fun z => ?_, g2⟩
          rw [g1 z, upd_ne (by omega), upd_ne (by omega), upd_ne (by omega), upd_ne (by omega), upd_ne (by omega)]
      · show upd A (5 * (m - 1) + 2) _ (5 * (m - 1) + 3) = o
        rw [upd_ne (by omega)]; exact k4.trans c1.1.symm
      · show upd A (5 * (m - 1) + 2) _ (5 * (m - 1) + 4) = r
        rw [upd_ne (by omega)]; exact k5.trans c1.2.symm
    · have hop : ¬ (¬ op = 0 ∧ A (5 * (m - 1) + 3) = o ∧ A (5 * (m - 1) + 4) = r) := by
        rintro ⟨z1, z2, z3⟩
        rcases hl with ⟨y, _⟩ | ⟨_, _, _, y1, y2⟩
        · exact z1 y
        · exact c1 ⟨z2.symm.trans y1, z3.symm.trans y2⟩
      rw [if_neg c1, if_neg hop]
      have e1 : s.1 + 1 - 1 = nI m := by rw [Int32.add_sub_cancel]; exact h1
      have e2 : s.1 + 1 = nI (m + 1) := by rw [h1, nI_1]
      refine ⟨⟨?_, fun q hq hq2 => ?_⟩, Or.inr ⟨by decide, c0, Nat.le_add_left _ _, ?_, ?_⟩⟩
      · split <;> exact e2
      · obtain ⟨g1, g2⟩ := h2 q hq hq2
        dsimp only
        by_cases y : s.1 + 1 - 1 = wa
        · rw [if_pos y]
          have yq : q = m := by
            rw [e1, hq] at y
            exact ((nI_eq (by omega) hq2).mp y).symm
          subst yq
          have g := g2 (Nat.le_refl _)
          refine ⟨fun _ => ?_, fun z => by omega⟩
          dsimp only
          rw [g]
          simp only [upd_self, upd_ne (show 5 * q + 0 ≠ 5 * q + 1 by omega), upd_ne (show 5 * q + 0 ≠ 5 * q + 2 by omega), upd_ne (show 5 * q + 0 ≠ 5 * q + 3 by omega), upd_ne (show 5 * q + 0 ≠ 5 * q + 4 by omega), upd_ne (show 5 * q + 1 ≠ 5 * q + 2 by omega), upd_ne (show 5 * q + 1 ≠ 5 * q + 3 by omega), upd_ne (show 5 * q + 1 ≠ 5 * q + 4 by omega), upd_ne (show 5 * q + 2 ≠ 5 * q + 3 by omega), upd_ne (show 5 * q + 2 ≠ 5 * q + 4 by omega), upd_ne (show 5 * q + 3 ≠ 5 * q + 4 by omega)]
          have f0 : ∀ (B : Nat → Int32), upd (upd (upd (upd (upd A (5 * q + 0) p) (5 * q + 1) d) (5 * q + 2) 1) (5 * q + 3) o) (5 * q + 4) r (5 * q) = p := fun _ => by
            rw [upd_ne (by omega), upd_ne (by omega), upd_ne (by omega), upd_ne (by omega)]; exact upd_self _ _ _
          rw [f0 A]
          rfl
        · rw [if_neg y]
          have yq : q ≠ m := fun z => y (by rw [e1, hq, z])
          refine ⟨fun z => ?_, fun z => g2 (by omega)⟩
          rw [g1 (by omega)]
          rw [upd_ne (by omega), upd_ne (by omega), upd_ne (by omega), upd_ne (by omega), upd_ne (by omega), upd_ne (by omega), upd_ne (by omega), upd_ne (by omega), upd_ne (by omega), upd_ne (by omega), upd_ne (by omega), upd_ne (by omega), upd_ne (by omega), upd_ne (by omega), upd_ne (by omega), upd_ne (by omega), upd_ne (by omega), upd_ne (by omega), upd_ne (by omega), upd_ne (by omega), upd_ne (by omega), upd_ne (by omega), upd_ne (by omega), upd_ne (by omega), upd_ne (by omega)]
      · show upd (upd _ (5 * m + 3) o) (5 * m + 4) r (5 * (m + 1 - 1) + 3) = o
        rw [show m + 1 - 1 = m from rfl, upd_ne (by omega)]; exact upd_self _ _ _
      · show upd _ (5 * m + 4) r (5 * (m + 1 - 1) + 4) = r
        exact upd_self _ _ _
theorem rl_days {wa : Int32} {o r : Nat → Int32} {p : Int32} {a : Nat} {s : LSt} {t : RSt} (h : RLw wa s t) : ∀ n, t.2 + n ≤ 100000 → RLw wa (wkX o r p wa a s n) (rwX o r p a t n) ∧ LI (rwX o r p a t n) (bfO o n) (bfX o n) (bfX r n)
  | 0, _ => ⟨h, Or.inl ⟨rfl, by show (0 : Int32) ≤ 0; decide⟩⟩
  | n + 1, hn => by
    obtain ⟨i1, i2⟩ := rl_days (o := o) (r := r) (p := p) (a := a) (t := t) h n (by omega)
    have hb := rwX_le o r p a t n
    rw [wkX_s, rwX_s]
    exact rl_step (by omega) i1 i2
theorem wkX_cong {o r o2 r2 : Nat → Int32} {p wa : Int32} {a : Nat} {s : LSt} : ∀ n, (∀ i, i < n → o i = o2 i ∧ r i = r2 i) → wkX o r p wa a s n = wkX o2 r2 p wa a s n
  | 0, _ => rfl
  | n + 1, h => by
    rw [wkX_s, wkX_s, wkX_cong n (fun i hi => h i (by omega)), (h n (by omega)).1, (h n (by omega)).2]
    cases n with
    | zero => rfl
    | succ n =>
      show wkS _ _ _ _ _ _ (o n) (r n) = wkS _ _ _ _ _ _ (o2 n) (r2 n)
      rw [(h n (by omega)).1, (h n (by omega)).2]
theorem rl_all {wa : Int32} {P R Th In Pd Rt : Nat → Int32} {due : Nat → Nat} {ed : Nat} {s : LSt} {t : RSt} (hed : ed ≤ 499) (ht : t.2 = 0) (h : RLw wa s t) (ho : ∀ p, p < 4 → ∀ i, due p + i < 500 → uncX Th (nI p) (P (due p + i)) = unM In p (Pd (due p + i)) ∧ R (due p + i) = Rt (due p + i)) (hdu : ∀ p, p < 4 → due p ≤ 499) : ∀ k, k ≤ 4 → RLw wa (fdX P R Th due ed wa s k) (rwP In Pd Rt due ed t k)
  | 0, _ => h
  | k + 1, hk => by
    have ih := rl_all hed ht h ho hdu k (by omega)
    have hb := rwP_le In Pd Rt due ed t hed k
    have hd := hdu k (by omega)
    rw [rwP_s]
    show RLw wa (wkX (opF P Th (nI k) (due k)) (rtF R (due k)) (nI k) wa (due k) (fdX P R Th due ed wa s k) (ed - due k)) _
    rw [wkX_cong (o := opF P Th (nI k) (due k)) (r := rtF R (due k)) (o2 := oM In Pd k (due k)) (r2 := rtF Rt (due k)) _ (fun i hi => ho k (by omega) i (by omega))]
    exact (rl_days ih _ (by omega)).1
section LW
variable {Yf Yg : Nat → Nat → Int32} {Yc : Nat → Nat} {Yv N : Nat → Int32}
theorem YR.rows (h : YR Yf Yg Yc Yv N) (P R Th In Pd Rt Rw : Nat → Int32) (wa z1 z2 z4 z5 : Int32) : RLw wa (fdX (pdF Yf Yg Yc Yv P) (ov (lrF (Yf 2) (Yg 2) (Yc 2)) R 500) (ov (thF (sbX Yf Yg Yc Yv) (Yv 13)) Th 4) (dueN N) (edN N) wa (0, z1, z2, 0, z4, z5) 4) (rwP (ov (inM (lsM N (Yc 1) (Yc 3) (N 239))) In 4) (ov (fun j => paM N (Yc 4) (Yc 5) (nI j)) Pd 500) (ov (fun j => raM N (Yc 2) (nI j)) Rt 500) (dueN N) (edN N) (Rw, 0) 4) := by
  refine rl_all h.ed.2 rfl ⟨rfl, fun q _ _ => ⟨fun z => absurd z (Nat.not_lt_zero _), fun _ => rfl⟩⟩ (fun p hp i hi => ?_) (fun p hp => (h.du p hp).2) 4 (by omega)
  have z := h.par (nI (dueN N p + i))
  rw [uncX_ov4, pdF_clean hi, h.pd hi, h.b8, ov_lt hi, ov_lt hi, ov_lt hi, h.lr hi, h.unc h.b hp ⟨by omega, by omega⟩, unM_cong (fun q2 hq2 => (ov_lt (show q2 < 4 by omega)).symm)]
  exact ⟨rfl, rfl⟩
theorem YR.ball (h : YR Yf Yg Yc Yv N) : sumUp (Yf 5) (Yg 5) 499 (Yc 5) = upM N 198 500 (Yc 5) := by
  rw [h.backs]
  refine sumUp_all _ (fun j hj => ?_)
  have z := (h.g.2.2.2.2.2.2.2.2 j hj).1.2
  have e1 : (499 : Int32).toInt = 499 := rfl
  have e2 : (500 : Int32).toInt = 500 := rfl
  constructor
  · rw [Int32.lt_iff_toInt_lt, e1]; omega
  · rw [Int32.lt_iff_toInt_lt, e2]; omega
theorem a_now (h : YR Yf Yg Yc Yv N) (P R Th In Pd Rt Rw : Nat → Int32) (z : LSt) (n dn : Nat) (w : Int32) : nwX Yf Yg Yc Yv (dueN N) (edN N) Th P R z n dn w = nwM N (Yc 1) (Yc 2) (Yc 3) (Yc 4) (Yc 5) (dueN N) (edN N) In Pd Rt Rw (nI dn) (nI n) w := by
  unfold nwX nwM
  have hc := h.costs h.b P R Th In Pd Rt
  have hr := (h.rows P R Th In Pd Rt Rw (-1) z.2.1 z.2.2.1 z.2.2.2.2.1 z.2.2.2.2.2).1
  rw [← h.b8] at hc
  rw [hr, hc, h.all, h.tax (h.incr 500).1, h.paid, h.v.2.2.1, h.b8, h.ball, h.np]
end LW
