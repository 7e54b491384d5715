theorem bit_01 (x : Int32) : x &&& 1 = 0 ∨ x &&& 1 = 1 := by
  obtain ⟨j, hj, e⟩ := pk_andE x (m := 1) 1 (by decide)
  rcases (show j = 0 ∨ j = 1 by omega) with h | h
  · exact Or.inl (by rw [e, h]; rfl)
  · exact Or.inr (by rw [e, h]; rfl)
theorem hasM_iff (b k : Int32) : hasM b k = 0 ↔ b >>> (k &&& 31) &&& 1 = 0 := by
  unfold hasM
  rcases bit_01 (b >>> (k &&& 31)) with h | h
  · rw [h]; exact ⟨fun _ => rfl, fun _ => by decide⟩
  · rw [h, if_pos rfl]
/-- the least sum's rule, and the least sum itself -/
theorem ch_eq (sb : Int32 → Int32) (bar : Int32) : ∀ k, (chX sb bar k).2 = chM sb bar k ∧ (¬ chM sb bar k = -1 → (chX sb bar k).1 = sb (chM sb bar k)) := by
  intro k
  induction k with
  | zero => exact ⟨rfl, fun h => absurd rfl h⟩
  | succ k ih =>
    obtain ⟨e1, e2⟩ := ih
    unfold chX chM
    by_cases hb : bar >>> (nI k &&& 31) &&& 1 = 0
    · rw [if_pos hb, if_pos ((hasM_iff _ _).mpr hb), e1]
      by_cases hm : chM sb bar k = -1
      · rw [if_pos hm, if_pos hm]; exact ⟨rfl, fun _ => rfl⟩
      · rw [if_neg hm, if_neg hm, e2 hm]
        by_cases hl : sb (chM sb bar k) ≤ sb (nI k)
        · rw [if_pos hl, if_pos hl]; exact ⟨e1, fun _ => e2 hm⟩
        · rw [if_neg hl, if_neg hl]; exact ⟨rfl, fun _ => rfl⟩
    · rw [if_neg hb, if_neg (fun z => hb ((hasM_iff _ _).mp z))]; exact ⟨e1, e2⟩
/-- running maxima and sums of what is added -/
theorem th_al {sb : Int32 → Int32 → Int32} {bar : Int32} {s : Nat → Int32} {n : Nat} (hs : ∀ p, p < n → s p = lsF sb bar p ∧ 0 ≤ (s p).toInt) : ∀ k, k ≤ n → alM s k = thS sb bar k ∧ 0 ≤ (thS sb bar k).toInt := by
  intro k
  induction k with
  | zero => intro _; exact ⟨rfl, Int.le_refl 0⟩
  | succ k ih =>
    intro hk
    obtain ⟨e, h0⟩ := ih (by omega)
    obtain ⟨es, hs0⟩ := hs k (by omega)
    have r1 := i32_rng (thS sb bar k)
    have r2 := i32_rng (s k)
    have hsub : (s k - thS sb bar k).toInt = (s k).toInt - (thS sb bar k).toInt := i32s (by omega) (by omega)
    have hm := max32_toInt (thS sb bar k) (s k)
    unfold alM thS
    rw [e, ← es]
    unfold posM
    by_cases c : s k - thS sb bar k ≤ 0
    · have c2 := Int32.le_iff_toInt_le.mp c
      rw [hsub] at c2
      have z0 : (0 : Int32).toInt = 0 := rfl
      rw [if_pos c, Int32.add_zero]
      have : max32 (thS sb bar k) (s k) = thS sb bar k := i32_ext (by rw [hm, if_neg (by omega)])
      rw [this]; exact ⟨rfl, h0⟩
    · have c2 : ¬ (s k - thS sb bar k).toInt ≤ (0 : Int32).toInt := fun z => c (Int32.le_iff_toInt_le.mpr z)
      rw [hsub] at c2
      have z0 : (0 : Int32).toInt = 0 := rfl
      rw [if_neg c]
      have : max32 (thS sb bar k) (s k) = s k := i32_ext (by rw [hm, if_pos (by omega)])
      rw [this]
      refine ⟨?_, hs0⟩
      rw [Int32.add_comm, Int32.sub_add_cancel]
theorem th_up (sb : Int32 → Int32 → Int32) (bar : Int32) (k : Nat) : (thS sb bar k).toInt ≤ (thS sb bar (k + 1)).toInt := by
  show _ ≤ (max32 (thS sb bar k) (lsF sb bar k)).toInt
  rw [max32_toInt]; split <;> omega
theorem in_al (s : Nat → Int32) (p : Nat) : inM s p = alM s (p + 1) - alM s p := by
  show posM (s p - alM s p) = alM s p + posM (s p - alM s p) - alM s p
  rw [Int32.add_comm, Int32.add_sub_cancel]
theorem lf_al (s : Nat → Int32) (x : Int32) : ∀ k, lfM (inM s) x k = x - alM s k
  | 0 => by show x = x - 0; rw [Int32.sub_zero]
  | k + 1 => by
    show lfM (inM s) x k - inM s k = x - (alM s k + inM s k)
    rw [lf_al s x k]
    grind
theorem row_th (sb : Int32 → Int32 → Int32) (bar : Int32) {p : Nat} (hp : p < 4) : rowAt (thF sb bar) 4 (nI p) = thS sb bar (p + 1) ∧ rowAt (thF sb bar) 4 (nI p - 1) = thS sb bar p := by
  refine ⟨rowAt_nI hp (by omega), ?_⟩
  cases p with
  | zero => unfold rowAt; rw [if_pos (by decide)]; rfl
  | succ p => rw [nI_pred]; exact rowAt_nI (by omega) (by omega)
theorem ins_eq {sb : Int32 → Int32 → Int32} {bar : Int32} {s : Nat → Int32} (hs : ∀ p, p < 4 → s p = lsF sb bar p ∧ 0 ≤ (s p).toInt) {p : Nat} (hp : p < 4) : insX (thF sb bar) (nI p) = inM s p := by
  unfold insX
  rw [(row_th sb bar hp).1, (row_th sb bar hp).2, in_al, (th_al hs (p + 1) (by omega)).1, (th_al hs p (by omega)).1]
/-- what is not covered, on both sides: sums of at most 1500000000, paid within 500000000 -/
theorem unc_eq {sb : Int32 → Int32 → Int32} {bar : Int32} {s : Nat → Int32} (hs : ∀ p, p < 4 → s p = lsF sb bar p ∧ 0 ≤ (s p).toInt) {p : Nat} (hp : p < 4) {x : Int32} (hb : (thS sb bar (p + 1)).toInt ≤ 1500000000) (hx1 : -500000000 ≤ x.toInt) (hx2 : x.toInt ≤ 500000000) : uncX (thF sb bar) (nI p) x = unM (inM s) p x := by
  have hi := ins_eq hs hp
  have a1 := th_al hs (p + 1) (by omega)
  have a0 := th_al hs p (by omega)
  have hup := th_up sb bar p
  unfold uncX unM
  rw [hi, (row_th sb bar hp).1, lf_al, a0.1]
  have ein : (inM s p).toInt = (thS sb bar (p + 1)).toInt - (thS sb bar p).toInt := by
    rw [in_al, a1.1, a0.1]; exact i32s (by omega) (by omega)
  have el : (x - thS sb bar p).toInt = x.toInt - (thS sb bar p).toInt := i32s (by omega) (by omega)
  have et : (thS sb bar (p + 1) - x).toInt = (thS sb bar (p + 1)).toInt - x.toInt := i32s (by omega) (by omega)
  have z0 : (0 : Int32).toInt = 0 := rfl
  apply i32_ext
  rw [max32_toInt, min32_toInt, z0]
  by_cases c1 : 0 < x - thS sb bar p
  · have d1 := Int32.lt_iff_toInt_lt.mp c1
    rw [el, z0] at d1
    rw [if_pos c1]
    by_cases c2 : x - thS sb bar p < inM s p
    · have d2 := Int32.lt_iff_toInt_lt.mp c2
      rw [el, ein] at d2
      have em : (inM s p - (x - thS sb bar p)).toInt = (inM s p).toInt - (x - thS sb bar p).toInt := i32s (by omega) (by omega)
      rw [if_pos c2, em, ein, et, el]
      split <;> split <;> omega
    · have d2 : ¬ (x - thS sb bar p).toInt < (inM s p).toInt := fun z => c2 (Int32.lt_iff_toInt_lt.mpr z)
      rw [el, ein] at d2
      rw [if_neg c2, ein, et, z0]
      split <;> split <;> omega
  · have d1 : ¬ (0 : Int32).toInt < (x - thS sb bar p).toInt := fun z => c1 (Int32.lt_iff_toInt_lt.mpr z)
    rw [el, z0] at d1
    rw [if_neg c1, ein, et]
    split <;> split <;> omega
