/-! numbers of a year stay within bounds -/
abbrev rg (x : Int32) (a b : Int) : Prop := a ≤ x.toInt ∧ x.toInt ≤ b
theorem i64m {a b : Int64} (h1 : -9223372036854775808 ≤ a.toInt * b.toInt) (h2 : a.toInt * b.toInt < 9223372036854775808) : (a * b).toInt = a.toInt * b.toInt := by
  rw [Int64.toInt_mul]; exact Int.bmod_eq_of_le (by omega) (by omega)
theorem i64d {a : Int64} {d : Int64} (h0 : 0 ≤ a.toInt) (hd : 0 < d.toInt) : (a / d).toInt = a.toInt / d.toInt := by
  rw [Int64.toInt_div_of_ne_right _ _ (fun z => by rw [z] at hd; exact absurd hd (by decide))]
  exact Int.tdiv_eq_ediv_of_nonneg h0
theorem i64to {a : Int64} (h1 : -2147483648 ≤ a.toInt) (h2 : a.toInt < 2147483648) : a.toInt32.toInt = a.toInt := by
  rw [Int64.toInt_toInt32]; exact Int.bmod_eq_of_le (by omega) (by omega)
theorem mul_up {a b A B : Int} (ha : 0 ≤ a) (hb : 0 ≤ b) (hA : a ≤ A) (hB : b ≤ B) : 0 ≤ a * b ∧ a * b ≤ A * B :=
  ⟨Int.mul_nonneg ha hb, Int.mul_le_mul hA hB hb (Int.le_trans ha hA)⟩
theorem sumUp_rg {f g : Nat → Int32} {d : Int32} : ∀ n, n ≤ 1000 → (∀ j, j < n → rg (g j) 0 99999) → rg (sumUp f g d n) 0 (99999 * n)
  | 0, _, _ => ⟨Int.le_refl 0, Int.le_refl 0⟩
  | n + 1, hn, h => by
    have ih := sumUp_rg (f := f) (g := g) (d := d) n (by omega) (fun j hj => h j (by omega))
    have hg := h n (by omega)
    unfold sumUp
    have hc : ((n + 1 : Nat) : Int) = (n : Int) + 1 := by omega
    split
    · exact ⟨ih.1, by have := ih.2; omega⟩
    · have e : (sumUp f g d n + g n).toInt = (sumUp f g d n).toInt + (g n).toInt := i32a (by omega) (by omega)
      exact ⟨by rw [e]; omega, by rw [e]; omega⟩
/-- the tax in hundredths so far -/
theorem hdX_rg {f g : Nat → Int32} {x : Int32} {n : Nat} (hx : 0 ≤ x.toInt) (hf : upS f n) (hg : ∀ j, j < n → rg (g j) 0 99) : ∀ k, k ≤ n → 0 ≤ (hdX f g x k).toInt ∧ (hdX f g x k).toInt ≤ 99 * (tdX f x k).toInt ∧ 0 ≤ (tdX f x k).toInt ∧ (tdX f x k).toInt ≤ x.toInt := by
  intro k
  induction k with
  | zero => intro _; exact ⟨Int.le_refl 0, Int.le_refl 0, Int.le_refl 0, hx⟩
  | succ k ih =>
    intro hk
    obtain ⟨a, b, c, d⟩ := ih (by omega)
    have t0 := (tax_inv (g := g) hx hf k (by omega)).2.2.2
    have t1 := (tax_inv (g := g) hx hf (k + 1) hk).2.2.2
    have hlt : (prvF f k).toInt < (prvF f (k + 1)).toInt := by
      cases k with
      | zero => exact hf.1 0 (by omega)
      | succ j => exact hf.2 j (by omega)
    have rx := i32_rng x
    have hup : (tdX f x k).toInt ≤ (tdX f x (k + 1)).toInt := by
      rw [t0.2, t1.2]; split <;> split <;> omega
    have htop : (tdX f x (k + 1)).toInt ≤ x.toInt := by rw [t1.2]; split <;> omega
    have e1 : tdX f x (k + 1) = min32 x (f k) := rfl
    have hs : (min32 x (f k) - tdX f x k).toInt = (tdX f x (k + 1)).toInt - (tdX f x k).toInt := by rw [← e1]; exact i32s (by omega) (by omega)
    have gk := hg k (by omega)
    have hm := mul_up (a := (min32 x (f k) - tdX f x k).toInt) (b := (g k).toInt) (A := (min32 x (f k) - tdX f x k).toInt) (B := 99) (by omega) gk.1 (Int.le_refl _) gk.2
    have em : ((min32 x (f k) - tdX f x k).toInt64 * (g k).toInt64).toInt = (min32 x (f k) - tdX f x k).toInt * (g k).toInt := by
      rw [i64m (by rw [Int32.toInt_toInt64, Int32.toInt_toInt64]; omega) (by rw [Int32.toInt_toInt64, Int32.toInt_toInt64]; omega), Int32.toInt_toInt64, Int32.toInt_toInt64]
    rw [hdX_s]
    have ea : (hdX f g x k + (min32 x (f k) - tdX f x k).toInt64 * (g k).toInt64).toInt = (hdX f g x k).toInt + (min32 x (f k) - tdX f x k).toInt * (g k).toInt := by
      rw [i64a (by rw [em]; omega) (by rw [em]; omega), em]
    rw [ea]
    refine ⟨by omega, by omega, by omega, htop⟩
theorem taxX_rg {f g : Nat → Int32} {x ov : Int32} {n : Nat} (hx : 0 ≤ x.toInt) (hf : upS f n) (hg : ∀ j, j < n → rg (g j) 0 99) (ho : rg ov 0 99) : rg (taxX f g n ov x) 0 x.toInt := by
  obtain ⟨a, b, c, d⟩ := hdX_rg hx hf hg n (Nat.le_refl _)
  have rx := i32_rng x
  have hs : (x - tdX f x n).toInt = x.toInt - (tdX f x n).toInt := i32s (by omega) (by omega)
  have hm := mul_up (a := (x - tdX f x n).toInt) (b := ov.toInt) (A := (x - tdX f x n).toInt) (B := 99) (by omega) ho.1 (Int.le_refl _) ho.2
  have em : ((x - tdX f x n).toInt64 * ov.toInt64).toInt = (x - tdX f x n).toInt * ov.toInt := by
    rw [i64m (by rw [Int32.toInt_toInt64, Int32.toInt_toInt64]; omega) (by rw [Int32.toInt_toInt64, Int32.toInt_toInt64]; omega), Int32.toInt_toInt64, Int32.toInt_toInt64]
  have ea : (hdX f g x n + (x - tdX f x n).toInt64 * ov.toInt64).toInt = (hdX f g x n).toInt + (x - tdX f x n).toInt * ov.toInt := by
    rw [i64a (by rw [em]; omega) (by rw [em]; omega), em]
  have ed : ((hdX f g x n + (x - tdX f x n).toInt64 * ov.toInt64) / 100).toInt = ((hdX f g x n).toInt + (x - tdX f x n).toInt * ov.toInt) / 100 := by
    rw [i64d (by rw [ea]; omega) (by decide), ea]; rfl
  have et : (taxX f g n ov x).toInt = ((hdX f g x n).toInt + (x - tdX f x n).toInt * ov.toInt) / 100 := by
    unfold taxX
    rw [i64to (by rw [ed]; omega) (by rw [ed]; omega), ed]
  exact ⟨by rw [et]; omega, by rw [et]; omega⟩
/-! the relation of a year and a row of the reference -/
def rowsEq (f g N : Nat → Int32) (C c : Nat) : Prop := ∀ j, j < c → f j = evF N C j ∧ g j = odF N C j
def YG (N : Nat → Int32) (ns nr ni np nb : Nat) : Prop :=
  (rg (N 0) 0 99999 ∧ rg (N 1) 0 99999 ∧ rg (N 2) 0 499 ∧ rg (N 11) 0 100 ∧ rg (N 12) 0 100 ∧ rg (N 239) 0 6) ∧
  (∀ p, p < 4 → rg (N (3 + p)) 0 (N 2).toInt ∧ rg (N (7 + p)) 0 364) ∧
  (∀ j, j < ns → rg (evF N 13 j) 1 99999 ∧ rg (odF N 13 j) 0 99) ∧ (∀ j, j + 1 < ns → (evF N 13 j).toInt < (evF N 13 (j + 1)).toInt) ∧
  (∀ j, j < nr → rg (evF N 23 j) 0 499 ∧ rg (odF N 23 j) 0 99) ∧ (∀ j, j + 1 < nr → (evF N 23 j).toInt < (evF N 23 (j + 1)).toInt) ∧
  (∀ j, j < ni → rg (evF N 36 j) 0 364 ∧ rg (odF N 36 j) 0 99999) ∧ (∀ j, j < np → rg (evF N 117 j) 0 499 ∧ rg (odF N 117 j) 0 99999) ∧ (∀ j, j < nb → rg (evF N 198 j) 0 499 ∧ rg (odF N 198 j) 0 99999)
def YR (Yf Yg : Nat → Nat → Int32) (Yc : Nat → Nat) (Yv N : Nat → Int32) : Prop :=
  Yc 0 ≤ 4 ∧ cnt N (Yc 1) (Yc 2) (Yc 3) (Yc 4) (Yc 5) ∧
  (rowsEq (Yf 1) (Yg 1) N 13 (Yc 1) ∧ rowsEq (Yf 2) (Yg 2) N 23 (Yc 2) ∧ rowsEq (Yf 3) (Yg 3) N 36 (Yc 3) ∧ rowsEq (Yf 4) (Yg 4) N 117 (Yc 4) ∧ rowsEq (Yf 5) (Yg 5) N 198 (Yc 5)) ∧
  (∀ p, p < 4 → rowAt (Yf 0) (Yc 0) (nI p) = N (3 + p) ∧ rowAt (Yg 0) (Yc 0) (nI p) = N (7 + p)) ∧
  (Yv 6 = N 0 ∧ Yv 7 = N 1 ∧ Yv 8 = N 2 ∧ Yv 9 = N 11 ∧ Yv 10 = N 12 ∧ Yv 13 = N 239) ∧
  ((N 22 = 0 ∧ Yv 12 = 0) ∨ (N 22 = Yv 12 + 1 ∧ 0 ≤ (Yv 12).toInt ∧ (Yv 12).toInt ≤ 99)) ∧
  YG N (Yc 1) (Yc 2) (Yc 3) (Yc 4) (Yc 5)
section YRS
variable {Yf Yg : Nat → Nat → Int32} {Yc : Nat → Nat} {Yv N : Nat → Int32}
theorem YR.c0 (h : YR Yf Yg Yc Yv N) : Yc 0 ≤ 4 := h.1
theorem YR.cn (h : YR Yf Yg Yc Yv N) : cnt N (Yc 1) (Yc 2) (Yc 3) (Yc 4) (Yc 5) := h.2.1
theorem YR.c1 (h : YR Yf Yg Yc Yv N) : Yc 1 ≤ 4 := h.cn.1.2
theorem YR.c2 (h : YR Yf Yg Yc Yv N) : Yc 2 ≤ 6 := h.cn.2.1.2
theorem YR.c3 (h : YR Yf Yg Yc Yv N) : Yc 3 ≤ 40 := h.cn.2.2.1.2
theorem YR.c4 (h : YR Yf Yg Yc Yv N) : Yc 4 ≤ 40 := h.cn.2.2.2.1.2
theorem YR.c5 (h : YR Yf Yg Yc Yv N) : Yc 5 ≤ 20 := h.cn.2.2.2.2.2
theorem YR.r1 (h : YR Yf Yg Yc Yv N) : rowsEq (Yf 1) (Yg 1) N 13 (Yc 1) := h.2.2.1.1
theorem YR.r2 (h : YR Yf Yg Yc Yv N) : rowsEq (Yf 2) (Yg 2) N 23 (Yc 2) := h.2.2.1.2.1
theorem YR.r3 (h : YR Yf Yg Yc Yv N) : rowsEq (Yf 3) (Yg 3) N 36 (Yc 3) := h.2.2.1.2.2.1
theorem YR.r4 (h : YR Yf Yg Yc Yv N) : rowsEq (Yf 4) (Yg 4) N 117 (Yc 4) := h.2.2.1.2.2.2.1
theorem YR.r5 (h : YR Yf Yg Yc Yv N) : rowsEq (Yf 5) (Yg 5) N 198 (Yc 5) := h.2.2.1.2.2.2.2
theorem YR.per (h : YR Yf Yg Yc Yv N) : ∀ p, p < 4 → rowAt (Yf 0) (Yc 0) (nI p) = N (3 + p) ∧ rowAt (Yg 0) (Yc 0) (nI p) = N (7 + p) := h.2.2.2.1
theorem YR.v (h : YR Yf Yg Yc Yv N) : Yv 6 = N 0 ∧ Yv 7 = N 1 ∧ Yv 8 = N 2 ∧ Yv 9 = N 11 ∧ Yv 10 = N 12 ∧ Yv 13 = N 239 := h.2.2.2.2.1
theorem YR.ovt (h : YR Yf Yg Yc Yv N) : (N 22 = 0 ∧ Yv 12 = 0) ∨ (N 22 = Yv 12 + 1 ∧ 0 ≤ (Yv 12).toInt ∧ (Yv 12).toInt ≤ 99) := h.2.2.2.2.2.1
theorem YR.g (h : YR Yf Yg Yc Yv N) : YG N (Yc 1) (Yc 2) (Yc 3) (Yc 4) (Yc 5) := h.2.2.2.2.2.2
theorem YR.ovr (h : YR Yf Yg Yc Yv N) : rg (Yv 12) 0 99 := by
  rcases h.ovt with ⟨_, b⟩ | ⟨_, b⟩
  · rw [b]; decide
  · exact b
theorem YR.ups (h : YR Yf Yg Yc Yv N) : upS (Yf 1) (Yc 1) :=
  ⟨fun j hj => by have := (h.g.2.2.1 j hj).1.1; rw [(h.r1 j hj).1]; omega, fun j hj => by rw [(h.r1 j (by omega)).1, (h.r1 (j + 1) hj).1]; exact h.g.2.2.2.1 j hj⟩
theorem YR.tax (h : YR Yf Yg Yc Yv N) {x : Int32} (hx : 0 ≤ x.toInt) : taxX (Yf 1) (Yg 1) (Yc 1) (Yv 12) x = taxM N (Yc 1) x.toInt64 := tax_eq hx h.ups h.r1 h.ovt
theorem YR.taxr (h : YR Yf Yg Yc Yv N) {x : Int32} (hx : 0 ≤ x.toInt) : rg (taxX (Yf 1) (Yg 1) (Yc 1) (Yv 12) x) 0 x.toInt :=
  taxX_rg hx h.ups (fun j hj => by rw [(h.r1 j hj).2]; exact (h.g.2.2.1 j hj).2) h.ovr
theorem YR.inc (h : YR Yf Yg Yc Yv N) (d : Int32) : sumUp (Yf 3) (Yg 3) d (Yc 3) = upM N 36 d (Yc 3) := sumUp_cong _ h.r3
theorem YR.incr (h : YR Yf Yg Yc Yv N) (d : Int32) : rg (upM N 36 d (Yc 3)) 0 3999960 := by
  have z := sumUp_rg (f := evF N 36) (g := odF N 36) (d := d) (Yc 3) (by have := h.c3; omega) (fun j hj => (h.g.2.2.2.2.2.2.1 j hj).2)
  have := h.c3
  exact ⟨z.1, by have := z.2; unfold upM; omega⟩
theorem YR.all (h : YR Yf Yg Yc Yv N) : sumUp (Yf 3) (Yg 3) 499 (Yc 3) = upM N 36 500 (Yc 3) := by
  rw [h.inc]
  refine sumUp_all _ (fun j hj => ?_)
  have z := (h.g.2.2.2.2.2.2.1 j hj).1.2
  have e1 : (499 : Int32).toInt = 499 := rfl
  have e2 : (500 : Int32).toInt = 500 := rfl
  constructor
  · rw [Int32.lt_iff_toInt_lt, e1]; omega
  · rw [Int32.lt_iff_toInt_lt, e2]; omega
theorem YR.cut (h : YR Yf Yg Yc Yv N) {p : Nat} (hp : p < 4) : (N (7 + p) + 1).toInt = (N (7 + p)).toInt + 1 ∧ 1 ≤ N (7 + p) + 1 := by
  have z := (h.g.2.1 p hp).2
  have o : (1 : Int32).toInt = 1 := rfl
  have e : (N (7 + p) + 1).toInt = (N (7 + p)).toInt + 1 := i32a (by rw [o]; omega) (by rw [o]; omega)
  exact ⟨e, by rw [Int32.le_iff_toInt_le, e, o]; omega⟩
theorem YR.yr (h : YR Yf Yg Yc Yv N) {p : Nat} (hp : p < 4) : yrX Yf Yg Yc (nI p) = yrM N (Yc 3) p := by
  unfold yrX yrM
  rw [(h.per p hp).2, if_pos (h.cut hp).2, h.inc]
theorem YR.yrr (h : YR Yf Yg Yc Yv N) {p : Nat} (hp : p < 4) : rg (yrM N (Yc 3) p) 0 1459985400 := by
  have a := h.incr (N (7 + p))
  have z := (h.g.2.1 p hp).2
  have c := (h.cut hp).1
  have e1 : ((upM N 36 (N (7 + p)) (Yc 3)).toInt64 * 365).toInt = (upM N 36 (N (7 + p)) (Yc 3)).toInt * 365 := by
    have q : (365 : Int64).toInt = 365 := rfl
    rw [i64m (by rw [Int32.toInt_toInt64, q]; omega) (by rw [Int32.toInt_toInt64, q]; omega), Int32.toInt_toInt64, q]
  have e2 : ((upM N 36 (N (7 + p)) (Yc 3)).toInt64 * 365 / (N (7 + p) + 1).toInt64).toInt = (upM N 36 (N (7 + p)) (Yc 3)).toInt * 365 / ((N (7 + p)).toInt + 1) := by
    rw [i64d (by rw [e1]; omega) (by rw [Int32.toInt_toInt64, c]; omega), e1, Int32.toInt_toInt64, c]
  have b0 : 0 ≤ (upM N 36 (N (7 + p)) (Yc 3)).toInt * 365 / ((N (7 + p)).toInt + 1) := Int.ediv_nonneg (by omega) (by omega)
  have b1 : (upM N 36 (N (7 + p)) (Yc 3)).toInt * 365 / ((N (7 + p)).toInt + 1) ≤ (upM N 36 (N (7 + p)) (Yc 3)).toInt * 365 := Int.ediv_le_self _ (by omega)
  have et : (yrM N (Yc 3) p).toInt = (upM N 36 (N (7 + p)) (Yc 3)).toInt * 365 / ((N (7 + p)).toInt + 1) := by
    unfold yrM
    rw [i64to (by rw [e2]; omega) (by rw [e2]; omega), e2]
  exact ⟨by rw [et]; exact b0, by rw [et]; omega⟩
theorem YR.sb (h : YR Yf Yg Yc Yv N) (r : Int32) {p : Nat} (hp : p < 4) : sbX Yf Yg Yc Yv r (nI p) = sbM N (Yc 1) (Yc 3) r p := by
  unfold sbX sbM sbW sbB
  by_cases h0 : r = 0
  · rw [if_pos h0, if_pos h0, if_neg (show ¬ r = 1 by rw [h0]; decide), h.all, h.tax (h.incr 500).1, h.v.2.2.2.1]
  · by_cases h1 : r = 1
    · rw [if_neg h0, if_neg h0, if_pos h1, if_pos h1, if_pos h1, h.v.1, h.v.2.2.2.2.1]
    · rw [if_neg h0, if_neg h0, if_neg h1, if_neg h1, if_neg h1, h.yr hp, h.tax (h.yrr hp).1, h.v.2.2.2.1]
theorem YR.bbr (h : YR Yf Yg Yc Yv N) (r : Int32) {p : Nat} (hp : p < 4) : 0 ≤ (sbB N (Yc 1) (Yc 3) r p).toInt ∧ (sbB N (Yc 1) (Yc 3) r p).toInt ≤ 1459985400 := by
  unfold sbB
  have a := h.incr 500
  have b := h.yrr hp
  have t1 := h.taxr (x := upM N 36 500 (Yc 3)) a.1
  have t2 := h.taxr (x := yrM N (Yc 3) p) b.1
  rw [h.tax a.1] at t1
  rw [h.tax b.1] at t2
  have z := h.g.1.1
  split
  · rw [Int32.toInt_toInt64]; exact ⟨t1.1, by omega⟩
  · split
    · rw [Int32.toInt_toInt64]; exact ⟨z.1, by omega⟩
    · rw [Int32.toInt_toInt64]; exact ⟨t2.1, by omega⟩
theorem YR.sbr (h : YR Yf Yg Yc Yv N) (r : Int32) {p : Nat} (hp : p < 4) : rg (sbM N (Yc 1) (Yc 3) r p) 0 1459985400 := by
  have a := h.bbr r hp
  have s : rg (if r = 1 then N 12 else N 11) 0 100 := by
    split
    · exact h.g.1.2.2.2.2.1
    · exact h.g.1.2.2.2.1
  have m1 := mul_up a.1 s.1 a.2 s.2
  have ep : (nI p + 1).toInt = (p : Int) + 1 := by rw [nI_1, nI_toInt (by omega)]; omega
  have m2 := mul_up (b := (nI p + 1).toInt) (B := 4) m1.1 (by rw [ep]; omega) m1.2 (by rw [ep]; omega)
  have e1 : (sbB N (Yc 1) (Yc 3) r p * (if r = 1 then N 12 else N 11).toInt64).toInt = (sbB N (Yc 1) (Yc 3) r p).toInt * (if r = 1 then N 12 else N 11).toInt := by
    rw [i64m (by rw [Int32.toInt_toInt64]; omega) (by rw [Int32.toInt_toInt64]; omega), Int32.toInt_toInt64]
  have e2 : (sbB N (Yc 1) (Yc 3) r p * (if r = 1 then N 12 else N 11).toInt64 * (nI p + 1).toInt64).toInt = (sbB N (Yc 1) (Yc 3) r p).toInt * (if r = 1 then N 12 else N 11).toInt * (nI p + 1).toInt := by
    rw [i64m (by rw [e1, Int32.toInt_toInt64]; omega) (by rw [e1, Int32.toInt_toInt64]; omega), e1, Int32.toInt_toInt64]
  have q : (400 : Int64).toInt = 400 := rfl
  have e3 : (sbB N (Yc 1) (Yc 3) r p * (if r = 1 then N 12 else N 11).toInt64 * (nI p + 1).toInt64 / 400).toInt = (sbB N (Yc 1) (Yc 3) r p).toInt * (if r = 1 then N 12 else N 11).toInt * (nI p + 1).toInt / 400 := by
    rw [i64d (by rw [e2]; omega) (by decide), e2, q]
  have et : (sbM N (Yc 1) (Yc 3) r p).toInt = (sbB N (Yc 1) (Yc 3) r p).toInt * (if r = 1 then N 12 else N 11).toInt * (nI p + 1).toInt / 400 := by
    unfold sbM
    rw [i64to (by rw [e3]; omega) (by rw [e3]; omega), e3]
  exact ⟨by rw [et]; omega, by rw [et]; omega⟩
end YRS
