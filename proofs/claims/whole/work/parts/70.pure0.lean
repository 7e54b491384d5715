/-! numbers without overflow -/
theorem i32s {a b : Int32} (h1 : -2147483648 ≤ a.toInt - b.toInt) (h2 : a.toInt - b.toInt < 2147483648) : (a - b).toInt = a.toInt - b.toInt := by
  rw [Int32.toInt_sub]; exact Int.bmod_eq_of_le (by omega) (by omega)
theorem i32a {a b : Int32} (h1 : -2147483648 ≤ a.toInt + b.toInt) (h2 : a.toInt + b.toInt < 2147483648) : (a + b).toInt = a.toInt + b.toInt := by
  rw [Int32.toInt_add]; exact Int.bmod_eq_of_le (by omega) (by omega)
theorem i64s {a b : Int64} (h1 : -9223372036854775808 ≤ a.toInt - b.toInt) (h2 : a.toInt - b.toInt < 9223372036854775808) : (a - b).toInt = a.toInt - b.toInt := by
  rw [Int64.toInt_sub]; exact Int.bmod_eq_of_le (by omega) (by omega)
theorem i64a {a b : Int64} (h1 : -9223372036854775808 ≤ a.toInt + b.toInt) (h2 : a.toInt + b.toInt < 9223372036854775808) : (a + b).toInt = a.toInt + b.toInt := by
  rw [Int64.toInt_add]; exact Int.bmod_eq_of_le (by omega) (by omega)
theorem i32_rng (a : Int32) : -2147483648 ≤ a.toInt ∧ a.toInt < 2147483648 := by
  have h1 := Int32.le_toInt a
  have h2 := Int32.toInt_lt a
  omega
theorem i32_ext {a b : Int32} (h : a.toInt = b.toInt) : a = b := Int32.toInt_inj.mp h
theorem i64_ext {a b : Int64} (h : a.toInt = b.toInt) : a = b := Int64.toInt_inj.mp h
/-! rows that agree below their count -/
theorem sumUp_cong {f g f2 g2 : Nat → Int32} {d : Int32} : ∀ n, (∀ j, j < n → f j = f2 j ∧ g j = g2 j) → sumUp f g d n = sumUp f2 g2 d n
  | 0, _ => rfl
  | n + 1, h => by unfold sumUp; rw [sumUp_cong n (fun j hj => h j (by omega)), (h n (by omega)).1, (h n (by omega)).2]
theorem latUp_cong {f g f2 g2 : Nat → Int32} {d : Int32} : ∀ n, (∀ j, j < n → f j = f2 j ∧ g j = g2 j) → latUp f g d n = latUp f2 g2 d n
  | 0, _ => rfl
  | n + 1, h => by unfold latUp; rw [latUp_cong n (fun j hj => h j (by omega)), (h n (by omega)).1, (h n (by omega)).2]
/-- all of them where each first one is no later than both days -/
theorem sumUp_all {f g : Nat → Int32} {d e : Int32} : ∀ n, (∀ j, j < n → ¬ d < f j ∧ ¬ e < f j) → sumUp f g d n = sumUp f g e n
  | 0, _ => rfl
  | n + 1, h => by unfold sumUp; rw [sumUp_all n (fun j hj => h j (by omega)), if_neg (h n (by omega)).1, if_neg (h n (by omega)).2]
/-! the tax -/
theorem min32_toInt (a b : Int32) : (min32 a b).toInt = if b.toInt < a.toInt then b.toInt else a.toInt := by
  unfold min32
  by_cases h : b < a
  · rw [if_pos h, if_pos (Int32.lt_iff_toInt_lt.mp h)]
  · rw [if_neg h, if_neg (fun z => h (Int32.lt_iff_toInt_lt.mpr z))]
theorem max32_toInt (a b : Int32) : (max32 a b).toInt = if a.toInt < b.toInt then b.toInt else a.toInt := by
  unfold max32
  by_cases h : a < b
  · rw [if_pos h, if_pos (Int32.lt_iff_toInt_lt.mp h)]
  · rw [if_neg h, if_neg (fun z => h (Int32.lt_iff_toInt_lt.mpr z))]
/-- the steps' upper ends go up, from above 0 -/
def upS (f : Nat → Int32) (n : Nat) : Prop := (∀ j, j < n → 0 < (f j).toInt) ∧ ∀ j, j + 1 < n → (f j).toInt < (f (j + 1)).toInt
def prvF (f : Nat → Int32) : Nat → Int32
  | 0 => 0
  | j + 1 => f j
def ptM (f g : Nat → Int32) (x : Int64) (k : Nat) : Int64 := if 0 ≤ lg_cmp (tsM f g x k).2.1 ((f k).toInt64 - (tsM f g x k).2.2) then (f k).toInt64 - (tsM f g x k).2.2 else (tsM f g x k).2.1
theorem tsM_s (f g : Nat → Int32) (x : Int64) (k : Nat) : tsM f g x (k + 1) = ((tsM f g x k).1 + ptM f g x k * (g k).toInt64, (tsM f g x k).2.1 - ptM f g x k, (f k).toInt64) := rfl
theorem hdX_s (f g : Nat → Int32) (x : Int32) (k : Nat) : hdX f g x (k + 1) = hdX f g x k + (min32 x (f k) - tdX f x k).toInt64 * (g k).toInt64 := rfl
theorem tax_inv {f g : Nat → Int32} {x : Int32} {n : Nat} (hx : 0 ≤ x.toInt) (hf : upS f n) : ∀ k, k ≤ n → (tsM f g x.toInt64 k).1 = hdX f g x k ∧ (tsM f g x.toInt64 k).2.1 = (x - tdX f x k).toInt64 ∧ (tsM f g x.toInt64 k).2.2 = (prvF f k).toInt64 ∧ 0 ≤ (prvF f k).toInt ∧ (tdX f x k).toInt = (if (prvF f k).toInt < x.toInt then (prvF f k).toInt else x.toInt) := by
  intro k
  induction k with
  | zero =>
    intro _
    refine ⟨rfl, ?_, rfl, Int.le_refl 0, ?_⟩
    · show x.toInt64 = (x - 0).toInt64
      rw [Int32.sub_zero]
    · show (0 : Int) = if (0 : Int) < x.toInt then 0 else x.toInt
      by_cases z : (0 : Int) < x.toInt
      · rw [if_pos z]
      · rw [if_neg z]; omega
  | succ k ih =>
    intro hk
    obtain ⟨h1, h2, h3, h4, h6⟩ := ih (by omega)
    have hfk := hf.1 k (by omega)
    have hlt : (prvF f k).toInt < (f k).toInt := by
      cases k with
      | zero => exact hfk
      | succ j => exact hf.2 j (by omega)
    have rx := i32_rng x
    have rf := i32_rng (f k)
    have h5 : 0 ≤ (tdX f x k).toInt ∧ (tdX f x k).toInt ≤ x.toInt := by rw [h6]; split <;> omega
    have hsub : (x - tdX f x k).toInt = x.toInt - (tdX f x k).toInt := i32s (by omega) (by omega)
    have hmin := min32_toInt x (f k)
    have htd : tdX f x (k + 1) = min32 x (f k) := rfl
    have hpv : prvF f (k + 1) = f k := rfl
    have hl : (tsM f g x.toInt64 k).2.2.toInt = (prvF f k).toInt := by rw [h3]; exact Int32.toInt_toInt64 _
    have hw : ((f k).toInt64 - (tsM f g x.toInt64 k).2.2).toInt = (f k).toInt - (prvF f k).toInt := by
      rw [i64s (by rw [Int32.toInt_toInt64, hl]; omega) (by rw [Int32.toInt_toInt64, hl]; omega), Int32.toInt_toInt64, hl]
    have ha : (tsM f g x.toInt64 k).2.1.toInt = x.toInt - (tdX f x k).toInt := by rw [h2, Int32.toInt_toInt64, hsub]
    have hmt : 0 ≤ (min32 x (f k)).toInt ∧ (min32 x (f k)).toInt ≤ x.toInt := by rw [hmin]; split <;> omega
    have hms : (min32 x (f k) - tdX f x k).toInt = (min32 x (f k)).toInt - (tdX f x k).toInt := i32s (by omega) (by omega)
    have hpart : ptM f g x.toInt64 k = (min32 x (f k) - tdX f x k).toInt64 := by
      apply i64_ext
      rw [Int32.toInt_toInt64, hms, hmin]
      unfold ptM
      by_cases c : 0 ≤ lg_cmp (tsM f g x.toInt64 k).2.1 ((f k).toInt64 - (tsM f g x.toInt64 k).2.2)
      · rw [if_pos c, hw]
        have c2 := Int64.le_iff_toInt_le.mp ((lg_cmp_ge _ _).mp c)
        rw [hw, ha] at c2
        split at h6 <;> split <;> omega
      · rw [if_neg c, ha]
        have c2 : ¬ ((f k).toInt64 - (tsM f g x.toInt64 k).2.2).toInt ≤ (tsM f g x.toInt64 k).2.1.toInt := fun z => c ((lg_cmp_ge _ _).mpr (Int64.le_iff_toInt_le.mpr z))
        rw [hw, ha] at c2
        split at h6 <;> split <;> omega
    rw [tsM_s, hdX_s, htd, hpv, hpart, h1]
    refine ⟨rfl, ?_, rfl, by omega, hmin⟩
    show (tsM f g x.toInt64 k).2.1 - (min32 x (f k) - tdX f x k).toInt64 = _
    apply i64_ext
    rw [i64s (by rw [ha, Int32.toInt_toInt64, hms]; omega) (by rw [ha, Int32.toInt_toInt64, hms]; omega), ha, Int32.toInt_toInt64, hms, Int32.toInt_toInt64, i32s (by omega) (by omega)]
    omega
/-- the two taxes: over told (N 22 = ov + 1) or not (both 0) -/
theorem tax_eq {f g N : Nat → Int32} {x ov : Int32} {n : Nat} (hx : 0 ≤ x.toInt) (hf : upS f n) (hr : ∀ j, j < n → f j = evF N 13 j ∧ g j = odF N 13 j) (ho : (N 22 = 0 ∧ ov = 0) ∨ (N 22 = ov + 1 ∧ 0 ≤ ov.toInt ∧ ov.toInt ≤ 99)) : taxX f g n ov x = taxM N n x.toInt64 := by
  have hts : ∀ k, k ≤ n → tsM (evF N 13) (odF N 13) x.toInt64 k = tsM f g x.toInt64 k := by
    intro k
    induction k with
    | zero => intro _; rfl
    | succ k ih =>
      intro hk
      have e := ih (by omega)
      have q := hr k (by omega)
      rw [tsM_s, tsM_s]
      unfold ptM
      rw [e, q.1, q.2]
  obtain ⟨h1, h2, -, -, -⟩ := tax_inv (g := g) hx hf n (Nat.le_refl _)
  unfold taxX taxM
  rw [hts n (Nat.le_refl _), h1, h2]
  rcases ho with ⟨a, b⟩ | ⟨a, b, c⟩
  · rw [if_pos (by rw [a]; decide), b]
    congr 2
    show hdX f g x n + (x - tdX f x n).toInt64 * (0 : Int32).toInt64 = hdX f g x n
    rw [show (0 : Int32).toInt64 = 0 from rfl, Int64.mul_zero, Int64.add_zero]
  · have hp : ¬ N 22 ≤ 0 := by
      rw [a, Int32.le_iff_toInt_le, i32a (by show _ ≤ _ + (1 : Int); omega) (by show _ + (1 : Int) < _; omega)]
      show ¬ ov.toInt + 1 ≤ 0
      omega
    rw [if_neg hp, a, Int32.add_sub_cancel]
