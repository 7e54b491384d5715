/-! calls that change: answers and states stay alike -/
theorem up_same {α : Type} (f : Nat → α) (k : Nat) : va_up f k (f k) = f := by
  funext j
  unfold va_up
  by_cases h : j = k
  · rw [if_pos h, h]
  · rw [if_neg h]
theorem up_same2 {α : Type} (f : Nat → α) (k : Nat) {c : Prop} [Decidable c] (h : ¬ c) (v : α) : va_up f k (if c then v else f k) = f := by rw [if_neg h]; exact up_same f k
theorem kp_le {n : Nat} (h : n ≤ 12) : kpN n ≤ 12 := by unfold kpN; split <;> omega
def endN (n : Nat) (x : Int32) : Nat := if x < 0 then n else if x ≤ nI n then x.toNatClampNeg else n
theorem end_n {n : Nat} (hn : n ≤ 840) (x : Int32) : (if x < 0 then nI n else if x ≤ nI n then x else nI n) = nI (endN n x) ∧ endN n x ≤ n := by
  unfold endN
  by_cases h : x < 0
  · rw [if_pos h, if_pos h]; exact ⟨rfl, Nat.le_refl _⟩
  · rw [if_neg h, if_neg h]
    by_cases h2 : x ≤ nI n
    · rw [if_pos h2, if_pos h2]
      have r : rg x 0 (n : Nat) := ⟨by rw [Int32.lt_iff_toInt_lt] at h; have : (0 : Int32).toInt = 0 := rfl; omega, by rw [Int32.le_iff_toInt_le, nI_toInt (by omega)] at h2; exact h2⟩
      obtain ⟨e, b⟩ := rg_nI r (by omega)
      exact ⟨e, b⟩
    · rw [if_neg h2, if_neg h2]; exact ⟨rfl, Nat.le_refl _⟩
theorem mn_le {f : Nat → Int32} {a : Int32} {d : Nat} : ∀ k, a ≤ mnX f d k ↔ a ≤ f d ∧ ∀ i, i < k → a ≤ f (d + i)
  | 0 => ⟨fun z => ⟨z, fun i hi => absurd hi (Nat.not_lt_zero _)⟩, fun z => z.1⟩
  | k + 1 => by
    have ih := mn_le (f := f) (a := a) (d := d) k
    show a ≤ min32 (mnX f d k) (f (d + k)) ↔ _
    have e : a ≤ min32 (mnX f d k) (f (d + k)) ↔ a ≤ mnX f d k ∧ a ≤ f (d + k) := by
      simp only [Int32.le_iff_toInt_le, min32_toInt]
      constructor
      · intro z; split at z <;> exact ⟨by omega, by omega⟩
      · rintro ⟨x, y⟩; split <;> omega
    rw [e, ih]
    constructor
    · rintro ⟨⟨x, y⟩, z⟩
      refine ⟨x, fun i hi => ?_⟩
      by_cases q : i = k
      · rw [q]; exact z
      · exact y i (by omega)
    · rintro ⟨x, y⟩
      exact ⟨⟨x, fun i hi => y i (by omega)⟩, y k (by omega)⟩
theorem any_no {f : Nat → Int32} {a : Int32} {d : Nat} : ∀ k, anyL f a d k = false ↔ ∀ i, i < k → ¬ f (d + i) < a
  | 0 => ⟨fun _ i hi => absurd hi (Nat.not_lt_zero _), fun _ => rfl⟩
  | k + 1 => by
    show (anyL f a d k || decide (f (d + k) < a)) = false ↔ _
    rw [Bool.or_eq_false_iff, any_no k, decide_eq_false_iff_not]
    constructor
    · rintro ⟨x, y⟩ i hi
      by_cases q : i = k
      · rw [q]; exact y
      · exact x i (by omega)
    · exact fun x => ⟨fun i hi => x i (by omega), x k (by omega)⟩
section STEPS
variable {Yf Yg : Nat → Nat → Int32} {Yc : Nat → Nat} {Yv N DK Sn : Nat → Int32} {dn : Nat}
theorem st_earn (h : YR Yf Yg Yc Yv N) (hu : URl Yf Yg DK Sn dn Yc Yv) (hd : dn ≤ 12) (d a : Int32) :
    (if isInM d 0 364 = 0 then -1 else if isInM a 1 99999 = 0 then -1 else if Yc 3 < 40 then sumUp (upd (Yf 3) (Yc 3) d) (upd (Yg 3) (Yc 3) a) 499 (Yc 3 + 1) else -2) = (if isInM d 0 364 = 0 then -1 else if isInM a 1 99999 = 0 then -1 else if Yc 3 < 40 then upM (adN N 36 (Yc 3) d a) 36 500 (Yc 3 + 1) else -2) ∧
    YR (va_up Yf 3 (if okE d a (Yc 3) then upd (Yf 3) (Yc 3) d else Yf 3)) (va_up Yg 3 (if okE d a (Yc 3) then upd (Yg 3) (Yc 3) a else Yg 3)) (va_up Yc 3 (if okE d a (Yc 3) then Yc 3 + 1 else Yc 3)) Yv (if okE d a (Yc 3) then adN N 36 (Yc 3) d a else N) ∧
    URl (va_up Yf 3 (if okE d a (Yc 3) then upd (Yf 3) (Yc 3) d else Yf 3)) (va_up Yg 3 (if okE d a (Yc 3) then upd (Yg 3) (Yc 3) a else Yg 3)) (if okE d a (Yc 3) then kpK DK dn 0 else DK) (if okE d a (Yc 3) then snP Sn N dn else Sn) (if okE d a (Yc 3) then kpN dn else dn) (va_up Yc 3 (if okE d a (Yc 3) then Yc 3 + 1 else Yc 3)) Yv ∧ (if okE d a (Yc 3) then kpN dn else dn) ≤ 12 := by
  by_cases c : okE d a (Yc 3)
  · obtain ⟨c1, c2, c3⟩ := id c
    have rd := isInM_rg c1
    have ra := isInM_rg c2
    have t1 : (364 : Int32).toInt = 364 := rfl
    have t2 : (1 : Int32).toInt = 1 := rfl
    have t3 : (99999 : Int32).toInt = 99999 := rfl
    have t0 : (0 : Int32).toInt = 0 := rfl
    have hY := YR_add3 (d := d) (a := a) h c3 ⟨by omega, by omega⟩ ⟨by omega, by omega⟩
    simp only [if_pos c]
    refine ⟨?_, hY, URl_push hd hu h (Or.inl ⟨rfl, by show 1 ≤ Yc 3 + 1; omega⟩) (fun j hj => ?_) (fun j => ?_) (fun q hq j hj => ?_), kp_le hd⟩
    · rw [if_neg c1, if_neg c1, if_neg c2, if_neg c2, if_pos c3, if_pos c3]
      exact hY.all
    · rcases (show j = 0 ∨ j = 1 ∨ j = 2 ∨ j = 3 ∨ j = 4 ∨ j = 5 by omega) with rfl | rfl | rfl | rfl | rfl | rfl <;> rfl
    · unfold unV
      by_cases q : j = 13
      · rw [if_pos q, q]; rfl
      · rw [if_neg q]
    · by_cases z : q = 3
      · subst z
        show upd (Yf 3) (Yc 3) d j = Yf 3 j ∧ upd (Yg 3) (Yc 3) a j = Yg 3 j
        rw [upd_ne (by omega), upd_ne (by omega)]; exact ⟨rfl, rfl⟩
      · rw [va_up_ne _ _ z, va_up_ne _ _ z]; exact ⟨rfl, rfl⟩
  · rw [up_same2 Yf 3 c, up_same2 Yg 3 c, up_same2 Yc 3 c, if_neg c, if_neg c, if_neg c, if_neg c]
    refine ⟨?_, h, hu, hd⟩
    by_cases c1 : isInM d 0 364 = 0
    · rw [if_pos c1, if_pos c1]
    · rw [if_neg c1, if_neg c1]
      by_cases c2 : isInM a 1 99999 = 0
      · rw [if_pos c2, if_pos c2]
      · rw [if_neg c2, if_neg c2, if_neg (fun z => c ⟨c1, c2, z⟩), if_neg (fun z => c ⟨c1, c2, z⟩)]
theorem st_pay (h : YR Yf Yg Yc Yv N) (hu : URl Yf Yg DK Sn dn Yc Yv) (hd : dn ≤ 12) (d a : Int32) :
    YR (va_up Yf 4 (if okP d a (Yc 4) then upd (Yf 4) (Yc 4) d else Yf 4)) (va_up Yg 4 (if okP d a (Yc 4) then upd (Yg 4) (Yc 4) a else Yg 4)) (va_up Yc 4 (if okP d a (Yc 4) then Yc 4 + 1 else Yc 4)) Yv (if okP d a (Yc 4) then adN N 117 (Yc 4) d a else N) ∧
    URl (va_up Yf 4 (if okP d a (Yc 4) then upd (Yf 4) (Yc 4) d else Yf 4)) (va_up Yg 4 (if okP d a (Yc 4) then upd (Yg 4) (Yc 4) a else Yg 4)) (if okP d a (Yc 4) then kpK DK dn 1 else DK) (if okP d a (Yc 4) then snP Sn N dn else Sn) (if okP d a (Yc 4) then kpN dn else dn) (va_up Yc 4 (if okP d a (Yc 4) then Yc 4 + 1 else Yc 4)) Yv ∧ (if okP d a (Yc 4) then kpN dn else dn) ≤ 12 := by
  by_cases c : okP d a (Yc 4)
  · obtain ⟨c1, c2, c3⟩ := id c
    have rd := isInM_rg c1
    have ra := isInM_rg c2
    have t1 : (499 : Int32).toInt = 499 := rfl
    have t2 : (1 : Int32).toInt = 1 := rfl
    have t3 : (99999 : Int32).toInt = 99999 := rfl
    have t0 : (0 : Int32).toInt = 0 := rfl
    have hY := YR_add4 (d := d) (a := a) h c3 ⟨by omega, by omega⟩ ⟨by omega, by omega⟩
    simp only [if_pos c]
    refine ⟨hY, URl_push hd hu h (Or.inr (Or.inl ⟨rfl, by show 1 ≤ Yc 4 + 1; omega⟩)) (fun j hj => ?_) (fun j => ?_) (fun q hq j hj => ?_), kp_le hd⟩
    · rcases (show j = 0 ∨ j = 1 ∨ j = 2 ∨ j = 3 ∨ j = 4 ∨ j = 5 by omega) with rfl | rfl | rfl | rfl | rfl | rfl <;> rfl
    · unfold unV
      by_cases q : j = 13
      · rw [if_pos q, q]; rfl
      · rw [if_neg q]
    · by_cases z : q = 4
      · subst z
        show upd (Yf 4) (Yc 4) d j = Yf 4 j ∧ upd (Yg 4) (Yc 4) a j = Yg 4 j
        rw [upd_ne (by omega), upd_ne (by omega)]; exact ⟨rfl, rfl⟩
      · rw [va_up_ne _ _ z, va_up_ne _ _ z]; exact ⟨rfl, rfl⟩
  · rw [up_same2 Yf 4 c, up_same2 Yg 4 c, up_same2 Yc 4 c, if_neg c, if_neg c, if_neg c, if_neg c]
    exact ⟨h, hu, hd⟩
theorem YR.frq (h : YR Yf Yg Yc Yv N) {j : Nat} (hj : j < 500) : frQ Yf Yg Yc Yv j = frC N (Yc 1) (Yc 3) (Yc 4) (Yc 5) j := by
  unfold frQ frC
  rw [h.pd hj, h.b8, h.free h.b]
theorem ok_refund (h : YR Yf Yg Yc Yv N) (d a : Int32) : okX d (Yv 8) a (mnX (frQ Yf Yg Yc Yv) d.toNatClampNeg (edN N + 1 - d.toNatClampNeg)) (Yc 5) ↔ okR d (N 2) a (anyL (frC N (Yc 1) (Yc 3) (Yc 4) (Yc 5)) a d.toNatClampNeg (edN N + 1 - d.toNatClampNeg)) (Yc 5) := by
  rw [h.v.2.2.1]
  have hel := h.ed.2
  by_cases c : isInM d 0 (N 2) = 0
  · exact ⟨fun z => absurd c z.1, fun z => absurd c z.1⟩
  · have q := c
    rw [h.ed.1] at q
    obtain ⟨t, ht, rfl⟩ := isInM_nI (by omega) q
    rw [nI_clamp (by omega)]
    have e : a ≤ mnX (frQ Yf Yg Yc Yv) t (edN N + 1 - t) ↔ anyL (frC N (Yc 1) (Yc 3) (Yc 4) (Yc 5)) a t (edN N + 1 - t) = false := by
      rw [mn_le, any_no]
      constructor
      · rintro ⟨x, y⟩ i hi
        have z := y i hi
        rw [h.frq (by omega)] at z
        rw [Int32.lt_iff_toInt_lt]; rw [Int32.le_iff_toInt_le] at z; omega
      · intro x
        have y : ∀ i, i < edN N + 1 - t → a ≤ frQ Yf Yg Yc Yv (t + i) := fun i hi => by
          have z := x i hi
          rw [h.frq (by omega)]
          rw [Int32.lt_iff_toInt_lt] at z; rw [Int32.le_iff_toInt_le]; omega
        exact ⟨y 0 (by omega), y⟩
    exact ⟨fun z => ⟨z.1, z.2.1, e.mp z.2.2.1, z.2.2.2⟩, fun z => ⟨z.1, z.2.1, e.mpr z.2.2.1, z.2.2.2⟩⟩
theorem frM_cong {N N2 In : Nat → Int32} (hn : ∀ j, j < 4 → N2 (3 + j) = N (3 + j)) (d x : Int32) : ∀ k, k ≤ 4 → frM N2 In d x k = frM N In d x k
  | 0, _ => rfl
  | k + 1, hk => by unfold frM; rw [frM_cong hn d x k (by omega), hn k (by omega)]
theorem st_refund (h : YR Yf Yg Yc Yv N) (hu : URl Yf Yg DK Sn dn Yc Yv) (hd : dn ≤ 12) (d a : Int32) {c1 c2 : Prop} [Decidable c1] [Decidable c2] (hc1 : c1 = okX d (Yv 8) a (mnX (frQ Yf Yg Yc Yv) d.toNatClampNeg (edN N + 1 - d.toNatClampNeg)) (Yc 5)) (hc2 : c2 = okR d (N 2) a (anyL (frC N (Yc 1) (Yc 3) (Yc 4) (Yc 5)) a d.toNatClampNeg (edN N + 1 - d.toNatClampNeg)) (Yc 5)) :
    (if isInM d 0 (Yv 8) = 0 then -1 else if isInM a 1 99999 = 0 then -1 else if a ≤ (mnX (frQ Yf Yg Yc Yv) d.toNatClampNeg (edN N + 1 - d.toNatClampNeg)) then (if Yc 5 < 20 then frX (Yf 0) (Yc 0) (thF (sbX Yf Yg Yc Yv) (Yv 13)) d (Yv 7 + sumUp (Yf 4) (Yg 4) d (Yc 4) - sumUp (upd (Yf 5) (Yc 5) d) (upd (Yg 5) (Yc 5) a) d (Yc 5 + 1)) else -2) else -1) =
    (if isInM d 0 (N 2) = 0 then -1 else if isInM a 1 99999 = 0 then -1 else if (anyL (frC N (Yc 1) (Yc 3) (Yc 4) (Yc 5)) a d.toNatClampNeg (edN N + 1 - d.toNatClampNeg)) = true then -1 else if Yc 5 < 20 then posM (frM (adN N 198 (Yc 5) d a) (inM (lsM N (Yc 1) (Yc 3) (N 239))) d (paM (adN N 198 (Yc 5) d a) (Yc 4) (Yc 5 + 1) d) 4) else -2) ∧
    YR (va_up Yf 5 (if c1 then upd (Yf 5) (Yc 5) d else Yf 5)) (va_up Yg 5 (if c1 then upd (Yg 5) (Yc 5) a else Yg 5)) (va_up Yc 5 (if c1 then Yc 5 + 1 else Yc 5)) Yv (if c2 then adN N 198 (Yc 5) d a else N) ∧
    URl (va_up Yf 5 (if c1 then upd (Yf 5) (Yc 5) d else Yf 5)) (va_up Yg 5 (if c1 then upd (Yg 5) (Yc 5) a else Yg 5)) (if c1 then kpK DK dn 2 else DK) (if c2 then snP Sn N dn else Sn) (if c1 then kpN dn else dn) (va_up Yc 5 (if c1 then Yc 5 + 1 else Yc 5)) Yv ∧ (if c1 then kpN dn else dn) ≤ 12 ∧ (if c2 then kpN dn else dn) = (if c1 then kpN dn else dn) := by
  have hc : c1 ↔ c2 := by rw [hc1, hc2]; exact ok_refund h d a
  have hel := h.ed.2
  by_cases c : c1
  · have c' : c2 := hc.mp c
    have w := c
    have w2 := c'
    rw [hc1] at w
    rw [hc2] at w2
    obtain ⟨x1, x2, x3, x4⟩ := w
    obtain ⟨z1, z2, z3, z4⟩ := w2
    have r0 := x1
    rw [h.ed8] at r0
    obtain ⟨t, ht, ed⟩ := isInM_nI (by omega) r0
    have rd : rg d 0 499 := by rw [ed]; exact ⟨by rw [nI_toInt (by omega)]; omega, by rw [nI_toInt (by omega)]; omega⟩
    have ra := isInM_rg x2
    have t2 : (1 : Int32).toInt = 1 := rfl
    have t3 : (99999 : Int32).toInt = 99999 := rfl
    have hY := YR_add5 (d := d) (a := a) h x4 rd ⟨by omega, by omega⟩
    simp only [if_pos c, if_pos c']
    refine ⟨?_, hY, URl_push hd hu h (Or.inr (Or.inr (Or.inl ⟨rfl, by show 1 ≤ Yc 5 + 1; omega⟩))) (fun j hj => ?_) (fun j => ?_) (fun q hq j hj => ?_), kp_le hd, trivial⟩
    · rw [if_neg x1, if_neg z1, if_neg x2, if_neg x2, if_pos x3, z3, if_neg (show ¬ false = true by decide), if_pos x4, if_pos x4]
      have e := hY.paid d
      have e : Yv 7 + sumUp (Yf 4) (Yg 4) d (Yc 4) - sumUp (upd (Yf 5) (Yc 5) d) (upd (Yg 5) (Yc 5) a) d (Yc 5 + 1) = paM (adN N 198 (Yc 5) d a) (Yc 4) (Yc 5 + 1) d := e
      rw [e, h.b8, h.free h.b, frM_cong (N2 := adN N 198 (Yc 5) d a) (N := N) (fun j hj => adN_ne (by omega) (by omega) (by omega)) _ _ 4 (by omega)]
    · rcases (show j = 0 ∨ j = 1 ∨ j = 2 ∨ j = 3 ∨ j = 4 ∨ j = 5 by omega) with rfl | rfl | rfl | rfl | rfl | rfl <;> rfl
    · unfold unV
      by_cases q : j = 13
      · rw [if_pos q, q]; rfl
      · rw [if_neg q]
    · by_cases z : q = 5
      · subst z
        show upd (Yf 5) (Yc 5) d j = Yf 5 j ∧ upd (Yg 5) (Yc 5) a j = Yg 5 j
        rw [upd_ne (by omega), upd_ne (by omega)]; exact ⟨rfl, rfl⟩
      · rw [va_up_ne _ _ z, va_up_ne _ _ z]; exact ⟨rfl, rfl⟩
  · have c' : ¬ c2 := fun z => c (hc.mpr z)
    rw [up_same2 Yf 5 c, up_same2 Yg 5 c, up_same2 Yc 5 c, if_neg c, if_neg c, if_neg c', if_neg c', if_neg c']
    refine ⟨?_, h, hu, hd, rfl⟩
    have n1 := c
    have n2 := c'
    rw [hc1] at n1
    rw [hc2] at n2
    rw [h.v.2.2.1] at n1 ⊢
    by_cases x1 : isInM d 0 (N 2) = 0
    · rw [if_pos x1, if_pos x1]
    · rw [if_neg x1, if_neg x1]
      by_cases x2 : isInM a 1 99999 = 0
      · rw [if_pos x2, if_pos x2]
      · rw [if_neg x2, if_neg x2]
        by_cases x4 : Yc 5 < 20
        · have n3 : ¬ a ≤ mnX (frQ Yf Yg Yc Yv) d.toNatClampNeg (edN N + 1 - d.toNatClampNeg) := fun z => n1 ⟨x1, x2, z, x4⟩
          rw [if_neg n3]
          cases e : anyL (frC N (Yc 1) (Yc 3) (Yc 4) (Yc 5)) a d.toNatClampNeg (edN N + 1 - d.toNatClampNeg) with
          | true => rw [if_pos rfl]
          | false => exact absurd ⟨x1, x2, e, x4⟩ n2
        · rw [if_neg x4, if_neg x4]
          have q := x1
          rw [h.ed.1] at q
          obtain ⟨t, ht, et⟩ := isInM_nI (by omega) q
          have key : a ≤ mnX (frQ Yf Yg Yc Yv) d.toNatClampNeg (edN N + 1 - d.toNatClampNeg) ↔ anyL (frC N (Yc 1) (Yc 3) (Yc 4) (Yc 5)) a d.toNatClampNeg (edN N + 1 - d.toNatClampNeg) = false := by
            rw [et, nI_clamp (by omega), mn_le, any_no]
            constructor
            · rintro ⟨_, y⟩ i hi
              have z := y i hi
              rw [h.frq (by omega)] at z
              rw [Int32.lt_iff_toInt_lt]; rw [Int32.le_iff_toInt_le] at z; omega
            · intro x
              have y : ∀ i, i < edN N + 1 - t → a ≤ frQ Yf Yg Yc Yv (t + i) := fun i hi => by
                have z := x i hi
                rw [h.frq (by omega)]
                rw [Int32.lt_iff_toInt_lt] at z; rw [Int32.le_iff_toInt_le]; omega
              exact ⟨y 0 (by omega), y⟩
          by_cases x3 : a ≤ mnX (frQ Yf Yg Yc Yv) d.toNatClampNeg (edN N + 1 - d.toNatClampNeg)
          · rw [if_pos x3, key.mp x3, if_neg (by decide)]
          · rw [if_neg x3]
            cases e : anyL (frC N (Yc 1) (Yc 3) (Yc 4) (Yc 5)) a d.toNatClampNeg (edN N + 1 - d.toNatClampNeg) with
            | true => rw [if_pos rfl]
            | false => exact absurd (key.mpr e) x3
theorem xor_back (x y : Int32) : x ^^^ y ^^^ y = x := by rw [Int32.xor_assoc, Int32.xor_self, Int32.xor_zero]
theorem YR_bar {bar : Int32} (h : YR Yf Yg Yc Yv N) (hb : rg bar 0 6) : YR Yf Yg Yc (va_up Yv 13 bar) (upd N 239 bar) := by
  have k1 := h.c1
  have k2 := h.c2
  have k3 := h.c3
  have k4 := h.c4
  have k5 := h.c5
  obtain ⟨v1, v2, v3, v4, v5, v6⟩ := h.v
  obtain ⟨⟨n1, _⟩, ⟨n2, _⟩, ⟨n3, _⟩, ⟨n4, _⟩, ⟨n5, _⟩⟩ := h.cn
  obtain ⟨⟨a1, a2, a3, a4, a5, a6⟩, bp, g1, g2, g3, g4, g5, g6, g7⟩ := h.g
  have ne : ∀ j, j ≠ 239 → upd N 239 bar j = N j := fun j hj => upd_ne hj
  have ev : ∀ C j, C + 2 + 2 * j < 239 → evF (upd N 239 bar) C j = evF N C j ∧ odF (upd N 239 bar) C j = odF N C j := fun C j hj => ⟨ne _ (by omega), ne _ (by omega)⟩
  refine ⟨h.c0, ⟨⟨(ne 13 (by omega)).trans n1, k1⟩, ⟨(ne 23 (by omega)).trans n2, k2⟩, ⟨(ne 36 (by omega)).trans n3, k3⟩, ⟨(ne 117 (by omega)).trans n4, k4⟩, ⟨(ne 198 (by omega)).trans n5, k5⟩⟩,
    ⟨fun j hj => by rw [(ev 13 j (by omega)).1, (ev 13 j (by omega)).2]; exact h.r1 j hj, fun j hj => by rw [(ev 23 j (by omega)).1, (ev 23 j (by omega)).2]; exact h.r2 j hj, fun j hj => by rw [(ev 36 j (by omega)).1, (ev 36 j (by omega)).2]; exact h.r3 j hj, fun j hj => by rw [(ev 117 j (by omega)).1, (ev 117 j (by omega)).2]; exact h.r4 j hj, fun j hj => by rw [(ev 198 j (by omega)).1, (ev 198 j (by omega)).2]; exact h.r5 j hj⟩,
    fun p hp => by rw [ne (3 + p) (by omega), ne (7 + p) (by omega)]; exact h.per p hp, ⟨?_, ?_, ?_, ?_, ?_, ?_⟩, ?_, ⟨?_, ?_, ?_, ?_, ?_, ?_⟩, fun p hp => by rw [ne (3 + p) (by omega), ne (7 + p) (by omega), ne 2 (by omega)]; exact bp p hp,
    fun j hj => by rw [(ev 13 j (by omega)).1, (ev 13 j (by omega)).2]; exact g1 j hj, fun j hj => by rw [(ev 13 j (by omega)).1, (ev 13 (j + 1) (by omega)).1]; exact g2 j hj, fun j hj => by rw [(ev 23 j (by omega)).1, (ev 23 j (by omega)).2]; exact g3 j hj, fun j hj => by rw [(ev 23 j (by omega)).1, (ev 23 (j + 1) (by omega)).1]; exact g4 j hj, fun j hj => by rw [(ev 36 j (by omega)).1, (ev 36 j (by omega)).2]; exact g5 j hj, fun j hj => by rw [(ev 117 j (by omega)).1, (ev 117 j (by omega)).2]; exact g6 j hj, fun j hj => by rw [(ev 198 j (by omega)).1, (ev 198 j (by omega)).2]; exact g7 j hj⟩
  · show Yv 6 = _; rw [ne 0 (by omega)]; exact v1
  · show Yv 7 = _; rw [ne 1 (by omega)]; exact v2
  · show Yv 8 = _; rw [ne 2 (by omega)]; exact v3
  · show Yv 9 = _; rw [ne 11 (by omega)]; exact v4
  · show Yv 10 = _; rw [ne 12 (by omega)]; exact v5
  · show bar = _; rw [upd_self]
  · rw [ne 22 (by omega)]; exact h.ovt
  · rw [ne 0 (by omega)]; exact a1
  · rw [ne 1 (by omega)]; exact a2
  · rw [ne 2 (by omega)]; exact a3
  · rw [ne 11 (by omega)]; exact a4
  · rw [ne 12 (by omega)]; exact a5
  · rw [upd_self]; exact hb
theorem st_bar (h : YR Yf Yg Yc Yv N) (hu : URl Yf Yg DK Sn dn Yc Yv) (hd : dn ≤ 12) (r : Int32) {c1 : Prop} [Decidable c1] (hc1 : c1 = ((if isInM r 0 2 = 0 then 0 else if Yv 13 ^^^ 1 <<< (r &&& 31) = 7 then 0 else 1 : Int32) = 0)) :
    (if c1 then -1 else Yv 13 ^^^ 1 <<< (r &&& 31) : Int32) = bbM (N 239) r ∧ (bbM (N 239) r = -1 ↔ c1) ∧
    YR Yf Yg Yc (va_up Yv 13 (if c1 then Yv 13 else Yv 13 ^^^ 1 <<< (r &&& 31))) (if bbM (N 239) r = -1 then N else upd N 239 (bbM (N 239) r)) ∧
    URl Yf Yg (if c1 then DK else kpK DK dn (3 + r)) (if bbM (N 239) r = -1 then Sn else snP Sn N dn) (if c1 then dn else kpN dn) Yc (va_up Yv 13 (if c1 then Yv 13 else Yv 13 ^^^ 1 <<< (r &&& 31))) ∧ (if c1 then dn else kpN dn) ≤ 12 ∧ (if bbM (N 239) r = -1 then dn else kpN dn) = (if c1 then dn else kpN dn) := by
  have e8 := h.b8
  have no : bbM (N 239) r = -1 → c1 → (if c1 then -1 else Yv 13 ^^^ 1 <<< (r &&& 31) : Int32) = bbM (N 239) r ∧ (bbM (N 239) r = -1 ↔ c1) ∧
    YR Yf Yg Yc (va_up Yv 13 (if c1 then Yv 13 else Yv 13 ^^^ 1 <<< (r &&& 31))) (if bbM (N 239) r = -1 then N else upd N 239 (bbM (N 239) r)) ∧
    URl Yf Yg (if c1 then DK else kpK DK dn (3 + r)) (if bbM (N 239) r = -1 then Sn else snP Sn N dn) (if c1 then dn else kpN dn) Yc (va_up Yv 13 (if c1 then Yv 13 else Yv 13 ^^^ 1 <<< (r &&& 31))) ∧ (if c1 then dn else kpN dn) ≤ 12 ∧ (if bbM (N 239) r = -1 then dn else kpN dn) = (if c1 then dn else kpN dn) := by
    intro b c
    rw [if_pos c, if_pos c, if_pos c, if_pos c, if_pos b, if_pos b, if_pos b, up_same]
    exact ⟨b.symm, ⟨fun _ => c, fun _ => b⟩, h, hu, hd, rfl⟩
  by_cases c : isInM r 0 2 = 0
  · refine no (by unfold bbM; rw [if_pos c]) (by rw [hc1, if_pos c])
  · by_cases c7 : Yv 13 ^^^ 1 <<< (r &&& 31) = 7
    · refine no (by unfold bbM; rw [if_neg c, if_pos (by rw [← e8]; exact c7)]) (by rw [hc1, if_neg c, if_pos c7])
    · have n1 : ¬ c1 := by rw [hc1, if_neg c, if_neg c7]; decide
      have eb : bbM (N 239) r = N 239 ^^^ 1 <<< (r &&& 31) := by unfold bbM; rw [if_neg c, if_neg (by rw [← e8]; exact c7)]
      obtain ⟨q, hq, rfl⟩ := isInM_nI (n := 2) (by omega) c
      obtain ⟨e, he⟩ := rg_nI (b := 6) h.b (by omega)
      have all : ∀ b, b < 7 → ∀ q, q < 3 → (nI b ^^^ 1 <<< (nI q &&& 31) = 7 ∨ ∃ k, k < 7 ∧ nI b ^^^ 1 <<< (nI q &&& 31) = nI k) := by decide +kernel
      have hk : ∃ k, k < 7 ∧ N 239 ^^^ 1 <<< (nI q &&& 31) = nI k := by
        rw [e8] at c7
        generalize (N 239).toNatClampNeg = b at e he
        rw [e] at c7 ⊢
        exact (all b (by omega) q (by omega)).resolve_left c7
      obtain ⟨k, hk7, ek⟩ := hk
      have nb : ¬ bbM (N 239) (nI q) = -1 := by rw [eb, ek]; exact nI_ne_m1 (by omega)
      have hb : rg (N 239 ^^^ 1 <<< (nI q &&& 31)) 0 6 := by rw [ek]; exact ⟨by rw [nI_toInt (by omega)]; omega, by rw [nI_toInt (by omega)]; omega⟩
      have hK : okK (3 + nI q) Yc ∧ (3 + nI q - 3 &&& 31) = (nI q &&& 31) ∧ ¬ 3 + nI q = -1 ∧ ¬ 3 + nI q = 0 ∧ ¬ 3 + nI q = 1 ∧ ¬ 3 + nI q = 2 := by
        rcases (show q = 0 ∨ q = 1 ∨ q = 2 by omega) with rfl | rfl | rfl
        · exact ⟨Or.inr (Or.inr (Or.inr (Or.inl rfl))), by decide, by decide, by decide, by decide, by decide⟩
        · exact ⟨Or.inr (Or.inr (Or.inr (Or.inr (Or.inl rfl)))), by decide, by decide, by decide, by decide, by decide⟩
        · exact ⟨Or.inr (Or.inr (Or.inr (Or.inr (Or.inr rfl)))), by decide, by decide, by decide, by decide, by decide⟩
      obtain ⟨hK1, hK2, m1, m2, m3, m4⟩ := hK
      have fl : ∀ {α : Type} (x y : α), (if c1 then x else y) = y := fun x y => by rw [if_neg n1]
      have fb : ∀ {α : Type} (x y : α), (if bbM (N 239) (nI q) = -1 then x else y) = y := fun x y => by rw [if_neg nb]
      rw [fl, fl, fl, fl, fb, fb, fb, eb, e8]
      refine ⟨rfl, ⟨fun z => absurd (by rw [eb]; exact z) nb, fun z => absurd z n1⟩, YR_bar h hb, URl_push hd hu h hK1 (fun j hj => ?_) (fun j => ?_) (fun _ _ _ _ => ⟨rfl, rfl⟩), kp_le hd, rfl⟩
      · unfold unY
        rw [if_neg m2, if_neg m3, if_neg m4]
        rcases (show j = 0 ∨ j = 1 ∨ j = 2 ∨ j = 3 ∨ j = 4 ∨ j = 5 by omega) with rfl | rfl | rfl | rfl | rfl | rfl <;> rfl
      · unfold unV
        rw [if_neg m1, if_neg m2, if_neg m3, if_neg m4, hK2]
        by_cases z : j = 13
        · rw [if_pos z, z, va_up_self, xor_back, e8]
        · rw [if_neg z, va_up_ne _ _ z]
theorem st_text {B T : Nat → Int32} {n : Nat} (ht : TRl B T n) (S : XSt) (Z : DYt) (fmN : Nat) (so nu plc : Int32) (wd : Int64) (Rr : Nat → Int32) (h : YR Yf Yg Yc Yv N) (hu : URl Yf Yg DK Sn dn Yc Yv) (hd : dn ≤ 12) {tx : Int32 × MSt × Bool} (etx : tx = txM T n (n + 1) (goM T n (0, fmN, so, nu, 0, plc, wd, ov (fun _ => 0) Rr 240)) 0) {re : XSt × DYt} (ere : re = reX B n S Z) :
    (if re.1.2.1 = 0 then nI re.1.1 else -1 - nI re.1.2.2.1) = tx.1 ∧ re.1.2.1 = tx.2.1.2.2.2.2.1 ∧
    YR (fun k => if re.1.2.1 = 0 then ov (re.2.1 k) (Yf k) (re.2.2.2.1 k) else Yf k) (fun k => if re.1.2.1 = 0 then ov (re.2.2.1 k) (Yg k) (re.2.2.2.1 k) else Yg k) (fun k => if re.1.2.1 = 0 then re.2.2.2.1 k else Yc k) (fun k => if re.1.2.1 = 0 then re.2.2.2.2 k else Yv k) (if tx.2.2 = true then ov tx.2.1.2.2.2.2.2.2.2 N 240 else N) ∧
    URl (fun k => if re.1.2.1 = 0 then ov (re.2.1 k) (Yf k) (re.2.2.2.1 k) else Yf k) (fun k => if re.1.2.1 = 0 then ov (re.2.2.1 k) (Yg k) (re.2.2.2.1 k) else Yg k) DK Sn (if re.1.2.1 = 0 then 0 else dn) (fun k => if re.1.2.1 = 0 then re.2.2.2.1 k else Yc k) (fun k => if re.1.2.1 = 0 then re.2.2.2.2 k else Yv k) ∧ (if re.1.2.1 = 0 then 0 else dn) ≤ 12 ∧ (if tx.2.2 = true then 0 else nI dn) = nI (if re.1.2.1 = 0 then 0 else dn) := by
  have q := text_eq ht S Z fmN so nu plc wd Rr
  rw [← etx, ← ere] at q
  rcases q with ⟨a, b, c, d, e⟩ | ⟨a, b, c, d⟩
  · simp only [if_pos b, a, if_true]
    refine ⟨c.symm, b.trans e.symm, YR_cong (fun _ _ => rfl) (fun _ => rfl) (fun j hj => ov_lt hj) (fun k hk j hj => ⟨ov_lt hj, ov_lt hj⟩) d, trivial, by omega, rfl⟩
  · simp only [if_neg c, a]
    exact ⟨d.symm, b, h, hu, hd, rfl⟩
end STEPS
