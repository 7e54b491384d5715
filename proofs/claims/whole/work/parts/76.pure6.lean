/-! the latest day: costs go up with the day -/
section MONO
variable {sb : Int32 → Int32 → Int32} {bar : Int32} {s Pd Rt : Nat → Int32} {due : Nat → Nat} {ed : Nat} {more : Int32}
theorem un_toInt (H : SBk sb bar s) {p : Nat} (hp : p < 4) {x : Int32} (hx : rg x (-500000000) 500000000) : (unM (inM s) p x).toInt = if (if (thS sb bar (p + 1)).toInt - x.toInt < (thS sb bar (p + 1)).toInt - (thS sb bar p).toInt then (thS sb bar (p + 1)).toInt - x.toInt else (thS sb bar (p + 1)).toInt - (thS sb bar p).toInt) > 0 then (if (thS sb bar (p + 1)).toInt - x.toInt < (thS sb bar (p + 1)).toInt - (thS sb bar p).toInt then (thS sb bar (p + 1)).toInt - x.toInt else (thS sb bar (p + 1)).toInt - (thS sb bar p).toInt) else 0 := by
  have t1 := H.2 (p + 1) (by omega)
  have t0 := H.2 p (by omega)
  have up := th_up sb bar p
  rw [← unc_eq H.1 hp (by omega) hx.1 hx.2]
  unfold uncX insX
  rw [(row_th sb bar hp).1, (row_th sb bar hp).2, max32_toInt, min32_toInt]
  have e1 : (thS sb bar (p + 1) - thS sb bar p).toInt = (thS sb bar (p + 1)).toInt - (thS sb bar p).toInt := i32s (by omega) (by omega)
  have e2 : (thS sb bar (p + 1) - x).toInt = (thS sb bar (p + 1)).toInt - x.toInt := i32s (by omega) (by omega)
  rw [e1, e2, show (0 : Int32).toInt = 0 from rfl]
theorem un_rg (H : SBk sb bar s) {p : Nat} (hp : p < 4) {x : Int32} (hx : rg x (-500000000) 500000000) : rg (unM (inM s) p x) 0 ((thS sb bar (p + 1)).toInt - (thS sb bar p).toInt) := by
  have up := th_up sb bar p
  have e := un_toInt H hp hx
  exact ⟨by rw [e]; split <;> split <;> omega, by rw [e]; split <;> split <;> omega⟩
theorem un_mono (H : SBk sb bar s) {p : Nat} (hp : p < 4) {x y : Int32} (hx : rg x (-500000000) 500000000) (hy : rg y (-500000000) 500000000) (hxy : x.toInt ≤ y.toInt) : (unM (inM s) p y).toInt ≤ (unM (inM s) p x).toInt := by
  rw [un_toInt H hp hx, un_toInt H hp hy]
  repeat' split
  all_goals omega
/-- the sum with so much more from a day on -/
def arg (Pd : Nat → Int32) (more : Int32) (d j : Nat) : Int32 := Pd j + (if nI j < nI d then 0 else more)
theorem arg_rg (hP : ∀ j, j < 500 → rg (Pd j) (-400000000) 400000000) (hm : rg more 0 99999) (d : Nat) {j : Nat} (hj : j < 500) : rg (arg Pd more d j) (-500000000) 500000000 ∧ (arg Pd more d j).toInt = (Pd j).toInt + (if nI j < nI d then 0 else more.toInt) := by
  have z := hP j hj
  unfold arg
  split
  · rw [Int32.add_zero]; exact ⟨⟨by omega, by omega⟩, by omega⟩
  · have e : (Pd j + more).toInt = (Pd j).toInt + more.toInt := i32a (by omega) (by omega)
    exact ⟨⟨by rw [e]; omega, by rw [e]; omega⟩, e⟩
theorem cc_mono (H : SBk sb bar s) (hP : ∀ j, j < 500 → rg (Pd j) (-400000000) 400000000) (hR : ∀ j, j < 500 → rg (Rt j) 0 99) (hm : rg more 0 99999) {p : Nat} (hp : p < 4) {d1 d2 : Nat} (hd : d1 ≤ d2) (hd2 : d2 < 500) {a : Nat} : ∀ k, a + k ≤ 500 → 0 ≤ (ccM (inM s) Pd Rt p (nI d1) more a k).toInt ∧ (ccM (inM s) Pd Rt p (nI d1) more a k).toInt ≤ (ccM (inM s) Pd Rt p (nI d2) more a k).toInt ∧ (ccM (inM s) Pd Rt p (nI d2) more a k).toInt ≤ k * (((thS sb bar (p + 1)).toInt - (thS sb bar p).toInt) * 99)
  | 0, _ => by
    refine ⟨Int.le_refl 0, Int.le_refl 0, ?_⟩
    show (0 : Int) ≤ ((0 : Nat) : Int) * _
    rw [Int.natCast_zero, Int.zero_mul]; exact Int.le_refl 0
  | k + 1, hk => by
    obtain ⟨i1, i2, i3⟩ := cc_mono H hP hR hm hp hd hd2 (a := a) k (by omega)
    have t1 := H.2 (p + 1) (by omega)
    have t0 := H.2 p (by omega)
    have up := th_up sb bar p
    obtain ⟨g1, e1⟩ := arg_rg hP hm d1 (j := a + k) (by omega)
    obtain ⟨g2, e2⟩ := arg_rg hP hm d2 (j := a + k) (by omega)
    have le : (arg Pd more d2 (a + k)).toInt ≤ (arg Pd more d1 (a + k)).toInt := by
      rw [e1, e2]
      by_cases q : a + k < d1
      · rw [if_pos (nI_lt q (by omega)), if_pos (nI_lt (by omega) (by omega))]; omega
      · rw [if_neg (nI_nlt (show d1 ≤ a + k by omega) (by omega))]
        split <;> omega
    have u1 := un_rg H hp g1
    have u2 := un_rg H hp g2
    have um := un_mono H hp g2 g1 le
    have r := hR (a + k) (by omega)
    have q1 := mul_up u1.1 r.1 um r.2
    have m2 := mul_up u2.1 r.1 u2.2 r.2
    have mm : (unM (inM s) p (arg Pd more d1 (a + k))).toInt * (Rt (a + k)).toInt ≤ (unM (inM s) p (arg Pd more d2 (a + k))).toInt * (Rt (a + k)).toInt := Int.mul_le_mul_of_nonneg_right um r.1
    have hB : k * (((thS sb bar (p + 1)).toInt - (thS sb bar p).toInt) * 99) ≤ 500 * (((thS sb bar (p + 1)).toInt - (thS sb bar p).toInt) * 99) := Int.mul_le_mul_of_nonneg_right (by omega) (by omega)
    have p1 : ((unM (inM s) p (arg Pd more d1 (a + k))).toInt64 * (Rt (a + k)).toInt64).toInt = (unM (inM s) p (arg Pd more d1 (a + k))).toInt * (Rt (a + k)).toInt := by
      rw [i64m (by rw [Int32.toInt_toInt64, Int32.toInt_toInt64]; omega) (by rw [Int32.toInt_toInt64, Int32.toInt_toInt64]; omega), Int32.toInt_toInt64, Int32.toInt_toInt64]
    have p2 : ((unM (inM s) p (arg Pd more d2 (a + k))).toInt64 * (Rt (a + k)).toInt64).toInt = (unM (inM s) p (arg Pd more d2 (a + k))).toInt * (Rt (a + k)).toInt := by
      rw [i64m (by rw [Int32.toInt_toInt64, Int32.toInt_toInt64]; omega) (by rw [Int32.toInt_toInt64, Int32.toInt_toInt64]; omega), Int32.toInt_toInt64, Int32.toInt_toInt64]
    have s1 : ∀ d, ccM (inM s) Pd Rt p (nI d) more a (k + 1) = ccM (inM s) Pd Rt p (nI d) more a k + (unM (inM s) p (arg Pd more d (a + k))).toInt64 * (Rt (a + k)).toInt64 := fun d => rfl
    rw [s1, s1]
    have f1 : (ccM (inM s) Pd Rt p (nI d1) more a k + (unM (inM s) p (arg Pd more d1 (a + k))).toInt64 * (Rt (a + k)).toInt64).toInt = (ccM (inM s) Pd Rt p (nI d1) more a k).toInt + (unM (inM s) p (arg Pd more d1 (a + k))).toInt * (Rt (a + k)).toInt := by
      rw [i64a (by rw [p1]; omega) (by rw [p1]; omega), p1]
    have f2 : (ccM (inM s) Pd Rt p (nI d2) more a k + (unM (inM s) p (arg Pd more d2 (a + k))).toInt64 * (Rt (a + k)).toInt64).toInt = (ccM (inM s) Pd Rt p (nI d2) more a k).toInt + (unM (inM s) p (arg Pd more d2 (a + k))).toInt * (Rt (a + k)).toInt := by
      rw [i64a (by rw [p2]; omega) (by rw [p2]; omega), p2]
    rw [f1, f2]
    have ek : ((k + 1 : Nat) : Int) * (((thS sb bar (p + 1)).toInt - (thS sb bar p).toInt) * 99) = (k : Int) * (((thS sb bar (p + 1)).toInt - (thS sb bar p).toInt) * 99) + ((thS sb bar (p + 1)).toInt - (thS sb bar p).toInt) * 99 := by
      rw [Int.natCast_add, Int.add_mul]; rw [show ((1 : Nat) : Int) = 1 from rfl, Int.one_mul]
    rw [ek]
    exact ⟨by omega, by omega, by omega⟩
theorem co_mono (H : SBk sb bar s) (hP : ∀ j, j < 500 → rg (Pd j) (-400000000) 400000000) (hR : ∀ j, j < 500 → rg (Rt j) 0 99) (hm : rg more 0 99999) (hed : ed ≤ 499) {p : Nat} (hp : p < 4) {a : Nat} (ha : a ≤ 499) {d1 d2 : Nat} (hd : d1 ≤ d2) (hd2 : d2 < 500) : 0 ≤ (coM (inM s) Pd Rt p (nI d1) more a ed).toInt ∧ (coM (inM s) Pd Rt p (nI d1) more a ed).toInt ≤ (coM (inM s) Pd Rt p (nI d2) more a ed).toInt ∧ (coM (inM s) Pd Rt p (nI d2) more a ed).toInt * 100000 ≤ 49500 * ((thS sb bar (p + 1)).toInt - (thS sb bar p).toInt) := by
  obtain ⟨i1, i2, i3⟩ := cc_mono H hP hR hm hp hd hd2 (a := a) (ed - a) (by omega)
  have t1 := H.2 (p + 1) (by omega)
  have t0 := H.2 p (by omega)
  have up := th_up sb bar p
  have hB : ((ed - a : Nat) : Int) * (((thS sb bar (p + 1)).toInt - (thS sb bar p).toInt) * 99) ≤ 500 * (((thS sb bar (p + 1)).toInt - (thS sb bar p).toInt) * 99) := Int.mul_le_mul_of_nonneg_right (by omega) (by omega)
  have q : (100000 : Int64).toInt = 100000 := rfl
  have v : ∀ d, 0 ≤ (ccM (inM s) Pd Rt p (nI d) more a (ed - a)).toInt → (ccM (inM s) Pd Rt p (nI d) more a (ed - a)).toInt ≤ 500 * (((thS sb bar (p + 1)).toInt - (thS sb bar p).toInt) * 99) → (coM (inM s) Pd Rt p (nI d) more a ed).toInt = (ccM (inM s) Pd Rt p (nI d) more a (ed - a)).toInt / 100000 := by
    intro d h0 h1
    have e : (ccM (inM s) Pd Rt p (nI d) more a (ed - a) / 100000).toInt = (ccM (inM s) Pd Rt p (nI d) more a (ed - a)).toInt / 100000 := by rw [i64d h0 (by decide), q]
    unfold coM
    rw [i64to (by rw [e]; omega) (by rw [e]; omega), e]
  rw [v d1 i1 (by omega), v d2 (by omega) (by omega)]
  exact ⟨by omega, by omega, by omega⟩
theorem cw_mono (H : SBk sb bar s) (hP : ∀ j, j < 500 → rg (Pd j) (-400000000) 400000000) (hR : ∀ j, j < 500 → rg (Rt j) 0 99) (hm : rg more 0 99999) (hed : ed ≤ 499) (hdu : ∀ p, p < 4 → due p ≤ 499) {d1 d2 : Nat} (hd : d1 ≤ d2) (hd2 : d2 < 500) : ∀ k, k ≤ 4 → 0 ≤ (cwM (inM s) Pd Rt due ed (nI d1) more k).toInt ∧ (cwM (inM s) Pd Rt due ed (nI d1) more k).toInt ≤ (cwM (inM s) Pd Rt due ed (nI d2) more k).toInt ∧ (cwM (inM s) Pd Rt due ed (nI d2) more k).toInt * 100000 ≤ 49500 * (thS sb bar k).toInt
  | 0, _ => by
    refine ⟨Int.le_refl 0, Int.le_refl 0, ?_⟩
    show (0 : Int32).toInt * 100000 ≤ 49500 * (0 : Int32).toInt
    rw [show (0 : Int32).toInt = 0 from rfl]; omega
  | k + 1, hk => by
    obtain ⟨i1, i2, i3⟩ := cw_mono H hP hR hm hed hdu hd hd2 k (by omega)
    obtain ⟨j1, j2, j3⟩ := co_mono H hP hR hm hed (show k < 4 by omega) (hdu k (by omega)) hd hd2
    have t1 := H.2 (k + 1) (by omega)
    have t0 := H.2 k (by omega)
    have f : ∀ d, cwM (inM s) Pd Rt due ed (nI d) more (k + 1) = cwM (inM s) Pd Rt due ed (nI d) more k + coM (inM s) Pd Rt k (nI d) more (due k) ed := fun d => rfl
    rw [f, f]
    have e1 : (cwM (inM s) Pd Rt due ed (nI d1) more k + coM (inM s) Pd Rt k (nI d1) more (due k) ed).toInt = (cwM (inM s) Pd Rt due ed (nI d1) more k).toInt + (coM (inM s) Pd Rt k (nI d1) more (due k) ed).toInt := i32a (by omega) (by omega)
    have e2 : (cwM (inM s) Pd Rt due ed (nI d2) more k + coM (inM s) Pd Rt k (nI d2) more (due k) ed).toInt = (cwM (inM s) Pd Rt due ed (nI d2) more k).toInt + (coM (inM s) Pd Rt k (nI d2) more (due k) ed).toInt := i32a (by omega) (by omega)
    rw [e1, e2]
    exact ⟨by omega, by omega, by omega⟩
end MONO
theorem ltM_sp {C : Nat → Int32} {low : Int32} (h0 : C 0 = low) : ∀ d, ltM C low d ≤ d ∧ C (ltM C low d) = low ∧ ∀ j, ltM C low d < j → j ≤ d → ¬ C j = low
  | 0 => ⟨Nat.le_refl _, h0, fun j h1 h2 => absurd h1 (by show ¬ 0 < j; omega)⟩
  | d + 1 => by
    obtain ⟨a, b, c⟩ := ltM_sp h0 d
    by_cases h : C (d + 1) = low
    · rw [ltM_at h]
      exact ⟨Nat.le_refl _, h, fun j h1 h2 => by omega⟩
    · rw [ltM_dn h]
      refine ⟨by omega, b, fun j h1 h2 => ?_⟩
      by_cases q : j = d + 1
      · rw [q]; exact h
      · exact c j h1 (by omega)
theorem bsX_sp {C : Nat → Int32} {low : Int32} {ed : Nat} (hlow : C 0 = low) (mono : ∀ d1 d2, d1 ≤ d2 → d2 ≤ ed → (C d1).toInt ≤ (C d2).toInt) : ∀ n s h, s ≤ h → h ≤ ed → h - s ≤ n → C s = low → (∀ j, h < j → j ≤ ed → ¬ C j = low) → bsX C low n s h ≤ ed ∧ C (bsX C low n s h) = low ∧ ∀ j, bsX C low n s h < j → j ≤ ed → ¬ C j = low
  | 0, s, h, h1, h2, h3, h4, h5 => by
    have e : s = h := by omega
    subst e
    exact ⟨h2, h4, h5⟩
  | n + 1, s, h, h1, h2, h3, h4, h5 => by
    unfold bsX
    by_cases q : h ≤ s
    · rw [if_pos q]
      have e : s = h := by omega
      subst e
      exact ⟨h2, h4, h5⟩
    · rw [if_neg q]
      have m0 := mono 0 ((s + h + 1) / 2) (by omega) (by omega)
      rw [hlow] at m0
      by_cases c : low < C ((s + h + 1) / 2)
      · rw [if_pos c]
        refine bsX_sp hlow mono n s ((s + h + 1) / 2 - 1) (by omega) (by omega) (by omega) h4 (fun j h6 h7 => ?_)
        have m1 := mono ((s + h + 1) / 2) j (by omega) h7
        rw [Int32.lt_iff_toInt_lt] at c
        intro z
        rw [z] at m1
        omega
      · rw [if_neg c]
        refine bsX_sp hlow mono n ((s + h + 1) / 2) h (by omega) h2 (by omega) ?_ h5
        rw [Int32.lt_iff_toInt_lt] at c
        exact i32_ext (by omega)
theorem bs_lt {C C2 : Nat → Int32} {low low2 : Int32} {ed : Nat} (hed : ed ≤ 499) (hlow : C 0 = low) (hl2 : low2 = low) (he : ∀ d, d ≤ ed → C d = C2 d) (mono : ∀ d1 d2, d1 ≤ d2 → d2 ≤ ed → (C d1).toInt ≤ (C d2).toInt) : bsX C low 500 0 ed = ltM C2 low2 ed := by
  subst hl2
  obtain ⟨a1, a2, a3⟩ := bsX_sp hlow mono 500 0 ed (by omega) (by omega) (by omega) hlow (fun j h1 h2 => by omega)
  obtain ⟨b1, b2, b3⟩ := ltM_sp (C := C2) (low := low2) (by rw [← he 0 (by omega)]; exact hlow) ed
  rw [← he _ b1] at b2
  by_cases q : bsX C low2 500 0 ed < ltM C2 low2 ed
  · exact absurd b2 (a3 _ q b1)
  · by_cases r : ltM C2 low2 ed < bsX C low2 500 0 ed
    · exact absurd (by rw [← he _ a1]; exact a2) (b3 _ r a1)
    · omega
section LT
variable {Yf Yg : Nat → Nat → Int32} {Yc : Nat → Nat} {Yv N : Nat → Int32}
theorem a_latest (h : YR Yf Yg Yc Yv N) (P R Th In Pd Rt : Nat → Int32) (a : Int32) : (if isInM a 1 99999 = 0 then -1 else nI (bsX (fun d => cssX (adF (pdF Yf Yg Yc Yv P) a d 500) (ov (lrF (Yf 2) (Yg 2) (Yc 2)) R 500) (ov (thF (sbX Yf Yg Yc Yv) (Yv 13)) Th 4) (dueN N) (edN N) 4) (cssX (adF (pdF Yf Yg Yc Yv P) a 0 500) (ov (lrF (Yf 2) (Yg 2) (Yc 2)) R 500) (ov (thF (sbX Yf Yg Yc Yv) (Yv 13)) Th 4) (dueN N) (edN N) 4) 500 0 (edN N)))
    = if isInM a 1 99999 = 0 then -1 else nI (ltM (fun d => cwM (ov (inM (lsM N (Yc 1) (Yc 3) (N 239))) In 4) (ov (fun j => paM N (Yc 4) (Yc 5) (nI j)) Pd 500) (ov (fun j => raM N (Yc 2) (nI j)) Rt 500) (dueN N) (edN N) (nI d) a 4) (cwM (ov (inM (lsM N (Yc 1) (Yc 3) (N 239))) In 4) (ov (fun j => paM N (Yc 4) (Yc 5) (nI j)) Pd 500) (ov (fun j => raM N (Yc 2) (nI j)) Rt 500) (dueN N) (edN N) 0 a 4) (edN N)) := by
  by_cases c : isInM a 1 99999 = 0
  · rw [if_pos c, if_pos c]
  · rw [if_neg c, if_neg c]
    have ga := isInM_rg c
    rw [show (1 : Int32).toInt = 1 from rfl, show (99999 : Int32).toInt = 99999 from rfl] at ga
    have hel := h.ed.2
    have hdu : ∀ p, p < 4 → dueN N p ≤ 499 := fun p hp => (h.du p hp).2
    have cl : ∀ dd : Int32, cwM (ov (inM (lsM N (Yc 1) (Yc 3) (N 239))) In 4) (ov (fun j => paM N (Yc 4) (Yc 5) (nI j)) Pd 500) (ov (fun j => raM N (Yc 2) (nI j)) Rt 500) (dueN N) (edN N) dd a 4 = cwM (inM (lsM N (Yc 1) (Yc 3) (N 239))) (fun j => paM N (Yc 4) (Yc 5) (nI j)) (fun j => raM N (Yc 2) (nI j)) (dueN N) (edN N) dd a 4 := fun dd =>
      cwM_ov hel hdu
    have hPr : ∀ j, j < 500 → rg (paM N (Yc 4) (Yc 5) (nI j)) (-400000000) 400000000 := fun j _ => by have z := h.par (nI j); exact ⟨by omega, by omega⟩
    have eq : ∀ d : Nat, d ≤ 499 → cssX (adF (pdF Yf Yg Yc Yv P) a d 500) (ov (lrF (Yf 2) (Yg 2) (Yc 2)) R 500) (ov (thF (sbX Yf Yg Yc Yv) (Yv 13)) Th 4) (dueN N) (edN N) 4 = cwM (inM (lsM N (Yc 1) (Yc 3) (N 239))) (fun j => paM N (Yc 4) (Yc 5) (nI j)) (fun j => raM N (Yc 2) (nI j)) (dueN N) (edN N) (nI d) a 4 := by
      intro d hd
      rw [cssX_ov4, h.b8]
      refine css_cw (h.sbk h.b) (fun j hj => ?_) (fun j hj => ?_) hel hdu 4 (by omega)
      · have g := (arg_rg (Pd := fun j => paM N (Yc 4) (Yc 5) (nI j)) (more := a) hPr ⟨by omega, by omega⟩ d hj).1
        have e : adF (pdF Yf Yg Yc Yv P) a d 500 j = arg (fun j => paM N (Yc 4) (Yc 5) (nI j)) a d j := by
          unfold adF arg
          rw [pdF_clean hj, h.pd hj]
          by_cases q : d ≤ j
          · rw [if_pos ⟨q, hj⟩, if_neg (nI_nlt q (by omega))]
          · rw [if_neg (by omega), if_pos (nI_lt (by omega) (by omega)), Int32.add_zero]
        rw [e]
        exact ⟨rfl, g⟩
      · rw [ov_lt hj, h.lr hj]
    refine congrArg nI (bs_lt hel rfl ?_ (fun d hd => ?_) (fun d1 d2 h1 h2 => ?_))
    · rw [cl, eq 0 (by omega), nI_0]
    · show cssX _ _ _ _ _ 4 = cwM _ _ _ _ _ (nI d) a 4
      rw [cl, eq d (by omega)]
    · show (cssX _ _ _ _ _ 4).toInt ≤ (cssX _ _ _ _ _ 4).toInt
      rw [eq d1 (by omega), eq d2 (by omega)]
      exact (cw_mono (h.sbk h.b) hPr (fun j _ => h.rar (nI j)) ⟨by omega, by omega⟩ hel hdu h1 (by omega) 4 (by omega)).2.1
end LT
