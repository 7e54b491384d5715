/-! the answers of the questions are alike -/
theorem rg_nI {x : Int32} {b : Nat} (h : rg x 0 b) (hb : b < 2 ^ 31) : x = nI x.toNatClampNeg ∧ x.toNatClampNeg ≤ b := by
  obtain ⟨j, hj, e⟩ := nI_of (x := x) (by rw [Int32.lt_iff_toInt_lt]; show ¬ x.toInt < 0; omega)
  have z := h.2
  rw [e, nI_toInt hj] at z
  rw [e, nI_clamp hj]
  exact ⟨rfl, by omega⟩
theorem isInM_rg {v a b : Int32} (h : ¬ isInM v a b = 0) : rg v a.toInt b.toInt := by
  unfold isInM at h
  by_cases h1 : v < a
  · rw [if_pos h1] at h; exact absurd rfl h
  · rw [if_neg h1] at h
    by_cases h2 : b < v
    · rw [if_pos h2] at h; exact absurd rfl h
    · rw [Int32.lt_iff_toInt_lt] at h1 h2
      exact ⟨by omega, by omega⟩
theorem isInM_yes {v a b : Int32} (h1 : a.toInt ≤ v.toInt) (h2 : v.toInt ≤ b.toInt) : ¬ isInM v a b = 0 := by
  unfold isInM
  rw [if_neg (by rw [Int32.lt_iff_toInt_lt]; omega), if_neg (by rw [Int32.lt_iff_toInt_lt]; omega)]
  decide
theorem isInM_no {v a b : Int32} (h : v.toInt < a.toInt ∨ b.toInt < v.toInt) : isInM v a b = 0 := by
  unfold isInM
  by_cases h1 : v < a
  · rw [if_pos h1]
  · rw [if_neg h1, if_pos]
    rw [Int32.lt_iff_toInt_lt] at h1 ⊢
    omega
theorem has_in {c : Nat} (hc : c ≤ 1000) (x : Int32) : hasX c x = isInM x 0 (nI c - 1) := by
  unfold hasX isInM
  have e : (nI c - 1).toInt = (c : Int) - 1 := by
    have o : (1 : Int32).toInt = 1 := rfl
    have z : (nI c).toInt = (c : Int) := nI_toInt (by omega)
    rw [i32s (by rw [z, o]; omega) (by rw [z, o]; omega), z, o]
  by_cases h : x < 0
  · rw [if_pos h, if_pos h]
  · rw [if_neg h, if_neg h]
    have z : (nI c).toInt = (c : Int) := nI_toInt (by omega)
    by_cases h2 : nI c ≤ x
    · rw [if_pos h2, if_pos]
      rw [Int32.lt_iff_toInt_lt, e]
      rw [Int32.le_iff_toInt_le, z] at h2
      omega
    · rw [if_neg h2, if_neg]
      rw [Int32.lt_iff_toInt_lt, e]
      rw [Int32.le_iff_toInt_le, z] at h2
      omega
theorem uncX_ov4 (F G : Nat → Int32) (p x : Int32) : uncX (ov F G 4) p x = uncX F p x := by unfold uncX; rw [insX_ov4, rowAt_ov4]
theorem max_pos (y : Int32) : max32 0 y = posM y := by
  unfold max32 posM
  by_cases h : y ≤ 0
  · rw [if_pos h, if_neg (by rw [Int32.lt_iff_toInt_lt]; rw [Int32.le_iff_toInt_le] at h; omega)]
  · rw [if_neg h, if_pos (by rw [Int32.lt_iff_toInt_lt]; rw [Int32.le_iff_toInt_le] at h; omega)]
/-! rows of the reference that agree below a place -/
section LOW
variable {N N2 : Nat → Int32} {ns ni nr : Nat}
theorem tsM_cong {f g f2 g2 : Nat → Int32} {x : Int64} : ∀ n, (∀ j, j < n → f2 j = f j ∧ g2 j = g j) → tsM f2 g2 x n = tsM f g x n
  | 0, _ => rfl
  | n + 1, h => by
    rw [tsM_s, tsM_s]
    unfold ptM
    rw [tsM_cong n (fun j hj => h j (by omega)), (h n (by omega)).1, (h n (by omega)).2]
theorem taxM_low (h : ∀ j, j < 117 → N2 j = N j) (hs : ns ≤ 4) (x : Int64) : taxM N2 ns x = taxM N ns x := by
  unfold taxM
  rw [tsM_cong (f2 := evF N2 13) (g2 := odF N2 13) (f := evF N 13) (g := odF N 13) ns (fun j hj => ⟨h _ (by omega), h _ (by omega)⟩), h 22 (by omega)]
theorem upM_low (h : ∀ j, j < 117 → N2 j = N j) (hi : ni ≤ 40) (d : Int32) : upM N2 36 d ni = upM N 36 d ni :=
  upM_cong (fun j hj => ⟨h _ (by omega), h _ (by omega)⟩)
theorem raM_low (h : ∀ j, j < 117 → N2 j = N j) (hr : nr ≤ 6) (d : Int32) : raM N2 nr d = raM N nr d :=
  latUp_cong (f := evF N2 23) (g := odF N2 23) (f2 := evF N 23) (g2 := odF N 23) _ (fun j hj => ⟨h _ (by omega), h _ (by omega)⟩)
theorem sbM_low (h : ∀ j, j < 117 → N2 j = N j) (hs : ns ≤ 4) (hi : ni ≤ 40) (r : Int32) {p : Nat} (hp : p < 4) : sbM N2 ns ni r p = sbM N ns ni r p := by
  unfold sbM sbB yrM
  rw [upM_low h hi, upM_low h hi, taxM_low h hs, taxM_low h hs, h 0 (by omega), h 11 (by omega), h 12 (by omega), h (7 + p) (by omega)]
theorem lsM_low (h : ∀ j, j < 117 → N2 j = N j) (hs : ns ≤ 4) (hi : ni ≤ 40) (bar : Int32) {p : Nat} (hp : p < 4) : lsM N2 ns ni bar p = lsM N ns ni bar p := by
  unfold lsM
  rw [show (fun r => sbM N2 ns ni r p) = fun r => sbM N ns ni r p from funext fun r => sbM_low h hs hi r hp, sbM_low h hs hi _ hp]
theorem inM_cong {s s2 : Nat → Int32} (h : ∀ p, p < 4 → s2 p = s p) {p : Nat} (hp : p < 4) : inM s2 p = inM s p := by
  have ha : ∀ k, k ≤ 4 → alM s2 k = alM s k := by
    intro k
    induction k with
    | zero => intro _; rfl
    | succ k ih => intro hk; unfold alM; rw [ih (by omega), h k (by omega)]
  unfold inM
  rw [h p hp, ha p (by omega)]
end LOW
section ANS
variable {Yf Yg : Nat → Nat → Int32} {Yc : Nat → Nat} {Yv N : Nat → Int32}
def dueN (N : Nat → Int32) (p : Nat) : Nat := (N (3 + p)).toNatClampNeg
def edN (N : Nat → Int32) : Nat := (N 2).toNatClampNeg
theorem YR.ed (h : YR Yf Yg Yc Yv N) : N 2 = nI (edN N) ∧ edN N ≤ 499 := rg_nI (b := 499) h.g.1.2.2.1 (by omega)
theorem YR.ed8 (h : YR Yf Yg Yc Yv N) : Yv 8 = nI (edN N) := h.v.2.2.1.trans h.ed.1
theorem YR.du (h : YR Yf Yg Yc Yv N) : ∀ p, p < 4 → N (3 + p) = nI (dueN N p) ∧ dueN N p ≤ 499 := fun p hp =>
  rg_nI (b := 499) ⟨(h.g.2.1 p hp).1.1, by have a := (h.g.2.1 p hp).1.2; have b := h.g.1.2.2.1.2; omega⟩ (by omega)
theorem YR.du8 (h : YR Yf Yg Yc Yv N) : ∀ p, p < 4 → rowAt (Yf 0) (Yc 0) (nI p) = nI (dueN N p) ∧ dueN N p ≤ 499 := fun p hp => ⟨(h.per p hp).1.trans (h.du p hp).1, (h.du p hp).2⟩
theorem YR.cutM (h : YR Yf Yg Yc Yv N) : ∀ p, p < 4 → 1 ≤ N (7 + p) + 1 := fun _ hp => (h.cut hp).2
theorem YR.b (h : YR Yf Yg Yc Yv N) : rg (N 239) 0 6 := h.g.1.2.2.2.2.2
theorem YR.b8 (h : YR Yf Yg Yc Yv N) : Yv 13 = N 239 := h.v.2.2.2.2.2
theorem YR.ins (h : YR Yf Yg Yc Yv N) {bar : Int32} (hb : rg bar 0 6) {p : Nat} (hp : p < 4) : insX (thF (sbX Yf Yg Yc Yv) bar) (nI p) = inM (lsM N (Yc 1) (Yc 3) bar) p := ins_eq (h.sbk hb).1 hp
theorem YR.unc (h : YR Yf Yg Yc Yv N) {bar : Int32} (hb : rg bar 0 6) {p : Nat} (hp : p < 4) {x : Int32} (hx : rg x (-500000000) 500000000) : uncX (thF (sbX Yf Yg Yc Yv) bar) (nI p) x = unM (inM (lsM N (Yc 1) (Yc 3) bar)) p x :=
  unc_eq (h.sbk hb).1 hp (by have := (h.thr hb (p + 1) (by omega)).2; omega) hx.1 hx.2
theorem a_tax (h : YR Yf Yg Yc Yv N) (x : Int32) : (if isInM x 0 9999999 = 0 then -1 else taxX (Yf 1) (Yg 1) (Yc 1) (Yv 12) x) = if isInM x 0 9999999 = 0 then -1 else taxM N (Yc 1) x.toInt64 := by
  by_cases c : isInM x 0 9999999 = 0
  · rw [if_pos c, if_pos c]
  · rw [if_neg c, if_neg c, h.tax (isInM_rg c).1]
theorem a_income (h : YR Yf Yg Yc Yv N) (x : Int32) : (if isInM x 0 499 = 0 then -1 else sumUp (Yf 3) (Yg 3) x (Yc 3)) = if isInM x 0 499 = 0 then -1 else upM N 36 x (Yc 3) := by rw [h.inc]
theorem a_rate (h : YR Yf Yg Yc Yv N) (x : Int32) : (if isInM x 0 499 = 0 then -1 else latUp (Yf 2) (Yg 2) x (Yc 2)) = if isInM x 0 499 = 0 then -1 else raM N (Yc 2) x := by rw [h.rate]
theorem YR.np (h : YR Yf Yg Yc Yv N) : N 117 = nI (Yc 4) := h.cn.2.2.2.1.1
theorem YR.has (h : YR Yf Yg Yc Yv N) (k : Int32) : hasX (Yc 4) k = isInM k 0 (N 117 - 1) := by rw [h.np]; exact has_in (by have := h.c4; omega) k
theorem a_payment (h : YR Yf Yg Yc Yv N) (x w : Int32) : (if hasX (Yc 4) x = 0 then -1 else if w = 0 then rowAt (Yf 4) (Yc 4) x else if w = 1 then rowAt (Yg 4) (Yc 4) x else -1) = if isInM x 0 (N 117 - 1) = 0 then -1 else if isInM w 0 1 = 0 then -1 else N (118 + 2 * x.toNatClampNeg + w.toNatClampNeg) := by
  have c4 := h.c4
  rw [← h.has x]
  by_cases c : hasX (Yc 4) x = 0
  · rw [if_pos c, if_pos c]
  · rw [if_neg c, if_neg c]
    obtain ⟨q, hq, rfl⟩ := hasX_nI (by omega) c
    rw [rowAt_nI hq (by omega), rowAt_nI hq (by omega), nI_clamp (by omega), (h.r4 q hq).1, (h.r4 q hq).2]
    by_cases w0 : w = 0
    · subst w0
      rw [if_pos rfl, if_neg (by decide)]
      show N (117 + 1 + 2 * q) = N (118 + 2 * q + 0)
      rfl
    · by_cases w1 : w = 1
      · subst w1
        rw [if_neg (by decide), if_pos rfl, if_neg (by decide)]
        show N (117 + 2 + 2 * q) = N (118 + 2 * q + 1)
        congr 1; omega
      · rw [if_neg w0, if_neg w1, if_pos]
        refine isInM_no ?_
        have e0 := toInt_ne w0
        have e1 := toInt_ne w1
        have z0 : (0 : Int32).toInt = 0 := rfl
        have z1 : (1 : Int32).toInt = 1 := rfl
        rw [z0] at e0 ⊢
        rw [z1] at e1 ⊢
        omega
theorem a_unpaid (h : YR Yf Yg Yc Yv N) (Th In : Nat → Int32) (p d : Int32) : (if isInM p 0 3 = 0 then -1 else if isInM d 0 499 = 0 then -1 else uncX (ov (thF (sbX Yf Yg Yc Yv) (Yv 13)) Th 4) p (Yv 7 + sumUp (Yf 4) (Yg 4) d (Yc 4) - sumUp (Yf 5) (Yg 5) d (Yc 5))) = if isInM p 0 3 = 0 then -1 else if isInM d 0 499 = 0 then -1 else unM (ov (inM (lsM N (Yc 1) (Yc 3) (N 239))) In 4) p.toNatClampNeg (paM N (Yc 4) (Yc 5) d) := by
  by_cases c : isInM p 0 3 = 0
  · rw [if_pos c, if_pos c]
  · rw [if_neg c, if_neg c]
    obtain ⟨q, hq, rfl⟩ := isInM_nI (n := 3) (by omega) c
    have z := h.par d
    rw [uncX_ov4, h.paid, h.b8, h.unc h.b (by omega) ⟨by omega, by omega⟩, nI_clamp (by omega), unM_cong (fun q2 hq2 => (ov_lt (show q2 < 4 by omega)).symm)]
/-- what is free -/
theorem YR.fr (h : YR Yf Yg Yc Yv N) {bar : Int32} (hb : rg bar 0 6) (d x : Int32) : ∀ k, k ≤ 4 → frM N (inM (lsM N (Yc 1) (Yc 3) bar)) d x k = x - duX (Yf 0) (Yc 0) (thF (sbX Yf Yg Yc Yv) bar) d k
  | 0, _ => by show x = x - 0; rw [Int32.sub_zero]
  | k + 1, hk => by
    unfold frM duX
    rw [h.fr hb d x k (by omega), (h.per k (by omega)).1, h.ins hb (by omega)]
    split
    · rfl
    · grind
theorem YR.free (h : YR Yf Yg Yc Yv N) {bar : Int32} (hb : rg bar 0 6) (d x : Int32) : frX (Yf 0) (Yc 0) (thF (sbX Yf Yg Yc Yv) bar) d x = posM (frM N (inM (lsM N (Yc 1) (Yc 3) bar)) d x 4) := by
  unfold frX
  rw [max_pos, h.fr hb d x 4 (by omega)]
theorem a_free (h : YR Yf Yg Yc Yv N) (Th In : Nat → Int32) (d : Int32) : (if isInM d 0 499 = 0 then -1 else frX (Yf 0) (Yc 0) (ov (thF (sbX Yf Yg Yc Yv) (Yv 13)) Th 4) d (Yv 7 + sumUp (Yf 4) (Yg 4) d (Yc 4) - sumUp (Yf 5) (Yg 5) d (Yc 5))) = if isInM d 0 499 = 0 then -1 else posM (frM N (ov (inM (lsM N (Yc 1) (Yc 3) (N 239))) In 4) d (paM N (Yc 4) (Yc 5) d) 4) := by
  rw [frX_ov4, h.paid, h.b8, h.free h.b, frM_ov _ _ _ _ _ 4 (by omega)]
theorem YR.dua (h : YR Yf Yg Yc Yv N) {bar : Int32} (hb : rg bar 0 6) (x : Int32) : ∀ k, k ≤ 4 → clM (inM (lsM N (Yc 1) (Yc 3) bar)) x k = x + duX (Yf 0) (Yc 0) (thF (sbX Yf Yg Yc Yv) bar) (N 2) k
  | 0, _ => by show x = x + 0; rw [Int32.add_zero]
  | k + 1, hk => by
    unfold clM duX
    have z := (h.g.2.1 k (by omega)).1
    rw [h.dua hb x k (by omega), (h.per k (by omega)).1, h.ins hb (by omega), if_neg (by rw [Int32.lt_iff_toInt_lt]; omega)]
    grind
theorem clM_ov (F G : Nat → Int32) (x : Int32) : ∀ k, k ≤ 4 → clM (ov F G 4) x k = clM F x k
  | 0, _ => rfl
  | k + 1, h => by unfold clM; rw [clM_ov F G x k (by omega), ov_lt (by omega)]
theorem a_clears (h : YR Yf Yg Yc Yv N) (Th In : Nat → Int32) (d : Int32) : (if isInM d 0 499 = 0 then -1 else max32 0 (duX (Yf 0) (Yc 0) (ov (thF (sbX Yf Yg Yc Yv) (Yv 13)) Th 4) (Yv 8) 4 - (Yv 7 + sumUp (Yf 4) (Yg 4) d (Yc 4) - sumUp (Yf 5) (Yg 5) d (Yc 5)))) = if isInM d 0 499 = 0 then -1 else posM (clM (ov (inM (lsM N (Yc 1) (Yc 3) (N 239))) In 4) (-(paM N (Yc 4) (Yc 5) d)) 4) := by
  rw [duX_ov4, h.paid, h.b8, h.v.2.2.1, max_pos, clM_ov _ _ _ 4 (by omega), h.dua h.b _ 4 (by omega)]
  rw [show ∀ a b : Int32, a - b = -b + a from fun a b => by grind]
/-- costs with the year as it is -/
theorem YR.costs (h : YR Yf Yg Yc Yv N) {bar : Int32} (hb : rg bar 0 6) (P R Th In Pd Rt : Nat → Int32) : cssX (pdF Yf Yg Yc Yv P) (ov (lrF (Yf 2) (Yg 2) (Yc 2)) R 500) (ov (thF (sbX Yf Yg Yc Yv) bar) Th 4) (dueN N) (edN N) 4 = cwM (ov (inM (lsM N (Yc 1) (Yc 3) bar)) In 4) (ov (fun j => paM N (Yc 4) (Yc 5) (nI j)) Pd 500) (ov (fun j => raM N (Yc 2) (nI j)) Rt 500) (dueN N) (edN N) 0 0 4 := by
  rw [cssX_ov4, cwM_ov h.ed.2 (fun p hp => (h.du p hp).2)]
  refine css_cw (h.sbk hb) (fun j hj => ?_) (fun j hj => ?_) h.ed.2 (fun p hp => (h.du p hp).2) 4 (by omega)
  · have z := h.par (nI j)
    rw [pdF_clean hj, h.pd hj, ite_self, Int32.add_zero]
    exact ⟨rfl, by omega, by omega⟩
  · rw [ov_lt hj, h.lr hj]
theorem a_barring (h : YR Yf Yg Yc Yv N) (P R Th In Pd Rt : Nat → Int32) (r : Int32) : (if (if isInM r 0 2 = 0 then 0 else if Yv 13 ^^^ 1 <<< (r &&& 31) = 7 then 0 else 1 : Int32) = 0 then -1 else cssX (pdF Yf Yg Yc Yv P) (ov (lrF (Yf 2) (Yg 2) (Yc 2)) R 500) (ov (thF (sbX Yf Yg Yc Yv) (Yv 13 ^^^ 1 <<< (r &&& 31))) Th 4) (dueN N) (edN N) 4)
    = if bbM (N 239) r = -1 then -1 else cwM (ov (inM (lsM (upd N 239 (bbM (N 239) r)) (Yc 1) (Yc 3) (upd N 239 (bbM (N 239) r) 239))) In 4) (ov (fun j => paM (upd N 239 (bbM (N 239) r)) (Yc 4) (Yc 5) (nI j)) Pd 500) (ov (fun j => raM (upd N 239 (bbM (N 239) r)) (Yc 2) (nI j)) Rt 500) (dueN N) (edN N) 0 0 4 := by
  rw [h.b8]
  by_cases c : isInM r 0 2 = 0
  · unfold bbM
    rw [if_pos c, if_pos rfl, if_pos c, if_pos rfl]
  · rw [if_neg c]
    by_cases c7 : N 239 ^^^ 1 <<< (r &&& 31) = 7
    · unfold bbM
      rw [if_pos c7, if_pos rfl, if_neg c, if_pos c7, if_pos rfl]
    · have eb : bbM (N 239) r = N 239 ^^^ 1 <<< (r &&& 31) := by unfold bbM; rw [if_neg c, if_neg c7]
      have hr : ∃ k, k < 7 ∧ N 239 ^^^ 1 <<< (r &&& 31) = nI k := by
        obtain ⟨q, hq, rfl⟩ := isInM_nI (n := 2) (by omega) c
        obtain ⟨e, he⟩ := rg_nI (b := 6) h.b (by omega)
        generalize (N 239).toNatClampNeg = b at e he
        rw [e] at c7 ⊢
        have all : ∀ b, b < 7 → ∀ q, q < 3 → (nI b ^^^ 1 <<< (nI q &&& 31) = 7 ∨ ∃ k, k < 7 ∧ nI b ^^^ 1 <<< (nI q &&& 31) = nI k) := by decide +kernel
        exact (all b (by omega) q (by omega)).resolve_left c7
      obtain ⟨k, hk, ek⟩ := hr
      have hn1 : ¬ bbM (N 239) r = -1 := by rw [eb, ek]; exact nI_ne_m1 (by omega)
      rw [if_neg c7, if_neg (by decide), if_neg hn1, eb]
      have hb : rg (N 239 ^^^ 1 <<< (r &&& 31)) 0 6 := by rw [ek]; exact ⟨by rw [nI_toInt (by omega)]; omega, by rw [nI_toInt (by omega)]; omega⟩
      generalize N 239 ^^^ 1 <<< (r &&& 31) = bar at hb
      rw [h.costs hb P R Th In Pd Rt, upd_self]
      have lo : ∀ j, j < 117 → upd N 239 bar j = N j := fun j hj => upd_ne (by omega)
      refine (cwM_cong (fun q hq => ?_) (fun j hj => ?_) (fun j hj => ?_) h.ed.2 (fun p hp => (h.du p hp).2) 4 (by omega)).symm
      · rw [ov_lt hq, ov_lt hq, inM_cong (fun p hp => lsM_low lo h.c1 h.c3 bar hp) hq]
      · rw [ov_lt hj, ov_lt hj]
        have c4 := h.c4
        have c5 := h.c5
        exact paM_cong (upd_ne (by omega)) (fun i hi => upd_ne (by omega)) (fun i hi => upd_ne (by omega))
      · rw [ov_lt hj, ov_lt hj, raM_low lo h.c2]
end ANS
