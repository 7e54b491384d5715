/-! the reference -/
def isInM (v a b : Int32) : Int32 := if v < a then 0 else if b < v then 0 else 1
def hasM (s k : Int32) : Int32 := if s >>> (k &&& 31) &&& 1 = 1 then 1 else 0
def evF (N : Nat → Int32) (C : Nat) : Nat → Int32 := fun j => N (C + 1 + 2 * j)
def odF (N : Nat → Int32) (C : Nat) : Nat → Int32 := fun j => N (C + 2 + 2 * j)
/-- summed so far, what is above, the last step's upper end -/
def tsM (f g : Nat → Int32) (x : Int64) : Nat → Int64 × Int64 × Int64
  | 0 => (0, x, 0)
  | k + 1 => ((tsM f g x k).1 + (if 0 ≤ lg_cmp (tsM f g x k).2.1 ((f k).toInt64 - (tsM f g x k).2.2) then (f k).toInt64 - (tsM f g x k).2.2 else (tsM f g x k).2.1) * (g k).toInt64, (tsM f g x k).2.1 - (if 0 ≤ lg_cmp (tsM f g x k).2.1 ((f k).toInt64 - (tsM f g x k).2.2) then (f k).toInt64 - (tsM f g x k).2.2 else (tsM f g x k).2.1), (f k).toInt64)
def taxM (N : Nat → Int32) (n : Nat) (x : Int64) : Int32 := ((if N 22 ≤ 0 then (tsM (evF N 13) (odF N 13) x n).1 else (tsM (evF N 13) (odF N 13) x n).1 + (tsM (evF N 13) (odF N 13) x n).2.1 * (N 22 - 1).toInt64) / 100).toInt32
def upM (N : Nat → Int32) (C : Nat) (d : Int32) (n : Nat) : Int32 := sumUp (evF N C) (odF N C) d n
/-- the counts that the year's row holds: steps, rates, incomes, payments, refunds -/
def cnt (N : Nat → Int32) (ns nr ni np nb : Nat) : Prop := (N 13 = nI ns ∧ ns ≤ 4) ∧ (N 23 = nI nr ∧ nr ≤ 6) ∧ (N 36 = nI ni ∧ ni ≤ 40) ∧ (N 117 = nI np ∧ np ≤ 40) ∧ (N 198 = nI nb ∧ nb ≤ 20)
def yrM (N : Nat → Int32) (ni p : Nat) : Int32 := ((upM N 36 (N (7 + p)) ni).toInt64 * 365 / (N (7 + p) + 1).toInt64).toInt32
def sbB (N : Nat → Int32) (ns ni : Nat) (r : Int32) (p : Nat) : Int64 := if r = 0 then (taxM N ns (upM N 36 500 ni).toInt64).toInt64 else if r = 1 then (N 0).toInt64 else (taxM N ns (yrM N ni p).toInt64).toInt64
def sbM (N : Nat → Int32) (ns ni : Nat) (r : Int32) (p : Nat) : Int32 := (sbB N ns ni r p * (if r = 1 then N 12 else N 11).toInt64 * (nI p + 1).toInt64 / 400).toInt32
def chM (sb : Int32 → Int32) (bar : Int32) : Nat → Int32
  | 0 => -1
  | k + 1 => if hasM bar (nI k) = 0 then (if chM sb bar k = -1 then nI k else if sb (chM sb bar k) ≤ sb (nI k) then chM sb bar k else nI k) else chM sb bar k
def posM (x : Int32) : Int32 := if x ≤ 0 then 0 else x
def alM (s : Nat → Int32) : Nat → Int32
  | 0 => 0
  | k + 1 => alM s k + posM (s k - alM s k)
def inM (s : Nat → Int32) (p : Nat) : Int32 := posM (s p - alM s p)
/-- what an instalment's least rule asks -/
def lsM (N : Nat → Int32) (ns ni : Nat) (bar : Int32) (p : Nat) : Int32 := sbM N ns ni (chM (fun r => sbM N ns ni r p) bar 3) p
def paM (N : Nat → Int32) (np nb : Nat) (d : Int32) : Int32 := N 1 + upM N 117 d np - upM N 198 d nb
def raM (N : Nat → Int32) (nr : Nat) (d : Int32) : Int32 := latUp (evF N 23) (odF N 23) d nr
def lfM (In : Nat → Int32) (x : Int32) : Nat → Int32
  | 0 => x
  | q + 1 => lfM In x q - In q
def unM (In : Nat → Int32) (p : Nat) (x : Int32) : Int32 := if 0 < lfM In x p then (if lfM In x p < In p then In p - lfM In x p else 0) else In p
def ccM (In Pd Rt : Nat → Int32) (p : Nat) (day more : Int32) (a : Nat) : Nat → Int64
  | 0 => 0
  | k + 1 => ccM In Pd Rt p day more a k + (unM In p (Pd (a + k) + (if nI (a + k) < day then 0 else more))).toInt64 * (Rt (a + k)).toInt64
def coM (In Pd Rt : Nat → Int32) (p : Nat) (day more : Int32) (due ed : Nat) : Int32 := (ccM In Pd Rt p day more due (ed - due) / 100000).toInt32
def cwM (In Pd Rt : Nat → Int32) (due : Nat → Nat) (ed : Nat) (day more : Int32) : Nat → Int32
  | 0 => 0
  | k + 1 => cwM In Pd Rt due ed day more k + coM In Pd Rt k day more (due k) ed
def frM (N In : Nat → Int32) (d x : Int32) : Nat → Int32
  | 0 => x
  | q + 1 => if d < N (3 + q) then frM N In d x q else frM N In d x q - In q
set_option maxHeartbeats 4000000 in
set_option maxRecDepth 100000 in
theorem kX9_isIn (l : Launch) (D : va_G) (cI cB : ClassId) (v a b : Int32)  : Rd l D (TY cI cB) yX9_isIn wsX9_isIn 0 0 [.int v, .int a, .int b] [] (isInM v a b) := by
  refine rd_z (cc := cX9_isIn) (maxL := 3) (by decide) rfl (Nat.le_of_ble_eq_true rfl) ?_
  intro p_ e_ s_ m_ ar_ be_ me_ co_ ls Q_ hx hb hml hown hts hP hK hl hret
  have hown : s_.vm.findClass RX9 = some m_.cls := hown
  have hl : lv_has ls 3 [(0, .int v), (1, .int a), (2, .int b)] := hl
  refine lv_iload_n hx hb dX9_isIn_0 rfl (lv_at hl 0 rfl) ?_
  refine lv_iload_n hx hb dX9_isIn_1 rfl (lv_at hl 1 rfl) ?_
  refine lv_icmp_lt (tgt := 14) hx hb dX9_isIn_2 (by decide) (fun c2 => ?_) (fun c2 => ?_)
  · refine lv_iconst (v := 0) hx hb dX9_isIn_14 (by decide) ?_
    exact hret _ _ ls (by simp [isInM, c2]) (by decide) dX9_isIn_15
  · refine lv_iload_n hx hb dX9_isIn_5 rfl (lv_at hl 0 rfl) ?_
    refine lv_iload_n hx hb dX9_isIn_6 rfl (lv_at hl 2 rfl) ?_
    refine lv_icmp_gt (tgt := 14) hx hb dX9_isIn_7 (by decide) (fun c7 => ?_) (fun c7 => ?_)
    · refine lv_iconst (v := 0) hx hb dX9_isIn_14 (by decide) ?_
      exact hret _ _ ls (by simp [isInM, c2, c7]) (by decide) dX9_isIn_15
    · refine lv_iconst (v := 1) hx hb dX9_isIn_10 (by decide) ?_
      refine lv_goto (tgt := 15) hx hb dX9_isIn_11 (by decide) ?_
      exact hret _ _ ls (by simp [isInM, c2, c7]) (by decide) dX9_isIn_15

set_option maxHeartbeats 4000000 in
set_option maxRecDepth 100000 in
theorem kX9_has (l : Launch) (D : va_G) (cI cB : ClassId) (v a : Int32)  : Rd l D (TY cI cB) yX9_has wsX9_has 0 0 [.int v, .int a] [] (hasM v a) := by
  refine rd_z (cc := cX9_has) (maxL := 2) (by decide) rfl (Nat.le_of_ble_eq_true rfl) ?_
  intro p_ e_ s_ m_ ar_ be_ me_ co_ ls Q_ hx hb hml hown hts hP hK hl hret
  have hown : s_.vm.findClass RX9 = some m_.cls := hown
  have hl : lv_has ls 2 [(0, .int v), (1, .int a)] := hl
  refine lv_iload_n hx hb dX9_has_0 rfl (lv_at hl 0 rfl) ?_
  refine lv_iload_n hx hb dX9_has_1 rfl (lv_at hl 1 rfl) ?_
  refine lv_ishr hx hb dX9_has_2 ?_
  refine lv_iconst (v := 1) hx hb dX9_has_3 (by decide) ?_
  refine lv_iand hx hb dX9_has_4 ?_
  refine lv_iconst (v := 1) hx hb dX9_has_5 (by decide) ?_
  refine lv_icmp_ne (tgt := 13) hx hb dX9_has_6 (by decide) (fun c6 => ?_) (fun c6 => ?_)
  · refine lv_iconst (v := 0) hx hb dX9_has_13 (by decide) ?_
    exact hret _ _ ls (by simp [hasM, c6]) (by decide) dX9_has_14
  · refine lv_iconst (v := 1) hx hb dX9_has_9 (by decide) ?_
    refine lv_goto (tgt := 14) hx hb dX9_has_10 (by decide) ?_
    exact hret _ _ ls (by simp [hasM, c6]) (by decide) dX9_has_14

set_option maxHeartbeats 4000000 in
set_option maxRecDepth 100000 in
theorem kX9_isDigit (l : Launch) (D : va_G) (cI cB : ClassId) (v : Int32)  : Rd l D (TY cI cB) yX9_isDigit wsX9_isDigit 0 0 [.int v] [] (isInM v 48 57) := by
  refine rd_z (cc := cX9_isDigit) (maxL := 1) (by decide) rfl (Nat.le_of_ble_eq_true rfl) ?_
  intro p_ e_ s_ m_ ar_ be_ me_ co_ ls Q_ hx hb hml hown hts hP hK hl hret
  have hown : s_.vm.findClass RX9 = some m_.cls := hown
  have hl : lv_has ls 1 [(0, .int v)] := hl
  refine lv_iload_n hx hb dX9_isDigit_0 rfl (lv_at hl 0 rfl) ?_
  refine lv_bipush (v := 48) hx hb dX9_isDigit_1 (by decide) ?_
  refine lv_icmp_lt (tgt := 16) hx hb dX9_isDigit_3 (by decide) (fun c3 => ?_) (fun c3 => ?_)
  · refine lv_iconst (v := 0) hx hb dX9_isDigit_16 (by decide) ?_
    exact hret _ _ ls (by simp [isInM, c3]) (by decide) dX9_isDigit_17
  · refine lv_iload_n hx hb dX9_isDigit_6 rfl (lv_at hl 0 rfl) ?_
    refine lv_bipush (v := 57) hx hb dX9_isDigit_7 (by decide) ?_
    refine lv_icmp_gt (tgt := 16) hx hb dX9_isDigit_9 (by decide) (fun c9 => ?_) (fun c9 => ?_)
    · refine lv_iconst (v := 0) hx hb dX9_isDigit_16 (by decide) ?_
      exact hret _ _ ls (by simp [isInM, c3, c9]) (by decide) dX9_isDigit_17
    · refine lv_iconst (v := 1) hx hb dX9_isDigit_12 (by decide) ?_
      refine lv_goto (tgt := 17) hx hb dX9_isDigit_13 (by decide) ?_
      exact hret _ _ ls (by simp [isInM, c3, c9]) (by decide) dX9_isDigit_17

set_option maxHeartbeats 4000000 in
set_option maxRecDepth 100000 in
theorem kX9_isLetter (l : Launch) (D : va_G) (cI cB : ClassId) (v : Int32)  : Rd l D (TY cI cB) yX9_isLetter wsX9_isLetter 0 0 [.int v] [] (isInM v 97 122) := by
  refine rd_z (cc := cX9_isLetter) (maxL := 1) (by decide) rfl (Nat.le_of_ble_eq_true rfl) ?_
  intro p_ e_ s_ m_ ar_ be_ me_ co_ ls Q_ hx hb hml hown hts hP hK hl hret
  have hown : s_.vm.findClass RX9 = some m_.cls := hown
  have hl : lv_has ls 1 [(0, .int v)] := hl
  refine lv_iload_n hx hb dX9_isLetter_0 rfl (lv_at hl 0 rfl) ?_
  refine lv_bipush (v := 97) hx hb dX9_isLetter_1 (by decide) ?_
  refine lv_icmp_lt (tgt := 16) hx hb dX9_isLetter_3 (by decide) (fun c3 => ?_) (fun c3 => ?_)
  · refine lv_iconst (v := 0) hx hb dX9_isLetter_16 (by decide) ?_
    exact hret _ _ ls (by simp [isInM, c3]) (by decide) dX9_isLetter_17
  · refine lv_iload_n hx hb dX9_isLetter_6 rfl (lv_at hl 0 rfl) ?_
    refine lv_bipush (v := 122) hx hb dX9_isLetter_7 (by decide) ?_
    refine lv_icmp_gt (tgt := 16) hx hb dX9_isLetter_9 (by decide) (fun c9 => ?_) (fun c9 => ?_)
    · refine lv_iconst (v := 0) hx hb dX9_isLetter_16 (by decide) ?_
      exact hret _ _ ls (by simp [isInM, c3, c9]) (by decide) dX9_isLetter_17
    · refine lv_iconst (v := 1) hx hb dX9_isLetter_12 (by decide) ?_
      refine lv_goto (tgt := 17) hx hb dX9_isLetter_13 (by decide) ?_
      exact hret _ _ ls (by simp [isInM, c3, c9]) (by decide) dX9_isLetter_17

theorem isInM_nar (v a b : Int32) : narrow .boolean (.int (isInM v a b)) = .int (isInM v a b) := by
  unfold isInM
  by_cases h : v < a
  · rw [if_pos h]; rfl
  · rw [if_neg h]
    by_cases h2 : b < v
    · rw [if_pos h2]; rfl
    · rw [if_neg h2]; rfl
theorem hasM_nar (v a : Int32) : narrow .boolean (.int (hasM v a)) = .int (hasM v a) := by
  unfold hasM
  by_cases h : v >>> (a &&& 31) &&& 1 = 1
  · rw [if_pos h]; rfl
  · rw [if_neg h]; rfl
set_option maxHeartbeats 4000000 in
set_option maxRecDepth 100000 in
theorem kX9_isDay (l : Launch) (D : va_G) (cI cB : ClassId) (v : Int32)  : Rd l D (TY cI cB) yX9_isDay wsX9_isDay 1 22 [.int v] [] (isInM v 0 499) := by
  refine rd_z (cc := cX9_isDay) (maxL := 1) (by decide) rfl (Nat.le_of_ble_eq_true rfl) ?_
  intro p_ e_ s_ m_ ar_ be_ me_ co_ ls Q_ hx hb hml hown hts hP hK hl hret
  have hown : s_.vm.findClass RX9 = some m_.cls := hown
  have hl : lv_has ls 1 [(0, .int v)] := hl
  refine lv_iload_n hx hb dX9_isDay_0 rfl (lv_at hl 0 rfl) ?_
  refine lv_iconst (v := 0) hx hb dX9_isDay_1 (by decide) ?_
  refine lv_sipush (v := 499) hx hb dX9_isDay_2 (by decide) ?_
  refine rd_S (As := [.int v, .int 0, .int 499]) (rest := []) (kX9_isIn l D cI cB v 0 499 ) ⟨hx, hb, hml, hown, hts⟩ (va_cwS 3 hts gX9_isDay_X9_isIn rfl rfl rfl (by decide +kernel) ⟨Nat.le_of_ble_eq_true rfl, Nat.le_of_ble_eq_true rfl⟩) hK hP [] rfl rfl rfl hl.1 (Nat.le_of_ble_eq_true rfl) dX9_isDay_5 ⟨Nat.le_refl _, Nat.le_refl _⟩ ?_
  exact hret _ _ ls (rfl) (isInM_nar _ _ _) dX9_isDay_8

