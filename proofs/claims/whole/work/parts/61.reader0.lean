/-! the reader: lines, kind and place of the fault, place, start, token, value, numbers -/
abbrev XSt : Type := Nat × Int32 × Nat × Nat × Nat × Int32 × Int32 × (Nat → Int32)
abbrev DYt : Type := (Nat → Nat → Int32) × (Nat → Nat → Int32) × (Nat → Nat) × (Nat → Int32)
def blaX (v : Int32) : Int32 := if v = 32 then 1 else if v = 10 then 1 else 0
def tpX (B : Nat → Int32) (n q : Nat) : Int32 := tapeX B n (nI q)
def isaX (B : Nat → Int32) (n q : Nat) : Bool := decide (q < n) && !(decide (isInM (tpX B n q) 97 122 = 0) && decide (isInM (tpX B n q) 48 57 = 0))
def isbX (B : Nat → Int32) (n st q : Nat) : Bool := decide (q < st) && decide (¬ blaX (tpX B n q) = 0)
def ltX (B : Nat → Int32) (n s : Nat) : Nat → Int32
  | 0 => 0
  | k + 1 => if isInM (tpX B n (s + k)) 97 122 = 0 then ltX B n s k else ltX B n s k + 1
def dgX (B : Nat → Int32) (n s : Nat) : Nat → Int32
  | 0 => 0
  | k + 1 => if isInM (tpX B n (s + k)) 97 122 = 0 then dgX B n s k + 1 else dgX B n s k
def vlX (B : Nat → Int32) (n s : Nat) : Nat → Int32
  | 0 => 0
  | k + 1 => if isInM (tpX B n (s + k)) 97 122 = 0 then vlX B n s k * 10 + (tpX B n (s + k) - 48) else vlX B n s k
theorem ltX_s (B : Nat → Int32) (n s k : Nat) : ltX B n s (k + 1) = if isInM (tpX B n (s + k)) 97 122 = 0 then ltX B n s k else ltX B n s k + 1 := rfl
theorem dgX_s (B : Nat → Int32) (n s k : Nat) : dgX B n s (k + 1) = if isInM (tpX B n (s + k)) 97 122 = 0 then dgX B n s k + 1 else dgX B n s k := rfl
theorem vlX_s (B : Nat → Int32) (n s k : Nat) : vlX B n s (k + 1) = if isInM (tpX B n (s + k)) 97 122 = 0 then vlX B n s k * 10 + (tpX B n (s + k) - 48) else vlX B n s k := rfl
def tk2 (l d : Int32) : Int32 := if l = 0 then (if d ≤ 0 then 4 else if 5 < d then 4 else 2) else 4
def tkX (l d : Int32) : Int32 := if l ≤ 0 then tk2 l d else if d = 0 then 1 else tk2 l d
def ruE (B : Nat → Int32) (n s : Nat) : Nat := bl (isaX B n) (n - s) s
def runX (B : Nat → Int32) (n : Nat) (S : XSt) : XSt := (S.1, S.2.1, S.2.2.1, ruE B n S.2.2.2.1, S.2.2.2.2.1, tkX (ltX B n S.2.2.2.1 (ruE B n S.2.2.2.1 - S.2.2.2.1)) (dgX B n S.2.2.2.1 (ruE B n S.2.2.2.1 - S.2.2.2.1)), vlX B n S.2.2.2.1 (ruE B n S.2.2.2.1 - S.2.2.2.1), S.2.2.2.2.2.2.2)
def stoX (n : Nat) : Nat := if 800 < n then 800 else n
def toP (B : Nat → Int32) (n p : Nat) : Nat := bl (isbX B n (stoX n)) (stoX n - p) p
def tokX (B : Nat → Int32) (n : Nat) (S : XSt) : XSt :=
  if toP B n S.2.2.2.1 < stoX n then
    (if tpX B n (toP B n S.2.2.2.1) = 59 then (S.1, S.2.1, S.2.2.1, toP B n S.2.2.2.1 + 1, toP B n S.2.2.2.1, 3, S.2.2.2.2.2.2.1, S.2.2.2.2.2.2.2)
     else runX B n (S.1, S.2.1, S.2.2.1, toP B n S.2.2.2.1, toP B n S.2.2.2.1, S.2.2.2.2.2.1, S.2.2.2.2.2.2.1, S.2.2.2.2.2.2.2))
  else (S.1, S.2.1, S.2.2.1, toP B n S.2.2.2.1, stoX n, 0, S.2.2.2.2.2.2.1, S.2.2.2.2.2.2.2)
def failX (S : XSt) (k : Int32) : XSt := (S.1, k, S.2.2.2.2.1, S.2.2.2.1, S.2.2.2.2.1, S.2.2.2.2.2.1, S.2.2.2.2.2.2.1, S.2.2.2.2.2.2.2)
theorem isaX_T {B : Nat → Int32} {n q : Nat} (hq : q < n) (h : ¬ isInM (tpX B n q) 97 122 = 0 ∨ ¬ isInM (tpX B n q) 48 57 = 0) : isaX B n q = true := by
  unfold isaX; rw [decide_eq_true hq]; rcases h with h | h <;> simp [h]
theorem isaX_F {B : Nat → Int32} {n q : Nat} (h : n ≤ q ∨ (isInM (tpX B n q) 97 122 = 0 ∧ isInM (tpX B n q) 48 57 = 0)) : isaX B n q = false := by
  unfold isaX
  rcases h with h | ⟨h1, h2⟩
  · rw [decide_eq_false (by omega)]; rfl
  · simp [h1, h2]
theorem isbX_T {B : Nat → Int32} {n st q : Nat} (hq : q < st) (h : ¬ blaX (tpX B n q) = 0) : isbX B n st q = true := by
  unfold isbX; rw [decide_eq_true hq]; simp [h]
theorem isbX_F {B : Nat → Int32} {n st q : Nat} (h : st ≤ q ∨ blaX (tpX B n q) = 0) : isbX B n st q = false := by
  unfold isbX
  rcases h with h | h
  · rw [decide_eq_false (by omega)]; rfl
  · simp [h]
theorem stoX_min {n : Nat} (hn : n ≤ 840) : min32 (nI n) 800 = nI (stoX n) := by
  unfold min32 stoX
  show (if nI 800 < nI n then nI 800 else nI n) = _
  by_cases h : 800 < n
  · rw [if_pos ((nI_ltI (a := 800) (by omega) (by omega)).mpr h), if_pos h]
  · rw [if_neg (fun z => h ((nI_ltI (a := 800) (by omega) (by omega)).mp z)), if_neg h]
theorem stoX_le (n : Nat) : stoX n ≤ n ∧ stoX n ≤ 800 := by unfold stoX; split <;> omega
theorem toP_in {B : Nat → Int32} {n p : Nat} : p ≤ toP B n p ∧ toP B n p ≤ p + (stoX n - p) := ⟨bl_ge _ _ _, bl_le _ _ _⟩
set_option maxHeartbeats 4000000 in
set_option maxRecDepth 100000 in
theorem kX4_isBlank (l : Launch) (D : va_G) (cI cB : ClassId) (v : Int32)  : Rd l D (TY cI cB) yX4_isBlank wsX4_isBlank 0 0 [.int v] [] (blaX v) := by
  refine rd_z (cc := cX4_isBlank) (maxL := 1) (by decide) rfl (Nat.le_of_ble_eq_true rfl) ?_
  intro p_ e_ s_ m_ ar_ be_ me_ co_ ls Q_ hx hb hml hown hts hP hK hl hret
  have hown : s_.vm.findClass RX4 = some m_.cls := hown
  have hl : lv_has ls 1 [(0, .int v)] := hl
  refine lv_iload_n hx hb dX4_isBlank_0 rfl (lv_at hl 0 rfl) ?_
  refine lv_bipush (v := 32) hx hb dX4_isBlank_1 (by decide) ?_
  refine lv_icmp_eq (tgt := 12) hx hb dX4_isBlank_3 (by decide) (fun c3 => ?_) (fun c3 => ?_)
  · refine lv_iconst (v := 1) hx hb dX4_isBlank_12 (by decide) ?_
    refine lv_goto (tgt := 17) hx hb dX4_isBlank_13 (by decide) ?_
    exact hret _ _ ls (by simp [blaX, c3]) (by decide) dX4_isBlank_17
  · refine lv_iload_n hx hb dX4_isBlank_6 rfl (lv_at hl 0 rfl) ?_
    refine lv_bipush (v := 10) hx hb dX4_isBlank_7 (by decide) ?_
    refine lv_icmp_ne (tgt := 16) hx hb dX4_isBlank_9 (by decide) (fun c9 => ?_) (fun c9 => ?_)
    · refine lv_iconst (v := 0) hx hb dX4_isBlank_16 (by decide) ?_
      exact hret _ _ ls (by simp [blaX, c3, c9]) (by decide) dX4_isBlank_17
    · refine lv_iconst (v := 1) hx hb dX4_isBlank_12 (by decide) ?_
      refine lv_goto (tgt := 17) hx hb dX4_isBlank_13 (by decide) ?_
      exact hret _ _ ls (by simp [blaX, c3, c9]) (by decide) dX4_isBlank_17

set_option maxHeartbeats 4000000 in
set_option maxRecDepth 100000 in
theorem kX4_isLetter (l : Launch) (D : va_G) (cI cB : ClassId) (v : Int32)  : Rd l D (TY cI cB) yX4_isLetter wsX4_isLetter 0 0 [.int v] [] (isInM v 97 122) := by
  refine rd_z (cc := cX4_isLetter) (maxL := 1) (by decide) rfl (Nat.le_of_ble_eq_true rfl) ?_
  intro p_ e_ s_ m_ ar_ be_ me_ co_ ls Q_ hx hb hml hown hts hP hK hl hret
  have hown : s_.vm.findClass RX4 = some m_.cls := hown
  have hl : lv_has ls 1 [(0, .int v)] := hl
  refine lv_iload_n hx hb dX4_isLetter_0 rfl (lv_at hl 0 rfl) ?_
  refine lv_bipush (v := 97) hx hb dX4_isLetter_1 (by decide) ?_
  refine lv_icmp_lt (tgt := 16) hx hb dX4_isLetter_3 (by decide) (fun c3 => ?_) (fun c3 => ?_)
  · refine lv_iconst (v := 0) hx hb dX4_isLetter_16 (by decide) ?_
    exact hret _ _ ls (by simp [isInM, c3]) (by decide) dX4_isLetter_17
  · refine lv_iload_n hx hb dX4_isLetter_6 rfl (lv_at hl 0 rfl) ?_
    refine lv_bipush (v := 122) hx hb dX4_isLetter_7 (by decide) ?_
    refine lv_icmp_gt (tgt := 16) hx hb dX4_isLetter_9 (by decide) (fun c9 => ?_) (fun c9 => ?_)
    · refine lv_iconst (v := 0) hx hb dX4_isLetter_16 (by decide) ?_
      exact hret _ _ ls (by simp [isInM, c3, c9]) (by decide) dX4_isLetter_17
    · refine lv_iconst (v := 1) hx hb dX4_isLetter_12 (by decide) ?_
      refine lv_goto (tgt := 17) hx hb dX4_isLetter_13 (by decide) ?_
      exact hret _ _ ls (by simp [isInM, c3, c9]) (by decide) dX4_isLetter_17

set_option maxHeartbeats 4000000 in
set_option maxRecDepth 100000 in
theorem kX4_isDigit (l : Launch) (D : va_G) (cI cB : ClassId) (v : Int32)  : Rd l D (TY cI cB) yX4_isDigit wsX4_isDigit 0 0 [.int v] [] (isInM v 48 57) := by
  refine rd_z (cc := cX4_isDigit) (maxL := 1) (by decide) rfl (Nat.le_of_ble_eq_true rfl) ?_
  intro p_ e_ s_ m_ ar_ be_ me_ co_ ls Q_ hx hb hml hown hts hP hK hl hret
  have hown : s_.vm.findClass RX4 = some m_.cls := hown
  have hl : lv_has ls 1 [(0, .int v)] := hl
  refine lv_iload_n hx hb dX4_isDigit_0 rfl (lv_at hl 0 rfl) ?_
  refine lv_bipush (v := 48) hx hb dX4_isDigit_1 (by decide) ?_
  refine lv_icmp_lt (tgt := 16) hx hb dX4_isDigit_3 (by decide) (fun c3 => ?_) (fun c3 => ?_)
  · refine lv_iconst (v := 0) hx hb dX4_isDigit_16 (by decide) ?_
    exact hret _ _ ls (by simp [isInM, c3]) (by decide) dX4_isDigit_17
  · refine lv_iload_n hx hb dX4_isDigit_6 rfl (lv_at hl 0 rfl) ?_
    refine lv_bipush (v := 57) hx hb dX4_isDigit_7 (by decide) ?_
    refine lv_icmp_gt (tgt := 16) hx hb dX4_isDigit_9 (by decide) (fun c9 => ?_) (fun c9 => ?_)
    · refine lv_iconst (v := 0) hx hb dX4_isDigit_16 (by decide) ?_
      exact hret _ _ ls (by simp [isInM, c3, c9]) (by decide) dX4_isDigit_17
    · refine lv_iconst (v := 1) hx hb dX4_isDigit_12 (by decide) ?_
      refine lv_goto (tgt := 17) hx hb dX4_isDigit_13 (by decide) ?_
      exact hret _ _ ls (by simp [isInM, c3, c9]) (by decide) dX4_isDigit_17

theorem in_X4_fail_4 : ∀ w ∈ wsX40, w ∈ wsX4_fail := fun _ h => List.mem_cons_of_mem _ (List.mem_append_right _ (h))
set_option maxHeartbeats 4000000 in
set_option maxRecDepth 100000 in
theorem kX4_fail (l : Launch) (D : va_G) (cI cB : ClassId) (rdr nb : Nat) (S : XSt) (k : Int32)  : Wr l D (TY cI cB) yX4_fail wsX4_fail 0 0 [.ref rdr, .int k] [(rdr, .inr (4, [.ref nb, .int (nI S.1), .int S.2.1, .int (nI S.2.2.1), .int (nI S.2.2.2.1), .int (nI S.2.2.2.2.1), .int S.2.2.2.2.2.1, .int S.2.2.2.2.2.2.1])), (nb, .inl (cI, 3, .inl S.2.2.2.2.2.2.2))] [(rdr, .inr (4, [.ref nb, .int (nI (failX S k).1), .int (failX S k).2.1, .int (nI (failX S k).2.2.1), .int (nI (failX S k).2.2.2.1), .int (nI (failX S k).2.2.2.2.1), .int (failX S k).2.2.2.2.2.1, .int (failX S k).2.2.2.2.2.2.1])), (nb, .inl (cI, 3, .inl (failX S k).2.2.2.2.2.2.2))] none := by
  refine wr_v (cc := cX4_fail) (maxL := 2) (by decide) rfl (Nat.le_of_ble_eq_true rfl) ?_
  intro p_ e_ s_ m_ ar_ be_ me_ co_ ls Q_ A_ hx hb hml hown hts hP hK hD hS hl hret
  have hown : s_.vm.findClass RX4 = some m_.cls := hown
  have hl : lv_has ls 2 [(0, .ref rdr), (1, .int k)] := hl
  refine lv_aload_n hx hb dX4_fail_0 rfl (lv_at hl 0 rfl) ?_
  refine lv_iload_n hx hb dX4_fail_1 rfl (lv_at hl 1 rfl) ?_
  refine g_put (C := RX4) (T := TX4) (N := 8) (ci := 4) (index := 24) (v := .int k) (ws' := [(rdr, .inr (4, [.ref nb, .int (nI S.1), .int k, .int (nI S.2.2.1), .int (nI S.2.2.2.1), .int (nI S.2.2.2.2.1), .int S.2.2.2.2.2.1, .int S.2.2.2.2.2.2.1])), (nb, .inl (cI, 3, .inl S.2.2.2.2.2.2.2))]) hx hb hts in_X4_fail_4 tyX4 tyX4_ok nmX4 hown hK hP hD hS 0 2 rfl rfl (by decide) (List.mem_of_getElem? (i := 1) rfl) rfl rfl rfl (Nat.le_of_ble_eq_true rfl) dX4_fail_2 rfl (fun H_ lc_ hP hD hS => ?_)
  refine lv_aload_n hx hb dX4_fail_5 rfl (lv_at hl 0 rfl) ?_
  refine lv_aload_n hx hb dX4_fail_6 rfl (lv_at hl 0 rfl) ?_
  refine g_get (C := RX4) (T := TX4) (N := 8) (ci := 4) (index := 93) hx hb hts in_X4_fail_4 hown hK hP 0 5 rfl rfl (by decide) (List.mem_of_getElem? (i := 2) rfl) rfl dX4_fail_7 ?_
  refine g_put (C := RX4) (T := TX4) (N := 8) (ci := 4) (index := 27) (v := .int (nI S.2.2.2.2.1)) (ws' := [(rdr, .inr (4, [.ref nb, .int (nI S.1), .int k, .int (nI S.2.2.2.2.1), .int (nI S.2.2.2.1), .int (nI S.2.2.2.2.1), .int S.2.2.2.2.2.1, .int S.2.2.2.2.2.2.1])), (nb, .inl (cI, 3, .inl S.2.2.2.2.2.2.2))]) hx hb hts in_X4_fail_4 tyX4 tyX4_ok nmX4 hown hK hP hD hS 0 3 rfl rfl (by decide) (List.mem_of_getElem? (i := 3) rfl) rfl rfl rfl (Nat.le_of_ble_eq_true rfl) dX4_fail_10 rfl (fun H_ lc_ hP hD hS => ?_)
  exact hret _ _ _ ls hS (hP) dX4_fail_13

theorem in_X4_readRun_4 : ∀ w ∈ wsX40, w ∈ wsX4_readRun := fun _ h => List.mem_cons_of_mem _ (List.mem_append_left _ (List.mem_append_right _ (h)))
theorem in_X4_readRun_6 : ∀ w ∈ wsX60, w ∈ wsX4_readRun := fun _ h => List.mem_cons_of_mem _ (List.mem_append_right _ (h))
set_option maxHeartbeats 4000000 in
set_option maxRecDepth 100000 in
theorem kX4_readRun (l : Launch) (D : va_G) (cI cB : ClassId) (rdr nb : Nat) (S : XSt) (t tb n : Nat) (B : Nat → Int32) (hn : n ≤ 840) (hpl : S.2.2.2.1 ≤ n) : Wr l D (TY cI cB) yX4_readRun wsX4_readRun 1 21 [.ref rdr, .ref t] [(rdr, .inr (4, [.ref nb, .int (nI S.1), .int S.2.1, .int (nI S.2.2.1), .int (nI S.2.2.2.1), .int (nI S.2.2.2.2.1), .int S.2.2.2.2.2.1, .int S.2.2.2.2.2.2.1])), (nb, .inl (cI, 3, .inl S.2.2.2.2.2.2.2)), (t, .inr (6, [.ref tb, .int (nI n)])), (tb, .inl (cB, 840, .inl B))] [(rdr, .inr (4, [.ref nb, .int (nI (runX B n S).1), .int (runX B n S).2.1, .int (nI (runX B n S).2.2.1), .int (nI (runX B n S).2.2.2.1), .int (nI (runX B n S).2.2.2.2.1), .int (runX B n S).2.2.2.2.2.1, .int (runX B n S).2.2.2.2.2.2.1])), (nb, .inl (cI, 3, .inl (runX B n S).2.2.2.2.2.2.2)), (t, .inr (6, [.ref tb, .int (nI n)])), (tb, .inl (cB, 840, .inl B))] none := by
  refine wr_v (cc := cX4_readRun) (maxL := 5) (by decide) rfl (Nat.le_of_ble_eq_true rfl) ?_
  intro p_ e_ s_ m_ ar_ be_ me_ co_ ls Q_ A_ hx hb hml hown hts hP hK hD hS hl hret
  have hown : s_.vm.findClass RX4 = some m_.cls := hown
  have hl : lv_has ls 5 [(0, .ref rdr), (1, .ref t)] := hl
  refine lv_iconst (v := 0) hx hb dX4_readRun_0 (by decide) ?_
  refine lv_istore_n (lv' := [(2, .int 0), (0, .ref rdr), (1, .ref t)]) hx hb dX4_readRun_1 rfl hl (by decide) rfl (fun ls hl => ?_)
  refine lv_iconst (v := 0) hx hb dX4_readRun_2 (by decide) ?_
  refine lv_istore_n (lv' := [(3, .int 0), (2, .int 0), (0, .ref rdr), (1, .ref t)]) hx hb dX4_readRun_3 rfl hl (by decide) rfl (fun ls hl => ?_)
  refine lv_aload_n hx hb dX4_readRun_4 rfl (lv_at hl 2 rfl) ?_
  refine lv_iconst (v := 0) hx hb dX4_readRun_5 (by decide) ?_
  refine g_put (C := RX4) (T := TX4) (N := 8) (ci := 4) (index := 80) (v := .int 0) (ws' := [(rdr, .inr (4, [.ref nb, .int (nI S.1), .int S.2.1, .int (nI S.2.2.1), .int (nI S.2.2.2.1), .int (nI S.2.2.2.2.1), .int S.2.2.2.2.2.1, .int 0])), (nb, .inl (cI, 3, .inl S.2.2.2.2.2.2.2)), (t, .inr (6, [.ref tb, .int (nI n)])), (tb, .inl (cB, 840, .inl B))]) hx hb hts in_X4_readRun_4 tyX4 tyX4_ok nmX4 hown hK hP hD hS 0 7 rfl rfl (by decide) (List.mem_of_getElem? (i := 1) rfl) rfl rfl rfl (Nat.le_of_ble_eq_true rfl) dX4_readRun_6 rfl (fun H_ lc_ hP hD hS => ?_)
  have L9 : ∀ (nn_ : Nat) (k9 : Nat) (hk9 : S.2.2.2.1 + k9 ≤ n) (hinv : bl (isaX B n) (n - (S.2.2.2.1 + k9)) (S.2.2.2.1 + k9) = ruE B n S.2.2.2.1) (xx_v2 : Int32) (xx_v3 : Int32) (xx_u0_4 : Int32) (xx_u0_7 : Int32), (n - (S.2.2.2.1 + k9)) < nn_ → xx_v2 = ltX B n S.2.2.2.1 k9 → xx_v3 = dgX B n S.2.2.2.1 k9 → xx_u0_4 = nI (S.2.2.2.1 + k9) → xx_u0_7 = vlX B n S.2.2.2.1 k9 → ∀ (H_ : Heap) (lc_ : List Loc), va_P D vwCl [(rdr, .inr (4, [.ref nb, .int (nI S.1), .int S.2.1, .int (nI S.2.2.1), .int xx_u0_4, .int (nI S.2.2.2.2.1), .int S.2.2.2.2.2.1, .int xx_u0_7])), (nb, .inl (cI, 3, .inl S.2.2.2.2.2.2.2)), (t, .inr (6, [.ref tb, .int (nI n)])), (tb, .inl (cB, 840, .inl B))] H_ → va_D A_ [(rdr, .inr (4, [.ref nb, .int (nI S.1), .int S.2.1, .int (nI S.2.2.1), .int xx_u0_4, .int (nI S.2.2.2.2.1), .int S.2.2.2.2.2.1, .int xx_u0_7])), (nb, .inl (cI, 3, .inl S.2.2.2.2.2.2.2)), (t, .inr (6, [.ref tb, .int (nI n)])), (tb, .inl (cB, 840, .inl B))] → va_S A_ s_.heap H_ lc_ → ∀ (ls : Array Slot), lv_has ls 5 [(0, .ref rdr), (1, .ref t), (2, .int xx_v2), (3, .int xx_v3)] → W p_ l e_ (RM 1 21) s_ m_ ar_ be_ me_ co_ H_ lc_ 0 0 Q_ (F0 m_ 9 ls []) := by
    intro nn_
    induction nn_ with
    | zero => intro k9 hk9 hinv xx_v2 xx_v3 xx_u0_4 xx_u0_7 hn_; exact absurd hn_ (Nat.not_lt_zero _)
    | succ nn_ ih9 =>
      intro k9 hk9 hinv xx_v2 xx_v3 xx_u0_4 xx_u0_7 hn_ e_xx_v2 e_xx_v3 e_xx_u0_4 e_xx_u0_7 H_ lc_ hP hD hS ls hl
      subst e_xx_v2 e_xx_v3 e_xx_u0_4 e_xx_u0_7
      refine lv_aload_n hx hb dX4_readRun_9 rfl (lv_at hl 0 rfl) ?_
      refine g_get (C := RX4) (T := TX4) (N := 8) (ci := 4) (index := 30) hx hb hts in_X4_readRun_4 hown hK hP 0 4 rfl rfl (by decide) (List.mem_of_getElem? (i := 2) rfl) rfl dX4_readRun_10 ?_
      refine lv_aload_n hx hb dX4_readRun_13 rfl (lv_at hl 1 rfl) ?_
      refine g_get (C := RX6) (T := TX6) (N := 2) (ci := 6) (index := 47) hx hb hts in_X4_readRun_6 hown hK hP 2 1 rfl rfl (by decide) (List.mem_of_getElem? (i := 3) rfl) rfl dX4_readRun_14 ?_
      refine lv_icmp_ge (tgt := 105) hx hb dX4_readRun_17 (by decide) (fun c17 => ?_) (fun c17 => ?_)
      · have hE : S.2.2.2.1 + k9 = ruE B n S.2.2.2.1 := by rw [← hinv]; exact (bl_F (isaX_F (by first | exact Or.inl (ge_nI c17 (by omega) (by omega)) | exact Or.inr ⟨c31, c45⟩))).symm
        have hk : k9 = ruE B n S.2.2.2.1 - S.2.2.2.1 := by omega
        refine lv_iload_n hx hb dX4_readRun_105 rfl (lv_at hl 2 rfl) ?_
        refine lv_if_le (tgt := 121) hx hb dX4_readRun_106 (by decide) (fun c106 => ?_) (fun c106 => ?_)
        · refine lv_iload_n hx hb dX4_readRun_121 rfl (lv_at hl 2 rfl) ?_
          refine lv_if_ne (tgt := 142) hx hb dX4_readRun_122 (by decide) (fun c122 => ?_) (fun c122 => ?_)
          · refine lv_aload_n hx hb dX4_readRun_142 rfl (lv_at hl 0 rfl) ?_
            refine lv_iconst (v := 4) hx hb dX4_readRun_143 (by decide) ?_
            refine g_put (C := RX4) (T := TX4) (N := 8) (ci := 4) (index := 37) (v := .int 4) (ws' := [(rdr, .inr (4, [.ref nb, .int (nI S.1), .int S.2.1, .int (nI S.2.2.1), .int (nI (S.2.2.2.1 + k9)), .int (nI S.2.2.2.2.1), .int 4, .int (vlX B n S.2.2.2.1 k9)])), (nb, .inl (cI, 3, .inl S.2.2.2.2.2.2.2)), (t, .inr (6, [.ref tb, .int (nI n)])), (tb, .inl (cB, 840, .inl B))]) hx hb hts in_X4_readRun_4 tyX4 tyX4_ok nmX4 hown hK hP hD hS 0 6 rfl rfl (by decide) (List.mem_of_getElem? (i := 4) rfl) rfl rfl rfl (Nat.le_of_ble_eq_true rfl) dX4_readRun_144 rfl (fun H_ lc_ hP hD hS => ?_)
            exact hret _ _ _ ls hS (by unfold runX; rw [← hk, ← hE]; unfold tkX; rw [if_pos c106]; unfold tk2; rw [if_neg c122]; exact hP) dX4_readRun_147
          · refine lv_iload_n hx hb dX4_readRun_125 rfl (lv_at hl 3 rfl) ?_
            refine lv_if_le (tgt := 142) hx hb dX4_readRun_126 (by decide) (fun c126 => ?_) (fun c126 => ?_)
            · refine lv_aload_n hx hb dX4_readRun_142 rfl (lv_at hl 0 rfl) ?_
              refine lv_iconst (v := 4) hx hb dX4_readRun_143 (by decide) ?_
              refine g_put (C := RX4) (T := TX4) (N := 8) (ci := 4) (index := 37) (v := .int 4) (ws' := [(rdr, .inr (4, [.ref nb, .int (nI S.1), .int S.2.1, .int (nI S.2.2.1), .int (nI (S.2.2.2.1 + k9)), .int (nI S.2.2.2.2.1), .int 4, .int (vlX B n S.2.2.2.1 k9)])), (nb, .inl (cI, 3, .inl S.2.2.2.2.2.2.2)), (t, .inr (6, [.ref tb, .int (nI n)])), (tb, .inl (cB, 840, .inl B))]) hx hb hts in_X4_readRun_4 tyX4 tyX4_ok nmX4 hown hK hP hD hS 0 6 rfl rfl (by decide) (List.mem_of_getElem? (i := 4) rfl) rfl rfl rfl (Nat.le_of_ble_eq_true rfl) dX4_readRun_144 rfl (fun H_ lc_ hP hD hS => ?_)
              exact hret _ _ _ ls hS (by unfold runX; rw [← hk, ← hE]; unfold tkX; rw [if_pos c106]; unfold tk2; rw [if_pos c122, if_pos c126]; exact hP) dX4_readRun_147
            · refine lv_iload_n hx hb dX4_readRun_129 rfl (lv_at hl 3 rfl) ?_
              refine lv_iconst (v := 5) hx hb dX4_readRun_130 (by decide) ?_
              refine lv_icmp_gt (tgt := 142) hx hb dX4_readRun_131 (by decide) (fun c131 => ?_) (fun c131 => ?_)
              · refine lv_aload_n hx hb dX4_readRun_142 rfl (lv_at hl 0 rfl) ?_
                refine lv_iconst (v := 4) hx hb dX4_readRun_143 (by decide) ?_
                refine g_put (C := RX4) (T := TX4) (N := 8) (ci := 4) (index := 37) (v := .int 4) (ws' := [(rdr, .inr (4, [.ref nb, .int (nI S.1), .int S.2.1, .int (nI S.2.2.1), .int (nI (S.2.2.2.1 + k9)), .int (nI S.2.2.2.2.1), .int 4, .int (vlX B n S.2.2.2.1 k9)])), (nb, .inl (cI, 3, .inl S.2.2.2.2.2.2.2)), (t, .inr (6, [.ref tb, .int (nI n)])), (tb, .inl (cB, 840, .inl B))]) hx hb hts in_X4_readRun_4 tyX4 tyX4_ok nmX4 hown hK hP hD hS 0 6 rfl rfl (by decide) (List.mem_of_getElem? (i := 4) rfl) rfl rfl rfl (Nat.le_of_ble_eq_true rfl) dX4_readRun_144 rfl (fun H_ lc_ hP hD hS => ?_)
                exact hret _ _ _ ls hS (by unfold runX; rw [← hk, ← hE]; unfold tkX; rw [if_pos c106]; unfold tk2; rw [if_pos c122, if_neg c126, if_pos c131]; exact hP) dX4_readRun_147
              · refine lv_aload_n hx hb dX4_readRun_134 rfl (lv_at hl 0 rfl) ?_
                refine lv_iconst (v := 2) hx hb dX4_readRun_135 (by decide) ?_
                refine g_put (C := RX4) (T := TX4) (N := 8) (ci := 4) (index := 37) (v := .int 2) (ws' := [(rdr, .inr (4, [.ref nb, .int (nI S.1), .int S.2.1, .int (nI S.2.2.1), .int (nI (S.2.2.2.1 + k9)), .int (nI S.2.2.2.2.1), .int 2, .int (vlX B n S.2.2.2.1 k9)])), (nb, .inl (cI, 3, .inl S.2.2.2.2.2.2.2)), (t, .inr (6, [.ref tb, .int (nI n)])), (tb, .inl (cB, 840, .inl B))]) hx hb hts in_X4_readRun_4 tyX4 tyX4_ok nmX4 hown hK hP hD hS 0 6 rfl rfl (by decide) (List.mem_of_getElem? (i := 4) rfl) rfl rfl rfl (Nat.le_of_ble_eq_true rfl) dX4_readRun_136 rfl (fun H_ lc_ hP hD hS => ?_)
                refine lv_goto (tgt := 147) hx hb dX4_readRun_139 (by decide) ?_
                exact hret _ _ _ ls hS (by unfold runX; rw [← hk, ← hE]; unfold tkX; rw [if_pos c106]; unfold tk2; rw [if_pos c122, if_neg c126, if_neg c131]; exact hP) dX4_readRun_147
        · refine lv_iload_n hx hb dX4_readRun_109 rfl (lv_at hl 3 rfl) ?_
          refine lv_if_ne (tgt := 121) hx hb dX4_readRun_110 (by decide) (fun c110 => ?_) (fun c110 => ?_)
          · refine lv_iload_n hx hb dX4_readRun_121 rfl (lv_at hl 2 rfl) ?_
            refine lv_if_ne (tgt := 142) hx hb dX4_readRun_122 (by decide) (fun c122 => ?_) (fun c122 => ?_)
            · refine lv_aload_n hx hb dX4_readRun_142 rfl (lv_at hl 0 rfl) ?_
              refine lv_iconst (v := 4) hx hb dX4_readRun_143 (by decide) ?_
              refine g_put (C := RX4) (T := TX4) (N := 8) (ci := 4) (index := 37) (v := .int 4) (ws' := [(rdr, .inr (4, [.ref nb, .int (nI S.1), .int S.2.1, .int (nI S.2.2.1), .int (nI (S.2.2.2.1 + k9)), .int (nI S.2.2.2.2.1), .int 4, .int (vlX B n S.2.2.2.1 k9)])), (nb, .inl (cI, 3, .inl S.2.2.2.2.2.2.2)), (t, .inr (6, [.ref tb, .int (nI n)])), (tb, .inl (cB, 840, .inl B))]) hx hb hts in_X4_readRun_4 tyX4 tyX4_ok nmX4 hown hK hP hD hS 0 6 rfl rfl (by decide) (List.mem_of_getElem? (i := 4) rfl) rfl rfl rfl (Nat.le_of_ble_eq_true rfl) dX4_readRun_144 rfl (fun H_ lc_ hP hD hS => ?_)
              exact hret _ _ _ ls hS (by unfold runX; rw [← hk, ← hE]; unfold tkX; rw [if_neg c106, if_neg c110]; unfold tk2; rw [if_neg c122]; exact hP) dX4_readRun_147
            · refine lv_iload_n hx hb dX4_readRun_125 rfl (lv_at hl 3 rfl) ?_
              refine lv_if_le (tgt := 142) hx hb dX4_readRun_126 (by decide) (fun c126 => ?_) (fun c126 => ?_)
              · refine lv_aload_n hx hb dX4_readRun_142 rfl (lv_at hl 0 rfl) ?_
                refine lv_iconst (v := 4) hx hb dX4_readRun_143 (by decide) ?_
                refine g_put (C := RX4) (T := TX4) (N := 8) (ci := 4) (index := 37) (v := .int 4) (ws' := [(rdr, .inr (4, [.ref nb, .int (nI S.1), .int S.2.1, .int (nI S.2.2.1), .int (nI (S.2.2.2.1 + k9)), .int (nI S.2.2.2.2.1), .int 4, .int (vlX B n S.2.2.2.1 k9)])), (nb, .inl (cI, 3, .inl S.2.2.2.2.2.2.2)), (t, .inr (6, [.ref tb, .int (nI n)])), (tb, .inl (cB, 840, .inl B))]) hx hb hts in_X4_readRun_4 tyX4 tyX4_ok nmX4 hown hK hP hD hS 0 6 rfl rfl (by decide) (List.mem_of_getElem? (i := 4) rfl) rfl rfl rfl (Nat.le_of_ble_eq_true rfl) dX4_readRun_144 rfl (fun H_ lc_ hP hD hS => ?_)
                exact hret _ _ _ ls hS (by unfold runX; rw [← hk, ← hE]; unfold tkX; rw [if_neg c106, if_neg c110]; unfold tk2; rw [if_pos c122, if_pos c126]; exact hP) dX4_readRun_147
              · refine lv_iload_n hx hb dX4_readRun_129 rfl (lv_at hl 3 rfl) ?_
                refine lv_iconst (v := 5) hx hb dX4_readRun_130 (by decide) ?_
                refine lv_icmp_gt (tgt := 142) hx hb dX4_readRun_131 (by decide) (fun c131 => ?_) (fun c131 => ?_)
                · refine lv_aload_n hx hb dX4_readRun_142 rfl (lv_at hl 0 rfl) ?_
                  refine lv_iconst (v := 4) hx hb dX4_readRun_143 (by decide) ?_
                  refine g_put (C := RX4) (T := TX4) (N := 8) (ci := 4) (index := 37) (v := .int 4) (ws' := [(rdr, .inr (4, [.ref nb, .int (nI S.1), .int S.2.1, .int (nI S.2.2.1), .int (nI (S.2.2.2.1 + k9)), .int (nI S.2.2.2.2.1), .int 4, .int (vlX B n S.2.2.2.1 k9)])), (nb, .inl (cI, 3, .inl S.2.2.2.2.2.2.2)), (t, .inr (6, [.ref tb, .int (nI n)])), (tb, .inl (cB, 840, .inl B))]) hx hb hts in_X4_readRun_4 tyX4 tyX4_ok nmX4 hown hK hP hD hS 0 6 rfl rfl (by decide) (List.mem_of_getElem? (i := 4) rfl) rfl rfl rfl (Nat.le_of_ble_eq_true rfl) dX4_readRun_144 rfl (fun H_ lc_ hP hD hS => ?_)
                  exact hret _ _ _ ls hS (by unfold runX; rw [← hk, ← hE]; unfold tkX; rw [if_neg c106, if_neg c110]; unfold tk2; rw [if_pos c122, if_neg c126, if_pos c131]; exact hP) dX4_readRun_147
                · refine lv_aload_n hx hb dX4_readRun_134 rfl (lv_at hl 0 rfl) ?_
                  refine lv_iconst (v := 2) hx hb dX4_readRun_135 (by decide) ?_
                  refine g_put (C := RX4) (T := TX4) (N := 8) (ci := 4) (index := 37) (v := .int 2) (ws' := [(rdr, .inr (4, [.ref nb, .int (nI S.1), .int S.2.1, .int (nI S.2.2.1), .int (nI (S.2.2.2.1 + k9)), .int (nI S.2.2.2.2.1), .int 2, .int (vlX B n S.2.2.2.1 k9)])), (nb, .inl (cI, 3, .inl S.2.2.2.2.2.2.2)), (t, .inr (6, [.ref tb, .int (nI n)])), (tb, .inl (cB, 840, .inl B))]) hx hb hts in_X4_readRun_4 tyX4 tyX4_ok nmX4 hown hK hP hD hS 0 6 rfl rfl (by decide) (List.mem_of_getElem? (i := 4) rfl) rfl rfl rfl (Nat.le_of_ble_eq_true rfl) dX4_readRun_136 rfl (fun H_ lc_ hP hD hS => ?_)
                  refine lv_goto (tgt := 147) hx hb dX4_readRun_139 (by decide) ?_
                  exact hret _ _ _ ls hS (by unfold runX; rw [← hk, ← hE]; unfold tkX; rw [if_neg c106, if_neg c110]; unfold tk2; rw [if_pos c122, if_neg c126, if_neg c131]; exact hP) dX4_readRun_147
          · refine lv_aload_n hx hb dX4_readRun_113 rfl (lv_at hl 0 rfl) ?_
            refine lv_iconst (v := 1) hx hb dX4_readRun_114 (by decide) ?_
            refine g_put (C := RX4) (T := TX4) (N := 8) (ci := 4) (index := 37) (v := .int 1) (ws' := [(rdr, .inr (4, [.ref nb, .int (nI S.1), .int S.2.1, .int (nI S.2.2.1), .int (nI (S.2.2.2.1 + k9)), .int (nI S.2.2.2.2.1), .int 1, .int (vlX B n S.2.2.2.1 k9)])), (nb, .inl (cI, 3, .inl S.2.2.2.2.2.2.2)), (t, .inr (6, [.ref tb, .int (nI n)])), (tb, .inl (cB, 840, .inl B))]) hx hb hts in_X4_readRun_4 tyX4 tyX4_ok nmX4 hown hK hP hD hS 0 6 rfl rfl (by decide) (List.mem_of_getElem? (i := 4) rfl) rfl rfl rfl (Nat.le_of_ble_eq_true rfl) dX4_readRun_115 rfl (fun H_ lc_ hP hD hS => ?_)
            refine lv_goto (tgt := 147) hx hb dX4_readRun_118 (by decide) ?_
            exact hret _ _ _ ls hS (by unfold runX; rw [← hk, ← hE]; unfold tkX; rw [if_neg c106, if_pos c110]; exact hP) dX4_readRun_147
      · have hlt : S.2.2.2.1 + k9 < n := lt_nI c17 (by omega) (by omega)
        refine lv_aload_n hx hb dX4_readRun_20 rfl (lv_at hl 1 rfl) ?_
        refine lv_aload_n hx hb dX4_readRun_21 rfl (lv_at hl 0 rfl) ?_
        refine g_get (C := RX4) (T := TX4) (N := 8) (ci := 4) (index := 30) hx hb hts in_X4_readRun_4 hown hK hP 0 4 rfl rfl (by decide) (List.mem_of_getElem? (i := 2) rfl) rfl dX4_readRun_22 ?_
        refine rd_V (As := [.int (nI (S.2.2.2.1 + k9))]) (rest := []) (ci := 6) (kX6_at l D cI cB t tb n B (nI (S.2.2.2.1 + k9)) (by first | assumption | omega)) ⟨hx, hb, hml, hown, hts⟩ (cwV 1 hts gX4_readRun_X6_at rfl rfl rfl (by decide +kernel) ⟨Nat.le_of_ble_eq_true rfl, Nat.le_of_ble_eq_true rfl⟩) hK hP [2, 3] rfl 2 rfl rfl rfl rfl hl.1 (Nat.le_of_ble_eq_true rfl) dX4_readRun_25 ⟨Nat.le_refl _, Nat.le_refl _⟩ ?_
        rw [show (tapeX B n (nI (S.2.2.2.1 + k9)) : Int32) = tpX B n (S.2.2.2.1 + k9) from rfl]
        refine rd_S (As := [.int (tpX B n (S.2.2.2.1 + k9))]) (rest := []) (kX4_isLetter l D cI cB (tpX B n (S.2.2.2.1 + k9)) ) ⟨hx, hb, hml, hown, hts⟩ (va_cwS 1 hts gX4_readRun_X4_isLetter rfl rfl rfl (by decide +kernel) ⟨Nat.le_of_ble_eq_true rfl, Nat.le_of_ble_eq_true rfl⟩) hK hP [] rfl rfl rfl hl.1 (Nat.le_of_ble_eq_true rfl) dX4_readRun_28 ⟨Nat.le_refl _, Nat.le_refl _⟩ ?_
        refine lv_if_ne (tgt := 48) hx hb dX4_readRun_31 (by decide) (fun c31 => ?_) (fun c31 => ?_)
        · have hal : ¬ isInM (tpX B n (S.2.2.2.1 + k9)) 97 122 = 0 ∨ ¬ isInM (tpX B n (S.2.2.2.1 + k9)) 48 57 = 0 := by first | exact Or.inl c31 | exact Or.inr c45
          refine lv_aload_n hx hb dX4_readRun_48 rfl (lv_at hl 1 rfl) ?_
          refine lv_aload_n hx hb dX4_readRun_49 rfl (lv_at hl 0 rfl) ?_
          refine g_get (C := RX4) (T := TX4) (N := 8) (ci := 4) (index := 30) hx hb hts in_X4_readRun_4 hown hK hP 0 4 rfl rfl (by decide) (List.mem_of_getElem? (i := 2) rfl) rfl dX4_readRun_50 ?_
          refine rd_V (As := [.int (nI (S.2.2.2.1 + k9))]) (rest := []) (ci := 6) (kX6_at l D cI cB t tb n B (nI (S.2.2.2.1 + k9)) (by first | assumption | omega)) ⟨hx, hb, hml, hown, hts⟩ (cwV 1 hts gX4_readRun_X6_at rfl rfl rfl (by decide +kernel) ⟨Nat.le_of_ble_eq_true rfl, Nat.le_of_ble_eq_true rfl⟩) hK hP [2, 3] rfl 2 rfl rfl rfl rfl hl.1 (Nat.le_of_ble_eq_true rfl) dX4_readRun_53 ⟨Nat.le_refl _, Nat.le_refl _⟩ ?_
          rw [show (tapeX B n (nI (S.2.2.2.1 + k9)) : Int32) = tpX B n (S.2.2.2.1 + k9) from rfl]
          refine lv_istore (lv' := [(4, .int (tpX B n (S.2.2.2.1 + k9))), (0, .ref rdr), (1, .ref t), (2, .int (ltX B n S.2.2.2.1 k9)), (3, .int (dgX B n S.2.2.2.1 k9))]) hx hb dX4_readRun_56 hl (by decide) rfl (fun ls hl => ?_)
          refine lv_iload hx hb dX4_readRun_58 (lv_at hl 0 rfl) ?_
          refine rd_S (As := [.int (tpX B n (S.2.2.2.1 + k9))]) (rest := []) (kX4_isLetter l D cI cB (tpX B n (S.2.2.2.1 + k9)) ) ⟨hx, hb, hml, hown, hts⟩ (va_cwS 1 hts gX4_readRun_X4_isLetter rfl rfl rfl (by decide +kernel) ⟨Nat.le_of_ble_eq_true rfl, Nat.le_of_ble_eq_true rfl⟩) hK hP [] rfl rfl rfl hl.1 (Nat.le_of_ble_eq_true rfl) dX4_readRun_60 ⟨Nat.le_refl _, Nat.le_refl _⟩ ?_
          refine lv_if_eq (tgt := 72) hx hb dX4_readRun_63 (by decide) (fun c63 => ?_) (fun c63 => ?_)
          · refine lv_iinc (v := dgX B n S.2.2.2.1 k9 + 1) (lv' := [(3, .int (dgX B n S.2.2.2.1 k9 + 1)), (4, .int (tpX B n (S.2.2.2.1 + k9))), (0, .ref rdr), (1, .ref t), (2, .int (ltX B n S.2.2.2.1 k9))]) hx hb dX4_readRun_72 hl (k := 4) rfl (rfl) (by decide) rfl (fun ls hl => ?_)
            refine lv_aload_n hx hb dX4_readRun_75 rfl (lv_at hl 2 rfl) ?_
            refine lv_aload_n hx hb dX4_readRun_76 rfl (lv_at hl 2 rfl) ?_
            refine g_get (C := RX4) (T := TX4) (N := 8) (ci := 4) (index := 80) hx hb hts in_X4_readRun_4 hown hK hP 0 7 rfl rfl (by decide) (List.mem_of_getElem? (i := 1) rfl) rfl dX4_readRun_77 ?_
            refine lv_bipush (v := 10) hx hb dX4_readRun_80 (by decide) ?_
            refine lv_imul hx hb dX4_readRun_82 ?_
            refine lv_iload hx hb dX4_readRun_83 (lv_at hl 1 rfl) ?_
            refine lv_bipush (v := 48) hx hb dX4_readRun_85 (by decide) ?_
            refine lv_isub hx hb dX4_readRun_87 ?_
            refine lv_iadd hx hb dX4_readRun_88 ?_
            refine g_put (C := RX4) (T := TX4) (N := 8) (ci := 4) (index := 80) (v := .int (((vlX B n S.2.2.2.1 k9) * 10) + ((tpX B n (S.2.2.2.1 + k9)) - 48))) (ws' := [(rdr, .inr (4, [.ref nb, .int (nI S.1), .int S.2.1, .int (nI S.2.2.1), .int (nI (S.2.2.2.1 + k9)), .int (nI S.2.2.2.2.1), .int S.2.2.2.2.2.1, .int (((vlX B n S.2.2.2.1 k9) * 10) + ((tpX B n (S.2.2.2.1 + k9)) - 48))])), (nb, .inl (cI, 3, .inl S.2.2.2.2.2.2.2)), (t, .inr (6, [.ref tb, .int (nI n)])), (tb, .inl (cB, 840, .inl B))]) hx hb hts in_X4_readRun_4 tyX4 tyX4_ok nmX4 hown hK hP hD hS 0 7 rfl rfl (by decide) (List.mem_of_getElem? (i := 1) rfl) rfl rfl rfl (Nat.le_of_ble_eq_true rfl) dX4_readRun_89 rfl (fun H_ lc_ hP hD hS => ?_)
            refine lv_aload_n hx hb dX4_readRun_92 rfl (lv_at hl 2 rfl) ?_
            refine lv_dup hx hb dX4_readRun_93 rfl ?_
            refine g_get (C := RX4) (T := TX4) (N := 8) (ci := 4) (index := 30) hx hb hts in_X4_readRun_4 hown hK hP 0 4 rfl rfl (by decide) (List.mem_of_getElem? (i := 2) rfl) rfl dX4_readRun_94 ?_
            refine lv_iconst (v := 1) hx hb dX4_readRun_97 (by decide) ?_
            refine lv_iadd hx hb dX4_readRun_98 ?_
            rw [show ((nI (S.2.2.2.1 + k9)) + 1 : Int32) = nI (S.2.2.2.1 + (k9 + 1)) from nI_1 _]
            refine g_put (C := RX4) (T := TX4) (N := 8) (ci := 4) (index := 30) (v := .int (nI (S.2.2.2.1 + (k9 + 1)))) (ws' := [(rdr, .inr (4, [.ref nb, .int (nI S.1), .int S.2.1, .int (nI S.2.2.1), .int (nI (S.2.2.2.1 + (k9 + 1))), .int (nI S.2.2.2.2.1), .int S.2.2.2.2.2.1, .int (((vlX B n S.2.2.2.1 k9) * 10) + ((tpX B n (S.2.2.2.1 + k9)) - 48))])), (nb, .inl (cI, 3, .inl S.2.2.2.2.2.2.2)), (t, .inr (6, [.ref tb, .int (nI n)])), (tb, .inl (cB, 840, .inl B))]) hx hb hts in_X4_readRun_4 tyX4 tyX4_ok nmX4 hown hK hP hD hS 0 4 rfl rfl (by decide) (List.mem_of_getElem? (i := 2) rfl) rfl rfl rfl (Nat.le_of_ble_eq_true rfl) dX4_readRun_99 rfl (fun H_ lc_ hP hD hS => ?_)
            refine lv_goto (tgt := 9) hx hb dX4_readRun_102 (by decide) ?_
            exact ih9 (k9 + 1) (by omega) (by rw [← hinv]; exact (bl_T (isaX_T hlt hal) hlt).symm) _ _ _ _ (by omega) (by rw [ltX_s, if_pos c63]) (by rw [dgX_s, if_pos c63]) (rfl) (by rw [vlX_s, if_pos c63]) _ _ hP hD hS ls (lv_sub hl [2, 3, 4, 0] rfl)
          · refine lv_iinc (v := ltX B n S.2.2.2.1 k9 + 1) (lv' := [(2, .int (ltX B n S.2.2.2.1 k9 + 1)), (4, .int (tpX B n (S.2.2.2.1 + k9))), (0, .ref rdr), (1, .ref t), (3, .int (dgX B n S.2.2.2.1 k9))]) hx hb dX4_readRun_66 hl (k := 3) rfl (rfl) (by decide) rfl (fun ls hl => ?_)
            refine lv_goto (tgt := 92) hx hb dX4_readRun_69 (by decide) ?_
            refine lv_aload_n hx hb dX4_readRun_92 rfl (lv_at hl 2 rfl) ?_
            refine lv_dup hx hb dX4_readRun_93 rfl ?_
            refine g_get (C := RX4) (T := TX4) (N := 8) (ci := 4) (index := 30) hx hb hts in_X4_readRun_4 hown hK hP 0 4 rfl rfl (by decide) (List.mem_of_getElem? (i := 2) rfl) rfl dX4_readRun_94 ?_
            refine lv_iconst (v := 1) hx hb dX4_readRun_97 (by decide) ?_
            refine lv_iadd hx hb dX4_readRun_98 ?_
            rw [show ((nI (S.2.2.2.1 + k9)) + 1 : Int32) = nI (S.2.2.2.1 + (k9 + 1)) from nI_1 _]
            refine g_put (C := RX4) (T := TX4) (N := 8) (ci := 4) (index := 30) (v := .int (nI (S.2.2.2.1 + (k9 + 1)))) (ws' := [(rdr, .inr (4, [.ref nb, .int (nI S.1), .int S.2.1, .int (nI S.2.2.1), .int (nI (S.2.2.2.1 + (k9 + 1))), .int (nI S.2.2.2.2.1), .int S.2.2.2.2.2.1, .int (vlX B n S.2.2.2.1 k9)])), (nb, .inl (cI, 3, .inl S.2.2.2.2.2.2.2)), (t, .inr (6, [.ref tb, .int (nI n)])), (tb, .inl (cB, 840, .inl B))]) hx hb hts in_X4_readRun_4 tyX4 tyX4_ok nmX4 hown hK hP hD hS 0 4 rfl rfl (by decide) (List.mem_of_getElem? (i := 2) rfl) rfl rfl rfl (Nat.le_of_ble_eq_true rfl) dX4_readRun_99 rfl (fun H_ lc_ hP hD hS => ?_)
            refine lv_goto (tgt := 9) hx hb dX4_readRun_102 (by decide) ?_
            exact ih9 (k9 + 1) (by omega) (by rw [← hinv]; exact (bl_T (isaX_T hlt hal) hlt).symm) _ _ _ _ (by omega) (by rw [ltX_s, if_neg c63]) (by rw [dgX_s, if_neg c63]) (rfl) (by rw [vlX_s, if_neg c63]) _ _ hP hD hS ls (lv_sub hl [2, 3, 0, 4] rfl)
        · refine lv_aload_n hx hb dX4_readRun_34 rfl (lv_at hl 1 rfl) ?_
          refine lv_aload_n hx hb dX4_readRun_35 rfl (lv_at hl 0 rfl) ?_
          refine g_get (C := RX4) (T := TX4) (N := 8) (ci := 4) (index := 30) hx hb hts in_X4_readRun_4 hown hK hP 0 4 rfl rfl (by decide) (List.mem_of_getElem? (i := 2) rfl) rfl dX4_readRun_36 ?_
          refine rd_V (As := [.int (nI (S.2.2.2.1 + k9))]) (rest := []) (ci := 6) (kX6_at l D cI cB t tb n B (nI (S.2.2.2.1 + k9)) (by first | assumption | omega)) ⟨hx, hb, hml, hown, hts⟩ (cwV 1 hts gX4_readRun_X6_at rfl rfl rfl (by decide +kernel) ⟨Nat.le_of_ble_eq_true rfl, Nat.le_of_ble_eq_true rfl⟩) hK hP [2, 3] rfl 2 rfl rfl rfl rfl hl.1 (Nat.le_of_ble_eq_true rfl) dX4_readRun_39 ⟨Nat.le_refl _, Nat.le_refl _⟩ ?_
          rw [show (tapeX B n (nI (S.2.2.2.1 + k9)) : Int32) = tpX B n (S.2.2.2.1 + k9) from rfl]
          refine rd_S (As := [.int (tpX B n (S.2.2.2.1 + k9))]) (rest := []) (kX4_isDigit l D cI cB (tpX B n (S.2.2.2.1 + k9)) ) ⟨hx, hb, hml, hown, hts⟩ (va_cwS 1 hts gX4_readRun_X4_isDigit rfl rfl rfl (by decide +kernel) ⟨Nat.le_of_ble_eq_true rfl, Nat.le_of_ble_eq_true rfl⟩) hK hP [] rfl rfl rfl hl.1 (Nat.le_of_ble_eq_true rfl) dX4_readRun_42 ⟨Nat.le_refl _, Nat.le_refl _⟩ ?_
          refine lv_if_eq (tgt := 105) hx hb dX4_readRun_45 (by decide) (fun c45 => ?_) (fun c45 => ?_)
          · have hE : S.2.2.2.1 + k9 = ruE B n S.2.2.2.1 := by rw [← hinv]; exact (bl_F (isaX_F (by first | exact Or.inl (ge_nI c17 (by omega) (by omega)) | exact Or.inr ⟨c31, c45⟩))).symm
            have hk : k9 = ruE B n S.2.2.2.1 - S.2.2.2.1 := by omega
            refine lv_iload_n hx hb dX4_readRun_105 rfl (lv_at hl 2 rfl) ?_
            refine lv_if_le (tgt := 121) hx hb dX4_readRun_106 (by decide) (fun c106 => ?_) (fun c106 => ?_)
            · refine lv_iload_n hx hb dX4_readRun_121 rfl (lv_at hl 2 rfl) ?_
              refine lv_if_ne (tgt := 142) hx hb dX4_readRun_122 (by decide) (fun c122 => ?_) (fun c122 => ?_)
              · refine lv_aload_n hx hb dX4_readRun_142 rfl (lv_at hl 0 rfl) ?_
                refine lv_iconst (v := 4) hx hb dX4_readRun_143 (by decide) ?_
                refine g_put (C := RX4) (T := TX4) (N := 8) (ci := 4) (index := 37) (v := .int 4) (ws' := [(rdr, .inr (4, [.ref nb, .int (nI S.1), .int S.2.1, .int (nI S.2.2.1), .int (nI (S.2.2.2.1 + k9)), .int (nI S.2.2.2.2.1), .int 4, .int (vlX B n S.2.2.2.1 k9)])), (nb, .inl (cI, 3, .inl S.2.2.2.2.2.2.2)), (t, .inr (6, [.ref tb, .int (nI n)])), (tb, .inl (cB, 840, .inl B))]) hx hb hts in_X4_readRun_4 tyX4 tyX4_ok nmX4 hown hK hP hD hS 0 6 rfl rfl (by decide) (List.mem_of_getElem? (i := 4) rfl) rfl rfl rfl (Nat.le_of_ble_eq_true rfl) dX4_readRun_144 rfl (fun H_ lc_ hP hD hS => ?_)
                exact hret _ _ _ ls hS (by unfold runX; rw [← hk, ← hE]; unfold tkX; rw [if_pos c106]; unfold tk2; rw [if_neg c122]; exact hP) dX4_readRun_147
              · refine lv_iload_n hx hb dX4_readRun_125 rfl (lv_at hl 3 rfl) ?_
                refine lv_if_le (tgt := 142) hx hb dX4_readRun_126 (by decide) (fun c126 => ?_) (fun c126 => ?_)
                · refine lv_aload_n hx hb dX4_readRun_142 rfl (lv_at hl 0 rfl) ?_
                  refine lv_iconst (v := 4) hx hb dX4_readRun_143 (by decide) ?_
                  refine g_put (C := RX4) (T := TX4) (N := 8) (ci := 4) (index := 37) (v := .int 4) (ws' := [(rdr, .inr (4, [.ref nb, .int (nI S.1), .int S.2.1, .int (nI S.2.2.1), .int (nI (S.2.2.2.1 + k9)), .int (nI S.2.2.2.2.1), .int 4, .int (vlX B n S.2.2.2.1 k9)])), (nb, .inl (cI, 3, .inl S.2.2.2.2.2.2.2)), (t, .inr (6, [.ref tb, .int (nI n)])), (tb, .inl (cB, 840, .inl B))]) hx hb hts in_X4_readRun_4 tyX4 tyX4_ok nmX4 hown hK hP hD hS 0 6 rfl rfl (by decide) (List.mem_of_getElem? (i := 4) rfl) rfl rfl rfl (Nat.le_of_ble_eq_true rfl) dX4_readRun_144 rfl (fun H_ lc_ hP hD hS => ?_)
                  exact hret _ _ _ ls hS (by unfold runX; rw [← hk, ← hE]; unfold tkX; rw [if_pos c106]; unfold tk2; rw [if_pos c122, if_pos c126]; exact hP) dX4_readRun_147
                · refine lv_iload_n hx hb dX4_readRun_129 rfl (lv_at hl 3 rfl) ?_
                  refine lv_iconst (v := 5) hx hb dX4_readRun_130 (by decide) ?_
                  refine lv_icmp_gt (tgt := 142) hx hb dX4_readRun_131 (by decide) (fun c131 => ?_) (fun c131 => ?_)
                  · refine lv_aload_n hx hb dX4_readRun_142 rfl (lv_at hl 0 rfl) ?_
                    refine lv_iconst (v := 4) hx hb dX4_readRun_143 (by decide) ?_
                    refine g_put (C := RX4) (T := TX4) (N := 8) (ci := 4) (index := 37) (v := .int 4) (ws' := [(rdr, .inr (4, [.ref nb, .int (nI S.1), .int S.2.1, .int (nI S.2.2.1), .int (nI (S.2.2.2.1 + k9)), .int (nI S.2.2.2.2.1), .int 4, .int (vlX B n S.2.2.2.1 k9)])), (nb, .inl (cI, 3, .inl S.2.2.2.2.2.2.2)), (t, .inr (6, [.ref tb, .int (nI n)])), (tb, .inl (cB, 840, .inl B))]) hx hb hts in_X4_readRun_4 tyX4 tyX4_ok nmX4 hown hK hP hD hS 0 6 rfl rfl (by decide) (List.mem_of_getElem? (i := 4) rfl) rfl rfl rfl (Nat.le_of_ble_eq_true rfl) dX4_readRun_144 rfl (fun H_ lc_ hP hD hS => ?_)
                    exact hret _ _ _ ls hS (by unfold runX; rw [← hk, ← hE]; unfold tkX; rw [if_pos c106]; unfold tk2; rw [if_pos c122, if_neg c126, if_pos c131]; exact hP) dX4_readRun_147
                  · refine lv_aload_n hx hb dX4_readRun_134 rfl (lv_at hl 0 rfl) ?_
                    refine lv_iconst (v := 2) hx hb dX4_readRun_135 (by decide) ?_
                    refine g_put (C := RX4) (T := TX4) (N := 8) (ci := 4) (index := 37) (v := .int 2) (ws' := [(rdr, .inr (4, [.ref nb, .int (nI S.1), .int S.2.1, .int (nI S.2.2.1), .int (nI (S.2.2.2.1 + k9)), .int (nI S.2.2.2.2.1), .int 2, .int (vlX B n S.2.2.2.1 k9)])), (nb, .inl (cI, 3, .inl S.2.2.2.2.2.2.2)), (t, .inr (6, [.ref tb, .int (nI n)])), (tb, .inl (cB, 840, .inl B))]) hx hb hts in_X4_readRun_4 tyX4 tyX4_ok nmX4 hown hK hP hD hS 0 6 rfl rfl (by decide) (List.mem_of_getElem? (i := 4) rfl) rfl rfl rfl (Nat.le_of_ble_eq_true rfl) dX4_readRun_136 rfl (fun H_ lc_ hP hD hS => ?_)
                    refine lv_goto (tgt := 147) hx hb dX4_readRun_139 (by decide) ?_
                    exact hret _ _ _ ls hS (by unfold runX; rw [← hk, ← hE]; unfold tkX; rw [if_pos c106]; unfold tk2; rw [if_pos c122, if_neg c126, if_neg c131]; exact hP) dX4_readRun_147
            · refine lv_iload_n hx hb dX4_readRun_109 rfl (lv_at hl 3 rfl) ?_
              refine lv_if_ne (tgt := 121) hx hb dX4_readRun_110 (by decide) (fun c110 => ?_) (fun c110 => ?_)
              · refine lv_iload_n hx hb dX4_readRun_121 rfl (lv_at hl 2 rfl) ?_
                refine lv_if_ne (tgt := 142) hx hb dX4_readRun_122 (by decide) (fun c122 => ?_) (fun c122 => ?_)
                · refine lv_aload_n hx hb dX4_readRun_142 rfl (lv_at hl 0 rfl) ?_
                  refine lv_iconst (v := 4) hx hb dX4_readRun_143 (by decide) ?_
                  refine g_put (C := RX4) (T := TX4) (N := 8) (ci := 4) (index := 37) (v := .int 4) (ws' := [(rdr, .inr (4, [.ref nb, .int (nI S.1), .int S.2.1, .int (nI S.2.2.1), .int (nI (S.2.2.2.1 + k9)), .int (nI S.2.2.2.2.1), .int 4, .int (vlX B n S.2.2.2.1 k9)])), (nb, .inl (cI, 3, .inl S.2.2.2.2.2.2.2)), (t, .inr (6, [.ref tb, .int (nI n)])), (tb, .inl (cB, 840, .inl B))]) hx hb hts in_X4_readRun_4 tyX4 tyX4_ok nmX4 hown hK hP hD hS 0 6 rfl rfl (by decide) (List.mem_of_getElem? (i := 4) rfl) rfl rfl rfl (Nat.le_of_ble_eq_true rfl) dX4_readRun_144 rfl (fun H_ lc_ hP hD hS => ?_)
                  exact hret _ _ _ ls hS (by unfold runX; rw [← hk, ← hE]; unfold tkX; rw [if_neg c106, if_neg c110]; unfold tk2; rw [if_neg c122]; exact hP) dX4_readRun_147
                · refine lv_iload_n hx hb dX4_readRun_125 rfl (lv_at hl 3 rfl) ?_
                  refine lv_if_le (tgt := 142) hx hb dX4_readRun_126 (by decide) (fun c126 => ?_) (fun c126 => ?_)
                  · refine lv_aload_n hx hb dX4_readRun_142 rfl (lv_at hl 0 rfl) ?_
                    refine lv_iconst (v := 4) hx hb dX4_readRun_143 (by decide) ?_
                    refine g_put (C := RX4) (T := TX4) (N := 8) (ci := 4) (index := 37) (v := .int 4) (ws' := [(rdr, .inr (4, [.ref nb, .int (nI S.1), .int S.2.1, .int (nI S.2.2.1), .int (nI (S.2.2.2.1 + k9)), .int (nI S.2.2.2.2.1), .int 4, .int (vlX B n S.2.2.2.1 k9)])), (nb, .inl (cI, 3, .inl S.2.2.2.2.2.2.2)), (t, .inr (6, [.ref tb, .int (nI n)])), (tb, .inl (cB, 840, .inl B))]) hx hb hts in_X4_readRun_4 tyX4 tyX4_ok nmX4 hown hK hP hD hS 0 6 rfl rfl (by decide) (List.mem_of_getElem? (i := 4) rfl) rfl rfl rfl (Nat.le_of_ble_eq_true rfl) dX4_readRun_144 rfl (fun H_ lc_ hP hD hS => ?_)
                    exact hret _ _ _ ls hS (by unfold runX; rw [← hk, ← hE]; unfold tkX; rw [if_neg c106, if_neg c110]; unfold tk2; rw [if_pos c122, if_pos c126]; exact hP) dX4_readRun_147
                  · refine lv_iload_n hx hb dX4_readRun_129 rfl (lv_at hl 3 rfl) ?_
                    refine lv_iconst (v := 5) hx hb dX4_readRun_130 (by decide) ?_
                    refine lv_icmp_gt (tgt := 142) hx hb dX4_readRun_131 (by decide) (fun c131 => ?_) (fun c131 => ?_)
                    · refine lv_aload_n hx hb dX4_readRun_142 rfl (lv_at hl 0 rfl) ?_
                      refine lv_iconst (v := 4) hx hb dX4_readRun_143 (by decide) ?_
                      refine g_put (C := RX4) (T := TX4) (N := 8) (ci := 4) (index := 37) (v := .int 4) (ws' := [(rdr, .inr (4, [.ref nb, .int (nI S.1), .int S.2.1, .int (nI S.2.2.1), .int (nI (S.2.2.2.1 + k9)), .int (nI S.2.2.2.2.1), .int 4, .int (vlX B n S.2.2.2.1 k9)])), (nb, .inl (cI, 3, .inl S.2.2.2.2.2.2.2)), (t, .inr (6, [.ref tb, .int (nI n)])), (tb, .inl (cB, 840, .inl B))]) hx hb hts in_X4_readRun_4 tyX4 tyX4_ok nmX4 hown hK hP hD hS 0 6 rfl rfl (by decide) (List.mem_of_getElem? (i := 4) rfl) rfl rfl rfl (Nat.le_of_ble_eq_true rfl) dX4_readRun_144 rfl (fun H_ lc_ hP hD hS => ?_)
                      exact hret _ _ _ ls hS (by unfold runX; rw [← hk, ← hE]; unfold tkX; rw [if_neg c106, if_neg c110]; unfold tk2; rw [if_pos c122, if_neg c126, if_pos c131]; exact hP) dX4_readRun_147
                    · refine lv_aload_n hx hb dX4_readRun_134 rfl (lv_at hl 0 rfl) ?_
                      refine lv_iconst (v := 2) hx hb dX4_readRun_135 (by decide) ?_
                      refine g_put (C := RX4) (T := TX4) (N := 8) (ci := 4) (index := 37) (v := .int 2) (ws' := [(rdr, .inr (4, [.ref nb, .int (nI S.1), .int S.2.1, .int (nI S.2.2.1), .int (nI (S.2.2.2.1 + k9)), .int (nI S.2.2.2.2.1), .int 2, .int (vlX B n S.2.2.2.1 k9)])), (nb, .inl (cI, 3, .inl S.2.2.2.2.2.2.2)), (t, .inr (6, [.ref tb, .int (nI n)])), (tb, .inl (cB, 840, .inl B))]) hx hb hts in_X4_readRun_4 tyX4 tyX4_ok nmX4 hown hK hP hD hS 0 6 rfl rfl (by decide) (List.mem_of_getElem? (i := 4) rfl) rfl rfl rfl (Nat.le_of_ble_eq_true rfl) dX4_readRun_136 rfl (fun H_ lc_ hP hD hS => ?_)
                      refine lv_goto (tgt := 147) hx hb dX4_readRun_139 (by decide) ?_
                      exact hret _ _ _ ls hS (by unfold runX; rw [← hk, ← hE]; unfold tkX; rw [if_neg c106, if_neg c110]; unfold tk2; rw [if_pos c122, if_neg c126, if_neg c131]; exact hP) dX4_readRun_147
              · refine lv_aload_n hx hb dX4_readRun_113 rfl (lv_at hl 0 rfl) ?_
                refine lv_iconst (v := 1) hx hb dX4_readRun_114 (by decide) ?_
                refine g_put (C := RX4) (T := TX4) (N := 8) (ci := 4) (index := 37) (v := .int 1) (ws' := [(rdr, .inr (4, [.ref nb, .int (nI S.1), .int S.2.1, .int (nI S.2.2.1), .int (nI (S.2.2.2.1 + k9)), .int (nI S.2.2.2.2.1), .int 1, .int (vlX B n S.2.2.2.1 k9)])), (nb, .inl (cI, 3, .inl S.2.2.2.2.2.2.2)), (t, .inr (6, [.ref tb, .int (nI n)])), (tb, .inl (cB, 840, .inl B))]) hx hb hts in_X4_readRun_4 tyX4 tyX4_ok nmX4 hown hK hP hD hS 0 6 rfl rfl (by decide) (List.mem_of_getElem? (i := 4) rfl) rfl rfl rfl (Nat.le_of_ble_eq_true rfl) dX4_readRun_115 rfl (fun H_ lc_ hP hD hS => ?_)
                refine lv_goto (tgt := 147) hx hb dX4_readRun_118 (by decide) ?_
                exact hret _ _ _ ls hS (by unfold runX; rw [← hk, ← hE]; unfold tkX; rw [if_neg c106, if_pos c110]; exact hP) dX4_readRun_147
          · have hal : ¬ isInM (tpX B n (S.2.2.2.1 + k9)) 97 122 = 0 ∨ ¬ isInM (tpX B n (S.2.2.2.1 + k9)) 48 57 = 0 := by first | exact Or.inl c31 | exact Or.inr c45
            refine lv_aload_n hx hb dX4_readRun_48 rfl (lv_at hl 1 rfl) ?_
            refine lv_aload_n hx hb dX4_readRun_49 rfl (lv_at hl 0 rfl) ?_
            refine g_get (C := RX4) (T := TX4) (N := 8) (ci := 4) (index := 30) hx hb hts in_X4_readRun_4 hown hK hP 0 4 rfl rfl (by decide) (List.mem_of_getElem? (i := 2) rfl) rfl dX4_readRun_50 ?_
            refine rd_V (As := [.int (nI (S.2.2.2.1 + k9))]) (rest := []) (ci := 6) (kX6_at l D cI cB t tb n B (nI (S.2.2.2.1 + k9)) (by first | assumption | omega)) ⟨hx, hb, hml, hown, hts⟩ (cwV 1 hts gX4_readRun_X6_at rfl rfl rfl (by decide +kernel) ⟨Nat.le_of_ble_eq_true rfl, Nat.le_of_ble_eq_true rfl⟩) hK hP [2, 3] rfl 2 rfl rfl rfl rfl hl.1 (Nat.le_of_ble_eq_true rfl) dX4_readRun_53 ⟨Nat.le_refl _, Nat.le_refl _⟩ ?_
            rw [show (tapeX B n (nI (S.2.2.2.1 + k9)) : Int32) = tpX B n (S.2.2.2.1 + k9) from rfl]
            refine lv_istore (lv' := [(4, .int (tpX B n (S.2.2.2.1 + k9))), (0, .ref rdr), (1, .ref t), (2, .int (ltX B n S.2.2.2.1 k9)), (3, .int (dgX B n S.2.2.2.1 k9))]) hx hb dX4_readRun_56 hl (by decide) rfl (fun ls hl => ?_)
            refine lv_iload hx hb dX4_readRun_58 (lv_at hl 0 rfl) ?_
            refine rd_S (As := [.int (tpX B n (S.2.2.2.1 + k9))]) (rest := []) (kX4_isLetter l D cI cB (tpX B n (S.2.2.2.1 + k9)) ) ⟨hx, hb, hml, hown, hts⟩ (va_cwS 1 hts gX4_readRun_X4_isLetter rfl rfl rfl (by decide +kernel) ⟨Nat.le_of_ble_eq_true rfl, Nat.le_of_ble_eq_true rfl⟩) hK hP [] rfl rfl rfl hl.1 (Nat.le_of_ble_eq_true rfl) dX4_readRun_60 ⟨Nat.le_refl _, Nat.le_refl _⟩ ?_
            refine lv_if_eq (tgt := 72) hx hb dX4_readRun_63 (by decide) (fun c63 => ?_) (fun c63 => ?_)
            · refine lv_iinc (v := dgX B n S.2.2.2.1 k9 + 1) (lv' := [(3, .int (dgX B n S.2.2.2.1 k9 + 1)), (4, .int (tpX B n (S.2.2.2.1 + k9))), (0, .ref rdr), (1, .ref t), (2, .int (ltX B n S.2.2.2.1 k9))]) hx hb dX4_readRun_72 hl (k := 4) rfl (rfl) (by decide) rfl (fun ls hl => ?_)
              refine lv_aload_n hx hb dX4_readRun_75 rfl (lv_at hl 2 rfl) ?_
              refine lv_aload_n hx hb dX4_readRun_76 rfl (lv_at hl 2 rfl) ?_
              refine g_get (C := RX4) (T := TX4) (N := 8) (ci := 4) (index := 80) hx hb hts in_X4_readRun_4 hown hK hP 0 7 rfl rfl (by decide) (List.mem_of_getElem? (i := 1) rfl) rfl dX4_readRun_77 ?_
              refine lv_bipush (v := 10) hx hb dX4_readRun_80 (by decide) ?_
              refine lv_imul hx hb dX4_readRun_82 ?_
              refine lv_iload hx hb dX4_readRun_83 (lv_at hl 1 rfl) ?_
              refine lv_bipush (v := 48) hx hb dX4_readRun_85 (by decide) ?_
              refine lv_isub hx hb dX4_readRun_87 ?_
              refine lv_iadd hx hb dX4_readRun_88 ?_
              refine g_put (C := RX4) (T := TX4) (N := 8) (ci := 4) (index := 80) (v := .int (((vlX B n S.2.2.2.1 k9) * 10) + ((tpX B n (S.2.2.2.1 + k9)) - 48))) (ws' := [(rdr, .inr (4, [.ref nb, .int (nI S.1), .int S.2.1, .int (nI S.2.2.1), .int (nI (S.2.2.2.1 + k9)), .int (nI S.2.2.2.2.1), .int S.2.2.2.2.2.1, .int (((vlX B n S.2.2.2.1 k9) * 10) + ((tpX B n (S.2.2.2.1 + k9)) - 48))])), (nb, .inl (cI, 3, .inl S.2.2.2.2.2.2.2)), (t, .inr (6, [.ref tb, .int (nI n)])), (tb, .inl (cB, 840, .inl B))]) hx hb hts in_X4_readRun_4 tyX4 tyX4_ok nmX4 hown hK hP hD hS 0 7 rfl rfl (by decide) (List.mem_of_getElem? (i := 1) rfl) rfl rfl rfl (Nat.le_of_ble_eq_true rfl) dX4_readRun_89 rfl (fun H_ lc_ hP hD hS => ?_)
              refine lv_aload_n hx hb dX4_readRun_92 rfl (lv_at hl 2 rfl) ?_
              refine lv_dup hx hb dX4_readRun_93 rfl ?_
              refine g_get (C := RX4) (T := TX4) (N := 8) (ci := 4) (index := 30) hx hb hts in_X4_readRun_4 hown hK hP 0 4 rfl rfl (by decide) (List.mem_of_getElem? (i := 2) rfl) rfl dX4_readRun_94 ?_
              refine lv_iconst (v := 1) hx hb dX4_readRun_97 (by decide) ?_
              refine lv_iadd hx hb dX4_readRun_98 ?_
              rw [show ((nI (S.2.2.2.1 + k9)) + 1 : Int32) = nI (S.2.2.2.1 + (k9 + 1)) from nI_1 _]
              refine g_put (C := RX4) (T := TX4) (N := 8) (ci := 4) (index := 30) (v := .int (nI (S.2.2.2.1 + (k9 + 1)))) (ws' := [(rdr, .inr (4, [.ref nb, .int (nI S.1), .int S.2.1, .int (nI S.2.2.1), .int (nI (S.2.2.2.1 + (k9 + 1))), .int (nI S.2.2.2.2.1), .int S.2.2.2.2.2.1, .int (((vlX B n S.2.2.2.1 k9) * 10) + ((tpX B n (S.2.2.2.1 + k9)) - 48))])), (nb, .inl (cI, 3, .inl S.2.2.2.2.2.2.2)), (t, .inr (6, [.ref tb, .int (nI n)])), (tb, .inl (cB, 840, .inl B))]) hx hb hts in_X4_readRun_4 tyX4 tyX4_ok nmX4 hown hK hP hD hS 0 4 rfl rfl (by decide) (List.mem_of_getElem? (i := 2) rfl) rfl rfl rfl (Nat.le_of_ble_eq_true rfl) dX4_readRun_99 rfl (fun H_ lc_ hP hD hS => ?_)
              refine lv_goto (tgt := 9) hx hb dX4_readRun_102 (by decide) ?_
              exact ih9 (k9 + 1) (by omega) (by rw [← hinv]; exact (bl_T (isaX_T hlt hal) hlt).symm) _ _ _ _ (by omega) (by rw [ltX_s, if_pos c63]) (by rw [dgX_s, if_pos c63]) (rfl) (by rw [vlX_s, if_pos c63]) _ _ hP hD hS ls (lv_sub hl [2, 3, 4, 0] rfl)
            · refine lv_iinc (v := ltX B n S.2.2.2.1 k9 + 1) (lv' := [(2, .int (ltX B n S.2.2.2.1 k9 + 1)), (4, .int (tpX B n (S.2.2.2.1 + k9))), (0, .ref rdr), (1, .ref t), (3, .int (dgX B n S.2.2.2.1 k9))]) hx hb dX4_readRun_66 hl (k := 3) rfl (rfl) (by decide) rfl (fun ls hl => ?_)
              refine lv_goto (tgt := 92) hx hb dX4_readRun_69 (by decide) ?_
              refine lv_aload_n hx hb dX4_readRun_92 rfl (lv_at hl 2 rfl) ?_
              refine lv_dup hx hb dX4_readRun_93 rfl ?_
              refine g_get (C := RX4) (T := TX4) (N := 8) (ci := 4) (index := 30) hx hb hts in_X4_readRun_4 hown hK hP 0 4 rfl rfl (by decide) (List.mem_of_getElem? (i := 2) rfl) rfl dX4_readRun_94 ?_
              refine lv_iconst (v := 1) hx hb dX4_readRun_97 (by decide) ?_
              refine lv_iadd hx hb dX4_readRun_98 ?_
              rw [show ((nI (S.2.2.2.1 + k9)) + 1 : Int32) = nI (S.2.2.2.1 + (k9 + 1)) from nI_1 _]
              refine g_put (C := RX4) (T := TX4) (N := 8) (ci := 4) (index := 30) (v := .int (nI (S.2.2.2.1 + (k9 + 1)))) (ws' := [(rdr, .inr (4, [.ref nb, .int (nI S.1), .int S.2.1, .int (nI S.2.2.1), .int (nI (S.2.2.2.1 + (k9 + 1))), .int (nI S.2.2.2.2.1), .int S.2.2.2.2.2.1, .int (vlX B n S.2.2.2.1 k9)])), (nb, .inl (cI, 3, .inl S.2.2.2.2.2.2.2)), (t, .inr (6, [.ref tb, .int (nI n)])), (tb, .inl (cB, 840, .inl B))]) hx hb hts in_X4_readRun_4 tyX4 tyX4_ok nmX4 hown hK hP hD hS 0 4 rfl rfl (by decide) (List.mem_of_getElem? (i := 2) rfl) rfl rfl rfl (Nat.le_of_ble_eq_true rfl) dX4_readRun_99 rfl (fun H_ lc_ hP hD hS => ?_)
              refine lv_goto (tgt := 9) hx hb dX4_readRun_102 (by decide) ?_
              exact ih9 (k9 + 1) (by omega) (by rw [← hinv]; exact (bl_T (isaX_T hlt hal) hlt).symm) _ _ _ _ (by omega) (by rw [ltX_s, if_neg c63]) (by rw [dgX_s, if_neg c63]) (rfl) (by rw [vlX_s, if_neg c63]) _ _ hP hD hS ls (lv_sub hl [2, 3, 0, 4] rfl)
  exact L9 (n - (S.2.2.2.1 + 0) + 1) 0 (by omega) (rfl) _ _ _ _ (Nat.lt_succ_self _) (rfl) (rfl) (rfl) (rfl) _ _ hP hD hS ls (lv_sub hl [2, 3, 1, 0] rfl)

theorem in_X4_readToken_6 : ∀ w ∈ wsX60, w ∈ wsX4_readToken := fun _ h => List.mem_cons_of_mem _ (List.mem_append_left _ (List.mem_append_right _ (h)))
theorem in_X4_readToken_4 : ∀ w ∈ wsX40, w ∈ wsX4_readToken := fun _ h => List.mem_cons_of_mem _ (List.mem_append_right _ (h))
set_option maxHeartbeats 4000000 in
set_option maxRecDepth 100000 in
theorem kX4_readToken (l : Launch) (D : va_G) (cI cB : ClassId) (rdr nb : Nat) (S : XSt) (t tb n : Nat) (B : Nat → Int32) (hn : n ≤ 840) (hpl : S.2.2.2.1 ≤ n) : Wr l D (TY cI cB) yX4_readToken wsX4_readToken 2 45 [.ref rdr, .ref t] [(rdr, .inr (4, [.ref nb, .int (nI S.1), .int S.2.1, .int (nI S.2.2.1), .int (nI S.2.2.2.1), .int (nI S.2.2.2.2.1), .int S.2.2.2.2.2.1, .int S.2.2.2.2.2.2.1])), (nb, .inl (cI, 3, .inl S.2.2.2.2.2.2.2)), (t, .inr (6, [.ref tb, .int (nI n)])), (tb, .inl (cB, 840, .inl B))] [(rdr, .inr (4, [.ref nb, .int (nI (tokX B n S).1), .int (tokX B n S).2.1, .int (nI (tokX B n S).2.2.1), .int (nI (tokX B n S).2.2.2.1), .int (nI (tokX B n S).2.2.2.2.1), .int (tokX B n S).2.2.2.2.2.1, .int (tokX B n S).2.2.2.2.2.2.1])), (nb, .inl (cI, 3, .inl (tokX B n S).2.2.2.2.2.2.2)), (t, .inr (6, [.ref tb, .int (nI n)])), (tb, .inl (cB, 840, .inl B))] none := by
  refine wr_v (cc := cX4_readToken) (maxL := 3) (by decide) rfl (Nat.le_of_ble_eq_true rfl) ?_
  intro p_ e_ s_ m_ ar_ be_ me_ co_ ls Q_ A_ hx hb hml hown hts hP hK hD hS hl hret
  have hown : s_.vm.findClass RX4 = some m_.cls := hown
  have hl : lv_has ls 3 [(0, .ref rdr), (1, .ref t)] := hl
  have hsto := stoX_le n
  refine lv_aload_n hx hb dX4_readToken_0 rfl (lv_at hl 1 rfl) ?_
  refine g_get (C := RX6) (T := TX6) (N := 2) (ci := 6) (index := 47) hx hb hts in_X4_readToken_6 hown hK hP 2 1 rfl rfl (by decide) (List.mem_of_getElem? (i := 1) rfl) rfl dX4_readToken_1 ?_
  refine lv_sipush (v := 800) hx hb dX4_readToken_4 (by decide) ?_
  refine va_mmin hx hb (hml.trans hl.1.symm) hown (hts (.methodLink RX4 96 Lib.Math.min.name) (List.mem_of_getElem? (i := 2) rfl)) (hts (.static Lib.Math.min.name) (List.mem_of_getElem? (i := 3) rfl)) (hts (.initialized "java/lang/Math") (List.mem_of_getElem? (i := 4) rfl)) (hts (.code Lib.Math.min.name Lib.Math.min.code 2 (some .int)) (List.mem_of_getElem? (i := 5) rfl)) (Nat.le_of_ble_eq_true rfl) (Nat.le_of_ble_eq_true rfl) (Nat.le_refl _) (Nat.le_refl _) dX4_readToken_7 ?_
  rw [show (if 800 < (nI n) then 800 else (nI n) : Int32) = min32 (nI n) 800 from rfl]
  rw [show (min32 (nI n) 800 : Int32) = nI (stoX n) from stoX_min hn]
  refine lv_istore_n (lv' := [(2, .int (nI (stoX n))), (0, .ref rdr), (1, .ref t)]) hx hb dX4_readToken_10 rfl hl (by decide) rfl (fun ls hl => ?_)
  have J46 : ∀   (xx_u0_4 : Int32), xx_u0_4 = nI (toP B n S.2.2.2.1) → ∀ (H_ : Heap) (lc_ : List Loc), va_P D vwCl [(rdr, .inr (4, [.ref nb, .int (nI S.1), .int S.2.1, .int (nI S.2.2.1), .int xx_u0_4, .int (nI S.2.2.2.2.1), .int S.2.2.2.2.2.1, .int S.2.2.2.2.2.2.1])), (nb, .inl (cI, 3, .inl S.2.2.2.2.2.2.2)), (t, .inr (6, [.ref tb, .int (nI n)])), (tb, .inl (cB, 840, .inl B))] H_ → va_D A_ [(rdr, .inr (4, [.ref nb, .int (nI S.1), .int S.2.1, .int (nI S.2.2.1), .int xx_u0_4, .int (nI S.2.2.2.2.1), .int S.2.2.2.2.2.1, .int S.2.2.2.2.2.2.1])), (nb, .inl (cI, 3, .inl S.2.2.2.2.2.2.2)), (t, .inr (6, [.ref tb, .int (nI n)])), (tb, .inl (cB, 840, .inl B))] → va_S A_ s_.heap H_ lc_ → ∀ (ls : Array Slot), lv_has ls 3 [(0, .ref rdr), (1, .ref t), (2, .int (nI (stoX n)))] → W p_ l e_ (RM 2 45) s_ m_ ar_ be_ me_ co_ H_ lc_ 0 0 Q_ (F0 m_ 46 ls []) := by
    intro xx_u0_4 e_xx_u0_4 H_ lc_ hP hD hS ls hl
    subst e_xx_u0_4
    have hto := toP_in (B := B) (n := n) (p := S.2.2.2.1)
    refine lv_aload_n hx hb dX4_readToken_46 rfl (lv_at hl 0 rfl) ?_
    refine g_get (C := RX4) (T := TX4) (N := 8) (ci := 4) (index := 30) hx hb hts in_X4_readToken_4 hown hK hP 0 4 rfl rfl (by decide) (List.mem_of_getElem? (i := 6) rfl) rfl dX4_readToken_47 ?_
    refine lv_iload_n hx hb dX4_readToken_50 rfl (lv_at hl 2 rfl) ?_
    refine lv_icmp_lt (tgt := 65) hx hb dX4_readToken_51 (by decide) (fun c51 => ?_) (fun c51 => ?_)
    · have hyes : (toP B n S.2.2.2.1) < stoX n := lt_nI' c51 (by omega) (by omega)
      refine lv_aload_n hx hb dX4_readToken_65 rfl (lv_at hl 0 rfl) ?_
      refine lv_aload_n hx hb dX4_readToken_66 rfl (lv_at hl 0 rfl) ?_
      refine g_get (C := RX4) (T := TX4) (N := 8) (ci := 4) (index := 30) hx hb hts in_X4_readToken_4 hown hK hP 0 4 rfl rfl (by decide) (List.mem_of_getElem? (i := 6) rfl) rfl dX4_readToken_67 ?_
      refine g_put (C := RX4) (T := TX4) (N := 8) (ci := 4) (index := 93) (v := .int (nI (toP B n S.2.2.2.1))) (ws' := [(rdr, .inr (4, [.ref nb, .int (nI S.1), .int S.2.1, .int (nI S.2.2.1), .int (nI (toP B n S.2.2.2.1)), .int (nI (toP B n S.2.2.2.1)), .int S.2.2.2.2.2.1, .int S.2.2.2.2.2.2.1])), (nb, .inl (cI, 3, .inl S.2.2.2.2.2.2.2)), (t, .inr (6, [.ref tb, .int (nI n)])), (tb, .inl (cB, 840, .inl B))]) hx hb hts in_X4_readToken_4 tyX4 tyX4_ok nmX4 hown hK hP hD hS 0 5 rfl rfl (by decide) (List.mem_of_getElem? (i := 7) rfl) rfl rfl rfl (Nat.le_of_ble_eq_true rfl) dX4_readToken_70 rfl (fun H_ lc_ hP hD hS => ?_)
      refine lv_aload_n hx hb dX4_readToken_73 rfl (lv_at hl 1 rfl) ?_
      refine lv_aload_n hx hb dX4_readToken_74 rfl (lv_at hl 0 rfl) ?_
      refine g_get (C := RX4) (T := TX4) (N := 8) (ci := 4) (index := 30) hx hb hts in_X4_readToken_4 hown hK hP 0 4 rfl rfl (by decide) (List.mem_of_getElem? (i := 6) rfl) rfl dX4_readToken_75 ?_
      refine rd_V (As := [.int (nI (toP B n S.2.2.2.1))]) (rest := []) (ci := 6) (kX6_at l D cI cB t tb n B (nI (toP B n S.2.2.2.1)) (by first | assumption | omega)) ⟨hx, hb, hml, hown, hts⟩ (cwV 1 hts gX4_readToken_X6_at rfl rfl rfl (by decide +kernel) ⟨Nat.le_of_ble_eq_true rfl, Nat.le_of_ble_eq_true rfl⟩) hK hP [2, 3] rfl 2 rfl rfl rfl rfl hl.1 (Nat.le_of_ble_eq_true rfl) dX4_readToken_78 ⟨Nat.le_refl _, Nat.le_refl _⟩ ?_
      rw [show (tapeX B n (nI (toP B n S.2.2.2.1)) : Int32) = tpX B n (toP B n S.2.2.2.1) from rfl]
      refine lv_bipush (v := 59) hx hb dX4_readToken_81 (by decide) ?_
      refine lv_icmp_ne (tgt := 104) hx hb dX4_readToken_83 (by decide) (fun c83 => ?_) (fun c83 => ?_)
      · refine lv_aload_n hx hb dX4_readToken_104 rfl (lv_at hl 0 rfl) ?_
        refine lv_aload_n hx hb dX4_readToken_105 rfl (lv_at hl 1 rfl) ?_
        refine wr_V (As := [.ref t]) (rest := []) (ci := 4) (ws' := [(rdr, .inr (4, [.ref nb, .int (nI (runX B n (S.1, S.2.1, S.2.2.1, toP B n S.2.2.2.1, toP B n S.2.2.2.1, S.2.2.2.2.2.1, S.2.2.2.2.2.2.1, S.2.2.2.2.2.2.2)).1), .int (runX B n (S.1, S.2.1, S.2.2.1, toP B n S.2.2.2.1, toP B n S.2.2.2.1, S.2.2.2.2.2.1, S.2.2.2.2.2.2.1, S.2.2.2.2.2.2.2)).2.1, .int (nI (runX B n (S.1, S.2.1, S.2.2.1, toP B n S.2.2.2.1, toP B n S.2.2.2.1, S.2.2.2.2.2.1, S.2.2.2.2.2.2.1, S.2.2.2.2.2.2.2)).2.2.1), .int (nI (runX B n (S.1, S.2.1, S.2.2.1, toP B n S.2.2.2.1, toP B n S.2.2.2.1, S.2.2.2.2.2.1, S.2.2.2.2.2.2.1, S.2.2.2.2.2.2.2)).2.2.2.1), .int (nI (runX B n (S.1, S.2.1, S.2.2.1, toP B n S.2.2.2.1, toP B n S.2.2.2.1, S.2.2.2.2.2.1, S.2.2.2.2.2.2.1, S.2.2.2.2.2.2.2)).2.2.2.2.1), .int (runX B n (S.1, S.2.1, S.2.2.1, toP B n S.2.2.2.1, toP B n S.2.2.2.1, S.2.2.2.2.2.1, S.2.2.2.2.2.2.1, S.2.2.2.2.2.2.2)).2.2.2.2.2.1, .int (runX B n (S.1, S.2.1, S.2.2.1, toP B n S.2.2.2.1, toP B n S.2.2.2.1, S.2.2.2.2.2.1, S.2.2.2.2.2.2.1, S.2.2.2.2.2.2.2)).2.2.2.2.2.2.1])), (nb, .inl (cI, 3, .inl (runX B n (S.1, S.2.1, S.2.2.1, toP B n S.2.2.2.1, toP B n S.2.2.2.1, S.2.2.2.2.2.1, S.2.2.2.2.2.2.1, S.2.2.2.2.2.2.2)).2.2.2.2.2.2.2)), (t, .inr (6, [.ref tb, .int (nI n)])), (tb, .inl (cB, 840, .inl B))]) (kX4_readRun l D cI cB rdr nb (S.1, S.2.1, S.2.2.1, toP B n S.2.2.2.1, toP B n S.2.2.2.1, S.2.2.2.2.2.1, S.2.2.2.2.2.2.1, S.2.2.2.2.2.2.2) t tb n B (hn) (by dsimp only; omega)) ⟨hx, hb, hml, hown, hts⟩ (cwV 1 hts gX4_readToken_X4_readRun rfl rfl rfl (by decide +kernel) ⟨Nat.le_of_ble_eq_true rfl, Nat.le_of_ble_eq_true rfl⟩) hK hP hD hS [0, 1, 2, 3] rfl (by decide +kernel) (two_eq [rdr, nb, t, tb] rfl rfl) rfl 0 rfl rfl rfl rfl hl.1 (Nat.le_of_ble_eq_true rfl) dX4_readToken_106 ⟨Nat.le_refl _, Nat.le_refl _⟩ (fun H_ lc_ hP hD hS => ?_)
        show W p_ l e_ (RM 2 45) s_ m_ ar_ be_ me_ co_ H_ lc_ 0 0 Q_ (F0 m_ 109 ls [])
        exact hret _ _ _ ls hS (by unfold tokX; rw [if_pos hyes, if_neg c83]; exact hP) dX4_readToken_109
      · refine lv_aload_n hx hb dX4_readToken_86 rfl (lv_at hl 0 rfl) ?_
        refine lv_dup hx hb dX4_readToken_87 rfl ?_
        refine g_get (C := RX4) (T := TX4) (N := 8) (ci := 4) (index := 30) hx hb hts in_X4_readToken_4 hown hK hP 0 4 rfl rfl (by decide) (List.mem_of_getElem? (i := 6) rfl) rfl dX4_readToken_88 ?_
        refine lv_iconst (v := 1) hx hb dX4_readToken_91 (by decide) ?_
        refine lv_iadd hx hb dX4_readToken_92 ?_
        rw [show ((nI (toP B n S.2.2.2.1)) + 1 : Int32) = nI ((toP B n S.2.2.2.1) + 1) from nI_1 _]
        refine g_put (C := RX4) (T := TX4) (N := 8) (ci := 4) (index := 30) (v := .int (nI ((toP B n S.2.2.2.1) + 1))) (ws' := [(rdr, .inr (4, [.ref nb, .int (nI S.1), .int S.2.1, .int (nI S.2.2.1), .int (nI ((toP B n S.2.2.2.1) + 1)), .int (nI (toP B n S.2.2.2.1)), .int S.2.2.2.2.2.1, .int S.2.2.2.2.2.2.1])), (nb, .inl (cI, 3, .inl S.2.2.2.2.2.2.2)), (t, .inr (6, [.ref tb, .int (nI n)])), (tb, .inl (cB, 840, .inl B))]) hx hb hts in_X4_readToken_4 tyX4 tyX4_ok nmX4 hown hK hP hD hS 0 4 rfl rfl (by decide) (List.mem_of_getElem? (i := 6) rfl) rfl rfl rfl (Nat.le_of_ble_eq_true rfl) dX4_readToken_93 rfl (fun H_ lc_ hP hD hS => ?_)
        refine lv_aload_n hx hb dX4_readToken_96 rfl (lv_at hl 0 rfl) ?_
        refine lv_iconst (v := 3) hx hb dX4_readToken_97 (by decide) ?_
        refine g_put (C := RX4) (T := TX4) (N := 8) (ci := 4) (index := 37) (v := .int 3) (ws' := [(rdr, .inr (4, [.ref nb, .int (nI S.1), .int S.2.1, .int (nI S.2.2.1), .int (nI ((toP B n S.2.2.2.1) + 1)), .int (nI (toP B n S.2.2.2.1)), .int 3, .int S.2.2.2.2.2.2.1])), (nb, .inl (cI, 3, .inl S.2.2.2.2.2.2.2)), (t, .inr (6, [.ref tb, .int (nI n)])), (tb, .inl (cB, 840, .inl B))]) hx hb hts in_X4_readToken_4 tyX4 tyX4_ok nmX4 hown hK hP hD hS 0 6 rfl rfl (by decide) (List.mem_of_getElem? (i := 8) rfl) rfl rfl rfl (Nat.le_of_ble_eq_true rfl) dX4_readToken_98 rfl (fun H_ lc_ hP hD hS => ?_)
        refine lv_goto (tgt := 109) hx hb dX4_readToken_101 (by decide) ?_
        exact hret _ _ _ ls hS (by unfold tokX; rw [if_pos hyes, if_pos c83]; exact hP) dX4_readToken_109
    · have hno : ¬ (toP B n S.2.2.2.1) < stoX n := fun z => c51 ((nI_ltI (by omega) (by omega)).mpr z)
      refine lv_aload_n hx hb dX4_readToken_54 rfl (lv_at hl 0 rfl) ?_
      refine lv_iload_n hx hb dX4_readToken_55 rfl (lv_at hl 2 rfl) ?_
      refine g_put (C := RX4) (T := TX4) (N := 8) (ci := 4) (index := 93) (v := .int (nI (stoX n))) (ws' := [(rdr, .inr (4, [.ref nb, .int (nI S.1), .int S.2.1, .int (nI S.2.2.1), .int (nI (toP B n S.2.2.2.1)), .int (nI (stoX n)), .int S.2.2.2.2.2.1, .int S.2.2.2.2.2.2.1])), (nb, .inl (cI, 3, .inl S.2.2.2.2.2.2.2)), (t, .inr (6, [.ref tb, .int (nI n)])), (tb, .inl (cB, 840, .inl B))]) hx hb hts in_X4_readToken_4 tyX4 tyX4_ok nmX4 hown hK hP hD hS 0 5 rfl rfl (by decide) (List.mem_of_getElem? (i := 7) rfl) rfl rfl rfl (Nat.le_of_ble_eq_true rfl) dX4_readToken_56 rfl (fun H_ lc_ hP hD hS => ?_)
      refine lv_aload_n hx hb dX4_readToken_59 rfl (lv_at hl 0 rfl) ?_
      refine lv_iconst (v := 0) hx hb dX4_readToken_60 (by decide) ?_
      refine g_put (C := RX4) (T := TX4) (N := 8) (ci := 4) (index := 37) (v := .int 0) (ws' := [(rdr, .inr (4, [.ref nb, .int (nI S.1), .int S.2.1, .int (nI S.2.2.1), .int (nI (toP B n S.2.2.2.1)), .int (nI (stoX n)), .int 0, .int S.2.2.2.2.2.2.1])), (nb, .inl (cI, 3, .inl S.2.2.2.2.2.2.2)), (t, .inr (6, [.ref tb, .int (nI n)])), (tb, .inl (cB, 840, .inl B))]) hx hb hts in_X4_readToken_4 tyX4 tyX4_ok nmX4 hown hK hP hD hS 0 6 rfl rfl (by decide) (List.mem_of_getElem? (i := 8) rfl) rfl rfl rfl (Nat.le_of_ble_eq_true rfl) dX4_readToken_61 rfl (fun H_ lc_ hP hD hS => ?_)
      exact hret _ _ _ ls hS (by unfold tokX; rw [if_neg hno]; exact hP) dX4_readToken_64
  have L11 : ∀ (nn_ : Nat) (q : Nat) (hq : q ≤ n) (hinv : bl (isbX B n (stoX n)) (stoX n - q) q = toP B n S.2.2.2.1) (xx_u0_4 : Int32), (840 - q) < nn_ → xx_u0_4 = nI q → ∀ (H_ : Heap) (lc_ : List Loc), va_P D vwCl [(rdr, .inr (4, [.ref nb, .int (nI S.1), .int S.2.1, .int (nI S.2.2.1), .int xx_u0_4, .int (nI S.2.2.2.2.1), .int S.2.2.2.2.2.1, .int S.2.2.2.2.2.2.1])), (nb, .inl (cI, 3, .inl S.2.2.2.2.2.2.2)), (t, .inr (6, [.ref tb, .int (nI n)])), (tb, .inl (cB, 840, .inl B))] H_ → va_D A_ [(rdr, .inr (4, [.ref nb, .int (nI S.1), .int S.2.1, .int (nI S.2.2.1), .int xx_u0_4, .int (nI S.2.2.2.2.1), .int S.2.2.2.2.2.1, .int S.2.2.2.2.2.2.1])), (nb, .inl (cI, 3, .inl S.2.2.2.2.2.2.2)), (t, .inr (6, [.ref tb, .int (nI n)])), (tb, .inl (cB, 840, .inl B))] → va_S A_ s_.heap H_ lc_ → ∀ (ls : Array Slot), lv_has ls 3 [(0, .ref rdr), (1, .ref t), (2, .int (nI (stoX n)))] → W p_ l e_ (RM 2 45) s_ m_ ar_ be_ me_ co_ H_ lc_ 0 0 Q_ (F0 m_ 11 ls []) := by
    intro nn_
    induction nn_ with
    | zero => intro q hq hinv xx_u0_4 hn_; exact absurd hn_ (Nat.not_lt_zero _)
    | succ nn_ ih11 =>
      intro q hq hinv xx_u0_4 hn_ e_xx_u0_4 H_ lc_ hP hD hS ls hl
      subst e_xx_u0_4
      refine lv_aload_n hx hb dX4_readToken_11 rfl (lv_at hl 0 rfl) ?_
      refine g_get (C := RX4) (T := TX4) (N := 8) (ci := 4) (index := 30) hx hb hts in_X4_readToken_4 hown hK hP 0 4 rfl rfl (by decide) (List.mem_of_getElem? (i := 6) rfl) rfl dX4_readToken_12 ?_
      refine lv_iload_n hx hb dX4_readToken_15 rfl (lv_at hl 2 rfl) ?_
      refine lv_icmp_ge (tgt := 46) hx hb dX4_readToken_16 (by decide) (fun c16 => ?_) (fun c16 => ?_)
      · exact J46   _ (congrArg nI (by rw [← hinv]; exact (bl_F (isbX_F (by first | exact Or.inl (ge_nI c16 (by omega) (by omega)) | exact Or.inr c30))).symm)) _ _ hP hD hS ls (lv_sub hl [0, 1, 2] rfl)
      · have hlt : q < stoX n := lt_nI c16 (by omega) (by omega)
        refine lv_aload_n hx hb dX4_readToken_19 rfl (lv_at hl 1 rfl) ?_
        refine lv_aload_n hx hb dX4_readToken_20 rfl (lv_at hl 0 rfl) ?_
        refine g_get (C := RX4) (T := TX4) (N := 8) (ci := 4) (index := 30) hx hb hts in_X4_readToken_4 hown hK hP 0 4 rfl rfl (by decide) (List.mem_of_getElem? (i := 6) rfl) rfl dX4_readToken_21 ?_
        refine rd_V (As := [.int (nI q)]) (rest := []) (ci := 6) (kX6_at l D cI cB t tb n B (nI q) (by first | assumption | omega)) ⟨hx, hb, hml, hown, hts⟩ (cwV 1 hts gX4_readToken_X6_at rfl rfl rfl (by decide +kernel) ⟨Nat.le_of_ble_eq_true rfl, Nat.le_of_ble_eq_true rfl⟩) hK hP [2, 3] rfl 2 rfl rfl rfl rfl hl.1 (Nat.le_of_ble_eq_true rfl) dX4_readToken_24 ⟨Nat.le_refl _, Nat.le_refl _⟩ ?_
        rw [show (tapeX B n (nI q) : Int32) = tpX B n q from rfl]
        refine rd_S (As := [.int (tpX B n q)]) (rest := []) (kX4_isBlank l D cI cB (tpX B n q) ) ⟨hx, hb, hml, hown, hts⟩ (va_cwS 1 hts gX4_readToken_X4_isBlank rfl rfl rfl (by decide +kernel) ⟨Nat.le_of_ble_eq_true rfl, Nat.le_of_ble_eq_true rfl⟩) hK hP [] rfl rfl rfl hl.1 (Nat.le_of_ble_eq_true rfl) dX4_readToken_27 ⟨Nat.le_refl _, Nat.le_refl _⟩ ?_
        refine lv_if_eq (tgt := 46) hx hb dX4_readToken_30 (by decide) (fun c30 => ?_) (fun c30 => ?_)
        · exact J46   _ (congrArg nI (by rw [← hinv]; exact (bl_F (isbX_F (by first | exact Or.inl (ge_nI c16 (by omega) (by omega)) | exact Or.inr c30))).symm)) _ _ hP hD hS ls (lv_sub hl [0, 1, 2] rfl)
        · refine lv_aload_n hx hb dX4_readToken_33 rfl (lv_at hl 0 rfl) ?_
          refine lv_dup hx hb dX4_readToken_34 rfl ?_
          refine g_get (C := RX4) (T := TX4) (N := 8) (ci := 4) (index := 30) hx hb hts in_X4_readToken_4 hown hK hP 0 4 rfl rfl (by decide) (List.mem_of_getElem? (i := 6) rfl) rfl dX4_readToken_35 ?_
          refine lv_iconst (v := 1) hx hb dX4_readToken_38 (by decide) ?_
          refine lv_iadd hx hb dX4_readToken_39 ?_
          rw [show ((nI q) + 1 : Int32) = nI (q + 1) from nI_1 q]
          refine g_put (C := RX4) (T := TX4) (N := 8) (ci := 4) (index := 30) (v := .int (nI (q + 1))) (ws' := [(rdr, .inr (4, [.ref nb, .int (nI S.1), .int S.2.1, .int (nI S.2.2.1), .int (nI (q + 1)), .int (nI S.2.2.2.2.1), .int S.2.2.2.2.2.1, .int S.2.2.2.2.2.2.1])), (nb, .inl (cI, 3, .inl S.2.2.2.2.2.2.2)), (t, .inr (6, [.ref tb, .int (nI n)])), (tb, .inl (cB, 840, .inl B))]) hx hb hts in_X4_readToken_4 tyX4 tyX4_ok nmX4 hown hK hP hD hS 0 4 rfl rfl (by decide) (List.mem_of_getElem? (i := 6) rfl) rfl rfl rfl (Nat.le_of_ble_eq_true rfl) dX4_readToken_40 rfl (fun H_ lc_ hP hD hS => ?_)
          refine lv_goto (tgt := 11) hx hb dX4_readToken_43 (by decide) ?_
          exact ih11 (q + 1) (by omega) (by rw [← hinv]; exact (bl_T (isbX_T hlt c30) hlt).symm) _ (by omega) (rfl) _ _ hP hD hS ls (lv_sub hl [0, 1, 2] rfl)
  exact L11 (840 - S.2.2.2.1 + 1) S.2.2.2.1 (hpl) (rfl) _ (Nat.lt_succ_self _) (rfl) _ _ hP hD hS ls (lv_sub hl [1, 2, 0] rfl)

