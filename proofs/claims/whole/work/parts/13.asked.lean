def insX (Th : Nat → Int32) (p : Int32) : Int32 := rowAt Th 4 p - rowAt Th 4 (p - 1)
def uncX (Th : Nat → Int32) (p paid : Int32) : Int32 := max32 0 (min32 (insX Th p) (rowAt Th 4 p - paid))
def duX (f : Nat → Int32) (c : Nat) (Th : Nat → Int32) (d : Int32) : Nat → Int32
  | 0 => 0
  | k + 1 => if d < rowAt f c (nI k) then duX f c Th d k else duX f c Th d k + insX Th (nI k)
/-- the least sum and its rule among the first k rules, by the sums sb -/
def chX (sb : Int32 → Int32) (bar : Int32) : Nat → Int32 × Int32
  | 0 => (0, -1)
  | k + 1 => if bar >>> (nI k &&& 31) &&& 1 = 0 then (if (chX sb bar k).2 = -1 then (sb (nI k), nI k) else if (chX sb bar k).1 ≤ sb (nI k) then chX sb bar k else (sb (nI k), nI k)) else chX sb bar k
def lsF (sb : Int32 → Int32 → Int32) (bar : Int32) (j : Nat) : Int32 := (chX (fun r => sb r (nI j)) bar 3).1
def ruF (sb : Int32 → Int32 → Int32) (bar : Int32) (j : Nat) : Int32 := (chX (fun r => sb r (nI j)) bar 3).2
def thS (sb : Int32 → Int32 → Int32) (bar : Int32) : Nat → Int32
  | 0 => 0
  | k + 1 => max32 (thS sb bar k) (lsF sb bar k)
def thF (sb : Int32 → Int32 → Int32) (bar : Int32) (j : Nat) : Int32 := thS sb bar (j + 1)
theorem rowAt_ov {f g : Nat → Int32} {n d i : Nat} (h : i < d) (hd : d ≤ n) (hn : n < 2 ^ 31) : rowAt (ov f g d) n (nI i) = f i := by
  rw [rowAt_nI (by omega) hn]; simp [ov, h]
theorem rowAt_upd {f : Nat → Int32} {n i : Nat} {x : Int32} (h : i < n) (hn : n < 2 ^ 31) : rowAt (upd f i x) n (nI i) = x := by
  rw [rowAt_nI h hn]; simp [upd]
theorem in_X1_leastOf_1 : ∀ w ∈ wsX10, w ∈ wsX1_leastOf := fun _ h => List.mem_cons_of_mem _ (List.mem_append_right _ (h))
set_option maxHeartbeats 4000000 in
set_option maxRecDepth 100000 in
theorem kX1_leastOf (l : Launch) (D : va_G) (cI cB : ClassId) (ak la lr lt : Nat) (L K Th : Nat → Int32) (i : Int32)  : Rd l D (TY cI cB) yX1_leastOf wsX1_leastOf 0 0 [.ref ak, .int i] [(ak, .inr (1, [.ref la, .ref lr, .ref lt])), (la, .inl (cI, 4, .inl L)), (lr, .inl (cI, 4, .inl K)), (lt, .inl (cI, 4, .inl Th))] (rowAt L 4 i) := by
  refine rd_i (cc := cX1_leastOf) (maxL := 2) (by decide) rfl (Nat.le_of_ble_eq_true rfl) ?_
  intro p_ e_ s_ m_ ar_ be_ me_ co_ ls Q_ hx hb hml hown hts hP hK hl hret
  have hown : s_.vm.findClass RX1 = some m_.cls := hown
  have hl : lv_has ls 2 [(0, .ref ak), (1, .int i)] := hl
  refine lv_iload_n hx hb dX1_leastOf_0 rfl (lv_at hl 1 rfl) ?_
  refine lv_if_lt (tgt := 22) hx hb dX1_leastOf_1 (by decide) (fun c1 => ?_) (fun c1 => ?_)
  · refine lv_iconst (v := 0) hx hb dX1_leastOf_22 (by decide) ?_
    exact hret _ _ ls (by simp [rowAt, c1]) dX1_leastOf_23
  · refine lv_iload_n hx hb dX1_leastOf_4 rfl (lv_at hl 1 rfl) ?_
    refine lv_aload_n hx hb dX1_leastOf_5 rfl (lv_at hl 0 rfl) ?_
    refine g_get (C := RX1) (T := TX1) (N := 3) (ci := 1) (index := 9) hx hb hts in_X1_leastOf_1 hown hK hP 0 0 rfl rfl (by decide) (List.mem_of_getElem? (i := 1) rfl) rfl dX1_leastOf_6 ?_
    refine va_alen (v := nI 4) hx hb hK hP 1 0 rfl rfl rfl dX1_leastOf_9 ?_
    refine lv_icmp_ge (tgt := 22) hx hb dX1_leastOf_10 (by decide) (fun c10 => ?_) (fun c10 => ?_)
    · refine lv_iconst (v := 0) hx hb dX1_leastOf_22 (by decide) ?_
      exact hret _ _ ls (by simp [rowAt, c1, c10]) dX1_leastOf_23
    · refine lv_aload_n hx hb dX1_leastOf_13 rfl (lv_at hl 0 rfl) ?_
      refine g_get (C := RX1) (T := TX1) (N := 3) (ci := 1) (index := 9) hx hb hts in_X1_leastOf_1 hown hK hP 0 0 rfl rfl (by decide) (List.mem_of_getElem? (i := 1) rfl) rfl dX1_leastOf_14 ?_
      refine lv_iload_n hx hb dX1_leastOf_17 rfl (lv_at hl 1 rfl) ?_
      refine va_iald hx hb hK hP 1 0 rfl rfl (in_nI c1 c10 (by omega)) dX1_leastOf_18 ?_
      refine lv_goto (tgt := 23) hx hb dX1_leastOf_19 (by decide) ?_
      exact hret _ _ ls (by simp [rowAt, c1, c10]) dX1_leastOf_23

theorem in_X1_ruleOf_1 : ∀ w ∈ wsX10, w ∈ wsX1_ruleOf := fun _ h => List.mem_cons_of_mem _ (List.mem_append_right _ (h))
set_option maxHeartbeats 4000000 in
set_option maxRecDepth 100000 in
theorem kX1_ruleOf (l : Launch) (D : va_G) (cI cB : ClassId) (ak la lr lt : Nat) (L K Th : Nat → Int32) (i : Int32)  : Rd l D (TY cI cB) yX1_ruleOf wsX1_ruleOf 0 0 [.ref ak, .int i] [(ak, .inr (1, [.ref la, .ref lr, .ref lt])), (la, .inl (cI, 4, .inl L)), (lr, .inl (cI, 4, .inl K)), (lt, .inl (cI, 4, .inl Th))] (rowAt K 4 i) := by
  refine rd_i (cc := cX1_ruleOf) (maxL := 2) (by decide) rfl (Nat.le_of_ble_eq_true rfl) ?_
  intro p_ e_ s_ m_ ar_ be_ me_ co_ ls Q_ hx hb hml hown hts hP hK hl hret
  have hown : s_.vm.findClass RX1 = some m_.cls := hown
  have hl : lv_has ls 2 [(0, .ref ak), (1, .int i)] := hl
  refine lv_iload_n hx hb dX1_ruleOf_0 rfl (lv_at hl 1 rfl) ?_
  refine lv_if_lt (tgt := 22) hx hb dX1_ruleOf_1 (by decide) (fun c1 => ?_) (fun c1 => ?_)
  · refine lv_iconst (v := 0) hx hb dX1_ruleOf_22 (by decide) ?_
    exact hret _ _ ls (by simp [rowAt, c1]) dX1_ruleOf_23
  · refine lv_iload_n hx hb dX1_ruleOf_4 rfl (lv_at hl 1 rfl) ?_
    refine lv_aload_n hx hb dX1_ruleOf_5 rfl (lv_at hl 0 rfl) ?_
    refine g_get (C := RX1) (T := TX1) (N := 3) (ci := 1) (index := 15) hx hb hts in_X1_ruleOf_1 hown hK hP 0 1 rfl rfl (by decide) (List.mem_of_getElem? (i := 1) rfl) rfl dX1_ruleOf_6 ?_
    refine va_alen (v := nI 4) hx hb hK hP 2 0 rfl rfl rfl dX1_ruleOf_9 ?_
    refine lv_icmp_ge (tgt := 22) hx hb dX1_ruleOf_10 (by decide) (fun c10 => ?_) (fun c10 => ?_)
    · refine lv_iconst (v := 0) hx hb dX1_ruleOf_22 (by decide) ?_
      exact hret _ _ ls (by simp [rowAt, c1, c10]) dX1_ruleOf_23
    · refine lv_aload_n hx hb dX1_ruleOf_13 rfl (lv_at hl 0 rfl) ?_
      refine g_get (C := RX1) (T := TX1) (N := 3) (ci := 1) (index := 15) hx hb hts in_X1_ruleOf_1 hown hK hP 0 1 rfl rfl (by decide) (List.mem_of_getElem? (i := 1) rfl) rfl dX1_ruleOf_14 ?_
      refine lv_iload_n hx hb dX1_ruleOf_17 rfl (lv_at hl 1 rfl) ?_
      refine va_iald hx hb hK hP 2 0 rfl rfl (in_nI c1 c10 (by omega)) dX1_ruleOf_18 ?_
      refine lv_goto (tgt := 23) hx hb dX1_ruleOf_19 (by decide) ?_
      exact hret _ _ ls (by simp [rowAt, c1, c10]) dX1_ruleOf_23

theorem in_X1_through_1 : ∀ w ∈ wsX10, w ∈ wsX1_through := fun _ h => List.mem_cons_of_mem _ (List.mem_append_right _ (h))
set_option maxHeartbeats 4000000 in
set_option maxRecDepth 100000 in
theorem kX1_through (l : Launch) (D : va_G) (cI cB : ClassId) (ak la lr lt : Nat) (L K Th : Nat → Int32) (i : Int32)  : Rd l D (TY cI cB) yX1_through wsX1_through 0 0 [.ref ak, .int i] [(ak, .inr (1, [.ref la, .ref lr, .ref lt])), (la, .inl (cI, 4, .inl L)), (lr, .inl (cI, 4, .inl K)), (lt, .inl (cI, 4, .inl Th))] (rowAt Th 4 i) := by
  refine rd_i (cc := cX1_through) (maxL := 2) (by decide) rfl (Nat.le_of_ble_eq_true rfl) ?_
  intro p_ e_ s_ m_ ar_ be_ me_ co_ ls Q_ hx hb hml hown hts hP hK hl hret
  have hown : s_.vm.findClass RX1 = some m_.cls := hown
  have hl : lv_has ls 2 [(0, .ref ak), (1, .int i)] := hl
  refine lv_iload_n hx hb dX1_through_0 rfl (lv_at hl 1 rfl) ?_
  refine lv_if_lt (tgt := 22) hx hb dX1_through_1 (by decide) (fun c1 => ?_) (fun c1 => ?_)
  · refine lv_iconst (v := 0) hx hb dX1_through_22 (by decide) ?_
    exact hret _ _ ls (by simp [rowAt, c1]) dX1_through_23
  · refine lv_iload_n hx hb dX1_through_4 rfl (lv_at hl 1 rfl) ?_
    refine lv_aload_n hx hb dX1_through_5 rfl (lv_at hl 0 rfl) ?_
    refine g_get (C := RX1) (T := TX1) (N := 3) (ci := 1) (index := 18) hx hb hts in_X1_through_1 hown hK hP 0 2 rfl rfl (by decide) (List.mem_of_getElem? (i := 1) rfl) rfl dX1_through_6 ?_
    refine va_alen (v := nI 4) hx hb hK hP 3 0 rfl rfl rfl dX1_through_9 ?_
    refine lv_icmp_ge (tgt := 22) hx hb dX1_through_10 (by decide) (fun c10 => ?_) (fun c10 => ?_)
    · refine lv_iconst (v := 0) hx hb dX1_through_22 (by decide) ?_
      exact hret _ _ ls (by simp [rowAt, c1, c10]) dX1_through_23
    · refine lv_aload_n hx hb dX1_through_13 rfl (lv_at hl 0 rfl) ?_
      refine g_get (C := RX1) (T := TX1) (N := 3) (ci := 1) (index := 18) hx hb hts in_X1_through_1 hown hK hP 0 2 rfl rfl (by decide) (List.mem_of_getElem? (i := 1) rfl) rfl dX1_through_14 ?_
      refine lv_iload_n hx hb dX1_through_17 rfl (lv_at hl 1 rfl) ?_
      refine va_iald hx hb hK hP 3 0 rfl rfl (in_nI c1 c10 (by omega)) dX1_through_18 ?_
      refine lv_goto (tgt := 23) hx hb dX1_through_19 (by decide) ?_
      exact hret _ _ ls (by simp [rowAt, c1, c10]) dX1_through_23

set_option maxHeartbeats 4000000 in
set_option maxRecDepth 100000 in
theorem kX1_instalment (l : Launch) (D : va_G) (cI cB : ClassId) (ak la lr lt : Nat) (L K Th : Nat → Int32) (i : Int32)  : Rd l D (TY cI cB) yX1_instalment wsX1_instalment 1 21 [.ref ak, .int i] [(ak, .inr (1, [.ref la, .ref lr, .ref lt])), (la, .inl (cI, 4, .inl L)), (lr, .inl (cI, 4, .inl K)), (lt, .inl (cI, 4, .inl Th))] (insX Th i) := by
  refine rd_i (cc := cX1_instalment) (maxL := 2) (by decide) rfl (Nat.le_of_ble_eq_true rfl) ?_
  intro p_ e_ s_ m_ ar_ be_ me_ co_ ls Q_ hx hb hml hown hts hP hK hl hret
  have hown : s_.vm.findClass RX1 = some m_.cls := hown
  have hl : lv_has ls 2 [(0, .ref ak), (1, .int i)] := hl
  refine lv_aload_n hx hb dX1_instalment_0 rfl (lv_at hl 0 rfl) ?_
  refine lv_iload_n hx hb dX1_instalment_1 rfl (lv_at hl 1 rfl) ?_
  refine rd_V (As := [.int i]) (rest := []) (ci := 1) (kX1_through l D cI cB ak la lr lt L K Th i ) ⟨hx, hb, hml, hown, hts⟩ (cwV 1 hts gX1_instalment_X1_through rfl rfl rfl (by decide +kernel) ⟨Nat.le_of_ble_eq_true rfl, Nat.le_of_ble_eq_true rfl⟩) hK hP [0, 1, 2, 3] rfl 0 rfl rfl rfl rfl hl.1 (Nat.le_of_ble_eq_true rfl) dX1_instalment_2 ⟨Nat.le_refl _, Nat.le_refl _⟩ ?_
  refine lv_aload_n hx hb dX1_instalment_5 rfl (lv_at hl 0 rfl) ?_
  refine lv_iload_n hx hb dX1_instalment_6 rfl (lv_at hl 1 rfl) ?_
  refine lv_iconst (v := 1) hx hb dX1_instalment_7 (by decide) ?_
  refine lv_isub hx hb dX1_instalment_8 ?_
  refine rd_V (As := [.int (i - 1)]) (rest := [.int (rowAt Th 4 i)]) (ci := 1) (kX1_through l D cI cB ak la lr lt L K Th (i - 1) ) ⟨hx, hb, hml, hown, hts⟩ (cwV 1 hts gX1_instalment_X1_through rfl rfl rfl (by decide +kernel) ⟨Nat.le_of_ble_eq_true rfl, Nat.le_of_ble_eq_true rfl⟩) hK hP [0, 1, 2, 3] rfl 0 rfl rfl rfl rfl hl.1 (Nat.le_of_ble_eq_true rfl) dX1_instalment_9 ⟨Nat.le_refl _, Nat.le_refl _⟩ ?_
  refine lv_isub hx hb dX1_instalment_12 ?_
  exact hret _ _ ls (rfl) dX1_instalment_13

set_option maxHeartbeats 4000000 in
set_option maxRecDepth 100000 in
theorem kX1_uncovered (l : Launch) (D : va_G) (cI cB : ClassId) (ak la lr lt : Nat) (L K Th : Nat → Int32) (i paid : Int32)  : Rd l D (TY cI cB) yX1_uncovered wsX1_uncovered 2 42 [.ref ak, .int i, .int paid] [(ak, .inr (1, [.ref la, .ref lr, .ref lt])), (la, .inl (cI, 4, .inl L)), (lr, .inl (cI, 4, .inl K)), (lt, .inl (cI, 4, .inl Th))] (uncX Th i paid) := by
  refine rd_i (cc := cX1_uncovered) (maxL := 3) (by decide) rfl (Nat.le_of_ble_eq_true rfl) ?_
  intro p_ e_ s_ m_ ar_ be_ me_ co_ ls Q_ hx hb hml hown hts hP hK hl hret
  have hown : s_.vm.findClass RX1 = some m_.cls := hown
  have hl : lv_has ls 3 [(0, .ref ak), (1, .int i), (2, .int paid)] := hl
  refine lv_iconst (v := 0) hx hb dX1_uncovered_0 (by decide) ?_
  refine lv_aload_n hx hb dX1_uncovered_1 rfl (lv_at hl 0 rfl) ?_
  refine lv_iload_n hx hb dX1_uncovered_2 rfl (lv_at hl 1 rfl) ?_
  refine rd_V (As := [.int i]) (rest := [.int 0]) (ci := 1) (kX1_instalment l D cI cB ak la lr lt L K Th i ) ⟨hx, hb, hml, hown, hts⟩ (cwV 1 hts gX1_uncovered_X1_instalment rfl rfl rfl (by decide +kernel) ⟨Nat.le_of_ble_eq_true rfl, Nat.le_of_ble_eq_true rfl⟩) hK hP [0, 1, 2, 3] rfl 0 rfl rfl rfl rfl hl.1 (Nat.le_of_ble_eq_true rfl) dX1_uncovered_3 ⟨Nat.le_refl _, Nat.le_refl _⟩ ?_
  refine lv_aload_n hx hb dX1_uncovered_6 rfl (lv_at hl 0 rfl) ?_
  refine lv_iload_n hx hb dX1_uncovered_7 rfl (lv_at hl 1 rfl) ?_
  refine rd_V (As := [.int i]) (rest := [.int (insX Th i), .int 0]) (ci := 1) (kX1_through l D cI cB ak la lr lt L K Th i ) ⟨hx, hb, hml, hown, hts⟩ (cwV 1 hts gX1_uncovered_X1_through rfl rfl rfl (by decide +kernel) ⟨Nat.le_of_ble_eq_true rfl, Nat.le_of_ble_eq_true rfl⟩) hK hP [0, 1, 2, 3] rfl 0 rfl rfl rfl rfl hl.1 (Nat.le_of_ble_eq_true rfl) dX1_uncovered_8 ⟨Nat.le_refl _, Nat.le_refl _⟩ ?_
  refine lv_iload_n hx hb dX1_uncovered_11 rfl (lv_at hl 2 rfl) ?_
  refine lv_isub hx hb dX1_uncovered_12 ?_
  refine va_mmin hx hb (hml.trans hl.1.symm) hown (hts (.methodLink RX1 46 Lib.Math.min.name) (List.mem_of_getElem? (i := 1) rfl)) (hts (.static Lib.Math.min.name) (List.mem_of_getElem? (i := 2) rfl)) (hts (.initialized "java/lang/Math") (List.mem_of_getElem? (i := 3) rfl)) (hts (.code Lib.Math.min.name Lib.Math.min.code 2 (some .int)) (List.mem_of_getElem? (i := 4) rfl)) (Nat.le_of_ble_eq_true rfl) (Nat.le_of_ble_eq_true rfl) (Nat.le_refl _) (Nat.le_refl _) dX1_uncovered_13 ?_
  rw [show (if ((rowAt Th 4 i) - paid) < (insX Th i) then ((rowAt Th 4 i) - paid) else (insX Th i) : Int32) = min32 (insX Th i) ((rowAt Th 4 i) - paid) from rfl]
  refine va_mmax hx hb (hml.trans hl.1.symm) hown (hts (.methodLink RX1 29 Lib.Math.max.name) (List.mem_of_getElem? (i := 5) rfl)) (hts (.static Lib.Math.max.name) (List.mem_of_getElem? (i := 6) rfl)) (hts (.initialized "java/lang/Math") (List.mem_of_getElem? (i := 3) rfl)) (hts (.code Lib.Math.max.name Lib.Math.max.code 2 (some .int)) (List.mem_of_getElem? (i := 7) rfl)) (Nat.le_of_ble_eq_true rfl) (Nat.le_of_ble_eq_true rfl) (Nat.le_refl _) (Nat.le_refl _) dX1_uncovered_16 ?_
  rw [show (if 0 < (min32 (insX Th i) ((rowAt Th 4 i) - paid)) then (min32 (insX Th i) ((rowAt Th 4 i) - paid)) else 0 : Int32) = max32 0 (min32 (insX Th i) ((rowAt Th 4 i) - paid)) from rfl]
  exact hret _ _ ls (rfl) dX1_uncovered_19

theorem in_X1_dueBy_7 : ∀ w ∈ wsX70, w ∈ wsX1_dueBy := fun _ h => List.mem_cons_of_mem _ (List.mem_append_left _ (List.mem_append_left _ (List.mem_append_right _ (h))))
set_option maxHeartbeats 4000000 in
set_option maxRecDepth 100000 in
theorem kX1_dueBy (l : Launch) (D : va_G) (cI cB : ClassId) (ak la lr lt : Nat) (L K Th : Nat → Int32) (yr : Nat) (Ya Yfa Ysa : Nat → Nat) (Yf Yg : Nat → Nat → Int32) (Yc : Nat → Nat) (Yv : Nat → Int32) (d : Int32) (hc0 : Yc 0 ≤ 4) : Rd l D (TY cI cB) yX1_dueBy wsX1_dueBy 2 42 [.ref ak, .int d, .ref yr] [(ak, .inr (1, [.ref la, .ref lr, .ref lt])), (la, .inl (cI, 4, .inl L)), (lr, .inl (cI, 4, .inl K)), (lt, .inl (cI, 4, .inl Th)), (yr, .inr (7, [.ref (Ya 0), .ref (Ya 1), .ref (Ya 2), .ref (Ya 3), .ref (Ya 4), .ref (Ya 5), .int (Yv 6), .int (Yv 7), .int (Yv 8), .int (Yv 9), .int (Yv 10), .int (Yv 11), .int (Yv 12), .int (Yv 13)])), (Ya 0, .inr (5, [.ref (Yfa 0), .ref (Ysa 0), .int (nI (Yc 0))])), (Yfa 0, .inl (cI, 4, .inl (Yf 0))), (Ysa 0, .inl (cI, 4, .inl (Yg 0)))] (duX (Yf 0) (Yc 0) Th d 4) := by
  refine rd_i (cc := cX1_dueBy) (maxL := 5) (by decide) rfl (Nat.le_of_ble_eq_true rfl) ?_
  intro p_ e_ s_ m_ ar_ be_ me_ co_ ls Q_ hx hb hml hown hts hP hK hl hret
  have hown : s_.vm.findClass RX1 = some m_.cls := hown
  have hl : lv_has ls 5 [(0, .ref ak), (1, .int d), (2, .ref yr)] := hl
  refine lv_iconst (v := 0) hx hb dX1_dueBy_0 (by decide) ?_
  refine lv_istore_n (lv' := [(3, .int 0), (0, .ref ak), (1, .int d), (2, .ref yr)]) hx hb dX1_dueBy_1 rfl hl (by decide) rfl (fun ls hl => ?_)
  refine lv_iconst (v := 0) hx hb dX1_dueBy_2 (by decide) ?_
  refine lv_istore (lv' := [(4, .int 0), (3, .int 0), (0, .ref ak), (1, .int d), (2, .ref yr)]) hx hb dX1_dueBy_3 hl (by decide) rfl (fun ls hl => ?_)
  have L5 : ∀ (nn_ : Nat) (i : Nat) (hi : i ≤ 4) (xx_v3 : Int32) (xx_v4 : Int32), (4 - i) < nn_ → xx_v3 = duX (Yf 0) (Yc 0) Th d i → xx_v4 = nI i → ∀ (ls : Array Slot), lv_has ls 5 [(0, .ref ak), (1, .int d), (2, .ref yr), (3, .int xx_v3), (4, .int xx_v4)] → W p_ l e_ (RM 2 42) s_ m_ ar_ be_ me_ co_ s_.heap [] 0 0 Q_ (F0 m_ 5 ls []) := by
    intro nn_
    induction nn_ with
    | zero => intro i hi xx_v3 xx_v4 hn_; exact absurd hn_ (Nat.not_lt_zero _)
    | succ nn_ ih5 =>
      intro i hi xx_v3 xx_v4 hn_ e_xx_v3 e_xx_v4 ls hl
      subst e_xx_v3 e_xx_v4
      refine lv_iload hx hb dX1_dueBy_5 (lv_at hl 4 rfl) ?_
      refine lv_iconst (v := 4) hx hb dX1_dueBy_7 (by decide) ?_
      refine lv_icmp_ge (tgt := 39) hx hb dX1_dueBy_8 (by decide) (fun c8 => ?_) (fun c8 => ?_)
      · refine lv_iload_n hx hb dX1_dueBy_39 rfl (lv_at hl 3 rfl) ?_
        exact hret _ _ ls (by have q := ge_nI (b := 4) c8 (by omega) (by omega); rw [show i = 4 by omega]) dX1_dueBy_40
      · have hlt : i < 4 := lt_nI (b := 4) c8 (by omega) (by omega)
        refine lv_aload_n hx hb dX1_dueBy_11 rfl (lv_at hl 2 rfl) ?_
        refine g_get (C := RX7) (T := TX7) (N := 14) (ci := 7) (index := 49) hx hb hts in_X1_dueBy_7 hown hK hP 4 0 rfl rfl (by decide) (List.mem_of_getElem? (i := 1) rfl) rfl dX1_dueBy_12 ?_
        refine lv_iload hx hb dX1_dueBy_15 (lv_at hl 4 rfl) ?_
        refine rd_V (As := [.int (nI i)]) (rest := []) (ci := 5) (kX5_first l D cI cB (Ya 0) (Yfa 0) (Ysa 0) 4 (Yc 0) (Yf 0) (Yg 0) (nI i) (by omega) (by omega)) ⟨hx, hb, hml, hown, hts⟩ (cwV 1 hts gX1_dueBy_X5_first rfl rfl rfl (by decide +kernel) ⟨Nat.le_of_ble_eq_true rfl, Nat.le_of_ble_eq_true rfl⟩) hK hP [5, 6, 7] rfl 5 rfl rfl rfl rfl hl.1 (Nat.le_of_ble_eq_true rfl) dX1_dueBy_17 ⟨Nat.le_refl _, Nat.le_refl _⟩ ?_
        refine lv_iload_n hx hb dX1_dueBy_20 rfl (lv_at hl 1 rfl) ?_
        refine lv_icmp_gt (tgt := 33) hx hb dX1_dueBy_21 (by decide) (fun c21 => ?_) (fun c21 => ?_)
        · refine lv_iinc (v := nI (i + 1)) (lv' := [(4, .int (nI (i + 1))), (0, .ref ak), (1, .int d), (2, .ref yr), (3, .int (duX (Yf 0) (Yc 0) Th d i))]) hx hb dX1_dueBy_33 hl (k := 4) rfl (nI_add _ 1) (by decide) rfl (fun ls hl => ?_)
          refine lv_goto (tgt := 5) hx hb dX1_dueBy_36 (by decide) ?_
          exact ih5 (i + 1) (by omega) _ _ (by omega) (by simp [duX, c8, c21]) (rfl) ls (lv_sub hl [1, 2, 3, 4, 0] rfl)
        · refine lv_iload_n hx hb dX1_dueBy_24 rfl (lv_at hl 3 rfl) ?_
          refine lv_aload_n hx hb dX1_dueBy_25 rfl (lv_at hl 0 rfl) ?_
          refine lv_iload hx hb dX1_dueBy_26 (lv_at hl 4 rfl) ?_
          refine rd_V (As := [.int (nI i)]) (rest := [.int (duX (Yf 0) (Yc 0) Th d i)]) (ci := 1) (kX1_instalment l D cI cB ak la lr lt L K Th (nI i) ) ⟨hx, hb, hml, hown, hts⟩ (cwV 1 hts gX1_dueBy_X1_instalment rfl rfl rfl (by decide +kernel) ⟨Nat.le_of_ble_eq_true rfl, Nat.le_of_ble_eq_true rfl⟩) hK hP [0, 1, 2, 3] rfl 0 rfl rfl rfl rfl hl.1 (Nat.le_of_ble_eq_true rfl) dX1_dueBy_28 ⟨Nat.le_refl _, Nat.le_refl _⟩ ?_
          refine lv_iadd hx hb dX1_dueBy_31 ?_
          refine lv_istore_n (lv' := [(3, .int ((duX (Yf 0) (Yc 0) Th d i) + (insX Th (nI i)))), (0, .ref ak), (1, .int d), (2, .ref yr), (4, .int (nI i))]) hx hb dX1_dueBy_32 rfl hl (by decide) rfl (fun ls hl => ?_)
          refine lv_iinc (v := nI (i + 1)) (lv' := [(4, .int (nI (i + 1))), (3, .int ((duX (Yf 0) (Yc 0) Th d i) + (insX Th (nI i)))), (0, .ref ak), (1, .int d), (2, .ref yr)]) hx hb dX1_dueBy_33 hl (k := 4) rfl (nI_add _ 1) (by decide) rfl (fun ls hl => ?_)
          refine lv_goto (tgt := 5) hx hb dX1_dueBy_36 (by decide) ?_
          exact ih5 (i + 1) (by omega) _ _ (by omega) (by simp [duX, c8, c21]) (rfl) ls (lv_sub hl [2, 3, 4, 1, 0] rfl)
  exact L5 (4 - 0 + 1) 0 (by omega) _ _ (Nat.lt_succ_self _) (rfl) (nI_0.symm) ls (lv_sub hl [2, 3, 4, 1, 0] rfl)

theorem in_X1_chooseLeast_1 : ∀ w ∈ wsX10, w ∈ wsX1_chooseLeast := fun _ h => List.mem_cons_of_mem _ (List.mem_append_left _ (List.mem_append_left _ (List.mem_append_right _ (h))))
set_option maxHeartbeats 4000000 in
set_option maxRecDepth 100000 in
theorem kX1_chooseLeast (l : Launch) (D : va_G) (cI cB : ClassId) (ak la lr lt : Nat) (L K Th : Nat → Int32) (yr : Nat) (Ya Yfa Ysa : Nat → Nat) (Yf Yg : Nat → Nat → Int32) (Yc : Nat → Nat) (Yv : Nat → Int32) (bar : Int32) (p : Nat) (hc0 : Yc 0 ≤ 4) (hc1 : Yc 1 ≤ 4) (hc3 : Yc 3 ≤ 40) (hp : p < 4) : Wr l D (TY cI cB) yX1_chooseLeast wsX1_chooseLeast 3 71 [.ref ak, .ref yr, .int bar, .int (nI p)] [(ak, .inr (1, [.ref la, .ref lr, .ref lt])), (la, .inl (cI, 4, .inl L)), (lr, .inl (cI, 4, .inl K)), (lt, .inl (cI, 4, .inl Th)), (yr, .inr (7, [.ref (Ya 0), .ref (Ya 1), .ref (Ya 2), .ref (Ya 3), .ref (Ya 4), .ref (Ya 5), .int (Yv 6), .int (Yv 7), .int (Yv 8), .int (Yv 9), .int (Yv 10), .int (Yv 11), .int (Yv 12), .int (Yv 13)])), (Ya 0, .inr (5, [.ref (Yfa 0), .ref (Ysa 0), .int (nI (Yc 0))])), (Yfa 0, .inl (cI, 4, .inl (Yf 0))), (Ysa 0, .inl (cI, 4, .inl (Yg 0))), (Ya 1, .inr (5, [.ref (Yfa 1), .ref (Ysa 1), .int (nI (Yc 1))])), (Yfa 1, .inl (cI, 4, .inl (Yf 1))), (Ysa 1, .inl (cI, 4, .inl (Yg 1))), (Ya 3, .inr (5, [.ref (Yfa 3), .ref (Ysa 3), .int (nI (Yc 3))])), (Yfa 3, .inl (cI, 40, .inl (Yf 3))), (Ysa 3, .inl (cI, 40, .inl (Yg 3)))] [(ak, .inr (1, [.ref la, .ref lr, .ref lt])), (la, .inl (cI, 4, .inl (upd L p (lsF (sbX Yf Yg Yc Yv) bar p)))), (lr, .inl (cI, 4, .inl (upd K p (ruF (sbX Yf Yg Yc Yv) bar p)))), (lt, .inl (cI, 4, .inl Th)), (yr, .inr (7, [.ref (Ya 0), .ref (Ya 1), .ref (Ya 2), .ref (Ya 3), .ref (Ya 4), .ref (Ya 5), .int (Yv 6), .int (Yv 7), .int (Yv 8), .int (Yv 9), .int (Yv 10), .int (Yv 11), .int (Yv 12), .int (Yv 13)])), (Ya 0, .inr (5, [.ref (Yfa 0), .ref (Ysa 0), .int (nI (Yc 0))])), (Yfa 0, .inl (cI, 4, .inl (Yf 0))), (Ysa 0, .inl (cI, 4, .inl (Yg 0))), (Ya 1, .inr (5, [.ref (Yfa 1), .ref (Ysa 1), .int (nI (Yc 1))])), (Yfa 1, .inl (cI, 4, .inl (Yf 1))), (Ysa 1, .inl (cI, 4, .inl (Yg 1))), (Ya 3, .inr (5, [.ref (Yfa 3), .ref (Ysa 3), .int (nI (Yc 3))])), (Yfa 3, .inl (cI, 40, .inl (Yf 3))), (Ysa 3, .inl (cI, 40, .inl (Yg 3)))] none := by
  refine wr_v (cc := cX1_chooseLeast) (maxL := 8) (by decide) rfl (Nat.le_of_ble_eq_true rfl) ?_
  intro p_ e_ s_ m_ ar_ be_ me_ co_ ls Q_ A_ hx hb hml hown hts hP hK hD hS hl hret
  have hown : s_.vm.findClass RX1 = some m_.cls := hown
  have hl : lv_has ls 8 [(0, .ref ak), (1, .ref yr), (2, .int bar), (3, .int (nI p))] := hl
  refine lv_iconst (v := 0) hx hb dX1_chooseLeast_0 (by decide) ?_
  refine lv_istore (lv' := [(4, .int 0), (0, .ref ak), (1, .ref yr), (2, .int bar), (3, .int (nI p))]) hx hb dX1_chooseLeast_1 hl (by decide) rfl (fun ls hl => ?_)
  refine lv_iconst (v := -1) hx hb dX1_chooseLeast_3 (by decide) ?_
  refine lv_istore (lv' := [(5, .int (-1)), (4, .int 0), (0, .ref ak), (1, .ref yr), (2, .int bar), (3, .int (nI p))]) hx hb dX1_chooseLeast_4 hl (by decide) rfl (fun ls hl => ?_)
  refine lv_iconst (v := 0) hx hb dX1_chooseLeast_6 (by decide) ?_
  refine lv_istore (lv' := [(6, .int 0), (5, .int (-1)), (4, .int 0), (0, .ref ak), (1, .ref yr), (2, .int bar), (3, .int (nI p))]) hx hb dX1_chooseLeast_7 hl (by decide) rfl (fun ls hl => ?_)
  have L9 : ∀ (nn_ : Nat) (i : Nat) (hi : i ≤ 3) (xx_v4 : Int32) (xx_v5 : Int32) (xx_v6 : Int32), (3 - i) < nn_ → xx_v4 = (chX (fun r => sbX Yf Yg Yc Yv r (nI p)) bar i).1 → xx_v5 = (chX (fun r => sbX Yf Yg Yc Yv r (nI p)) bar i).2 → xx_v6 = nI i → ∀ (H_ : Heap) (lc_ : List Loc), va_P D vwCl [(ak, .inr (1, [.ref la, .ref lr, .ref lt])), (la, .inl (cI, 4, .inl L)), (lr, .inl (cI, 4, .inl K)), (lt, .inl (cI, 4, .inl Th)), (yr, .inr (7, [.ref (Ya 0), .ref (Ya 1), .ref (Ya 2), .ref (Ya 3), .ref (Ya 4), .ref (Ya 5), .int (Yv 6), .int (Yv 7), .int (Yv 8), .int (Yv 9), .int (Yv 10), .int (Yv 11), .int (Yv 12), .int (Yv 13)])), (Ya 0, .inr (5, [.ref (Yfa 0), .ref (Ysa 0), .int (nI (Yc 0))])), (Yfa 0, .inl (cI, 4, .inl (Yf 0))), (Ysa 0, .inl (cI, 4, .inl (Yg 0))), (Ya 1, .inr (5, [.ref (Yfa 1), .ref (Ysa 1), .int (nI (Yc 1))])), (Yfa 1, .inl (cI, 4, .inl (Yf 1))), (Ysa 1, .inl (cI, 4, .inl (Yg 1))), (Ya 3, .inr (5, [.ref (Yfa 3), .ref (Ysa 3), .int (nI (Yc 3))])), (Yfa 3, .inl (cI, 40, .inl (Yf 3))), (Ysa 3, .inl (cI, 40, .inl (Yg 3)))] H_ → va_D A_ [(ak, .inr (1, [.ref la, .ref lr, .ref lt])), (la, .inl (cI, 4, .inl L)), (lr, .inl (cI, 4, .inl K)), (lt, .inl (cI, 4, .inl Th)), (yr, .inr (7, [.ref (Ya 0), .ref (Ya 1), .ref (Ya 2), .ref (Ya 3), .ref (Ya 4), .ref (Ya 5), .int (Yv 6), .int (Yv 7), .int (Yv 8), .int (Yv 9), .int (Yv 10), .int (Yv 11), .int (Yv 12), .int (Yv 13)])), (Ya 0, .inr (5, [.ref (Yfa 0), .ref (Ysa 0), .int (nI (Yc 0))])), (Yfa 0, .inl (cI, 4, .inl (Yf 0))), (Ysa 0, .inl (cI, 4, .inl (Yg 0))), (Ya 1, .inr (5, [.ref (Yfa 1), .ref (Ysa 1), .int (nI (Yc 1))])), (Yfa 1, .inl (cI, 4, .inl (Yf 1))), (Ysa 1, .inl (cI, 4, .inl (Yg 1))), (Ya 3, .inr (5, [.ref (Yfa 3), .ref (Ysa 3), .int (nI (Yc 3))])), (Yfa 3, .inl (cI, 40, .inl (Yf 3))), (Ysa 3, .inl (cI, 40, .inl (Yg 3)))] → va_S A_ s_.heap H_ lc_ → ∀ (ls : Array Slot), lv_has ls 8 [(0, .ref ak), (1, .ref yr), (2, .int bar), (3, .int (nI p)), (4, .int xx_v4), (5, .int xx_v5), (6, .int xx_v6)] → W p_ l e_ (RM 3 71) s_ m_ ar_ be_ me_ co_ H_ lc_ 0 0 Q_ (F0 m_ 9 ls []) := by
    intro nn_
    induction nn_ with
    | zero => intro i hi xx_v4 xx_v5 xx_v6 hn_; exact absurd hn_ (Nat.not_lt_zero _)
    | succ nn_ ih9 =>
      intro i hi xx_v4 xx_v5 xx_v6 hn_ e_xx_v4 e_xx_v5 e_xx_v6 H_ lc_ hP hD hS ls hl
      subst e_xx_v4 e_xx_v5 e_xx_v6
      refine lv_iload hx hb dX1_chooseLeast_9 (lv_at hl 6 rfl) ?_
      refine lv_iconst (v := 3) hx hb dX1_chooseLeast_11 (by decide) ?_
      refine lv_icmp_ge (tgt := 60) hx hb dX1_chooseLeast_12 (by decide) (fun c12 => ?_) (fun c12 => ?_)
      · obtain rfl : i = 3 := by have q := ge_nI (b := 3) c12 (by omega) (by omega); omega
        refine lv_iload_n hx hb dX1_chooseLeast_60 rfl (lv_at hl 3 rfl) ?_
        refine lv_if_lt (tgt := 98) hx hb dX1_chooseLeast_61 (by decide) (fun c61 => absurd c61 (nI_pos (by omega))) (fun c61 => ?_)
        refine lv_iload_n hx hb dX1_chooseLeast_64 rfl (lv_at hl 3 rfl) ?_
        refine lv_aload_n hx hb dX1_chooseLeast_65 rfl (lv_at hl 0 rfl) ?_
        refine g_get (C := RX1) (T := TX1) (N := 3) (ci := 1) (index := 9) hx hb hts in_X1_chooseLeast_1 hown hK hP 0 0 rfl rfl (by decide) (List.mem_of_getElem? (i := 1) rfl) rfl dX1_chooseLeast_66 ?_
        refine va_alen (v := nI 4) hx hb hK hP 1 0 rfl rfl rfl dX1_chooseLeast_69 ?_
        refine lv_icmp_ge (tgt := 98) hx hb dX1_chooseLeast_70 (by decide) (fun c70 => absurd c70 (nI_ge (by omega) (by omega))) (fun c70 => ?_)
        refine lv_iload_n hx hb dX1_chooseLeast_73 rfl (lv_at hl 3 rfl) ?_
        refine lv_aload_n hx hb dX1_chooseLeast_74 rfl (lv_at hl 0 rfl) ?_
        refine g_get (C := RX1) (T := TX1) (N := 3) (ci := 1) (index := 15) hx hb hts in_X1_chooseLeast_1 hown hK hP 0 1 rfl rfl (by decide) (List.mem_of_getElem? (i := 2) rfl) rfl dX1_chooseLeast_75 ?_
        refine va_alen (v := nI 4) hx hb hK hP 2 0 rfl rfl rfl dX1_chooseLeast_78 ?_
        refine lv_icmp_ge (tgt := 98) hx hb dX1_chooseLeast_79 (by decide) (fun c79 => absurd c79 (nI_ge (by omega) (by omega))) (fun c79 => ?_)
        refine lv_aload_n hx hb dX1_chooseLeast_82 rfl (lv_at hl 0 rfl) ?_
        refine g_get (C := RX1) (T := TX1) (N := 3) (ci := 1) (index := 9) hx hb hts in_X1_chooseLeast_1 hown hK hP 0 0 rfl rfl (by decide) (List.mem_of_getElem? (i := 1) rfl) rfl dX1_chooseLeast_83 ?_
        refine lv_iload_n hx hb dX1_chooseLeast_86 rfl (lv_at hl 3 rfl) ?_
        refine lv_iload hx hb dX1_chooseLeast_87 (lv_at hl 4 rfl) ?_
        refine g_iast hx hb hK hP hD hS 1 0 rfl rfl p (rfl) (by omega) (by omega) dX1_chooseLeast_89 (fun H_ lc_ hP hD hS => ?_)
        have hP : va_P D vwCl [(ak, .inr (1, [.ref la, .ref lr, .ref lt])), (la, .inl (cI, 4, .inl (upd L p (chX (fun r => sbX Yf Yg Yc Yv r (nI p)) bar 3).1))), (lr, .inl (cI, 4, .inl K)), (lt, .inl (cI, 4, .inl Th)), (yr, .inr (7, [.ref (Ya 0), .ref (Ya 1), .ref (Ya 2), .ref (Ya 3), .ref (Ya 4), .ref (Ya 5), .int (Yv 6), .int (Yv 7), .int (Yv 8), .int (Yv 9), .int (Yv 10), .int (Yv 11), .int (Yv 12), .int (Yv 13)])), (Ya 0, .inr (5, [.ref (Yfa 0), .ref (Ysa 0), .int (nI (Yc 0))])), (Yfa 0, .inl (cI, 4, .inl (Yf 0))), (Ysa 0, .inl (cI, 4, .inl (Yg 0))), (Ya 1, .inr (5, [.ref (Yfa 1), .ref (Ysa 1), .int (nI (Yc 1))])), (Yfa 1, .inl (cI, 4, .inl (Yf 1))), (Ysa 1, .inl (cI, 4, .inl (Yg 1))), (Ya 3, .inr (5, [.ref (Yfa 3), .ref (Ysa 3), .int (nI (Yc 3))])), (Yfa 3, .inl (cI, 40, .inl (Yf 3))), (Ysa 3, .inl (cI, 40, .inl (Yg 3)))] H_ := hP
        have hD : va_D A_ [(ak, .inr (1, [.ref la, .ref lr, .ref lt])), (la, .inl (cI, 4, .inl (upd L p (chX (fun r => sbX Yf Yg Yc Yv r (nI p)) bar 3).1))), (lr, .inl (cI, 4, .inl K)), (lt, .inl (cI, 4, .inl Th)), (yr, .inr (7, [.ref (Ya 0), .ref (Ya 1), .ref (Ya 2), .ref (Ya 3), .ref (Ya 4), .ref (Ya 5), .int (Yv 6), .int (Yv 7), .int (Yv 8), .int (Yv 9), .int (Yv 10), .int (Yv 11), .int (Yv 12), .int (Yv 13)])), (Ya 0, .inr (5, [.ref (Yfa 0), .ref (Ysa 0), .int (nI (Yc 0))])), (Yfa 0, .inl (cI, 4, .inl (Yf 0))), (Ysa 0, .inl (cI, 4, .inl (Yg 0))), (Ya 1, .inr (5, [.ref (Yfa 1), .ref (Ysa 1), .int (nI (Yc 1))])), (Yfa 1, .inl (cI, 4, .inl (Yf 1))), (Ysa 1, .inl (cI, 4, .inl (Yg 1))), (Ya 3, .inr (5, [.ref (Yfa 3), .ref (Ysa 3), .int (nI (Yc 3))])), (Yfa 3, .inl (cI, 40, .inl (Yf 3))), (Ysa 3, .inl (cI, 40, .inl (Yg 3)))] := hD
        refine lv_aload_n hx hb dX1_chooseLeast_90 rfl (lv_at hl 0 rfl) ?_
        refine g_get (C := RX1) (T := TX1) (N := 3) (ci := 1) (index := 15) hx hb hts in_X1_chooseLeast_1 hown hK hP 0 1 rfl rfl (by decide) (List.mem_of_getElem? (i := 2) rfl) rfl dX1_chooseLeast_91 ?_
        refine lv_iload_n hx hb dX1_chooseLeast_94 rfl (lv_at hl 3 rfl) ?_
        refine lv_iload hx hb dX1_chooseLeast_95 (lv_at hl 5 rfl) ?_
        refine g_iast hx hb hK hP hD hS 2 0 rfl rfl p (rfl) (by omega) (by omega) dX1_chooseLeast_97 (fun H_ lc_ hP hD hS => ?_)
        have hP : va_P D vwCl [(ak, .inr (1, [.ref la, .ref lr, .ref lt])), (la, .inl (cI, 4, .inl (upd L p (chX (fun r => sbX Yf Yg Yc Yv r (nI p)) bar 3).1))), (lr, .inl (cI, 4, .inl (upd K p (chX (fun r => sbX Yf Yg Yc Yv r (nI p)) bar 3).2))), (lt, .inl (cI, 4, .inl Th)), (yr, .inr (7, [.ref (Ya 0), .ref (Ya 1), .ref (Ya 2), .ref (Ya 3), .ref (Ya 4), .ref (Ya 5), .int (Yv 6), .int (Yv 7), .int (Yv 8), .int (Yv 9), .int (Yv 10), .int (Yv 11), .int (Yv 12), .int (Yv 13)])), (Ya 0, .inr (5, [.ref (Yfa 0), .ref (Ysa 0), .int (nI (Yc 0))])), (Yfa 0, .inl (cI, 4, .inl (Yf 0))), (Ysa 0, .inl (cI, 4, .inl (Yg 0))), (Ya 1, .inr (5, [.ref (Yfa 1), .ref (Ysa 1), .int (nI (Yc 1))])), (Yfa 1, .inl (cI, 4, .inl (Yf 1))), (Ysa 1, .inl (cI, 4, .inl (Yg 1))), (Ya 3, .inr (5, [.ref (Yfa 3), .ref (Ysa 3), .int (nI (Yc 3))])), (Yfa 3, .inl (cI, 40, .inl (Yf 3))), (Ysa 3, .inl (cI, 40, .inl (Yg 3)))] H_ := hP
        have hD : va_D A_ [(ak, .inr (1, [.ref la, .ref lr, .ref lt])), (la, .inl (cI, 4, .inl (upd L p (chX (fun r => sbX Yf Yg Yc Yv r (nI p)) bar 3).1))), (lr, .inl (cI, 4, .inl (upd K p (chX (fun r => sbX Yf Yg Yc Yv r (nI p)) bar 3).2))), (lt, .inl (cI, 4, .inl Th)), (yr, .inr (7, [.ref (Ya 0), .ref (Ya 1), .ref (Ya 2), .ref (Ya 3), .ref (Ya 4), .ref (Ya 5), .int (Yv 6), .int (Yv 7), .int (Yv 8), .int (Yv 9), .int (Yv 10), .int (Yv 11), .int (Yv 12), .int (Yv 13)])), (Ya 0, .inr (5, [.ref (Yfa 0), .ref (Ysa 0), .int (nI (Yc 0))])), (Yfa 0, .inl (cI, 4, .inl (Yf 0))), (Ysa 0, .inl (cI, 4, .inl (Yg 0))), (Ya 1, .inr (5, [.ref (Yfa 1), .ref (Ysa 1), .int (nI (Yc 1))])), (Yfa 1, .inl (cI, 4, .inl (Yf 1))), (Ysa 1, .inl (cI, 4, .inl (Yg 1))), (Ya 3, .inr (5, [.ref (Yfa 3), .ref (Ysa 3), .int (nI (Yc 3))])), (Yfa 3, .inl (cI, 40, .inl (Yf 3))), (Ysa 3, .inl (cI, 40, .inl (Yg 3)))] := hD
        exact hret _ _ _ ls hS (hP) dX1_chooseLeast_98
      · have hlt : i < 3 := lt_nI (b := 3) c12 (by omega) (by omega)
        refine lv_iload_n hx hb dX1_chooseLeast_15 rfl (lv_at hl 2 rfl) ?_
        refine lv_iload hx hb dX1_chooseLeast_16 (lv_at hl 6 rfl) ?_
        refine lv_ishr hx hb dX1_chooseLeast_18 ?_
        refine lv_iconst (v := 1) hx hb dX1_chooseLeast_19 (by decide) ?_
        refine lv_iand hx hb dX1_chooseLeast_20 ?_
        refine lv_if_ne (tgt := 54) hx hb dX1_chooseLeast_21 (by decide) (fun c21 => ?_) (fun c21 => ?_)
        · refine lv_iinc (v := nI (i + 1)) (lv' := [(6, .int (nI (i + 1))), (0, .ref ak), (1, .ref yr), (2, .int bar), (3, .int (nI p)), (4, .int (chX (fun r => sbX Yf Yg Yc Yv r (nI p)) bar i).1), (5, .int (chX (fun r => sbX Yf Yg Yc Yv r (nI p)) bar i).2)]) hx hb dX1_chooseLeast_54 hl (k := 6) rfl (nI_add _ 1) (by decide) rfl (fun ls hl => ?_)
          refine lv_goto (tgt := 9) hx hb dX1_chooseLeast_57 (by decide) ?_
          exact ih9 (i + 1) (by omega) _ _ _ (by omega) (by simp [chX, c12, c21]) (by simp [chX, c12, c21]) (rfl) _ _ hP hD hS ls (lv_sub hl [1, 2, 3, 4, 5, 6, 0] rfl)
        · refine lv_aload_n hx hb dX1_chooseLeast_24 rfl (lv_at hl 1 rfl) ?_
          refine lv_iload hx hb dX1_chooseLeast_25 (lv_at hl 6 rfl) ?_
          refine lv_iload_n hx hb dX1_chooseLeast_27 rfl (lv_at hl 3 rfl) ?_
          refine rd_V (As := [.int (nI i), .int (nI p)]) (rest := []) (ci := 7) (kX7_sumBy l D cI cB yr Ya Yfa Ysa Yf Yg Yc Yv (nI i) (nI p) (by omega) (by omega) (by omega)) ⟨hx, hb, hml, hown, hts⟩ (cwV 2 hts gX1_chooseLeast_X7_sumBy rfl rfl rfl (by decide +kernel) ⟨Nat.le_of_ble_eq_true rfl, Nat.le_of_ble_eq_true rfl⟩) hK hP [4, 5, 6, 7, 8, 9, 10, 11, 12, 13] rfl 4 rfl rfl rfl rfl hl.1 (Nat.le_of_ble_eq_true rfl) dX1_chooseLeast_28 ⟨Nat.le_refl _, Nat.le_refl _⟩ ?_
          refine lv_istore (lv' := [(7, .int (sbX Yf Yg Yc Yv (nI i) (nI p))), (0, .ref ak), (1, .ref yr), (2, .int bar), (3, .int (nI p)), (4, .int (chX (fun r => sbX Yf Yg Yc Yv r (nI p)) bar i).1), (5, .int (chX (fun r => sbX Yf Yg Yc Yv r (nI p)) bar i).2), (6, .int (nI i))]) hx hb dX1_chooseLeast_31 hl (by decide) rfl (fun ls hl => ?_)
          refine lv_iload hx hb dX1_chooseLeast_33 (lv_at hl 6 rfl) ?_
          refine lv_iconst (v := -1) hx hb dX1_chooseLeast_35 (by decide) ?_
          refine lv_icmp_eq (tgt := 46) hx hb dX1_chooseLeast_36 (by decide) (fun c36 => ?_) (fun c36 => ?_)
          · refine lv_iload hx hb dX1_chooseLeast_46 (lv_at hl 0 rfl) ?_
            refine lv_istore (lv' := [(4, .int (sbX Yf Yg Yc Yv (nI i) (nI p))), (7, .int (sbX Yf Yg Yc Yv (nI i) (nI p))), (0, .ref ak), (1, .ref yr), (2, .int bar), (3, .int (nI p)), (5, .int (chX (fun r => sbX Yf Yg Yc Yv r (nI p)) bar i).2), (6, .int (nI i))]) hx hb dX1_chooseLeast_48 hl (by decide) rfl (fun ls hl => ?_)
            refine lv_iload hx hb dX1_chooseLeast_50 (lv_at hl 7 rfl) ?_
            refine lv_istore (lv' := [(5, .int (nI i)), (4, .int (sbX Yf Yg Yc Yv (nI i) (nI p))), (7, .int (sbX Yf Yg Yc Yv (nI i) (nI p))), (0, .ref ak), (1, .ref yr), (2, .int bar), (3, .int (nI p)), (6, .int (nI i))]) hx hb dX1_chooseLeast_52 hl (by decide) rfl (fun ls hl => ?_)
            refine lv_iinc (v := nI (i + 1)) (lv' := [(6, .int (nI (i + 1))), (5, .int (nI i)), (4, .int (sbX Yf Yg Yc Yv (nI i) (nI p))), (7, .int (sbX Yf Yg Yc Yv (nI i) (nI p))), (0, .ref ak), (1, .ref yr), (2, .int bar), (3, .int (nI p))]) hx hb dX1_chooseLeast_54 hl (k := 7) rfl (nI_add _ 1) (by decide) rfl (fun ls hl => ?_)
            refine lv_goto (tgt := 9) hx hb dX1_chooseLeast_57 (by decide) ?_
            exact ih9 (i + 1) (by omega) _ _ _ (by omega) (by simp [chX, c12, c21, c36]) (by simp [chX, c12, c21, c36]) (rfl) _ _ hP hD hS ls (lv_sub hl [4, 5, 6, 7, 2, 1, 0] rfl)
          · refine lv_iload hx hb dX1_chooseLeast_39 (lv_at hl 0 rfl) ?_
            refine lv_iload hx hb dX1_chooseLeast_41 (lv_at hl 5 rfl) ?_
            refine lv_icmp_ge (tgt := 54) hx hb dX1_chooseLeast_43 (by decide) (fun c43 => ?_) (fun c43 => ?_)
            · refine lv_iinc (v := nI (i + 1)) (lv' := [(6, .int (nI (i + 1))), (7, .int (sbX Yf Yg Yc Yv (nI i) (nI p))), (0, .ref ak), (1, .ref yr), (2, .int bar), (3, .int (nI p)), (4, .int (chX (fun r => sbX Yf Yg Yc Yv r (nI p)) bar i).1), (5, .int (chX (fun r => sbX Yf Yg Yc Yv r (nI p)) bar i).2)]) hx hb dX1_chooseLeast_54 hl (k := 7) rfl (nI_add _ 1) (by decide) rfl (fun ls hl => ?_)
              refine lv_goto (tgt := 9) hx hb dX1_chooseLeast_57 (by decide) ?_
              exact ih9 (i + 1) (by omega) _ _ _ (by omega) (by simp [chX, c12, c21, c36, c43]) (by simp [chX, c12, c21, c36, c43]) (rfl) _ _ hP hD hS ls (lv_sub hl [2, 3, 4, 5, 6, 7, 0] rfl)
            · refine lv_iload hx hb dX1_chooseLeast_46 (lv_at hl 0 rfl) ?_
              refine lv_istore (lv' := [(4, .int (sbX Yf Yg Yc Yv (nI i) (nI p))), (7, .int (sbX Yf Yg Yc Yv (nI i) (nI p))), (0, .ref ak), (1, .ref yr), (2, .int bar), (3, .int (nI p)), (5, .int (chX (fun r => sbX Yf Yg Yc Yv r (nI p)) bar i).2), (6, .int (nI i))]) hx hb dX1_chooseLeast_48 hl (by decide) rfl (fun ls hl => ?_)
              refine lv_iload hx hb dX1_chooseLeast_50 (lv_at hl 7 rfl) ?_
              refine lv_istore (lv' := [(5, .int (nI i)), (4, .int (sbX Yf Yg Yc Yv (nI i) (nI p))), (7, .int (sbX Yf Yg Yc Yv (nI i) (nI p))), (0, .ref ak), (1, .ref yr), (2, .int bar), (3, .int (nI p)), (6, .int (nI i))]) hx hb dX1_chooseLeast_52 hl (by decide) rfl (fun ls hl => ?_)
              refine lv_iinc (v := nI (i + 1)) (lv' := [(6, .int (nI (i + 1))), (5, .int (nI i)), (4, .int (sbX Yf Yg Yc Yv (nI i) (nI p))), (7, .int (sbX Yf Yg Yc Yv (nI i) (nI p))), (0, .ref ak), (1, .ref yr), (2, .int bar), (3, .int (nI p))]) hx hb dX1_chooseLeast_54 hl (k := 7) rfl (nI_add _ 1) (by decide) rfl (fun ls hl => ?_)
              refine lv_goto (tgt := 9) hx hb dX1_chooseLeast_57 (by decide) ?_
              exact ih9 (i + 1) (by omega) _ _ _ (by omega) (by simp [chX, c12, c21, c36, c43]) (by simp [chX, c12, c21, c36, c43]) (rfl) _ _ hP hD hS ls (lv_sub hl [4, 5, 6, 7, 2, 1, 0] rfl)
  exact L9 (3 - 0 + 1) 0 (by omega) _ _ _ (Nat.lt_succ_self _) (rfl) (rfl) (nI_0.symm) _ _ hP hD hS ls (lv_sub hl [3, 4, 5, 6, 2, 1, 0] rfl)

theorem in_X1_reckon_1 : ∀ w ∈ wsX10, w ∈ wsX1_reckon := fun _ h => List.mem_cons_of_mem _ (List.mem_append_left _ (List.mem_append_left _ (List.mem_append_right _ (h))))
set_option maxHeartbeats 4000000 in
set_option maxRecDepth 100000 in
theorem kX1_reckon (l : Launch) (D : va_G) (cI cB : ClassId) (ak la lr lt : Nat) (L K Th : Nat → Int32) (yr : Nat) (Ya Yfa Ysa : Nat → Nat) (Yf Yg : Nat → Nat → Int32) (Yc : Nat → Nat) (Yv : Nat → Int32) (bar : Int32) (hc0 : Yc 0 ≤ 4) (hc1 : Yc 1 ≤ 4) (hc3 : Yc 3 ≤ 40) : Wr l D (TY cI cB) yX1_reckon wsX1_reckon 4 98 [.ref ak, .ref yr, .int bar] [(ak, .inr (1, [.ref la, .ref lr, .ref lt])), (la, .inl (cI, 4, .inl L)), (lr, .inl (cI, 4, .inl K)), (lt, .inl (cI, 4, .inl Th)), (yr, .inr (7, [.ref (Ya 0), .ref (Ya 1), .ref (Ya 2), .ref (Ya 3), .ref (Ya 4), .ref (Ya 5), .int (Yv 6), .int (Yv 7), .int (Yv 8), .int (Yv 9), .int (Yv 10), .int (Yv 11), .int (Yv 12), .int (Yv 13)])), (Ya 0, .inr (5, [.ref (Yfa 0), .ref (Ysa 0), .int (nI (Yc 0))])), (Yfa 0, .inl (cI, 4, .inl (Yf 0))), (Ysa 0, .inl (cI, 4, .inl (Yg 0))), (Ya 1, .inr (5, [.ref (Yfa 1), .ref (Ysa 1), .int (nI (Yc 1))])), (Yfa 1, .inl (cI, 4, .inl (Yf 1))), (Ysa 1, .inl (cI, 4, .inl (Yg 1))), (Ya 3, .inr (5, [.ref (Yfa 3), .ref (Ysa 3), .int (nI (Yc 3))])), (Yfa 3, .inl (cI, 40, .inl (Yf 3))), (Ysa 3, .inl (cI, 40, .inl (Yg 3)))] [(ak, .inr (1, [.ref la, .ref lr, .ref lt])), (la, .inl (cI, 4, .inl (ov (lsF (sbX Yf Yg Yc Yv) bar) L 4))), (lr, .inl (cI, 4, .inl (ov (ruF (sbX Yf Yg Yc Yv) bar) K 4))), (lt, .inl (cI, 4, .inl (ov (thF (sbX Yf Yg Yc Yv) bar) Th 4))), (yr, .inr (7, [.ref (Ya 0), .ref (Ya 1), .ref (Ya 2), .ref (Ya 3), .ref (Ya 4), .ref (Ya 5), .int (Yv 6), .int (Yv 7), .int (Yv 8), .int (Yv 9), .int (Yv 10), .int (Yv 11), .int (Yv 12), .int (Yv 13)])), (Ya 0, .inr (5, [.ref (Yfa 0), .ref (Ysa 0), .int (nI (Yc 0))])), (Yfa 0, .inl (cI, 4, .inl (Yf 0))), (Ysa 0, .inl (cI, 4, .inl (Yg 0))), (Ya 1, .inr (5, [.ref (Yfa 1), .ref (Ysa 1), .int (nI (Yc 1))])), (Yfa 1, .inl (cI, 4, .inl (Yf 1))), (Ysa 1, .inl (cI, 4, .inl (Yg 1))), (Ya 3, .inr (5, [.ref (Yfa 3), .ref (Ysa 3), .int (nI (Yc 3))])), (Yfa 3, .inl (cI, 40, .inl (Yf 3))), (Ysa 3, .inl (cI, 40, .inl (Yg 3)))] none := by
  refine wr_v (cc := cX1_reckon) (maxL := 5) (by decide) rfl (Nat.le_of_ble_eq_true rfl) ?_
  intro p_ e_ s_ m_ ar_ be_ me_ co_ ls Q_ A_ hx hb hml hown hts hP hK hD hS hl hret
  have hown : s_.vm.findClass RX1 = some m_.cls := hown
  have hl : lv_has ls 5 [(0, .ref ak), (1, .ref yr), (2, .int bar)] := hl
  refine lv_iconst (v := 0) hx hb dX1_reckon_0 (by decide) ?_
  refine lv_istore_n (lv' := [(3, .int 0), (0, .ref ak), (1, .ref yr), (2, .int bar)]) hx hb dX1_reckon_1 rfl hl (by decide) rfl (fun ls hl => ?_)
  refine lv_iconst (v := 0) hx hb dX1_reckon_2 (by decide) ?_
  refine lv_istore (lv' := [(4, .int 0), (3, .int 0), (0, .ref ak), (1, .ref yr), (2, .int bar)]) hx hb dX1_reckon_3 hl (by decide) rfl (fun ls hl => ?_)
  have L5 : ∀ (nn_ : Nat) (i : Nat) (hi : i ≤ 4) (xx_v3 : Int32) (xx_v4 : Int32) (xx_g1 : Nat → Int32) (xx_g2 : Nat → Int32) (xx_g3 : Nat → Int32), (4 - i) < nn_ → xx_v3 = thS (sbX Yf Yg Yc Yv) bar i → xx_v4 = nI i → xx_g1 = ov (lsF (sbX Yf Yg Yc Yv) bar) L i → xx_g2 = ov (ruF (sbX Yf Yg Yc Yv) bar) K i → xx_g3 = ov (thF (sbX Yf Yg Yc Yv) bar) Th i → ∀ (H_ : Heap) (lc_ : List Loc), va_P D vwCl [(ak, .inr (1, [.ref la, .ref lr, .ref lt])), (la, .inl (cI, 4, .inl xx_g1)), (lr, .inl (cI, 4, .inl xx_g2)), (lt, .inl (cI, 4, .inl xx_g3)), (yr, .inr (7, [.ref (Ya 0), .ref (Ya 1), .ref (Ya 2), .ref (Ya 3), .ref (Ya 4), .ref (Ya 5), .int (Yv 6), .int (Yv 7), .int (Yv 8), .int (Yv 9), .int (Yv 10), .int (Yv 11), .int (Yv 12), .int (Yv 13)])), (Ya 0, .inr (5, [.ref (Yfa 0), .ref (Ysa 0), .int (nI (Yc 0))])), (Yfa 0, .inl (cI, 4, .inl (Yf 0))), (Ysa 0, .inl (cI, 4, .inl (Yg 0))), (Ya 1, .inr (5, [.ref (Yfa 1), .ref (Ysa 1), .int (nI (Yc 1))])), (Yfa 1, .inl (cI, 4, .inl (Yf 1))), (Ysa 1, .inl (cI, 4, .inl (Yg 1))), (Ya 3, .inr (5, [.ref (Yfa 3), .ref (Ysa 3), .int (nI (Yc 3))])), (Yfa 3, .inl (cI, 40, .inl (Yf 3))), (Ysa 3, .inl (cI, 40, .inl (Yg 3)))] H_ → va_D A_ [(ak, .inr (1, [.ref la, .ref lr, .ref lt])), (la, .inl (cI, 4, .inl xx_g1)), (lr, .inl (cI, 4, .inl xx_g2)), (lt, .inl (cI, 4, .inl xx_g3)), (yr, .inr (7, [.ref (Ya 0), .ref (Ya 1), .ref (Ya 2), .ref (Ya 3), .ref (Ya 4), .ref (Ya 5), .int (Yv 6), .int (Yv 7), .int (Yv 8), .int (Yv 9), .int (Yv 10), .int (Yv 11), .int (Yv 12), .int (Yv 13)])), (Ya 0, .inr (5, [.ref (Yfa 0), .ref (Ysa 0), .int (nI (Yc 0))])), (Yfa 0, .inl (cI, 4, .inl (Yf 0))), (Ysa 0, .inl (cI, 4, .inl (Yg 0))), (Ya 1, .inr (5, [.ref (Yfa 1), .ref (Ysa 1), .int (nI (Yc 1))])), (Yfa 1, .inl (cI, 4, .inl (Yf 1))), (Ysa 1, .inl (cI, 4, .inl (Yg 1))), (Ya 3, .inr (5, [.ref (Yfa 3), .ref (Ysa 3), .int (nI (Yc 3))])), (Yfa 3, .inl (cI, 40, .inl (Yf 3))), (Ysa 3, .inl (cI, 40, .inl (Yg 3)))] → va_S A_ s_.heap H_ lc_ → ∀ (ls : Array Slot), lv_has ls 5 [(0, .ref ak), (1, .ref yr), (2, .int bar), (3, .int xx_v3), (4, .int xx_v4)] → W p_ l e_ (RM 4 98) s_ m_ ar_ be_ me_ co_ H_ lc_ 0 0 Q_ (F0 m_ 5 ls []) := by
    intro nn_
    induction nn_ with
    | zero => intro i hi xx_v3 xx_v4 xx_g1 xx_g2 xx_g3 hn_; exact absurd hn_ (Nat.not_lt_zero _)
    | succ nn_ ih5 =>
      intro i hi xx_v3 xx_v4 xx_g1 xx_g2 xx_g3 hn_ e_xx_v3 e_xx_v4 e_xx_g1 e_xx_g2 e_xx_g3 H_ lc_ hP hD hS ls hl
      subst e_xx_v3 e_xx_v4 e_xx_g1 e_xx_g2 e_xx_g3
      refine lv_iload hx hb dX1_reckon_5 (lv_at hl 4 rfl) ?_
      refine lv_iconst (v := 4) hx hb dX1_reckon_7 (by decide) ?_
      refine lv_icmp_ge (tgt := 54) hx hb dX1_reckon_8 (by decide) (fun c8 => ?_) (fun c8 => ?_)
      · exact hret _ _ _ ls hS (by have q := ge_nI (b := 4) c8 (by omega) (by omega); rw [show i = 4 by omega] at hP; exact hP) dX1_reckon_54
      · have hlt : i < 4 := lt_nI (b := 4) c8 (by omega) (by omega)
        refine lv_aload_n hx hb dX1_reckon_11 rfl (lv_at hl 0 rfl) ?_
        refine lv_aload_n hx hb dX1_reckon_12 rfl (lv_at hl 1 rfl) ?_
        refine lv_iload_n hx hb dX1_reckon_13 rfl (lv_at hl 2 rfl) ?_
        refine lv_iload hx hb dX1_reckon_14 (lv_at hl 4 rfl) ?_
        refine wp_V (As := [.ref yr, .int bar, .int (nI i)]) (rest := []) (ci := 1) (ws' := [(ak, .inr (1, [.ref la, .ref lr, .ref lt])), (la, .inl (cI, 4, .inl (upd (ov (lsF (sbX Yf Yg Yc Yv) bar) L i) i (lsF (sbX Yf Yg Yc Yv) bar i)))), (lr, .inl (cI, 4, .inl (upd (ov (ruF (sbX Yf Yg Yc Yv) bar) K i) i (ruF (sbX Yf Yg Yc Yv) bar i)))), (lt, .inl (cI, 4, .inl (ov (thF (sbX Yf Yg Yc Yv) bar) Th i))), (yr, .inr (7, [.ref (Ya 0), .ref (Ya 1), .ref (Ya 2), .ref (Ya 3), .ref (Ya 4), .ref (Ya 5), .int (Yv 6), .int (Yv 7), .int (Yv 8), .int (Yv 9), .int (Yv 10), .int (Yv 11), .int (Yv 12), .int (Yv 13)])), (Ya 0, .inr (5, [.ref (Yfa 0), .ref (Ysa 0), .int (nI (Yc 0))])), (Yfa 0, .inl (cI, 4, .inl (Yf 0))), (Ysa 0, .inl (cI, 4, .inl (Yg 0))), (Ya 1, .inr (5, [.ref (Yfa 1), .ref (Ysa 1), .int (nI (Yc 1))])), (Yfa 1, .inl (cI, 4, .inl (Yf 1))), (Ysa 1, .inl (cI, 4, .inl (Yg 1))), (Ya 3, .inr (5, [.ref (Yfa 3), .ref (Ysa 3), .int (nI (Yc 3))])), (Yfa 3, .inl (cI, 40, .inl (Yf 3))), (Ysa 3, .inl (cI, 40, .inl (Yg 3)))]) (kX1_chooseLeast l D cI cB ak la lr lt (ov (lsF (sbX Yf Yg Yc Yv) bar) L i) (ov (ruF (sbX Yf Yg Yc Yv) bar) K i) (ov (thF (sbX Yf Yg Yc Yv) bar) Th i) yr Ya Yfa Ysa Yf Yg Yc Yv bar i (by omega) (by omega) (by omega) (hlt)) ⟨hx, hb, hml, hown, hts⟩ (cwV 3 hts gX1_reckon_X1_chooseLeast rfl rfl rfl (by decide +kernel) ⟨Nat.le_of_ble_eq_true rfl, Nat.le_of_ble_eq_true rfl⟩) hK hP hD hS [0, 1, 2, 3, 4, 5, 6, 7, 8, 9, 10, 11, 12, 13] [] rfl rfl rfl 14 rfl (by decide +kernel) (by decide +kernel) rfl (by decide +kernel) 0 rfl rfl rfl rfl hl.1 (Nat.le_of_ble_eq_true rfl) dX1_reckon_16 ⟨Nat.le_refl _, Nat.le_refl _⟩ (fun H_ lc_ hP hD hS => ?_)
        show W p_ l e_ (RM 4 98) s_ m_ ar_ be_ me_ co_ H_ lc_ 0 0 Q_ (F0 m_ 19 ls [])
        refine lv_iload_n hx hb dX1_reckon_19 rfl (lv_at hl 3 rfl) ?_
        refine lv_aload_n hx hb dX1_reckon_20 rfl (lv_at hl 0 rfl) ?_
        refine lv_iload hx hb dX1_reckon_21 (lv_at hl 4 rfl) ?_
        refine rd_V (As := [.int (nI i)]) (rest := [.int (thS (sbX Yf Yg Yc Yv) bar i)]) (ci := 1) (kX1_leastOf l D cI cB ak la lr lt (upd (ov (lsF (sbX Yf Yg Yc Yv) bar) L i) i (lsF (sbX Yf Yg Yc Yv) bar i)) (upd (ov (ruF (sbX Yf Yg Yc Yv) bar) K i) i (ruF (sbX Yf Yg Yc Yv) bar i)) (ov (thF (sbX Yf Yg Yc Yv) bar) Th i) (nI i) ) ⟨hx, hb, hml, hown, hts⟩ (cwV 1 hts gX1_reckon_X1_leastOf rfl rfl rfl (by decide +kernel) ⟨Nat.le_of_ble_eq_true rfl, Nat.le_of_ble_eq_true rfl⟩) hK hP [0, 1, 2, 3] rfl 0 rfl rfl rfl rfl hl.1 (Nat.le_of_ble_eq_true rfl) dX1_reckon_23 ⟨Nat.le_refl _, Nat.le_refl _⟩ ?_
        rw [show (rowAt (upd (ov (lsF (sbX Yf Yg Yc Yv) bar) L i) i (lsF (sbX Yf Yg Yc Yv) bar i)) 4 (nI i) : Int32) = lsF (sbX Yf Yg Yc Yv) bar i from rowAt_upd hlt (by omega)]
        refine va_mmax hx hb (hml.trans hl.1.symm) hown (hts (.methodLink RX1 29 Lib.Math.max.name) (List.mem_of_getElem? (i := 1) rfl)) (hts (.static Lib.Math.max.name) (List.mem_of_getElem? (i := 2) rfl)) (hts (.initialized "java/lang/Math") (List.mem_of_getElem? (i := 3) rfl)) (hts (.code Lib.Math.max.name Lib.Math.max.code 2 (some .int)) (List.mem_of_getElem? (i := 4) rfl)) (Nat.le_of_ble_eq_true rfl) (Nat.le_of_ble_eq_true rfl) (Nat.le_refl _) (Nat.le_refl _) dX1_reckon_26 ?_
        rw [show (if (thS (sbX Yf Yg Yc Yv) bar i) < (lsF (sbX Yf Yg Yc Yv) bar i) then (lsF (sbX Yf Yg Yc Yv) bar i) else (thS (sbX Yf Yg Yc Yv) bar i) : Int32) = max32 (thS (sbX Yf Yg Yc Yv) bar i) (lsF (sbX Yf Yg Yc Yv) bar i) from rfl]
        refine lv_istore_n (lv' := [(3, .int (max32 (thS (sbX Yf Yg Yc Yv) bar i) (lsF (sbX Yf Yg Yc Yv) bar i))), (0, .ref ak), (1, .ref yr), (2, .int bar), (4, .int (nI i))]) hx hb dX1_reckon_29 rfl hl (by decide) rfl (fun ls hl => ?_)
        refine lv_iload hx hb dX1_reckon_30 (lv_at hl 4 rfl) ?_
        refine lv_aload_n hx hb dX1_reckon_32 rfl (lv_at hl 1 rfl) ?_
        refine g_get (C := RX1) (T := TX1) (N := 3) (ci := 1) (index := 18) hx hb hts in_X1_reckon_1 hown hK hP 0 2 rfl rfl (by decide) (List.mem_of_getElem? (i := 5) rfl) rfl dX1_reckon_33 ?_
        refine va_alen (v := nI 4) hx hb hK hP 3 0 rfl rfl rfl dX1_reckon_36 ?_
        refine lv_icmp_ge (tgt := 48) hx hb dX1_reckon_37 (by decide) (fun c37 => absurd c37 (nI_ge (by omega) (by omega))) (fun c37 => ?_)
        refine lv_aload_n hx hb dX1_reckon_40 rfl (lv_at hl 1 rfl) ?_
        refine g_get (C := RX1) (T := TX1) (N := 3) (ci := 1) (index := 18) hx hb hts in_X1_reckon_1 hown hK hP 0 2 rfl rfl (by decide) (List.mem_of_getElem? (i := 5) rfl) rfl dX1_reckon_41 ?_
        refine lv_iload hx hb dX1_reckon_44 (lv_at hl 4 rfl) ?_
        refine lv_iload_n hx hb dX1_reckon_46 rfl (lv_at hl 0 rfl) ?_
        refine g_iast hx hb hK hP hD hS 3 0 rfl rfl i (rfl) (by omega) (by omega) dX1_reckon_47 (fun H_ lc_ hP hD hS => ?_)
        have hP : va_P D vwCl [(ak, .inr (1, [.ref la, .ref lr, .ref lt])), (la, .inl (cI, 4, .inl (upd (ov (lsF (sbX Yf Yg Yc Yv) bar) L i) i (lsF (sbX Yf Yg Yc Yv) bar i)))), (lr, .inl (cI, 4, .inl (upd (ov (ruF (sbX Yf Yg Yc Yv) bar) K i) i (ruF (sbX Yf Yg Yc Yv) bar i)))), (lt, .inl (cI, 4, .inl (upd (ov (thF (sbX Yf Yg Yc Yv) bar) Th i) i (max32 (thS (sbX Yf Yg Yc Yv) bar i) (lsF (sbX Yf Yg Yc Yv) bar i))))), (yr, .inr (7, [.ref (Ya 0), .ref (Ya 1), .ref (Ya 2), .ref (Ya 3), .ref (Ya 4), .ref (Ya 5), .int (Yv 6), .int (Yv 7), .int (Yv 8), .int (Yv 9), .int (Yv 10), .int (Yv 11), .int (Yv 12), .int (Yv 13)])), (Ya 0, .inr (5, [.ref (Yfa 0), .ref (Ysa 0), .int (nI (Yc 0))])), (Yfa 0, .inl (cI, 4, .inl (Yf 0))), (Ysa 0, .inl (cI, 4, .inl (Yg 0))), (Ya 1, .inr (5, [.ref (Yfa 1), .ref (Ysa 1), .int (nI (Yc 1))])), (Yfa 1, .inl (cI, 4, .inl (Yf 1))), (Ysa 1, .inl (cI, 4, .inl (Yg 1))), (Ya 3, .inr (5, [.ref (Yfa 3), .ref (Ysa 3), .int (nI (Yc 3))])), (Yfa 3, .inl (cI, 40, .inl (Yf 3))), (Ysa 3, .inl (cI, 40, .inl (Yg 3)))] H_ := hP
        have hD : va_D A_ [(ak, .inr (1, [.ref la, .ref lr, .ref lt])), (la, .inl (cI, 4, .inl (upd (ov (lsF (sbX Yf Yg Yc Yv) bar) L i) i (lsF (sbX Yf Yg Yc Yv) bar i)))), (lr, .inl (cI, 4, .inl (upd (ov (ruF (sbX Yf Yg Yc Yv) bar) K i) i (ruF (sbX Yf Yg Yc Yv) bar i)))), (lt, .inl (cI, 4, .inl (upd (ov (thF (sbX Yf Yg Yc Yv) bar) Th i) i (max32 (thS (sbX Yf Yg Yc Yv) bar i) (lsF (sbX Yf Yg Yc Yv) bar i))))), (yr, .inr (7, [.ref (Ya 0), .ref (Ya 1), .ref (Ya 2), .ref (Ya 3), .ref (Ya 4), .ref (Ya 5), .int (Yv 6), .int (Yv 7), .int (Yv 8), .int (Yv 9), .int (Yv 10), .int (Yv 11), .int (Yv 12), .int (Yv 13)])), (Ya 0, .inr (5, [.ref (Yfa 0), .ref (Ysa 0), .int (nI (Yc 0))])), (Yfa 0, .inl (cI, 4, .inl (Yf 0))), (Ysa 0, .inl (cI, 4, .inl (Yg 0))), (Ya 1, .inr (5, [.ref (Yfa 1), .ref (Ysa 1), .int (nI (Yc 1))])), (Yfa 1, .inl (cI, 4, .inl (Yf 1))), (Ysa 1, .inl (cI, 4, .inl (Yg 1))), (Ya 3, .inr (5, [.ref (Yfa 3), .ref (Ysa 3), .int (nI (Yc 3))])), (Yfa 3, .inl (cI, 40, .inl (Yf 3))), (Ysa 3, .inl (cI, 40, .inl (Yg 3)))] := hD
        refine lv_iinc (v := nI (i + 1)) (lv' := [(4, .int (nI (i + 1))), (3, .int (max32 (thS (sbX Yf Yg Yc Yv) bar i) (lsF (sbX Yf Yg Yc Yv) bar i))), (0, .ref ak), (1, .ref yr), (2, .int bar)]) hx hb dX1_reckon_48 hl (k := 4) rfl (nI_add _ 1) (by decide) rfl (fun ls hl => ?_)
        refine lv_goto (tgt := 5) hx hb dX1_reckon_51 (by decide) ?_
        exact ih5 (i + 1) (by omega) _ _ _ _ _ (by omega) (rfl) (rfl) (ov_s _ _ _) (ov_s _ _ _) (ov_s _ _ _) _ _ hP hD hS ls (lv_sub hl [2, 3, 4, 1, 0] rfl)
  exact L5 (4 - 0 + 1) 0 (by omega) _ _ _ _ _ (Nat.lt_succ_self _) (rfl) (nI_0.symm) ((ov_0 _ _).symm) ((ov_0 _ _).symm) ((ov_0 _ _).symm) _ _ hP hD hS ls (lv_sub hl [2, 3, 4, 1, 0] rfl)

