/-! the reference reads a text: to, from, sort, number, fault, place, word, read -/
abbrev MSt : Type := Nat × Nat × Int32 × Int32 × Int32 × Int32 × Int64 × (Nat → Int32)
def bl (f : Nat → Bool) : Nat → Nat → Nat
  | 0, q => q
  | k + 1, q => if f q = true then bl f k (q + 1) else q
theorem bl_T {f : Nat → Bool} {n q : Nat} (h : f q = true) (hq : q < n) : bl f (n - q) q = bl f (n - (q + 1)) (q + 1) := by
  obtain ⟨k, hk⟩ : ∃ k, n - q = k + 1 := ⟨n - q - 1, by omega⟩
  rw [hk, show n - (q + 1) = k by omega]
  conv => lhs; unfold bl
  rw [if_pos h]
theorem bl_F {f : Nat → Bool} {k q : Nat} (h : f q = false) : bl f k q = q := by
  cases k with
  | zero => rfl
  | succ k => unfold bl; rw [h]; rfl
theorem bl_ge (f : Nat → Bool) : ∀ k q, q ≤ bl f k q
  | 0, q => Nat.le_refl _
  | k + 1, q => by
    unfold bl
    by_cases h : f q = true
    · rw [if_pos h]; have := bl_ge f k (q + 1); omega
    · rw [if_neg h]; exact Nat.le_refl _
theorem bl_le (f : Nat → Bool) : ∀ k q, bl f k q ≤ q + k
  | 0, q => Nat.le_refl _
  | k + 1, q => by
    unfold bl
    by_cases h : f q = true
    · rw [if_pos h]; have := bl_le f k (q + 1); omega
    · rw [if_neg h]; omega
def isbM (T : Nat → Int32) (n q : Nat) : Bool := decide (q < n) && (decide (T q = 32) || decide (T q = 10))
def tpA (T : Nat → Int32) (n q : Nat) : Int32 := if nI n ≤ nI q then 0 else T q
def isaM (T : Nat → Int32) (n q : Nat) : Bool := !(decide (isInM (tpA T n q) 97 122 = 0) && decide (isInM (tpA T n q) 48 57 = 0))
def goP (T : Nat → Int32) (n p : Nat) : Nat := bl (isbM T n) (n - p) p
def goE (T : Nat → Int32) (n s : Nat) : Nat := bl (isaM T n) (n - s) s
def gdM (T : Nat → Int32) (s : Nat) (L : Int32) : Nat → Int32
  | 0 => 1
  | k + 1 => if gdM T s L k = 0 then 0 else if isInM (T (s + k)) 97 122 = L then 1 else 0
def wdM (T : Nat → Int32) (s : Nat) : Nat → Int64
  | 0 => 0
  | k + 1 => if 7 ≤ nI k then wdM T s k else 27 * wdM T s k + (T (s + k)).toInt64 - 96
def nuM (T : Nat → Int32) (s : Nat) : Nat → Int32
  | 0 => 0
  | k + 1 => if 5 ≤ nI k then nuM T s k else 10 * nuM T s k + T (s + k) - 48
def soM (gd L len : Int32) : Int32 := if gd = 0 then 1 else if L = 0 then (if len ≤ 5 then 3 else 1) else 2
def goM (T : Nat → Int32) (n : Nat) (S : MSt) : MSt :=
  if 800 < n ∧ 800 ≤ goP T n S.1 then (goP T n S.1, 800, 1, S.2.2.2.1, S.2.2.2.2.1, S.2.2.2.2.2.1, S.2.2.2.2.2.2.1, S.2.2.2.2.2.2.2)
  else if n ≤ goP T n S.1 then (goP T n S.1, goP T n S.1, 0, S.2.2.2.1, S.2.2.2.2.1, S.2.2.2.2.2.1, S.2.2.2.2.2.2.1, S.2.2.2.2.2.2.2)
  else if isInM (T (goP T n S.1)) 97 122 = 0 ∧ isInM (T (goP T n S.1)) 48 57 = 0 then (goP T n S.1 + 1, goP T n S.1, if T (goP T n S.1) = 59 then 4 else 1, S.2.2.2.1, S.2.2.2.2.1, S.2.2.2.2.2.1, S.2.2.2.2.2.2.1, S.2.2.2.2.2.2.2)
  else (goE T n (goP T n S.1), goP T n S.1, soM (gdM T (goP T n S.1) (isInM (T (goP T n S.1)) 97 122) (goE T n (goP T n S.1) - goP T n S.1)) (isInM (T (goP T n S.1)) 97 122) (nI (goE T n (goP T n S.1) - goP T n S.1)), nuM T (goP T n S.1) (goE T n (goP T n S.1) - goP T n S.1), S.2.2.2.2.1, S.2.2.2.2.2.1, wdM T (goP T n S.1) (goE T n (goP T n S.1) - goP T n S.1), S.2.2.2.2.2.2.2)
def badM (S : MSt) (w : Int32) : MSt := (S.1, S.2.1, S.2.2.1, S.2.2.2.1, if S.2.2.1 = 1 then 1 else w, nI S.2.1, S.2.2.2.2.2.2.1, S.2.2.2.2.2.2.2)
def isV (a b c d e f : Int32) : Int64 :=
  if f ≤ 0 then (if e ≤ 0 then (if d ≤ 0 then 27 * (27 * (a.toInt64 - 96) + b.toInt64 - 96) + c.toInt64 - 96 else 27 * (27 * (27 * (a.toInt64 - 96) + b.toInt64 - 96) + c.toInt64 - 96) + d.toInt64 - 96) else 27 * (if d ≤ 0 then 27 * (27 * (a.toInt64 - 96) + b.toInt64 - 96) + c.toInt64 - 96 else 27 * (27 * (27 * (a.toInt64 - 96) + b.toInt64 - 96) + c.toInt64 - 96) + d.toInt64 - 96) + e.toInt64 - 96)
  else 27 * (if e ≤ 0 then (if d ≤ 0 then 27 * (27 * (a.toInt64 - 96) + b.toInt64 - 96) + c.toInt64 - 96 else 27 * (27 * (27 * (a.toInt64 - 96) + b.toInt64 - 96) + c.toInt64 - 96) + d.toInt64 - 96) else 27 * (if d ≤ 0 then 27 * (27 * (a.toInt64 - 96) + b.toInt64 - 96) + c.toInt64 - 96 else 27 * (27 * (27 * (a.toInt64 - 96) + b.toInt64 - 96) + c.toInt64 - 96) + d.toInt64 - 96) + e.toInt64 - 96) + f.toInt64 - 96
def isM (so : Int32) (wd : Int64) (a b c d e f : Int32) : Int32 := if so = 2 then (if lg_cmp wd (isV a b c d e f) = 0 then 1 else 0) else 0
theorem in_X9_tapeAt_9 : ∀ w ∈ wsX90, w ∈ wsX9_tapeAt := fun _ h => List.mem_cons_of_mem _ (List.mem_append_right _ (h))
set_option maxHeartbeats 4000000 in
set_option maxRecDepth 100000 in
theorem kX9_tapeAt (l : Launch) (D : va_G) (cI cB : ClassId) (mo q1 q2 q3 q4 q5 q6 q7 q8 : Nat) (th tn tt fm so nu fau plc : Int32) (wd : Int64) (sm rm : Int32) (Tp Nw Rr Sn In Pd Rt Rw : Nat → Int32) (n q : Nat) (hn : n ≤ 840) (hq : q ≤ 840) : Rd l D (TY cI cB) yX9_tapeAt wsX9_tapeAt 0 0 [.ref mo, .int (nI q)] [(mo, .inr (9, [.int th, .ref q1, .int tn, .int (nI n), .int tt, .int fm, .int so, .int nu, .int fau, .int plc, .long wd, .ref q2, .ref q3, .ref q4, .int sm, .ref q5, .ref q6, .ref q7, .ref q8, .int rm])), (q1, .inl (cI, 840, .inl Tp)), (q2, .inl (cI, 240, .inl Nw)), (q3, .inl (cI, 240, .inl Rr)), (q4, .inl (cI, 2880, .inl Sn)), (q5, .inl (cI, 4, .inl In)), (q6, .inl (cI, 500, .inl Pd)), (q7, .inl (cI, 500, .inl Rt)), (q8, .inl (cI, 10000, .inl Rw))] (tpA Tp n q) := by
  refine rd_i (cc := cX9_tapeAt) (maxL := 2) (by decide) rfl (Nat.le_of_ble_eq_true rfl) ?_
  intro p_ e_ s_ m_ ar_ be_ me_ co_ ls Q_ hx hb hml hown hts hP hK hl hret
  have hown : s_.vm.findClass RX9 = some m_.cls := hown
  have hl : lv_has ls 2 [(0, .ref mo), (1, .int (nI q))] := hl
  refine lv_iload_n hx hb dX9_tapeAt_0 rfl (lv_at hl 1 rfl) ?_
  refine lv_aload_n hx hb dX9_tapeAt_1 rfl (lv_at hl 0 rfl) ?_
  refine g_get (C := RX9) (T := TX9) (N := 20) (ci := 9) (index := 18) hx hb hts in_X9_tapeAt_9 hown hK hP 0 3 rfl rfl (by decide) (List.mem_of_getElem? (i := 1) rfl) rfl dX9_tapeAt_2 ?_
  refine lv_icmp_ge (tgt := 17) hx hb dX9_tapeAt_5 (by decide) (fun c5 => ?_) (fun c5 => ?_)
  · refine lv_iconst (v := 0) hx hb dX9_tapeAt_17 (by decide) ?_
    exact hret _ _ ls (by simp [tpA, c5]) dX9_tapeAt_18
  · have hlt : q < n := lt_nI c5 (by omega) (by omega)
    refine lv_aload_n hx hb dX9_tapeAt_8 rfl (lv_at hl 0 rfl) ?_
    refine g_get (C := RX9) (T := TX9) (N := 20) (ci := 9) (index := 7) hx hb hts in_X9_tapeAt_9 hown hK hP 0 1 rfl rfl (by decide) (List.mem_of_getElem? (i := 2) rfl) rfl dX9_tapeAt_9 ?_
    refine lv_iload_n hx hb dX9_tapeAt_12 rfl (lv_at hl 1 rfl) ?_
    refine g_iald hx hb hK hP 1 0 rfl rfl q (rfl) (by omega) (by omega) dX9_tapeAt_13 ?_
    refine lv_goto (tgt := 18) hx hb dX9_tapeAt_14 (by decide) ?_
    exact hret _ _ ls (by simp [tpA, c5]) dX9_tapeAt_18

theorem in_X9_bad_9 : ∀ w ∈ wsX90, w ∈ wsX9_bad := fun _ h => List.mem_cons_of_mem _ (List.mem_append_right _ (h))
set_option maxHeartbeats 4000000 in
set_option maxRecDepth 100000 in
theorem kX9_bad (l : Launch) (D : va_G) (cI cB : ClassId) (mo q1 q2 q3 q4 q5 q6 q7 q8 : Nat) (th tn : Int32) (sm rm : Int32) (Tp Nw Sn In Pd Rt Rw : Nat → Int32) (n : Nat) (S : MSt) (w : Int32)  : Wr l D (TY cI cB) yX9_bad wsX9_bad 0 0 [.ref mo, .int w] [(mo, .inr (9, [.int th, .ref q1, .int tn, .int (nI n), .int (nI S.1), .int (nI S.2.1), .int S.2.2.1, .int S.2.2.2.1, .int S.2.2.2.2.1, .int S.2.2.2.2.2.1, .long S.2.2.2.2.2.2.1, .ref q2, .ref q3, .ref q4, .int sm, .ref q5, .ref q6, .ref q7, .ref q8, .int rm])), (q1, .inl (cI, 840, .inl Tp)), (q2, .inl (cI, 240, .inl Nw)), (q3, .inl (cI, 240, .inl S.2.2.2.2.2.2.2)), (q4, .inl (cI, 2880, .inl Sn)), (q5, .inl (cI, 4, .inl In)), (q6, .inl (cI, 500, .inl Pd)), (q7, .inl (cI, 500, .inl Rt)), (q8, .inl (cI, 10000, .inl Rw))] [(mo, .inr (9, [.int th, .ref q1, .int tn, .int (nI n), .int (nI (badM S w).1), .int (nI (badM S w).2.1), .int (badM S w).2.2.1, .int (badM S w).2.2.2.1, .int (badM S w).2.2.2.2.1, .int (badM S w).2.2.2.2.2.1, .long (badM S w).2.2.2.2.2.2.1, .ref q2, .ref q3, .ref q4, .int sm, .ref q5, .ref q6, .ref q7, .ref q8, .int rm])), (q1, .inl (cI, 840, .inl Tp)), (q2, .inl (cI, 240, .inl Nw)), (q3, .inl (cI, 240, .inl (badM S w).2.2.2.2.2.2.2)), (q4, .inl (cI, 2880, .inl Sn)), (q5, .inl (cI, 4, .inl In)), (q6, .inl (cI, 500, .inl Pd)), (q7, .inl (cI, 500, .inl Rt)), (q8, .inl (cI, 10000, .inl Rw))] (some (.int 0)) := by
  refine wr_z (cc := cX9_bad) (maxL := 2) (by decide) rfl (Nat.le_of_ble_eq_true rfl) ?_
  intro p_ e_ s_ m_ ar_ be_ me_ co_ ls Q_ A_ hx hb hml hown hts hP hK hD hS hl hret
  have hown : s_.vm.findClass RX9 = some m_.cls := hown
  have hl : lv_has ls 2 [(0, .ref mo), (1, .int w)] := hl
  refine lv_aload_n hx hb dX9_bad_0 rfl (lv_at hl 0 rfl) ?_
  refine lv_aload_n hx hb dX9_bad_1 rfl (lv_at hl 0 rfl) ?_
  refine g_get (C := RX9) (T := TX9) (N := 20) (ci := 9) (index := 27) hx hb hts in_X9_bad_9 hown hK hP 0 6 rfl rfl (by decide) (List.mem_of_getElem? (i := 1) rfl) rfl dX9_bad_2 ?_
  refine lv_iconst (v := 1) hx hb dX9_bad_5 (by decide) ?_
  refine lv_icmp_ne (tgt := 13) hx hb dX9_bad_6 (by decide) (fun c6 => ?_) (fun c6 => ?_)
  · refine lv_iload_n hx hb dX9_bad_13 rfl (lv_at hl 1 rfl) ?_
    refine g_put (C := RX9) (T := TX9) (N := 20) (ci := 9) (index := 52) (v := .int w) (ws' := [(mo, .inr (9, [.int th, .ref q1, .int tn, .int (nI n), .int (nI S.1), .int (nI S.2.1), .int S.2.2.1, .int S.2.2.2.1, .int w, .int S.2.2.2.2.2.1, .long S.2.2.2.2.2.2.1, .ref q2, .ref q3, .ref q4, .int sm, .ref q5, .ref q6, .ref q7, .ref q8, .int rm])), (q1, .inl (cI, 840, .inl Tp)), (q2, .inl (cI, 240, .inl Nw)), (q3, .inl (cI, 240, .inl S.2.2.2.2.2.2.2)), (q4, .inl (cI, 2880, .inl Sn)), (q5, .inl (cI, 4, .inl In)), (q6, .inl (cI, 500, .inl Pd)), (q7, .inl (cI, 500, .inl Rt)), (q8, .inl (cI, 10000, .inl Rw))]) hx hb hts in_X9_bad_9 tyX9 tyX9_ok nmX9 hown hK hP hD hS 0 8 rfl rfl (by decide) (List.mem_of_getElem? (i := 2) rfl) rfl rfl rfl (Nat.le_of_ble_eq_true rfl) dX9_bad_14 rfl (fun H_ lc_ hP hD hS => ?_)
    refine lv_aload_n hx hb dX9_bad_17 rfl (lv_at hl 0 rfl) ?_
    refine lv_aload_n hx hb dX9_bad_18 rfl (lv_at hl 0 rfl) ?_
    refine g_get (C := RX9) (T := TX9) (N := 20) (ci := 9) (index := 24) hx hb hts in_X9_bad_9 hown hK hP 0 5 rfl rfl (by decide) (List.mem_of_getElem? (i := 3) rfl) rfl dX9_bad_19 ?_
    refine g_put (C := RX9) (T := TX9) (N := 20) (ci := 9) (index := 55) (v := .int (nI S.2.1)) (ws' := [(mo, .inr (9, [.int th, .ref q1, .int tn, .int (nI n), .int (nI S.1), .int (nI S.2.1), .int S.2.2.1, .int S.2.2.2.1, .int w, .int (nI S.2.1), .long S.2.2.2.2.2.2.1, .ref q2, .ref q3, .ref q4, .int sm, .ref q5, .ref q6, .ref q7, .ref q8, .int rm])), (q1, .inl (cI, 840, .inl Tp)), (q2, .inl (cI, 240, .inl Nw)), (q3, .inl (cI, 240, .inl S.2.2.2.2.2.2.2)), (q4, .inl (cI, 2880, .inl Sn)), (q5, .inl (cI, 4, .inl In)), (q6, .inl (cI, 500, .inl Pd)), (q7, .inl (cI, 500, .inl Rt)), (q8, .inl (cI, 10000, .inl Rw))]) hx hb hts in_X9_bad_9 tyX9 tyX9_ok nmX9 hown hK hP hD hS 0 9 rfl rfl (by decide) (List.mem_of_getElem? (i := 4) rfl) rfl rfl rfl (Nat.le_of_ble_eq_true rfl) dX9_bad_22 rfl (fun H_ lc_ hP hD hS => ?_)
    refine lv_iconst (v := 0) hx hb dX9_bad_25 (by decide) ?_
    exact hret _ _ _ _ ls hS (by unfold badM; rw [if_neg c6]; exact hP) (rfl) (by decide) dX9_bad_26
  · refine lv_iconst (v := 1) hx hb dX9_bad_9 (by decide) ?_
    refine lv_goto (tgt := 14) hx hb dX9_bad_10 (by decide) ?_
    refine g_put (C := RX9) (T := TX9) (N := 20) (ci := 9) (index := 52) (v := .int 1) (ws' := [(mo, .inr (9, [.int th, .ref q1, .int tn, .int (nI n), .int (nI S.1), .int (nI S.2.1), .int S.2.2.1, .int S.2.2.2.1, .int 1, .int S.2.2.2.2.2.1, .long S.2.2.2.2.2.2.1, .ref q2, .ref q3, .ref q4, .int sm, .ref q5, .ref q6, .ref q7, .ref q8, .int rm])), (q1, .inl (cI, 840, .inl Tp)), (q2, .inl (cI, 240, .inl Nw)), (q3, .inl (cI, 240, .inl S.2.2.2.2.2.2.2)), (q4, .inl (cI, 2880, .inl Sn)), (q5, .inl (cI, 4, .inl In)), (q6, .inl (cI, 500, .inl Pd)), (q7, .inl (cI, 500, .inl Rt)), (q8, .inl (cI, 10000, .inl Rw))]) hx hb hts in_X9_bad_9 tyX9 tyX9_ok nmX9 hown hK hP hD hS 0 8 rfl rfl (by decide) (List.mem_of_getElem? (i := 2) rfl) rfl rfl rfl (Nat.le_of_ble_eq_true rfl) dX9_bad_14 rfl (fun H_ lc_ hP hD hS => ?_)
    refine lv_aload_n hx hb dX9_bad_17 rfl (lv_at hl 0 rfl) ?_
    refine lv_aload_n hx hb dX9_bad_18 rfl (lv_at hl 0 rfl) ?_
    refine g_get (C := RX9) (T := TX9) (N := 20) (ci := 9) (index := 24) hx hb hts in_X9_bad_9 hown hK hP 0 5 rfl rfl (by decide) (List.mem_of_getElem? (i := 3) rfl) rfl dX9_bad_19 ?_
    refine g_put (C := RX9) (T := TX9) (N := 20) (ci := 9) (index := 55) (v := .int (nI S.2.1)) (ws' := [(mo, .inr (9, [.int th, .ref q1, .int tn, .int (nI n), .int (nI S.1), .int (nI S.2.1), .int S.2.2.1, .int S.2.2.2.1, .int 1, .int (nI S.2.1), .long S.2.2.2.2.2.2.1, .ref q2, .ref q3, .ref q4, .int sm, .ref q5, .ref q6, .ref q7, .ref q8, .int rm])), (q1, .inl (cI, 840, .inl Tp)), (q2, .inl (cI, 240, .inl Nw)), (q3, .inl (cI, 240, .inl S.2.2.2.2.2.2.2)), (q4, .inl (cI, 2880, .inl Sn)), (q5, .inl (cI, 4, .inl In)), (q6, .inl (cI, 500, .inl Pd)), (q7, .inl (cI, 500, .inl Rt)), (q8, .inl (cI, 10000, .inl Rw))]) hx hb hts in_X9_bad_9 tyX9 tyX9_ok nmX9 hown hK hP hD hS 0 9 rfl rfl (by decide) (List.mem_of_getElem? (i := 4) rfl) rfl rfl rfl (Nat.le_of_ble_eq_true rfl) dX9_bad_22 rfl (fun H_ lc_ hP hD hS => ?_)
    refine lv_iconst (v := 0) hx hb dX9_bad_25 (by decide) ?_
    exact hret _ _ _ _ ls hS (by unfold badM; rw [if_pos c6]; exact hP) (rfl) (by decide) dX9_bad_26

theorem in_X9_is_9 : ∀ w ∈ wsX90, w ∈ wsX9_is := fun _ h => List.mem_cons_of_mem _ (List.mem_append_right _ (h))
set_option maxHeartbeats 4000000 in
set_option maxRecDepth 100000 in
theorem kX9_is (l : Launch) (D : va_G) (cI cB : ClassId) (mo q1 q2 q3 q4 q5 q6 q7 q8 : Nat) (th tn : Int32) (sm rm : Int32) (Tp Nw Sn In Pd Rt Rw : Nat → Int32) (n : Nat) (S : MSt) (a b c d e f : Int32)  : Rd l D (TY cI cB) yX9_is wsX9_is 0 0 [.ref mo, .int a, .int b, .int c, .int d, .int e, .int f] [(mo, .inr (9, [.int th, .ref q1, .int tn, .int (nI n), .int (nI S.1), .int (nI S.2.1), .int S.2.2.1, .int S.2.2.2.1, .int S.2.2.2.2.1, .int S.2.2.2.2.2.1, .long S.2.2.2.2.2.2.1, .ref q2, .ref q3, .ref q4, .int sm, .ref q5, .ref q6, .ref q7, .ref q8, .int rm])), (q1, .inl (cI, 840, .inl Tp)), (q2, .inl (cI, 240, .inl Nw)), (q3, .inl (cI, 240, .inl S.2.2.2.2.2.2.2)), (q4, .inl (cI, 2880, .inl Sn)), (q5, .inl (cI, 4, .inl In)), (q6, .inl (cI, 500, .inl Pd)), (q7, .inl (cI, 500, .inl Rt)), (q8, .inl (cI, 10000, .inl Rw))] (isM S.2.2.1 S.2.2.2.2.2.2.1 a b c d e f) := by
  refine rd_z (cc := cX9_is) (maxL := 9) (by decide) rfl (Nat.le_of_ble_eq_true rfl) ?_
  intro p_ e_ s_ m_ ar_ be_ me_ co_ ls Q_ hx hb hml hown hts hP hK hl hret
  have hown : s_.vm.findClass RX9 = some m_.cls := hown
  have hl : lv_has ls 9 [(0, .ref mo), (1, .int a), (2, .int b), (3, .int c), (4, .int d), (5, .int e), (6, .int f)] := hl
  refine lv_ldc2 (v := 27) hx hb hown (hts (.constantLong RX9 48 (27)) (List.mem_of_getElem? (i := 1) rfl)) dX9_is_0 ?_
  refine lv_ldc2 (v := 27) hx hb hown (hts (.constantLong RX9 48 (27)) (List.mem_of_getElem? (i := 1) rfl)) dX9_is_3 ?_
  refine lv_iload_n hx hb dX9_is_6 rfl (lv_at hl 1 rfl) ?_
  refine lv_i2l (v := a.toInt64) hx hb dX9_is_7 rfl ?_
  refine lv_ldc2 (v := 96) hx hb hown (hts (.constantLong RX9 50 (96)) (List.mem_of_getElem? (i := 2) rfl)) dX9_is_8 ?_
  refine lv_lsub hx hb dX9_is_11 ?_
  refine lv_lmul hx hb dX9_is_12 ?_
  refine lv_iload_n hx hb dX9_is_13 rfl (lv_at hl 2 rfl) ?_
  refine lv_i2l (v := b.toInt64) hx hb dX9_is_14 rfl ?_
  refine lv_ladd hx hb dX9_is_15 ?_
  refine lv_ldc2 (v := 96) hx hb hown (hts (.constantLong RX9 50 (96)) (List.mem_of_getElem? (i := 2) rfl)) dX9_is_16 ?_
  refine lv_lsub hx hb dX9_is_19 ?_
  refine lv_lmul hx hb dX9_is_20 ?_
  refine lv_iload_n hx hb dX9_is_21 rfl (lv_at hl 3 rfl) ?_
  refine lv_i2l (v := c.toInt64) hx hb dX9_is_22 rfl ?_
  refine lv_ladd hx hb dX9_is_23 ?_
  refine lv_ldc2 (v := 96) hx hb hown (hts (.constantLong RX9 50 (96)) (List.mem_of_getElem? (i := 2) rfl)) dX9_is_24 ?_
  refine lv_lsub hx hb dX9_is_27 ?_
  refine lv_lstore (lv' := [(7, .long (((27 * (((27 * (a.toInt64 - 96)) + b.toInt64) - 96)) + c.toInt64) - 96)), (0, .ref mo), (1, .int a), (2, .int b), (3, .int c), (4, .int d), (5, .int e), (6, .int f)]) hx hb dX9_is_28 hl (by decide) rfl (fun ls hl => ?_)
  refine lv_iload hx hb dX9_is_30 (lv_at hl 5 rfl) ?_
  refine lv_if_le (tgt := 51) hx hb dX9_is_32 (by decide) (fun c32 => ?_) (fun c32 => ?_)
  · refine lv_iload hx hb dX9_is_51 (lv_at hl 6 rfl) ?_
    refine lv_if_le (tgt := 72) hx hb dX9_is_53 (by decide) (fun c53 => ?_) (fun c53 => ?_)
    · refine lv_iload hx hb dX9_is_72 (lv_at hl 7 rfl) ?_
      refine lv_if_le (tgt := 93) hx hb dX9_is_74 (by decide) (fun c74 => ?_) (fun c74 => ?_)
      · refine lv_aload_n hx hb dX9_is_93 rfl (lv_at hl 1 rfl) ?_
        refine g_get (C := RX9) (T := TX9) (N := 20) (ci := 9) (index := 27) hx hb hts in_X9_is_9 hown hK hP 0 6 rfl rfl (by decide) (List.mem_of_getElem? (i := 3) rfl) rfl dX9_is_94 ?_
        refine lv_iconst (v := 2) hx hb dX9_is_97 (by decide) ?_
        refine lv_icmp_ne (tgt := 115) hx hb dX9_is_98 (by decide) (fun c98 => ?_) (fun c98 => ?_)
        · refine lv_iconst (v := 0) hx hb dX9_is_115 (by decide) ?_
          exact hret _ _ ls (by simp [isM, isV, c32, c53, c74, c98]) (by decide) dX9_is_116
        · refine lv_aload_n hx hb dX9_is_101 rfl (lv_at hl 1 rfl) ?_
          refine g_get (C := RX9) (T := TX9) (N := 20) (ci := 9) (index := 37) hx hb hts in_X9_is_9 hown hK hP 0 10 rfl rfl (by decide) (List.mem_of_getElem? (i := 4) rfl) rfl dX9_is_102 ?_
          refine lv_lload hx hb dX9_is_105 (lv_at hl 0 rfl) ?_
          refine W.lcmp hx hb dX9_is_107 ?_
          refine lv_if_ne (tgt := 115) hx hb dX9_is_108 (by decide) (fun c108 => ?_) (fun c108 => ?_)
          · refine lv_iconst (v := 0) hx hb dX9_is_115 (by decide) ?_
            exact hret _ _ ls (by simp [isM, isV, c32, c53, c74, c98, c108]) (by decide) dX9_is_116
          · refine lv_iconst (v := 1) hx hb dX9_is_111 (by decide) ?_
            refine lv_goto (tgt := 116) hx hb dX9_is_112 (by decide) ?_
            exact hret _ _ ls (by simp [isM, isV, c32, c53, c74, c98, c108]) (by decide) dX9_is_116
      · refine lv_ldc2 (v := 27) hx hb hown (hts (.constantLong RX9 48 (27)) (List.mem_of_getElem? (i := 1) rfl)) dX9_is_77 ?_
        refine lv_lload hx hb dX9_is_80 (lv_at hl 0 rfl) ?_
        refine lv_lmul hx hb dX9_is_82 ?_
        refine lv_iload hx hb dX9_is_83 (lv_at hl 7 rfl) ?_
        refine lv_i2l (v := f.toInt64) hx hb dX9_is_85 rfl ?_
        refine lv_ladd hx hb dX9_is_86 ?_
        refine lv_ldc2 (v := 96) hx hb hown (hts (.constantLong RX9 50 (96)) (List.mem_of_getElem? (i := 2) rfl)) dX9_is_87 ?_
        refine lv_lsub hx hb dX9_is_90 ?_
        refine lv_lstore (lv' := [(7, .long (((27 * (((27 * (((27 * (a.toInt64 - 96)) + b.toInt64) - 96)) + c.toInt64) - 96)) + f.toInt64) - 96)), (0, .ref mo), (1, .int a), (2, .int b), (3, .int c), (4, .int d), (5, .int e), (6, .int f)]) hx hb dX9_is_91 hl (by decide) rfl (fun ls hl => ?_)
        refine lv_aload_n hx hb dX9_is_93 rfl (lv_at hl 1 rfl) ?_
        refine g_get (C := RX9) (T := TX9) (N := 20) (ci := 9) (index := 27) hx hb hts in_X9_is_9 hown hK hP 0 6 rfl rfl (by decide) (List.mem_of_getElem? (i := 3) rfl) rfl dX9_is_94 ?_
        refine lv_iconst (v := 2) hx hb dX9_is_97 (by decide) ?_
        refine lv_icmp_ne (tgt := 115) hx hb dX9_is_98 (by decide) (fun c98 => ?_) (fun c98 => ?_)
        · refine lv_iconst (v := 0) hx hb dX9_is_115 (by decide) ?_
          exact hret _ _ ls (by simp [isM, isV, c32, c53, c74, c98]) (by decide) dX9_is_116
        · refine lv_aload_n hx hb dX9_is_101 rfl (lv_at hl 1 rfl) ?_
          refine g_get (C := RX9) (T := TX9) (N := 20) (ci := 9) (index := 37) hx hb hts in_X9_is_9 hown hK hP 0 10 rfl rfl (by decide) (List.mem_of_getElem? (i := 4) rfl) rfl dX9_is_102 ?_
          refine lv_lload hx hb dX9_is_105 (lv_at hl 0 rfl) ?_
          refine W.lcmp hx hb dX9_is_107 ?_
          refine lv_if_ne (tgt := 115) hx hb dX9_is_108 (by decide) (fun c108 => ?_) (fun c108 => ?_)
          · refine lv_iconst (v := 0) hx hb dX9_is_115 (by decide) ?_
            exact hret _ _ ls (by simp [isM, isV, c32, c53, c74, c98, c108]) (by decide) dX9_is_116
          · refine lv_iconst (v := 1) hx hb dX9_is_111 (by decide) ?_
            refine lv_goto (tgt := 116) hx hb dX9_is_112 (by decide) ?_
            exact hret _ _ ls (by simp [isM, isV, c32, c53, c74, c98, c108]) (by decide) dX9_is_116
    · refine lv_ldc2 (v := 27) hx hb hown (hts (.constantLong RX9 48 (27)) (List.mem_of_getElem? (i := 1) rfl)) dX9_is_56 ?_
      refine lv_lload hx hb dX9_is_59 (lv_at hl 0 rfl) ?_
      refine lv_lmul hx hb dX9_is_61 ?_
      refine lv_iload hx hb dX9_is_62 (lv_at hl 6 rfl) ?_
      refine lv_i2l (v := e.toInt64) hx hb dX9_is_64 rfl ?_
      refine lv_ladd hx hb dX9_is_65 ?_
      refine lv_ldc2 (v := 96) hx hb hown (hts (.constantLong RX9 50 (96)) (List.mem_of_getElem? (i := 2) rfl)) dX9_is_66 ?_
      refine lv_lsub hx hb dX9_is_69 ?_
      refine lv_lstore (lv' := [(7, .long (((27 * (((27 * (((27 * (a.toInt64 - 96)) + b.toInt64) - 96)) + c.toInt64) - 96)) + e.toInt64) - 96)), (0, .ref mo), (1, .int a), (2, .int b), (3, .int c), (4, .int d), (5, .int e), (6, .int f)]) hx hb dX9_is_70 hl (by decide) rfl (fun ls hl => ?_)
      refine lv_iload hx hb dX9_is_72 (lv_at hl 7 rfl) ?_
      refine lv_if_le (tgt := 93) hx hb dX9_is_74 (by decide) (fun c74 => ?_) (fun c74 => ?_)
      · refine lv_aload_n hx hb dX9_is_93 rfl (lv_at hl 1 rfl) ?_
        refine g_get (C := RX9) (T := TX9) (N := 20) (ci := 9) (index := 27) hx hb hts in_X9_is_9 hown hK hP 0 6 rfl rfl (by decide) (List.mem_of_getElem? (i := 3) rfl) rfl dX9_is_94 ?_
        refine lv_iconst (v := 2) hx hb dX9_is_97 (by decide) ?_
        refine lv_icmp_ne (tgt := 115) hx hb dX9_is_98 (by decide) (fun c98 => ?_) (fun c98 => ?_)
        · refine lv_iconst (v := 0) hx hb dX9_is_115 (by decide) ?_
          exact hret _ _ ls (by simp [isM, isV, c32, c53, c74, c98]) (by decide) dX9_is_116
        · refine lv_aload_n hx hb dX9_is_101 rfl (lv_at hl 1 rfl) ?_
          refine g_get (C := RX9) (T := TX9) (N := 20) (ci := 9) (index := 37) hx hb hts in_X9_is_9 hown hK hP 0 10 rfl rfl (by decide) (List.mem_of_getElem? (i := 4) rfl) rfl dX9_is_102 ?_
          refine lv_lload hx hb dX9_is_105 (lv_at hl 0 rfl) ?_
          refine W.lcmp hx hb dX9_is_107 ?_
          refine lv_if_ne (tgt := 115) hx hb dX9_is_108 (by decide) (fun c108 => ?_) (fun c108 => ?_)
          · refine lv_iconst (v := 0) hx hb dX9_is_115 (by decide) ?_
            exact hret _ _ ls (by simp [isM, isV, c32, c53, c74, c98, c108]) (by decide) dX9_is_116
          · refine lv_iconst (v := 1) hx hb dX9_is_111 (by decide) ?_
            refine lv_goto (tgt := 116) hx hb dX9_is_112 (by decide) ?_
            exact hret _ _ ls (by simp [isM, isV, c32, c53, c74, c98, c108]) (by decide) dX9_is_116
      · refine lv_ldc2 (v := 27) hx hb hown (hts (.constantLong RX9 48 (27)) (List.mem_of_getElem? (i := 1) rfl)) dX9_is_77 ?_
        refine lv_lload hx hb dX9_is_80 (lv_at hl 0 rfl) ?_
        refine lv_lmul hx hb dX9_is_82 ?_
        refine lv_iload hx hb dX9_is_83 (lv_at hl 7 rfl) ?_
        refine lv_i2l (v := f.toInt64) hx hb dX9_is_85 rfl ?_
        refine lv_ladd hx hb dX9_is_86 ?_
        refine lv_ldc2 (v := 96) hx hb hown (hts (.constantLong RX9 50 (96)) (List.mem_of_getElem? (i := 2) rfl)) dX9_is_87 ?_
        refine lv_lsub hx hb dX9_is_90 ?_
        refine lv_lstore (lv' := [(7, .long (((27 * (((27 * (((27 * (((27 * (a.toInt64 - 96)) + b.toInt64) - 96)) + c.toInt64) - 96)) + e.toInt64) - 96)) + f.toInt64) - 96)), (0, .ref mo), (1, .int a), (2, .int b), (3, .int c), (4, .int d), (5, .int e), (6, .int f)]) hx hb dX9_is_91 hl (by decide) rfl (fun ls hl => ?_)
        refine lv_aload_n hx hb dX9_is_93 rfl (lv_at hl 1 rfl) ?_
        refine g_get (C := RX9) (T := TX9) (N := 20) (ci := 9) (index := 27) hx hb hts in_X9_is_9 hown hK hP 0 6 rfl rfl (by decide) (List.mem_of_getElem? (i := 3) rfl) rfl dX9_is_94 ?_
        refine lv_iconst (v := 2) hx hb dX9_is_97 (by decide) ?_
        refine lv_icmp_ne (tgt := 115) hx hb dX9_is_98 (by decide) (fun c98 => ?_) (fun c98 => ?_)
        · refine lv_iconst (v := 0) hx hb dX9_is_115 (by decide) ?_
          exact hret _ _ ls (by simp [isM, isV, c32, c53, c74, c98]) (by decide) dX9_is_116
        · refine lv_aload_n hx hb dX9_is_101 rfl (lv_at hl 1 rfl) ?_
          refine g_get (C := RX9) (T := TX9) (N := 20) (ci := 9) (index := 37) hx hb hts in_X9_is_9 hown hK hP 0 10 rfl rfl (by decide) (List.mem_of_getElem? (i := 4) rfl) rfl dX9_is_102 ?_
          refine lv_lload hx hb dX9_is_105 (lv_at hl 0 rfl) ?_
          refine W.lcmp hx hb dX9_is_107 ?_
          refine lv_if_ne (tgt := 115) hx hb dX9_is_108 (by decide) (fun c108 => ?_) (fun c108 => ?_)
          · refine lv_iconst (v := 0) hx hb dX9_is_115 (by decide) ?_
            exact hret _ _ ls (by simp [isM, isV, c32, c53, c74, c98, c108]) (by decide) dX9_is_116
          · refine lv_iconst (v := 1) hx hb dX9_is_111 (by decide) ?_
            refine lv_goto (tgt := 116) hx hb dX9_is_112 (by decide) ?_
            exact hret _ _ ls (by simp [isM, isV, c32, c53, c74, c98, c108]) (by decide) dX9_is_116
  · refine lv_ldc2 (v := 27) hx hb hown (hts (.constantLong RX9 48 (27)) (List.mem_of_getElem? (i := 1) rfl)) dX9_is_35 ?_
    refine lv_lload hx hb dX9_is_38 (lv_at hl 0 rfl) ?_
    refine lv_lmul hx hb dX9_is_40 ?_
    refine lv_iload hx hb dX9_is_41 (lv_at hl 5 rfl) ?_
    refine lv_i2l (v := d.toInt64) hx hb dX9_is_43 rfl ?_
    refine lv_ladd hx hb dX9_is_44 ?_
    refine lv_ldc2 (v := 96) hx hb hown (hts (.constantLong RX9 50 (96)) (List.mem_of_getElem? (i := 2) rfl)) dX9_is_45 ?_
    refine lv_lsub hx hb dX9_is_48 ?_
    refine lv_lstore (lv' := [(7, .long (((27 * (((27 * (((27 * (a.toInt64 - 96)) + b.toInt64) - 96)) + c.toInt64) - 96)) + d.toInt64) - 96)), (0, .ref mo), (1, .int a), (2, .int b), (3, .int c), (4, .int d), (5, .int e), (6, .int f)]) hx hb dX9_is_49 hl (by decide) rfl (fun ls hl => ?_)
    refine lv_iload hx hb dX9_is_51 (lv_at hl 6 rfl) ?_
    refine lv_if_le (tgt := 72) hx hb dX9_is_53 (by decide) (fun c53 => ?_) (fun c53 => ?_)
    · refine lv_iload hx hb dX9_is_72 (lv_at hl 7 rfl) ?_
      refine lv_if_le (tgt := 93) hx hb dX9_is_74 (by decide) (fun c74 => ?_) (fun c74 => ?_)
      · refine lv_aload_n hx hb dX9_is_93 rfl (lv_at hl 1 rfl) ?_
        refine g_get (C := RX9) (T := TX9) (N := 20) (ci := 9) (index := 27) hx hb hts in_X9_is_9 hown hK hP 0 6 rfl rfl (by decide) (List.mem_of_getElem? (i := 3) rfl) rfl dX9_is_94 ?_
        refine lv_iconst (v := 2) hx hb dX9_is_97 (by decide) ?_
        refine lv_icmp_ne (tgt := 115) hx hb dX9_is_98 (by decide) (fun c98 => ?_) (fun c98 => ?_)
        · refine lv_iconst (v := 0) hx hb dX9_is_115 (by decide) ?_
          exact hret _ _ ls (by simp [isM, isV, c32, c53, c74, c98]) (by decide) dX9_is_116
        · refine lv_aload_n hx hb dX9_is_101 rfl (lv_at hl 1 rfl) ?_
          refine g_get (C := RX9) (T := TX9) (N := 20) (ci := 9) (index := 37) hx hb hts in_X9_is_9 hown hK hP 0 10 rfl rfl (by decide) (List.mem_of_getElem? (i := 4) rfl) rfl dX9_is_102 ?_
          refine lv_lload hx hb dX9_is_105 (lv_at hl 0 rfl) ?_
          refine W.lcmp hx hb dX9_is_107 ?_
          refine lv_if_ne (tgt := 115) hx hb dX9_is_108 (by decide) (fun c108 => ?_) (fun c108 => ?_)
          · refine lv_iconst (v := 0) hx hb dX9_is_115 (by decide) ?_
            exact hret _ _ ls (by simp [isM, isV, c32, c53, c74, c98, c108]) (by decide) dX9_is_116
          · refine lv_iconst (v := 1) hx hb dX9_is_111 (by decide) ?_
            refine lv_goto (tgt := 116) hx hb dX9_is_112 (by decide) ?_
            exact hret _ _ ls (by simp [isM, isV, c32, c53, c74, c98, c108]) (by decide) dX9_is_116
      · refine lv_ldc2 (v := 27) hx hb hown (hts (.constantLong RX9 48 (27)) (List.mem_of_getElem? (i := 1) rfl)) dX9_is_77 ?_
        refine lv_lload hx hb dX9_is_80 (lv_at hl 0 rfl) ?_
        refine lv_lmul hx hb dX9_is_82 ?_
        refine lv_iload hx hb dX9_is_83 (lv_at hl 7 rfl) ?_
        refine lv_i2l (v := f.toInt64) hx hb dX9_is_85 rfl ?_
        refine lv_ladd hx hb dX9_is_86 ?_
        refine lv_ldc2 (v := 96) hx hb hown (hts (.constantLong RX9 50 (96)) (List.mem_of_getElem? (i := 2) rfl)) dX9_is_87 ?_
        refine lv_lsub hx hb dX9_is_90 ?_
        refine lv_lstore (lv' := [(7, .long (((27 * (((27 * (((27 * (((27 * (a.toInt64 - 96)) + b.toInt64) - 96)) + c.toInt64) - 96)) + d.toInt64) - 96)) + f.toInt64) - 96)), (0, .ref mo), (1, .int a), (2, .int b), (3, .int c), (4, .int d), (5, .int e), (6, .int f)]) hx hb dX9_is_91 hl (by decide) rfl (fun ls hl => ?_)
        refine lv_aload_n hx hb dX9_is_93 rfl (lv_at hl 1 rfl) ?_
        refine g_get (C := RX9) (T := TX9) (N := 20) (ci := 9) (index := 27) hx hb hts in_X9_is_9 hown hK hP 0 6 rfl rfl (by decide) (List.mem_of_getElem? (i := 3) rfl) rfl dX9_is_94 ?_
        refine lv_iconst (v := 2) hx hb dX9_is_97 (by decide) ?_
        refine lv_icmp_ne (tgt := 115) hx hb dX9_is_98 (by decide) (fun c98 => ?_) (fun c98 => ?_)
        · refine lv_iconst (v := 0) hx hb dX9_is_115 (by decide) ?_
          exact hret _ _ ls (by simp [isM, isV, c32, c53, c74, c98]) (by decide) dX9_is_116
        · refine lv_aload_n hx hb dX9_is_101 rfl (lv_at hl 1 rfl) ?_
          refine g_get (C := RX9) (T := TX9) (N := 20) (ci := 9) (index := 37) hx hb hts in_X9_is_9 hown hK hP 0 10 rfl rfl (by decide) (List.mem_of_getElem? (i := 4) rfl) rfl dX9_is_102 ?_
          refine lv_lload hx hb dX9_is_105 (lv_at hl 0 rfl) ?_
          refine W.lcmp hx hb dX9_is_107 ?_
          refine lv_if_ne (tgt := 115) hx hb dX9_is_108 (by decide) (fun c108 => ?_) (fun c108 => ?_)
          · refine lv_iconst (v := 0) hx hb dX9_is_115 (by decide) ?_
            exact hret _ _ ls (by simp [isM, isV, c32, c53, c74, c98, c108]) (by decide) dX9_is_116
          · refine lv_iconst (v := 1) hx hb dX9_is_111 (by decide) ?_
            refine lv_goto (tgt := 116) hx hb dX9_is_112 (by decide) ?_
            exact hret _ _ ls (by simp [isM, isV, c32, c53, c74, c98, c108]) (by decide) dX9_is_116
    · refine lv_ldc2 (v := 27) hx hb hown (hts (.constantLong RX9 48 (27)) (List.mem_of_getElem? (i := 1) rfl)) dX9_is_56 ?_
      refine lv_lload hx hb dX9_is_59 (lv_at hl 0 rfl) ?_
      refine lv_lmul hx hb dX9_is_61 ?_
      refine lv_iload hx hb dX9_is_62 (lv_at hl 6 rfl) ?_
      refine lv_i2l (v := e.toInt64) hx hb dX9_is_64 rfl ?_
      refine lv_ladd hx hb dX9_is_65 ?_
      refine lv_ldc2 (v := 96) hx hb hown (hts (.constantLong RX9 50 (96)) (List.mem_of_getElem? (i := 2) rfl)) dX9_is_66 ?_
      refine lv_lsub hx hb dX9_is_69 ?_
      refine lv_lstore (lv' := [(7, .long (((27 * (((27 * (((27 * (((27 * (a.toInt64 - 96)) + b.toInt64) - 96)) + c.toInt64) - 96)) + d.toInt64) - 96)) + e.toInt64) - 96)), (0, .ref mo), (1, .int a), (2, .int b), (3, .int c), (4, .int d), (5, .int e), (6, .int f)]) hx hb dX9_is_70 hl (by decide) rfl (fun ls hl => ?_)
      refine lv_iload hx hb dX9_is_72 (lv_at hl 7 rfl) ?_
      refine lv_if_le (tgt := 93) hx hb dX9_is_74 (by decide) (fun c74 => ?_) (fun c74 => ?_)
      · refine lv_aload_n hx hb dX9_is_93 rfl (lv_at hl 1 rfl) ?_
        refine g_get (C := RX9) (T := TX9) (N := 20) (ci := 9) (index := 27) hx hb hts in_X9_is_9 hown hK hP 0 6 rfl rfl (by decide) (List.mem_of_getElem? (i := 3) rfl) rfl dX9_is_94 ?_
        refine lv_iconst (v := 2) hx hb dX9_is_97 (by decide) ?_
        refine lv_icmp_ne (tgt := 115) hx hb dX9_is_98 (by decide) (fun c98 => ?_) (fun c98 => ?_)
        · refine lv_iconst (v := 0) hx hb dX9_is_115 (by decide) ?_
          exact hret _ _ ls (by simp [isM, isV, c32, c53, c74, c98]) (by decide) dX9_is_116
        · refine lv_aload_n hx hb dX9_is_101 rfl (lv_at hl 1 rfl) ?_
          refine g_get (C := RX9) (T := TX9) (N := 20) (ci := 9) (index := 37) hx hb hts in_X9_is_9 hown hK hP 0 10 rfl rfl (by decide) (List.mem_of_getElem? (i := 4) rfl) rfl dX9_is_102 ?_
          refine lv_lload hx hb dX9_is_105 (lv_at hl 0 rfl) ?_
          refine W.lcmp hx hb dX9_is_107 ?_
          refine lv_if_ne (tgt := 115) hx hb dX9_is_108 (by decide) (fun c108 => ?_) (fun c108 => ?_)
          · refine lv_iconst (v := 0) hx hb dX9_is_115 (by decide) ?_
            exact hret _ _ ls (by simp [isM, isV, c32, c53, c74, c98, c108]) (by decide) dX9_is_116
          · refine lv_iconst (v := 1) hx hb dX9_is_111 (by decide) ?_
            refine lv_goto (tgt := 116) hx hb dX9_is_112 (by decide) ?_
            exact hret _ _ ls (by simp [isM, isV, c32, c53, c74, c98, c108]) (by decide) dX9_is_116
      · refine lv_ldc2 (v := 27) hx hb hown (hts (.constantLong RX9 48 (27)) (List.mem_of_getElem? (i := 1) rfl)) dX9_is_77 ?_
        refine lv_lload hx hb dX9_is_80 (lv_at hl 0 rfl) ?_
        refine lv_lmul hx hb dX9_is_82 ?_
        refine lv_iload hx hb dX9_is_83 (lv_at hl 7 rfl) ?_
        refine lv_i2l (v := f.toInt64) hx hb dX9_is_85 rfl ?_
        refine lv_ladd hx hb dX9_is_86 ?_
        refine lv_ldc2 (v := 96) hx hb hown (hts (.constantLong RX9 50 (96)) (List.mem_of_getElem? (i := 2) rfl)) dX9_is_87 ?_
        refine lv_lsub hx hb dX9_is_90 ?_
        refine lv_lstore (lv' := [(7, .long (((27 * (((27 * (((27 * (((27 * (((27 * (a.toInt64 - 96)) + b.toInt64) - 96)) + c.toInt64) - 96)) + d.toInt64) - 96)) + e.toInt64) - 96)) + f.toInt64) - 96)), (0, .ref mo), (1, .int a), (2, .int b), (3, .int c), (4, .int d), (5, .int e), (6, .int f)]) hx hb dX9_is_91 hl (by decide) rfl (fun ls hl => ?_)
        refine lv_aload_n hx hb dX9_is_93 rfl (lv_at hl 1 rfl) ?_
        refine g_get (C := RX9) (T := TX9) (N := 20) (ci := 9) (index := 27) hx hb hts in_X9_is_9 hown hK hP 0 6 rfl rfl (by decide) (List.mem_of_getElem? (i := 3) rfl) rfl dX9_is_94 ?_
        refine lv_iconst (v := 2) hx hb dX9_is_97 (by decide) ?_
        refine lv_icmp_ne (tgt := 115) hx hb dX9_is_98 (by decide) (fun c98 => ?_) (fun c98 => ?_)
        · refine lv_iconst (v := 0) hx hb dX9_is_115 (by decide) ?_
          exact hret _ _ ls (by simp [isM, isV, c32, c53, c74, c98]) (by decide) dX9_is_116
        · refine lv_aload_n hx hb dX9_is_101 rfl (lv_at hl 1 rfl) ?_
          refine g_get (C := RX9) (T := TX9) (N := 20) (ci := 9) (index := 37) hx hb hts in_X9_is_9 hown hK hP 0 10 rfl rfl (by decide) (List.mem_of_getElem? (i := 4) rfl) rfl dX9_is_102 ?_
          refine lv_lload hx hb dX9_is_105 (lv_at hl 0 rfl) ?_
          refine W.lcmp hx hb dX9_is_107 ?_
          refine lv_if_ne (tgt := 115) hx hb dX9_is_108 (by decide) (fun c108 => ?_) (fun c108 => ?_)
          · refine lv_iconst (v := 0) hx hb dX9_is_115 (by decide) ?_
            exact hret _ _ ls (by simp [isM, isV, c32, c53, c74, c98, c108]) (by decide) dX9_is_116
          · refine lv_iconst (v := 1) hx hb dX9_is_111 (by decide) ?_
            refine lv_goto (tgt := 116) hx hb dX9_is_112 (by decide) ?_
            exact hret _ _ ls (by simp [isM, isV, c32, c53, c74, c98, c108]) (by decide) dX9_is_116

