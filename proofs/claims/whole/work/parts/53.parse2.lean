def setR (S : MSt) (A : Nat) (v : Int32) : MSt := (S.1, S.2.1, S.2.2.1, S.2.2.2.1, S.2.2.2.2.1, S.2.2.2.2.2.1, S.2.2.2.2.2.2.1, upd S.2.2.2.2.2.2.2 A v)
def toldM (T : Nat → Int32) (n : Nat) (S : MSt) (A : Nat) (lo hi : Int32) : Int32 × MSt :=
  if S.2.2.1 = 3 then (if isInM S.2.2.2.1 lo hi = 0 then (0, badM S 2) else (1, goM T n (setR S A S.2.2.2.1))) else (0, badM S 1)
def endM (T : Nat → Int32) (n : Nat) (S : MSt) : Int32 × MSt := if S.2.2.1 = 4 then (1, goM T n S) else (0, badM S 1)
theorem goM_le {T : Nat → Int32} {n : Nat} {S : MSt} (h : S.1 ≤ n) : (goM T n S).1 ≤ n := by
  have hs := goP_in (T := T) h
  unfold goM
  by_cases h1 : 800 < n ∧ 800 ≤ goP T n S.1
  · rw [if_pos h1]; exact hs.2
  · rw [if_neg h1]
    by_cases h2 : n ≤ goP T n S.1
    · rw [if_pos h2]; exact hs.2
    · rw [if_neg h2]
      by_cases h3 : isInM (T (goP T n S.1)) 97 122 = 0 ∧ isInM (T (goP T n S.1)) 48 57 = 0
      · rw [if_pos h3]; show goP T n S.1 + 1 ≤ n; omega
      · rw [if_neg h3]
        show goE T n (goP T n S.1) ≤ n
        have := bl_le (isaM T n) (n - goP T n S.1) (goP T n S.1)
        unfold goE; omega
theorem goM_read (T : Nat → Int32) (n : Nat) (S : MSt) : (goM T n S).2.2.2.2.2.2.2 = S.2.2.2.2.2.2.2 := by
  unfold goM
  by_cases h1 : 800 < n ∧ 800 ≤ goP T n S.1
  · rw [if_pos h1]
  · rw [if_neg h1]
    by_cases h2 : n ≤ goP T n S.1
    · rw [if_pos h2]
    · rw [if_neg h2]
      by_cases h3 : isInM (T (goP T n S.1)) 97 122 = 0 ∧ isInM (T (goP T n S.1)) 48 57 = 0
      · rw [if_pos h3]
      · rw [if_neg h3]
theorem toldM_le {T : Nat → Int32} {n A : Nat} {S : MSt} {lo hi : Int32} (h : S.1 ≤ n) : (toldM T n S A lo hi).2.1 ≤ n := by
  unfold toldM
  by_cases h1 : S.2.2.1 = 3
  · rw [if_pos h1]
    by_cases h2 : isInM S.2.2.2.1 lo hi = 0
    · rw [if_pos h2]; exact h
    · rw [if_neg h2]; exact goM_le (S := setR S A S.2.2.2.1) h
  · rw [if_neg h1]; exact h
def b01 (x : Int32) : Prop := x = 0 ∨ x = 1
theorem b01_nar {x : Int32} (h : b01 x) : narrow .boolean (.int x) = .int x := by rcases h with h | h <;> rw [h] <;> rfl
theorem toldM_b (T : Nat → Int32) (n A : Nat) (S : MSt) (lo hi : Int32) : b01 (toldM T n S A lo hi).1 := by
  unfold toldM
  by_cases h1 : S.2.2.1 = 3
  · rw [if_pos h1]
    by_cases h2 : isInM S.2.2.2.1 lo hi = 0
    · rw [if_pos h2]; exact Or.inl rfl
    · rw [if_neg h2]; exact Or.inr rfl
  · rw [if_neg h1]; exact Or.inl rfl
theorem in_X9_told_9 : ∀ w ∈ wsX90, w ∈ wsX9_told := fun _ h => List.mem_cons_of_mem _ (List.mem_append_right _ (h))
set_option maxHeartbeats 4000000 in
set_option maxRecDepth 100000 in
theorem kX9_told (l : Launch) (D : va_G) (cI cB : ClassId) (mo q1 q2 q3 q4 q5 q6 q7 q8 : Nat) (th tn : Int32) (sm rm : Int32) (Tp Nw Sn In Pd Rt Rw : Nat → Int32) (n : Nat) (S : MSt) (A : Nat) (lo hi : Int32) (hn : n ≤ 840) (hSn : S.1 ≤ n) (hA : A < 240) : Wr l D (TY cI cB) yX9_told wsX9_told 2 45 [.ref mo, .int (nI A), .int lo, .int hi] [(mo, .inr (9, [.int th, .ref q1, .int tn, .int (nI n), .int (nI S.1), .int (nI S.2.1), .int S.2.2.1, .int S.2.2.2.1, .int S.2.2.2.2.1, .int S.2.2.2.2.2.1, .long S.2.2.2.2.2.2.1, .ref q2, .ref q3, .ref q4, .int sm, .ref q5, .ref q6, .ref q7, .ref q8, .int rm])), (q1, .inl (cI, 840, .inl Tp)), (q2, .inl (cI, 240, .inl Nw)), (q3, .inl (cI, 240, .inl S.2.2.2.2.2.2.2)), (q4, .inl (cI, 2880, .inl Sn)), (q5, .inl (cI, 4, .inl In)), (q6, .inl (cI, 500, .inl Pd)), (q7, .inl (cI, 500, .inl Rt)), (q8, .inl (cI, 10000, .inl Rw))] [(mo, .inr (9, [.int th, .ref q1, .int tn, .int (nI n), .int (nI (toldM Tp n S A lo hi).2.1), .int (nI (toldM Tp n S A lo hi).2.2.1), .int (toldM Tp n S A lo hi).2.2.2.1, .int (toldM Tp n S A lo hi).2.2.2.2.1, .int (toldM Tp n S A lo hi).2.2.2.2.2.1, .int (toldM Tp n S A lo hi).2.2.2.2.2.2.1, .long (toldM Tp n S A lo hi).2.2.2.2.2.2.2.1, .ref q2, .ref q3, .ref q4, .int sm, .ref q5, .ref q6, .ref q7, .ref q8, .int rm])), (q1, .inl (cI, 840, .inl Tp)), (q2, .inl (cI, 240, .inl Nw)), (q3, .inl (cI, 240, .inl (toldM Tp n S A lo hi).2.2.2.2.2.2.2.2)), (q4, .inl (cI, 2880, .inl Sn)), (q5, .inl (cI, 4, .inl In)), (q6, .inl (cI, 500, .inl Pd)), (q7, .inl (cI, 500, .inl Rt)), (q8, .inl (cI, 10000, .inl Rw))] (some (.int (toldM Tp n S A lo hi).1)) := by
  refine wr_z (cc := cX9_told) (maxL := 4) (by decide) rfl (Nat.le_of_ble_eq_true rfl) ?_
  intro p_ e_ s_ m_ ar_ be_ me_ co_ ls Q_ A_ hx hb hml hown hts hP hK hD hS hl hret
  have hown : s_.vm.findClass RX9 = some m_.cls := hown
  have hl : lv_has ls 4 [(0, .ref mo), (1, .int (nI A)), (2, .int lo), (3, .int hi)] := hl
  refine lv_aload_n hx hb dX9_told_0 rfl (lv_at hl 0 rfl) ?_
  refine g_get (C := RX9) (T := TX9) (N := 20) (ci := 9) (index := 27) hx hb hts in_X9_told_9 hown hK hP 0 6 rfl rfl (by decide) (List.mem_of_getElem? (i := 1) rfl) rfl dX9_told_1 ?_
  refine lv_iconst (v := 3) hx hb dX9_told_4 (by decide) ?_
  refine lv_icmp_eq (tgt := 14) hx hb dX9_told_5 (by decide) (fun c5 => ?_) (fun c5 => ?_)
  · refine lv_aload_n hx hb dX9_told_14 rfl (lv_at hl 0 rfl) ?_
    refine g_get (C := RX9) (T := TX9) (N := 20) (ci := 9) (index := 41) hx hb hts in_X9_told_9 hown hK hP 0 7 rfl rfl (by decide) (List.mem_of_getElem? (i := 2) rfl) rfl dX9_told_15 ?_
    refine lv_iload_n hx hb dX9_told_18 rfl (lv_at hl 2 rfl) ?_
    refine lv_iload_n hx hb dX9_told_19 rfl (lv_at hl 3 rfl) ?_
    refine rd_S (As := [.int S.2.2.2.1, .int lo, .int hi]) (rest := []) (kX9_isIn l D cI cB S.2.2.2.1 lo hi ) ⟨hx, hb, hml, hown, hts⟩ (va_cwS 3 hts gX9_told_X9_isIn rfl rfl rfl (by decide +kernel) ⟨Nat.le_of_ble_eq_true rfl, Nat.le_of_ble_eq_true rfl⟩) hK hP [] rfl rfl rfl hl.1 (Nat.le_of_ble_eq_true rfl) dX9_told_20 ⟨Nat.le_refl _, Nat.le_refl _⟩ ?_
    refine lv_if_ne (tgt := 32) hx hb dX9_told_23 (by decide) (fun c23 => ?_) (fun c23 => ?_)
    · refine lv_aload_n hx hb dX9_told_32 rfl (lv_at hl 0 rfl) ?_
      refine g_get (C := RX9) (T := TX9) (N := 20) (ci := 9) (index := 67) hx hb hts in_X9_told_9 hown hK hP 0 12 rfl rfl (by decide) (List.mem_of_getElem? (i := 3) rfl) rfl dX9_told_33 ?_
      refine lv_iload_n hx hb dX9_told_36 rfl (lv_at hl 1 rfl) ?_
      refine lv_aload_n hx hb dX9_told_37 rfl (lv_at hl 0 rfl) ?_
      refine g_get (C := RX9) (T := TX9) (N := 20) (ci := 9) (index := 41) hx hb hts in_X9_told_9 hown hK hP 0 7 rfl rfl (by decide) (List.mem_of_getElem? (i := 2) rfl) rfl dX9_told_38 ?_
      refine g_iast hx hb hK hP hD hS 3 0 rfl rfl A (rfl) (by omega) (by omega) dX9_told_41 (fun H_ lc_ hP hD hS => ?_)
      have hP : va_P D vwCl [(mo, .inr (9, [.int th, .ref q1, .int tn, .int (nI n), .int (nI S.1), .int (nI S.2.1), .int S.2.2.1, .int S.2.2.2.1, .int S.2.2.2.2.1, .int S.2.2.2.2.2.1, .long S.2.2.2.2.2.2.1, .ref q2, .ref q3, .ref q4, .int sm, .ref q5, .ref q6, .ref q7, .ref q8, .int rm])), (q1, .inl (cI, 840, .inl Tp)), (q2, .inl (cI, 240, .inl Nw)), (q3, .inl (cI, 240, .inl (upd S.2.2.2.2.2.2.2 A S.2.2.2.1))), (q4, .inl (cI, 2880, .inl Sn)), (q5, .inl (cI, 4, .inl In)), (q6, .inl (cI, 500, .inl Pd)), (q7, .inl (cI, 500, .inl Rt)), (q8, .inl (cI, 10000, .inl Rw))] H_ := hP
      have hD : va_D A_ [(mo, .inr (9, [.int th, .ref q1, .int tn, .int (nI n), .int (nI S.1), .int (nI S.2.1), .int S.2.2.1, .int S.2.2.2.1, .int S.2.2.2.2.1, .int S.2.2.2.2.2.1, .long S.2.2.2.2.2.2.1, .ref q2, .ref q3, .ref q4, .int sm, .ref q5, .ref q6, .ref q7, .ref q8, .int rm])), (q1, .inl (cI, 840, .inl Tp)), (q2, .inl (cI, 240, .inl Nw)), (q3, .inl (cI, 240, .inl (upd S.2.2.2.2.2.2.2 A S.2.2.2.1))), (q4, .inl (cI, 2880, .inl Sn)), (q5, .inl (cI, 4, .inl In)), (q6, .inl (cI, 500, .inl Pd)), (q7, .inl (cI, 500, .inl Rt)), (q8, .inl (cI, 10000, .inl Rw))] := hD
      refine lv_aload_n hx hb dX9_told_42 rfl (lv_at hl 0 rfl) ?_
      refine wp_V (As := []) (rest := []) (ci := 9) (ws' := [(mo, .inr (9, [.int th, .ref q1, .int tn, .int (nI n), .int (nI (goM Tp n (setR S A S.2.2.2.1)).1), .int (nI (goM Tp n (setR S A S.2.2.2.1)).2.1), .int (goM Tp n (setR S A S.2.2.2.1)).2.2.1, .int (goM Tp n (setR S A S.2.2.2.1)).2.2.2.1, .int (goM Tp n (setR S A S.2.2.2.1)).2.2.2.2.1, .int (goM Tp n (setR S A S.2.2.2.1)).2.2.2.2.2.1, .long (goM Tp n (setR S A S.2.2.2.1)).2.2.2.2.2.2.1, .ref q2, .ref q3, .ref q4, .int sm, .ref q5, .ref q6, .ref q7, .ref q8, .int rm])), (q1, .inl (cI, 840, .inl Tp)), (q2, .inl (cI, 240, .inl Nw)), (q3, .inl (cI, 240, .inl (goM Tp n (setR S A S.2.2.2.1)).2.2.2.2.2.2.2)), (q4, .inl (cI, 2880, .inl Sn)), (q5, .inl (cI, 4, .inl In)), (q6, .inl (cI, 500, .inl Pd)), (q7, .inl (cI, 500, .inl Rt)), (q8, .inl (cI, 10000, .inl Rw))]) (kX9_go l D cI cB mo q1 q2 q3 q4 q5 q6 q7 q8 th tn sm rm Tp Nw Sn In Pd Rt Rw n (setR S A S.2.2.2.1) (hn) (hSn)) ⟨hx, hb, hml, hown, hts⟩ (cwV 0 hts gX9_told_X9_go rfl rfl rfl (by decide +kernel) ⟨Nat.le_of_ble_eq_true rfl, Nat.le_of_ble_eq_true rfl⟩) hK hP hD hS [0, 1, 2, 3, 4, 5, 6, 7, 8] [] rfl rfl (two_eq [] rfl rfl) 9 rfl (by decide +kernel) (by decide +kernel) (two_eq [mo, q1, q2, q3, q4, q5, q6, q7, q8] rfl rfl) (by decide +kernel) 0 rfl rfl rfl rfl hl.1 (Nat.le_of_ble_eq_true rfl) dX9_told_43 ⟨Nat.le_refl _, Nat.le_refl _⟩ (fun H_ lc_ hP hD hS => ?_)
      show W p_ l e_ (RM 2 45) s_ m_ ar_ be_ me_ co_ H_ lc_ 0 0 Q_ (F0 m_ 46 ls [])
      refine lv_iconst (v := 1) hx hb dX9_told_46 (by decide) ?_
      exact hret _ _ _ _ ls hS (by unfold toldM; rw [if_pos c5, if_neg c23]; exact hP) (by unfold toldM; rw [if_pos c5, if_neg c23]) (by decide) dX9_told_47
    · refine lv_aload_n hx hb dX9_told_26 rfl (lv_at hl 0 rfl) ?_
      refine lv_iconst (v := 2) hx hb dX9_told_27 (by decide) ?_
      refine wp_V (As := [.int 2]) (rest := []) (ci := 9) (ws' := [(mo, .inr (9, [.int th, .ref q1, .int tn, .int (nI n), .int (nI (badM S 2).1), .int (nI (badM S 2).2.1), .int (badM S 2).2.2.1, .int (badM S 2).2.2.2.1, .int (badM S 2).2.2.2.2.1, .int (badM S 2).2.2.2.2.2.1, .long (badM S 2).2.2.2.2.2.2.1, .ref q2, .ref q3, .ref q4, .int sm, .ref q5, .ref q6, .ref q7, .ref q8, .int rm])), (q1, .inl (cI, 840, .inl Tp)), (q2, .inl (cI, 240, .inl Nw)), (q3, .inl (cI, 240, .inl (badM S 2).2.2.2.2.2.2.2)), (q4, .inl (cI, 2880, .inl Sn)), (q5, .inl (cI, 4, .inl In)), (q6, .inl (cI, 500, .inl Pd)), (q7, .inl (cI, 500, .inl Rt)), (q8, .inl (cI, 10000, .inl Rw))]) (kX9_bad l D cI cB mo q1 q2 q3 q4 q5 q6 q7 q8 th tn sm rm Tp Nw Sn In Pd Rt Rw n S 2 ) ⟨hx, hb, hml, hown, hts⟩ (cwV 1 hts gX9_told_X9_bad rfl rfl rfl (by decide +kernel) ⟨Nat.le_of_ble_eq_true rfl, Nat.le_of_ble_eq_true rfl⟩) hK hP hD hS [0, 1, 2, 3, 4, 5, 6, 7, 8] [] rfl rfl (two_eq [] rfl rfl) 9 rfl (by decide +kernel) (by decide +kernel) (two_eq [mo, q1, q2, q3, q4, q5, q6, q7, q8] rfl rfl) (by decide +kernel) 0 rfl rfl rfl rfl hl.1 (Nat.le_of_ble_eq_true rfl) dX9_told_28 ⟨Nat.le_refl _, Nat.le_refl _⟩ (fun H_ lc_ hP hD hS => ?_)
      show W p_ l e_ (RM 2 45) s_ m_ ar_ be_ me_ co_ H_ lc_ 0 0 Q_ (F0 m_ 31 ls [.int 0])
      exact hret _ _ _ _ ls hS (by unfold toldM; rw [if_pos c5, if_pos c23]; exact hP) (by unfold toldM; rw [if_pos c5, if_pos c23]) (by decide) dX9_told_31
  · refine lv_aload_n hx hb dX9_told_8 rfl (lv_at hl 0 rfl) ?_
    refine lv_iconst (v := 1) hx hb dX9_told_9 (by decide) ?_
    refine wp_V (As := [.int 1]) (rest := []) (ci := 9) (ws' := [(mo, .inr (9, [.int th, .ref q1, .int tn, .int (nI n), .int (nI (badM S 1).1), .int (nI (badM S 1).2.1), .int (badM S 1).2.2.1, .int (badM S 1).2.2.2.1, .int (badM S 1).2.2.2.2.1, .int (badM S 1).2.2.2.2.2.1, .long (badM S 1).2.2.2.2.2.2.1, .ref q2, .ref q3, .ref q4, .int sm, .ref q5, .ref q6, .ref q7, .ref q8, .int rm])), (q1, .inl (cI, 840, .inl Tp)), (q2, .inl (cI, 240, .inl Nw)), (q3, .inl (cI, 240, .inl (badM S 1).2.2.2.2.2.2.2)), (q4, .inl (cI, 2880, .inl Sn)), (q5, .inl (cI, 4, .inl In)), (q6, .inl (cI, 500, .inl Pd)), (q7, .inl (cI, 500, .inl Rt)), (q8, .inl (cI, 10000, .inl Rw))]) (kX9_bad l D cI cB mo q1 q2 q3 q4 q5 q6 q7 q8 th tn sm rm Tp Nw Sn In Pd Rt Rw n S 1 ) ⟨hx, hb, hml, hown, hts⟩ (cwV 1 hts gX9_told_X9_bad rfl rfl rfl (by decide +kernel) ⟨Nat.le_of_ble_eq_true rfl, Nat.le_of_ble_eq_true rfl⟩) hK hP hD hS [0, 1, 2, 3, 4, 5, 6, 7, 8] [] rfl rfl (two_eq [] rfl rfl) 9 rfl (by decide +kernel) (by decide +kernel) (two_eq [mo, q1, q2, q3, q4, q5, q6, q7, q8] rfl rfl) (by decide +kernel) 0 rfl rfl rfl rfl hl.1 (Nat.le_of_ble_eq_true rfl) dX9_told_10 ⟨Nat.le_refl _, Nat.le_refl _⟩ (fun H_ lc_ hP hD hS => ?_)
    show W p_ l e_ (RM 2 45) s_ m_ ar_ be_ me_ co_ H_ lc_ 0 0 Q_ (F0 m_ 13 ls [.int 0])
    exact hret _ _ _ _ ls hS (by unfold toldM; rw [if_neg c5]; exact hP) (by unfold toldM; rw [if_neg c5]) (by decide) dX9_told_13

theorem in_X9_readEnd_9 : ∀ w ∈ wsX90, w ∈ wsX9_readEnd := fun _ h => List.mem_cons_of_mem _ (List.mem_append_right _ (h))
set_option maxHeartbeats 4000000 in
set_option maxRecDepth 100000 in
theorem kX9_readEnd (l : Launch) (D : va_G) (cI cB : ClassId) (mo q1 q2 q3 q4 q5 q6 q7 q8 : Nat) (th tn : Int32) (sm rm : Int32) (Tp Nw Sn In Pd Rt Rw : Nat → Int32) (n : Nat) (S : MSt) (hn : n ≤ 840) (hSn : S.1 ≤ n) : Wr l D (TY cI cB) yX9_readEnd wsX9_readEnd 2 45 [.ref mo] [(mo, .inr (9, [.int th, .ref q1, .int tn, .int (nI n), .int (nI S.1), .int (nI S.2.1), .int S.2.2.1, .int S.2.2.2.1, .int S.2.2.2.2.1, .int S.2.2.2.2.2.1, .long S.2.2.2.2.2.2.1, .ref q2, .ref q3, .ref q4, .int sm, .ref q5, .ref q6, .ref q7, .ref q8, .int rm])), (q1, .inl (cI, 840, .inl Tp)), (q2, .inl (cI, 240, .inl Nw)), (q3, .inl (cI, 240, .inl S.2.2.2.2.2.2.2)), (q4, .inl (cI, 2880, .inl Sn)), (q5, .inl (cI, 4, .inl In)), (q6, .inl (cI, 500, .inl Pd)), (q7, .inl (cI, 500, .inl Rt)), (q8, .inl (cI, 10000, .inl Rw))] [(mo, .inr (9, [.int th, .ref q1, .int tn, .int (nI n), .int (nI (endM Tp n S).2.1), .int (nI (endM Tp n S).2.2.1), .int (endM Tp n S).2.2.2.1, .int (endM Tp n S).2.2.2.2.1, .int (endM Tp n S).2.2.2.2.2.1, .int (endM Tp n S).2.2.2.2.2.2.1, .long (endM Tp n S).2.2.2.2.2.2.2.1, .ref q2, .ref q3, .ref q4, .int sm, .ref q5, .ref q6, .ref q7, .ref q8, .int rm])), (q1, .inl (cI, 840, .inl Tp)), (q2, .inl (cI, 240, .inl Nw)), (q3, .inl (cI, 240, .inl (endM Tp n S).2.2.2.2.2.2.2.2)), (q4, .inl (cI, 2880, .inl Sn)), (q5, .inl (cI, 4, .inl In)), (q6, .inl (cI, 500, .inl Pd)), (q7, .inl (cI, 500, .inl Rt)), (q8, .inl (cI, 10000, .inl Rw))] (some (.int (endM Tp n S).1)) := by
  refine wr_z (cc := cX9_readEnd) (maxL := 1) (by decide) rfl (Nat.le_of_ble_eq_true rfl) ?_
  intro p_ e_ s_ m_ ar_ be_ me_ co_ ls Q_ A_ hx hb hml hown hts hP hK hD hS hl hret
  have hown : s_.vm.findClass RX9 = some m_.cls := hown
  have hl : lv_has ls 1 [(0, .ref mo)] := hl
  refine lv_aload_n hx hb dX9_readEnd_0 rfl (lv_at hl 0 rfl) ?_
  refine g_get (C := RX9) (T := TX9) (N := 20) (ci := 9) (index := 27) hx hb hts in_X9_readEnd_9 hown hK hP 0 6 rfl rfl (by decide) (List.mem_of_getElem? (i := 1) rfl) rfl dX9_readEnd_1 ?_
  refine lv_iconst (v := 4) hx hb dX9_readEnd_4 (by decide) ?_
  refine lv_icmp_eq (tgt := 14) hx hb dX9_readEnd_5 (by decide) (fun c5 => ?_) (fun c5 => ?_)
  · refine lv_aload_n hx hb dX9_readEnd_14 rfl (lv_at hl 0 rfl) ?_
    refine wp_V (As := []) (rest := []) (ci := 9) (ws' := [(mo, .inr (9, [.int th, .ref q1, .int tn, .int (nI n), .int (nI (goM Tp n S).1), .int (nI (goM Tp n S).2.1), .int (goM Tp n S).2.2.1, .int (goM Tp n S).2.2.2.1, .int (goM Tp n S).2.2.2.2.1, .int (goM Tp n S).2.2.2.2.2.1, .long (goM Tp n S).2.2.2.2.2.2.1, .ref q2, .ref q3, .ref q4, .int sm, .ref q5, .ref q6, .ref q7, .ref q8, .int rm])), (q1, .inl (cI, 840, .inl Tp)), (q2, .inl (cI, 240, .inl Nw)), (q3, .inl (cI, 240, .inl (goM Tp n S).2.2.2.2.2.2.2)), (q4, .inl (cI, 2880, .inl Sn)), (q5, .inl (cI, 4, .inl In)), (q6, .inl (cI, 500, .inl Pd)), (q7, .inl (cI, 500, .inl Rt)), (q8, .inl (cI, 10000, .inl Rw))]) (kX9_go l D cI cB mo q1 q2 q3 q4 q5 q6 q7 q8 th tn sm rm Tp Nw Sn In Pd Rt Rw n S (by assumption) (by assumption)) ⟨hx, hb, hml, hown, hts⟩ (cwV 0 hts gX9_readEnd_X9_go rfl rfl rfl (by decide +kernel) ⟨Nat.le_of_ble_eq_true rfl, Nat.le_of_ble_eq_true rfl⟩) hK hP hD hS [0, 1, 2, 3, 4, 5, 6, 7, 8] [] rfl rfl (two_eq [] rfl rfl) 9 rfl (by decide +kernel) (by decide +kernel) (two_eq [mo, q1, q2, q3, q4, q5, q6, q7, q8] rfl rfl) (by decide +kernel) 0 rfl rfl rfl rfl hl.1 (Nat.le_of_ble_eq_true rfl) dX9_readEnd_15 ⟨Nat.le_refl _, Nat.le_refl _⟩ (fun H_ lc_ hP hD hS => ?_)
    show W p_ l e_ (RM 2 45) s_ m_ ar_ be_ me_ co_ H_ lc_ 0 0 Q_ (F0 m_ 18 ls [])
    refine lv_iconst (v := 1) hx hb dX9_readEnd_18 (by decide) ?_
    exact hret _ _ _ _ ls hS (by unfold endM; rw [if_pos c5]; exact hP) (by unfold endM; rw [if_pos c5]) (by decide) dX9_readEnd_19
  · refine lv_aload_n hx hb dX9_readEnd_8 rfl (lv_at hl 0 rfl) ?_
    refine lv_iconst (v := 1) hx hb dX9_readEnd_9 (by decide) ?_
    refine wp_V (As := [.int 1]) (rest := []) (ci := 9) (ws' := [(mo, .inr (9, [.int th, .ref q1, .int tn, .int (nI n), .int (nI (badM S 1).1), .int (nI (badM S 1).2.1), .int (badM S 1).2.2.1, .int (badM S 1).2.2.2.1, .int (badM S 1).2.2.2.2.1, .int (badM S 1).2.2.2.2.2.1, .long (badM S 1).2.2.2.2.2.2.1, .ref q2, .ref q3, .ref q4, .int sm, .ref q5, .ref q6, .ref q7, .ref q8, .int rm])), (q1, .inl (cI, 840, .inl Tp)), (q2, .inl (cI, 240, .inl Nw)), (q3, .inl (cI, 240, .inl (badM S 1).2.2.2.2.2.2.2)), (q4, .inl (cI, 2880, .inl Sn)), (q5, .inl (cI, 4, .inl In)), (q6, .inl (cI, 500, .inl Pd)), (q7, .inl (cI, 500, .inl Rt)), (q8, .inl (cI, 10000, .inl Rw))]) (kX9_bad l D cI cB mo q1 q2 q3 q4 q5 q6 q7 q8 th tn sm rm Tp Nw Sn In Pd Rt Rw n S 1 ) ⟨hx, hb, hml, hown, hts⟩ (cwV 1 hts gX9_readEnd_X9_bad rfl rfl rfl (by decide +kernel) ⟨Nat.le_of_ble_eq_true rfl, Nat.le_of_ble_eq_true rfl⟩) hK hP hD hS [0, 1, 2, 3, 4, 5, 6, 7, 8] [] rfl rfl (two_eq [] rfl rfl) 9 rfl (by decide +kernel) (by decide +kernel) (two_eq [mo, q1, q2, q3, q4, q5, q6, q7, q8] rfl rfl) (by decide +kernel) 0 rfl rfl rfl rfl hl.1 (Nat.le_of_ble_eq_true rfl) dX9_readEnd_10 ⟨Nat.le_refl _, Nat.le_refl _⟩ (fun H_ lc_ hP hD hS => ?_)
    show W p_ l e_ (RM 2 45) s_ m_ ar_ be_ me_ co_ H_ lc_ 0 0 Q_ (F0 m_ 13 ls [.int 0])
    exact hret _ _ _ _ ls hS (by unfold endM; rw [if_neg c5]; exact hP) (by unfold endM; rw [if_neg c5]) (by decide) dX9_readEnd_13

