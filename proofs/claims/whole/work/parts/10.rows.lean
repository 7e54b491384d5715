theorem in_X5_isFull_5 : ∀ w ∈ wsX50, w ∈ wsX5_isFull := fun _ h => List.mem_cons_of_mem _ (List.mem_append_right _ (h))
set_option maxHeartbeats 4000000 in
set_option maxRecDepth 100000 in
theorem kX5_isFull (l : Launch) (D : va_G) (cI cB : ClassId) (a fa sa N c : Nat) (f g : Nat → Int32) (hc : c ≤ N) (hN : N ≤ 1000) : Rd l D (TY cI cB) yX5_isFull wsX5_isFull 0 0 [.ref a] [(a, .inr (5, [.ref fa, .ref sa, .int (nI c)])), (fa, .inl (cI, N, .inl f)), (sa, .inl (cI, N, .inl g))] (if nI c < nI N then 0 else 1) := by
  refine rd_z (cc := cX5_isFull) (maxL := 1) (by decide) rfl (Nat.le_of_ble_eq_true rfl) ?_
  intro p_ e_ s_ m_ ar_ be_ me_ co_ ls Q_ hx hb hml hown hts hP hK hl hret
  have hown : s_.vm.findClass RX5 = some m_.cls := hown
  have hl : lv_has ls 1 [(0, .ref a)] := hl
  refine lv_aload_n hx hb dX5_isFull_0 rfl (lv_at hl 0 rfl) ?_
  refine g_get (C := RX5) (T := TX5) (N := 3) (ci := 5) (index := 24) hx hb hts in_X5_isFull_5 hown hK hP 0 2 rfl rfl (by decide) (List.mem_of_getElem? (i := 1) rfl) rfl dX5_isFull_1 ?_
  refine lv_aload_n hx hb dX5_isFull_4 rfl (lv_at hl 0 rfl) ?_
  refine g_get (C := RX5) (T := TX5) (N := 3) (ci := 5) (index := 15) hx hb hts in_X5_isFull_5 hown hK hP 0 0 rfl rfl (by decide) (List.mem_of_getElem? (i := 2) rfl) rfl dX5_isFull_5 ?_
  refine va_alen (v := nI N) hx hb hK hP 1 0 rfl rfl rfl dX5_isFull_8 ?_
  refine lv_icmp_lt (tgt := 16) hx hb dX5_isFull_9 (by decide) (fun c9 => ?_) (fun c9 => ?_)
  · refine lv_iconst (v := 0) hx hb dX5_isFull_16 (by decide) ?_
    exact hret _ _ ls (by simp [c9]) (by decide) dX5_isFull_17
  · refine lv_iconst (v := 1) hx hb dX5_isFull_12 (by decide) ?_
    refine lv_goto (tgt := 17) hx hb dX5_isFull_13 (by decide) ?_
    exact hret _ _ ls (by simp [c9]) (by decide) dX5_isFull_17

theorem in_X5_has_5 : ∀ w ∈ wsX50, w ∈ wsX5_has := fun _ h => List.mem_cons_of_mem _ (List.mem_append_right _ (h))
set_option maxHeartbeats 4000000 in
set_option maxRecDepth 100000 in
theorem kX5_has (l : Launch) (D : va_G) (cI cB : ClassId) (a fa sa N c : Nat) (f g : Nat → Int32) (i : Int32) (hc : c ≤ N) (hN : N ≤ 1000) : Rd l D (TY cI cB) yX5_has wsX5_has 0 0 [.ref a, .int i] [(a, .inr (5, [.ref fa, .ref sa, .int (nI c)])), (fa, .inl (cI, N, .inl f)), (sa, .inl (cI, N, .inl g))] (if i < 0 then 0 else if nI c ≤ i then 0 else 1) := by
  refine rd_z (cc := cX5_has) (maxL := 2) (by decide) rfl (Nat.le_of_ble_eq_true rfl) ?_
  intro p_ e_ s_ m_ ar_ be_ me_ co_ ls Q_ hx hb hml hown hts hP hK hl hret
  have hown : s_.vm.findClass RX5 = some m_.cls := hown
  have hl : lv_has ls 2 [(0, .ref a), (1, .int i)] := hl
  refine lv_iload_n hx hb dX5_has_0 rfl (lv_at hl 1 rfl) ?_
  refine lv_if_lt (tgt := 16) hx hb dX5_has_1 (by decide) (fun c1 => ?_) (fun c1 => ?_)
  · refine lv_iconst (v := 0) hx hb dX5_has_16 (by decide) ?_
    exact hret _ _ ls (by simp [c1]) (by decide) dX5_has_17
  · refine lv_iload_n hx hb dX5_has_4 rfl (lv_at hl 1 rfl) ?_
    refine lv_aload_n hx hb dX5_has_5 rfl (lv_at hl 0 rfl) ?_
    refine g_get (C := RX5) (T := TX5) (N := 3) (ci := 5) (index := 24) hx hb hts in_X5_has_5 hown hK hP 0 2 rfl rfl (by decide) (List.mem_of_getElem? (i := 1) rfl) rfl dX5_has_6 ?_
    refine lv_icmp_ge (tgt := 16) hx hb dX5_has_9 (by decide) (fun c9 => ?_) (fun c9 => ?_)
    · refine lv_iconst (v := 0) hx hb dX5_has_16 (by decide) ?_
      exact hret _ _ ls (by simp [c1, c9]) (by decide) dX5_has_17
    · refine lv_iconst (v := 1) hx hb dX5_has_12 (by decide) ?_
      refine lv_goto (tgt := 17) hx hb dX5_has_13 (by decide) ?_
      exact hret _ _ ls (by simp [c1, c9]) (by decide) dX5_has_17

theorem in_X5_first_5 : ∀ w ∈ wsX50, w ∈ wsX5_first := fun _ h => List.mem_cons_of_mem _ (List.mem_append_right _ (h))
set_option maxHeartbeats 4000000 in
set_option maxRecDepth 100000 in
theorem kX5_first (l : Launch) (D : va_G) (cI cB : ClassId) (a fa sa N c : Nat) (f g : Nat → Int32) (i : Int32) (hc : c ≤ N) (hN : N ≤ 1000) : Rd l D (TY cI cB) yX5_first wsX5_first 0 0 [.ref a, .int i] [(a, .inr (5, [.ref fa, .ref sa, .int (nI c)])), (fa, .inl (cI, N, .inl f)), (sa, .inl (cI, N, .inl g))] (rowAt f c i) := by
  refine rd_i (cc := cX5_first) (maxL := 2) (by decide) rfl (Nat.le_of_ble_eq_true rfl) ?_
  intro p_ e_ s_ m_ ar_ be_ me_ co_ ls Q_ hx hb hml hown hts hP hK hl hret
  have hown : s_.vm.findClass RX5 = some m_.cls := hown
  have hl : lv_has ls 2 [(0, .ref a), (1, .int i)] := hl
  refine lv_iload_n hx hb dX5_first_0 rfl (lv_at hl 1 rfl) ?_
  refine lv_if_lt (tgt := 30) hx hb dX5_first_1 (by decide) (fun c1 => ?_) (fun c1 => ?_)
  · refine lv_iconst (v := 0) hx hb dX5_first_30 (by decide) ?_
    exact hret _ _ ls (by simp [rowAt, c1]) dX5_first_31
  · refine lv_iload_n hx hb dX5_first_4 rfl (lv_at hl 1 rfl) ?_
    refine lv_aload_n hx hb dX5_first_5 rfl (lv_at hl 0 rfl) ?_
    refine g_get (C := RX5) (T := TX5) (N := 3) (ci := 5) (index := 24) hx hb hts in_X5_first_5 hown hK hP 0 2 rfl rfl (by decide) (List.mem_of_getElem? (i := 1) rfl) rfl dX5_first_6 ?_
    refine lv_icmp_ge (tgt := 30) hx hb dX5_first_9 (by decide) (fun c9 => ?_) (fun c9 => ?_)
    · refine lv_iconst (v := 0) hx hb dX5_first_30 (by decide) ?_
      exact hret _ _ ls (by simp [rowAt, c1, c9]) dX5_first_31
    · refine lv_iload_n hx hb dX5_first_12 rfl (lv_at hl 1 rfl) ?_
      refine lv_aload_n hx hb dX5_first_13 rfl (lv_at hl 0 rfl) ?_
      refine g_get (C := RX5) (T := TX5) (N := 3) (ci := 5) (index := 15) hx hb hts in_X5_first_5 hown hK hP 0 0 rfl rfl (by decide) (List.mem_of_getElem? (i := 2) rfl) rfl dX5_first_14 ?_
      refine va_alen (v := nI N) hx hb hK hP 1 0 rfl rfl rfl dX5_first_17 ?_
      refine lv_icmp_ge (tgt := 30) hx hb dX5_first_18 (by decide) (fun c18 => absurd c18 (nle_nI c9 hc (by omega))) (fun c18 => ?_)
      refine lv_aload_n hx hb dX5_first_21 rfl (lv_at hl 0 rfl) ?_
      refine g_get (C := RX5) (T := TX5) (N := 3) (ci := 5) (index := 15) hx hb hts in_X5_first_5 hown hK hP 0 0 rfl rfl (by decide) (List.mem_of_getElem? (i := 2) rfl) rfl dX5_first_22 ?_
      refine lv_iload_n hx hb dX5_first_25 rfl (lv_at hl 1 rfl) ?_
      refine va_iald hx hb hK hP 1 0 rfl rfl (in_nI c1 c18 (by omega)) dX5_first_26 ?_
      refine lv_goto (tgt := 31) hx hb dX5_first_27 (by decide) ?_
      exact hret _ _ ls (by simp [rowAt, c1, c9, c18]) dX5_first_31

theorem in_X5_second_5 : ∀ w ∈ wsX50, w ∈ wsX5_second := fun _ h => List.mem_cons_of_mem _ (List.mem_append_right _ (h))
set_option maxHeartbeats 4000000 in
set_option maxRecDepth 100000 in
theorem kX5_second (l : Launch) (D : va_G) (cI cB : ClassId) (a fa sa N c : Nat) (f g : Nat → Int32) (i : Int32) (hc : c ≤ N) (hN : N ≤ 1000) : Rd l D (TY cI cB) yX5_second wsX5_second 0 0 [.ref a, .int i] [(a, .inr (5, [.ref fa, .ref sa, .int (nI c)])), (fa, .inl (cI, N, .inl f)), (sa, .inl (cI, N, .inl g))] (rowAt g c i) := by
  refine rd_i (cc := cX5_second) (maxL := 2) (by decide) rfl (Nat.le_of_ble_eq_true rfl) ?_
  intro p_ e_ s_ m_ ar_ be_ me_ co_ ls Q_ hx hb hml hown hts hP hK hl hret
  have hown : s_.vm.findClass RX5 = some m_.cls := hown
  have hl : lv_has ls 2 [(0, .ref a), (1, .int i)] := hl
  refine lv_iload_n hx hb dX5_second_0 rfl (lv_at hl 1 rfl) ?_
  refine lv_if_lt (tgt := 30) hx hb dX5_second_1 (by decide) (fun c1 => ?_) (fun c1 => ?_)
  · refine lv_iconst (v := 0) hx hb dX5_second_30 (by decide) ?_
    exact hret _ _ ls (by simp [rowAt, c1]) dX5_second_31
  · refine lv_iload_n hx hb dX5_second_4 rfl (lv_at hl 1 rfl) ?_
    refine lv_aload_n hx hb dX5_second_5 rfl (lv_at hl 0 rfl) ?_
    refine g_get (C := RX5) (T := TX5) (N := 3) (ci := 5) (index := 24) hx hb hts in_X5_second_5 hown hK hP 0 2 rfl rfl (by decide) (List.mem_of_getElem? (i := 1) rfl) rfl dX5_second_6 ?_
    refine lv_icmp_ge (tgt := 30) hx hb dX5_second_9 (by decide) (fun c9 => ?_) (fun c9 => ?_)
    · refine lv_iconst (v := 0) hx hb dX5_second_30 (by decide) ?_
      exact hret _ _ ls (by simp [rowAt, c1, c9]) dX5_second_31
    · refine lv_iload_n hx hb dX5_second_12 rfl (lv_at hl 1 rfl) ?_
      refine lv_aload_n hx hb dX5_second_13 rfl (lv_at hl 0 rfl) ?_
      refine g_get (C := RX5) (T := TX5) (N := 3) (ci := 5) (index := 21) hx hb hts in_X5_second_5 hown hK hP 0 1 rfl rfl (by decide) (List.mem_of_getElem? (i := 2) rfl) rfl dX5_second_14 ?_
      refine va_alen (v := nI N) hx hb hK hP 2 0 rfl rfl rfl dX5_second_17 ?_
      refine lv_icmp_ge (tgt := 30) hx hb dX5_second_18 (by decide) (fun c18 => absurd c18 (nle_nI c9 hc (by omega))) (fun c18 => ?_)
      refine lv_aload_n hx hb dX5_second_21 rfl (lv_at hl 0 rfl) ?_
      refine g_get (C := RX5) (T := TX5) (N := 3) (ci := 5) (index := 21) hx hb hts in_X5_second_5 hown hK hP 0 1 rfl rfl (by decide) (List.mem_of_getElem? (i := 2) rfl) rfl dX5_second_22 ?_
      refine lv_iload_n hx hb dX5_second_25 rfl (lv_at hl 1 rfl) ?_
      refine va_iald hx hb hK hP 2 0 rfl rfl (in_nI c1 c18 (by omega)) dX5_second_26 ?_
      refine lv_goto (tgt := 31) hx hb dX5_second_27 (by decide) ?_
      exact hret _ _ ls (by simp [rowAt, c1, c9, c18]) dX5_second_31

theorem in_X5_lastFirst_5 : ∀ w ∈ wsX50, w ∈ wsX5_lastFirst := fun _ h => List.mem_cons_of_mem _ (List.mem_append_right _ (h))
set_option maxHeartbeats 4000000 in
set_option maxRecDepth 100000 in
theorem kX5_lastFirst (l : Launch) (D : va_G) (cI cB : ClassId) (a fa sa N c : Nat) (f g : Nat → Int32) (hc : c ≤ N) (hN : N ≤ 1000) : Rd l D (TY cI cB) yX5_lastFirst wsX5_lastFirst 1 21 [.ref a] [(a, .inr (5, [.ref fa, .ref sa, .int (nI c)])), (fa, .inl (cI, N, .inl f)), (sa, .inl (cI, N, .inl g))] (if nI c ≤ 0 then -1 else rowAt f c (nI c - 1)) := by
  refine rd_i (cc := cX5_lastFirst) (maxL := 1) (by decide) rfl (Nat.le_of_ble_eq_true rfl) ?_
  intro p_ e_ s_ m_ ar_ be_ me_ co_ ls Q_ hx hb hml hown hts hP hK hl hret
  have hown : s_.vm.findClass RX5 = some m_.cls := hown
  have hl : lv_has ls 1 [(0, .ref a)] := hl
  refine lv_aload_n hx hb dX5_lastFirst_0 rfl (lv_at hl 0 rfl) ?_
  refine g_get (C := RX5) (T := TX5) (N := 3) (ci := 5) (index := 24) hx hb hts in_X5_lastFirst_5 hown hK hP 0 2 rfl rfl (by decide) (List.mem_of_getElem? (i := 1) rfl) rfl dX5_lastFirst_1 ?_
  refine lv_if_le (tgt := 20) hx hb dX5_lastFirst_4 (by decide) (fun c4 => ?_) (fun c4 => ?_)
  · refine lv_iconst (v := -1) hx hb dX5_lastFirst_20 (by decide) ?_
    exact hret _ _ ls (by simp [c4]) dX5_lastFirst_21
  · refine lv_aload_n hx hb dX5_lastFirst_7 rfl (lv_at hl 0 rfl) ?_
    refine lv_aload_n hx hb dX5_lastFirst_8 rfl (lv_at hl 0 rfl) ?_
    refine g_get (C := RX5) (T := TX5) (N := 3) (ci := 5) (index := 24) hx hb hts in_X5_lastFirst_5 hown hK hP 0 2 rfl rfl (by decide) (List.mem_of_getElem? (i := 1) rfl) rfl dX5_lastFirst_9 ?_
    refine lv_iconst (v := 1) hx hb dX5_lastFirst_12 (by decide) ?_
    refine lv_isub hx hb dX5_lastFirst_13 ?_
    refine rd_V (As := [.int ((nI c) - 1)]) (rest := []) (ci := 5) (kX5_first l D cI cB a fa sa N c f g ((nI c) - 1) (by omega) (by omega)) ⟨hx, hb, hml, hown, hts⟩ (cwV 1 hts gX5_lastFirst_X5_first rfl rfl rfl (by decide +kernel) ⟨Nat.le_of_ble_eq_true rfl, Nat.le_of_ble_eq_true rfl⟩) hK hP [0, 1, 2] rfl 0 rfl rfl rfl rfl hl.1 (Nat.le_of_ble_eq_true rfl) dX5_lastFirst_14 ⟨Nat.le_refl _, Nat.le_refl _⟩ ?_
    refine lv_goto (tgt := 21) hx hb dX5_lastFirst_17 (by decide) ?_
    exact hret _ _ ls (by simp [c4]) dX5_lastFirst_21

theorem in_X5_lastSecond_5 : ∀ w ∈ wsX50, w ∈ wsX5_lastSecond := fun _ h => List.mem_cons_of_mem _ (List.mem_append_right _ (h))
set_option maxHeartbeats 4000000 in
set_option maxRecDepth 100000 in
theorem kX5_lastSecond (l : Launch) (D : va_G) (cI cB : ClassId) (a fa sa N c : Nat) (f g : Nat → Int32) (hc : c ≤ N) (hN : N ≤ 1000) : Rd l D (TY cI cB) yX5_lastSecond wsX5_lastSecond 1 21 [.ref a] [(a, .inr (5, [.ref fa, .ref sa, .int (nI c)])), (fa, .inl (cI, N, .inl f)), (sa, .inl (cI, N, .inl g))] (if nI c ≤ 0 then -1 else rowAt g c (nI c - 1)) := by
  refine rd_i (cc := cX5_lastSecond) (maxL := 1) (by decide) rfl (Nat.le_of_ble_eq_true rfl) ?_
  intro p_ e_ s_ m_ ar_ be_ me_ co_ ls Q_ hx hb hml hown hts hP hK hl hret
  have hown : s_.vm.findClass RX5 = some m_.cls := hown
  have hl : lv_has ls 1 [(0, .ref a)] := hl
  refine lv_aload_n hx hb dX5_lastSecond_0 rfl (lv_at hl 0 rfl) ?_
  refine g_get (C := RX5) (T := TX5) (N := 3) (ci := 5) (index := 24) hx hb hts in_X5_lastSecond_5 hown hK hP 0 2 rfl rfl (by decide) (List.mem_of_getElem? (i := 1) rfl) rfl dX5_lastSecond_1 ?_
  refine lv_if_le (tgt := 20) hx hb dX5_lastSecond_4 (by decide) (fun c4 => ?_) (fun c4 => ?_)
  · refine lv_iconst (v := -1) hx hb dX5_lastSecond_20 (by decide) ?_
    exact hret _ _ ls (by simp [c4]) dX5_lastSecond_21
  · refine lv_aload_n hx hb dX5_lastSecond_7 rfl (lv_at hl 0 rfl) ?_
    refine lv_aload_n hx hb dX5_lastSecond_8 rfl (lv_at hl 0 rfl) ?_
    refine g_get (C := RX5) (T := TX5) (N := 3) (ci := 5) (index := 24) hx hb hts in_X5_lastSecond_5 hown hK hP 0 2 rfl rfl (by decide) (List.mem_of_getElem? (i := 1) rfl) rfl dX5_lastSecond_9 ?_
    refine lv_iconst (v := 1) hx hb dX5_lastSecond_12 (by decide) ?_
    refine lv_isub hx hb dX5_lastSecond_13 ?_
    refine rd_V (As := [.int ((nI c) - 1)]) (rest := []) (ci := 5) (kX5_second l D cI cB a fa sa N c f g ((nI c) - 1) (by omega) (by omega)) ⟨hx, hb, hml, hown, hts⟩ (cwV 1 hts gX5_lastSecond_X5_second rfl rfl rfl (by decide +kernel) ⟨Nat.le_of_ble_eq_true rfl, Nat.le_of_ble_eq_true rfl⟩) hK hP [0, 1, 2] rfl 0 rfl rfl rfl rfl hl.1 (Nat.le_of_ble_eq_true rfl) dX5_lastSecond_14 ⟨Nat.le_refl _, Nat.le_refl _⟩ ?_
    refine lv_goto (tgt := 21) hx hb dX5_lastSecond_17 (by decide) ?_
    exact hret _ _ ls (by simp [c4]) dX5_lastSecond_21

theorem in_X5_add_5 : ∀ w ∈ wsX50, w ∈ wsX5_add := fun _ h => List.mem_cons_of_mem _ (List.mem_append_right _ (h))
set_option maxHeartbeats 4000000 in
set_option maxRecDepth 100000 in
theorem kX5_add (l : Launch) (D : va_G) (cI cB : ClassId) (a fa sa N c : Nat) (f g : Nat → Int32) (x y : Int32) (hc : c < N) (hN : N ≤ 1000) : Wr l D (TY cI cB) yX5_add wsX5_add 0 0 [.ref a, .int x, .int y] [(a, .inr (5, [.ref fa, .ref sa, .int (nI c)])), (fa, .inl (cI, N, .inl f)), (sa, .inl (cI, N, .inl g))] [(a, .inr (5, [.ref fa, .ref sa, .int (nI (c + 1))])), (fa, .inl (cI, N, .inl (upd f c x))), (sa, .inl (cI, N, .inl (upd g c y)))] none := by
  refine wr_v (cc := cX5_add) (maxL := 3) (by decide) rfl (Nat.le_of_ble_eq_true rfl) ?_
  intro p_ e_ s_ m_ ar_ be_ me_ co_ ls Q_ A_ hx hb hml hown hts hP hK hD hS hl hret
  have hown : s_.vm.findClass RX5 = some m_.cls := hown
  have hl : lv_has ls 3 [(0, .ref a), (1, .int x), (2, .int y)] := hl
  refine lv_aload_n hx hb dX5_add_0 rfl (lv_at hl 0 rfl) ?_
  refine g_get (C := RX5) (T := TX5) (N := 3) (ci := 5) (index := 24) hx hb hts in_X5_add_5 hown hK hP 0 2 rfl rfl (by decide) (List.mem_of_getElem? (i := 1) rfl) rfl dX5_add_1 ?_
  refine lv_if_lt (tgt := 61) hx hb dX5_add_4 (by decide) (fun c4 => absurd c4 (nI_pos (by omega))) (fun c4 => ?_)
  refine lv_aload_n hx hb dX5_add_7 rfl (lv_at hl 0 rfl) ?_
  refine g_get (C := RX5) (T := TX5) (N := 3) (ci := 5) (index := 24) hx hb hts in_X5_add_5 hown hK hP 0 2 rfl rfl (by decide) (List.mem_of_getElem? (i := 1) rfl) rfl dX5_add_8 ?_
  refine lv_aload_n hx hb dX5_add_11 rfl (lv_at hl 0 rfl) ?_
  refine g_get (C := RX5) (T := TX5) (N := 3) (ci := 5) (index := 15) hx hb hts in_X5_add_5 hown hK hP 0 0 rfl rfl (by decide) (List.mem_of_getElem? (i := 2) rfl) rfl dX5_add_12 ?_
  refine va_alen (v := nI N) hx hb hK hP 1 0 rfl rfl rfl dX5_add_15 ?_
  refine lv_icmp_ge (tgt := 61) hx hb dX5_add_16 (by decide) (fun c16 => absurd c16 (nI_ge hc (by omega))) (fun c16 => ?_)
  refine lv_aload_n hx hb dX5_add_19 rfl (lv_at hl 0 rfl) ?_
  refine g_get (C := RX5) (T := TX5) (N := 3) (ci := 5) (index := 24) hx hb hts in_X5_add_5 hown hK hP 0 2 rfl rfl (by decide) (List.mem_of_getElem? (i := 1) rfl) rfl dX5_add_20 ?_
  refine lv_aload_n hx hb dX5_add_23 rfl (lv_at hl 0 rfl) ?_
  refine g_get (C := RX5) (T := TX5) (N := 3) (ci := 5) (index := 21) hx hb hts in_X5_add_5 hown hK hP 0 1 rfl rfl (by decide) (List.mem_of_getElem? (i := 3) rfl) rfl dX5_add_24 ?_
  refine va_alen (v := nI N) hx hb hK hP 2 0 rfl rfl rfl dX5_add_27 ?_
  refine lv_icmp_ge (tgt := 61) hx hb dX5_add_28 (by decide) (fun c28 => absurd c28 (nI_ge hc (by omega))) (fun c28 => ?_)
  refine lv_aload_n hx hb dX5_add_31 rfl (lv_at hl 0 rfl) ?_
  refine g_get (C := RX5) (T := TX5) (N := 3) (ci := 5) (index := 15) hx hb hts in_X5_add_5 hown hK hP 0 0 rfl rfl (by decide) (List.mem_of_getElem? (i := 2) rfl) rfl dX5_add_32 ?_
  refine lv_aload_n hx hb dX5_add_35 rfl (lv_at hl 0 rfl) ?_
  refine g_get (C := RX5) (T := TX5) (N := 3) (ci := 5) (index := 24) hx hb hts in_X5_add_5 hown hK hP 0 2 rfl rfl (by decide) (List.mem_of_getElem? (i := 1) rfl) rfl dX5_add_36 ?_
  refine lv_iload_n hx hb dX5_add_39 rfl (lv_at hl 1 rfl) ?_
  refine g_iast hx hb hK hP hD hS 1 0 rfl rfl c (rfl) (by omega) (by omega) dX5_add_40 (fun H_ lc_ hP hD hS => ?_)
  have hP : va_P D vwCl [(a, .inr (5, [.ref fa, .ref sa, .int (nI c)])), (fa, .inl (cI, N, .inl (upd f c x))), (sa, .inl (cI, N, .inl g))] H_ := hP
  have hD : va_D A_ [(a, .inr (5, [.ref fa, .ref sa, .int (nI c)])), (fa, .inl (cI, N, .inl (upd f c x))), (sa, .inl (cI, N, .inl g))] := hD
  refine lv_aload_n hx hb dX5_add_41 rfl (lv_at hl 0 rfl) ?_
  refine g_get (C := RX5) (T := TX5) (N := 3) (ci := 5) (index := 21) hx hb hts in_X5_add_5 hown hK hP 0 1 rfl rfl (by decide) (List.mem_of_getElem? (i := 3) rfl) rfl dX5_add_42 ?_
  refine lv_aload_n hx hb dX5_add_45 rfl (lv_at hl 0 rfl) ?_
  refine g_get (C := RX5) (T := TX5) (N := 3) (ci := 5) (index := 24) hx hb hts in_X5_add_5 hown hK hP 0 2 rfl rfl (by decide) (List.mem_of_getElem? (i := 1) rfl) rfl dX5_add_46 ?_
  refine lv_iload_n hx hb dX5_add_49 rfl (lv_at hl 2 rfl) ?_
  refine g_iast hx hb hK hP hD hS 2 0 rfl rfl c (rfl) (by omega) (by omega) dX5_add_50 (fun H_ lc_ hP hD hS => ?_)
  have hP : va_P D vwCl [(a, .inr (5, [.ref fa, .ref sa, .int (nI c)])), (fa, .inl (cI, N, .inl (upd f c x))), (sa, .inl (cI, N, .inl (upd g c y)))] H_ := hP
  have hD : va_D A_ [(a, .inr (5, [.ref fa, .ref sa, .int (nI c)])), (fa, .inl (cI, N, .inl (upd f c x))), (sa, .inl (cI, N, .inl (upd g c y)))] := hD
  refine lv_aload_n hx hb dX5_add_51 rfl (lv_at hl 0 rfl) ?_
  refine lv_dup hx hb dX5_add_52 rfl ?_
  refine g_get (C := RX5) (T := TX5) (N := 3) (ci := 5) (index := 24) hx hb hts in_X5_add_5 hown hK hP 0 2 rfl rfl (by decide) (List.mem_of_getElem? (i := 1) rfl) rfl dX5_add_53 ?_
  refine lv_iconst (v := 1) hx hb dX5_add_56 (by decide) ?_
  refine lv_iadd hx hb dX5_add_57 ?_
  rw [show ((nI c) + 1 : Int32) = nI (c + 1) from nI_1 c]
  refine g_put (C := RX5) (T := TX5) (N := 3) (ci := 5) (index := 24) (v := .int (nI (c + 1))) (ws' := [(a, .inr (5, [.ref fa, .ref sa, .int (nI (c + 1))])), (fa, .inl (cI, N, .inl (upd f c x))), (sa, .inl (cI, N, .inl (upd g c y)))]) hx hb hts in_X5_add_5 tyX5 tyX5_ok nmX5 hown hK hP hD hS 0 2 rfl rfl (by decide) (List.mem_of_getElem? (i := 1) rfl) rfl rfl rfl (Nat.le_of_ble_eq_true rfl) dX5_add_58 rfl (fun H_ lc_ hP hD hS => ?_)
  exact hret _ _ _ ls hS (hP) dX5_add_61

theorem in_X5_dropLast_5 : ∀ w ∈ wsX50, w ∈ wsX5_dropLast := fun _ h => List.mem_cons_of_mem _ (List.mem_append_right _ (h))
set_option maxHeartbeats 4000000 in
set_option maxRecDepth 100000 in
theorem kX5_dropLast (l : Launch) (D : va_G) (cI cB : ClassId) (a fa sa N c : Nat) (f g : Nat → Int32) (hc : c < N) (hN : N ≤ 1000) : Wr l D (TY cI cB) yX5_dropLast wsX5_dropLast 1 21 [.ref a] [(a, .inr (5, [.ref fa, .ref sa, .int (nI (c + 1))])), (fa, .inl (cI, N, .inl f)), (sa, .inl (cI, N, .inl g))] [(a, .inr (5, [.ref fa, .ref sa, .int (nI c)])), (fa, .inl (cI, N, .inl f)), (sa, .inl (cI, N, .inl g))] none := by
  refine wr_v (cc := cX5_dropLast) (maxL := 1) (by decide) rfl (Nat.le_of_ble_eq_true rfl) ?_
  intro p_ e_ s_ m_ ar_ be_ me_ co_ ls Q_ A_ hx hb hml hown hts hP hK hD hS hl hret
  have hown : s_.vm.findClass RX5 = some m_.cls := hown
  have hl : lv_has ls 1 [(0, .ref a)] := hl
  refine lv_aload_n hx hb dX5_dropLast_0 rfl (lv_at hl 0 rfl) ?_
  refine lv_iconst (v := 0) hx hb dX5_dropLast_1 (by decide) ?_
  refine lv_aload_n hx hb dX5_dropLast_2 rfl (lv_at hl 0 rfl) ?_
  refine g_get (C := RX5) (T := TX5) (N := 3) (ci := 5) (index := 24) hx hb hts in_X5_dropLast_5 hown hK hP 0 2 rfl rfl (by decide) (List.mem_of_getElem? (i := 1) rfl) rfl dX5_dropLast_3 ?_
  refine lv_iconst (v := 1) hx hb dX5_dropLast_6 (by decide) ?_
  refine lv_isub hx hb dX5_dropLast_7 ?_
  rw [show ((nI (c + 1)) - 1 : Int32) = nI c from nI_pred c]
  refine va_mmax hx hb (hml.trans hl.1.symm) hown (hts (.methodLink RX5 9 Lib.Math.max.name) (List.mem_of_getElem? (i := 2) rfl)) (hts (.static Lib.Math.max.name) (List.mem_of_getElem? (i := 3) rfl)) (hts (.initialized "java/lang/Math") (List.mem_of_getElem? (i := 4) rfl)) (hts (.code Lib.Math.max.name Lib.Math.max.code 2 (some .int)) (List.mem_of_getElem? (i := 5) rfl)) (Nat.le_of_ble_eq_true rfl) (Nat.le_of_ble_eq_true rfl) (Nat.le_refl _) (Nat.le_refl _) dX5_dropLast_8 ?_
  rw [show (if 0 < (nI c) then (nI c) else 0 : Int32) = max32 0 (nI c) from rfl]
  rw [show (max32 0 (nI c) : Int32) = nI c from max0_nI c (by omega)]
  refine g_put (C := RX5) (T := TX5) (N := 3) (ci := 5) (index := 24) (v := .int (nI c)) (ws' := [(a, .inr (5, [.ref fa, .ref sa, .int (nI c)])), (fa, .inl (cI, N, .inl f)), (sa, .inl (cI, N, .inl g))]) hx hb hts in_X5_dropLast_5 tyX5 tyX5_ok nmX5 hown hK hP hD hS 0 2 rfl rfl (by decide) (List.mem_of_getElem? (i := 1) rfl) rfl rfl rfl (Nat.le_of_ble_eq_true rfl) dX5_dropLast_11 rfl (fun H_ lc_ hP hD hS => ?_)
  exact hret _ _ _ ls hS (hP) dX5_dropLast_14

theorem in_X5_sumUpTo_5 : ∀ w ∈ wsX50, w ∈ wsX5_sumUpTo := fun _ h => List.mem_cons_of_mem _ (List.mem_append_right _ (h))
set_option maxHeartbeats 4000000 in
set_option maxRecDepth 100000 in
theorem kX5_sumUpTo (l : Launch) (D : va_G) (cI cB : ClassId) (a fa sa N c : Nat) (f g : Nat → Int32) (most : Int32) (hc : c ≤ N) (hN : N ≤ 1000) : Rd l D (TY cI cB) yX5_sumUpTo wsX5_sumUpTo 0 0 [.ref a, .int most] [(a, .inr (5, [.ref fa, .ref sa, .int (nI c)])), (fa, .inl (cI, N, .inl f)), (sa, .inl (cI, N, .inl g))] (sumUp f g most c) := by
  refine rd_i (cc := cX5_sumUpTo) (maxL := 4) (by decide) rfl (Nat.le_of_ble_eq_true rfl) ?_
  intro p_ e_ s_ m_ ar_ be_ me_ co_ ls Q_ hx hb hml hown hts hP hK hl hret
  have hown : s_.vm.findClass RX5 = some m_.cls := hown
  have hl : lv_has ls 4 [(0, .ref a), (1, .int most)] := hl
  refine lv_iconst (v := 0) hx hb dX5_sumUpTo_0 (by decide) ?_
  refine lv_istore_n (lv' := [(2, .int 0), (0, .ref a), (1, .int most)]) hx hb dX5_sumUpTo_1 rfl hl (by decide) rfl (fun ls hl => ?_)
  refine lv_iconst (v := 0) hx hb dX5_sumUpTo_2 (by decide) ?_
  refine lv_istore_n (lv' := [(3, .int 0), (2, .int 0), (0, .ref a), (1, .int most)]) hx hb dX5_sumUpTo_3 rfl hl (by decide) rfl (fun ls hl => ?_)
  have L4 : ∀ (nn_ : Nat) (i : Nat) (hi : i ≤ c) (xx_v2 : Int32) (xx_v3 : Int32), (c - i) < nn_ → xx_v2 = sumUp f g most i → xx_v3 = nI i → ∀ (ls : Array Slot), lv_has ls 4 [(0, .ref a), (1, .int most), (2, .int xx_v2), (3, .int xx_v3)] → W p_ l e_ (RM 0 0) s_ m_ ar_ be_ me_ co_ s_.heap [] 0 0 Q_ (F0 m_ 4 ls []) := by
    intro nn_
    induction nn_ with
    | zero => intro i hi xx_v2 xx_v3 hn_; exact absurd hn_ (Nat.not_lt_zero _)
    | succ nn_ ih4 =>
      intro i hi xx_v2 xx_v3 hn_ e_xx_v2 e_xx_v3 ls hl
      subst e_xx_v2 e_xx_v3
      refine lv_iload_n hx hb dX5_sumUpTo_4 rfl (lv_at hl 3 rfl) ?_
      refine lv_aload_n hx hb dX5_sumUpTo_5 rfl (lv_at hl 0 rfl) ?_
      refine g_get (C := RX5) (T := TX5) (N := 3) (ci := 5) (index := 24) hx hb hts in_X5_sumUpTo_5 hown hK hP 0 2 rfl rfl (by decide) (List.mem_of_getElem? (i := 1) rfl) rfl dX5_sumUpTo_6 ?_
      refine lv_icmp_ge (tgt := 55) hx hb dX5_sumUpTo_9 (by decide) (fun c9 => ?_) (fun c9 => ?_)
      · refine lv_iload_n hx hb dX5_sumUpTo_55 rfl (lv_at hl 2 rfl) ?_
        exact hret _ _ ls (by have q := ge_nI c9 (by omega) (by omega); rw [show i = c by omega]) dX5_sumUpTo_56
      · have hlt : i < c := lt_nI c9 (by omega) (by omega)
        refine lv_iload_n hx hb dX5_sumUpTo_12 rfl (lv_at hl 3 rfl) ?_
        refine lv_aload_n hx hb dX5_sumUpTo_13 rfl (lv_at hl 0 rfl) ?_
        refine g_get (C := RX5) (T := TX5) (N := 3) (ci := 5) (index := 15) hx hb hts in_X5_sumUpTo_5 hown hK hP 0 0 rfl rfl (by decide) (List.mem_of_getElem? (i := 2) rfl) rfl dX5_sumUpTo_14 ?_
        refine va_alen (v := nI N) hx hb hK hP 1 0 rfl rfl rfl dX5_sumUpTo_17 ?_
        refine lv_icmp_ge (tgt := 55) hx hb dX5_sumUpTo_18 (by decide) (fun c18 => absurd c18 (nI_ge (by omega) (by omega))) (fun c18 => ?_)
        refine lv_iload_n hx hb dX5_sumUpTo_21 rfl (lv_at hl 3 rfl) ?_
        refine lv_aload_n hx hb dX5_sumUpTo_22 rfl (lv_at hl 0 rfl) ?_
        refine g_get (C := RX5) (T := TX5) (N := 3) (ci := 5) (index := 21) hx hb hts in_X5_sumUpTo_5 hown hK hP 0 1 rfl rfl (by decide) (List.mem_of_getElem? (i := 3) rfl) rfl dX5_sumUpTo_23 ?_
        refine va_alen (v := nI N) hx hb hK hP 2 0 rfl rfl rfl dX5_sumUpTo_26 ?_
        refine lv_icmp_ge (tgt := 55) hx hb dX5_sumUpTo_27 (by decide) (fun c27 => absurd c27 (nI_ge (by omega) (by omega))) (fun c27 => ?_)
        refine lv_aload_n hx hb dX5_sumUpTo_30 rfl (lv_at hl 0 rfl) ?_
        refine g_get (C := RX5) (T := TX5) (N := 3) (ci := 5) (index := 15) hx hb hts in_X5_sumUpTo_5 hown hK hP 0 0 rfl rfl (by decide) (List.mem_of_getElem? (i := 2) rfl) rfl dX5_sumUpTo_31 ?_
        refine lv_iload_n hx hb dX5_sumUpTo_34 rfl (lv_at hl 3 rfl) ?_
        refine g_iald hx hb hK hP 1 0 rfl rfl i (rfl) (by omega) (by omega) dX5_sumUpTo_35 ?_
        refine lv_iload_n hx hb dX5_sumUpTo_36 rfl (lv_at hl 1 rfl) ?_
        refine lv_icmp_gt (tgt := 49) hx hb dX5_sumUpTo_37 (by decide) (fun c37 => ?_) (fun c37 => ?_)
        · refine lv_iinc (v := nI (i + 1)) (lv' := [(3, .int (nI (i + 1))), (0, .ref a), (1, .int most), (2, .int (sumUp f g most i))]) hx hb dX5_sumUpTo_49 hl (k := 3) rfl (nI_add _ 1) (by decide) rfl (fun ls hl => ?_)
          refine lv_goto (tgt := 4) hx hb dX5_sumUpTo_52 (by decide) ?_
          exact ih4 (i + 1) (by omega) _ _ (by omega) (by simp [sumUp, c9, c18, c27, c37]) (rfl) ls (lv_sub hl [1, 2, 3, 0] rfl)
        · refine lv_iload_n hx hb dX5_sumUpTo_40 rfl (lv_at hl 2 rfl) ?_
          refine lv_aload_n hx hb dX5_sumUpTo_41 rfl (lv_at hl 0 rfl) ?_
          refine g_get (C := RX5) (T := TX5) (N := 3) (ci := 5) (index := 21) hx hb hts in_X5_sumUpTo_5 hown hK hP 0 1 rfl rfl (by decide) (List.mem_of_getElem? (i := 3) rfl) rfl dX5_sumUpTo_42 ?_
          refine lv_iload_n hx hb dX5_sumUpTo_45 rfl (lv_at hl 3 rfl) ?_
          refine g_iald hx hb hK hP 2 0 rfl rfl i (rfl) (by omega) (by omega) dX5_sumUpTo_46 ?_
          refine lv_iadd hx hb dX5_sumUpTo_47 ?_
          refine lv_istore_n (lv' := [(2, .int ((sumUp f g most i) + (g i))), (0, .ref a), (1, .int most), (3, .int (nI i))]) hx hb dX5_sumUpTo_48 rfl hl (by decide) rfl (fun ls hl => ?_)
          refine lv_iinc (v := nI (i + 1)) (lv' := [(3, .int (nI (i + 1))), (2, .int ((sumUp f g most i) + (g i))), (0, .ref a), (1, .int most)]) hx hb dX5_sumUpTo_49 hl (k := 3) rfl (nI_add _ 1) (by decide) rfl (fun ls hl => ?_)
          refine lv_goto (tgt := 4) hx hb dX5_sumUpTo_52 (by decide) ?_
          exact ih4 (i + 1) (by omega) _ _ (by omega) (by simp [sumUp, c9, c18, c27, c37]) (rfl) ls (lv_sub hl [2, 3, 1, 0] rfl)
  exact L4 (c - 0 + 1) 0 (by omega) _ _ (Nat.lt_succ_self _) (rfl) (nI_0.symm) ls (lv_sub hl [2, 3, 1, 0] rfl)

theorem in_X5_latestUpTo_5 : ∀ w ∈ wsX50, w ∈ wsX5_latestUpTo := fun _ h => List.mem_cons_of_mem _ (List.mem_append_right _ (h))
set_option maxHeartbeats 4000000 in
set_option maxRecDepth 100000 in
theorem kX5_latestUpTo (l : Launch) (D : va_G) (cI cB : ClassId) (a fa sa N c : Nat) (f g : Nat → Int32) (most : Int32) (hc : c ≤ N) (hN : N ≤ 1000) : Rd l D (TY cI cB) yX5_latestUpTo wsX5_latestUpTo 0 0 [.ref a, .int most] [(a, .inr (5, [.ref fa, .ref sa, .int (nI c)])), (fa, .inl (cI, N, .inl f)), (sa, .inl (cI, N, .inl g))] (latUp f g most c) := by
  refine rd_i (cc := cX5_latestUpTo) (maxL := 4) (by decide) rfl (Nat.le_of_ble_eq_true rfl) ?_
  intro p_ e_ s_ m_ ar_ be_ me_ co_ ls Q_ hx hb hml hown hts hP hK hl hret
  have hown : s_.vm.findClass RX5 = some m_.cls := hown
  have hl : lv_has ls 4 [(0, .ref a), (1, .int most)] := hl
  refine lv_iconst (v := 0) hx hb dX5_latestUpTo_0 (by decide) ?_
  refine lv_istore_n (lv' := [(2, .int 0), (0, .ref a), (1, .int most)]) hx hb dX5_latestUpTo_1 rfl hl (by decide) rfl (fun ls hl => ?_)
  refine lv_iconst (v := 0) hx hb dX5_latestUpTo_2 (by decide) ?_
  refine lv_istore_n (lv' := [(3, .int 0), (2, .int 0), (0, .ref a), (1, .int most)]) hx hb dX5_latestUpTo_3 rfl hl (by decide) rfl (fun ls hl => ?_)
  have L4 : ∀ (nn_ : Nat) (i : Nat) (hi : i ≤ c) (xx_v2 : Int32) (xx_v3 : Int32), (c - i) < nn_ → xx_v2 = latUp f g most i → xx_v3 = nI i → ∀ (ls : Array Slot), lv_has ls 4 [(0, .ref a), (1, .int most), (2, .int xx_v2), (3, .int xx_v3)] → W p_ l e_ (RM 0 0) s_ m_ ar_ be_ me_ co_ s_.heap [] 0 0 Q_ (F0 m_ 4 ls []) := by
    intro nn_
    induction nn_ with
    | zero => intro i hi xx_v2 xx_v3 hn_; exact absurd hn_ (Nat.not_lt_zero _)
    | succ nn_ ih4 =>
      intro i hi xx_v2 xx_v3 hn_ e_xx_v2 e_xx_v3 ls hl
      subst e_xx_v2 e_xx_v3
      refine lv_iload_n hx hb dX5_latestUpTo_4 rfl (lv_at hl 3 rfl) ?_
      refine lv_aload_n hx hb dX5_latestUpTo_5 rfl (lv_at hl 0 rfl) ?_
      refine g_get (C := RX5) (T := TX5) (N := 3) (ci := 5) (index := 24) hx hb hts in_X5_latestUpTo_5 hown hK hP 0 2 rfl rfl (by decide) (List.mem_of_getElem? (i := 1) rfl) rfl dX5_latestUpTo_6 ?_
      refine lv_icmp_ge (tgt := 53) hx hb dX5_latestUpTo_9 (by decide) (fun c9 => ?_) (fun c9 => ?_)
      · refine lv_iload_n hx hb dX5_latestUpTo_53 rfl (lv_at hl 2 rfl) ?_
        exact hret _ _ ls (by have q := ge_nI c9 (by omega) (by omega); rw [show i = c by omega]) dX5_latestUpTo_54
      · have hlt : i < c := lt_nI c9 (by omega) (by omega)
        refine lv_iload_n hx hb dX5_latestUpTo_12 rfl (lv_at hl 3 rfl) ?_
        refine lv_aload_n hx hb dX5_latestUpTo_13 rfl (lv_at hl 0 rfl) ?_
        refine g_get (C := RX5) (T := TX5) (N := 3) (ci := 5) (index := 15) hx hb hts in_X5_latestUpTo_5 hown hK hP 0 0 rfl rfl (by decide) (List.mem_of_getElem? (i := 2) rfl) rfl dX5_latestUpTo_14 ?_
        refine va_alen (v := nI N) hx hb hK hP 1 0 rfl rfl rfl dX5_latestUpTo_17 ?_
        refine lv_icmp_ge (tgt := 53) hx hb dX5_latestUpTo_18 (by decide) (fun c18 => absurd c18 (nI_ge (by omega) (by omega))) (fun c18 => ?_)
        refine lv_iload_n hx hb dX5_latestUpTo_21 rfl (lv_at hl 3 rfl) ?_
        refine lv_aload_n hx hb dX5_latestUpTo_22 rfl (lv_at hl 0 rfl) ?_
        refine g_get (C := RX5) (T := TX5) (N := 3) (ci := 5) (index := 21) hx hb hts in_X5_latestUpTo_5 hown hK hP 0 1 rfl rfl (by decide) (List.mem_of_getElem? (i := 3) rfl) rfl dX5_latestUpTo_23 ?_
        refine va_alen (v := nI N) hx hb hK hP 2 0 rfl rfl rfl dX5_latestUpTo_26 ?_
        refine lv_icmp_ge (tgt := 53) hx hb dX5_latestUpTo_27 (by decide) (fun c27 => absurd c27 (nI_ge (by omega) (by omega))) (fun c27 => ?_)
        refine lv_aload_n hx hb dX5_latestUpTo_30 rfl (lv_at hl 0 rfl) ?_
        refine g_get (C := RX5) (T := TX5) (N := 3) (ci := 5) (index := 15) hx hb hts in_X5_latestUpTo_5 hown hK hP 0 0 rfl rfl (by decide) (List.mem_of_getElem? (i := 2) rfl) rfl dX5_latestUpTo_31 ?_
        refine lv_iload_n hx hb dX5_latestUpTo_34 rfl (lv_at hl 3 rfl) ?_
        refine g_iald hx hb hK hP 1 0 rfl rfl i (rfl) (by omega) (by omega) dX5_latestUpTo_35 ?_
        refine lv_iload_n hx hb dX5_latestUpTo_36 rfl (lv_at hl 1 rfl) ?_
        refine lv_icmp_gt (tgt := 47) hx hb dX5_latestUpTo_37 (by decide) (fun c37 => ?_) (fun c37 => ?_)
        · refine lv_iinc (v := nI (i + 1)) (lv' := [(3, .int (nI (i + 1))), (0, .ref a), (1, .int most), (2, .int (latUp f g most i))]) hx hb dX5_latestUpTo_47 hl (k := 3) rfl (nI_add _ 1) (by decide) rfl (fun ls hl => ?_)
          refine lv_goto (tgt := 4) hx hb dX5_latestUpTo_50 (by decide) ?_
          exact ih4 (i + 1) (by omega) _ _ (by omega) (by simp [latUp, c9, c18, c27, c37]) (rfl) ls (lv_sub hl [1, 2, 3, 0] rfl)
        · refine lv_aload_n hx hb dX5_latestUpTo_40 rfl (lv_at hl 0 rfl) ?_
          refine g_get (C := RX5) (T := TX5) (N := 3) (ci := 5) (index := 21) hx hb hts in_X5_latestUpTo_5 hown hK hP 0 1 rfl rfl (by decide) (List.mem_of_getElem? (i := 3) rfl) rfl dX5_latestUpTo_41 ?_
          refine lv_iload_n hx hb dX5_latestUpTo_44 rfl (lv_at hl 3 rfl) ?_
          refine g_iald hx hb hK hP 2 0 rfl rfl i (rfl) (by omega) (by omega) dX5_latestUpTo_45 ?_
          refine lv_istore_n (lv' := [(2, .int (g i)), (0, .ref a), (1, .int most), (3, .int (nI i))]) hx hb dX5_latestUpTo_46 rfl hl (by decide) rfl (fun ls hl => ?_)
          refine lv_iinc (v := nI (i + 1)) (lv' := [(3, .int (nI (i + 1))), (2, .int (g i)), (0, .ref a), (1, .int most)]) hx hb dX5_latestUpTo_47 hl (k := 3) rfl (nI_add _ 1) (by decide) rfl (fun ls hl => ?_)
          refine lv_goto (tgt := 4) hx hb dX5_latestUpTo_50 (by decide) ?_
          exact ih4 (i + 1) (by omega) _ _ (by omega) (by simp [latUp, c9, c18, c27, c37]) (rfl) ls (lv_sub hl [2, 3, 1, 0] rfl)
  exact L4 (c - 0 + 1) 0 (by omega) _ _ (Nat.lt_succ_self _) (rfl) (nI_0.symm) ls (lv_sub hl [2, 3, 1, 0] rfl)

theorem in_X5_takeOver_5 : ∀ w ∈ wsX50, w ∈ wsX5_takeOver := fun _ h => List.mem_cons_of_mem _ (List.mem_append_right _ (h))
set_option maxHeartbeats 4000000 in
set_option maxRecDepth 100000 in
theorem kX5_takeOver (l : Launch) (D : va_G) (cI cB : ClassId) (a fa sa N c b fb sb d : Nat) (f g f2 g2 : Nat → Int32) (hd : d ≤ N) (hN : N ≤ 1000) : Wr l D (TY cI cB) yX5_takeOver wsX5_takeOver 1 22 [.ref a, .ref b] [(a, .inr (5, [.ref fa, .ref sa, .int (nI c)])), (fa, .inl (cI, N, .inl f)), (sa, .inl (cI, N, .inl g)), (b, .inr (5, [.ref fb, .ref sb, .int (nI d)])), (fb, .inl (cI, N, .inl f2)), (sb, .inl (cI, N, .inl g2))] [(a, .inr (5, [.ref fa, .ref sa, .int (nI d)])), (fa, .inl (cI, N, .inl (ov f2 f d))), (sa, .inl (cI, N, .inl (ov g2 g d))), (b, .inr (5, [.ref fb, .ref sb, .int (nI d)])), (fb, .inl (cI, N, .inl f2)), (sb, .inl (cI, N, .inl g2))] none := by
  refine wr_v (cc := cX5_takeOver) (maxL := 3) (by decide) rfl (Nat.le_of_ble_eq_true rfl) ?_
  intro p_ e_ s_ m_ ar_ be_ me_ co_ ls Q_ A_ hx hb hml hown hts hP hK hD hS hl hret
  have hown : s_.vm.findClass RX5 = some m_.cls := hown
  have hl : lv_has ls 3 [(0, .ref a), (1, .ref b)] := hl
  refine lv_aload_n hx hb dX5_takeOver_0 rfl (lv_at hl 0 rfl) ?_
  refine lv_iconst (v := 0) hx hb dX5_takeOver_1 (by decide) ?_
  refine g_put (C := RX5) (T := TX5) (N := 3) (ci := 5) (index := 24) (v := .int 0) (ws' := [(a, .inr (5, [.ref fa, .ref sa, .int 0])), (fa, .inl (cI, N, .inl f)), (sa, .inl (cI, N, .inl g)), (b, .inr (5, [.ref fb, .ref sb, .int (nI d)])), (fb, .inl (cI, N, .inl f2)), (sb, .inl (cI, N, .inl g2))]) hx hb hts in_X5_takeOver_5 tyX5 tyX5_ok nmX5 hown hK hP hD hS 0 2 rfl rfl (by decide) (List.mem_of_getElem? (i := 1) rfl) rfl rfl rfl (Nat.le_of_ble_eq_true rfl) dX5_takeOver_2 rfl (fun H_ lc_ hP hD hS => ?_)
  refine lv_iconst (v := 0) hx hb dX5_takeOver_5 (by decide) ?_
  refine lv_istore_n (lv' := [(2, .int 0), (0, .ref a), (1, .ref b)]) hx hb dX5_takeOver_6 rfl hl (by decide) rfl (fun ls hl => ?_)
  have L7 : ∀ (nn_ : Nat) (i : Nat) (hi : i ≤ d) (xx_v2 : Int32) (xx_u0_2 : Int32) (xx_g1 : Nat → Int32) (xx_g2 : Nat → Int32), (d - i) < nn_ → xx_v2 = nI i → xx_u0_2 = nI i → xx_g1 = ov f2 f i → xx_g2 = ov g2 g i → ∀ (H_ : Heap) (lc_ : List Loc), va_P D vwCl [(a, .inr (5, [.ref fa, .ref sa, .int xx_u0_2])), (fa, .inl (cI, N, .inl xx_g1)), (sa, .inl (cI, N, .inl xx_g2)), (b, .inr (5, [.ref fb, .ref sb, .int (nI d)])), (fb, .inl (cI, N, .inl f2)), (sb, .inl (cI, N, .inl g2))] H_ → va_D A_ [(a, .inr (5, [.ref fa, .ref sa, .int xx_u0_2])), (fa, .inl (cI, N, .inl xx_g1)), (sa, .inl (cI, N, .inl xx_g2)), (b, .inr (5, [.ref fb, .ref sb, .int (nI d)])), (fb, .inl (cI, N, .inl f2)), (sb, .inl (cI, N, .inl g2))] → va_S A_ s_.heap H_ lc_ → ∀ (ls : Array Slot), lv_has ls 3 [(0, .ref a), (1, .ref b), (2, .int xx_v2)] → W p_ l e_ (RM 1 22) s_ m_ ar_ be_ me_ co_ H_ lc_ 0 0 Q_ (F0 m_ 7 ls []) := by
    intro nn_
    induction nn_ with
    | zero => intro i hi xx_v2 xx_u0_2 xx_g1 xx_g2 hn_; exact absurd hn_ (Nat.not_lt_zero _)
    | succ nn_ ih7 =>
      intro i hi xx_v2 xx_u0_2 xx_g1 xx_g2 hn_ e_xx_v2 e_xx_u0_2 e_xx_g1 e_xx_g2 H_ lc_ hP hD hS ls hl
      subst e_xx_v2 e_xx_u0_2 e_xx_g1 e_xx_g2
      refine lv_iload_n hx hb dX5_takeOver_7 rfl (lv_at hl 2 rfl) ?_
      refine lv_aload_n hx hb dX5_takeOver_8 rfl (lv_at hl 1 rfl) ?_
      refine g_get (C := RX5) (T := TX5) (N := 3) (ci := 5) (index := 24) hx hb hts in_X5_takeOver_5 hown hK hP 3 2 rfl rfl (by decide) (List.mem_of_getElem? (i := 1) rfl) rfl dX5_takeOver_9 ?_
      refine lv_icmp_ge (tgt := 35) hx hb dX5_takeOver_12 (by decide) (fun c12 => ?_) (fun c12 => ?_)
      · exact hret _ _ _ ls hS (by have q := ge_nI c12 (by omega) (by omega); rw [show i = d by omega] at hP; exact hP) dX5_takeOver_35
      · have hlt : i < d := lt_nI c12 (by omega) (by omega)
        refine lv_aload_n hx hb dX5_takeOver_15 rfl (lv_at hl 0 rfl) ?_
        refine lv_aload_n hx hb dX5_takeOver_16 rfl (lv_at hl 1 rfl) ?_
        refine lv_iload_n hx hb dX5_takeOver_17 rfl (lv_at hl 2 rfl) ?_
        refine rd_V (As := [.int (nI i)]) (rest := [.ref a]) (ci := 5) (kX5_first l D cI cB b fb sb N d f2 g2 (nI i) (by omega) (by omega)) ⟨hx, hb, hml, hown, hts⟩ (cwV 1 hts gX5_takeOver_X5_first rfl rfl rfl (by decide +kernel) ⟨Nat.le_of_ble_eq_true rfl, Nat.le_of_ble_eq_true rfl⟩) hK hP [3, 4, 5] rfl 3 rfl rfl rfl rfl hl.1 (Nat.le_of_ble_eq_true rfl) dX5_takeOver_18 ⟨Nat.le_refl _, Nat.le_refl _⟩ ?_
        rw [show (rowAt f2 d (nI i) : Int32) = f2 i from rowAt_nI hlt (by omega)]
        refine lv_aload_n hx hb dX5_takeOver_21 rfl (lv_at hl 1 rfl) ?_
        refine lv_iload_n hx hb dX5_takeOver_22 rfl (lv_at hl 2 rfl) ?_
        refine rd_V (As := [.int (nI i)]) (rest := [.int (f2 i), .ref a]) (ci := 5) (kX5_second l D cI cB b fb sb N d f2 g2 (nI i) (by omega) (by omega)) ⟨hx, hb, hml, hown, hts⟩ (cwV 1 hts gX5_takeOver_X5_second rfl rfl rfl (by decide +kernel) ⟨Nat.le_of_ble_eq_true rfl, Nat.le_of_ble_eq_true rfl⟩) hK hP [3, 4, 5] rfl 3 rfl rfl rfl rfl hl.1 (Nat.le_of_ble_eq_true rfl) dX5_takeOver_23 ⟨Nat.le_refl _, Nat.le_refl _⟩ ?_
        rw [show (rowAt g2 d (nI i) : Int32) = g2 i from rowAt_nI hlt (by omega)]
        refine wr_V (As := [.int (f2 i), .int (g2 i)]) (rest := []) (ci := 5) (ws' := [(a, .inr (5, [.ref fa, .ref sa, .int (nI (i + 1))])), (fa, .inl (cI, N, .inl (upd (ov f2 f i) i (f2 i)))), (sa, .inl (cI, N, .inl (upd (ov g2 g i) i (g2 i)))), (b, .inr (5, [.ref fb, .ref sb, .int (nI d)])), (fb, .inl (cI, N, .inl f2)), (sb, .inl (cI, N, .inl g2))]) (kX5_add l D cI cB a fa sa N i (ov f2 f i) (ov g2 g i) (f2 i) (g2 i) (by omega) (by omega)) ⟨hx, hb, hml, hown, hts⟩ (cwV 2 hts gX5_takeOver_X5_add rfl rfl rfl (by decide +kernel) ⟨Nat.le_of_ble_eq_true rfl, Nat.le_of_ble_eq_true rfl⟩) hK hP hD hS [0, 1, 2] rfl (by decide +kernel) rfl rfl 0 rfl rfl rfl rfl hl.1 (Nat.le_of_ble_eq_true rfl) dX5_takeOver_26 ⟨Nat.le_refl _, Nat.le_refl _⟩ (fun H_ lc_ hP hD hS => ?_)
        show W p_ l e_ (RM 1 22) s_ m_ ar_ be_ me_ co_ H_ lc_ 0 0 Q_ (F0 m_ 29 ls [])
        refine lv_iinc (v := nI (i + 1)) (lv' := [(2, .int (nI (i + 1))), (0, .ref a), (1, .ref b)]) hx hb dX5_takeOver_29 hl (k := 2) rfl (nI_add _ 1) (by decide) rfl (fun ls hl => ?_)
        refine lv_goto (tgt := 7) hx hb dX5_takeOver_32 (by decide) ?_
        exact ih7 (i + 1) (by omega) _ _ _ _ (by omega) (rfl) (rfl) (ov_s _ _ _) (ov_s _ _ _) _ _ hP hD hS ls (lv_sub hl [1, 2, 0] rfl)
  exact L7 (d - 0 + 1) 0 (by omega) _ _ _ _ (Nat.lt_succ_self _) (nI_0.symm) (nI_0.symm) ((ov_0 _ _).symm) ((ov_0 _ _).symm) _ _ hP hD hS ls (lv_sub hl [1, 2, 0] rfl)

