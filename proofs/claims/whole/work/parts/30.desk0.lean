set_option maxHeartbeats 4000000 in
set_option maxRecDepth 100000 in
theorem kX8_isWithin (l : Launch) (D : va_G) (cI cB : ClassId) (v a b : Int32)  : Rd l D (TY cI cB) yX8_isWithin wsX8_isWithin 0 0 [.int v, .int a, .int b] [] (isInM v a b) := by
  refine rd_z (cc := cX8_isWithin) (maxL := 3) (by decide) rfl (Nat.le_of_ble_eq_true rfl) ?_
  intro p_ e_ s_ m_ ar_ be_ me_ co_ ls Q_ hx hb hml hown hts hP hK hl hret
  have hown : s_.vm.findClass RX8 = some m_.cls := hown
  have hl : lv_has ls 3 [(0, .int v), (1, .int a), (2, .int b)] := hl
  refine lv_iload_n hx hb dX8_isWithin_0 rfl (lv_at hl 0 rfl) ?_
  refine lv_iload_n hx hb dX8_isWithin_1 rfl (lv_at hl 1 rfl) ?_
  refine lv_icmp_lt (tgt := 14) hx hb dX8_isWithin_2 (by decide) (fun c2 => ?_) (fun c2 => ?_)
  · refine lv_iconst (v := 0) hx hb dX8_isWithin_14 (by decide) ?_
    exact hret _ _ ls (by simp [isInM, c2]) (by decide) dX8_isWithin_15
  · refine lv_iload_n hx hb dX8_isWithin_5 rfl (lv_at hl 0 rfl) ?_
    refine lv_iload_n hx hb dX8_isWithin_6 rfl (lv_at hl 2 rfl) ?_
    refine lv_icmp_gt (tgt := 14) hx hb dX8_isWithin_7 (by decide) (fun c7 => ?_) (fun c7 => ?_)
    · refine lv_iconst (v := 0) hx hb dX8_isWithin_14 (by decide) ?_
      exact hret _ _ ls (by simp [isInM, c2, c7]) (by decide) dX8_isWithin_15
    · refine lv_iconst (v := 1) hx hb dX8_isWithin_10 (by decide) ?_
      refine lv_goto (tgt := 15) hx hb dX8_isWithin_11 (by decide) ?_
      exact hret _ _ ls (by simp [isInM, c2, c7]) (by decide) dX8_isWithin_15

set_option maxHeartbeats 4000000 in
set_option maxRecDepth 100000 in
theorem kX8_isDay (l : Launch) (D : va_G) (cI cB : ClassId) (v : Int32)  : Rd l D (TY cI cB) yX8_isDay wsX8_isDay 1 22 [.int v] [] (isInM v 0 499) := by
  refine rd_z (cc := cX8_isDay) (maxL := 1) (by decide) rfl (Nat.le_of_ble_eq_true rfl) ?_
  intro p_ e_ s_ m_ ar_ be_ me_ co_ ls Q_ hx hb hml hown hts hP hK hl hret
  have hown : s_.vm.findClass RX8 = some m_.cls := hown
  have hl : lv_has ls 1 [(0, .int v)] := hl
  refine lv_iload_n hx hb dX8_isDay_0 rfl (lv_at hl 0 rfl) ?_
  refine lv_iconst (v := 0) hx hb dX8_isDay_1 (by decide) ?_
  refine lv_sipush (v := 499) hx hb dX8_isDay_2 (by decide) ?_
  refine rd_S (As := [.int v, .int 0, .int 499]) (rest := []) (kX8_isWithin l D cI cB v 0 499 ) ⟨hx, hb, hml, hown, hts⟩ (va_cwS 3 hts gX8_isDay_X8_isWithin rfl rfl rfl (by decide +kernel) ⟨Nat.le_of_ble_eq_true rfl, Nat.le_of_ble_eq_true rfl⟩) hK hP [] rfl rfl rfl hl.1 (Nat.le_of_ble_eq_true rfl) dX8_isDay_5 ⟨Nat.le_refl _, Nat.le_refl _⟩ ?_
  exact hret _ _ ls (rfl) (isInM_nar _ _ _) dX8_isDay_8

set_option maxHeartbeats 4000000 in
set_option maxRecDepth 100000 in
theorem kX8_isAmount (l : Launch) (D : va_G) (cI cB : ClassId) (v : Int32)  : Rd l D (TY cI cB) yX8_isAmount wsX8_isAmount 1 22 [.int v] [] (isInM v 1 99999) := by
  refine rd_z (cc := cX8_isAmount) (maxL := 1) (by decide) rfl (Nat.le_of_ble_eq_true rfl) ?_
  intro p_ e_ s_ m_ ar_ be_ me_ co_ ls Q_ hx hb hml hown hts hP hK hl hret
  have hown : s_.vm.findClass RX8 = some m_.cls := hown
  have hl : lv_has ls 1 [(0, .int v)] := hl
  refine lv_iload_n hx hb dX8_isAmount_0 rfl (lv_at hl 0 rfl) ?_
  refine lv_iconst (v := 1) hx hb dX8_isAmount_1 (by decide) ?_
  refine lv_ldc (v := 99999) hx hb hown (hts (.constant RX8 233 (99999)) (List.mem_of_getElem? (i := 1) rfl)) dX8_isAmount_2 ?_
  refine rd_S (As := [.int v, .int 1, .int 99999]) (rest := []) (kX8_isWithin l D cI cB v 1 99999 ) ⟨hx, hb, hml, hown, hts⟩ (va_cwS 3 hts gX8_isAmount_X8_isWithin rfl rfl rfl (by decide +kernel) ⟨Nat.le_of_ble_eq_true rfl, Nat.le_of_ble_eq_true rfl⟩) hK hP [] rfl rfl rfl hl.1 (Nat.le_of_ble_eq_true rfl) dX8_isAmount_4 ⟨Nat.le_refl _, Nat.le_refl _⟩ ?_
  exact hret _ _ ls (rfl) (isInM_nar _ _ _) dX8_isAmount_7

set_option maxHeartbeats 4000000 in
set_option maxRecDepth 100000 in
theorem kX8_isPeriod (l : Launch) (D : va_G) (cI cB : ClassId) (v : Int32)  : Rd l D (TY cI cB) yX8_isPeriod wsX8_isPeriod 1 22 [.int v] [] (isInM v 0 3) := by
  refine rd_z (cc := cX8_isPeriod) (maxL := 1) (by decide) rfl (Nat.le_of_ble_eq_true rfl) ?_
  intro p_ e_ s_ m_ ar_ be_ me_ co_ ls Q_ hx hb hml hown hts hP hK hl hret
  have hown : s_.vm.findClass RX8 = some m_.cls := hown
  have hl : lv_has ls 1 [(0, .int v)] := hl
  refine lv_iload_n hx hb dX8_isPeriod_0 rfl (lv_at hl 0 rfl) ?_
  refine lv_iconst (v := 0) hx hb dX8_isPeriod_1 (by decide) ?_
  refine lv_iconst (v := 3) hx hb dX8_isPeriod_2 (by decide) ?_
  refine rd_S (As := [.int v, .int 0, .int 3]) (rest := []) (kX8_isWithin l D cI cB v 0 3 ) ⟨hx, hb, hml, hown, hts⟩ (va_cwS 3 hts gX8_isPeriod_X8_isWithin rfl rfl rfl (by decide +kernel) ⟨Nat.le_of_ble_eq_true rfl, Nat.le_of_ble_eq_true rfl⟩) hK hP [] rfl rfl rfl hl.1 (Nat.le_of_ble_eq_true rfl) dX8_isPeriod_3 ⟨Nat.le_refl _, Nat.le_refl _⟩ ?_
  exact hret _ _ ls (rfl) (isInM_nar _ _ _) dX8_isPeriod_6

set_option maxHeartbeats 4000000 in
set_option maxRecDepth 100000 in
theorem kX8_isRule (l : Launch) (D : va_G) (cI cB : ClassId) (v : Int32)  : Rd l D (TY cI cB) yX8_isRule wsX8_isRule 1 22 [.int v] [] (isInM v 0 2) := by
  refine rd_z (cc := cX8_isRule) (maxL := 1) (by decide) rfl (Nat.le_of_ble_eq_true rfl) ?_
  intro p_ e_ s_ m_ ar_ be_ me_ co_ ls Q_ hx hb hml hown hts hP hK hl hret
  have hown : s_.vm.findClass RX8 = some m_.cls := hown
  have hl : lv_has ls 1 [(0, .int v)] := hl
  refine lv_iload_n hx hb dX8_isRule_0 rfl (lv_at hl 0 rfl) ?_
  refine lv_iconst (v := 0) hx hb dX8_isRule_1 (by decide) ?_
  refine lv_iconst (v := 2) hx hb dX8_isRule_2 (by decide) ?_
  refine rd_S (As := [.int v, .int 0, .int 2]) (rest := []) (kX8_isWithin l D cI cB v 0 2 ) ⟨hx, hb, hml, hown, hts⟩ (va_cwS 3 hts gX8_isRule_X8_isWithin rfl rfl rfl (by decide +kernel) ⟨Nat.le_of_ble_eq_true rfl, Nat.le_of_ble_eq_true rfl⟩) hK hP [] rfl rfl rfl hl.1 (Nat.le_of_ble_eq_true rfl) dX8_isRule_3 ⟨Nat.le_refl _, Nat.le_refl _⟩ ?_
  exact hret _ _ ls (rfl) (isInM_nar _ _ _) dX8_isRule_6

theorem isInM_nI {v : Int32} {n : Nat} (hn : n < 2 ^ 31) (h : ¬ isInM v 0 (nI n) = 0) : ∃ q : Nat, q ≤ n ∧ v = nI q := by
  unfold isInM at h
  by_cases h1 : v < 0
  · rw [if_pos h1] at h; exact absurd rfl h
  · rw [if_neg h1] at h
    by_cases h2 : nI n < v
    · rw [if_pos h2] at h; exact absurd rfl h
    · exact nI_of2 (nI_toInt hn) h1 (Int32.not_lt.mp h2)
def frX (f : Nat → Int32) (c : Nat) (Th : Nat → Int32) (d paid : Int32) : Int32 := max32 0 (paid - duX f c Th d 4)
def mnX (fr : Nat → Int32) (a : Nat) : Nat → Int32
  | 0 => fr a
  | k + 1 => min32 (mnX fr a k) (fr (a + k))
theorem adF_undo (P : Nat → Int32) (x : Int32) (d : Nat) : adF (adF P x d 500) (-x) d 500 = P := by
  funext j
  unfold adF
  by_cases h : d ≤ j ∧ j < 500
  · rw [if_pos h, if_pos h, Int32.add_assoc, Int32.add_right_neg, Int32.add_zero]
  · rw [if_neg h, if_neg h]
theorem in_X8_reckon_8 : ∀ w ∈ wsX80, w ∈ wsX8_reckon := fun _ h => List.mem_cons_of_mem _ (List.mem_append_left _ (List.mem_append_left _ (List.mem_append_left _ (List.mem_append_left _ (List.mem_append_right _ (h))))))
theorem in_X8_reckon_7 : ∀ w ∈ wsX70, w ∈ wsX8_reckon := fun _ h => List.mem_cons_of_mem _ (List.mem_append_left _ (List.mem_append_left _ (List.mem_append_left _ (List.mem_append_right _ (h)))))
set_option maxHeartbeats 4000000 in
set_option maxRecDepth 100000 in
theorem kX8_reckon (l : Launch) (D : va_G) (cI cB : ClassId) (x0 t rdr yr dy ak ac lw dd : Nat) (lf : Int32) (Ya Yfa Ysa : Nat → Nat) (Yf Yg : Nat → Nat → Int32) (Yc : Nat → Nat) (Yv : Nat → Int32) (la lr lt : Nat) (L K Th : Nat → Int32) (pa dr : Nat) (P R : Nat → Int32) (hc0 : Yc 0 ≤ 4) (hc1 : Yc 1 ≤ 4) (hc2 : Yc 2 ≤ 6) (hc3 : Yc 3 ≤ 40) (hc4 : Yc 4 ≤ 40) (hc5 : Yc 5 ≤ 20) : Wr l D (TY cI cB) yX8_reckon wsX8_reckon 5 122 [.ref x0] [(x0, .inr (8, [.ref t, .ref rdr, .ref yr, .ref dy, .ref ak, .ref ac, .ref lw, .ref dd, .int lf])), (ak, .inr (1, [.ref la, .ref lr, .ref lt])), (la, .inl (cI, 4, .inl L)), (lr, .inl (cI, 4, .inl K)), (lt, .inl (cI, 4, .inl Th)), (ac, .inr (0, [.ref pa, .ref dr])), (pa, .inl (cI, 500, .inl P)), (dr, .inl (cI, 500, .inl R)), (yr, .inr (7, [.ref (Ya 0), .ref (Ya 1), .ref (Ya 2), .ref (Ya 3), .ref (Ya 4), .ref (Ya 5), .int (Yv 6), .int (Yv 7), .int (Yv 8), .int (Yv 9), .int (Yv 10), .int (Yv 11), .int (Yv 12), .int (Yv 13)])), (Ya 0, .inr (5, [.ref (Yfa 0), .ref (Ysa 0), .int (nI (Yc 0))])), (Yfa 0, .inl (cI, 4, .inl (Yf 0))), (Ysa 0, .inl (cI, 4, .inl (Yg 0))), (Ya 1, .inr (5, [.ref (Yfa 1), .ref (Ysa 1), .int (nI (Yc 1))])), (Yfa 1, .inl (cI, 4, .inl (Yf 1))), (Ysa 1, .inl (cI, 4, .inl (Yg 1))), (Ya 2, .inr (5, [.ref (Yfa 2), .ref (Ysa 2), .int (nI (Yc 2))])), (Yfa 2, .inl (cI, 6, .inl (Yf 2))), (Ysa 2, .inl (cI, 6, .inl (Yg 2))), (Ya 3, .inr (5, [.ref (Yfa 3), .ref (Ysa 3), .int (nI (Yc 3))])), (Yfa 3, .inl (cI, 40, .inl (Yf 3))), (Ysa 3, .inl (cI, 40, .inl (Yg 3))), (Ya 4, .inr (5, [.ref (Yfa 4), .ref (Ysa 4), .int (nI (Yc 4))])), (Yfa 4, .inl (cI, 40, .inl (Yf 4))), (Ysa 4, .inl (cI, 40, .inl (Yg 4))), (Ya 5, .inr (5, [.ref (Yfa 5), .ref (Ysa 5), .int (nI (Yc 5))])), (Yfa 5, .inl (cI, 20, .inl (Yf 5))), (Ysa 5, .inl (cI, 20, .inl (Yg 5)))] [(x0, .inr (8, [.ref t, .ref rdr, .ref yr, .ref dy, .ref ak, .ref ac, .ref lw, .ref dd, .int lf])), (ak, .inr (1, [.ref la, .ref lr, .ref lt])), (la, .inl (cI, 4, .inl (ov (lsF (sbX Yf Yg Yc Yv) (Yv 13)) L 4))), (lr, .inl (cI, 4, .inl (ov (ruF (sbX Yf Yg Yc Yv) (Yv 13)) K 4))), (lt, .inl (cI, 4, .inl (ov (thF (sbX Yf Yg Yc Yv) (Yv 13)) Th 4))), (ac, .inr (0, [.ref pa, .ref dr])), (pa, .inl (cI, 500, .inl (pdF Yf Yg Yc Yv P))), (dr, .inl (cI, 500, .inl (ov (lrF (Yf 2) (Yg 2) (Yc 2)) R 500))), (yr, .inr (7, [.ref (Ya 0), .ref (Ya 1), .ref (Ya 2), .ref (Ya 3), .ref (Ya 4), .ref (Ya 5), .int (Yv 6), .int (Yv 7), .int (Yv 8), .int (Yv 9), .int (Yv 10), .int (Yv 11), .int (Yv 12), .int (Yv 13)])), (Ya 0, .inr (5, [.ref (Yfa 0), .ref (Ysa 0), .int (nI (Yc 0))])), (Yfa 0, .inl (cI, 4, .inl (Yf 0))), (Ysa 0, .inl (cI, 4, .inl (Yg 0))), (Ya 1, .inr (5, [.ref (Yfa 1), .ref (Ysa 1), .int (nI (Yc 1))])), (Yfa 1, .inl (cI, 4, .inl (Yf 1))), (Ysa 1, .inl (cI, 4, .inl (Yg 1))), (Ya 2, .inr (5, [.ref (Yfa 2), .ref (Ysa 2), .int (nI (Yc 2))])), (Yfa 2, .inl (cI, 6, .inl (Yf 2))), (Ysa 2, .inl (cI, 6, .inl (Yg 2))), (Ya 3, .inr (5, [.ref (Yfa 3), .ref (Ysa 3), .int (nI (Yc 3))])), (Yfa 3, .inl (cI, 40, .inl (Yf 3))), (Ysa 3, .inl (cI, 40, .inl (Yg 3))), (Ya 4, .inr (5, [.ref (Yfa 4), .ref (Ysa 4), .int (nI (Yc 4))])), (Yfa 4, .inl (cI, 40, .inl (Yf 4))), (Ysa 4, .inl (cI, 40, .inl (Yg 4))), (Ya 5, .inr (5, [.ref (Yfa 5), .ref (Ysa 5), .int (nI (Yc 5))])), (Yfa 5, .inl (cI, 20, .inl (Yf 5))), (Ysa 5, .inl (cI, 20, .inl (Yg 5)))] none := by
  refine wr_v (cc := cX8_reckon) (maxL := 1) (by decide) rfl (Nat.le_of_ble_eq_true rfl) ?_
  intro p_ e_ s_ m_ ar_ be_ me_ co_ ls Q_ A_ hx hb hml hown hts hP hK hD hS hl hret
  have hown : s_.vm.findClass RX8 = some m_.cls := hown
  have hl : lv_has ls 1 [(0, .ref x0)] := hl
  refine lv_aload_n hx hb dX8_reckon_0 rfl (lv_at hl 0 rfl) ?_
  refine g_get (C := RX8) (T := TX8) (N := 9) (ci := 8) (index := 36) hx hb hts in_X8_reckon_8 hown hK hP 0 4 rfl rfl (by decide) (List.mem_of_getElem? (i := 1) rfl) rfl dX8_reckon_1 ?_
  refine lv_aload_n hx hb dX8_reckon_4 rfl (lv_at hl 0 rfl) ?_
  refine g_get (C := RX8) (T := TX8) (N := 9) (ci := 8) (index := 26) hx hb hts in_X8_reckon_8 hown hK hP 0 2 rfl rfl (by decide) (List.mem_of_getElem? (i := 2) rfl) rfl dX8_reckon_5 ?_
  refine lv_aload_n hx hb dX8_reckon_8 rfl (lv_at hl 0 rfl) ?_
  refine g_get (C := RX8) (T := TX8) (N := 9) (ci := 8) (index := 26) hx hb hts in_X8_reckon_8 hown hK hP 0 2 rfl rfl (by decide) (List.mem_of_getElem? (i := 2) rfl) rfl dX8_reckon_9 ?_
  refine g_get (C := RX7) (T := TX7) (N := 14) (ci := 7) (index := 135) hx hb hts in_X8_reckon_7 hown hK hP 8 13 rfl rfl (by decide) (List.mem_of_getElem? (i := 3) rfl) rfl dX8_reckon_12 ?_
  refine wp_V (As := [.ref yr, .int (Yv 13)]) (rest := []) (ci := 1) (ws' := [(x0, .inr (8, [.ref t, .ref rdr, .ref yr, .ref dy, .ref ak, .ref ac, .ref lw, .ref dd, .int lf])), (ak, .inr (1, [.ref la, .ref lr, .ref lt])), (la, .inl (cI, 4, .inl (ov (lsF (sbX Yf Yg Yc Yv) (Yv 13)) L 4))), (lr, .inl (cI, 4, .inl (ov (ruF (sbX Yf Yg Yc Yv) (Yv 13)) K 4))), (lt, .inl (cI, 4, .inl (ov (thF (sbX Yf Yg Yc Yv) (Yv 13)) Th 4))), (ac, .inr (0, [.ref pa, .ref dr])), (pa, .inl (cI, 500, .inl P)), (dr, .inl (cI, 500, .inl R)), (yr, .inr (7, [.ref (Ya 0), .ref (Ya 1), .ref (Ya 2), .ref (Ya 3), .ref (Ya 4), .ref (Ya 5), .int (Yv 6), .int (Yv 7), .int (Yv 8), .int (Yv 9), .int (Yv 10), .int (Yv 11), .int (Yv 12), .int (Yv 13)])), (Ya 0, .inr (5, [.ref (Yfa 0), .ref (Ysa 0), .int (nI (Yc 0))])), (Yfa 0, .inl (cI, 4, .inl (Yf 0))), (Ysa 0, .inl (cI, 4, .inl (Yg 0))), (Ya 1, .inr (5, [.ref (Yfa 1), .ref (Ysa 1), .int (nI (Yc 1))])), (Yfa 1, .inl (cI, 4, .inl (Yf 1))), (Ysa 1, .inl (cI, 4, .inl (Yg 1))), (Ya 2, .inr (5, [.ref (Yfa 2), .ref (Ysa 2), .int (nI (Yc 2))])), (Yfa 2, .inl (cI, 6, .inl (Yf 2))), (Ysa 2, .inl (cI, 6, .inl (Yg 2))), (Ya 3, .inr (5, [.ref (Yfa 3), .ref (Ysa 3), .int (nI (Yc 3))])), (Yfa 3, .inl (cI, 40, .inl (Yf 3))), (Ysa 3, .inl (cI, 40, .inl (Yg 3))), (Ya 4, .inr (5, [.ref (Yfa 4), .ref (Ysa 4), .int (nI (Yc 4))])), (Yfa 4, .inl (cI, 40, .inl (Yf 4))), (Ysa 4, .inl (cI, 40, .inl (Yg 4))), (Ya 5, .inr (5, [.ref (Yfa 5), .ref (Ysa 5), .int (nI (Yc 5))])), (Yfa 5, .inl (cI, 20, .inl (Yf 5))), (Ysa 5, .inl (cI, 20, .inl (Yg 5)))]) (kX1_reckon l D cI cB ak la lr lt L K Th yr Ya Yfa Ysa Yf Yg Yc Yv (Yv 13) (by omega) (by omega) (by omega)) ⟨hx, hb, hml, hown, hts⟩ (cwV 2 hts gX8_reckon_X1_reckon rfl rfl rfl (by decide +kernel) ⟨Nat.le_of_ble_eq_true rfl, Nat.le_of_ble_eq_true rfl⟩) hK hP hD hS [1, 2, 3, 4, 8, 9, 10, 11, 12, 13, 14, 18, 19, 20] [0, 5, 6, 7, 15, 16, 17, 21, 22, 23, 24, 25, 26] rfl rfl rfl 27 rfl (by decide +kernel) (by decide +kernel) rfl (by decide +kernel) 1 rfl rfl rfl rfl hl.1 (Nat.le_of_ble_eq_true rfl) dX8_reckon_15 ⟨Nat.le_refl _, Nat.le_refl _⟩ (fun H_ lc_ hP hD hS => ?_)
  show W p_ l e_ (RM 5 122) s_ m_ ar_ be_ me_ co_ H_ lc_ 0 0 Q_ (F0 m_ 18 ls [])
  refine lv_aload_n hx hb dX8_reckon_18 rfl (lv_at hl 0 rfl) ?_
  refine g_get (C := RX8) (T := TX8) (N := 9) (ci := 8) (index := 43) hx hb hts in_X8_reckon_8 hown hK hP 0 5 rfl rfl (by decide) (List.mem_of_getElem? (i := 4) rfl) rfl dX8_reckon_19 ?_
  refine lv_aload_n hx hb dX8_reckon_22 rfl (lv_at hl 0 rfl) ?_
  refine g_get (C := RX8) (T := TX8) (N := 9) (ci := 8) (index := 26) hx hb hts in_X8_reckon_8 hown hK hP 0 2 rfl rfl (by decide) (List.mem_of_getElem? (i := 2) rfl) rfl dX8_reckon_23 ?_
  refine wp_V (As := [.ref yr]) (rest := []) (ci := 0) (ws' := [(x0, .inr (8, [.ref t, .ref rdr, .ref yr, .ref dy, .ref ak, .ref ac, .ref lw, .ref dd, .int lf])), (ak, .inr (1, [.ref la, .ref lr, .ref lt])), (la, .inl (cI, 4, .inl (ov (lsF (sbX Yf Yg Yc Yv) (Yv 13)) L 4))), (lr, .inl (cI, 4, .inl (ov (ruF (sbX Yf Yg Yc Yv) (Yv 13)) K 4))), (lt, .inl (cI, 4, .inl (ov (thF (sbX Yf Yg Yc Yv) (Yv 13)) Th 4))), (ac, .inr (0, [.ref pa, .ref dr])), (pa, .inl (cI, 500, .inl (pdF Yf Yg Yc Yv P))), (dr, .inl (cI, 500, .inl (ov (lrF (Yf 2) (Yg 2) (Yc 2)) R 500))), (yr, .inr (7, [.ref (Ya 0), .ref (Ya 1), .ref (Ya 2), .ref (Ya 3), .ref (Ya 4), .ref (Ya 5), .int (Yv 6), .int (Yv 7), .int (Yv 8), .int (Yv 9), .int (Yv 10), .int (Yv 11), .int (Yv 12), .int (Yv 13)])), (Ya 0, .inr (5, [.ref (Yfa 0), .ref (Ysa 0), .int (nI (Yc 0))])), (Yfa 0, .inl (cI, 4, .inl (Yf 0))), (Ysa 0, .inl (cI, 4, .inl (Yg 0))), (Ya 1, .inr (5, [.ref (Yfa 1), .ref (Ysa 1), .int (nI (Yc 1))])), (Yfa 1, .inl (cI, 4, .inl (Yf 1))), (Ysa 1, .inl (cI, 4, .inl (Yg 1))), (Ya 2, .inr (5, [.ref (Yfa 2), .ref (Ysa 2), .int (nI (Yc 2))])), (Yfa 2, .inl (cI, 6, .inl (Yf 2))), (Ysa 2, .inl (cI, 6, .inl (Yg 2))), (Ya 3, .inr (5, [.ref (Yfa 3), .ref (Ysa 3), .int (nI (Yc 3))])), (Yfa 3, .inl (cI, 40, .inl (Yf 3))), (Ysa 3, .inl (cI, 40, .inl (Yg 3))), (Ya 4, .inr (5, [.ref (Yfa 4), .ref (Ysa 4), .int (nI (Yc 4))])), (Yfa 4, .inl (cI, 40, .inl (Yf 4))), (Ysa 4, .inl (cI, 40, .inl (Yg 4))), (Ya 5, .inr (5, [.ref (Yfa 5), .ref (Ysa 5), .int (nI (Yc 5))])), (Yfa 5, .inl (cI, 20, .inl (Yf 5))), (Ysa 5, .inl (cI, 20, .inl (Yg 5)))]) (kX0_lay l D cI cB ac pa dr P R yr Ya Yfa Ysa Yf Yg Yc Yv (by omega) (by omega) (by omega)) ⟨hx, hb, hml, hown, hts⟩ (cwV 1 hts gX8_reckon_X0_lay rfl rfl rfl (by decide +kernel) ⟨Nat.le_of_ble_eq_true rfl, Nat.le_of_ble_eq_true rfl⟩) hK hP hD hS [5, 6, 7, 8, 15, 16, 17, 21, 22, 23, 24, 25, 26] [0, 1, 2, 3, 4, 9, 10, 11, 12, 13, 14, 18, 19, 20] rfl rfl rfl 27 rfl (by decide +kernel) (by decide +kernel) rfl (by decide +kernel) 5 rfl rfl rfl rfl hl.1 (Nat.le_of_ble_eq_true rfl) dX8_reckon_26 ⟨Nat.le_refl _, Nat.le_refl _⟩ (fun H_ lc_ hP hD hS => ?_)
  show W p_ l e_ (RM 5 122) s_ m_ ar_ be_ me_ co_ H_ lc_ 0 0 Q_ (F0 m_ 29 ls [])
  exact hret _ _ _ ls hS (hP) dX8_reckon_29

theorem in_X8_freeOf_8 : ∀ w ∈ wsX80, w ∈ wsX8_freeOf := fun _ h => List.mem_cons_of_mem _ (List.mem_append_left _ (List.mem_append_left _ (List.mem_append_left _ (List.mem_append_right _ (h)))))
set_option maxHeartbeats 4000000 in
set_option maxRecDepth 100000 in
theorem kX8_freeOf (l : Launch) (D : va_G) (cI cB : ClassId) (x0 t rdr yr dy ak ac lw dd : Nat) (lf : Int32) (Ya Yfa Ysa : Nat → Nat) (Yf Yg : Nat → Nat → Int32) (Yc : Nat → Nat) (Yv : Nat → Int32) (la lr lt : Nat) (L K Th : Nat → Int32) (d paid : Int32) (hc0 : Yc 0 ≤ 4) : Rd l D (TY cI cB) yX8_freeOf wsX8_freeOf 3 66 [.ref x0, .int d, .int paid] [(x0, .inr (8, [.ref t, .ref rdr, .ref yr, .ref dy, .ref ak, .ref ac, .ref lw, .ref dd, .int lf])), (ak, .inr (1, [.ref la, .ref lr, .ref lt])), (la, .inl (cI, 4, .inl L)), (lr, .inl (cI, 4, .inl K)), (lt, .inl (cI, 4, .inl Th)), (yr, .inr (7, [.ref (Ya 0), .ref (Ya 1), .ref (Ya 2), .ref (Ya 3), .ref (Ya 4), .ref (Ya 5), .int (Yv 6), .int (Yv 7), .int (Yv 8), .int (Yv 9), .int (Yv 10), .int (Yv 11), .int (Yv 12), .int (Yv 13)])), (Ya 0, .inr (5, [.ref (Yfa 0), .ref (Ysa 0), .int (nI (Yc 0))])), (Yfa 0, .inl (cI, 4, .inl (Yf 0))), (Ysa 0, .inl (cI, 4, .inl (Yg 0)))] (frX (Yf 0) (Yc 0) Th d paid) := by
  refine rd_i (cc := cX8_freeOf) (maxL := 3) (by decide) rfl (Nat.le_of_ble_eq_true rfl) ?_
  intro p_ e_ s_ m_ ar_ be_ me_ co_ ls Q_ hx hb hml hown hts hP hK hl hret
  have hown : s_.vm.findClass RX8 = some m_.cls := hown
  have hl : lv_has ls 3 [(0, .ref x0), (1, .int d), (2, .int paid)] := hl
  refine lv_iconst (v := 0) hx hb dX8_freeOf_0 (by decide) ?_
  refine lv_iload_n hx hb dX8_freeOf_1 rfl (lv_at hl 2 rfl) ?_
  refine lv_aload_n hx hb dX8_freeOf_2 rfl (lv_at hl 0 rfl) ?_
  refine g_get (C := RX8) (T := TX8) (N := 9) (ci := 8) (index := 36) hx hb hts in_X8_freeOf_8 hown hK hP 0 4 rfl rfl (by decide) (List.mem_of_getElem? (i := 1) rfl) rfl dX8_freeOf_3 ?_
  refine lv_iload_n hx hb dX8_freeOf_6 rfl (lv_at hl 1 rfl) ?_
  refine lv_aload_n hx hb dX8_freeOf_7 rfl (lv_at hl 0 rfl) ?_
  refine g_get (C := RX8) (T := TX8) (N := 9) (ci := 8) (index := 26) hx hb hts in_X8_freeOf_8 hown hK hP 0 2 rfl rfl (by decide) (List.mem_of_getElem? (i := 2) rfl) rfl dX8_freeOf_8 ?_
  refine rd_V (As := [.int d, .ref yr]) (rest := [.int paid, .int 0]) (ci := 1) (kX1_dueBy l D cI cB ak la lr lt L K Th yr Ya Yfa Ysa Yf Yg Yc Yv d (by omega)) ⟨hx, hb, hml, hown, hts⟩ (cwV 2 hts gX8_freeOf_X1_dueBy rfl rfl rfl (by decide +kernel) ⟨Nat.le_of_ble_eq_true rfl, Nat.le_of_ble_eq_true rfl⟩) hK hP [1, 2, 3, 4, 5, 6, 7, 8] rfl 1 rfl rfl rfl rfl hl.1 (Nat.le_of_ble_eq_true rfl) dX8_freeOf_11 ⟨Nat.le_refl _, Nat.le_refl _⟩ ?_
  refine lv_isub hx hb dX8_freeOf_14 ?_
  refine va_mmax hx hb (hml.trans hl.1.symm) hown (hts (.methodLink RX8 247 Lib.Math.max.name) (List.mem_of_getElem? (i := 3) rfl)) (hts (.static Lib.Math.max.name) (List.mem_of_getElem? (i := 4) rfl)) (hts (.initialized "java/lang/Math") (List.mem_of_getElem? (i := 5) rfl)) (hts (.code Lib.Math.max.name Lib.Math.max.code 2 (some .int)) (List.mem_of_getElem? (i := 6) rfl)) (Nat.le_of_ble_eq_true rfl) (Nat.le_of_ble_eq_true rfl) (Nat.le_refl _) (Nat.le_refl _) dX8_freeOf_15 ?_
  rw [show (if 0 < (paid - (duX (Yf 0) (Yc 0) Th d 4)) then (paid - (duX (Yf 0) (Yc 0) Th d 4)) else 0 : Int32) = max32 0 (paid - (duX (Yf 0) (Yc 0) Th d 4)) from rfl]
  exact hret _ _ ls (rfl) dX8_freeOf_18

theorem in_X8_leastFreeFrom_8 : ∀ w ∈ wsX80, w ∈ wsX8_leastFreeFrom := fun _ h => List.mem_cons_of_mem _ (List.mem_append_left _ (List.mem_append_left _ (List.mem_append_left _ (List.mem_append_left _ (List.mem_append_right _ (h))))))
theorem in_X8_leastFreeFrom_7 : ∀ w ∈ wsX70, w ∈ wsX8_leastFreeFrom := fun _ h => List.mem_cons_of_mem _ (List.mem_append_left _ (List.mem_append_left _ (List.mem_append_left _ (List.mem_append_right _ (h)))))
set_option maxHeartbeats 4000000 in
set_option maxRecDepth 100000 in
theorem kX8_leastFreeFrom (l : Launch) (D : va_G) (cI cB : ClassId) (x0 t rdr yr dy ak ac lw dd : Nat) (lf : Int32) (Ya Yfa Ysa : Nat → Nat) (Yf Yg : Nat → Nat → Int32) (Yc : Nat → Nat) (Yv : Nat → Int32) (la lr lt : Nat) (L K Th : Nat → Int32) (pa dr : Nat) (P R : Nat → Int32) (d ed : Nat) (hc0 : Yc 0 ≤ 4) (hed : Yv 8 = nI ed) (hel : ed ≤ 499) (hd : d ≤ ed) : Rd l D (TY cI cB) yX8_leastFreeFrom wsX8_leastFreeFrom 4 88 [.ref x0, .int (nI d)] [(x0, .inr (8, [.ref t, .ref rdr, .ref yr, .ref dy, .ref ak, .ref ac, .ref lw, .ref dd, .int lf])), (ak, .inr (1, [.ref la, .ref lr, .ref lt])), (la, .inl (cI, 4, .inl L)), (lr, .inl (cI, 4, .inl K)), (lt, .inl (cI, 4, .inl Th)), (ac, .inr (0, [.ref pa, .ref dr])), (pa, .inl (cI, 500, .inl P)), (dr, .inl (cI, 500, .inl R)), (yr, .inr (7, [.ref (Ya 0), .ref (Ya 1), .ref (Ya 2), .ref (Ya 3), .ref (Ya 4), .ref (Ya 5), .int (Yv 6), .int (Yv 7), .int (Yv 8), .int (Yv 9), .int (Yv 10), .int (Yv 11), .int (Yv 12), .int (Yv 13)])), (Ya 0, .inr (5, [.ref (Yfa 0), .ref (Ysa 0), .int (nI (Yc 0))])), (Yfa 0, .inl (cI, 4, .inl (Yf 0))), (Ysa 0, .inl (cI, 4, .inl (Yg 0)))] (mnX (fun j => frX (Yf 0) (Yc 0) Th (nI j) (P j)) d (ed + 1 - d)) := by
  refine rd_i (cc := cX8_leastFreeFrom) (maxL := 4) (by decide) rfl (Nat.le_of_ble_eq_true rfl) ?_
  intro p_ e_ s_ m_ ar_ be_ me_ co_ ls Q_ hx hb hml hown hts hP hK hl hret
  have hown : s_.vm.findClass RX8 = some m_.cls := hown
  have hl : lv_has ls 4 [(0, .ref x0), (1, .int (nI d))] := hl
  refine lv_aload_n hx hb dX8_leastFreeFrom_0 rfl (lv_at hl 0 rfl) ?_
  refine lv_iload_n hx hb dX8_leastFreeFrom_1 rfl (lv_at hl 1 rfl) ?_
  refine lv_aload_n hx hb dX8_leastFreeFrom_2 rfl (lv_at hl 0 rfl) ?_
  refine g_get (C := RX8) (T := TX8) (N := 9) (ci := 8) (index := 43) hx hb hts in_X8_leastFreeFrom_8 hown hK hP 0 5 rfl rfl (by decide) (List.mem_of_getElem? (i := 1) rfl) rfl dX8_leastFreeFrom_3 ?_
  refine lv_iload_n hx hb dX8_leastFreeFrom_6 rfl (lv_at hl 1 rfl) ?_
  refine rd_V (As := [.int (nI d)]) (rest := [.int (nI d), .ref x0]) (ci := 0) (kX0_paidAt l D cI cB ac pa dr P R (nI d) ) ⟨hx, hb, hml, hown, hts⟩ (cwV 1 hts gX8_leastFreeFrom_X0_paidAt rfl rfl rfl (by decide +kernel) ⟨Nat.le_of_ble_eq_true rfl, Nat.le_of_ble_eq_true rfl⟩) hK hP [5, 6, 7] rfl 5 rfl rfl rfl rfl hl.1 (Nat.le_of_ble_eq_true rfl) dX8_leastFreeFrom_7 ⟨Nat.le_refl _, Nat.le_refl _⟩ ?_
  rw [show (rowAt P 500 (nI d) : Int32) = P d from rowAt_nI (by omega) (by omega)]
  refine rd_V (As := [.int (nI d), .int (P d)]) (rest := []) (ci := 8) (kX8_freeOf l D cI cB x0 t rdr yr dy ak ac lw dd lf Ya Yfa Ysa Yf Yg Yc Yv la lr lt L K Th (nI d) (P d) (by omega)) ⟨hx, hb, hml, hown, hts⟩ (cwV 2 hts gX8_leastFreeFrom_X8_freeOf rfl rfl rfl (by decide +kernel) ⟨Nat.le_of_ble_eq_true rfl, Nat.le_of_ble_eq_true rfl⟩) hK hP [0, 1, 2, 3, 4, 8, 9, 10, 11] rfl 0 rfl rfl rfl rfl hl.1 (Nat.le_of_ble_eq_true rfl) dX8_leastFreeFrom_10 ⟨Nat.le_refl _, Nat.le_refl _⟩ ?_
  refine lv_istore_n (lv' := [(2, .int (frX (Yf 0) (Yc 0) Th (nI d) (P d))), (0, .ref x0), (1, .int (nI d))]) hx hb dX8_leastFreeFrom_13 rfl hl (by decide) rfl (fun ls hl => ?_)
  refine lv_iload_n hx hb dX8_leastFreeFrom_14 rfl (lv_at hl 2 rfl) ?_
  refine lv_istore_n (lv' := [(3, .int (nI d)), (2, .int (frX (Yf 0) (Yc 0) Th (nI d) (P d))), (0, .ref x0), (1, .int (nI d))]) hx hb dX8_leastFreeFrom_15 rfl hl (by decide) rfl (fun ls hl => ?_)
  have L16 : ∀ (nn_ : Nat) (i : Nat) (hi : i ≤ ed + 1 - d) (xx_v2 : Int32) (xx_v3 : Int32), (500 - (d + i)) < nn_ → xx_v2 = mnX (fun j => frX (Yf 0) (Yc 0) Th (nI j) (P j)) d i → xx_v3 = nI (d + i) → ∀ (ls : Array Slot), lv_has ls 4 [(0, .ref x0), (1, .int (nI d)), (2, .int xx_v2), (3, .int xx_v3)] → W p_ l e_ (RM 4 88) s_ m_ ar_ be_ me_ co_ s_.heap [] 0 0 Q_ (F0 m_ 16 ls []) := by
    intro nn_
    induction nn_ with
    | zero => intro i hi xx_v2 xx_v3 hn_; exact absurd hn_ (Nat.not_lt_zero _)
    | succ nn_ ih16 =>
      intro i hi xx_v2 xx_v3 hn_ e_xx_v2 e_xx_v3 ls hl
      subst e_xx_v2 e_xx_v3
      refine lv_iload_n hx hb dX8_leastFreeFrom_16 rfl (lv_at hl 3 rfl) ?_
      refine lv_aload_n hx hb dX8_leastFreeFrom_17 rfl (lv_at hl 0 rfl) ?_
      refine g_get (C := RX8) (T := TX8) (N := 9) (ci := 8) (index := 26) hx hb hts in_X8_leastFreeFrom_8 hown hK hP 0 2 rfl rfl (by decide) (List.mem_of_getElem? (i := 2) rfl) rfl dX8_leastFreeFrom_18 ?_
      refine g_get (C := RX7) (T := TX7) (N := 14) (ci := 7) (index := 104) hx hb hts in_X8_leastFreeFrom_7 hown hK hP 8 8 rfl rfl (by decide) (List.mem_of_getElem? (i := 3) rfl) rfl dX8_leastFreeFrom_21 ?_
      rw [show (Yv 8 : Int32) = nI ed from hed]
      refine lv_icmp_gt (tgt := 58) hx hb dX8_leastFreeFrom_24 (by decide) (fun c24 => ?_) (fun c24 => ?_)
      · refine lv_iload_n hx hb dX8_leastFreeFrom_58 rfl (lv_at hl 2 rfl) ?_
        exact hret _ _ ls (by have q := lt_nI' (a := ed) (b := d + i) c24 (by omega) (by omega); rw [show i = ed + 1 - d by omega]) dX8_leastFreeFrom_59
      · have hlt : d + i ≤ ed := ge_nI' (a := ed) (b := d + i) c24 (by omega) (by omega)
        refine lv_iload_n hx hb dX8_leastFreeFrom_27 rfl (lv_at hl 3 rfl) ?_
        refine lv_sipush (v := 499) hx hb dX8_leastFreeFrom_28 (by decide) ?_
        refine lv_icmp_gt (tgt := 58) hx hb dX8_leastFreeFrom_31 (by decide) (fun c31 => absurd c31 (nI_nlt (b := d + i) (a := 499) (by omega) (by omega))) (fun c31 => ?_)
        refine lv_iload_n hx hb dX8_leastFreeFrom_34 rfl (lv_at hl 2 rfl) ?_
        refine lv_aload_n hx hb dX8_leastFreeFrom_35 rfl (lv_at hl 0 rfl) ?_
        refine lv_iload_n hx hb dX8_leastFreeFrom_36 rfl (lv_at hl 3 rfl) ?_
        refine lv_aload_n hx hb dX8_leastFreeFrom_37 rfl (lv_at hl 0 rfl) ?_
        refine g_get (C := RX8) (T := TX8) (N := 9) (ci := 8) (index := 43) hx hb hts in_X8_leastFreeFrom_8 hown hK hP 0 5 rfl rfl (by decide) (List.mem_of_getElem? (i := 1) rfl) rfl dX8_leastFreeFrom_38 ?_
        refine lv_iload_n hx hb dX8_leastFreeFrom_41 rfl (lv_at hl 3 rfl) ?_
        refine rd_V (As := [.int (nI (d + i))]) (rest := [.int (nI (d + i)), .ref x0, .int (mnX (fun j => frX (Yf 0) (Yc 0) Th (nI j) (P j)) d i)]) (ci := 0) (kX0_paidAt l D cI cB ac pa dr P R (nI (d + i)) ) ⟨hx, hb, hml, hown, hts⟩ (cwV 1 hts gX8_leastFreeFrom_X0_paidAt rfl rfl rfl (by decide +kernel) ⟨Nat.le_of_ble_eq_true rfl, Nat.le_of_ble_eq_true rfl⟩) hK hP [5, 6, 7] rfl 5 rfl rfl rfl rfl hl.1 (Nat.le_of_ble_eq_true rfl) dX8_leastFreeFrom_42 ⟨Nat.le_refl _, Nat.le_refl _⟩ ?_
        rw [show (rowAt P 500 (nI (d + i)) : Int32) = P (d + i) from rowAt_nI (by omega) (by omega)]
        refine rd_V (As := [.int (nI (d + i)), .int (P (d + i))]) (rest := [.int (mnX (fun j => frX (Yf 0) (Yc 0) Th (nI j) (P j)) d i)]) (ci := 8) (kX8_freeOf l D cI cB x0 t rdr yr dy ak ac lw dd lf Ya Yfa Ysa Yf Yg Yc Yv la lr lt L K Th (nI (d + i)) (P (d + i)) (by omega)) ⟨hx, hb, hml, hown, hts⟩ (cwV 2 hts gX8_leastFreeFrom_X8_freeOf rfl rfl rfl (by decide +kernel) ⟨Nat.le_of_ble_eq_true rfl, Nat.le_of_ble_eq_true rfl⟩) hK hP [0, 1, 2, 3, 4, 8, 9, 10, 11] rfl 0 rfl rfl rfl rfl hl.1 (Nat.le_of_ble_eq_true rfl) dX8_leastFreeFrom_45 ⟨Nat.le_refl _, Nat.le_refl _⟩ ?_
        refine va_mmin hx hb (hml.trans hl.1.symm) hown (hts (.methodLink RX8 273 Lib.Math.min.name) (List.mem_of_getElem? (i := 4) rfl)) (hts (.static Lib.Math.min.name) (List.mem_of_getElem? (i := 5) rfl)) (hts (.initialized "java/lang/Math") (List.mem_of_getElem? (i := 6) rfl)) (hts (.code Lib.Math.min.name Lib.Math.min.code 2 (some .int)) (List.mem_of_getElem? (i := 7) rfl)) (Nat.le_of_ble_eq_true rfl) (Nat.le_of_ble_eq_true rfl) (Nat.le_refl _) (Nat.le_refl _) dX8_leastFreeFrom_48 ?_
        rw [show (if (frX (Yf 0) (Yc 0) Th (nI (d + i)) (P (d + i))) < (mnX (fun j => frX (Yf 0) (Yc 0) Th (nI j) (P j)) d i) then (frX (Yf 0) (Yc 0) Th (nI (d + i)) (P (d + i))) else (mnX (fun j => frX (Yf 0) (Yc 0) Th (nI j) (P j)) d i) : Int32) = min32 (mnX (fun j => frX (Yf 0) (Yc 0) Th (nI j) (P j)) d i) (frX (Yf 0) (Yc 0) Th (nI (d + i)) (P (d + i))) from rfl]
        refine lv_istore_n (lv' := [(2, .int (min32 (mnX (fun j => frX (Yf 0) (Yc 0) Th (nI j) (P j)) d i) (frX (Yf 0) (Yc 0) Th (nI (d + i)) (P (d + i))))), (0, .ref x0), (1, .int (nI d)), (3, .int (nI (d + i)))]) hx hb dX8_leastFreeFrom_51 rfl hl (by decide) rfl (fun ls hl => ?_)
        refine lv_iinc (v := nI ((d + i) + 1)) (lv' := [(3, .int (nI ((d + i) + 1))), (2, .int (min32 (mnX (fun j => frX (Yf 0) (Yc 0) Th (nI j) (P j)) d i) (frX (Yf 0) (Yc 0) Th (nI (d + i)) (P (d + i))))), (0, .ref x0), (1, .int (nI d))]) hx hb dX8_leastFreeFrom_52 hl (k := 3) rfl (nI_add _ 1) (by decide) rfl (fun ls hl => ?_)
        refine lv_goto (tgt := 16) hx hb dX8_leastFreeFrom_55 (by decide) ?_
        exact ih16 (i + 1) (by omega) _ _ (by omega) (rfl) (rfl) ls (lv_sub hl [2, 3, 1, 0] rfl)
  exact L16 (500 - (d + 0) + 1) 0 (by omega) _ _ (Nat.lt_succ_self _) (rfl) (rfl) ls (lv_sub hl [2, 3, 1, 0] rfl)

theorem in_X8_canTurn_8 : ∀ w ∈ wsX80, w ∈ wsX8_canTurn := fun _ h => List.mem_cons_of_mem _ (List.mem_append_left _ (List.mem_append_right _ (h)))
theorem in_X8_canTurn_7 : ∀ w ∈ wsX70, w ∈ wsX8_canTurn := fun _ h => List.mem_cons_of_mem _ (List.mem_append_right _ (h))
set_option maxHeartbeats 4000000 in
set_option maxRecDepth 100000 in
theorem kX8_canTurn (l : Launch) (D : va_G) (cI cB : ClassId) (x0 t rdr yr dy ak ac lw dd : Nat) (lf : Int32) (Ya Yfa Ysa : Nat → Nat) (Yf Yg : Nat → Nat → Int32) (Yc : Nat → Nat) (Yv : Nat → Int32) (r : Int32)  : Rd l D (TY cI cB) yX8_canTurn wsX8_canTurn 2 42 [.ref x0, .int r] [(x0, .inr (8, [.ref t, .ref rdr, .ref yr, .ref dy, .ref ak, .ref ac, .ref lw, .ref dd, .int lf])), (yr, .inr (7, [.ref (Ya 0), .ref (Ya 1), .ref (Ya 2), .ref (Ya 3), .ref (Ya 4), .ref (Ya 5), .int (Yv 6), .int (Yv 7), .int (Yv 8), .int (Yv 9), .int (Yv 10), .int (Yv 11), .int (Yv 12), .int (Yv 13)]))] (if isInM r 0 2 = 0 then 0 else if Yv 13 ^^^ 1 <<< (r &&& 31) = 7 then 0 else 1) := by
  refine rd_z (cc := cX8_canTurn) (maxL := 2) (by decide) rfl (Nat.le_of_ble_eq_true rfl) ?_
  intro p_ e_ s_ m_ ar_ be_ me_ co_ ls Q_ hx hb hml hown hts hP hK hl hret
  have hown : s_.vm.findClass RX8 = some m_.cls := hown
  have hl : lv_has ls 2 [(0, .ref x0), (1, .int r)] := hl
  refine lv_iload_n hx hb dX8_canTurn_0 rfl (lv_at hl 1 rfl) ?_
  refine rd_S (As := [.int r]) (rest := []) (kX8_isRule l D cI cB r ) ⟨hx, hb, hml, hown, hts⟩ (va_cwS 1 hts gX8_canTurn_X8_isRule rfl rfl rfl (by decide +kernel) ⟨Nat.le_of_ble_eq_true rfl, Nat.le_of_ble_eq_true rfl⟩) hK hP [] rfl rfl rfl hl.1 (Nat.le_of_ble_eq_true rfl) dX8_canTurn_1 ⟨Nat.le_refl _, Nat.le_refl _⟩ ?_
  refine lv_if_eq (tgt := 27) hx hb dX8_canTurn_4 (by decide) (fun c4 => ?_) (fun c4 => ?_)
  · refine lv_iconst (v := 0) hx hb dX8_canTurn_27 (by decide) ?_
    exact hret _ _ ls (by simp [c4]) (by decide) dX8_canTurn_28
  · refine lv_aload_n hx hb dX8_canTurn_7 rfl (lv_at hl 0 rfl) ?_
    refine g_get (C := RX8) (T := TX8) (N := 9) (ci := 8) (index := 26) hx hb hts in_X8_canTurn_8 hown hK hP 0 2 rfl rfl (by decide) (List.mem_of_getElem? (i := 1) rfl) rfl dX8_canTurn_8 ?_
    refine g_get (C := RX7) (T := TX7) (N := 14) (ci := 7) (index := 135) hx hb hts in_X8_canTurn_7 hown hK hP 1 13 rfl rfl (by decide) (List.mem_of_getElem? (i := 2) rfl) rfl dX8_canTurn_11 ?_
    refine lv_iconst (v := 1) hx hb dX8_canTurn_14 (by decide) ?_
    refine lv_iload_n hx hb dX8_canTurn_15 rfl (lv_at hl 1 rfl) ?_
    refine lv_ishl hx hb dX8_canTurn_16 ?_
    refine lv_ixor hx hb dX8_canTurn_17 ?_
    refine lv_bipush (v := 7) hx hb dX8_canTurn_18 (by decide) ?_
    refine lv_icmp_eq (tgt := 27) hx hb dX8_canTurn_20 (by decide) (fun c20 => ?_) (fun c20 => ?_)
    · refine lv_iconst (v := 0) hx hb dX8_canTurn_27 (by decide) ?_
      exact hret _ _ ls (by simp [c4, c20]) (by decide) dX8_canTurn_28
    · refine lv_iconst (v := 1) hx hb dX8_canTurn_23 (by decide) ?_
      refine lv_goto (tgt := 28) hx hb dX8_canTurn_24 (by decide) ?_
      exact hret _ _ ls (by simp [c4, c20]) (by decide) dX8_canTurn_28

theorem in_X8_costsWith_8 : ∀ w ∈ wsX80, w ∈ wsX8_costsWith := fun _ h => List.mem_cons_of_mem _ (List.mem_append_left _ (List.mem_append_left _ (List.mem_append_left _ (List.mem_append_left _ (List.mem_append_right _ (h))))))
set_option maxHeartbeats 4000000 in
set_option maxRecDepth 100000 in
theorem kX8_costsWith (l : Launch) (D : va_G) (cI cB : ClassId) (x0 t rdr yr dy ak ac lw dd : Nat) (lf : Int32) (Ya Yfa Ysa : Nat → Nat) (Yf Yg : Nat → Nat → Int32) (Yc : Nat → Nat) (Yv : Nat → Int32) (la lr lt : Nat) (L K Th : Nat → Int32) (pa dr : Nat) (P R : Nat → Int32) (d ed : Nat) (due : Nat → Nat) (x : Int32) (hc0 : Yc 0 ≤ 4) (hdue : ∀ p, p < 4 → rowAt (Yf 0) (Yc 0) (nI p) = nI (due p) ∧ due p ≤ 499) (hed : Yv 8 = nI ed) (hel : ed ≤ 499) (hd : d ≤ 499) : Wr l D (TY cI cB) yX8_costsWith wsX8_costsWith 4 96 [.ref x0, .int (nI d), .int x] [(x0, .inr (8, [.ref t, .ref rdr, .ref yr, .ref dy, .ref ak, .ref ac, .ref lw, .ref dd, .int lf])), (ak, .inr (1, [.ref la, .ref lr, .ref lt])), (la, .inl (cI, 4, .inl L)), (lr, .inl (cI, 4, .inl K)), (lt, .inl (cI, 4, .inl Th)), (ac, .inr (0, [.ref pa, .ref dr])), (pa, .inl (cI, 500, .inl P)), (dr, .inl (cI, 500, .inl R)), (yr, .inr (7, [.ref (Ya 0), .ref (Ya 1), .ref (Ya 2), .ref (Ya 3), .ref (Ya 4), .ref (Ya 5), .int (Yv 6), .int (Yv 7), .int (Yv 8), .int (Yv 9), .int (Yv 10), .int (Yv 11), .int (Yv 12), .int (Yv 13)])), (Ya 0, .inr (5, [.ref (Yfa 0), .ref (Ysa 0), .int (nI (Yc 0))])), (Yfa 0, .inl (cI, 4, .inl (Yf 0))), (Ysa 0, .inl (cI, 4, .inl (Yg 0)))] [(x0, .inr (8, [.ref t, .ref rdr, .ref yr, .ref dy, .ref ak, .ref ac, .ref lw, .ref dd, .int lf])), (ak, .inr (1, [.ref la, .ref lr, .ref lt])), (la, .inl (cI, 4, .inl L)), (lr, .inl (cI, 4, .inl K)), (lt, .inl (cI, 4, .inl Th)), (ac, .inr (0, [.ref pa, .ref dr])), (pa, .inl (cI, 500, .inl P)), (dr, .inl (cI, 500, .inl R)), (yr, .inr (7, [.ref (Ya 0), .ref (Ya 1), .ref (Ya 2), .ref (Ya 3), .ref (Ya 4), .ref (Ya 5), .int (Yv 6), .int (Yv 7), .int (Yv 8), .int (Yv 9), .int (Yv 10), .int (Yv 11), .int (Yv 12), .int (Yv 13)])), (Ya 0, .inr (5, [.ref (Yfa 0), .ref (Ysa 0), .int (nI (Yc 0))])), (Yfa 0, .inl (cI, 4, .inl (Yf 0))), (Ysa 0, .inl (cI, 4, .inl (Yg 0)))] (some (.int (cssX (adF P x d 500) R Th due ed 4))) := by
  refine wr_i (cc := cX8_costsWith) (maxL := 4) (by decide) rfl (Nat.le_of_ble_eq_true rfl) ?_
  intro p_ e_ s_ m_ ar_ be_ me_ co_ ls Q_ A_ hx hb hml hown hts hP hK hD hS hl hret
  have hown : s_.vm.findClass RX8 = some m_.cls := hown
  have hl : lv_has ls 4 [(0, .ref x0), (1, .int (nI d)), (2, .int x)] := hl
  refine lv_aload_n hx hb dX8_costsWith_0 rfl (lv_at hl 0 rfl) ?_
  refine g_get (C := RX8) (T := TX8) (N := 9) (ci := 8) (index := 43) hx hb hts in_X8_costsWith_8 hown hK hP 0 5 rfl rfl (by decide) (List.mem_of_getElem? (i := 1) rfl) rfl dX8_costsWith_1 ?_
  refine lv_iload_n hx hb dX8_costsWith_4 rfl (lv_at hl 1 rfl) ?_
  refine lv_iload_n hx hb dX8_costsWith_5 rfl (lv_at hl 2 rfl) ?_
  refine wp_V (As := [.int (nI d), .int x]) (rest := []) (ci := 0) (ws' := [(x0, .inr (8, [.ref t, .ref rdr, .ref yr, .ref dy, .ref ak, .ref ac, .ref lw, .ref dd, .int lf])), (ak, .inr (1, [.ref la, .ref lr, .ref lt])), (la, .inl (cI, 4, .inl L)), (lr, .inl (cI, 4, .inl K)), (lt, .inl (cI, 4, .inl Th)), (ac, .inr (0, [.ref pa, .ref dr])), (pa, .inl (cI, 500, .inl (adF P x d 500))), (dr, .inl (cI, 500, .inl R)), (yr, .inr (7, [.ref (Ya 0), .ref (Ya 1), .ref (Ya 2), .ref (Ya 3), .ref (Ya 4), .ref (Ya 5), .int (Yv 6), .int (Yv 7), .int (Yv 8), .int (Yv 9), .int (Yv 10), .int (Yv 11), .int (Yv 12), .int (Yv 13)])), (Ya 0, .inr (5, [.ref (Yfa 0), .ref (Ysa 0), .int (nI (Yc 0))])), (Yfa 0, .inl (cI, 4, .inl (Yf 0))), (Ysa 0, .inl (cI, 4, .inl (Yg 0)))]) (kX0_addFrom l D cI cB ac pa dr P R d x (by first | assumption | omega)) ⟨hx, hb, hml, hown, hts⟩ (cwV 2 hts gX8_costsWith_X0_addFrom rfl rfl rfl (by decide +kernel) ⟨Nat.le_of_ble_eq_true rfl, Nat.le_of_ble_eq_true rfl⟩) hK hP hD hS [5, 6, 7] [0, 1, 2, 3, 4, 8, 9, 10, 11] rfl rfl rfl 12 rfl (by decide +kernel) (by decide +kernel) rfl (by decide +kernel) 5 rfl rfl rfl rfl hl.1 (Nat.le_of_ble_eq_true rfl) dX8_costsWith_6 ⟨Nat.le_refl _, Nat.le_refl _⟩ (fun H_ lc_ hP hD hS => ?_)
  show W p_ l e_ (RM 4 96) s_ m_ ar_ be_ me_ co_ H_ lc_ 0 0 Q_ (F0 m_ 9 ls [])
  refine lv_aload_n hx hb dX8_costsWith_9 rfl (lv_at hl 0 rfl) ?_
  refine g_get (C := RX8) (T := TX8) (N := 9) (ci := 8) (index := 43) hx hb hts in_X8_costsWith_8 hown hK hP 0 5 rfl rfl (by decide) (List.mem_of_getElem? (i := 1) rfl) rfl dX8_costsWith_10 ?_
  refine lv_aload_n hx hb dX8_costsWith_13 rfl (lv_at hl 0 rfl) ?_
  refine g_get (C := RX8) (T := TX8) (N := 9) (ci := 8) (index := 26) hx hb hts in_X8_costsWith_8 hown hK hP 0 2 rfl rfl (by decide) (List.mem_of_getElem? (i := 2) rfl) rfl dX8_costsWith_14 ?_
  refine lv_aload_n hx hb dX8_costsWith_17 rfl (lv_at hl 0 rfl) ?_
  refine g_get (C := RX8) (T := TX8) (N := 9) (ci := 8) (index := 36) hx hb hts in_X8_costsWith_8 hown hK hP 0 4 rfl rfl (by decide) (List.mem_of_getElem? (i := 3) rfl) rfl dX8_costsWith_18 ?_
  refine rd_V (As := [.ref yr, .ref ak]) (rest := []) (ci := 0) (kX0_costs l D cI cB ac pa dr (adF P x d 500) R ak la lr lt L K Th yr Ya Yfa Ysa Yf Yg Yc Yv due ed (by first | assumption | omega) (by first | assumption | omega) (by first | assumption | omega) (by first | assumption | omega)) ⟨hx, hb, hml, hown, hts⟩ (cwV 2 hts gX8_costsWith_X0_costs rfl rfl rfl (by decide +kernel) ⟨Nat.le_of_ble_eq_true rfl, Nat.le_of_ble_eq_true rfl⟩) hK hP [5, 6, 7, 8, 9, 10, 11, 1, 2, 3, 4] rfl 5 rfl rfl rfl rfl hl.1 (Nat.le_of_ble_eq_true rfl) dX8_costsWith_21 ⟨Nat.le_refl _, Nat.le_refl _⟩ ?_
  refine lv_istore_n (lv' := [(3, .int (cssX (adF P x d 500) R Th due ed 4)), (0, .ref x0), (1, .int (nI d)), (2, .int x)]) hx hb dX8_costsWith_24 rfl hl (by decide) rfl (fun ls hl => ?_)
  refine lv_aload_n hx hb dX8_costsWith_25 rfl (lv_at hl 1 rfl) ?_
  refine g_get (C := RX8) (T := TX8) (N := 9) (ci := 8) (index := 43) hx hb hts in_X8_costsWith_8 hown hK hP 0 5 rfl rfl (by decide) (List.mem_of_getElem? (i := 1) rfl) rfl dX8_costsWith_26 ?_
  refine lv_iload_n hx hb dX8_costsWith_29 rfl (lv_at hl 2 rfl) ?_
  refine lv_iload_n hx hb dX8_costsWith_30 rfl (lv_at hl 3 rfl) ?_
  refine lv_ineg hx hb dX8_costsWith_31 ?_
  refine wp_V (As := [.int (nI d), .int (-x)]) (rest := []) (ci := 0) (ws' := [(x0, .inr (8, [.ref t, .ref rdr, .ref yr, .ref dy, .ref ak, .ref ac, .ref lw, .ref dd, .int lf])), (ak, .inr (1, [.ref la, .ref lr, .ref lt])), (la, .inl (cI, 4, .inl L)), (lr, .inl (cI, 4, .inl K)), (lt, .inl (cI, 4, .inl Th)), (ac, .inr (0, [.ref pa, .ref dr])), (pa, .inl (cI, 500, .inl (adF (adF P x d 500) (-x) d 500))), (dr, .inl (cI, 500, .inl R)), (yr, .inr (7, [.ref (Ya 0), .ref (Ya 1), .ref (Ya 2), .ref (Ya 3), .ref (Ya 4), .ref (Ya 5), .int (Yv 6), .int (Yv 7), .int (Yv 8), .int (Yv 9), .int (Yv 10), .int (Yv 11), .int (Yv 12), .int (Yv 13)])), (Ya 0, .inr (5, [.ref (Yfa 0), .ref (Ysa 0), .int (nI (Yc 0))])), (Yfa 0, .inl (cI, 4, .inl (Yf 0))), (Ysa 0, .inl (cI, 4, .inl (Yg 0)))]) (kX0_addFrom l D cI cB ac pa dr (adF P x d 500) R d (-x) (by first | assumption | omega)) ⟨hx, hb, hml, hown, hts⟩ (cwV 2 hts gX8_costsWith_X0_addFrom rfl rfl rfl (by decide +kernel) ⟨Nat.le_of_ble_eq_true rfl, Nat.le_of_ble_eq_true rfl⟩) hK hP hD hS [5, 6, 7] [0, 1, 2, 3, 4, 8, 9, 10, 11] rfl rfl rfl 12 rfl (by decide +kernel) (by decide +kernel) rfl (by decide +kernel) 5 rfl rfl rfl rfl hl.1 (Nat.le_of_ble_eq_true rfl) dX8_costsWith_32 ⟨Nat.le_refl _, Nat.le_refl _⟩ (fun H_ lc_ hP hD hS => ?_)
  show W p_ l e_ (RM 4 96) s_ m_ ar_ be_ me_ co_ H_ lc_ 0 0 Q_ (F0 m_ 35 ls [])
  refine lv_iload_n hx hb dX8_costsWith_35 rfl (lv_at hl 0 rfl) ?_
  exact hret _ _ _ _ ls hS (by rw [adF_undo] at hP; exact hP) (rfl) dX8_costsWith_36

