theorem in_X5_dropLast2_5 : ∀ w ∈ wsX50, w ∈ wsX5_dropLast := fun _ h => List.mem_cons_of_mem _ (List.mem_append_right _ (h))
set_option maxHeartbeats 4000000 in
set_option maxRecDepth 100000 in
theorem kX5_dropLast2 (l : Launch) (D : va_G) (cI cB : ClassId) (a fa sa N c : Nat) (f g : Nat → Int32) (hc : 1 ≤ c) (hN : c ≤ 1000) : Wr l D (TY cI cB) yX5_dropLast wsX5_dropLast 1 21 [.ref a] [(a, .inr (5, [.ref fa, .ref sa, .int (nI c)])), (fa, .inl (cI, N, .inl f)), (sa, .inl (cI, N, .inl g))] [(a, .inr (5, [.ref fa, .ref sa, .int (nI (c - 1))])), (fa, .inl (cI, N, .inl f)), (sa, .inl (cI, N, .inl g))] none := by
  refine wr_v (cc := cX5_dropLast) (maxL := 1) (by decide) rfl (Nat.le_of_ble_eq_true rfl) ?_
  intro p_ e_ s_ m_ ar_ be_ me_ co_ ls Q_ A_ hx hb hml hown hts hP hK hD hS hl hret
  have hown : s_.vm.findClass RX5 = some m_.cls := hown
  have hl : lv_has ls 1 [(0, .ref a)] := hl
  refine lv_aload_n hx hb dX5_dropLast_0 rfl (lv_at hl 0 rfl) ?_
  refine lv_iconst (v := 0) hx hb dX5_dropLast_1 (by decide) ?_
  refine lv_aload_n hx hb dX5_dropLast_2 rfl (lv_at hl 0 rfl) ?_
  refine g_get (C := RX5) (T := TX5) (N := 3) (ci := 5) (index := 24) hx hb hts in_X5_dropLast2_5 hown hK hP 0 2 rfl rfl (by decide) (List.mem_of_getElem? (i := 1) rfl) rfl dX5_dropLast_3 ?_
  refine lv_iconst (v := 1) hx hb dX5_dropLast_6 (by decide) ?_
  refine lv_isub hx hb dX5_dropLast_7 ?_
  rw [show ((nI c) - 1 : Int32) = nI (c - 1) from pk_sub (a := c) (b := 1) hc]
  refine va_mmax hx hb (hml.trans hl.1.symm) hown (hts (.methodLink RX5 9 Lib.Math.max.name) (List.mem_of_getElem? (i := 2) rfl)) (hts (.static Lib.Math.max.name) (List.mem_of_getElem? (i := 3) rfl)) (hts (.initialized "java/lang/Math") (List.mem_of_getElem? (i := 4) rfl)) (hts (.code Lib.Math.max.name Lib.Math.max.code 2 (some .int)) (List.mem_of_getElem? (i := 5) rfl)) (Nat.le_of_ble_eq_true rfl) (Nat.le_of_ble_eq_true rfl) (Nat.le_refl _) (Nat.le_refl _) dX5_dropLast_8 ?_
  rw [show (if 0 < (nI (c - 1)) then (nI (c - 1)) else 0 : Int32) = max32 0 (nI (c - 1)) from rfl]
  rw [show (max32 0 (nI (c - 1)) : Int32) = nI (c - 1) from max0_nI (c - 1) (by omega)]
  refine g_put (C := RX5) (T := TX5) (N := 3) (ci := 5) (index := 24) (v := .int (nI (c - 1))) (ws' := [(a, .inr (5, [.ref fa, .ref sa, .int (nI (c - 1))])), (fa, .inl (cI, N, .inl f)), (sa, .inl (cI, N, .inl g))]) hx hb hts in_X5_dropLast2_5 tyX5 tyX5_ok nmX5 hown hK hP hD hS 0 2 rfl rfl (by decide) (List.mem_of_getElem? (i := 1) rfl) rfl rfl rfl (Nat.le_of_ble_eq_true rfl) dX5_dropLast_11 rfl (fun H_ lc_ hP hD hS => ?_)
  exact hret _ _ _ ls hS (hP) dX5_dropLast_14

theorem in_X8_undo_8 : ∀ w ∈ wsX80, w ∈ wsX8_undo := fun _ h => List.mem_cons_of_mem _ (List.mem_append_left _ (List.mem_append_left _ (List.mem_append_left _ (List.mem_append_right _ (h)))))
theorem in_X8_undo_7 : ∀ w ∈ wsX70, w ∈ wsX8_undo := fun _ h => List.mem_cons_of_mem _ (List.mem_append_left _ (List.mem_append_left _ (List.mem_append_right _ (h))))
theorem in_X8_undo_2 : ∀ w ∈ wsX20, w ∈ wsX8_undo := fun _ h => List.mem_cons_of_mem _ (List.mem_append_left _ (List.mem_append_right _ (h)))
set_option maxHeartbeats 4000000 in
set_option maxRecDepth 100000 in
theorem kX8_undo (l : Launch) (D : va_G) (cI cB : ClassId) (x0 t rdr yr dy ak ac lw dd : Nat) (lf : Int32) (Ya Yfa Ysa : Nat → Nat) (Yf Yg : Nat → Nat → Int32) (Yc : Nat → Nat) (Yv : Nat → Int32) (dk dn : Nat) (DK : Nat → Int32) (hc3 : Yc 3 ≤ 40) (hc4 : Yc 4 ≤ 40) (hc5 : Yc 5 ≤ 20) (hdn : dn ≤ 12) (hu3 : tlR DK dn = 0 → 1 ≤ Yc 3) (hu4 : tlR DK dn = 1 → 1 ≤ Yc 4) (hu5 : tlR DK dn = 2 → 1 ≤ Yc 5) : Wr l D (TY cI cB) yX8_undo wsX8_undo 2 41 [.ref x0] [(x0, .inr (8, [.ref t, .ref rdr, .ref yr, .ref dy, .ref ak, .ref ac, .ref lw, .ref dd, .int lf])), (yr, .inr (7, [.ref (Ya 0), .ref (Ya 1), .ref (Ya 2), .ref (Ya 3), .ref (Ya 4), .ref (Ya 5), .int (Yv 6), .int (Yv 7), .int (Yv 8), .int (Yv 9), .int (Yv 10), .int (Yv 11), .int (Yv 12), .int (Yv 13)])), (Ya 3, .inr (5, [.ref (Yfa 3), .ref (Ysa 3), .int (nI (Yc 3))])), (Yfa 3, .inl (cI, 40, .inl (Yf 3))), (Ysa 3, .inl (cI, 40, .inl (Yg 3))), (Ya 4, .inr (5, [.ref (Yfa 4), .ref (Ysa 4), .int (nI (Yc 4))])), (Yfa 4, .inl (cI, 40, .inl (Yf 4))), (Ysa 4, .inl (cI, 40, .inl (Yg 4))), (Ya 5, .inr (5, [.ref (Yfa 5), .ref (Ysa 5), .int (nI (Yc 5))])), (Yfa 5, .inl (cI, 20, .inl (Yf 5))), (Ysa 5, .inl (cI, 20, .inl (Yg 5))), (dd, .inr (2, [.ref dk, .int (nI dn)])), (dk, .inl (cI, 12, .inl DK))] [(x0, .inr (8, [.ref t, .ref rdr, .ref yr, .ref dy, .ref ak, .ref ac, .ref lw, .ref dd, .int lf])), (yr, .inr (7, [.ref (Ya 0), .ref (Ya 1), .ref (Ya 2), .ref (Ya 3), .ref (Ya 4), .ref (Ya 5), .int (Yv 6), .int (Yv 7), .int (Yv 8), .int (Yv 9), .int (Yv 10), .int (Yv 11), .int (Yv 12), .int (if tlR DK dn = -1 then Yv 13 else if tlR DK dn = 0 then Yv 13 else if tlR DK dn = 1 then Yv 13 else if tlR DK dn = 2 then Yv 13 else Yv 13 ^^^ 1 <<< (tlR DK dn - 3 &&& 31))])), (Ya 3, .inr (5, [.ref (Yfa 3), .ref (Ysa 3), .int (nI (if tlR DK dn = 0 then Yc 3 - 1 else Yc 3))])), (Yfa 3, .inl (cI, 40, .inl (Yf 3))), (Ysa 3, .inl (cI, 40, .inl (Yg 3))), (Ya 4, .inr (5, [.ref (Yfa 4), .ref (Ysa 4), .int (nI (if tlR DK dn = 1 then Yc 4 - 1 else Yc 4))])), (Yfa 4, .inl (cI, 40, .inl (Yf 4))), (Ysa 4, .inl (cI, 40, .inl (Yg 4))), (Ya 5, .inr (5, [.ref (Yfa 5), .ref (Ysa 5), .int (nI (if tlR DK dn = 2 then Yc 5 - 1 else Yc 5))])), (Yfa 5, .inl (cI, 20, .inl (Yf 5))), (Ysa 5, .inl (cI, 20, .inl (Yg 5))), (dd, .inr (2, [.ref dk, .int (nI (dn - 1))])), (dk, .inl (cI, 12, .inl DK))] (some (.int (if tlR DK dn = -1 then -1 else nI (dn - 1)))) := by
  refine wr_i (cc := cX8_undo) (maxL := 2) (by decide) rfl (Nat.le_of_ble_eq_true rfl) ?_
  intro p_ e_ s_ m_ ar_ be_ me_ co_ ls Q_ A_ hx hb hml hown hts hP hK hD hS hl hret
  have hown : s_.vm.findClass RX8 = some m_.cls := hown
  have hl : lv_has ls 2 [(0, .ref x0)] := hl
  refine lv_aload_n hx hb dX8_undo_0 rfl (lv_at hl 0 rfl) ?_
  refine g_get (C := RX8) (T := TX8) (N := 9) (ci := 8) (index := 57) hx hb hts in_X8_undo_8 hown hK hP 0 7 rfl rfl (by decide) (List.mem_of_getElem? (i := 1) rfl) rfl dX8_undo_1 ?_
  refine wp_V (As := []) (rest := []) (ci := 2) (ws' := [(x0, .inr (8, [.ref t, .ref rdr, .ref yr, .ref dy, .ref ak, .ref ac, .ref lw, .ref dd, .int lf])), (yr, .inr (7, [.ref (Ya 0), .ref (Ya 1), .ref (Ya 2), .ref (Ya 3), .ref (Ya 4), .ref (Ya 5), .int (Yv 6), .int (Yv 7), .int (Yv 8), .int (Yv 9), .int (Yv 10), .int (Yv 11), .int (Yv 12), .int (Yv 13)])), (Ya 3, .inr (5, [.ref (Yfa 3), .ref (Ysa 3), .int (nI (Yc 3))])), (Yfa 3, .inl (cI, 40, .inl (Yf 3))), (Ysa 3, .inl (cI, 40, .inl (Yg 3))), (Ya 4, .inr (5, [.ref (Yfa 4), .ref (Ysa 4), .int (nI (Yc 4))])), (Yfa 4, .inl (cI, 40, .inl (Yf 4))), (Ysa 4, .inl (cI, 40, .inl (Yg 4))), (Ya 5, .inr (5, [.ref (Yfa 5), .ref (Ysa 5), .int (nI (Yc 5))])), (Yfa 5, .inl (cI, 20, .inl (Yf 5))), (Ysa 5, .inl (cI, 20, .inl (Yg 5))), (dd, .inr (2, [.ref dk, .int (nI (dn - 1))])), (dk, .inl (cI, 12, .inl DK))]) (kX2_takeLatest l D cI cB dd dk dn DK (by omega)) ⟨hx, hb, hml, hown, hts⟩ (cwV 0 hts gX8_undo_X2_takeLatest rfl rfl rfl (by decide +kernel) ⟨Nat.le_of_ble_eq_true rfl, Nat.le_of_ble_eq_true rfl⟩) hK hP hD hS [11, 12] [0, 1, 2, 3, 4, 5, 6, 7, 8, 9, 10] rfl rfl rfl 13 rfl (by decide +kernel) (by decide +kernel) rfl (by decide +kernel) 11 rfl rfl rfl rfl hl.1 (Nat.le_of_ble_eq_true rfl) dX8_undo_4 ⟨Nat.le_refl _, Nat.le_refl _⟩ (fun H_ lc_ hP hD hS => ?_)
  show W p_ l e_ (RM 2 41) s_ m_ ar_ be_ me_ co_ H_ lc_ 0 0 Q_ (F0 m_ 7 ls [.int (tlR DK dn)])
  refine lv_istore_n (lv' := [(1, .int (tlR DK dn)), (0, .ref x0)]) hx hb dX8_undo_7 rfl hl (by decide) rfl (fun ls hl => ?_)
  refine lv_iload_n hx hb dX8_undo_8 rfl (lv_at hl 0 rfl) ?_
  by_cases c9_m1 : (tlR DK dn) = (-1 : Int32)
  · refine lv_tableIn (off := 31) (tgt := 40) hx hb dX8_undo_9 (by rw [c9_m1]; decide +kernel) (by rw [c9_m1]; decide +kernel) (by rw [c9_m1]; decide +kernel) (by decide) ?_
    have n0 : ¬ tlR DK dn = 0 := by rw [c9_m1]; decide
    have n1 : ¬ tlR DK dn = 1 := by rw [c9_m1]; decide
    have n2 : ¬ tlR DK dn = 2 := by rw [c9_m1]; decide
    refine lv_iconst (v := -1) hx hb dX8_undo_40 (by decide) ?_
    exact hret _ _ _ _ ls hS (by simpa only [if_pos c9_m1, if_neg n0, if_neg n1, if_neg n2] using hP) (by rw [if_pos c9_m1]) dX8_undo_41
  by_cases c9_0 : (tlR DK dn) = (0 : Int32)
  · refine lv_tableIn (off := 33) (tgt := 42) hx hb dX8_undo_9 (by rw [c9_0]; decide) (by rw [c9_0]; decide) (by rw [c9_0]; decide +kernel) (by decide) ?_
    have n1 : ¬ tlR DK dn = 1 := by rw [c9_0]; decide
    have n2 : ¬ tlR DK dn = 2 := by rw [c9_0]; decide
    refine lv_aload_n hx hb dX8_undo_42 rfl (lv_at hl 1 rfl) ?_
    refine g_get (C := RX8) (T := TX8) (N := 9) (ci := 8) (index := 26) hx hb hts in_X8_undo_8 hown hK hP 0 2 rfl rfl (by decide) (List.mem_of_getElem? (i := 2) rfl) rfl dX8_undo_43 ?_
    refine g_get (C := RX7) (T := TX7) (N := 14) (ci := 7) (index := 148) hx hb hts in_X8_undo_7 hown hK hP 1 3 rfl rfl (by decide) (List.mem_of_getElem? (i := 3) rfl) rfl dX8_undo_46 ?_
    refine wp_V (As := []) (rest := []) (ci := 5) (ws' := [(x0, .inr (8, [.ref t, .ref rdr, .ref yr, .ref dy, .ref ak, .ref ac, .ref lw, .ref dd, .int lf])), (yr, .inr (7, [.ref (Ya 0), .ref (Ya 1), .ref (Ya 2), .ref (Ya 3), .ref (Ya 4), .ref (Ya 5), .int (Yv 6), .int (Yv 7), .int (Yv 8), .int (Yv 9), .int (Yv 10), .int (Yv 11), .int (Yv 12), .int (Yv 13)])), (Ya 3, .inr (5, [.ref (Yfa 3), .ref (Ysa 3), .int (nI ((Yc 3) - 1))])), (Yfa 3, .inl (cI, 40, .inl (Yf 3))), (Ysa 3, .inl (cI, 40, .inl (Yg 3))), (Ya 4, .inr (5, [.ref (Yfa 4), .ref (Ysa 4), .int (nI (Yc 4))])), (Yfa 4, .inl (cI, 40, .inl (Yf 4))), (Ysa 4, .inl (cI, 40, .inl (Yg 4))), (Ya 5, .inr (5, [.ref (Yfa 5), .ref (Ysa 5), .int (nI (Yc 5))])), (Yfa 5, .inl (cI, 20, .inl (Yf 5))), (Ysa 5, .inl (cI, 20, .inl (Yg 5))), (dd, .inr (2, [.ref dk, .int (nI (dn - 1))])), (dk, .inl (cI, 12, .inl DK))]) (kX5_dropLast2 l D cI cB (Ya 3) (Yfa 3) (Ysa 3) 40 (Yc 3) (Yf 3) (Yg 3) (hu3 c9_0) (by omega)) ⟨hx, hb, hml, hown, hts⟩ (cwV 0 hts gX8_undo_X5_dropLast rfl rfl rfl (by decide +kernel) ⟨Nat.le_of_ble_eq_true rfl, Nat.le_of_ble_eq_true rfl⟩) hK hP hD hS [2, 3, 4] [0, 1, 5, 6, 7, 8, 9, 10, 11, 12] rfl rfl rfl 13 rfl (by decide +kernel) (by decide +kernel) rfl (by decide +kernel) 2 rfl rfl rfl rfl hl.1 (Nat.le_of_ble_eq_true rfl) dX8_undo_49 ⟨Nat.le_refl _, Nat.le_refl _⟩ (fun H_ lc_ hP hD hS => ?_)
    show W p_ l e_ (RM 2 41) s_ m_ ar_ be_ me_ co_ H_ lc_ 0 0 Q_ (F0 m_ 52 ls [])
    refine lv_goto (tgt := 98) hx hb dX8_undo_52 (by decide) ?_
    refine lv_aload_n hx hb dX8_undo_98 rfl (lv_at hl 1 rfl) ?_
    refine g_get (C := RX8) (T := TX8) (N := 9) (ci := 8) (index := 57) hx hb hts in_X8_undo_8 hown hK hP 0 7 rfl rfl (by decide) (List.mem_of_getElem? (i := 1) rfl) rfl dX8_undo_99 ?_
    refine g_get (C := RX2) (T := TX2) (N := 2) (ci := 2) (index := 90) hx hb hts in_X8_undo_2 hown hK hP 11 1 rfl rfl (by decide) (List.mem_of_getElem? (i := 7) rfl) rfl dX8_undo_102 ?_
    exact hret _ _ _ _ ls hS (by simpa only [if_neg c9_m1, if_pos c9_0, if_neg n1, if_neg n2] using hP) (by rw [if_neg c9_m1]) dX8_undo_105
  by_cases c9_1 : (tlR DK dn) = (1 : Int32)
  · refine lv_tableIn (off := 46) (tgt := 55) hx hb dX8_undo_9 (by rw [c9_1]; decide) (by rw [c9_1]; decide) (by rw [c9_1]; decide +kernel) (by decide) ?_
    have n0 : ¬ tlR DK dn = 0 := by rw [c9_1]; decide
    have n2 : ¬ tlR DK dn = 2 := by rw [c9_1]; decide
    refine lv_aload_n hx hb dX8_undo_55 rfl (lv_at hl 1 rfl) ?_
    refine g_get (C := RX8) (T := TX8) (N := 9) (ci := 8) (index := 26) hx hb hts in_X8_undo_8 hown hK hP 0 2 rfl rfl (by decide) (List.mem_of_getElem? (i := 2) rfl) rfl dX8_undo_56 ?_
    refine g_get (C := RX7) (T := TX7) (N := 14) (ci := 7) (index := 117) hx hb hts in_X8_undo_7 hown hK hP 1 4 rfl rfl (by decide) (List.mem_of_getElem? (i := 4) rfl) rfl dX8_undo_59 ?_
    refine wp_V (As := []) (rest := []) (ci := 5) (ws' := [(x0, .inr (8, [.ref t, .ref rdr, .ref yr, .ref dy, .ref ak, .ref ac, .ref lw, .ref dd, .int lf])), (yr, .inr (7, [.ref (Ya 0), .ref (Ya 1), .ref (Ya 2), .ref (Ya 3), .ref (Ya 4), .ref (Ya 5), .int (Yv 6), .int (Yv 7), .int (Yv 8), .int (Yv 9), .int (Yv 10), .int (Yv 11), .int (Yv 12), .int (Yv 13)])), (Ya 3, .inr (5, [.ref (Yfa 3), .ref (Ysa 3), .int (nI (Yc 3))])), (Yfa 3, .inl (cI, 40, .inl (Yf 3))), (Ysa 3, .inl (cI, 40, .inl (Yg 3))), (Ya 4, .inr (5, [.ref (Yfa 4), .ref (Ysa 4), .int (nI ((Yc 4) - 1))])), (Yfa 4, .inl (cI, 40, .inl (Yf 4))), (Ysa 4, .inl (cI, 40, .inl (Yg 4))), (Ya 5, .inr (5, [.ref (Yfa 5), .ref (Ysa 5), .int (nI (Yc 5))])), (Yfa 5, .inl (cI, 20, .inl (Yf 5))), (Ysa 5, .inl (cI, 20, .inl (Yg 5))), (dd, .inr (2, [.ref dk, .int (nI (dn - 1))])), (dk, .inl (cI, 12, .inl DK))]) (kX5_dropLast2 l D cI cB (Ya 4) (Yfa 4) (Ysa 4) 40 (Yc 4) (Yf 4) (Yg 4) (hu4 c9_1) (by omega)) ⟨hx, hb, hml, hown, hts⟩ (cwV 0 hts gX8_undo_X5_dropLast rfl rfl rfl (by decide +kernel) ⟨Nat.le_of_ble_eq_true rfl, Nat.le_of_ble_eq_true rfl⟩) hK hP hD hS [5, 6, 7] [0, 1, 2, 3, 4, 8, 9, 10, 11, 12] rfl rfl rfl 13 rfl (by decide +kernel) (by decide +kernel) rfl (by decide +kernel) 5 rfl rfl rfl rfl hl.1 (Nat.le_of_ble_eq_true rfl) dX8_undo_62 ⟨Nat.le_refl _, Nat.le_refl _⟩ (fun H_ lc_ hP hD hS => ?_)
    show W p_ l e_ (RM 2 41) s_ m_ ar_ be_ me_ co_ H_ lc_ 0 0 Q_ (F0 m_ 65 ls [])
    refine lv_goto (tgt := 98) hx hb dX8_undo_65 (by decide) ?_
    refine lv_aload_n hx hb dX8_undo_98 rfl (lv_at hl 1 rfl) ?_
    refine g_get (C := RX8) (T := TX8) (N := 9) (ci := 8) (index := 57) hx hb hts in_X8_undo_8 hown hK hP 0 7 rfl rfl (by decide) (List.mem_of_getElem? (i := 1) rfl) rfl dX8_undo_99 ?_
    refine g_get (C := RX2) (T := TX2) (N := 2) (ci := 2) (index := 90) hx hb hts in_X8_undo_2 hown hK hP 11 1 rfl rfl (by decide) (List.mem_of_getElem? (i := 7) rfl) rfl dX8_undo_102 ?_
    exact hret _ _ _ _ ls hS (by simpa only [if_neg c9_m1, if_pos c9_1, if_neg n0, if_neg n2] using hP) (by rw [if_neg c9_m1]) dX8_undo_105
  by_cases c9_2 : (tlR DK dn) = (2 : Int32)
  · refine lv_tableIn (off := 59) (tgt := 68) hx hb dX8_undo_9 (by rw [c9_2]; decide) (by rw [c9_2]; decide) (by rw [c9_2]; decide +kernel) (by decide) ?_
    have n0 : ¬ tlR DK dn = 0 := by rw [c9_2]; decide
    have n1 : ¬ tlR DK dn = 1 := by rw [c9_2]; decide
    refine lv_aload_n hx hb dX8_undo_68 rfl (lv_at hl 1 rfl) ?_
    refine g_get (C := RX8) (T := TX8) (N := 9) (ci := 8) (index := 26) hx hb hts in_X8_undo_8 hown hK hP 0 2 rfl rfl (by decide) (List.mem_of_getElem? (i := 2) rfl) rfl dX8_undo_69 ?_
    refine g_get (C := RX7) (T := TX7) (N := 14) (ci := 7) (index := 124) hx hb hts in_X8_undo_7 hown hK hP 1 5 rfl rfl (by decide) (List.mem_of_getElem? (i := 5) rfl) rfl dX8_undo_72 ?_
    refine wp_V (As := []) (rest := []) (ci := 5) (ws' := [(x0, .inr (8, [.ref t, .ref rdr, .ref yr, .ref dy, .ref ak, .ref ac, .ref lw, .ref dd, .int lf])), (yr, .inr (7, [.ref (Ya 0), .ref (Ya 1), .ref (Ya 2), .ref (Ya 3), .ref (Ya 4), .ref (Ya 5), .int (Yv 6), .int (Yv 7), .int (Yv 8), .int (Yv 9), .int (Yv 10), .int (Yv 11), .int (Yv 12), .int (Yv 13)])), (Ya 3, .inr (5, [.ref (Yfa 3), .ref (Ysa 3), .int (nI (Yc 3))])), (Yfa 3, .inl (cI, 40, .inl (Yf 3))), (Ysa 3, .inl (cI, 40, .inl (Yg 3))), (Ya 4, .inr (5, [.ref (Yfa 4), .ref (Ysa 4), .int (nI (Yc 4))])), (Yfa 4, .inl (cI, 40, .inl (Yf 4))), (Ysa 4, .inl (cI, 40, .inl (Yg 4))), (Ya 5, .inr (5, [.ref (Yfa 5), .ref (Ysa 5), .int (nI ((Yc 5) - 1))])), (Yfa 5, .inl (cI, 20, .inl (Yf 5))), (Ysa 5, .inl (cI, 20, .inl (Yg 5))), (dd, .inr (2, [.ref dk, .int (nI (dn - 1))])), (dk, .inl (cI, 12, .inl DK))]) (kX5_dropLast2 l D cI cB (Ya 5) (Yfa 5) (Ysa 5) 20 (Yc 5) (Yf 5) (Yg 5) (hu5 c9_2) (by omega)) ⟨hx, hb, hml, hown, hts⟩ (cwV 0 hts gX8_undo_X5_dropLast rfl rfl rfl (by decide +kernel) ⟨Nat.le_of_ble_eq_true rfl, Nat.le_of_ble_eq_true rfl⟩) hK hP hD hS [8, 9, 10] [0, 1, 2, 3, 4, 5, 6, 7, 11, 12] rfl rfl rfl 13 rfl (by decide +kernel) (by decide +kernel) rfl (by decide +kernel) 8 rfl rfl rfl rfl hl.1 (Nat.le_of_ble_eq_true rfl) dX8_undo_75 ⟨Nat.le_refl _, Nat.le_refl _⟩ (fun H_ lc_ hP hD hS => ?_)
    show W p_ l e_ (RM 2 41) s_ m_ ar_ be_ me_ co_ H_ lc_ 0 0 Q_ (F0 m_ 78 ls [])
    refine lv_goto (tgt := 98) hx hb dX8_undo_78 (by decide) ?_
    refine lv_aload_n hx hb dX8_undo_98 rfl (lv_at hl 1 rfl) ?_
    refine g_get (C := RX8) (T := TX8) (N := 9) (ci := 8) (index := 57) hx hb hts in_X8_undo_8 hown hK hP 0 7 rfl rfl (by decide) (List.mem_of_getElem? (i := 1) rfl) rfl dX8_undo_99 ?_
    refine g_get (C := RX2) (T := TX2) (N := 2) (ci := 2) (index := 90) hx hb hts in_X8_undo_2 hown hK hP 11 1 rfl rfl (by decide) (List.mem_of_getElem? (i := 7) rfl) rfl dX8_undo_102 ?_
    exact hret _ _ _ _ ls hS (by simpa only [if_neg c9_m1, if_pos c9_2, if_neg n0, if_neg n1] using hP) (by rw [if_neg c9_m1]) dX8_undo_105
  refine lv_tableOut (tgt := 81) hx hb dX8_undo_9 (by have q0 := lv_neT (a := -1) c9_m1 (by decide +kernel); have q1 := lv_neT (a := 0) c9_0 rfl; have q2 := lv_neT (a := 1) c9_1 rfl; have q3 := lv_neT (a := 2) c9_2 rfl; omega) (by decide) ?_
  refine lv_aload_n hx hb dX8_undo_81 rfl (lv_at hl 1 rfl) ?_
  refine g_get (C := RX8) (T := TX8) (N := 9) (ci := 8) (index := 26) hx hb hts in_X8_undo_8 hown hK hP 0 2 rfl rfl (by decide) (List.mem_of_getElem? (i := 2) rfl) rfl dX8_undo_82 ?_
  refine lv_dup hx hb dX8_undo_85 rfl ?_
  refine g_get (C := RX7) (T := TX7) (N := 14) (ci := 7) (index := 135) hx hb hts in_X8_undo_7 hown hK hP 1 13 rfl rfl (by decide) (List.mem_of_getElem? (i := 6) rfl) rfl dX8_undo_86 ?_
  refine lv_iconst (v := 1) hx hb dX8_undo_89 (by decide) ?_
  refine lv_iload_n hx hb dX8_undo_90 rfl (lv_at hl 0 rfl) ?_
  refine lv_iconst (v := 3) hx hb dX8_undo_91 (by decide) ?_
  refine lv_isub hx hb dX8_undo_92 ?_
  refine lv_ishl hx hb dX8_undo_93 ?_
  refine lv_ixor hx hb dX8_undo_94 ?_
  refine g_put (C := RX7) (T := TX7) (N := 14) (ci := 7) (index := 135) (v := .int ((Yv 13) ^^^ (1 <<< (((tlR DK dn) - 3) &&& 31)))) (ws' := [(x0, .inr (8, [.ref t, .ref rdr, .ref yr, .ref dy, .ref ak, .ref ac, .ref lw, .ref dd, .int lf])), (yr, .inr (7, [.ref (Ya 0), .ref (Ya 1), .ref (Ya 2), .ref (Ya 3), .ref (Ya 4), .ref (Ya 5), .int (Yv 6), .int (Yv 7), .int (Yv 8), .int (Yv 9), .int (Yv 10), .int (Yv 11), .int (Yv 12), .int ((Yv 13) ^^^ (1 <<< (((tlR DK dn) - 3) &&& 31)))])), (Ya 3, .inr (5, [.ref (Yfa 3), .ref (Ysa 3), .int (nI (Yc 3))])), (Yfa 3, .inl (cI, 40, .inl (Yf 3))), (Ysa 3, .inl (cI, 40, .inl (Yg 3))), (Ya 4, .inr (5, [.ref (Yfa 4), .ref (Ysa 4), .int (nI (Yc 4))])), (Yfa 4, .inl (cI, 40, .inl (Yf 4))), (Ysa 4, .inl (cI, 40, .inl (Yg 4))), (Ya 5, .inr (5, [.ref (Yfa 5), .ref (Ysa 5), .int (nI (Yc 5))])), (Yfa 5, .inl (cI, 20, .inl (Yf 5))), (Ysa 5, .inl (cI, 20, .inl (Yg 5))), (dd, .inr (2, [.ref dk, .int (nI (dn - 1))])), (dk, .inl (cI, 12, .inl DK))]) hx hb hts in_X8_undo_7 tyX7 tyX7_ok nmX7 hown hK hP hD hS 1 13 rfl rfl (by decide) (List.mem_of_getElem? (i := 6) rfl) rfl rfl rfl (Nat.le_of_ble_eq_true rfl) dX8_undo_95 rfl (fun H_ lc_ hP hD hS => ?_)
  refine lv_aload_n hx hb dX8_undo_98 rfl (lv_at hl 1 rfl) ?_
  refine g_get (C := RX8) (T := TX8) (N := 9) (ci := 8) (index := 57) hx hb hts in_X8_undo_8 hown hK hP 0 7 rfl rfl (by decide) (List.mem_of_getElem? (i := 1) rfl) rfl dX8_undo_99 ?_
  refine g_get (C := RX2) (T := TX2) (N := 2) (ci := 2) (index := 90) hx hb hts in_X8_undo_2 hown hK hP 11 1 rfl rfl (by decide) (List.mem_of_getElem? (i := 7) rfl) rfl dX8_undo_102 ?_
  exact hret _ _ _ _ ls hS (by simpa only [if_neg c9_m1, if_neg c9_0, if_neg c9_1, if_neg c9_2] using hP) (by rw [if_neg c9_m1]) dX8_undo_105

