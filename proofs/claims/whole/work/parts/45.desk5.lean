theorem in_X8_bar_8 : ∀ w ∈ wsX80, w ∈ wsX8_bar := fun _ h => List.mem_cons_of_mem _ (List.mem_append_left _ (List.mem_append_left _ (List.mem_append_right _ (h))))
theorem in_X8_bar_7 : ∀ w ∈ wsX70, w ∈ wsX8_bar := fun _ h => List.mem_cons_of_mem _ (List.mem_append_left _ (List.mem_append_right _ (h)))
set_option maxHeartbeats 4000000 in
set_option maxRecDepth 100000 in
theorem kX8_bar (l : Launch) (D : va_G) (cI cB : ClassId) (x0 t rdr yr dy ak ac lw dd : Nat) (lf : Int32) (Ya Yfa Ysa : Nat → Nat) (Yf Yg : Nat → Nat → Int32) (Yc : Nat → Nat) (Yv : Nat → Int32) (dk dn : Nat) (DK : Nat → Int32) (r : Int32) (hdn : dn ≤ 12) : Wr l D (TY cI cB) yX8_bar wsX8_bar 3 63 [.ref x0, .int r] [(x0, .inr (8, [.ref t, .ref rdr, .ref yr, .ref dy, .ref ak, .ref ac, .ref lw, .ref dd, .int lf])), (yr, .inr (7, [.ref (Ya 0), .ref (Ya 1), .ref (Ya 2), .ref (Ya 3), .ref (Ya 4), .ref (Ya 5), .int (Yv 6), .int (Yv 7), .int (Yv 8), .int (Yv 9), .int (Yv 10), .int (Yv 11), .int (Yv 12), .int (Yv 13)])), (dd, .inr (2, [.ref dk, .int (nI dn)])), (dk, .inl (cI, 12, .inl DK))] [(x0, .inr (8, [.ref t, .ref rdr, .ref yr, .ref dy, .ref ak, .ref ac, .ref lw, .ref dd, .int lf])), (yr, .inr (7, [.ref (Ya 0), .ref (Ya 1), .ref (Ya 2), .ref (Ya 3), .ref (Ya 4), .ref (Ya 5), .int (Yv 6), .int (Yv 7), .int (Yv 8), .int (Yv 9), .int (Yv 10), .int (Yv 11), .int (Yv 12), .int (if (if isInM r 0 2 = 0 then 0 else if Yv 13 ^^^ 1 <<< (r &&& 31) = 7 then 0 else 1 : Int32) = 0 then Yv 13 else Yv 13 ^^^ 1 <<< (r &&& 31))])), (dd, .inr (2, [.ref dk, .int (nI (if (if isInM r 0 2 = 0 then 0 else if Yv 13 ^^^ 1 <<< (r &&& 31) = 7 then 0 else 1 : Int32) = 0 then dn else kpN dn))])), (dk, .inl (cI, 12, .inl (if (if isInM r 0 2 = 0 then 0 else if Yv 13 ^^^ 1 <<< (r &&& 31) = 7 then 0 else 1 : Int32) = 0 then DK else kpK DK dn (3 + r))))] (some (.int (if (if isInM r 0 2 = 0 then 0 else if Yv 13 ^^^ 1 <<< (r &&& 31) = 7 then 0 else 1 : Int32) = 0 then -1 else Yv 13 ^^^ 1 <<< (r &&& 31)))) := by
  refine wr_i (cc := cX8_bar) (maxL := 2) (by decide) rfl (Nat.le_of_ble_eq_true rfl) ?_
  intro p_ e_ s_ m_ ar_ be_ me_ co_ ls Q_ A_ hx hb hml hown hts hP hK hD hS hl hret
  have hown : s_.vm.findClass RX8 = some m_.cls := hown
  have hl : lv_has ls 2 [(0, .ref x0), (1, .int r)] := hl
  refine lv_aload_n hx hb dX8_bar_0 rfl (lv_at hl 0 rfl) ?_
  refine lv_iload_n hx hb dX8_bar_1 rfl (lv_at hl 1 rfl) ?_
  refine rd_V (As := [.int r]) (rest := []) (ci := 8) (kX8_canTurn l D cI cB x0 t rdr yr dy ak ac lw dd lf Ya Yfa Ysa Yf Yg Yc Yv r ) ⟨hx, hb, hml, hown, hts⟩ (cwV 1 hts gX8_bar_X8_canTurn rfl rfl rfl (by decide +kernel) ⟨Nat.le_of_ble_eq_true rfl, Nat.le_of_ble_eq_true rfl⟩) hK hP [0, 1] rfl 0 rfl rfl rfl rfl hl.1 (Nat.le_of_ble_eq_true rfl) dX8_bar_2 ⟨Nat.le_refl _, Nat.le_refl _⟩ ?_
  refine lv_if_ne (tgt := 10) hx hb dX8_bar_5 (by decide) (fun c5 => ?_) (fun c5 => ?_)
  · refine lv_aload_n hx hb dX8_bar_10 rfl (lv_at hl 0 rfl) ?_
    refine g_get (C := RX8) (T := TX8) (N := 9) (ci := 8) (index := 26) hx hb hts in_X8_bar_8 hown hK hP 0 2 rfl rfl (by decide) (List.mem_of_getElem? (i := 1) rfl) rfl dX8_bar_11 ?_
    refine lv_dup hx hb dX8_bar_14 rfl ?_
    refine g_get (C := RX7) (T := TX7) (N := 14) (ci := 7) (index := 135) hx hb hts in_X8_bar_7 hown hK hP 1 13 rfl rfl (by decide) (List.mem_of_getElem? (i := 2) rfl) rfl dX8_bar_15 ?_
    refine lv_iconst (v := 1) hx hb dX8_bar_18 (by decide) ?_
    refine lv_iload_n hx hb dX8_bar_19 rfl (lv_at hl 1 rfl) ?_
    refine lv_ishl hx hb dX8_bar_20 ?_
    refine lv_ixor hx hb dX8_bar_21 ?_
    refine g_put (C := RX7) (T := TX7) (N := 14) (ci := 7) (index := 135) (v := .int ((Yv 13) ^^^ (1 <<< (r &&& 31)))) (ws' := [(x0, .inr (8, [.ref t, .ref rdr, .ref yr, .ref dy, .ref ak, .ref ac, .ref lw, .ref dd, .int lf])), (yr, .inr (7, [.ref (Ya 0), .ref (Ya 1), .ref (Ya 2), .ref (Ya 3), .ref (Ya 4), .ref (Ya 5), .int (Yv 6), .int (Yv 7), .int (Yv 8), .int (Yv 9), .int (Yv 10), .int (Yv 11), .int (Yv 12), .int ((Yv 13) ^^^ (1 <<< (r &&& 31)))])), (dd, .inr (2, [.ref dk, .int (nI dn)])), (dk, .inl (cI, 12, .inl DK))]) hx hb hts in_X8_bar_7 tyX7 tyX7_ok nmX7 hown hK hP hD hS 1 13 rfl rfl (by decide) (List.mem_of_getElem? (i := 2) rfl) rfl rfl rfl (Nat.le_of_ble_eq_true rfl) dX8_bar_22 rfl (fun H_ lc_ hP hD hS => ?_)
    refine lv_aload_n hx hb dX8_bar_25 rfl (lv_at hl 0 rfl) ?_
    refine g_get (C := RX8) (T := TX8) (N := 9) (ci := 8) (index := 57) hx hb hts in_X8_bar_8 hown hK hP 0 7 rfl rfl (by decide) (List.mem_of_getElem? (i := 3) rfl) rfl dX8_bar_26 ?_
    refine lv_iconst (v := 3) hx hb dX8_bar_29 (by decide) ?_
    refine lv_iload_n hx hb dX8_bar_30 rfl (lv_at hl 1 rfl) ?_
    refine lv_iadd hx hb dX8_bar_31 ?_
    refine wr_V (As := [.int (3 + r)]) (rest := []) (ci := 2) (ws' := [(x0, .inr (8, [.ref t, .ref rdr, .ref yr, .ref dy, .ref ak, .ref ac, .ref lw, .ref dd, .int lf])), (yr, .inr (7, [.ref (Ya 0), .ref (Ya 1), .ref (Ya 2), .ref (Ya 3), .ref (Ya 4), .ref (Ya 5), .int (Yv 6), .int (Yv 7), .int (Yv 8), .int (Yv 9), .int (Yv 10), .int (Yv 11), .int (Yv 12), .int ((Yv 13) ^^^ (1 <<< (r &&& 31)))])), (dd, .inr (2, [.ref dk, .int (nI (kpN dn))])), (dk, .inl (cI, 12, .inl (kpK DK dn (3 + r))))]) (kX2_keep l D cI cB dd dk dn DK (3 + r) (by omega)) ⟨hx, hb, hml, hown, hts⟩ (cwV 1 hts gX8_bar_X2_keep rfl rfl rfl (by decide +kernel) ⟨Nat.le_of_ble_eq_true rfl, Nat.le_of_ble_eq_true rfl⟩) hK hP hD hS [2, 3] rfl (by decide +kernel) (two_eq [dd, dk] rfl rfl) rfl 2 rfl rfl rfl rfl hl.1 (Nat.le_of_ble_eq_true rfl) dX8_bar_32 ⟨Nat.le_refl _, Nat.le_refl _⟩ (fun H_ lc_ hP hD hS => ?_)
    show W p_ l e_ (RM 3 63) s_ m_ ar_ be_ me_ co_ H_ lc_ 0 0 Q_ (F0 m_ 35 ls [])
    refine lv_aload_n hx hb dX8_bar_35 rfl (lv_at hl 0 rfl) ?_
    refine g_get (C := RX8) (T := TX8) (N := 9) (ci := 8) (index := 26) hx hb hts in_X8_bar_8 hown hK hP 0 2 rfl rfl (by decide) (List.mem_of_getElem? (i := 1) rfl) rfl dX8_bar_36 ?_
    refine g_get (C := RX7) (T := TX7) (N := 14) (ci := 7) (index := 135) hx hb hts in_X8_bar_7 hown hK hP 1 13 rfl rfl (by decide) (List.mem_of_getElem? (i := 2) rfl) rfl dX8_bar_39 ?_
    exact hret _ _ _ _ ls hS (by simpa only [if_neg c5] using hP) (by rw [if_neg c5]) dX8_bar_42
  · refine lv_iconst (v := -1) hx hb dX8_bar_8 (by decide) ?_
    exact hret _ _ _ _ ls hS (by simpa only [if_pos c5] using hP) (by rw [if_pos c5]) dX8_bar_9

/-- what an undo does to a deed's rows: the kind of the deed it takes -/
def unD (DK : Nat → Int32) (dn : Nat) : Int32 := tlR DK dn
