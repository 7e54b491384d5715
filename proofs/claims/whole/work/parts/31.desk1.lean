theorem in_X8_fault_8 : ∀ w ∈ wsX80, w ∈ wsX8_fault := fun _ h => List.mem_cons_of_mem _ (List.mem_append_right _ (h))
set_option maxHeartbeats 4000000 in
set_option maxRecDepth 100000 in
theorem kX8_fault (l : Launch) (D : va_G) (cI cB : ClassId) (x0 t rdr yr dy ak ac lw dd : Nat) (lf : Int32)  : Rd l D (TY cI cB) yX8_fault wsX8_fault 0 0 [.ref x0] [(x0, .inr (8, [.ref t, .ref rdr, .ref yr, .ref dy, .ref ak, .ref ac, .ref lw, .ref dd, .int lf]))] lf := by
  refine rd_i (cc := cX8_fault) (maxL := 1) (by decide) rfl (Nat.le_of_ble_eq_true rfl) ?_
  intro p_ e_ s_ m_ ar_ be_ me_ co_ ls Q_ hx hb hml hown hts hP hK hl hret
  have hown : s_.vm.findClass RX8 = some m_.cls := hown
  have hl : lv_has ls 1 [(0, .ref x0)] := hl
  refine lv_aload_n hx hb dX8_fault_0 rfl (lv_at hl 0 rfl) ?_
  refine g_get (C := RX8) (T := TX8) (N := 9) (ci := 8) (index := 61) hx hb hts in_X8_fault_8 hown hK hP 0 8 rfl rfl (by decide) (List.mem_of_getElem? (i := 1) rfl) rfl dX8_fault_1 ?_
  exact hret _ _ ls (rfl) dX8_fault_4

theorem in_X8_tax_8 : ∀ w ∈ wsX80, w ∈ wsX8_tax := fun _ h => List.mem_cons_of_mem _ (List.mem_append_left _ (List.mem_append_left _ (List.mem_append_right _ (h))))
set_option maxHeartbeats 4000000 in
set_option maxRecDepth 100000 in
theorem kX8_tax (l : Launch) (D : va_G) (cI cB : ClassId) (x0 t rdr yr dy ak ac lw dd : Nat) (lf : Int32) (Ya Yfa Ysa : Nat → Nat) (Yf Yg : Nat → Nat → Int32) (Yc : Nat → Nat) (Yv : Nat → Int32) (x : Int32) (hc1 : Yc 1 ≤ 4) : Rd l D (TY cI cB) yX8_tax wsX8_tax 2 47 [.ref x0, .int x] [(x0, .inr (8, [.ref t, .ref rdr, .ref yr, .ref dy, .ref ak, .ref ac, .ref lw, .ref dd, .int lf])), (yr, .inr (7, [.ref (Ya 0), .ref (Ya 1), .ref (Ya 2), .ref (Ya 3), .ref (Ya 4), .ref (Ya 5), .int (Yv 6), .int (Yv 7), .int (Yv 8), .int (Yv 9), .int (Yv 10), .int (Yv 11), .int (Yv 12), .int (Yv 13)])), (Ya 1, .inr (5, [.ref (Yfa 1), .ref (Ysa 1), .int (nI (Yc 1))])), (Yfa 1, .inl (cI, 4, .inl (Yf 1))), (Ysa 1, .inl (cI, 4, .inl (Yg 1)))] (if isInM x 0 9999999 = 0 then -1 else taxX (Yf 1) (Yg 1) (Yc 1) (Yv 12) x) := by
  refine rd_i (cc := cX8_tax) (maxL := 2) (by decide) rfl (Nat.le_of_ble_eq_true rfl) ?_
  intro p_ e_ s_ m_ ar_ be_ me_ co_ ls Q_ hx hb hml hown hts hP hK hl hret
  have hown : s_.vm.findClass RX8 = some m_.cls := hown
  have hl : lv_has ls 2 [(0, .ref x0), (1, .int x)] := hl
  refine lv_iload_n hx hb dX8_tax_0 rfl (lv_at hl 1 rfl) ?_
  refine lv_iconst (v := 0) hx hb dX8_tax_1 (by decide) ?_
  refine lv_ldc (v := 9999999) hx hb hown (hts (.constant RX8 139 (9999999)) (List.mem_of_getElem? (i := 1) rfl)) dX8_tax_2 ?_
  refine rd_S (As := [.int x, .int 0, .int 9999999]) (rest := []) (kX8_isWithin l D cI cB x 0 9999999 ) ⟨hx, hb, hml, hown, hts⟩ (va_cwS 3 hts gX8_tax_X8_isWithin rfl rfl rfl (by decide +kernel) ⟨Nat.le_of_ble_eq_true rfl, Nat.le_of_ble_eq_true rfl⟩) hK hP [] rfl rfl rfl hl.1 (Nat.le_of_ble_eq_true rfl) dX8_tax_4 ⟨Nat.le_refl _, Nat.le_refl _⟩ ?_
  refine lv_if_eq (tgt := 21) hx hb dX8_tax_7 (by decide) (fun c7 => ?_) (fun c7 => ?_)
  · refine lv_iconst (v := -1) hx hb dX8_tax_21 (by decide) ?_
    exact hret _ _ ls (by simp [c7]) dX8_tax_22
  · refine lv_aload_n hx hb dX8_tax_10 rfl (lv_at hl 0 rfl) ?_
    refine g_get (C := RX8) (T := TX8) (N := 9) (ci := 8) (index := 26) hx hb hts in_X8_tax_8 hown hK hP 0 2 rfl rfl (by decide) (List.mem_of_getElem? (i := 2) rfl) rfl dX8_tax_11 ?_
    refine lv_iload_n hx hb dX8_tax_14 rfl (lv_at hl 1 rfl) ?_
    refine rd_V (As := [.int x]) (rest := []) (ci := 7) (kX7_taxOf l D cI cB yr Ya Yfa Ysa Yf Yg Yc Yv x (by omega)) ⟨hx, hb, hml, hown, hts⟩ (cwV 1 hts gX8_tax_X7_taxOf rfl rfl rfl (by decide +kernel) ⟨Nat.le_of_ble_eq_true rfl, Nat.le_of_ble_eq_true rfl⟩) hK hP [1, 2, 3, 4] rfl 1 rfl rfl rfl rfl hl.1 (Nat.le_of_ble_eq_true rfl) dX8_tax_15 ⟨Nat.le_refl _, Nat.le_refl _⟩ ?_
    refine lv_goto (tgt := 22) hx hb dX8_tax_18 (by decide) ?_
    exact hret _ _ ls (by simp [c7]) dX8_tax_22

theorem in_X8_income_8 : ∀ w ∈ wsX80, w ∈ wsX8_income := fun _ h => List.mem_cons_of_mem _ (List.mem_append_left _ (List.mem_append_left _ (List.mem_append_right _ (h))))
theorem in_X8_income_7 : ∀ w ∈ wsX70, w ∈ wsX8_income := fun _ h => List.mem_cons_of_mem _ (List.mem_append_left _ (List.mem_append_right _ (h)))
set_option maxHeartbeats 4000000 in
set_option maxRecDepth 100000 in
theorem kX8_income (l : Launch) (D : va_G) (cI cB : ClassId) (x0 t rdr yr dy ak ac lw dd : Nat) (lf : Int32) (Ya Yfa Ysa : Nat → Nat) (Yf Yg : Nat → Nat → Int32) (Yc : Nat → Nat) (Yv : Nat → Int32) (x : Int32) (hc3 : Yc 3 ≤ 40) : Rd l D (TY cI cB) yX8_income wsX8_income 2 42 [.ref x0, .int x] [(x0, .inr (8, [.ref t, .ref rdr, .ref yr, .ref dy, .ref ak, .ref ac, .ref lw, .ref dd, .int lf])), (yr, .inr (7, [.ref (Ya 0), .ref (Ya 1), .ref (Ya 2), .ref (Ya 3), .ref (Ya 4), .ref (Ya 5), .int (Yv 6), .int (Yv 7), .int (Yv 8), .int (Yv 9), .int (Yv 10), .int (Yv 11), .int (Yv 12), .int (Yv 13)])), (Ya 3, .inr (5, [.ref (Yfa 3), .ref (Ysa 3), .int (nI (Yc 3))])), (Yfa 3, .inl (cI, 40, .inl (Yf 3))), (Ysa 3, .inl (cI, 40, .inl (Yg 3)))] (if isInM x 0 499 = 0 then -1 else sumUp (Yf 3) (Yg 3) x (Yc 3)) := by
  refine rd_i (cc := cX8_income) (maxL := 2) (by decide) rfl (Nat.le_of_ble_eq_true rfl) ?_
  intro p_ e_ s_ m_ ar_ be_ me_ co_ ls Q_ hx hb hml hown hts hP hK hl hret
  have hown : s_.vm.findClass RX8 = some m_.cls := hown
  have hl : lv_has ls 2 [(0, .ref x0), (1, .int x)] := hl
  refine lv_iload_n hx hb dX8_income_0 rfl (lv_at hl 1 rfl) ?_
  refine rd_S (As := [.int x]) (rest := []) (kX8_isDay l D cI cB x ) ⟨hx, hb, hml, hown, hts⟩ (va_cwS 1 hts gX8_income_X8_isDay rfl rfl rfl (by decide +kernel) ⟨Nat.le_of_ble_eq_true rfl, Nat.le_of_ble_eq_true rfl⟩) hK hP [] rfl rfl rfl hl.1 (Nat.le_of_ble_eq_true rfl) dX8_income_1 ⟨Nat.le_refl _, Nat.le_refl _⟩ ?_
  refine lv_if_eq (tgt := 21) hx hb dX8_income_4 (by decide) (fun c4 => ?_) (fun c4 => ?_)
  · refine lv_iconst (v := -1) hx hb dX8_income_21 (by decide) ?_
    exact hret _ _ ls (by simp [c4]) dX8_income_22
  · refine lv_aload_n hx hb dX8_income_7 rfl (lv_at hl 0 rfl) ?_
    refine g_get (C := RX8) (T := TX8) (N := 9) (ci := 8) (index := 26) hx hb hts in_X8_income_8 hown hK hP 0 2 rfl rfl (by decide) (List.mem_of_getElem? (i := 1) rfl) rfl dX8_income_8 ?_
    refine g_get (C := RX7) (T := TX7) (N := 14) (ci := 7) (index := 148) hx hb hts in_X8_income_7 hown hK hP 1 3 rfl rfl (by decide) (List.mem_of_getElem? (i := 2) rfl) rfl dX8_income_11 ?_
    refine lv_iload_n hx hb dX8_income_14 rfl (lv_at hl 1 rfl) ?_
    refine rd_V (As := [.int x]) (rest := []) (ci := 5) (kX5_sumUpTo l D cI cB (Ya 3) (Yfa 3) (Ysa 3) 40 (Yc 3) (Yf 3) (Yg 3) x (by omega) (by omega)) ⟨hx, hb, hml, hown, hts⟩ (cwV 1 hts gX8_income_X5_sumUpTo rfl rfl rfl (by decide +kernel) ⟨Nat.le_of_ble_eq_true rfl, Nat.le_of_ble_eq_true rfl⟩) hK hP [2, 3, 4] rfl 2 rfl rfl rfl rfl hl.1 (Nat.le_of_ble_eq_true rfl) dX8_income_15 ⟨Nat.le_refl _, Nat.le_refl _⟩ ?_
    refine lv_goto (tgt := 22) hx hb dX8_income_18 (by decide) ?_
    exact hret _ _ ls (by simp [c4]) dX8_income_22

theorem in_X8_rate_8 : ∀ w ∈ wsX80, w ∈ wsX8_rate := fun _ h => List.mem_cons_of_mem _ (List.mem_append_left _ (List.mem_append_left _ (List.mem_append_right _ (h))))
theorem in_X8_rate_7 : ∀ w ∈ wsX70, w ∈ wsX8_rate := fun _ h => List.mem_cons_of_mem _ (List.mem_append_left _ (List.mem_append_right _ (h)))
set_option maxHeartbeats 4000000 in
set_option maxRecDepth 100000 in
theorem kX8_rate (l : Launch) (D : va_G) (cI cB : ClassId) (x0 t rdr yr dy ak ac lw dd : Nat) (lf : Int32) (Ya Yfa Ysa : Nat → Nat) (Yf Yg : Nat → Nat → Int32) (Yc : Nat → Nat) (Yv : Nat → Int32) (x : Int32) (hc2 : Yc 2 ≤ 6) : Rd l D (TY cI cB) yX8_rate wsX8_rate 2 42 [.ref x0, .int x] [(x0, .inr (8, [.ref t, .ref rdr, .ref yr, .ref dy, .ref ak, .ref ac, .ref lw, .ref dd, .int lf])), (yr, .inr (7, [.ref (Ya 0), .ref (Ya 1), .ref (Ya 2), .ref (Ya 3), .ref (Ya 4), .ref (Ya 5), .int (Yv 6), .int (Yv 7), .int (Yv 8), .int (Yv 9), .int (Yv 10), .int (Yv 11), .int (Yv 12), .int (Yv 13)])), (Ya 2, .inr (5, [.ref (Yfa 2), .ref (Ysa 2), .int (nI (Yc 2))])), (Yfa 2, .inl (cI, 6, .inl (Yf 2))), (Ysa 2, .inl (cI, 6, .inl (Yg 2)))] (if isInM x 0 499 = 0 then -1 else latUp (Yf 2) (Yg 2) x (Yc 2)) := by
  refine rd_i (cc := cX8_rate) (maxL := 2) (by decide) rfl (Nat.le_of_ble_eq_true rfl) ?_
  intro p_ e_ s_ m_ ar_ be_ me_ co_ ls Q_ hx hb hml hown hts hP hK hl hret
  have hown : s_.vm.findClass RX8 = some m_.cls := hown
  have hl : lv_has ls 2 [(0, .ref x0), (1, .int x)] := hl
  refine lv_iload_n hx hb dX8_rate_0 rfl (lv_at hl 1 rfl) ?_
  refine rd_S (As := [.int x]) (rest := []) (kX8_isDay l D cI cB x ) ⟨hx, hb, hml, hown, hts⟩ (va_cwS 1 hts gX8_rate_X8_isDay rfl rfl rfl (by decide +kernel) ⟨Nat.le_of_ble_eq_true rfl, Nat.le_of_ble_eq_true rfl⟩) hK hP [] rfl rfl rfl hl.1 (Nat.le_of_ble_eq_true rfl) dX8_rate_1 ⟨Nat.le_refl _, Nat.le_refl _⟩ ?_
  refine lv_if_eq (tgt := 21) hx hb dX8_rate_4 (by decide) (fun c4 => ?_) (fun c4 => ?_)
  · refine lv_iconst (v := -1) hx hb dX8_rate_21 (by decide) ?_
    exact hret _ _ ls (by simp [c4]) dX8_rate_22
  · refine lv_aload_n hx hb dX8_rate_7 rfl (lv_at hl 0 rfl) ?_
    refine g_get (C := RX8) (T := TX8) (N := 9) (ci := 8) (index := 26) hx hb hts in_X8_rate_8 hown hK hP 0 2 rfl rfl (by decide) (List.mem_of_getElem? (i := 1) rfl) rfl dX8_rate_8 ?_
    refine g_get (C := RX7) (T := TX7) (N := 14) (ci := 7) (index := 198) hx hb hts in_X8_rate_7 hown hK hP 1 2 rfl rfl (by decide) (List.mem_of_getElem? (i := 2) rfl) rfl dX8_rate_11 ?_
    refine lv_iload_n hx hb dX8_rate_14 rfl (lv_at hl 1 rfl) ?_
    refine rd_V (As := [.int x]) (rest := []) (ci := 5) (kX5_latestUpTo l D cI cB (Ya 2) (Yfa 2) (Ysa 2) 6 (Yc 2) (Yf 2) (Yg 2) x (by omega) (by omega)) ⟨hx, hb, hml, hown, hts⟩ (cwV 1 hts gX8_rate_X5_latestUpTo rfl rfl rfl (by decide +kernel) ⟨Nat.le_of_ble_eq_true rfl, Nat.le_of_ble_eq_true rfl⟩) hK hP [2, 3, 4] rfl 2 rfl rfl rfl rfl hl.1 (Nat.le_of_ble_eq_true rfl) dX8_rate_15 ⟨Nat.le_refl _, Nat.le_refl _⟩ ?_
    refine lv_goto (tgt := 22) hx hb dX8_rate_18 (by decide) ?_
    exact hret _ _ ls (by simp [c4]) dX8_rate_22

def hasX (c : Nat) (i : Int32) : Int32 := if i < 0 then 0 else if nI c ≤ i then 0 else 1
theorem in_X8_payment_8 : ∀ w ∈ wsX80, w ∈ wsX8_payment := fun _ h => List.mem_cons_of_mem _ (List.mem_append_left _ (List.mem_append_left _ (List.mem_append_right _ (h))))
theorem in_X8_payment_7 : ∀ w ∈ wsX70, w ∈ wsX8_payment := fun _ h => List.mem_cons_of_mem _ (List.mem_append_left _ (List.mem_append_right _ (h)))
set_option maxHeartbeats 4000000 in
set_option maxRecDepth 100000 in
theorem kX8_payment (l : Launch) (D : va_G) (cI cB : ClassId) (x0 t rdr yr dy ak ac lw dd : Nat) (lf : Int32) (Ya Yfa Ysa : Nat → Nat) (Yf Yg : Nat → Nat → Int32) (Yc : Nat → Nat) (Yv : Nat → Int32) (x w : Int32) (hc4 : Yc 4 ≤ 40) : Rd l D (TY cI cB) yX8_payment wsX8_payment 1 21 [.ref x0, .int x, .int w] [(x0, .inr (8, [.ref t, .ref rdr, .ref yr, .ref dy, .ref ak, .ref ac, .ref lw, .ref dd, .int lf])), (yr, .inr (7, [.ref (Ya 0), .ref (Ya 1), .ref (Ya 2), .ref (Ya 3), .ref (Ya 4), .ref (Ya 5), .int (Yv 6), .int (Yv 7), .int (Yv 8), .int (Yv 9), .int (Yv 10), .int (Yv 11), .int (Yv 12), .int (Yv 13)])), (Ya 4, .inr (5, [.ref (Yfa 4), .ref (Ysa 4), .int (nI (Yc 4))])), (Yfa 4, .inl (cI, 40, .inl (Yf 4))), (Ysa 4, .inl (cI, 40, .inl (Yg 4)))] (if hasX (Yc 4) x = 0 then -1 else if w = 0 then rowAt (Yf 4) (Yc 4) x else if w = 1 then rowAt (Yg 4) (Yc 4) x else -1) := by
  refine rd_i (cc := cX8_payment) (maxL := 3) (by decide) rfl (Nat.le_of_ble_eq_true rfl) ?_
  intro p_ e_ s_ m_ ar_ be_ me_ co_ ls Q_ hx hb hml hown hts hP hK hl hret
  have hown : s_.vm.findClass RX8 = some m_.cls := hown
  have hl : lv_has ls 3 [(0, .ref x0), (1, .int x), (2, .int w)] := hl
  refine lv_aload_n hx hb dX8_payment_0 rfl (lv_at hl 0 rfl) ?_
  refine g_get (C := RX8) (T := TX8) (N := 9) (ci := 8) (index := 26) hx hb hts in_X8_payment_8 hown hK hP 0 2 rfl rfl (by decide) (List.mem_of_getElem? (i := 1) rfl) rfl dX8_payment_1 ?_
  refine g_get (C := RX7) (T := TX7) (N := 14) (ci := 7) (index := 117) hx hb hts in_X8_payment_7 hown hK hP 1 4 rfl rfl (by decide) (List.mem_of_getElem? (i := 2) rfl) rfl dX8_payment_4 ?_
  refine lv_iload_n hx hb dX8_payment_7 rfl (lv_at hl 1 rfl) ?_
  refine rd_V (As := [.int x]) (rest := []) (ci := 5) (kX5_has l D cI cB (Ya 4) (Yfa 4) (Ysa 4) 40 (Yc 4) (Yf 4) (Yg 4) x (by omega) (by omega)) ⟨hx, hb, hml, hown, hts⟩ (cwV 1 hts gX8_payment_X5_has rfl rfl rfl (by decide +kernel) ⟨Nat.le_of_ble_eq_true rfl, Nat.le_of_ble_eq_true rfl⟩) hK hP [2, 3, 4] rfl 2 rfl rfl rfl rfl hl.1 (Nat.le_of_ble_eq_true rfl) dX8_payment_8 ⟨Nat.le_refl _, Nat.le_refl _⟩ ?_
  rw [show (if x < 0 then 0 else if nI (Yc 4) ≤ x then 0 else 1 : Int32) = hasX (Yc 4) x from rfl]
  refine lv_if_ne (tgt := 16) hx hb dX8_payment_11 (by decide) (fun c11 => ?_) (fun c11 => ?_)
  · refine lv_iload_n hx hb dX8_payment_16 rfl (lv_at hl 2 rfl) ?_
    by_cases c17_0 : w = (0 : Int32)
    · refine lv_lookup (off := 27) (tgt := 44) hx hb dX8_payment_17 rfl (by rw [c17_0]; rfl) (by decide) ?_
      refine lv_aload_n hx hb dX8_payment_44 rfl (lv_at hl 0 rfl) ?_
      refine g_get (C := RX8) (T := TX8) (N := 9) (ci := 8) (index := 26) hx hb hts in_X8_payment_8 hown hK hP 0 2 rfl rfl (by decide) (List.mem_of_getElem? (i := 1) rfl) rfl dX8_payment_45 ?_
      refine g_get (C := RX7) (T := TX7) (N := 14) (ci := 7) (index := 117) hx hb hts in_X8_payment_7 hown hK hP 1 4 rfl rfl (by decide) (List.mem_of_getElem? (i := 2) rfl) rfl dX8_payment_48 ?_
      refine lv_iload_n hx hb dX8_payment_51 rfl (lv_at hl 1 rfl) ?_
      refine rd_V (As := [.int x]) (rest := []) (ci := 5) (kX5_first l D cI cB (Ya 4) (Yfa 4) (Ysa 4) 40 (Yc 4) (Yf 4) (Yg 4) x (by omega) (by omega)) ⟨hx, hb, hml, hown, hts⟩ (cwV 1 hts gX8_payment_X5_first rfl rfl rfl (by decide +kernel) ⟨Nat.le_of_ble_eq_true rfl, Nat.le_of_ble_eq_true rfl⟩) hK hP [2, 3, 4] rfl 2 rfl rfl rfl rfl hl.1 (Nat.le_of_ble_eq_true rfl) dX8_payment_52 ⟨Nat.le_refl _, Nat.le_refl _⟩ ?_
      exact hret _ _ ls (by simp [c11, c17_0]) dX8_payment_55
    by_cases c17_1 : w = (1 : Int32)
    · refine lv_lookup (off := 39) (tgt := 56) hx hb dX8_payment_17 rfl (by rw [c17_1]; rfl) (by decide) ?_
      refine lv_aload_n hx hb dX8_payment_56 rfl (lv_at hl 0 rfl) ?_
      refine g_get (C := RX8) (T := TX8) (N := 9) (ci := 8) (index := 26) hx hb hts in_X8_payment_8 hown hK hP 0 2 rfl rfl (by decide) (List.mem_of_getElem? (i := 1) rfl) rfl dX8_payment_57 ?_
      refine g_get (C := RX7) (T := TX7) (N := 14) (ci := 7) (index := 117) hx hb hts in_X8_payment_7 hown hK hP 1 4 rfl rfl (by decide) (List.mem_of_getElem? (i := 2) rfl) rfl dX8_payment_60 ?_
      refine lv_iload_n hx hb dX8_payment_63 rfl (lv_at hl 1 rfl) ?_
      refine rd_V (As := [.int x]) (rest := []) (ci := 5) (kX5_second l D cI cB (Ya 4) (Yfa 4) (Ysa 4) 40 (Yc 4) (Yf 4) (Yg 4) x (by omega) (by omega)) ⟨hx, hb, hml, hown, hts⟩ (cwV 1 hts gX8_payment_X5_second rfl rfl rfl (by decide +kernel) ⟨Nat.le_of_ble_eq_true rfl, Nat.le_of_ble_eq_true rfl⟩) hK hP [2, 3, 4] rfl 2 rfl rfl rfl rfl hl.1 (Nat.le_of_ble_eq_true rfl) dX8_payment_64 ⟨Nat.le_refl _, Nat.le_refl _⟩ ?_
      exact hret _ _ ls (by simp [c11, c17_0, c17_1]) dX8_payment_67
    refine lv_lookup (off := 51) (tgt := 68) hx hb dX8_payment_17 rfl (by show Op.lookupswitch.offset [(0, 27), (1, 39)] 51 _ = _; rw [lv_osw (a := 0) c17_0 rfl, lv_osw (a := 1) c17_1 rfl]; rfl) (by decide) ?_
    refine lv_iconst (v := -1) hx hb dX8_payment_68 (by decide) ?_
    exact hret _ _ ls (by simp [c11, c17_0, c17_1]) dX8_payment_69
  · refine lv_iconst (v := -1) hx hb dX8_payment_14 (by decide) ?_
    exact hret _ _ ls (by simp [c11]) dX8_payment_15

theorem in_X8_end_8 : ∀ w ∈ wsX80, w ∈ wsX8_end := fun _ h => List.mem_cons_of_mem _ (List.mem_append_left _ (List.mem_append_right _ (h)))
theorem in_X8_end_6 : ∀ w ∈ wsX60, w ∈ wsX8_end := fun _ h => List.mem_cons_of_mem _ (List.mem_append_right _ (h))
set_option maxHeartbeats 4000000 in
set_option maxRecDepth 100000 in
theorem kX8_end (l : Launch) (D : va_G) (cI cB : ClassId) (x0 t rdr yr dy ak ac lw dd : Nat) (lf : Int32) (tb n : Nat) (B : Nat → Int32) (x : Int32)  : Wr l D (TY cI cB) yX8_end wsX8_end 0 0 [.ref x0, .int x] [(x0, .inr (8, [.ref t, .ref rdr, .ref yr, .ref dy, .ref ak, .ref ac, .ref lw, .ref dd, .int lf])), (t, .inr (6, [.ref tb, .int (nI n)])), (tb, .inl (cB, 840, .inl B))] [(x0, .inr (8, [.ref t, .ref rdr, .ref yr, .ref dy, .ref ak, .ref ac, .ref lw, .ref dd, .int lf])), (t, .inr (6, [.ref tb, .int (if x < 0 then nI n else if x ≤ nI n then x else nI n)])), (tb, .inl (cB, 840, .inl B))] (some (.int (if x < 0 then 0 else if x ≤ nI n then 1 else 0))) := by
  refine wr_z (cc := cX8_end) (maxL := 2) (by decide) rfl (Nat.le_of_ble_eq_true rfl) ?_
  intro p_ e_ s_ m_ ar_ be_ me_ co_ ls Q_ A_ hx hb hml hown hts hP hK hD hS hl hret
  have hown : s_.vm.findClass RX8 = some m_.cls := hown
  have hl : lv_has ls 2 [(0, .ref x0), (1, .int x)] := hl
  refine lv_iload_n hx hb dX8_end_0 rfl (lv_at hl 1 rfl) ?_
  refine lv_if_lt (tgt := 15) hx hb dX8_end_1 (by decide) (fun c1 => ?_) (fun c1 => ?_)
  · refine lv_iconst (v := 0) hx hb dX8_end_15 (by decide) ?_
    exact hret _ _ _ _ ls hS (by simpa only [c1, if_true, if_false] using hP) (by simp [c1]) (by decide) dX8_end_16
  · refine lv_iload_n hx hb dX8_end_4 rfl (lv_at hl 1 rfl) ?_
    refine lv_aload_n hx hb dX8_end_5 rfl (lv_at hl 0 rfl) ?_
    refine g_get (C := RX8) (T := TX8) (N := 9) (ci := 8) (index := 12) hx hb hts in_X8_end_8 hown hK hP 0 0 rfl rfl (by decide) (List.mem_of_getElem? (i := 1) rfl) rfl dX8_end_6 ?_
    refine g_get (C := RX6) (T := TX6) (N := 2) (ci := 6) (index := 73) hx hb hts in_X8_end_6 hown hK hP 1 1 rfl rfl (by decide) (List.mem_of_getElem? (i := 2) rfl) rfl dX8_end_9 ?_
    refine lv_icmp_le (tgt := 17) hx hb dX8_end_12 (by decide) (fun c12 => ?_) (fun c12 => ?_)
    · refine lv_aload_n hx hb dX8_end_17 rfl (lv_at hl 0 rfl) ?_
      refine g_get (C := RX8) (T := TX8) (N := 9) (ci := 8) (index := 12) hx hb hts in_X8_end_8 hown hK hP 0 0 rfl rfl (by decide) (List.mem_of_getElem? (i := 1) rfl) rfl dX8_end_18 ?_
      refine lv_iload_n hx hb dX8_end_21 rfl (lv_at hl 1 rfl) ?_
      refine g_put (C := RX6) (T := TX6) (N := 2) (ci := 6) (index := 73) (v := .int x) (ws' := [(x0, .inr (8, [.ref t, .ref rdr, .ref yr, .ref dy, .ref ak, .ref ac, .ref lw, .ref dd, .int lf])), (t, .inr (6, [.ref tb, .int x])), (tb, .inl (cB, 840, .inl B))]) hx hb hts in_X8_end_6 tyX6 tyX6_ok nmX6 hown hK hP hD hS 1 1 rfl rfl (by decide) (List.mem_of_getElem? (i := 2) rfl) rfl rfl rfl (Nat.le_of_ble_eq_true rfl) dX8_end_22 rfl (fun H_ lc_ hP hD hS => ?_)
      refine lv_iconst (v := 1) hx hb dX8_end_25 (by decide) ?_
      exact hret _ _ _ _ ls hS (by simpa only [c1, c12, if_true, if_false] using hP) (by simp [c1, c12]) (by decide) dX8_end_26
    · refine lv_iconst (v := 0) hx hb dX8_end_15 (by decide) ?_
      exact hret _ _ _ _ ls hS (by simpa only [c1, c12, if_true, if_false] using hP) (by simp [c1, c12]) (by decide) dX8_end_16

