theorem in_X7_allIncome2_7 : ∀ w ∈ wsX70, w ∈ wsX7_allIncome := fun _ h => List.mem_cons_of_mem _ (List.mem_append_left _ (List.mem_append_right _ (h)))
set_option maxHeartbeats 4000000 in
set_option maxRecDepth 100000 in
theorem kX7_allIncome2 (l : Launch) (D : va_G) (cI cB : ClassId) (yr : Nat) (Ya Yfa Ysa : Nat → Nat) (Yf Yg : Nat → Nat → Int32) (Yc : Nat → Nat) (Yv : Nat → Int32) (f g : Nat → Int32) (c : Nat) (hc : c ≤ 40) : Rd l D (TY cI cB) yX7_allIncome wsX7_allIncome 1 23 [.ref yr] [(yr, .inr (7, [.ref (Ya 0), .ref (Ya 1), .ref (Ya 2), .ref (Ya 3), .ref (Ya 4), .ref (Ya 5), .int (Yv 6), .int (Yv 7), .int (Yv 8), .int (Yv 9), .int (Yv 10), .int (Yv 11), .int (Yv 12), .int (Yv 13)])), (Ya 3, .inr (5, [.ref (Yfa 3), .ref (Ysa 3), .int (nI c)])), (Yfa 3, .inl (cI, 40, .inl f)), (Ysa 3, .inl (cI, 40, .inl g))] (sumUp f g 499 c) := by
  refine rd_i (cc := cX7_allIncome) (maxL := 1) (by decide) rfl (Nat.le_of_ble_eq_true rfl) ?_
  intro p_ e_ s_ m_ ar_ be_ me_ co_ ls Q_ hx hb hml hown hts hP hK hl hret
  have hown : s_.vm.findClass RX7 = some m_.cls := hown
  have hl : lv_has ls 1 [(0, .ref yr)] := hl
  refine lv_aload_n hx hb dX7_allIncome_0 rfl (lv_at hl 0 rfl) ?_
  refine g_get (C := RX7) (T := TX7) (N := 14) (ci := 7) (index := 26) hx hb hts in_X7_allIncome2_7 hown hK hP 0 3 rfl rfl (by decide) (List.mem_of_getElem? (i := 1) rfl) rfl dX7_allIncome_1 ?_
  refine lv_sipush (v := 499) hx hb dX7_allIncome_4 (by decide) ?_
  refine rd_V (As := [.int 499]) (rest := []) (ci := 5) (kX5_sumUpTo l D cI cB (Ya 3) (Yfa 3) (Ysa 3) 40 c f g 499 (by omega) (by omega)) ⟨hx, hb, hml, hown, hts⟩ (cwV 1 hts gX7_allIncome_X5_sumUpTo rfl rfl rfl (by decide +kernel) ⟨Nat.le_of_ble_eq_true rfl, Nat.le_of_ble_eq_true rfl⟩) hK hP [1, 2, 3] rfl 1 rfl rfl rfl rfl hl.1 (Nat.le_of_ble_eq_true rfl) dX7_allIncome_7 ⟨Nat.le_refl _, Nat.le_refl _⟩ ?_
  exact hret _ _ ls (rfl) dX7_allIncome_10

theorem in_X8_earn_8 : ∀ w ∈ wsX80, w ∈ wsX8_earn := fun _ h => List.mem_cons_of_mem _ (List.mem_append_left _ (List.mem_append_left _ (List.mem_append_left _ (List.mem_append_right _ (h)))))
theorem in_X8_earn_7 : ∀ w ∈ wsX70, w ∈ wsX8_earn := fun _ h => List.mem_cons_of_mem _ (List.mem_append_left _ (List.mem_append_left _ (List.mem_append_right _ (h))))
set_option maxHeartbeats 4000000 in
set_option maxRecDepth 100000 in
theorem kX8_earn (l : Launch) (D : va_G) (cI cB : ClassId) (x0 t rdr yr dy ak ac lw dd : Nat) (lf : Int32) (Ya Yfa Ysa : Nat → Nat) (Yf Yg : Nat → Nat → Int32) (Yc : Nat → Nat) (Yv : Nat → Int32) (dk dn : Nat) (DK : Nat → Int32) (d a : Int32) (hc3 : Yc 3 ≤ 40) (hdn : dn ≤ 12) : Wr l D (TY cI cB) yX8_earn wsX8_earn 2 43 [.ref x0, .int d, .int a] [(x0, .inr (8, [.ref t, .ref rdr, .ref yr, .ref dy, .ref ak, .ref ac, .ref lw, .ref dd, .int lf])), (yr, .inr (7, [.ref (Ya 0), .ref (Ya 1), .ref (Ya 2), .ref (Ya 3), .ref (Ya 4), .ref (Ya 5), .int (Yv 6), .int (Yv 7), .int (Yv 8), .int (Yv 9), .int (Yv 10), .int (Yv 11), .int (Yv 12), .int (Yv 13)])), (Ya 3, .inr (5, [.ref (Yfa 3), .ref (Ysa 3), .int (nI (Yc 3))])), (Yfa 3, .inl (cI, 40, .inl (Yf 3))), (Ysa 3, .inl (cI, 40, .inl (Yg 3))), (dd, .inr (2, [.ref dk, .int (nI dn)])), (dk, .inl (cI, 12, .inl DK))] [(x0, .inr (8, [.ref t, .ref rdr, .ref yr, .ref dy, .ref ak, .ref ac, .ref lw, .ref dd, .int lf])), (yr, .inr (7, [.ref (Ya 0), .ref (Ya 1), .ref (Ya 2), .ref (Ya 3), .ref (Ya 4), .ref (Ya 5), .int (Yv 6), .int (Yv 7), .int (Yv 8), .int (Yv 9), .int (Yv 10), .int (Yv 11), .int (Yv 12), .int (Yv 13)])), (Ya 3, .inr (5, [.ref (Yfa 3), .ref (Ysa 3), .int (nI (if okE d a (Yc 3) then Yc 3 + 1 else Yc 3))])), (Yfa 3, .inl (cI, 40, .inl (if okE d a (Yc 3) then upd (Yf 3) (Yc 3) d else Yf 3))), (Ysa 3, .inl (cI, 40, .inl (if okE d a (Yc 3) then upd (Yg 3) (Yc 3) a else Yg 3))), (dd, .inr (2, [.ref dk, .int (nI (if okE d a (Yc 3) then kpN dn else dn))])), (dk, .inl (cI, 12, .inl (if okE d a (Yc 3) then kpK DK dn 0 else DK)))] (some (.int (if isInM d 0 364 = 0 then -1 else if isInM a 1 99999 = 0 then -1 else if Yc 3 < 40 then sumUp (upd (Yf 3) (Yc 3) d) (upd (Yg 3) (Yc 3) a) 499 (Yc 3 + 1) else -2))) := by
  refine wr_i (cc := cX8_earn) (maxL := 3) (by decide) rfl (Nat.le_of_ble_eq_true rfl) ?_
  intro p_ e_ s_ m_ ar_ be_ me_ co_ ls Q_ A_ hx hb hml hown hts hP hK hD hS hl hret
  have hown : s_.vm.findClass RX8 = some m_.cls := hown
  have hl : lv_has ls 3 [(0, .ref x0), (1, .int d), (2, .int a)] := hl
  refine lv_iload_n hx hb dX8_earn_0 rfl (lv_at hl 1 rfl) ?_
  refine lv_iconst (v := 0) hx hb dX8_earn_1 (by decide) ?_
  refine lv_sipush (v := 364) hx hb dX8_earn_2 (by decide) ?_
  refine rd_S (As := [.int d, .int 0, .int 364]) (rest := []) (kX8_isWithin l D cI cB d 0 364 ) ⟨hx, hb, hml, hown, hts⟩ (va_cwS 3 hts gX8_earn_X8_isWithin rfl rfl rfl (by decide +kernel) ⟨Nat.le_of_ble_eq_true rfl, Nat.le_of_ble_eq_true rfl⟩) hK hP [] rfl rfl rfl hl.1 (Nat.le_of_ble_eq_true rfl) dX8_earn_5 ⟨Nat.le_refl _, Nat.le_refl _⟩ ?_
  refine lv_if_eq (tgt := 18) hx hb dX8_earn_8 (by decide) (fun c8 => ?_) (fun c8 => ?_)
  · have hno : ¬ okE d a (Yc 3) := fun q => by first | exact q.1 c8 | exact q.2.1 c15
    refine lv_iconst (v := -1) hx hb dX8_earn_18 (by decide) ?_
    exact hret _ _ _ _ ls hS (by simpa only [if_neg hno] using hP) (by rw [if_pos c8]) dX8_earn_19
  · refine lv_iload_n hx hb dX8_earn_11 rfl (lv_at hl 2 rfl) ?_
    refine rd_S (As := [.int a]) (rest := []) (kX8_isAmount l D cI cB a ) ⟨hx, hb, hml, hown, hts⟩ (va_cwS 1 hts gX8_earn_X8_isAmount rfl rfl rfl (by decide +kernel) ⟨Nat.le_of_ble_eq_true rfl, Nat.le_of_ble_eq_true rfl⟩) hK hP [] rfl rfl rfl hl.1 (Nat.le_of_ble_eq_true rfl) dX8_earn_12 ⟨Nat.le_refl _, Nat.le_refl _⟩ ?_
    refine lv_if_ne (tgt := 20) hx hb dX8_earn_15 (by decide) (fun c15 => ?_) (fun c15 => ?_)
    · refine lv_aload_n hx hb dX8_earn_20 rfl (lv_at hl 0 rfl) ?_
      refine g_get (C := RX8) (T := TX8) (N := 9) (ci := 8) (index := 26) hx hb hts in_X8_earn_8 hown hK hP 0 2 rfl rfl (by decide) (List.mem_of_getElem? (i := 1) rfl) rfl dX8_earn_21 ?_
      refine g_get (C := RX7) (T := TX7) (N := 14) (ci := 7) (index := 148) hx hb hts in_X8_earn_7 hown hK hP 1 3 rfl rfl (by decide) (List.mem_of_getElem? (i := 2) rfl) rfl dX8_earn_24 ?_
      refine rd_V (As := []) (rest := []) (ci := 5) (kX5_isFull l D cI cB (Ya 3) (Yfa 3) (Ysa 3) 40 (Yc 3) (Yf 3) (Yg 3) (by omega) (by omega)) ⟨hx, hb, hml, hown, hts⟩ (cwV 0 hts gX8_earn_X5_isFull rfl rfl rfl (by decide +kernel) ⟨Nat.le_of_ble_eq_true rfl, Nat.le_of_ble_eq_true rfl⟩) hK hP [2, 3, 4] rfl 2 rfl rfl rfl rfl hl.1 (Nat.le_of_ble_eq_true rfl) dX8_earn_27 ⟨Nat.le_refl _, Nat.le_refl _⟩ ?_
      refine lv_if_eq (tgt := 36) hx hb dX8_earn_30 (by decide) (fun c30 => ?_) (fun c30 => ?_)
      · have h40 := full_no hc3 (by omega) c30
        have hyes : okE d a (Yc 3) := ⟨c8, c15, h40⟩
        refine lv_aload_n hx hb dX8_earn_36 rfl (lv_at hl 0 rfl) ?_
        refine g_get (C := RX8) (T := TX8) (N := 9) (ci := 8) (index := 26) hx hb hts in_X8_earn_8 hown hK hP 0 2 rfl rfl (by decide) (List.mem_of_getElem? (i := 1) rfl) rfl dX8_earn_37 ?_
        refine g_get (C := RX7) (T := TX7) (N := 14) (ci := 7) (index := 148) hx hb hts in_X8_earn_7 hown hK hP 1 3 rfl rfl (by decide) (List.mem_of_getElem? (i := 2) rfl) rfl dX8_earn_40 ?_
        refine lv_iload_n hx hb dX8_earn_43 rfl (lv_at hl 1 rfl) ?_
        refine lv_iload_n hx hb dX8_earn_44 rfl (lv_at hl 2 rfl) ?_
        refine wr_V (As := [.int d, .int a]) (rest := []) (ci := 5) (ws' := [(x0, .inr (8, [.ref t, .ref rdr, .ref yr, .ref dy, .ref ak, .ref ac, .ref lw, .ref dd, .int lf])), (yr, .inr (7, [.ref (Ya 0), .ref (Ya 1), .ref (Ya 2), .ref (Ya 3), .ref (Ya 4), .ref (Ya 5), .int (Yv 6), .int (Yv 7), .int (Yv 8), .int (Yv 9), .int (Yv 10), .int (Yv 11), .int (Yv 12), .int (Yv 13)])), (Ya 3, .inr (5, [.ref (Yfa 3), .ref (Ysa 3), .int (nI ((Yc 3) + 1))])), (Yfa 3, .inl (cI, 40, .inl (upd (Yf 3) (Yc 3) d))), (Ysa 3, .inl (cI, 40, .inl (upd (Yg 3) (Yc 3) a))), (dd, .inr (2, [.ref dk, .int (nI dn)])), (dk, .inl (cI, 12, .inl DK))]) (kX5_add l D cI cB (Ya 3) (Yfa 3) (Ysa 3) 40 (Yc 3) (Yf 3) (Yg 3) d a (by omega) (by omega)) ⟨hx, hb, hml, hown, hts⟩ (cwV 2 hts gX8_earn_X5_add rfl rfl rfl (by decide +kernel) ⟨Nat.le_of_ble_eq_true rfl, Nat.le_of_ble_eq_true rfl⟩) hK hP hD hS [2, 3, 4] rfl (by decide +kernel) (two_eq [Ya 3, Yfa 3, Ysa 3] rfl rfl) rfl 2 rfl rfl rfl rfl hl.1 (Nat.le_of_ble_eq_true rfl) dX8_earn_45 ⟨Nat.le_refl _, Nat.le_refl _⟩ (fun H_ lc_ hP hD hS => ?_)
        show W p_ l e_ (RM 2 43) s_ m_ ar_ be_ me_ co_ H_ lc_ 0 0 Q_ (F0 m_ 48 ls [])
        refine lv_aload_n hx hb dX8_earn_48 rfl (lv_at hl 0 rfl) ?_
        refine g_get (C := RX8) (T := TX8) (N := 9) (ci := 8) (index := 57) hx hb hts in_X8_earn_8 hown hK hP 0 7 rfl rfl (by decide) (List.mem_of_getElem? (i := 3) rfl) rfl dX8_earn_49 ?_
        refine lv_iconst (v := 0) hx hb dX8_earn_52 (by decide) ?_
        refine wr_V (As := [.int 0]) (rest := []) (ci := 2) (ws' := [(x0, .inr (8, [.ref t, .ref rdr, .ref yr, .ref dy, .ref ak, .ref ac, .ref lw, .ref dd, .int lf])), (yr, .inr (7, [.ref (Ya 0), .ref (Ya 1), .ref (Ya 2), .ref (Ya 3), .ref (Ya 4), .ref (Ya 5), .int (Yv 6), .int (Yv 7), .int (Yv 8), .int (Yv 9), .int (Yv 10), .int (Yv 11), .int (Yv 12), .int (Yv 13)])), (Ya 3, .inr (5, [.ref (Yfa 3), .ref (Ysa 3), .int (nI ((Yc 3) + 1))])), (Yfa 3, .inl (cI, 40, .inl (upd (Yf 3) (Yc 3) d))), (Ysa 3, .inl (cI, 40, .inl (upd (Yg 3) (Yc 3) a))), (dd, .inr (2, [.ref dk, .int (nI (kpN dn))])), (dk, .inl (cI, 12, .inl (kpK DK dn 0)))]) (kX2_keep l D cI cB dd dk dn DK 0 (by omega)) ⟨hx, hb, hml, hown, hts⟩ (cwV 1 hts gX8_earn_X2_keep rfl rfl rfl (by decide +kernel) ⟨Nat.le_of_ble_eq_true rfl, Nat.le_of_ble_eq_true rfl⟩) hK hP hD hS [5, 6] rfl (by decide +kernel) (two_eq [dd, dk] rfl rfl) rfl 5 rfl rfl rfl rfl hl.1 (Nat.le_of_ble_eq_true rfl) dX8_earn_53 ⟨Nat.le_refl _, Nat.le_refl _⟩ (fun H_ lc_ hP hD hS => ?_)
        show W p_ l e_ (RM 2 43) s_ m_ ar_ be_ me_ co_ H_ lc_ 0 0 Q_ (F0 m_ 56 ls [])
        refine lv_aload_n hx hb dX8_earn_56 rfl (lv_at hl 0 rfl) ?_
        refine g_get (C := RX8) (T := TX8) (N := 9) (ci := 8) (index := 26) hx hb hts in_X8_earn_8 hown hK hP 0 2 rfl rfl (by decide) (List.mem_of_getElem? (i := 1) rfl) rfl dX8_earn_57 ?_
        refine rd_V (As := []) (rest := []) (ci := 7) (kX7_allIncome2 l D cI cB yr Ya Yfa Ysa Yf Yg Yc Yv (upd (Yf 3) (Yc 3) d) (upd (Yg 3) (Yc 3) a) ((Yc 3) + 1) (h40)) ⟨hx, hb, hml, hown, hts⟩ (cwV 0 hts gX8_earn_X7_allIncome rfl rfl rfl (by decide +kernel) ⟨Nat.le_of_ble_eq_true rfl, Nat.le_of_ble_eq_true rfl⟩) hK hP [1, 2, 3, 4] rfl 1 rfl rfl rfl rfl hl.1 (Nat.le_of_ble_eq_true rfl) dX8_earn_60 ⟨Nat.le_refl _, Nat.le_refl _⟩ ?_
        exact hret _ _ _ _ ls hS (by simpa only [if_pos hyes] using hP) (by rw [if_neg c8, if_neg c15, if_pos h40]) dX8_earn_63
      · have h40 := full_yes hc3 (by omega) c30
        have hno : ¬ okE d a (Yc 3) := fun q => h40 q.2.2
        refine lv_bipush (v := -2) hx hb dX8_earn_33 (by decide) ?_
        exact hret _ _ _ _ ls hS (by simpa only [if_neg hno] using hP) (by rw [if_neg c8, if_neg c15, if_neg h40]) dX8_earn_35
    · have hno : ¬ okE d a (Yc 3) := fun q => by first | exact q.1 c8 | exact q.2.1 c15
      refine lv_iconst (v := -1) hx hb dX8_earn_18 (by decide) ?_
      exact hret _ _ _ _ ls hS (by simpa only [if_neg hno] using hP) (by rw [if_neg c8, if_pos c15]) dX8_earn_19

theorem in_X8_pay_8 : ∀ w ∈ wsX80, w ∈ wsX8_pay := fun _ h => List.mem_cons_of_mem _ (List.mem_append_left _ (List.mem_append_left _ (List.mem_append_left _ (List.mem_append_right _ (h)))))
theorem in_X8_pay_7 : ∀ w ∈ wsX70, w ∈ wsX8_pay := fun _ h => List.mem_cons_of_mem _ (List.mem_append_left _ (List.mem_append_left _ (List.mem_append_right _ (h))))
theorem in_X8_pay_5 : ∀ w ∈ wsX50, w ∈ wsX8_pay := fun _ h => List.mem_cons_of_mem _ (List.mem_append_left _ (List.mem_append_right _ (h)))
set_option maxHeartbeats 4000000 in
set_option maxRecDepth 100000 in
theorem kX8_pay (l : Launch) (D : va_G) (cI cB : ClassId) (x0 t rdr yr dy ak ac lw dd : Nat) (lf : Int32) (Ya Yfa Ysa : Nat → Nat) (Yf Yg : Nat → Nat → Int32) (Yc : Nat → Nat) (Yv : Nat → Int32) (dk dn : Nat) (DK : Nat → Int32) (d a : Int32) (hc4 : Yc 4 ≤ 40) (hdn : dn ≤ 12) : Wr l D (TY cI cB) yX8_pay wsX8_pay 2 42 [.ref x0, .int d, .int a] [(x0, .inr (8, [.ref t, .ref rdr, .ref yr, .ref dy, .ref ak, .ref ac, .ref lw, .ref dd, .int lf])), (yr, .inr (7, [.ref (Ya 0), .ref (Ya 1), .ref (Ya 2), .ref (Ya 3), .ref (Ya 4), .ref (Ya 5), .int (Yv 6), .int (Yv 7), .int (Yv 8), .int (Yv 9), .int (Yv 10), .int (Yv 11), .int (Yv 12), .int (Yv 13)])), (Ya 4, .inr (5, [.ref (Yfa 4), .ref (Ysa 4), .int (nI (Yc 4))])), (Yfa 4, .inl (cI, 40, .inl (Yf 4))), (Ysa 4, .inl (cI, 40, .inl (Yg 4))), (dd, .inr (2, [.ref dk, .int (nI dn)])), (dk, .inl (cI, 12, .inl DK))] [(x0, .inr (8, [.ref t, .ref rdr, .ref yr, .ref dy, .ref ak, .ref ac, .ref lw, .ref dd, .int lf])), (yr, .inr (7, [.ref (Ya 0), .ref (Ya 1), .ref (Ya 2), .ref (Ya 3), .ref (Ya 4), .ref (Ya 5), .int (Yv 6), .int (Yv 7), .int (Yv 8), .int (Yv 9), .int (Yv 10), .int (Yv 11), .int (Yv 12), .int (Yv 13)])), (Ya 4, .inr (5, [.ref (Yfa 4), .ref (Ysa 4), .int (nI (if okP d a (Yc 4) then Yc 4 + 1 else Yc 4))])), (Yfa 4, .inl (cI, 40, .inl (if okP d a (Yc 4) then upd (Yf 4) (Yc 4) d else Yf 4))), (Ysa 4, .inl (cI, 40, .inl (if okP d a (Yc 4) then upd (Yg 4) (Yc 4) a else Yg 4))), (dd, .inr (2, [.ref dk, .int (nI (if okP d a (Yc 4) then kpN dn else dn))])), (dk, .inl (cI, 12, .inl (if okP d a (Yc 4) then kpK DK dn 1 else DK)))] (some (.int (if isInM d 0 499 = 0 then -1 else if isInM a 1 99999 = 0 then -1 else if Yc 4 < 40 then nI (Yc 4) else -2))) := by
  refine wr_i (cc := cX8_pay) (maxL := 3) (by decide) rfl (Nat.le_of_ble_eq_true rfl) ?_
  intro p_ e_ s_ m_ ar_ be_ me_ co_ ls Q_ A_ hx hb hml hown hts hP hK hD hS hl hret
  have hown : s_.vm.findClass RX8 = some m_.cls := hown
  have hl : lv_has ls 3 [(0, .ref x0), (1, .int d), (2, .int a)] := hl
  refine lv_iload_n hx hb dX8_pay_0 rfl (lv_at hl 1 rfl) ?_
  refine rd_S (As := [.int d]) (rest := []) (kX8_isDay l D cI cB d ) ⟨hx, hb, hml, hown, hts⟩ (va_cwS 1 hts gX8_pay_X8_isDay rfl rfl rfl (by decide +kernel) ⟨Nat.le_of_ble_eq_true rfl, Nat.le_of_ble_eq_true rfl⟩) hK hP [] rfl rfl rfl hl.1 (Nat.le_of_ble_eq_true rfl) dX8_pay_1 ⟨Nat.le_refl _, Nat.le_refl _⟩ ?_
  refine lv_if_eq (tgt := 14) hx hb dX8_pay_4 (by decide) (fun c4 => ?_) (fun c4 => ?_)
  · have hno : ¬ okP d a (Yc 4) := fun q => by first | exact q.1 c4 | exact q.2.1 c11
    refine lv_iconst (v := -1) hx hb dX8_pay_14 (by decide) ?_
    exact hret _ _ _ _ ls hS (by simpa only [if_neg hno] using hP) (by rw [if_pos c4]) dX8_pay_15
  · refine lv_iload_n hx hb dX8_pay_7 rfl (lv_at hl 2 rfl) ?_
    refine rd_S (As := [.int a]) (rest := []) (kX8_isAmount l D cI cB a ) ⟨hx, hb, hml, hown, hts⟩ (va_cwS 1 hts gX8_pay_X8_isAmount rfl rfl rfl (by decide +kernel) ⟨Nat.le_of_ble_eq_true rfl, Nat.le_of_ble_eq_true rfl⟩) hK hP [] rfl rfl rfl hl.1 (Nat.le_of_ble_eq_true rfl) dX8_pay_8 ⟨Nat.le_refl _, Nat.le_refl _⟩ ?_
    refine lv_if_ne (tgt := 16) hx hb dX8_pay_11 (by decide) (fun c11 => ?_) (fun c11 => ?_)
    · refine lv_aload_n hx hb dX8_pay_16 rfl (lv_at hl 0 rfl) ?_
      refine g_get (C := RX8) (T := TX8) (N := 9) (ci := 8) (index := 26) hx hb hts in_X8_pay_8 hown hK hP 0 2 rfl rfl (by decide) (List.mem_of_getElem? (i := 1) rfl) rfl dX8_pay_17 ?_
      refine g_get (C := RX7) (T := TX7) (N := 14) (ci := 7) (index := 117) hx hb hts in_X8_pay_7 hown hK hP 1 4 rfl rfl (by decide) (List.mem_of_getElem? (i := 2) rfl) rfl dX8_pay_20 ?_
      refine rd_V (As := []) (rest := []) (ci := 5) (kX5_isFull l D cI cB (Ya 4) (Yfa 4) (Ysa 4) 40 (Yc 4) (Yf 4) (Yg 4) (by omega) (by omega)) ⟨hx, hb, hml, hown, hts⟩ (cwV 0 hts gX8_pay_X5_isFull rfl rfl rfl (by decide +kernel) ⟨Nat.le_of_ble_eq_true rfl, Nat.le_of_ble_eq_true rfl⟩) hK hP [2, 3, 4] rfl 2 rfl rfl rfl rfl hl.1 (Nat.le_of_ble_eq_true rfl) dX8_pay_23 ⟨Nat.le_refl _, Nat.le_refl _⟩ ?_
      refine lv_if_eq (tgt := 32) hx hb dX8_pay_26 (by decide) (fun c26 => ?_) (fun c26 => ?_)
      · have h40 := full_no hc4 (by omega) c26
        have hyes : okP d a (Yc 4) := ⟨c4, c11, h40⟩
        refine lv_aload_n hx hb dX8_pay_32 rfl (lv_at hl 0 rfl) ?_
        refine g_get (C := RX8) (T := TX8) (N := 9) (ci := 8) (index := 26) hx hb hts in_X8_pay_8 hown hK hP 0 2 rfl rfl (by decide) (List.mem_of_getElem? (i := 1) rfl) rfl dX8_pay_33 ?_
        refine g_get (C := RX7) (T := TX7) (N := 14) (ci := 7) (index := 117) hx hb hts in_X8_pay_7 hown hK hP 1 4 rfl rfl (by decide) (List.mem_of_getElem? (i := 2) rfl) rfl dX8_pay_36 ?_
        refine lv_iload_n hx hb dX8_pay_39 rfl (lv_at hl 1 rfl) ?_
        refine lv_iload_n hx hb dX8_pay_40 rfl (lv_at hl 2 rfl) ?_
        refine wr_V (As := [.int d, .int a]) (rest := []) (ci := 5) (ws' := [(x0, .inr (8, [.ref t, .ref rdr, .ref yr, .ref dy, .ref ak, .ref ac, .ref lw, .ref dd, .int lf])), (yr, .inr (7, [.ref (Ya 0), .ref (Ya 1), .ref (Ya 2), .ref (Ya 3), .ref (Ya 4), .ref (Ya 5), .int (Yv 6), .int (Yv 7), .int (Yv 8), .int (Yv 9), .int (Yv 10), .int (Yv 11), .int (Yv 12), .int (Yv 13)])), (Ya 4, .inr (5, [.ref (Yfa 4), .ref (Ysa 4), .int (nI ((Yc 4) + 1))])), (Yfa 4, .inl (cI, 40, .inl (upd (Yf 4) (Yc 4) d))), (Ysa 4, .inl (cI, 40, .inl (upd (Yg 4) (Yc 4) a))), (dd, .inr (2, [.ref dk, .int (nI dn)])), (dk, .inl (cI, 12, .inl DK))]) (kX5_add l D cI cB (Ya 4) (Yfa 4) (Ysa 4) 40 (Yc 4) (Yf 4) (Yg 4) d a (by omega) (by omega)) ⟨hx, hb, hml, hown, hts⟩ (cwV 2 hts gX8_pay_X5_add rfl rfl rfl (by decide +kernel) ⟨Nat.le_of_ble_eq_true rfl, Nat.le_of_ble_eq_true rfl⟩) hK hP hD hS [2, 3, 4] rfl (by decide +kernel) (two_eq [Ya 4, Yfa 4, Ysa 4] rfl rfl) rfl 2 rfl rfl rfl rfl hl.1 (Nat.le_of_ble_eq_true rfl) dX8_pay_41 ⟨Nat.le_refl _, Nat.le_refl _⟩ (fun H_ lc_ hP hD hS => ?_)
        show W p_ l e_ (RM 2 42) s_ m_ ar_ be_ me_ co_ H_ lc_ 0 0 Q_ (F0 m_ 44 ls [])
        refine lv_aload_n hx hb dX8_pay_44 rfl (lv_at hl 0 rfl) ?_
        refine g_get (C := RX8) (T := TX8) (N := 9) (ci := 8) (index := 57) hx hb hts in_X8_pay_8 hown hK hP 0 7 rfl rfl (by decide) (List.mem_of_getElem? (i := 3) rfl) rfl dX8_pay_45 ?_
        refine lv_iconst (v := 1) hx hb dX8_pay_48 (by decide) ?_
        refine wr_V (As := [.int 1]) (rest := []) (ci := 2) (ws' := [(x0, .inr (8, [.ref t, .ref rdr, .ref yr, .ref dy, .ref ak, .ref ac, .ref lw, .ref dd, .int lf])), (yr, .inr (7, [.ref (Ya 0), .ref (Ya 1), .ref (Ya 2), .ref (Ya 3), .ref (Ya 4), .ref (Ya 5), .int (Yv 6), .int (Yv 7), .int (Yv 8), .int (Yv 9), .int (Yv 10), .int (Yv 11), .int (Yv 12), .int (Yv 13)])), (Ya 4, .inr (5, [.ref (Yfa 4), .ref (Ysa 4), .int (nI ((Yc 4) + 1))])), (Yfa 4, .inl (cI, 40, .inl (upd (Yf 4) (Yc 4) d))), (Ysa 4, .inl (cI, 40, .inl (upd (Yg 4) (Yc 4) a))), (dd, .inr (2, [.ref dk, .int (nI (kpN dn))])), (dk, .inl (cI, 12, .inl (kpK DK dn 1)))]) (kX2_keep l D cI cB dd dk dn DK 1 (by omega)) ⟨hx, hb, hml, hown, hts⟩ (cwV 1 hts gX8_pay_X2_keep rfl rfl rfl (by decide +kernel) ⟨Nat.le_of_ble_eq_true rfl, Nat.le_of_ble_eq_true rfl⟩) hK hP hD hS [5, 6] rfl (by decide +kernel) (two_eq [dd, dk] rfl rfl) rfl 5 rfl rfl rfl rfl hl.1 (Nat.le_of_ble_eq_true rfl) dX8_pay_49 ⟨Nat.le_refl _, Nat.le_refl _⟩ (fun H_ lc_ hP hD hS => ?_)
        show W p_ l e_ (RM 2 42) s_ m_ ar_ be_ me_ co_ H_ lc_ 0 0 Q_ (F0 m_ 52 ls [])
        refine lv_aload_n hx hb dX8_pay_52 rfl (lv_at hl 0 rfl) ?_
        refine g_get (C := RX8) (T := TX8) (N := 9) (ci := 8) (index := 26) hx hb hts in_X8_pay_8 hown hK hP 0 2 rfl rfl (by decide) (List.mem_of_getElem? (i := 1) rfl) rfl dX8_pay_53 ?_
        refine g_get (C := RX7) (T := TX7) (N := 14) (ci := 7) (index := 117) hx hb hts in_X8_pay_7 hown hK hP 1 4 rfl rfl (by decide) (List.mem_of_getElem? (i := 2) rfl) rfl dX8_pay_56 ?_
        refine g_get (C := RX5) (T := TX5) (N := 3) (ci := 5) (index := 121) hx hb hts in_X8_pay_5 hown hK hP 2 2 rfl rfl (by decide) (List.mem_of_getElem? (i := 4) rfl) rfl dX8_pay_59 ?_
        refine lv_iconst (v := 1) hx hb dX8_pay_62 (by decide) ?_
        refine lv_isub hx hb dX8_pay_63 ?_
        rw [show ((nI ((Yc 4) + 1)) - 1 : Int32) = nI (Yc 4) from nI_pred _]
        exact hret _ _ _ _ ls hS (by simpa only [if_pos hyes] using hP) (by rw [if_neg c4, if_neg c11, if_pos h40]) dX8_pay_64
      · have h40 := full_yes hc4 (by omega) c26
        have hno : ¬ okP d a (Yc 4) := fun q => h40 q.2.2
        refine lv_bipush (v := -2) hx hb dX8_pay_29 (by decide) ?_
        exact hret _ _ _ _ ls hS (by simpa only [if_neg hno] using hP) (by rw [if_neg c4, if_neg c11, if_neg h40]) dX8_pay_31
    · have hno : ¬ okP d a (Yc 4) := fun q => by first | exact q.1 c4 | exact q.2.1 c11
      refine lv_iconst (v := -1) hx hb dX8_pay_14 (by decide) ?_
      exact hret _ _ _ _ ls hS (by simpa only [if_neg hno] using hP) (by rw [if_neg c4, if_pos c11]) dX8_pay_15

