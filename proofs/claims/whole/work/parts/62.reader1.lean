def lastX (f : Nat → Int32) (c : Nat) : Int32 := if nI c ≤ 0 then -1 else rowAt f c (nI c - 1)
def haX (Z : DYt) (s : Int32) : Int32 := if s = 3 then (if nI (Z.2.2.1 1) < nI 4 then 0 else 1) else if s = 4 then Z.2.2.2 11 else if s = 5 then (if nI (Z.2.2.1 2) < nI 6 then 0 else 1) else if s = 6 then (if nI (Z.2.2.1 3) < 20 then 0 else 1) else if s = 7 then (if nI (Z.2.2.1 4) < 20 then 0 else 1) else 0
def loX (Z : DYt) (s i : Int32) : Int32 := if s = 1 then (if i = 0 then 1 + lastX (Z.1 0) (Z.2.2.1 0) else 1 + lastX (Z.2.1 0) (Z.2.2.1 0)) else if s = 2 then 0 else if s = 3 then (if i = 0 then max32 1 (1 + lastX (Z.1 1) (Z.2.2.1 1)) else 0) else if s = 4 then 0 else if s = 5 then (if i = 0 then 1 + lastX (Z.1 2) (Z.2.2.1 2) else 0) else if s = 6 then (if i = 0 then 0 else 1) else if s = 7 then (if i = 0 then 0 else 1) else 0
def hiX (Z : DYt) (s i : Int32) : Int32 := if s = 0 then (if 2 ≤ i then 499 else 99999) else if s = 1 then (if i = 0 then Z.2.2.2 8 else 364) else if s = 2 then 100 else if s = 3 then (if i = 0 then 99999 else 99) else if s = 4 then 99 else if s = 5 then (if i = 0 then 499 else 99) else if s = 6 then (if i = 0 then 364 else 99999) else if s = 7 then (if i = 0 then 499 else 99999) else 0
def nmX (s : Int32) : Int32 := if s = 0 then 3 else if s = 4 then 1 else 2
def ccX (l : Nat) (s : Int32) : Int32 := if nI l = 0 then (if s = 0 then 1 else 0) else if 4 < nI l then (if 6 ≤ nI l then (if s < 3 then 0 else 1) else if s = 2 then 1 else 0) else if s = 1 then 1 else 0
theorem in_X4_canCome_4 : ∀ w ∈ wsX40, w ∈ wsX4_canCome := fun _ h => List.mem_cons_of_mem _ (List.mem_append_right _ (h))
set_option maxHeartbeats 4000000 in
set_option maxRecDepth 100000 in
theorem kX4_canCome (l : Launch) (D : va_G) (cI cB : ClassId) (rdr nb : Nat) (S : XSt) (s : Int32)  : Rd l D (TY cI cB) yX4_canCome wsX4_canCome 0 0 [.ref rdr, .int s] [(rdr, .inr (4, [.ref nb, .int (nI S.1), .int S.2.1, .int (nI S.2.2.1), .int (nI S.2.2.2.1), .int (nI S.2.2.2.2.1), .int S.2.2.2.2.2.1, .int S.2.2.2.2.2.2.1])), (nb, .inl (cI, 3, .inl S.2.2.2.2.2.2.2))] (ccX S.1 s) := by
  refine rd_z (cc := cX4_canCome) (maxL := 2) (by decide) rfl (Nat.le_of_ble_eq_true rfl) ?_
  intro p_ e_ s_ m_ ar_ be_ me_ co_ ls Q_ hx hb hml hown hts hP hK hl hret
  have hown : s_.vm.findClass RX4 = some m_.cls := hown
  have hl : lv_has ls 2 [(0, .ref rdr), (1, .int s)] := hl
  refine lv_aload_n hx hb dX4_canCome_0 rfl (lv_at hl 0 rfl) ?_
  refine g_get (C := RX4) (T := TX4) (N := 8) (ci := 4) (index := 20) hx hb hts in_X4_canCome_4 hown hK hP 0 1 rfl rfl (by decide) (List.mem_of_getElem? (i := 1) rfl) rfl dX4_canCome_1 ?_
  refine lv_if_ne (tgt := 17) hx hb dX4_canCome_4 (by decide) (fun c4 => ?_) (fun c4 => ?_)
  · refine lv_aload_n hx hb dX4_canCome_17 rfl (lv_at hl 0 rfl) ?_
    refine g_get (C := RX4) (T := TX4) (N := 8) (ci := 4) (index := 20) hx hb hts in_X4_canCome_4 hown hK hP 0 1 rfl rfl (by decide) (List.mem_of_getElem? (i := 1) rfl) rfl dX4_canCome_18 ?_
    refine lv_iconst (v := 4) hx hb dX4_canCome_21 (by decide) ?_
    refine lv_icmp_gt (tgt := 36) hx hb dX4_canCome_22 (by decide) (fun c22 => ?_) (fun c22 => ?_)
    · refine lv_aload_n hx hb dX4_canCome_36 rfl (lv_at hl 0 rfl) ?_
      refine g_get (C := RX4) (T := TX4) (N := 8) (ci := 4) (index := 20) hx hb hts in_X4_canCome_4 hown hK hP 0 1 rfl rfl (by decide) (List.mem_of_getElem? (i := 1) rfl) rfl dX4_canCome_37 ?_
      refine lv_bipush (v := 6) hx hb dX4_canCome_40 (by decide) ?_
      refine lv_icmp_ge (tgt := 56) hx hb dX4_canCome_42 (by decide) (fun c42 => ?_) (fun c42 => ?_)
      · refine lv_iload_n hx hb dX4_canCome_56 rfl (lv_at hl 1 rfl) ?_
        refine lv_iconst (v := 3) hx hb dX4_canCome_57 (by decide) ?_
        refine lv_icmp_lt (tgt := 65) hx hb dX4_canCome_58 (by decide) (fun c58 => ?_) (fun c58 => ?_)
        · refine lv_iconst (v := 0) hx hb dX4_canCome_65 (by decide) ?_
          exact hret _ _ ls (by simp [ccX, c4, c22, c42, c58]) (by decide) dX4_canCome_66
        · refine lv_iconst (v := 1) hx hb dX4_canCome_61 (by decide) ?_
          refine lv_goto (tgt := 66) hx hb dX4_canCome_62 (by decide) ?_
          exact hret _ _ ls (by simp [ccX, c4, c22, c42, c58]) (by decide) dX4_canCome_66
      · refine lv_iload_n hx hb dX4_canCome_45 rfl (lv_at hl 1 rfl) ?_
        refine lv_iconst (v := 2) hx hb dX4_canCome_46 (by decide) ?_
        refine lv_icmp_ne (tgt := 54) hx hb dX4_canCome_47 (by decide) (fun c47 => ?_) (fun c47 => ?_)
        · refine lv_iconst (v := 0) hx hb dX4_canCome_54 (by decide) ?_
          exact hret _ _ ls (by simp [ccX, c4, c22, c42, c47]) (by decide) dX4_canCome_55
        · refine lv_iconst (v := 1) hx hb dX4_canCome_50 (by decide) ?_
          refine lv_goto (tgt := 55) hx hb dX4_canCome_51 (by decide) ?_
          exact hret _ _ ls (by simp [ccX, c4, c22, c42, c47]) (by decide) dX4_canCome_55
    · refine lv_iload_n hx hb dX4_canCome_25 rfl (lv_at hl 1 rfl) ?_
      refine lv_iconst (v := 1) hx hb dX4_canCome_26 (by decide) ?_
      refine lv_icmp_ne (tgt := 34) hx hb dX4_canCome_27 (by decide) (fun c27 => ?_) (fun c27 => ?_)
      · refine lv_iconst (v := 0) hx hb dX4_canCome_34 (by decide) ?_
        exact hret _ _ ls (by simp [ccX, c4, c22, c27]) (by decide) dX4_canCome_35
      · refine lv_iconst (v := 1) hx hb dX4_canCome_30 (by decide) ?_
        refine lv_goto (tgt := 35) hx hb dX4_canCome_31 (by decide) ?_
        exact hret _ _ ls (by simp [ccX, c4, c22, c27]) (by decide) dX4_canCome_35
  · refine lv_iload_n hx hb dX4_canCome_7 rfl (lv_at hl 1 rfl) ?_
    refine lv_if_ne (tgt := 15) hx hb dX4_canCome_8 (by decide) (fun c8 => ?_) (fun c8 => ?_)
    · refine lv_iconst (v := 0) hx hb dX4_canCome_15 (by decide) ?_
      exact hret _ _ ls (by simp [ccX, c4, c8]) (by decide) dX4_canCome_16
    · refine lv_iconst (v := 1) hx hb dX4_canCome_11 (by decide) ?_
      refine lv_goto (tgt := 16) hx hb dX4_canCome_12 (by decide) ?_
      exact hret _ _ ls (by simp [ccX, c4, c8]) (by decide) dX4_canCome_16

set_option maxHeartbeats 4000000 in
set_option maxRecDepth 100000 in
theorem kX4_numbersOf (l : Launch) (D : va_G) (cI cB : ClassId) (s : Int32)  : Rd l D (TY cI cB) yX4_numbersOf wsX4_numbersOf 0 0 [.int s] [] (nmX s) := by
  refine rd_i (cc := cX4_numbersOf) (maxL := 1) (by decide) rfl (Nat.le_of_ble_eq_true rfl) ?_
  intro p_ e_ s_ m_ ar_ be_ me_ co_ ls Q_ hx hb hml hown hts hP hK hl hret
  have hown : s_.vm.findClass RX4 = some m_.cls := hown
  have hl : lv_has ls 1 [(0, .int s)] := hl
  refine lv_iload_n hx hb dX4_numbersOf_0 rfl (lv_at hl 0 rfl) ?_
  by_cases c1_0 : s = (0 : Int32)
  · refine lv_lookup (off := 27) (tgt := 28) hx hb dX4_numbersOf_1 rfl (by rw [c1_0]; rfl) (by decide) ?_
    refine lv_iconst (v := 3) hx hb dX4_numbersOf_28 (by decide) ?_
    exact hret _ _ ls (by simp [nmX, c1_0]) dX4_numbersOf_29
  by_cases c1_4 : s = (4 : Int32)
  · refine lv_lookup (off := 29) (tgt := 30) hx hb dX4_numbersOf_1 rfl (by rw [c1_4]; rfl) (by decide) ?_
    refine lv_iconst (v := 1) hx hb dX4_numbersOf_30 (by decide) ?_
    exact hret _ _ ls (by simp [nmX, c1_0, c1_4]) dX4_numbersOf_31
  refine lv_lookup (off := 31) (tgt := 32) hx hb dX4_numbersOf_1 rfl (by show Op.lookupswitch.offset [(0, 27), (4, 29)] 31 _ = _; rw [lv_osw (a := 0) c1_0 rfl, lv_osw (a := 4) c1_4 rfl]; rfl) (by decide) ?_
  refine lv_iconst (v := 2) hx hb dX4_numbersOf_32 (by decide) ?_
  exact hret _ _ ls (by simp [nmX, c1_0, c1_4]) dX4_numbersOf_33

theorem in_X4_number_4 : ∀ w ∈ wsX40, w ∈ wsX4_number := fun _ h => List.mem_cons_of_mem _ (List.mem_append_right _ (h))
set_option maxHeartbeats 4000000 in
set_option maxRecDepth 100000 in
theorem kX4_number (l : Launch) (D : va_G) (cI cB : ClassId) (rdr nb : Nat) (S : XSt) (i : Int32)  : Rd l D (TY cI cB) yX4_number wsX4_number 0 0 [.ref rdr, .int i] [(rdr, .inr (4, [.ref nb, .int (nI S.1), .int S.2.1, .int (nI S.2.2.1), .int (nI S.2.2.2.1), .int (nI S.2.2.2.2.1), .int S.2.2.2.2.2.1, .int S.2.2.2.2.2.2.1])), (nb, .inl (cI, 3, .inl S.2.2.2.2.2.2.2))] (rowAt S.2.2.2.2.2.2.2 3 i) := by
  refine rd_i (cc := cX4_number) (maxL := 2) (by decide) rfl (Nat.le_of_ble_eq_true rfl) ?_
  intro p_ e_ s_ m_ ar_ be_ me_ co_ ls Q_ hx hb hml hown hts hP hK hl hret
  have hown : s_.vm.findClass RX4 = some m_.cls := hown
  have hl : lv_has ls 2 [(0, .ref rdr), (1, .int i)] := hl
  refine lv_iload_n hx hb dX4_number_0 rfl (lv_at hl 1 rfl) ?_
  refine lv_if_lt (tgt := 22) hx hb dX4_number_1 (by decide) (fun c1 => ?_) (fun c1 => ?_)
  · refine lv_iconst (v := 0) hx hb dX4_number_22 (by decide) ?_
    exact hret _ _ ls (by simp [rowAt, c1]) dX4_number_23
  · refine lv_iload_n hx hb dX4_number_4 rfl (lv_at hl 1 rfl) ?_
    refine lv_aload_n hx hb dX4_number_5 rfl (lv_at hl 0 rfl) ?_
    refine g_get (C := RX4) (T := TX4) (N := 8) (ci := 4) (index := 11) hx hb hts in_X4_number_4 hown hK hP 0 0 rfl rfl (by decide) (List.mem_of_getElem? (i := 1) rfl) rfl dX4_number_6 ?_
    refine va_alen (v := nI 3) hx hb hK hP 1 0 rfl rfl rfl dX4_number_9 ?_
    refine lv_icmp_ge (tgt := 22) hx hb dX4_number_10 (by decide) (fun c10 => ?_) (fun c10 => ?_)
    · refine lv_iconst (v := 0) hx hb dX4_number_22 (by decide) ?_
      exact hret _ _ ls (by simp [rowAt, c1, c10]) dX4_number_23
    · refine lv_aload_n hx hb dX4_number_13 rfl (lv_at hl 0 rfl) ?_
      refine g_get (C := RX4) (T := TX4) (N := 8) (ci := 4) (index := 11) hx hb hts in_X4_number_4 hown hK hP 0 0 rfl rfl (by decide) (List.mem_of_getElem? (i := 1) rfl) rfl dX4_number_14 ?_
      refine lv_iload_n hx hb dX4_number_17 rfl (lv_at hl 1 rfl) ?_
      refine va_iald hx hb hK hP 1 0 rfl rfl (in_nI c1 c10 (by omega)) dX4_number_18 ?_
      refine lv_goto (tgt := 23) hx hb dX4_number_19 (by decide) ?_
      exact hret _ _ ls (by simp [rowAt, c1, c10]) dX4_number_23

theorem in_X4_hasAllOf_7 : ∀ w ∈ wsX70, w ∈ wsX4_hasAllOf := fun _ h => List.mem_cons_of_mem _ (List.mem_append_left _ (List.mem_append_right _ (h)))
theorem in_X4_hasAllOf_5 : ∀ w ∈ wsX50, w ∈ wsX4_hasAllOf := fun _ h => List.mem_cons_of_mem _ (List.mem_append_right _ (h))
set_option maxHeartbeats 4000000 in
set_option maxRecDepth 100000 in
theorem kX4_hasAllOf (l : Launch) (D : va_G) (cI cB : ClassId) (dy : Nat) (Za Zfa Zsa : Nat → Nat) (Z : DYt) (s : Int32) (hz1 : Z.2.2.1 1 ≤ 4) (hz2 : Z.2.2.1 2 ≤ 6) (hov : b01 (Z.2.2.2 11)) : Rd l D (TY cI cB) yX4_hasAllOf wsX4_hasAllOf 1 20 [.int s, .ref dy] [(dy, .inr (7, [.ref (Za 0), .ref (Za 1), .ref (Za 2), .ref (Za 3), .ref (Za 4), .ref (Za 5), .int (Z.2.2.2 6), .int (Z.2.2.2 7), .int (Z.2.2.2 8), .int (Z.2.2.2 9), .int (Z.2.2.2 10), .int (Z.2.2.2 11), .int (Z.2.2.2 12), .int (Z.2.2.2 13)])), (Za 1, .inr (5, [.ref (Zfa 1), .ref (Zsa 1), .int (nI (Z.2.2.1 1))])), (Zfa 1, .inl (cI, 4, .inl (Z.1 1))), (Zsa 1, .inl (cI, 4, .inl (Z.2.1 1))), (Za 2, .inr (5, [.ref (Zfa 2), .ref (Zsa 2), .int (nI (Z.2.2.1 2))])), (Zfa 2, .inl (cI, 6, .inl (Z.1 2))), (Zsa 2, .inl (cI, 6, .inl (Z.2.1 2))), (Za 3, .inr (5, [.ref (Zfa 3), .ref (Zsa 3), .int (nI (Z.2.2.1 3))])), (Zfa 3, .inl (cI, 40, .inl (Z.1 3))), (Zsa 3, .inl (cI, 40, .inl (Z.2.1 3))), (Za 4, .inr (5, [.ref (Zfa 4), .ref (Zsa 4), .int (nI (Z.2.2.1 4))])), (Zfa 4, .inl (cI, 40, .inl (Z.1 4))), (Zsa 4, .inl (cI, 40, .inl (Z.2.1 4)))] (haX Z s) := by
  refine rd_z (cc := cX4_hasAllOf) (maxL := 2) (by decide) rfl (Nat.le_of_ble_eq_true rfl) ?_
  intro p_ e_ s_ m_ ar_ be_ me_ co_ ls Q_ hx hb hml hown hts hP hK hl hret
  have hown : s_.vm.findClass RX4 = some m_.cls := hown
  have hl : lv_has ls 2 [(0, .int s), (1, .ref dy)] := hl
  refine lv_iload_n hx hb dX4_hasAllOf_0 rfl (lv_at hl 0 rfl) ?_
  by_cases c1_3 : s = (3 : Int32)
  · refine lv_tableIn (off := 35) (tgt := 36) hx hb dX4_hasAllOf_1 (by rw [c1_3]; decide) (by rw [c1_3]; decide) (by rw [c1_3]; rfl) (by decide) ?_
    refine lv_aload_n hx hb dX4_hasAllOf_36 rfl (lv_at hl 1 rfl) ?_
    refine g_get (C := RX7) (T := TX7) (N := 14) (ci := 7) (index := 152) hx hb hts in_X4_hasAllOf_7 hown hK hP 0 1 rfl rfl (by decide) (List.mem_of_getElem? (i := 1) rfl) rfl dX4_hasAllOf_37 ?_
    refine rd_V (As := []) (rest := []) (ci := 5) (kX5_isFull l D cI cB (Za 1) (Zfa 1) (Zsa 1) 4 (Z.2.2.1 1) (Z.1 1) (Z.2.1 1) (by omega) (by omega)) ⟨hx, hb, hml, hown, hts⟩ (cwV 0 hts gX4_hasAllOf_X5_isFull rfl rfl rfl (by decide +kernel) ⟨Nat.le_of_ble_eq_true rfl, Nat.le_of_ble_eq_true rfl⟩) hK hP [1, 2, 3] rfl 1 rfl rfl rfl rfl hl.1 (Nat.le_of_ble_eq_true rfl) dX4_hasAllOf_40 ⟨Nat.le_refl _, Nat.le_refl _⟩ ?_
    exact hret _ _ ls (by unfold haX; rw [if_pos c1_3]) (by first | decide | exact b01_nar hov | (split <;> rfl)) dX4_hasAllOf_43
  by_cases c1_4 : s = (4 : Int32)
  · refine lv_tableIn (off := 43) (tgt := 44) hx hb dX4_hasAllOf_1 (by rw [c1_4]; decide) (by rw [c1_4]; decide) (by rw [c1_4]; rfl) (by decide) ?_
    refine lv_aload_n hx hb dX4_hasAllOf_44 rfl (lv_at hl 1 rfl) ?_
    refine g_get (C := RX7) (T := TX7) (N := 14) (ci := 7) (index := 162) hx hb hts in_X4_hasAllOf_7 hown hK hP 0 11 rfl rfl (by decide) (List.mem_of_getElem? (i := 2) rfl) rfl dX4_hasAllOf_45 ?_
    exact hret _ _ ls (by unfold haX; rw [if_neg c1_3, if_pos c1_4]) (by first | decide | exact b01_nar hov | (split <;> rfl)) dX4_hasAllOf_48
  by_cases c1_5 : s = (5 : Int32)
  · refine lv_tableIn (off := 48) (tgt := 49) hx hb dX4_hasAllOf_1 (by rw [c1_5]; decide) (by rw [c1_5]; decide) (by rw [c1_5]; rfl) (by decide) ?_
    refine lv_aload_n hx hb dX4_hasAllOf_49 rfl (lv_at hl 1 rfl) ?_
    refine g_get (C := RX7) (T := TX7) (N := 14) (ci := 7) (index := 166) hx hb hts in_X4_hasAllOf_7 hown hK hP 0 2 rfl rfl (by decide) (List.mem_of_getElem? (i := 3) rfl) rfl dX4_hasAllOf_50 ?_
    refine rd_V (As := []) (rest := []) (ci := 5) (kX5_isFull l D cI cB (Za 2) (Zfa 2) (Zsa 2) 6 (Z.2.2.1 2) (Z.1 2) (Z.2.1 2) (by omega) (by omega)) ⟨hx, hb, hml, hown, hts⟩ (cwV 0 hts gX4_hasAllOf_X5_isFull rfl rfl rfl (by decide +kernel) ⟨Nat.le_of_ble_eq_true rfl, Nat.le_of_ble_eq_true rfl⟩) hK hP [4, 5, 6] rfl 4 rfl rfl rfl rfl hl.1 (Nat.le_of_ble_eq_true rfl) dX4_hasAllOf_53 ⟨Nat.le_refl _, Nat.le_refl _⟩ ?_
    exact hret _ _ ls (by unfold haX; rw [if_neg c1_3, if_neg c1_4, if_pos c1_5]) (by first | decide | exact b01_nar hov | (split <;> rfl)) dX4_hasAllOf_56
  by_cases c1_6 : s = (6 : Int32)
  · refine lv_tableIn (off := 56) (tgt := 57) hx hb dX4_hasAllOf_1 (by rw [c1_6]; decide) (by rw [c1_6]; decide) (by rw [c1_6]; rfl) (by decide) ?_
    refine lv_aload_n hx hb dX4_hasAllOf_57 rfl (lv_at hl 1 rfl) ?_
    refine g_get (C := RX7) (T := TX7) (N := 14) (ci := 7) (index := 169) hx hb hts in_X4_hasAllOf_7 hown hK hP 0 3 rfl rfl (by decide) (List.mem_of_getElem? (i := 4) rfl) rfl dX4_hasAllOf_58 ?_
    refine g_get (C := RX5) (T := TX5) (N := 3) (ci := 5) (index := 172) hx hb hts in_X4_hasAllOf_5 hown hK hP 7 2 rfl rfl (by decide) (List.mem_of_getElem? (i := 5) rfl) rfl dX4_hasAllOf_61 ?_
    refine lv_bipush (v := 20) hx hb dX4_hasAllOf_64 (by decide) ?_
    refine lv_icmp_lt (tgt := 73) hx hb dX4_hasAllOf_66 (by decide) (fun c66 => ?_) (fun c66 => ?_)
    · refine lv_iconst (v := 0) hx hb dX4_hasAllOf_73 (by decide) ?_
      exact hret _ _ ls (by unfold haX; rw [if_neg c1_3, if_neg c1_4, if_neg c1_5, if_pos c1_6, if_pos c66]) (by decide) dX4_hasAllOf_74
    · refine lv_iconst (v := 1) hx hb dX4_hasAllOf_69 (by decide) ?_
      refine lv_goto (tgt := 74) hx hb dX4_hasAllOf_70 (by decide) ?_
      exact hret _ _ ls (by unfold haX; rw [if_neg c1_3, if_neg c1_4, if_neg c1_5, if_pos c1_6, if_neg c66]) (by decide) dX4_hasAllOf_74
  by_cases c1_7 : s = (7 : Int32)
  · refine lv_tableIn (off := 74) (tgt := 75) hx hb dX4_hasAllOf_1 (by rw [c1_7]; decide) (by rw [c1_7]; decide) (by rw [c1_7]; rfl) (by decide) ?_
    refine lv_aload_n hx hb dX4_hasAllOf_75 rfl (lv_at hl 1 rfl) ?_
    refine g_get (C := RX7) (T := TX7) (N := 14) (ci := 7) (index := 175) hx hb hts in_X4_hasAllOf_7 hown hK hP 0 4 rfl rfl (by decide) (List.mem_of_getElem? (i := 6) rfl) rfl dX4_hasAllOf_76 ?_
    refine g_get (C := RX5) (T := TX5) (N := 3) (ci := 5) (index := 172) hx hb hts in_X4_hasAllOf_5 hown hK hP 10 2 rfl rfl (by decide) (List.mem_of_getElem? (i := 5) rfl) rfl dX4_hasAllOf_79 ?_
    refine lv_bipush (v := 20) hx hb dX4_hasAllOf_82 (by decide) ?_
    refine lv_icmp_lt (tgt := 91) hx hb dX4_hasAllOf_84 (by decide) (fun c84 => ?_) (fun c84 => ?_)
    · refine lv_iconst (v := 0) hx hb dX4_hasAllOf_91 (by decide) ?_
      exact hret _ _ ls (by unfold haX; rw [if_neg c1_3, if_neg c1_4, if_neg c1_5, if_neg c1_6, if_pos c1_7, if_pos c84]) (by decide) dX4_hasAllOf_92
    · refine lv_iconst (v := 1) hx hb dX4_hasAllOf_87 (by decide) ?_
      refine lv_goto (tgt := 92) hx hb dX4_hasAllOf_88 (by decide) ?_
      exact hret _ _ ls (by unfold haX; rw [if_neg c1_3, if_neg c1_4, if_neg c1_5, if_neg c1_6, if_pos c1_7, if_neg c84]) (by decide) dX4_hasAllOf_92
  refine lv_tableOut (tgt := 93) hx hb dX4_hasAllOf_1 (by have q0 := lv_neT (a := 3) c1_3 rfl; have q1 := lv_neT (a := 4) c1_4 rfl; have q2 := lv_neT (a := 5) c1_5 rfl; have q3 := lv_neT (a := 6) c1_6 rfl; have q4 := lv_neT (a := 7) c1_7 rfl; omega) (by decide) ?_
  refine lv_iconst (v := 0) hx hb dX4_hasAllOf_93 (by decide) ?_
  exact hret _ _ ls (by unfold haX; rw [if_neg c1_3, if_neg c1_4, if_neg c1_5, if_neg c1_6, if_neg c1_7]) (by decide) dX4_hasAllOf_94

theorem in_X4_lowest_7 : ∀ w ∈ wsX70, w ∈ wsX4_lowest := fun _ h => List.mem_cons_of_mem _ (List.mem_append_left _ (List.mem_append_right _ (h)))
set_option maxHeartbeats 4000000 in
set_option maxRecDepth 100000 in
theorem kX4_lowest (l : Launch) (D : va_G) (cI cB : ClassId) (dy : Nat) (Za Zfa Zsa : Nat → Nat) (Z : DYt) (s i : Int32) (hz0 : Z.2.2.1 0 ≤ 4) (hz1 : Z.2.2.1 1 ≤ 4) (hz2 : Z.2.2.1 2 ≤ 6) : Rd l D (TY cI cB) yX4_lowest wsX4_lowest 2 41 [.int s, .int i, .ref dy] [(dy, .inr (7, [.ref (Za 0), .ref (Za 1), .ref (Za 2), .ref (Za 3), .ref (Za 4), .ref (Za 5), .int (Z.2.2.2 6), .int (Z.2.2.2 7), .int (Z.2.2.2 8), .int (Z.2.2.2 9), .int (Z.2.2.2 10), .int (Z.2.2.2 11), .int (Z.2.2.2 12), .int (Z.2.2.2 13)])), (Za 0, .inr (5, [.ref (Zfa 0), .ref (Zsa 0), .int (nI (Z.2.2.1 0))])), (Zfa 0, .inl (cI, 4, .inl (Z.1 0))), (Zsa 0, .inl (cI, 4, .inl (Z.2.1 0))), (Za 1, .inr (5, [.ref (Zfa 1), .ref (Zsa 1), .int (nI (Z.2.2.1 1))])), (Zfa 1, .inl (cI, 4, .inl (Z.1 1))), (Zsa 1, .inl (cI, 4, .inl (Z.2.1 1))), (Za 2, .inr (5, [.ref (Zfa 2), .ref (Zsa 2), .int (nI (Z.2.2.1 2))])), (Zfa 2, .inl (cI, 6, .inl (Z.1 2))), (Zsa 2, .inl (cI, 6, .inl (Z.2.1 2)))] (loX Z s i) := by
  refine rd_i (cc := cX4_lowest) (maxL := 3) (by decide) rfl (Nat.le_of_ble_eq_true rfl) ?_
  intro p_ e_ s_ m_ ar_ be_ me_ co_ ls Q_ hx hb hml hown hts hP hK hl hret
  have hown : s_.vm.findClass RX4 = some m_.cls := hown
  have hl : lv_has ls 3 [(0, .int s), (1, .int i), (2, .ref dy)] := hl
  refine lv_iload_n hx hb dX4_lowest_0 rfl (lv_at hl 0 rfl) ?_
  by_cases c1_1 : s = (1 : Int32)
  · refine lv_tableIn (off := 43) (tgt := 44) hx hb dX4_lowest_1 (by rw [c1_1]; decide) (by rw [c1_1]; decide) (by rw [c1_1]; rfl) (by decide) ?_
    refine lv_iconst (v := 1) hx hb dX4_lowest_44 (by decide) ?_
    refine lv_iload_n hx hb dX4_lowest_45 rfl (lv_at hl 1 rfl) ?_
    refine lv_if_ne (tgt := 59) hx hb dX4_lowest_46 (by decide) (fun c46 => ?_) (fun c46 => ?_)
    · refine lv_aload_n hx hb dX4_lowest_59 rfl (lv_at hl 2 rfl) ?_
      refine g_get (C := RX7) (T := TX7) (N := 14) (ci := 7) (index := 178) hx hb hts in_X4_lowest_7 hown hK hP 0 0 rfl rfl (by decide) (List.mem_of_getElem? (i := 1) rfl) rfl dX4_lowest_60 ?_
      refine rd_V (As := []) (rest := [.int 1]) (ci := 5) (kX5_lastSecond l D cI cB (Za 0) (Zfa 0) (Zsa 0) 4 (Z.2.2.1 0) (Z.1 0) (Z.2.1 0) (by omega) (by omega)) ⟨hx, hb, hml, hown, hts⟩ (cwV 0 hts gX4_lowest_X5_lastSecond rfl rfl rfl (by decide +kernel) ⟨Nat.le_of_ble_eq_true rfl, Nat.le_of_ble_eq_true rfl⟩) hK hP [1, 2, 3] rfl 1 rfl rfl rfl rfl hl.1 (Nat.le_of_ble_eq_true rfl) dX4_lowest_63 ⟨Nat.le_refl _, Nat.le_refl _⟩ ?_
      rw [show (if nI (Z.2.2.1 0) ≤ 0 then -1 else rowAt (Z.2.1 0) (Z.2.2.1 0) (nI (Z.2.2.1 0) - 1) : Int32) = lastX (Z.2.1 0) (Z.2.2.1 0) from rfl]
      refine lv_iadd hx hb dX4_lowest_66 ?_
      exact hret _ _ ls (by unfold loX; rw [if_pos c1_1, if_neg c46]) dX4_lowest_67
    · refine lv_aload_n hx hb dX4_lowest_49 rfl (lv_at hl 2 rfl) ?_
      refine g_get (C := RX7) (T := TX7) (N := 14) (ci := 7) (index := 178) hx hb hts in_X4_lowest_7 hown hK hP 0 0 rfl rfl (by decide) (List.mem_of_getElem? (i := 1) rfl) rfl dX4_lowest_50 ?_
      refine rd_V (As := []) (rest := [.int 1]) (ci := 5) (kX5_lastFirst l D cI cB (Za 0) (Zfa 0) (Zsa 0) 4 (Z.2.2.1 0) (Z.1 0) (Z.2.1 0) (by omega) (by omega)) ⟨hx, hb, hml, hown, hts⟩ (cwV 0 hts gX4_lowest_X5_lastFirst rfl rfl rfl (by decide +kernel) ⟨Nat.le_of_ble_eq_true rfl, Nat.le_of_ble_eq_true rfl⟩) hK hP [1, 2, 3] rfl 1 rfl rfl rfl rfl hl.1 (Nat.le_of_ble_eq_true rfl) dX4_lowest_53 ⟨Nat.le_refl _, Nat.le_refl _⟩ ?_
      rw [show (if nI (Z.2.2.1 0) ≤ 0 then -1 else rowAt (Z.1 0) (Z.2.2.1 0) (nI (Z.2.2.1 0) - 1) : Int32) = lastX (Z.1 0) (Z.2.2.1 0) from rfl]
      refine lv_goto (tgt := 66) hx hb dX4_lowest_56 (by decide) ?_
      refine lv_iadd hx hb dX4_lowest_66 ?_
      exact hret _ _ ls (by unfold loX; rw [if_pos c1_1, if_pos c46]) dX4_lowest_67
  by_cases c1_2 : s = (2 : Int32)
  · refine lv_tableIn (off := 117) (tgt := 118) hx hb dX4_lowest_1 (by rw [c1_2]; decide) (by rw [c1_2]; decide) (by rw [c1_2]; rfl) (by decide) ?_
    refine lv_iconst (v := 0) hx hb dX4_lowest_118 (by decide) ?_
    exact hret _ _ ls (by unfold loX; rw [if_neg c1_1, if_pos c1_2]) dX4_lowest_119
  by_cases c1_3 : s = (3 : Int32)
  · refine lv_tableIn (off := 67) (tgt := 68) hx hb dX4_lowest_1 (by rw [c1_3]; decide) (by rw [c1_3]; decide) (by rw [c1_3]; rfl) (by decide) ?_
    refine lv_iload_n hx hb dX4_lowest_68 rfl (lv_at hl 1 rfl) ?_
    refine lv_if_ne (tgt := 88) hx hb dX4_lowest_69 (by decide) (fun c69 => ?_) (fun c69 => ?_)
    · refine lv_iconst (v := 0) hx hb dX4_lowest_88 (by decide) ?_
      exact hret _ _ ls (by unfold loX; rw [if_neg c1_1, if_neg c1_2, if_pos c1_3, if_neg c69]) dX4_lowest_89
    · refine lv_iconst (v := 1) hx hb dX4_lowest_72 (by decide) ?_
      refine lv_iconst (v := 1) hx hb dX4_lowest_73 (by decide) ?_
      refine lv_aload_n hx hb dX4_lowest_74 rfl (lv_at hl 2 rfl) ?_
      refine g_get (C := RX7) (T := TX7) (N := 14) (ci := 7) (index := 152) hx hb hts in_X4_lowest_7 hown hK hP 0 1 rfl rfl (by decide) (List.mem_of_getElem? (i := 2) rfl) rfl dX4_lowest_75 ?_
      refine rd_V (As := []) (rest := [.int 1, .int 1]) (ci := 5) (kX5_lastFirst l D cI cB (Za 1) (Zfa 1) (Zsa 1) 4 (Z.2.2.1 1) (Z.1 1) (Z.2.1 1) (by omega) (by omega)) ⟨hx, hb, hml, hown, hts⟩ (cwV 0 hts gX4_lowest_X5_lastFirst rfl rfl rfl (by decide +kernel) ⟨Nat.le_of_ble_eq_true rfl, Nat.le_of_ble_eq_true rfl⟩) hK hP [4, 5, 6] rfl 4 rfl rfl rfl rfl hl.1 (Nat.le_of_ble_eq_true rfl) dX4_lowest_78 ⟨Nat.le_refl _, Nat.le_refl _⟩ ?_
      rw [show (if nI (Z.2.2.1 1) ≤ 0 then -1 else rowAt (Z.1 1) (Z.2.2.1 1) (nI (Z.2.2.1 1) - 1) : Int32) = lastX (Z.1 1) (Z.2.2.1 1) from rfl]
      refine lv_iadd hx hb dX4_lowest_81 ?_
      refine va_mmax hx hb (hml.trans hl.1.symm) hown (hts (.methodLink RX4 187 Lib.Math.max.name) (List.mem_of_getElem? (i := 3) rfl)) (hts (.static Lib.Math.max.name) (List.mem_of_getElem? (i := 4) rfl)) (hts (.initialized "java/lang/Math") (List.mem_of_getElem? (i := 5) rfl)) (hts (.code Lib.Math.max.name Lib.Math.max.code 2 (some .int)) (List.mem_of_getElem? (i := 6) rfl)) (Nat.le_of_ble_eq_true rfl) (Nat.le_of_ble_eq_true rfl) (Nat.le_refl _) (Nat.le_refl _) dX4_lowest_82 ?_
      rw [show (if 1 < (1 + (lastX (Z.1 1) (Z.2.2.1 1))) then (1 + (lastX (Z.1 1) (Z.2.2.1 1))) else 1 : Int32) = max32 1 (1 + (lastX (Z.1 1) (Z.2.2.1 1))) from rfl]
      refine lv_goto (tgt := 89) hx hb dX4_lowest_85 (by decide) ?_
      exact hret _ _ ls (by unfold loX; rw [if_neg c1_1, if_neg c1_2, if_pos c1_3, if_pos c69]) dX4_lowest_89
  by_cases c1_4 : s = (4 : Int32)
  · refine lv_tableIn (off := 117) (tgt := 118) hx hb dX4_lowest_1 (by rw [c1_4]; decide) (by rw [c1_4]; decide) (by rw [c1_4]; rfl) (by decide) ?_
    refine lv_iconst (v := 0) hx hb dX4_lowest_118 (by decide) ?_
    exact hret _ _ ls (by unfold loX; rw [if_neg c1_1, if_neg c1_2, if_neg c1_3, if_pos c1_4]) dX4_lowest_119
  by_cases c1_5 : s = (5 : Int32)
  · refine lv_tableIn (off := 89) (tgt := 90) hx hb dX4_lowest_1 (by rw [c1_5]; decide) (by rw [c1_5]; decide) (by rw [c1_5]; rfl) (by decide) ?_
    refine lv_iload_n hx hb dX4_lowest_90 rfl (lv_at hl 1 rfl) ?_
    refine lv_if_ne (tgt := 106) hx hb dX4_lowest_91 (by decide) (fun c91 => ?_) (fun c91 => ?_)
    · refine lv_iconst (v := 0) hx hb dX4_lowest_106 (by decide) ?_
      exact hret _ _ ls (by unfold loX; rw [if_neg c1_1, if_neg c1_2, if_neg c1_3, if_neg c1_4, if_pos c1_5, if_neg c91]) dX4_lowest_107
    · refine lv_iconst (v := 1) hx hb dX4_lowest_94 (by decide) ?_
      refine lv_aload_n hx hb dX4_lowest_95 rfl (lv_at hl 2 rfl) ?_
      refine g_get (C := RX7) (T := TX7) (N := 14) (ci := 7) (index := 166) hx hb hts in_X4_lowest_7 hown hK hP 0 2 rfl rfl (by decide) (List.mem_of_getElem? (i := 7) rfl) rfl dX4_lowest_96 ?_
      refine rd_V (As := []) (rest := [.int 1]) (ci := 5) (kX5_lastFirst l D cI cB (Za 2) (Zfa 2) (Zsa 2) 6 (Z.2.2.1 2) (Z.1 2) (Z.2.1 2) (by omega) (by omega)) ⟨hx, hb, hml, hown, hts⟩ (cwV 0 hts gX4_lowest_X5_lastFirst rfl rfl rfl (by decide +kernel) ⟨Nat.le_of_ble_eq_true rfl, Nat.le_of_ble_eq_true rfl⟩) hK hP [7, 8, 9] rfl 7 rfl rfl rfl rfl hl.1 (Nat.le_of_ble_eq_true rfl) dX4_lowest_99 ⟨Nat.le_refl _, Nat.le_refl _⟩ ?_
      rw [show (if nI (Z.2.2.1 2) ≤ 0 then -1 else rowAt (Z.1 2) (Z.2.2.1 2) (nI (Z.2.2.1 2) - 1) : Int32) = lastX (Z.1 2) (Z.2.2.1 2) from rfl]
      refine lv_iadd hx hb dX4_lowest_102 ?_
      refine lv_goto (tgt := 107) hx hb dX4_lowest_103 (by decide) ?_
      exact hret _ _ ls (by unfold loX; rw [if_neg c1_1, if_neg c1_2, if_neg c1_3, if_neg c1_4, if_pos c1_5, if_pos c91]) dX4_lowest_107
  by_cases c1_6 : s = (6 : Int32)
  · refine lv_tableIn (off := 107) (tgt := 108) hx hb dX4_lowest_1 (by rw [c1_6]; decide) (by rw [c1_6]; decide) (by rw [c1_6]; rfl) (by decide) ?_
    refine lv_iload_n hx hb dX4_lowest_108 rfl (lv_at hl 1 rfl) ?_
    refine lv_if_ne (tgt := 116) hx hb dX4_lowest_109 (by decide) (fun c109 => ?_) (fun c109 => ?_)
    · refine lv_iconst (v := 1) hx hb dX4_lowest_116 (by decide) ?_
      exact hret _ _ ls (by unfold loX; rw [if_neg c1_1, if_neg c1_2, if_neg c1_3, if_neg c1_4, if_neg c1_5, if_pos c1_6, if_neg c109]) dX4_lowest_117
    · refine lv_iconst (v := 0) hx hb dX4_lowest_112 (by decide) ?_
      refine lv_goto (tgt := 117) hx hb dX4_lowest_113 (by decide) ?_
      exact hret _ _ ls (by unfold loX; rw [if_neg c1_1, if_neg c1_2, if_neg c1_3, if_neg c1_4, if_neg c1_5, if_pos c1_6, if_pos c109]) dX4_lowest_117
  by_cases c1_7 : s = (7 : Int32)
  · refine lv_tableIn (off := 107) (tgt := 108) hx hb dX4_lowest_1 (by rw [c1_7]; decide) (by rw [c1_7]; decide) (by rw [c1_7]; rfl) (by decide) ?_
    refine lv_iload_n hx hb dX4_lowest_108 rfl (lv_at hl 1 rfl) ?_
    refine lv_if_ne (tgt := 116) hx hb dX4_lowest_109 (by decide) (fun c109 => ?_) (fun c109 => ?_)
    · refine lv_iconst (v := 1) hx hb dX4_lowest_116 (by decide) ?_
      exact hret _ _ ls (by unfold loX; rw [if_neg c1_1, if_neg c1_2, if_neg c1_3, if_neg c1_4, if_neg c1_5, if_neg c1_6, if_pos c1_7, if_neg c109]) dX4_lowest_117
    · refine lv_iconst (v := 0) hx hb dX4_lowest_112 (by decide) ?_
      refine lv_goto (tgt := 117) hx hb dX4_lowest_113 (by decide) ?_
      exact hret _ _ ls (by unfold loX; rw [if_neg c1_1, if_neg c1_2, if_neg c1_3, if_neg c1_4, if_neg c1_5, if_neg c1_6, if_pos c1_7, if_pos c109]) dX4_lowest_117
  refine lv_tableOut (tgt := 118) hx hb dX4_lowest_1 (by have q0 := lv_neT (a := 1) c1_1 rfl; have q1 := lv_neT (a := 2) c1_2 rfl; have q2 := lv_neT (a := 3) c1_3 rfl; have q3 := lv_neT (a := 4) c1_4 rfl; have q4 := lv_neT (a := 5) c1_5 rfl; have q5 := lv_neT (a := 6) c1_6 rfl; have q6 := lv_neT (a := 7) c1_7 rfl; omega) (by decide) ?_
  refine lv_iconst (v := 0) hx hb dX4_lowest_118 (by decide) ?_
  exact hret _ _ ls (by unfold loX; rw [if_neg c1_1, if_neg c1_2, if_neg c1_3, if_neg c1_4, if_neg c1_5, if_neg c1_6, if_neg c1_7]) dX4_lowest_119

theorem in_X4_highest_7 : ∀ w ∈ wsX70, w ∈ wsX4_highest := fun _ h => List.mem_cons_of_mem _ (List.mem_append_right _ (h))
set_option maxHeartbeats 4000000 in
set_option maxRecDepth 100000 in
theorem kX4_highest (l : Launch) (D : va_G) (cI cB : ClassId) (dy : Nat) (Za Zfa Zsa : Nat → Nat) (Z : DYt) (s i : Int32)  : Rd l D (TY cI cB) yX4_highest wsX4_highest 0 0 [.int s, .int i, .ref dy] [(dy, .inr (7, [.ref (Za 0), .ref (Za 1), .ref (Za 2), .ref (Za 3), .ref (Za 4), .ref (Za 5), .int (Z.2.2.2 6), .int (Z.2.2.2 7), .int (Z.2.2.2 8), .int (Z.2.2.2 9), .int (Z.2.2.2 10), .int (Z.2.2.2 11), .int (Z.2.2.2 12), .int (Z.2.2.2 13)]))] (hiX Z s i) := by
  refine rd_i (cc := cX4_highest) (maxL := 3) (by decide) rfl (Nat.le_of_ble_eq_true rfl) ?_
  intro p_ e_ s_ m_ ar_ be_ me_ co_ ls Q_ hx hb hml hown hts hP hK hl hret
  have hown : s_.vm.findClass RX4 = some m_.cls := hown
  have hl : lv_has ls 3 [(0, .int s), (1, .int i), (2, .ref dy)] := hl
  refine lv_iload_n hx hb dX4_highest_0 rfl (lv_at hl 0 rfl) ?_
  by_cases c1_0 : s = (0 : Int32)
  · refine lv_tableIn (off := 47) (tgt := 48) hx hb dX4_highest_1 (by rw [c1_0]; decide) (by rw [c1_0]; decide) (by rw [c1_0]; rfl) (by decide) ?_
    refine lv_iload_n hx hb dX4_highest_48 rfl (lv_at hl 1 rfl) ?_
    refine lv_iconst (v := 2) hx hb dX4_highest_49 (by decide) ?_
    refine lv_icmp_ge (tgt := 58) hx hb dX4_highest_50 (by decide) (fun c50 => ?_) (fun c50 => ?_)
    · refine lv_sipush (v := 499) hx hb dX4_highest_58 (by decide) ?_
      exact hret _ _ ls (by unfold hiX; rw [if_pos c1_0, if_pos c50]) dX4_highest_61
    · refine lv_ldc (v := 99999) hx hb hown (hts (.constant RX4 190 (99999)) (List.mem_of_getElem? (i := 1) rfl)) dX4_highest_53 ?_
      refine lv_goto (tgt := 61) hx hb dX4_highest_55 (by decide) ?_
      exact hret _ _ ls (by unfold hiX; rw [if_pos c1_0, if_neg c50]) dX4_highest_61
  by_cases c1_1 : s = (1 : Int32)
  · refine lv_tableIn (off := 61) (tgt := 62) hx hb dX4_highest_1 (by rw [c1_1]; decide) (by rw [c1_1]; decide) (by rw [c1_1]; rfl) (by decide) ?_
    refine lv_iload_n hx hb dX4_highest_62 rfl (lv_at hl 1 rfl) ?_
    refine lv_if_ne (tgt := 73) hx hb dX4_highest_63 (by decide) (fun c63 => ?_) (fun c63 => ?_)
    · refine lv_sipush (v := 364) hx hb dX4_highest_73 (by decide) ?_
      exact hret _ _ ls (by unfold hiX; rw [if_neg c1_0, if_pos c1_1, if_neg c63]) dX4_highest_76
    · refine lv_aload_n hx hb dX4_highest_66 rfl (lv_at hl 2 rfl) ?_
      refine g_get (C := RX7) (T := TX7) (N := 14) (ci := 7) (index := 191) hx hb hts in_X4_highest_7 hown hK hP 0 8 rfl rfl (by decide) (List.mem_of_getElem? (i := 2) rfl) rfl dX4_highest_67 ?_
      refine lv_goto (tgt := 76) hx hb dX4_highest_70 (by decide) ?_
      exact hret _ _ ls (by unfold hiX; rw [if_neg c1_0, if_pos c1_1, if_pos c63]) dX4_highest_76
  by_cases c1_2 : s = (2 : Int32)
  · refine lv_tableIn (off := 76) (tgt := 77) hx hb dX4_highest_1 (by rw [c1_2]; decide) (by rw [c1_2]; decide) (by rw [c1_2]; rfl) (by decide) ?_
    refine lv_bipush (v := 100) hx hb dX4_highest_77 (by decide) ?_
    exact hret _ _ ls (by unfold hiX; rw [if_neg c1_0, if_neg c1_1, if_pos c1_2]) dX4_highest_79
  by_cases c1_3 : s = (3 : Int32)
  · refine lv_tableIn (off := 79) (tgt := 80) hx hb dX4_highest_1 (by rw [c1_3]; decide) (by rw [c1_3]; decide) (by rw [c1_3]; rfl) (by decide) ?_
    refine lv_iload_n hx hb dX4_highest_80 rfl (lv_at hl 1 rfl) ?_
    refine lv_if_ne (tgt := 89) hx hb dX4_highest_81 (by decide) (fun c81 => ?_) (fun c81 => ?_)
    · refine lv_bipush (v := 99) hx hb dX4_highest_89 (by decide) ?_
      exact hret _ _ ls (by unfold hiX; rw [if_neg c1_0, if_neg c1_1, if_neg c1_2, if_pos c1_3, if_neg c81]) dX4_highest_91
    · refine lv_ldc (v := 99999) hx hb hown (hts (.constant RX4 190 (99999)) (List.mem_of_getElem? (i := 1) rfl)) dX4_highest_84 ?_
      refine lv_goto (tgt := 91) hx hb dX4_highest_86 (by decide) ?_
      exact hret _ _ ls (by unfold hiX; rw [if_neg c1_0, if_neg c1_1, if_neg c1_2, if_pos c1_3, if_pos c81]) dX4_highest_91
  by_cases c1_4 : s = (4 : Int32)
  · refine lv_tableIn (off := 91) (tgt := 92) hx hb dX4_highest_1 (by rw [c1_4]; decide) (by rw [c1_4]; decide) (by rw [c1_4]; rfl) (by decide) ?_
    refine lv_bipush (v := 99) hx hb dX4_highest_92 (by decide) ?_
    exact hret _ _ ls (by unfold hiX; rw [if_neg c1_0, if_neg c1_1, if_neg c1_2, if_neg c1_3, if_pos c1_4]) dX4_highest_94
  by_cases c1_5 : s = (5 : Int32)
  · refine lv_tableIn (off := 94) (tgt := 95) hx hb dX4_highest_1 (by rw [c1_5]; decide) (by rw [c1_5]; decide) (by rw [c1_5]; rfl) (by decide) ?_
    refine lv_iload_n hx hb dX4_highest_95 rfl (lv_at hl 1 rfl) ?_
    refine lv_if_ne (tgt := 105) hx hb dX4_highest_96 (by decide) (fun c96 => ?_) (fun c96 => ?_)
    · refine lv_bipush (v := 99) hx hb dX4_highest_105 (by decide) ?_
      exact hret _ _ ls (by unfold hiX; rw [if_neg c1_0, if_neg c1_1, if_neg c1_2, if_neg c1_3, if_neg c1_4, if_pos c1_5, if_neg c96]) dX4_highest_107
    · refine lv_sipush (v := 499) hx hb dX4_highest_99 (by decide) ?_
      refine lv_goto (tgt := 107) hx hb dX4_highest_102 (by decide) ?_
      exact hret _ _ ls (by unfold hiX; rw [if_neg c1_0, if_neg c1_1, if_neg c1_2, if_neg c1_3, if_neg c1_4, if_pos c1_5, if_pos c96]) dX4_highest_107
  by_cases c1_6 : s = (6 : Int32)
  · refine lv_tableIn (off := 107) (tgt := 108) hx hb dX4_highest_1 (by rw [c1_6]; decide) (by rw [c1_6]; decide) (by rw [c1_6]; rfl) (by decide) ?_
    refine lv_iload_n hx hb dX4_highest_108 rfl (lv_at hl 1 rfl) ?_
    refine lv_if_ne (tgt := 118) hx hb dX4_highest_109 (by decide) (fun c109 => ?_) (fun c109 => ?_)
    · refine lv_ldc (v := 99999) hx hb hown (hts (.constant RX4 190 (99999)) (List.mem_of_getElem? (i := 1) rfl)) dX4_highest_118 ?_
      exact hret _ _ ls (by unfold hiX; rw [if_neg c1_0, if_neg c1_1, if_neg c1_2, if_neg c1_3, if_neg c1_4, if_neg c1_5, if_pos c1_6, if_neg c109]) dX4_highest_120
    · refine lv_sipush (v := 364) hx hb dX4_highest_112 (by decide) ?_
      refine lv_goto (tgt := 120) hx hb dX4_highest_115 (by decide) ?_
      exact hret _ _ ls (by unfold hiX; rw [if_neg c1_0, if_neg c1_1, if_neg c1_2, if_neg c1_3, if_neg c1_4, if_neg c1_5, if_pos c1_6, if_pos c109]) dX4_highest_120
  by_cases c1_7 : s = (7 : Int32)
  · refine lv_tableIn (off := 120) (tgt := 121) hx hb dX4_highest_1 (by rw [c1_7]; decide) (by rw [c1_7]; decide) (by rw [c1_7]; rfl) (by decide) ?_
    refine lv_iload_n hx hb dX4_highest_121 rfl (lv_at hl 1 rfl) ?_
    refine lv_if_ne (tgt := 131) hx hb dX4_highest_122 (by decide) (fun c122 => ?_) (fun c122 => ?_)
    · refine lv_ldc (v := 99999) hx hb hown (hts (.constant RX4 190 (99999)) (List.mem_of_getElem? (i := 1) rfl)) dX4_highest_131 ?_
      exact hret _ _ ls (by unfold hiX; rw [if_neg c1_0, if_neg c1_1, if_neg c1_2, if_neg c1_3, if_neg c1_4, if_neg c1_5, if_neg c1_6, if_pos c1_7, if_neg c122]) dX4_highest_133
    · refine lv_sipush (v := 499) hx hb dX4_highest_125 (by decide) ?_
      refine lv_goto (tgt := 133) hx hb dX4_highest_128 (by decide) ?_
      exact hret _ _ ls (by unfold hiX; rw [if_neg c1_0, if_neg c1_1, if_neg c1_2, if_neg c1_3, if_neg c1_4, if_neg c1_5, if_neg c1_6, if_pos c1_7, if_pos c122]) dX4_highest_133
  refine lv_tableOut (tgt := 134) hx hb dX4_highest_1 (by have q0 := lv_neT (a := 0) c1_0 rfl; have q1 := lv_neT (a := 1) c1_1 rfl; have q2 := lv_neT (a := 2) c1_2 rfl; have q3 := lv_neT (a := 3) c1_3 rfl; have q4 := lv_neT (a := 4) c1_4 rfl; have q5 := lv_neT (a := 5) c1_5 rfl; have q6 := lv_neT (a := 6) c1_6 rfl; have q7 := lv_neT (a := 7) c1_7 rfl; omega) (by decide) ?_
  refine lv_iconst (v := 0) hx hb dX4_highest_134 (by decide) ?_
  exact hret _ _ ls (by unfold hiX; rw [if_neg c1_0, if_neg c1_1, if_neg c1_2, if_neg c1_3, if_neg c1_4, if_neg c1_5, if_neg c1_6, if_neg c1_7]) dX4_highest_135

