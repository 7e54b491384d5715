def tdX (f : Nat → Int32) (x : Int32) : Nat → Int32
  | 0 => 0
  | k + 1 => min32 x (f k)
def hdX (f g : Nat → Int32) (x : Int32) : Nat → Int64
  | 0 => 0
  | k + 1 => hdX f g x k + (min32 x (f k) - tdX f x k).toInt64 * (g k).toInt64
def taxX (f g : Nat → Int32) (c : Nat) (ov x : Int32) : Int32 := ((hdX f g x c + (x - tdX f x c).toInt64 * ov.toInt64) / 100).toInt32
def yrX (Yf Yg : Nat → Nat → Int32) (Yc : Nat → Nat) (p : Int32) : Int32 := if 1 ≤ rowAt (Yg 0) (Yc 0) p + 1 then ((sumUp (Yf 3) (Yg 3) (rowAt (Yg 0) (Yc 0) p) (Yc 3)).toInt64 * 365 / (rowAt (Yg 0) (Yc 0) p + 1).toInt64).toInt32 else 0
def sbW (Yf Yg : Nat → Nat → Int32) (Yc : Nat → Nat) (Yv : Nat → Int32) (r p : Int32) : Int64 :=
  if r = 0 then (taxX (Yf 1) (Yg 1) (Yc 1) (Yv 12) (sumUp (Yf 3) (Yg 3) 499 (Yc 3))).toInt64 * (Yv 9).toInt64 else if r = 1 then (Yv 6).toInt64 * (Yv 10).toInt64 else (taxX (Yf 1) (Yg 1) (Yc 1) (Yv 12) (yrX Yf Yg Yc p)).toInt64 * (Yv 9).toInt64
def sbX (Yf Yg : Nat → Nat → Int32) (Yc : Nat → Nat) (Yv : Nat → Int32) (r p : Int32) : Int32 := (sbW Yf Yg Yc Yv r p * (p + 1).toInt64 / 400).toInt32
theorem i64_ne0 {x : Int32} (h : 1 ≤ x) : ¬ x.toInt64 = 0 := by
  intro q
  have h1 := congrArg Int64.toInt q
  rw [Int32.toInt_toInt64] at h1
  rw [Int32.le_iff_toInt_le] at h
  have h2 : (1 : Int32).toInt = 1 := rfl
  have h3 : (0 : Int64).toInt = 0 := rfl
  omega
theorem in_X7_allIncome_7 : ∀ w ∈ wsX70, w ∈ wsX7_allIncome := fun _ h => List.mem_cons_of_mem _ (List.mem_append_left _ (List.mem_append_right _ (h)))
set_option maxHeartbeats 4000000 in
set_option maxRecDepth 100000 in
theorem kX7_allIncome (l : Launch) (D : va_G) (cI cB : ClassId) (yr : Nat) (Ya Yfa Ysa : Nat → Nat) (Yf Yg : Nat → Nat → Int32) (Yc : Nat → Nat) (Yv : Nat → Int32) (hc3 : Yc 3 ≤ 40) : Rd l D (TY cI cB) yX7_allIncome wsX7_allIncome 1 23 [.ref yr] [(yr, .inr (7, [.ref (Ya 0), .ref (Ya 1), .ref (Ya 2), .ref (Ya 3), .ref (Ya 4), .ref (Ya 5), .int (Yv 6), .int (Yv 7), .int (Yv 8), .int (Yv 9), .int (Yv 10), .int (Yv 11), .int (Yv 12), .int (Yv 13)])), (Ya 3, .inr (5, [.ref (Yfa 3), .ref (Ysa 3), .int (nI (Yc 3))])), (Yfa 3, .inl (cI, 40, .inl (Yf 3))), (Ysa 3, .inl (cI, 40, .inl (Yg 3)))] (sumUp (Yf 3) (Yg 3) 499 (Yc 3)) := by
  refine rd_i (cc := cX7_allIncome) (maxL := 1) (by decide) rfl (Nat.le_of_ble_eq_true rfl) ?_
  intro p_ e_ s_ m_ ar_ be_ me_ co_ ls Q_ hx hb hml hown hts hP hK hl hret
  have hown : s_.vm.findClass RX7 = some m_.cls := hown
  have hl : lv_has ls 1 [(0, .ref yr)] := hl
  refine lv_aload_n hx hb dX7_allIncome_0 rfl (lv_at hl 0 rfl) ?_
  refine g_get (C := RX7) (T := TX7) (N := 14) (ci := 7) (index := 26) hx hb hts in_X7_allIncome_7 hown hK hP 0 3 rfl rfl (by decide) (List.mem_of_getElem? (i := 1) rfl) rfl dX7_allIncome_1 ?_
  refine lv_sipush (v := 499) hx hb dX7_allIncome_4 (by decide) ?_
  refine rd_V (As := [.int 499]) (rest := []) (ci := 5) (kX5_sumUpTo l D cI cB (Ya 3) (Yfa 3) (Ysa 3) 40 (Yc 3) (Yf 3) (Yg 3) 499 (by omega) (by omega)) ⟨hx, hb, hml, hown, hts⟩ (cwV 1 hts gX7_allIncome_X5_sumUpTo rfl rfl rfl (by decide +kernel) ⟨Nat.le_of_ble_eq_true rfl, Nat.le_of_ble_eq_true rfl⟩) hK hP [1, 2, 3] rfl 1 rfl rfl rfl rfl hl.1 (Nat.le_of_ble_eq_true rfl) dX7_allIncome_7 ⟨Nat.le_refl _, Nat.le_refl _⟩ ?_
  exact hret _ _ ls (rfl) dX7_allIncome_10

theorem in_X7_taxOf_7 : ∀ w ∈ wsX70, w ∈ wsX7_taxOf := fun _ h => List.mem_cons_of_mem _ (List.mem_append_left _ (List.mem_append_right _ (h)))
theorem in_X7_taxOf_5 : ∀ w ∈ wsX50, w ∈ wsX7_taxOf := fun _ h => List.mem_cons_of_mem _ (List.mem_append_right _ (h))
set_option maxHeartbeats 4000000 in
set_option maxRecDepth 100000 in
theorem kX7_taxOf (l : Launch) (D : va_G) (cI cB : ClassId) (yr : Nat) (Ya Yfa Ysa : Nat → Nat) (Yf Yg : Nat → Nat → Int32) (Yc : Nat → Nat) (Yv : Nat → Int32) (x : Int32) (hc1 : Yc 1 ≤ 4) : Rd l D (TY cI cB) yX7_taxOf wsX7_taxOf 1 21 [.ref yr, .int x] [(yr, .inr (7, [.ref (Ya 0), .ref (Ya 1), .ref (Ya 2), .ref (Ya 3), .ref (Ya 4), .ref (Ya 5), .int (Yv 6), .int (Yv 7), .int (Yv 8), .int (Yv 9), .int (Yv 10), .int (Yv 11), .int (Yv 12), .int (Yv 13)])), (Ya 1, .inr (5, [.ref (Yfa 1), .ref (Ysa 1), .int (nI (Yc 1))])), (Yfa 1, .inl (cI, 4, .inl (Yf 1))), (Ysa 1, .inl (cI, 4, .inl (Yg 1)))] (taxX (Yf 1) (Yg 1) (Yc 1) (Yv 12) x) := by
  refine rd_i (cc := cX7_taxOf) (maxL := 7) (by decide) rfl (Nat.le_of_ble_eq_true rfl) ?_
  intro p_ e_ s_ m_ ar_ be_ me_ co_ ls Q_ hx hb hml hown hts hP hK hl hret
  have hown : s_.vm.findClass RX7 = some m_.cls := hown
  have hl : lv_has ls 7 [(0, .ref yr), (1, .int x)] := hl
  refine lv_lconst (v := 0) hx hb dX7_taxOf_0 (by decide) ?_
  refine lv_lstore_n (lv' := [(2, .long 0), (0, .ref yr), (1, .int x)]) hx hb dX7_taxOf_1 rfl hl (by decide) rfl (fun ls hl => ?_)
  refine lv_iconst (v := 0) hx hb dX7_taxOf_2 (by decide) ?_
  refine lv_istore (lv' := [(4, .int 0), (2, .long 0), (0, .ref yr), (1, .int x)]) hx hb dX7_taxOf_3 hl (by decide) rfl (fun ls hl => ?_)
  refine lv_iconst (v := 0) hx hb dX7_taxOf_5 (by decide) ?_
  refine lv_istore (lv' := [(5, .int 0), (4, .int 0), (2, .long 0), (0, .ref yr), (1, .int x)]) hx hb dX7_taxOf_6 hl (by decide) rfl (fun ls hl => ?_)
  have L8 : ∀ (nn_ : Nat) (i : Nat) (hi : i ≤ Yc 1) (xx_v2 : Int64) (xx_v4 : Int32) (xx_v5 : Int32), (Yc 1 - i) < nn_ → xx_v2 = hdX (Yf 1) (Yg 1) x i → xx_v4 = tdX (Yf 1) x i → xx_v5 = nI i → ∀ (ls : Array Slot), lv_has ls 7 [(0, .ref yr), (1, .int x), (2, .long xx_v2), (4, .int xx_v4), (5, .int xx_v5)] → W p_ l e_ (RM 1 21) s_ m_ ar_ be_ me_ co_ s_.heap [] 0 0 Q_ (F0 m_ 8 ls []) := by
    intro nn_
    induction nn_ with
    | zero => intro i hi xx_v2 xx_v4 xx_v5 hn_; exact absurd hn_ (Nat.not_lt_zero _)
    | succ nn_ ih8 =>
      intro i hi xx_v2 xx_v4 xx_v5 hn_ e_xx_v2 e_xx_v4 e_xx_v5 ls hl
      subst e_xx_v2 e_xx_v4 e_xx_v5
      refine lv_iload hx hb dX7_taxOf_8 (lv_at hl 4 rfl) ?_
      refine lv_aload_n hx hb dX7_taxOf_10 rfl (lv_at hl 0 rfl) ?_
      refine g_get (C := RX7) (T := TX7) (N := 14) (ci := 7) (index := 20) hx hb hts in_X7_taxOf_7 hown hK hP 0 1 rfl rfl (by decide) (List.mem_of_getElem? (i := 1) rfl) rfl dX7_taxOf_11 ?_
      refine g_get (C := RX5) (T := TX5) (N := 3) (ci := 5) (index := 35) hx hb hts in_X7_taxOf_5 hown hK hP 1 2 rfl rfl (by decide) (List.mem_of_getElem? (i := 2) rfl) rfl dX7_taxOf_14 ?_
      refine lv_icmp_ge (tgt := 65) hx hb dX7_taxOf_17 (by decide) (fun c17 => ?_) (fun c17 => ?_)
      · have hie : i = Yc 1 := by have q := ge_nI c17 (by omega) (by omega); omega
        refine lv_lload_n hx hb dX7_taxOf_65 rfl (lv_at hl 2 rfl) ?_
        refine lv_iload_n hx hb dX7_taxOf_66 rfl (lv_at hl 1 rfl) ?_
        refine lv_iload hx hb dX7_taxOf_67 (lv_at hl 3 rfl) ?_
        refine lv_isub hx hb dX7_taxOf_69 ?_
        refine lv_i2l (v := (x - (tdX (Yf 1) x i)).toInt64) hx hb dX7_taxOf_70 rfl ?_
        refine lv_aload_n hx hb dX7_taxOf_71 rfl (lv_at hl 0 rfl) ?_
        refine g_get (C := RX7) (T := TX7) (N := 14) (ci := 7) (index := 58) hx hb hts in_X7_taxOf_7 hown hK hP 0 12 rfl rfl (by decide) (List.mem_of_getElem? (i := 7) rfl) rfl dX7_taxOf_72 ?_
        refine lv_i2l (v := (Yv 12).toInt64) hx hb dX7_taxOf_75 rfl ?_
        refine lv_lmul hx hb dX7_taxOf_76 ?_
        refine lv_ladd hx hb dX7_taxOf_77 ?_
        refine lv_lstore_n (lv' := [(2, .long ((hdX (Yf 1) (Yg 1) x i) + (((x - (tdX (Yf 1) x i)).toInt64) * ((Yv 12).toInt64)))), (0, .ref yr), (1, .int x), (4, .int (tdX (Yf 1) x i)), (5, .int (nI i))]) hx hb dX7_taxOf_78 rfl hl (by decide) rfl (fun ls hl => ?_)
        refine lv_lload_n hx hb dX7_taxOf_79 rfl (lv_at hl 0 rfl) ?_
        refine lv_ldc2 (v := 100) hx hb hown (hts (.constantLong RX7 81 (100)) (List.mem_of_getElem? (i := 8) rfl)) dX7_taxOf_80 ?_
        refine lv_ldiv hx hb dX7_taxOf_83 (by decide) ?_
        refine lv_l2i (v := (((hdX (Yf 1) (Yg 1) x i) + (((x - (tdX (Yf 1) x i)).toInt64) * ((Yv 12).toInt64))) / 100).toInt32) hx hb dX7_taxOf_84 rfl ?_
        exact hret _ _ ls (by rw [hie]; rfl) dX7_taxOf_85
      · have hlt : i < Yc 1 := lt_nI c17 (by omega) (by omega)
        refine lv_iload_n hx hb dX7_taxOf_20 rfl (lv_at hl 1 rfl) ?_
        refine lv_aload_n hx hb dX7_taxOf_21 rfl (lv_at hl 0 rfl) ?_
        refine g_get (C := RX7) (T := TX7) (N := 14) (ci := 7) (index := 20) hx hb hts in_X7_taxOf_7 hown hK hP 0 1 rfl rfl (by decide) (List.mem_of_getElem? (i := 1) rfl) rfl dX7_taxOf_22 ?_
        refine lv_iload hx hb dX7_taxOf_25 (lv_at hl 4 rfl) ?_
        refine rd_V (As := [.int (nI i)]) (rest := [.int x]) (ci := 5) (kX5_first l D cI cB (Ya 1) (Yfa 1) (Ysa 1) 4 (Yc 1) (Yf 1) (Yg 1) (nI i) (by omega) (by omega)) ⟨hx, hb, hml, hown, hts⟩ (cwV 1 hts gX7_taxOf_X5_first rfl rfl rfl (by decide +kernel) ⟨Nat.le_of_ble_eq_true rfl, Nat.le_of_ble_eq_true rfl⟩) hK hP [1, 2, 3] rfl 1 rfl rfl rfl rfl hl.1 (Nat.le_of_ble_eq_true rfl) dX7_taxOf_27 ⟨Nat.le_refl _, Nat.le_refl _⟩ ?_
        rw [show (rowAt (Yf 1) (Yc 1) (nI i) : Int32) = Yf 1 i from rowAt_nI hlt (by omega)]
        refine va_mmin hx hb (hml.trans hl.1.symm) hown (hts (.methodLink RX7 72 Lib.Math.min.name) (List.mem_of_getElem? (i := 3) rfl)) (hts (.static Lib.Math.min.name) (List.mem_of_getElem? (i := 4) rfl)) (hts (.initialized "java/lang/Math") (List.mem_of_getElem? (i := 5) rfl)) (hts (.code Lib.Math.min.name Lib.Math.min.code 2 (some .int)) (List.mem_of_getElem? (i := 6) rfl)) (Nat.le_of_ble_eq_true rfl) (Nat.le_of_ble_eq_true rfl) (Nat.le_refl _) (Nat.le_refl _) dX7_taxOf_30 ?_
        rw [show (if (Yf 1 i) < x then (Yf 1 i) else x : Int32) = min32 x (Yf 1 i) from rfl]
        refine lv_istore (lv' := [(6, .int (min32 x (Yf 1 i))), (0, .ref yr), (1, .int x), (2, .long (hdX (Yf 1) (Yg 1) x i)), (4, .int (tdX (Yf 1) x i)), (5, .int (nI i))]) hx hb dX7_taxOf_33 hl (by decide) rfl (fun ls hl => ?_)
        refine lv_lload_n hx hb dX7_taxOf_35 rfl (lv_at hl 3 rfl) ?_
        refine lv_iload hx hb dX7_taxOf_36 (lv_at hl 0 rfl) ?_
        refine lv_iload hx hb dX7_taxOf_38 (lv_at hl 4 rfl) ?_
        refine lv_isub hx hb dX7_taxOf_40 ?_
        refine lv_i2l (v := ((min32 x (Yf 1 i)) - (tdX (Yf 1) x i)).toInt64) hx hb dX7_taxOf_41 rfl ?_
        refine lv_aload_n hx hb dX7_taxOf_42 rfl (lv_at hl 1 rfl) ?_
        refine g_get (C := RX7) (T := TX7) (N := 14) (ci := 7) (index := 20) hx hb hts in_X7_taxOf_7 hown hK hP 0 1 rfl rfl (by decide) (List.mem_of_getElem? (i := 1) rfl) rfl dX7_taxOf_43 ?_
        refine lv_iload hx hb dX7_taxOf_46 (lv_at hl 5 rfl) ?_
        refine rd_V (As := [.int (nI i)]) (rest := [.long (((min32 x (Yf 1 i)) - (tdX (Yf 1) x i)).toInt64), .long (hdX (Yf 1) (Yg 1) x i)]) (ci := 5) (kX5_second l D cI cB (Ya 1) (Yfa 1) (Ysa 1) 4 (Yc 1) (Yf 1) (Yg 1) (nI i) (by omega) (by omega)) ⟨hx, hb, hml, hown, hts⟩ (cwV 1 hts gX7_taxOf_X5_second rfl rfl rfl (by decide +kernel) ⟨Nat.le_of_ble_eq_true rfl, Nat.le_of_ble_eq_true rfl⟩) hK hP [1, 2, 3] rfl 1 rfl rfl rfl rfl hl.1 (Nat.le_of_ble_eq_true rfl) dX7_taxOf_48 ⟨Nat.le_refl _, Nat.le_refl _⟩ ?_
        rw [show (rowAt (Yg 1) (Yc 1) (nI i) : Int32) = Yg 1 i from rowAt_nI hlt (by omega)]
        refine lv_i2l (v := (Yg 1 i).toInt64) hx hb dX7_taxOf_51 rfl ?_
        refine lv_lmul hx hb dX7_taxOf_52 ?_
        refine lv_ladd hx hb dX7_taxOf_53 ?_
        refine lv_lstore_n (lv' := [(2, .long ((hdX (Yf 1) (Yg 1) x i) + ((((min32 x (Yf 1 i)) - (tdX (Yf 1) x i)).toInt64) * ((Yg 1 i).toInt64)))), (6, .int (min32 x (Yf 1 i))), (0, .ref yr), (1, .int x), (4, .int (tdX (Yf 1) x i)), (5, .int (nI i))]) hx hb dX7_taxOf_54 rfl hl (by decide) rfl (fun ls hl => ?_)
        refine lv_iload hx hb dX7_taxOf_55 (lv_at hl 1 rfl) ?_
        refine lv_istore (lv' := [(4, .int (min32 x (Yf 1 i))), (2, .long ((hdX (Yf 1) (Yg 1) x i) + ((((min32 x (Yf 1 i)) - (tdX (Yf 1) x i)).toInt64) * ((Yg 1 i).toInt64)))), (6, .int (min32 x (Yf 1 i))), (0, .ref yr), (1, .int x), (5, .int (nI i))]) hx hb dX7_taxOf_57 hl (by decide) rfl (fun ls hl => ?_)
        refine lv_iinc (v := nI (i + 1)) (lv' := [(5, .int (nI (i + 1))), (4, .int (min32 x (Yf 1 i))), (2, .long ((hdX (Yf 1) (Yg 1) x i) + ((((min32 x (Yf 1 i)) - (tdX (Yf 1) x i)).toInt64) * ((Yg 1 i).toInt64)))), (6, .int (min32 x (Yf 1 i))), (0, .ref yr), (1, .int x)]) hx hb dX7_taxOf_59 hl (k := 5) rfl (nI_add _ 1) (by decide) rfl (fun ls hl => ?_)
        refine lv_goto (tgt := 8) hx hb dX7_taxOf_62 (by decide) ?_
        exact ih8 (i + 1) (by omega) _ _ _ (by omega) (rfl) (rfl) (rfl) ls (lv_sub hl [4, 5, 2, 1, 0] rfl)
  exact L8 (Yc 1 - 0 + 1) 0 (by omega) _ _ _ (Nat.lt_succ_self _) (rfl) (rfl) (nI_0.symm) ls (lv_sub hl [3, 4, 2, 1, 0] rfl)

theorem in_X7_yearly_7 : ∀ w ∈ wsX70, w ∈ wsX7_yearly := fun _ h => List.mem_cons_of_mem _ (List.mem_append_left _ (List.mem_append_right _ (h)))
set_option maxHeartbeats 4000000 in
set_option maxRecDepth 100000 in
theorem kX7_yearly (l : Launch) (D : va_G) (cI cB : ClassId) (yr : Nat) (Ya Yfa Ysa : Nat → Nat) (Yf Yg : Nat → Nat → Int32) (Yc : Nat → Nat) (Yv : Nat → Int32) (p : Int32) (hc0 : Yc 0 ≤ 4) (hc3 : Yc 3 ≤ 40) : Rd l D (TY cI cB) yX7_yearly wsX7_yearly 1 23 [.ref yr, .int p] [(yr, .inr (7, [.ref (Ya 0), .ref (Ya 1), .ref (Ya 2), .ref (Ya 3), .ref (Ya 4), .ref (Ya 5), .int (Yv 6), .int (Yv 7), .int (Yv 8), .int (Yv 9), .int (Yv 10), .int (Yv 11), .int (Yv 12), .int (Yv 13)])), (Ya 0, .inr (5, [.ref (Yfa 0), .ref (Ysa 0), .int (nI (Yc 0))])), (Yfa 0, .inl (cI, 4, .inl (Yf 0))), (Ysa 0, .inl (cI, 4, .inl (Yg 0))), (Ya 3, .inr (5, [.ref (Yfa 3), .ref (Ysa 3), .int (nI (Yc 3))])), (Yfa 3, .inl (cI, 40, .inl (Yf 3))), (Ysa 3, .inl (cI, 40, .inl (Yg 3)))] (yrX Yf Yg Yc p) := by
  refine rd_i (cc := cX7_yearly) (maxL := 4) (by decide) rfl (Nat.le_of_ble_eq_true rfl) ?_
  intro p_ e_ s_ m_ ar_ be_ me_ co_ ls Q_ hx hb hml hown hts hP hK hl hret
  have hown : s_.vm.findClass RX7 = some m_.cls := hown
  have hl : lv_has ls 4 [(0, .ref yr), (1, .int p)] := hl
  refine lv_aload_n hx hb dX7_yearly_0 rfl (lv_at hl 0 rfl) ?_
  refine g_get (C := RX7) (T := TX7) (N := 14) (ci := 7) (index := 14) hx hb hts in_X7_yearly_7 hown hK hP 0 0 rfl rfl (by decide) (List.mem_of_getElem? (i := 1) rfl) rfl dX7_yearly_1 ?_
  refine lv_iload_n hx hb dX7_yearly_4 rfl (lv_at hl 1 rfl) ?_
  refine rd_V (As := [.int p]) (rest := []) (ci := 5) (kX5_second l D cI cB (Ya 0) (Yfa 0) (Ysa 0) 4 (Yc 0) (Yf 0) (Yg 0) p (by omega) (by omega)) ⟨hx, hb, hml, hown, hts⟩ (cwV 1 hts gX7_yearly_X5_second rfl rfl rfl (by decide +kernel) ⟨Nat.le_of_ble_eq_true rfl, Nat.le_of_ble_eq_true rfl⟩) hK hP [1, 2, 3] rfl 1 rfl rfl rfl rfl hl.1 (Nat.le_of_ble_eq_true rfl) dX7_yearly_5 ⟨Nat.le_refl _, Nat.le_refl _⟩ ?_
  refine lv_istore_n (lv' := [(2, .int (rowAt (Yg 0) (Yc 0) p)), (0, .ref yr), (1, .int p)]) hx hb dX7_yearly_8 rfl hl (by decide) rfl (fun ls hl => ?_)
  refine lv_iload_n hx hb dX7_yearly_9 rfl (lv_at hl 0 rfl) ?_
  refine lv_iconst (v := 1) hx hb dX7_yearly_10 (by decide) ?_
  refine lv_iadd hx hb dX7_yearly_11 ?_
  refine lv_istore_n (lv' := [(3, .int ((rowAt (Yg 0) (Yc 0) p) + 1)), (2, .int (rowAt (Yg 0) (Yc 0) p)), (0, .ref yr), (1, .int p)]) hx hb dX7_yearly_12 rfl hl (by decide) rfl (fun ls hl => ?_)
  refine lv_iload_n hx hb dX7_yearly_13 rfl (lv_at hl 0 rfl) ?_
  refine lv_iconst (v := 1) hx hb dX7_yearly_14 (by decide) ?_
  refine lv_icmp_ge (tgt := 22) hx hb dX7_yearly_15 (by decide) (fun c15 => ?_) (fun c15 => ?_)
  · refine lv_aload_n hx hb dX7_yearly_22 rfl (lv_at hl 2 rfl) ?_
    refine g_get (C := RX7) (T := TX7) (N := 14) (ci := 7) (index := 26) hx hb hts in_X7_yearly_7 hown hK hP 0 3 rfl rfl (by decide) (List.mem_of_getElem? (i := 2) rfl) rfl dX7_yearly_23 ?_
    refine lv_iload_n hx hb dX7_yearly_26 rfl (lv_at hl 1 rfl) ?_
    refine rd_V (As := [.int (rowAt (Yg 0) (Yc 0) p)]) (rest := []) (ci := 5) (kX5_sumUpTo l D cI cB (Ya 3) (Yfa 3) (Ysa 3) 40 (Yc 3) (Yf 3) (Yg 3) (rowAt (Yg 0) (Yc 0) p) (by omega) (by omega)) ⟨hx, hb, hml, hown, hts⟩ (cwV 1 hts gX7_yearly_X5_sumUpTo rfl rfl rfl (by decide +kernel) ⟨Nat.le_of_ble_eq_true rfl, Nat.le_of_ble_eq_true rfl⟩) hK hP [4, 5, 6] rfl 4 rfl rfl rfl rfl hl.1 (Nat.le_of_ble_eq_true rfl) dX7_yearly_27 ⟨Nat.le_refl _, Nat.le_refl _⟩ ?_
    refine lv_i2l (v := (sumUp (Yf 3) (Yg 3) (rowAt (Yg 0) (Yc 0) p) (Yc 3)).toInt64) hx hb dX7_yearly_30 rfl ?_
    refine lv_ldc2 (v := 365) hx hb hown (hts (.constantLong RX7 86 (365)) (List.mem_of_getElem? (i := 3) rfl)) dX7_yearly_31 ?_
    refine lv_lmul hx hb dX7_yearly_34 ?_
    refine lv_iload_n hx hb dX7_yearly_35 rfl (lv_at hl 0 rfl) ?_
    refine lv_i2l (v := ((rowAt (Yg 0) (Yc 0) p) + 1).toInt64) hx hb dX7_yearly_36 rfl ?_
    refine lv_ldiv hx hb dX7_yearly_37 (i64_ne0 c15) ?_
    refine lv_l2i (v := ((((sumUp (Yf 3) (Yg 3) (rowAt (Yg 0) (Yc 0) p) (Yc 3)).toInt64) * 365) / (((rowAt (Yg 0) (Yc 0) p) + 1).toInt64)).toInt32) hx hb dX7_yearly_38 rfl ?_
    exact hret _ _ ls (by simp [yrX, c15]) dX7_yearly_39
  · refine lv_iconst (v := 0) hx hb dX7_yearly_18 (by decide) ?_
    refine lv_goto (tgt := 39) hx hb dX7_yearly_19 (by decide) ?_
    exact hret _ _ ls (by simp [yrX, c15]) dX7_yearly_39

theorem in_X7_sumBy_7 : ∀ w ∈ wsX70, w ∈ wsX7_sumBy := fun _ h => List.mem_cons_of_mem _ (List.mem_append_left _ (List.mem_append_right _ (h)))
set_option maxHeartbeats 4000000 in
set_option maxRecDepth 100000 in
theorem kX7_sumBy (l : Launch) (D : va_G) (cI cB : ClassId) (yr : Nat) (Ya Yfa Ysa : Nat → Nat) (Yf Yg : Nat → Nat → Int32) (Yc : Nat → Nat) (Yv : Nat → Int32) (r p : Int32) (hc0 : Yc 0 ≤ 4) (hc1 : Yc 1 ≤ 4) (hc3 : Yc 3 ≤ 40) : Rd l D (TY cI cB) yX7_sumBy wsX7_sumBy 2 47 [.ref yr, .int r, .int p] [(yr, .inr (7, [.ref (Ya 0), .ref (Ya 1), .ref (Ya 2), .ref (Ya 3), .ref (Ya 4), .ref (Ya 5), .int (Yv 6), .int (Yv 7), .int (Yv 8), .int (Yv 9), .int (Yv 10), .int (Yv 11), .int (Yv 12), .int (Yv 13)])), (Ya 0, .inr (5, [.ref (Yfa 0), .ref (Ysa 0), .int (nI (Yc 0))])), (Yfa 0, .inl (cI, 4, .inl (Yf 0))), (Ysa 0, .inl (cI, 4, .inl (Yg 0))), (Ya 1, .inr (5, [.ref (Yfa 1), .ref (Ysa 1), .int (nI (Yc 1))])), (Yfa 1, .inl (cI, 4, .inl (Yf 1))), (Ysa 1, .inl (cI, 4, .inl (Yg 1))), (Ya 3, .inr (5, [.ref (Yfa 3), .ref (Ysa 3), .int (nI (Yc 3))])), (Yfa 3, .inl (cI, 40, .inl (Yf 3))), (Ysa 3, .inl (cI, 40, .inl (Yg 3)))] (sbX Yf Yg Yc Yv r p) := by
  refine rd_i (cc := cX7_sumBy) (maxL := 5) (by decide) rfl (Nat.le_of_ble_eq_true rfl) ?_
  intro p_ e_ s_ m_ ar_ be_ me_ co_ ls Q_ hx hb hml hown hts hP hK hl hret
  have hown : s_.vm.findClass RX7 = some m_.cls := hown
  have hl : lv_has ls 5 [(0, .ref yr), (1, .int r), (2, .int p)] := hl
  refine lv_iload_n hx hb dX7_sumBy_0 rfl (lv_at hl 1 rfl) ?_
  refine lv_if_ne (tgt := 23) hx hb dX7_sumBy_1 (by decide) (fun c1 => ?_) (fun c1 => ?_)
  · refine lv_iload_n hx hb dX7_sumBy_23 rfl (lv_at hl 1 rfl) ?_
    refine lv_iconst (v := 1) hx hb dX7_sumBy_24 (by decide) ?_
    refine lv_icmp_ne (tgt := 43) hx hb dX7_sumBy_25 (by decide) (fun c25 => ?_) (fun c25 => ?_)
    · refine lv_aload_n hx hb dX7_sumBy_43 rfl (lv_at hl 0 rfl) ?_
      refine lv_aload_n hx hb dX7_sumBy_44 rfl (lv_at hl 0 rfl) ?_
      refine lv_iload_n hx hb dX7_sumBy_45 rfl (lv_at hl 2 rfl) ?_
      refine rd_V (As := [.int p]) (rest := [.ref yr]) (ci := 7) (kX7_yearly l D cI cB yr Ya Yfa Ysa Yf Yg Yc Yv p (by omega) (by omega)) ⟨hx, hb, hml, hown, hts⟩ (cwV 1 hts gX7_sumBy_X7_yearly rfl rfl rfl (by decide +kernel) ⟨Nat.le_of_ble_eq_true rfl, Nat.le_of_ble_eq_true rfl⟩) hK hP [0, 1, 2, 3, 7, 8, 9] rfl 0 rfl rfl rfl rfl hl.1 (Nat.le_of_ble_eq_true rfl) dX7_sumBy_46 ⟨Nat.le_refl _, Nat.le_refl _⟩ ?_
      refine rd_V (As := [.int (yrX Yf Yg Yc p)]) (rest := []) (ci := 7) (kX7_taxOf l D cI cB yr Ya Yfa Ysa Yf Yg Yc Yv (yrX Yf Yg Yc p) (by omega)) ⟨hx, hb, hml, hown, hts⟩ (cwV 1 hts gX7_sumBy_X7_taxOf rfl rfl rfl (by decide +kernel) ⟨Nat.le_of_ble_eq_true rfl, Nat.le_of_ble_eq_true rfl⟩) hK hP [0, 4, 5, 6] rfl 0 rfl rfl rfl rfl hl.1 (Nat.le_of_ble_eq_true rfl) dX7_sumBy_49 ⟨Nat.le_refl _, Nat.le_refl _⟩ ?_
      refine lv_i2l (v := (taxX (Yf 1) (Yg 1) (Yc 1) (Yv 12) (yrX Yf Yg Yc p)).toInt64) hx hb dX7_sumBy_52 rfl ?_
      refine lv_aload_n hx hb dX7_sumBy_53 rfl (lv_at hl 0 rfl) ?_
      refine g_get (C := RX7) (T := TX7) (N := 14) (ci := 7) (index := 48) hx hb hts in_X7_sumBy_7 hown hK hP 0 9 rfl rfl (by decide) (List.mem_of_getElem? (i := 1) rfl) rfl dX7_sumBy_54 ?_
      refine lv_i2l (v := (Yv 9).toInt64) hx hb dX7_sumBy_57 rfl ?_
      refine lv_lmul hx hb dX7_sumBy_58 ?_
      refine lv_lstore_n (lv' := [(3, .long (((taxX (Yf 1) (Yg 1) (Yc 1) (Yv 12) (yrX Yf Yg Yc p)).toInt64) * ((Yv 9).toInt64))), (0, .ref yr), (1, .int r), (2, .int p)]) hx hb dX7_sumBy_59 rfl hl (by decide) rfl (fun ls hl => ?_)
      refine lv_lload_n hx hb dX7_sumBy_60 rfl (lv_at hl 0 rfl) ?_
      refine lv_iload_n hx hb dX7_sumBy_61 rfl (lv_at hl 3 rfl) ?_
      refine lv_iconst (v := 1) hx hb dX7_sumBy_62 (by decide) ?_
      refine lv_iadd hx hb dX7_sumBy_63 ?_
      refine lv_i2l (v := (p + 1).toInt64) hx hb dX7_sumBy_64 rfl ?_
      refine lv_lmul hx hb dX7_sumBy_65 ?_
      refine lv_ldc2 (v := 400) hx hb hown (hts (.constantLong RX7 98 (400)) (List.mem_of_getElem? (i := 4) rfl)) dX7_sumBy_66 ?_
      refine lv_ldiv hx hb dX7_sumBy_69 (by decide) ?_
      refine lv_l2i (v := (((((taxX (Yf 1) (Yg 1) (Yc 1) (Yv 12) (yrX Yf Yg Yc p)).toInt64) * ((Yv 9).toInt64)) * ((p + 1).toInt64)) / 400).toInt32) hx hb dX7_sumBy_70 rfl ?_
      exact hret _ _ ls (by simp [sbX, sbW, c1, c25]) dX7_sumBy_71
    · refine lv_aload_n hx hb dX7_sumBy_28 rfl (lv_at hl 0 rfl) ?_
      refine g_get (C := RX7) (T := TX7) (N := 14) (ci := 7) (index := 39) hx hb hts in_X7_sumBy_7 hown hK hP 0 6 rfl rfl (by decide) (List.mem_of_getElem? (i := 2) rfl) rfl dX7_sumBy_29 ?_
      refine lv_i2l (v := (Yv 6).toInt64) hx hb dX7_sumBy_32 rfl ?_
      refine lv_aload_n hx hb dX7_sumBy_33 rfl (lv_at hl 0 rfl) ?_
      refine g_get (C := RX7) (T := TX7) (N := 14) (ci := 7) (index := 51) hx hb hts in_X7_sumBy_7 hown hK hP 0 10 rfl rfl (by decide) (List.mem_of_getElem? (i := 3) rfl) rfl dX7_sumBy_34 ?_
      refine lv_i2l (v := (Yv 10).toInt64) hx hb dX7_sumBy_37 rfl ?_
      refine lv_lmul hx hb dX7_sumBy_38 ?_
      refine lv_lstore_n (lv' := [(3, .long (((Yv 6).toInt64) * ((Yv 10).toInt64))), (0, .ref yr), (1, .int r), (2, .int p)]) hx hb dX7_sumBy_39 rfl hl (by decide) rfl (fun ls hl => ?_)
      refine lv_goto (tgt := 60) hx hb dX7_sumBy_40 (by decide) ?_
      refine lv_lload_n hx hb dX7_sumBy_60 rfl (lv_at hl 0 rfl) ?_
      refine lv_iload_n hx hb dX7_sumBy_61 rfl (lv_at hl 3 rfl) ?_
      refine lv_iconst (v := 1) hx hb dX7_sumBy_62 (by decide) ?_
      refine lv_iadd hx hb dX7_sumBy_63 ?_
      refine lv_i2l (v := (p + 1).toInt64) hx hb dX7_sumBy_64 rfl ?_
      refine lv_lmul hx hb dX7_sumBy_65 ?_
      refine lv_ldc2 (v := 400) hx hb hown (hts (.constantLong RX7 98 (400)) (List.mem_of_getElem? (i := 4) rfl)) dX7_sumBy_66 ?_
      refine lv_ldiv hx hb dX7_sumBy_69 (by decide) ?_
      refine lv_l2i (v := (((((Yv 6).toInt64) * ((Yv 10).toInt64)) * ((p + 1).toInt64)) / 400).toInt32) hx hb dX7_sumBy_70 rfl ?_
      exact hret _ _ ls (by simp [sbX, sbW, c1, c25]) dX7_sumBy_71
  · refine lv_aload_n hx hb dX7_sumBy_4 rfl (lv_at hl 0 rfl) ?_
    refine lv_aload_n hx hb dX7_sumBy_5 rfl (lv_at hl 0 rfl) ?_
    refine rd_V (As := []) (rest := [.ref yr]) (ci := 7) (kX7_allIncome l D cI cB yr Ya Yfa Ysa Yf Yg Yc Yv (by omega)) ⟨hx, hb, hml, hown, hts⟩ (cwV 0 hts gX7_sumBy_X7_allIncome rfl rfl rfl (by decide +kernel) ⟨Nat.le_of_ble_eq_true rfl, Nat.le_of_ble_eq_true rfl⟩) hK hP [0, 7, 8, 9] rfl 0 rfl rfl rfl rfl hl.1 (Nat.le_of_ble_eq_true rfl) dX7_sumBy_6 ⟨Nat.le_refl _, Nat.le_refl _⟩ ?_
    refine rd_V (As := [.int (sumUp (Yf 3) (Yg 3) 499 (Yc 3))]) (rest := []) (ci := 7) (kX7_taxOf l D cI cB yr Ya Yfa Ysa Yf Yg Yc Yv (sumUp (Yf 3) (Yg 3) 499 (Yc 3)) (by omega)) ⟨hx, hb, hml, hown, hts⟩ (cwV 1 hts gX7_sumBy_X7_taxOf rfl rfl rfl (by decide +kernel) ⟨Nat.le_of_ble_eq_true rfl, Nat.le_of_ble_eq_true rfl⟩) hK hP [0, 4, 5, 6] rfl 0 rfl rfl rfl rfl hl.1 (Nat.le_of_ble_eq_true rfl) dX7_sumBy_9 ⟨Nat.le_refl _, Nat.le_refl _⟩ ?_
    refine lv_i2l (v := (taxX (Yf 1) (Yg 1) (Yc 1) (Yv 12) (sumUp (Yf 3) (Yg 3) 499 (Yc 3))).toInt64) hx hb dX7_sumBy_12 rfl ?_
    refine lv_aload_n hx hb dX7_sumBy_13 rfl (lv_at hl 0 rfl) ?_
    refine g_get (C := RX7) (T := TX7) (N := 14) (ci := 7) (index := 48) hx hb hts in_X7_sumBy_7 hown hK hP 0 9 rfl rfl (by decide) (List.mem_of_getElem? (i := 1) rfl) rfl dX7_sumBy_14 ?_
    refine lv_i2l (v := (Yv 9).toInt64) hx hb dX7_sumBy_17 rfl ?_
    refine lv_lmul hx hb dX7_sumBy_18 ?_
    refine lv_lstore_n (lv' := [(3, .long (((taxX (Yf 1) (Yg 1) (Yc 1) (Yv 12) (sumUp (Yf 3) (Yg 3) 499 (Yc 3))).toInt64) * ((Yv 9).toInt64))), (0, .ref yr), (1, .int r), (2, .int p)]) hx hb dX7_sumBy_19 rfl hl (by decide) rfl (fun ls hl => ?_)
    refine lv_goto (tgt := 60) hx hb dX7_sumBy_20 (by decide) ?_
    refine lv_lload_n hx hb dX7_sumBy_60 rfl (lv_at hl 0 rfl) ?_
    refine lv_iload_n hx hb dX7_sumBy_61 rfl (lv_at hl 3 rfl) ?_
    refine lv_iconst (v := 1) hx hb dX7_sumBy_62 (by decide) ?_
    refine lv_iadd hx hb dX7_sumBy_63 ?_
    refine lv_i2l (v := (p + 1).toInt64) hx hb dX7_sumBy_64 rfl ?_
    refine lv_lmul hx hb dX7_sumBy_65 ?_
    refine lv_ldc2 (v := 400) hx hb hown (hts (.constantLong RX7 98 (400)) (List.mem_of_getElem? (i := 4) rfl)) dX7_sumBy_66 ?_
    refine lv_ldiv hx hb dX7_sumBy_69 (by decide) ?_
    refine lv_l2i (v := (((((taxX (Yf 1) (Yg 1) (Yc 1) (Yv 12) (sumUp (Yf 3) (Yg 3) 499 (Yc 3))).toInt64) * ((Yv 9).toInt64)) * ((p + 1).toInt64)) / 400).toInt32) hx hb dX7_sumBy_70 rfl ?_
    exact hret _ _ ls (by simp [sbX, sbW, c1]) dX7_sumBy_71

theorem in_X7_paidUpTo_7 : ∀ w ∈ wsX70, w ∈ wsX7_paidUpTo := fun _ h => List.mem_cons_of_mem _ (List.mem_append_left _ (List.mem_append_right _ (h)))
set_option maxHeartbeats 4000000 in
set_option maxRecDepth 100000 in
theorem kX7_paidUpTo (l : Launch) (D : va_G) (cI cB : ClassId) (yr : Nat) (Ya Yfa Ysa : Nat → Nat) (Yf Yg : Nat → Nat → Int32) (Yc : Nat → Nat) (Yv : Nat → Int32) (d : Int32) (hc4 : Yc 4 ≤ 40) (hc5 : Yc 5 ≤ 20) : Rd l D (TY cI cB) yX7_paidUpTo wsX7_paidUpTo 1 23 [.ref yr, .int d] [(yr, .inr (7, [.ref (Ya 0), .ref (Ya 1), .ref (Ya 2), .ref (Ya 3), .ref (Ya 4), .ref (Ya 5), .int (Yv 6), .int (Yv 7), .int (Yv 8), .int (Yv 9), .int (Yv 10), .int (Yv 11), .int (Yv 12), .int (Yv 13)])), (Ya 4, .inr (5, [.ref (Yfa 4), .ref (Ysa 4), .int (nI (Yc 4))])), (Yfa 4, .inl (cI, 40, .inl (Yf 4))), (Ysa 4, .inl (cI, 40, .inl (Yg 4))), (Ya 5, .inr (5, [.ref (Yfa 5), .ref (Ysa 5), .int (nI (Yc 5))])), (Yfa 5, .inl (cI, 20, .inl (Yf 5))), (Ysa 5, .inl (cI, 20, .inl (Yg 5)))] (Yv 7 + sumUp (Yf 4) (Yg 4) d (Yc 4) - sumUp (Yf 5) (Yg 5) d (Yc 5)) := by
  refine rd_i (cc := cX7_paidUpTo) (maxL := 2) (by decide) rfl (Nat.le_of_ble_eq_true rfl) ?_
  intro p_ e_ s_ m_ ar_ be_ me_ co_ ls Q_ hx hb hml hown hts hP hK hl hret
  have hown : s_.vm.findClass RX7 = some m_.cls := hown
  have hl : lv_has ls 2 [(0, .ref yr), (1, .int d)] := hl
  refine lv_aload_n hx hb dX7_paidUpTo_0 rfl (lv_at hl 0 rfl) ?_
  refine g_get (C := RX7) (T := TX7) (N := 14) (ci := 7) (index := 42) hx hb hts in_X7_paidUpTo_7 hown hK hP 0 7 rfl rfl (by decide) (List.mem_of_getElem? (i := 1) rfl) rfl dX7_paidUpTo_1 ?_
  refine lv_aload_n hx hb dX7_paidUpTo_4 rfl (lv_at hl 0 rfl) ?_
  refine g_get (C := RX7) (T := TX7) (N := 14) (ci := 7) (index := 29) hx hb hts in_X7_paidUpTo_7 hown hK hP 0 4 rfl rfl (by decide) (List.mem_of_getElem? (i := 2) rfl) rfl dX7_paidUpTo_5 ?_
  refine lv_iload_n hx hb dX7_paidUpTo_8 rfl (lv_at hl 1 rfl) ?_
  refine rd_V (As := [.int d]) (rest := [.int (Yv 7)]) (ci := 5) (kX5_sumUpTo l D cI cB (Ya 4) (Yfa 4) (Ysa 4) 40 (Yc 4) (Yf 4) (Yg 4) d (by omega) (by omega)) ⟨hx, hb, hml, hown, hts⟩ (cwV 1 hts gX7_paidUpTo_X5_sumUpTo rfl rfl rfl (by decide +kernel) ⟨Nat.le_of_ble_eq_true rfl, Nat.le_of_ble_eq_true rfl⟩) hK hP [1, 2, 3] rfl 1 rfl rfl rfl rfl hl.1 (Nat.le_of_ble_eq_true rfl) dX7_paidUpTo_9 ⟨Nat.le_refl _, Nat.le_refl _⟩ ?_
  refine lv_iadd hx hb dX7_paidUpTo_12 ?_
  refine lv_aload_n hx hb dX7_paidUpTo_13 rfl (lv_at hl 0 rfl) ?_
  refine g_get (C := RX7) (T := TX7) (N := 14) (ci := 7) (index := 32) hx hb hts in_X7_paidUpTo_7 hown hK hP 0 5 rfl rfl (by decide) (List.mem_of_getElem? (i := 3) rfl) rfl dX7_paidUpTo_14 ?_
  refine lv_iload_n hx hb dX7_paidUpTo_17 rfl (lv_at hl 1 rfl) ?_
  refine rd_V (As := [.int d]) (rest := [.int ((Yv 7) + (sumUp (Yf 4) (Yg 4) d (Yc 4)))]) (ci := 5) (kX5_sumUpTo l D cI cB (Ya 5) (Yfa 5) (Ysa 5) 20 (Yc 5) (Yf 5) (Yg 5) d (by omega) (by omega)) ⟨hx, hb, hml, hown, hts⟩ (cwV 1 hts gX7_paidUpTo_X5_sumUpTo rfl rfl rfl (by decide +kernel) ⟨Nat.le_of_ble_eq_true rfl, Nat.le_of_ble_eq_true rfl⟩) hK hP [4, 5, 6] rfl 4 rfl rfl rfl rfl hl.1 (Nat.le_of_ble_eq_true rfl) dX7_paidUpTo_18 ⟨Nat.le_refl _, Nat.le_refl _⟩ ?_
  refine lv_isub hx hb dX7_paidUpTo_21 ?_
  exact hret _ _ ls (rfl) dX7_paidUpTo_22

