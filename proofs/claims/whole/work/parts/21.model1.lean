theorem in_X9_thrown_9 : ∀ w ∈ wsX90, w ∈ wsX9_thrown := fun _ h => List.mem_cons_of_mem _ (List.mem_append_right _ (h))
set_option maxHeartbeats 4000000 in
set_option maxRecDepth 100000 in
theorem kX9_thrown (l : Launch) (D : va_G) (cI cB : ClassId) (mo q1 q2 q3 q4 q5 q6 q7 q8 : Nat) (th tn sz tt fm so nu fau plc : Int32) (wd : Int64) (sm rm : Int32) (Tp Nw Rr Sn In Pd Rt Rw : Nat → Int32)  : Rd l D (TY cI cB) yX9_thrown wsX9_thrown 0 0 [.ref mo] [(mo, .inr (9, [.int th, .ref q1, .int tn, .int sz, .int tt, .int fm, .int so, .int nu, .int fau, .int plc, .long wd, .ref q2, .ref q3, .ref q4, .int sm, .ref q5, .ref q6, .ref q7, .ref q8, .int rm])), (q1, .inl (cI, 840, .inl Tp)), (q2, .inl (cI, 240, .inl Nw)), (q3, .inl (cI, 240, .inl Rr)), (q4, .inl (cI, 2880, .inl Sn)), (q5, .inl (cI, 4, .inl In)), (q6, .inl (cI, 500, .inl Pd)), (q7, .inl (cI, 500, .inl Rt)), (q8, .inl (cI, 10000, .inl Rw))] th := by
  refine rd_i (cc := cX9_thrown) (maxL := 1) (by decide) rfl (Nat.le_of_ble_eq_true rfl) ?_
  intro p_ e_ s_ m_ ar_ be_ me_ co_ ls Q_ hx hb hml hown hts hP hK hl hret
  have hown : s_.vm.findClass RX9 = some m_.cls := hown
  have hl : lv_has ls 1 [(0, .ref mo)] := hl
  refine lv_aload_n hx hb dX9_thrown_0 rfl (lv_at hl 0 rfl) ?_
  refine g_get (C := RX9) (T := TX9) (N := 20) (ci := 9) (index := 1) hx hb hts in_X9_thrown_9 hown hK hP 0 0 rfl rfl (by decide) (List.mem_of_getElem? (i := 1) rfl) rfl dX9_thrown_1 ?_
  exact hret _ _ ls (rfl) dX9_thrown_4

theorem in_X9_upTo_9 : ∀ w ∈ wsX90, w ∈ wsX9_upTo := fun _ h => List.mem_cons_of_mem _ (List.mem_append_right _ (h))
set_option maxHeartbeats 4000000 in
set_option maxRecDepth 100000 in
theorem kX9_upTo (l : Launch) (D : va_G) (cI cB : ClassId) (mo q1 q2 q3 q4 q5 q6 q7 q8 : Nat) (th tn sz tt fm so nu fau plc : Int32) (wd : Int64) (sm rm : Int32) (Tp Nw Rr Sn In Pd Rt Rw : Nat → Int32) (C n : Nat) (d : Int32) (hn : Nw C = nI n) (hC : C + 2 + 2 * n ≤ 240) : Rd l D (TY cI cB) yX9_upTo wsX9_upTo 0 0 [.ref mo, .int (nI C), .int d] [(mo, .inr (9, [.int th, .ref q1, .int tn, .int sz, .int tt, .int fm, .int so, .int nu, .int fau, .int plc, .long wd, .ref q2, .ref q3, .ref q4, .int sm, .ref q5, .ref q6, .ref q7, .ref q8, .int rm])), (q1, .inl (cI, 840, .inl Tp)), (q2, .inl (cI, 240, .inl Nw)), (q3, .inl (cI, 240, .inl Rr)), (q4, .inl (cI, 2880, .inl Sn)), (q5, .inl (cI, 4, .inl In)), (q6, .inl (cI, 500, .inl Pd)), (q7, .inl (cI, 500, .inl Rt)), (q8, .inl (cI, 10000, .inl Rw))] (upM Nw C d n) := by
  refine rd_i (cc := cX9_upTo) (maxL := 5) (by decide) rfl (Nat.le_of_ble_eq_true rfl) ?_
  intro p_ e_ s_ m_ ar_ be_ me_ co_ ls Q_ hx hb hml hown hts hP hK hl hret
  have hown : s_.vm.findClass RX9 = some m_.cls := hown
  have hl : lv_has ls 5 [(0, .ref mo), (1, .int (nI C)), (2, .int d)] := hl
  refine lv_iconst (v := 0) hx hb dX9_upTo_0 (by decide) ?_
  refine lv_istore_n (lv' := [(3, .int 0), (0, .ref mo), (1, .int (nI C)), (2, .int d)]) hx hb dX9_upTo_1 rfl hl (by decide) rfl (fun ls hl => ?_)
  refine lv_iconst (v := 0) hx hb dX9_upTo_2 (by decide) ?_
  refine lv_istore (lv' := [(4, .int 0), (3, .int 0), (0, .ref mo), (1, .int (nI C)), (2, .int d)]) hx hb dX9_upTo_3 hl (by decide) rfl (fun ls hl => ?_)
  have L5 : ∀ (nn_ : Nat) (i : Nat) (hi : i ≤ n) (xx_v3 : Int32) (xx_v4 : Int32), (n - i) < nn_ → xx_v3 = upM Nw C d i → xx_v4 = nI i → ∀ (ls : Array Slot), lv_has ls 5 [(0, .ref mo), (1, .int (nI C)), (2, .int d), (3, .int xx_v3), (4, .int xx_v4)] → W p_ l e_ (RM 0 0) s_ m_ ar_ be_ me_ co_ s_.heap [] 0 0 Q_ (F0 m_ 5 ls []) := by
    intro nn_
    induction nn_ with
    | zero => intro i hi xx_v3 xx_v4 hn_; exact absurd hn_ (Nat.not_lt_zero _)
    | succ nn_ ih5 =>
      intro i hi xx_v3 xx_v4 hn_ e_xx_v3 e_xx_v4 ls hl
      subst e_xx_v3 e_xx_v4
      refine lv_iload hx hb dX9_upTo_5 (lv_at hl 4 rfl) ?_
      refine lv_aload_n hx hb dX9_upTo_7 rfl (lv_at hl 0 rfl) ?_
      refine g_get (C := RX9) (T := TX9) (N := 20) (ci := 9) (index := 64) hx hb hts in_X9_upTo_9 hown hK hP 0 11 rfl rfl (by decide) (List.mem_of_getElem? (i := 1) rfl) rfl dX9_upTo_8 ?_
      refine lv_iload_n hx hb dX9_upTo_11 rfl (lv_at hl 1 rfl) ?_
      refine g_iald hx hb hK hP 2 0 rfl rfl C (rfl) (by omega) (by omega) dX9_upTo_12 ?_
      rw [show (Nw C : Int32) = nI n from hn]
      refine lv_icmp_ge (tgt := 55) hx hb dX9_upTo_13 (by decide) (fun c13 => ?_) (fun c13 => ?_)
      · refine lv_iload_n hx hb dX9_upTo_55 rfl (lv_at hl 3 rfl) ?_
        exact hret _ _ ls (by have q := ge_nI c13 (by omega) (by omega); rw [show i = n by omega]) dX9_upTo_56
      · have hlt : i < n := lt_nI c13 (by omega) (by omega)
        refine lv_aload_n hx hb dX9_upTo_16 rfl (lv_at hl 0 rfl) ?_
        refine g_get (C := RX9) (T := TX9) (N := 20) (ci := 9) (index := 64) hx hb hts in_X9_upTo_9 hown hK hP 0 11 rfl rfl (by decide) (List.mem_of_getElem? (i := 1) rfl) rfl dX9_upTo_17 ?_
        refine lv_iload_n hx hb dX9_upTo_20 rfl (lv_at hl 1 rfl) ?_
        refine lv_iconst (v := 1) hx hb dX9_upTo_21 (by decide) ?_
        refine lv_iadd hx hb dX9_upTo_22 ?_
        refine lv_iconst (v := 2) hx hb dX9_upTo_23 (by decide) ?_
        refine lv_iload hx hb dX9_upTo_24 (lv_at hl 4 rfl) ?_
        refine lv_imul hx hb dX9_upTo_26 ?_
        refine lv_iadd hx hb dX9_upTo_27 ?_
        refine g_iald hx hb hK hP 2 0 rfl rfl ((C + 1) + (2 * i)) (nx_a (nx_a (rfl) (rfl)) (nx_m (rfl) (rfl))) (by omega) (by omega) dX9_upTo_28 ?_
        refine lv_iload_n hx hb dX9_upTo_29 rfl (lv_at hl 2 rfl) ?_
        refine lv_icmp_gt (tgt := 49) hx hb dX9_upTo_30 (by decide) (fun c30 => ?_) (fun c30 => ?_)
        · refine lv_iinc (v := nI (i + 1)) (lv' := [(4, .int (nI (i + 1))), (0, .ref mo), (1, .int (nI C)), (2, .int d), (3, .int (upM Nw C d i))]) hx hb dX9_upTo_49 hl (k := 4) rfl (nI_add _ 1) (by decide) rfl (fun ls hl => ?_)
          refine lv_goto (tgt := 5) hx hb dX9_upTo_52 (by decide) ?_
          exact ih5 (i + 1) (by omega) _ _ (by omega) (by simp only [upM, sumUp, evF, odF]; simp [c13, c30]) (rfl) ls (lv_sub hl [1, 2, 3, 4, 0] rfl)
        · refine lv_iload_n hx hb dX9_upTo_33 rfl (lv_at hl 3 rfl) ?_
          refine lv_aload_n hx hb dX9_upTo_34 rfl (lv_at hl 0 rfl) ?_
          refine g_get (C := RX9) (T := TX9) (N := 20) (ci := 9) (index := 64) hx hb hts in_X9_upTo_9 hown hK hP 0 11 rfl rfl (by decide) (List.mem_of_getElem? (i := 1) rfl) rfl dX9_upTo_35 ?_
          refine lv_iload_n hx hb dX9_upTo_38 rfl (lv_at hl 1 rfl) ?_
          refine lv_iconst (v := 2) hx hb dX9_upTo_39 (by decide) ?_
          refine lv_iadd hx hb dX9_upTo_40 ?_
          refine lv_iconst (v := 2) hx hb dX9_upTo_41 (by decide) ?_
          refine lv_iload hx hb dX9_upTo_42 (lv_at hl 4 rfl) ?_
          refine lv_imul hx hb dX9_upTo_44 ?_
          refine lv_iadd hx hb dX9_upTo_45 ?_
          refine g_iald hx hb hK hP 2 0 rfl rfl ((C + 2) + (2 * i)) (nx_a (nx_a (rfl) (rfl)) (nx_m (rfl) (rfl))) (by omega) (by omega) dX9_upTo_46 ?_
          refine lv_iadd hx hb dX9_upTo_47 ?_
          refine lv_istore_n (lv' := [(3, .int ((upM Nw C d i) + (Nw ((C + 2) + (2 * i))))), (0, .ref mo), (1, .int (nI C)), (2, .int d), (4, .int (nI i))]) hx hb dX9_upTo_48 rfl hl (by decide) rfl (fun ls hl => ?_)
          refine lv_iinc (v := nI (i + 1)) (lv' := [(4, .int (nI (i + 1))), (3, .int ((upM Nw C d i) + (Nw ((C + 2) + (2 * i))))), (0, .ref mo), (1, .int (nI C)), (2, .int d)]) hx hb dX9_upTo_49 hl (k := 4) rfl (nI_add _ 1) (by decide) rfl (fun ls hl => ?_)
          refine lv_goto (tgt := 5) hx hb dX9_upTo_52 (by decide) ?_
          exact ih5 (i + 1) (by omega) _ _ (by omega) (by simp only [upM, sumUp, evF, odF]; simp [c13, c30]) (rfl) ls (lv_sub hl [2, 3, 4, 1, 0] rfl)
  exact L5 (n - 0 + 1) 0 (by omega) _ _ (Nat.lt_succ_self _) (rfl) (nI_0.symm) ls (lv_sub hl [2, 3, 4, 1, 0] rfl)

set_option maxHeartbeats 4000000 in
set_option maxRecDepth 100000 in
theorem kX9_allIncome (l : Launch) (D : va_G) (cI cB : ClassId) (mo q1 q2 q3 q4 q5 q6 q7 q8 : Nat) (th tn sz tt fm so nu fau plc : Int32) (wd : Int64) (sm rm : Int32) (Tp Nw Rr Sn In Pd Rt Rw : Nat → Int32) (ns nr ni np nb : Nat) (hcn : cnt Nw ns nr ni np nb) : Rd l D (TY cI cB) yX9_allIncome wsX9_allIncome 1 24 [.ref mo] [(mo, .inr (9, [.int th, .ref q1, .int tn, .int sz, .int tt, .int fm, .int so, .int nu, .int fau, .int plc, .long wd, .ref q2, .ref q3, .ref q4, .int sm, .ref q5, .ref q6, .ref q7, .ref q8, .int rm])), (q1, .inl (cI, 840, .inl Tp)), (q2, .inl (cI, 240, .inl Nw)), (q3, .inl (cI, 240, .inl Rr)), (q4, .inl (cI, 2880, .inl Sn)), (q5, .inl (cI, 4, .inl In)), (q6, .inl (cI, 500, .inl Pd)), (q7, .inl (cI, 500, .inl Rt)), (q8, .inl (cI, 10000, .inl Rw))] (upM Nw 36 500 ni) := by
  refine rd_i (cc := cX9_allIncome) (maxL := 1) (by decide) rfl (Nat.le_of_ble_eq_true rfl) ?_
  intro p_ e_ s_ m_ ar_ be_ me_ co_ ls Q_ hx hb hml hown hts hP hK hl hret
  have hown : s_.vm.findClass RX9 = some m_.cls := hown
  have hl : lv_has ls 1 [(0, .ref mo)] := hl
  refine lv_aload_n hx hb dX9_allIncome_0 rfl (lv_at hl 0 rfl) ?_
  refine lv_bipush (v := 36) hx hb dX9_allIncome_1 (by decide) ?_
  refine lv_sipush (v := 500) hx hb dX9_allIncome_3 (by decide) ?_
  refine rd_V (As := [.int 36, .int 500]) (rest := []) (ci := 9) (kX9_upTo l D cI cB mo q1 q2 q3 q4 q5 q6 q7 q8 th tn sz tt fm so nu fau plc wd sm rm Tp Nw Rr Sn In Pd Rt Rw 36 ni 500 (hcn.2.2.1.1) (by have := hcn.2.2.1.2; omega)) ⟨hx, hb, hml, hown, hts⟩ (cwV 2 hts gX9_allIncome_X9_upTo rfl rfl rfl (by decide +kernel) ⟨Nat.le_of_ble_eq_true rfl, Nat.le_of_ble_eq_true rfl⟩) hK hP [0, 1, 2, 3, 4, 5, 6, 7, 8] rfl 0 rfl rfl rfl rfl hl.1 (Nat.le_of_ble_eq_true rfl) dX9_allIncome_6 ⟨Nat.le_refl _, Nat.le_refl _⟩ ?_
  exact hret _ _ ls (rfl) dX9_allIncome_9

theorem in_X9_taxOf_9 : ∀ w ∈ wsX90, w ∈ wsX9_taxOf := fun _ h => List.mem_cons_of_mem _ (List.mem_append_right _ (h))
set_option maxHeartbeats 4000000 in
set_option maxRecDepth 100000 in
theorem kX9_taxOf (l : Launch) (D : va_G) (cI cB : ClassId) (mo q1 q2 q3 q4 q5 q6 q7 q8 : Nat) (th tn sz tt fm so nu fau plc : Int32) (wd : Int64) (sm rm : Int32) (Tp Nw Rr Sn In Pd Rt Rw : Nat → Int32) (ns nr ni np nb : Nat) (x : Int64) (hcn : cnt Nw ns nr ni np nb) : Rd l D (TY cI cB) yX9_taxOf wsX9_taxOf 0 0 [.ref mo, .long x] [(mo, .inr (9, [.int th, .ref q1, .int tn, .int sz, .int tt, .int fm, .int so, .int nu, .int fau, .int plc, .long wd, .ref q2, .ref q3, .ref q4, .int sm, .ref q5, .ref q6, .ref q7, .ref q8, .int rm])), (q1, .inl (cI, 840, .inl Tp)), (q2, .inl (cI, 240, .inl Nw)), (q3, .inl (cI, 240, .inl Rr)), (q4, .inl (cI, 2880, .inl Sn)), (q5, .inl (cI, 4, .inl In)), (q6, .inl (cI, 500, .inl Pd)), (q7, .inl (cI, 500, .inl Rt)), (q8, .inl (cI, 10000, .inl Rw))] (taxM Nw ns x) := by
  refine rd_i (cc := cX9_taxOf) (maxL := 14) (by decide) rfl (Nat.le_of_ble_eq_true rfl) ?_
  intro p_ e_ s_ m_ ar_ be_ me_ co_ ls Q_ hx hb hml hown hts hP hK hl hret
  have hown : s_.vm.findClass RX9 = some m_.cls := hown
  have hl : lv_has ls 14 [(0, .ref mo), (1, .long x)] := hl
  have h13 := hcn.1.1
  have h13b := hcn.1.2
  refine lv_lconst (v := 0) hx hb dX9_taxOf_0 (by decide) ?_
  refine lv_lstore_n (lv' := [(3, .long 0), (0, .ref mo), (1, .long x)]) hx hb dX9_taxOf_1 rfl hl (by decide) rfl (fun ls hl => ?_)
  refine lv_lload_n hx hb dX9_taxOf_2 rfl (lv_at hl 2 rfl) ?_
  refine lv_lstore (lv' := [(5, .long x), (3, .long 0), (0, .ref mo), (1, .long x)]) hx hb dX9_taxOf_3 hl (by decide) rfl (fun ls hl => ?_)
  refine lv_lconst (v := 0) hx hb dX9_taxOf_5 (by decide) ?_
  refine lv_lstore (lv' := [(7, .long 0), (5, .long x), (3, .long 0), (0, .ref mo), (1, .long x)]) hx hb dX9_taxOf_6 hl (by decide) rfl (fun ls hl => ?_)
  refine lv_iconst (v := 0) hx hb dX9_taxOf_8 (by decide) ?_
  refine lv_istore (lv' := [(9, .int 0), (7, .long 0), (5, .long x), (3, .long 0), (0, .ref mo), (1, .long x)]) hx hb dX9_taxOf_9 hl (by decide) rfl (fun ls hl => ?_)
  have L11 : ∀ (nn_ : Nat) (i : Nat) (hi : i ≤ ns) (xx_v3 : Int64) (xx_v5 : Int64) (xx_v7 : Int64) (xx_v9 : Int32), (ns - i) < nn_ → xx_v3 = (tsM (evF Nw 13) (odF Nw 13) x i).1 → xx_v5 = (tsM (evF Nw 13) (odF Nw 13) x i).2.1 → xx_v7 = (tsM (evF Nw 13) (odF Nw 13) x i).2.2 → xx_v9 = nI i → ∀ (ls : Array Slot), lv_has ls 14 [(0, .ref mo), (1, .long x), (3, .long xx_v3), (5, .long xx_v5), (7, .long xx_v7), (9, .int xx_v9)] → W p_ l e_ (RM 0 0) s_ m_ ar_ be_ me_ co_ s_.heap [] 0 0 Q_ (F0 m_ 11 ls []) := by
    intro nn_
    induction nn_ with
    | zero => intro i hi xx_v3 xx_v5 xx_v7 xx_v9 hn_; exact absurd hn_ (Nat.not_lt_zero _)
    | succ nn_ ih11 =>
      intro i hi xx_v3 xx_v5 xx_v7 xx_v9 hn_ e_xx_v3 e_xx_v5 e_xx_v7 e_xx_v9 ls hl
      subst e_xx_v3 e_xx_v5 e_xx_v7 e_xx_v9
      refine lv_iload hx hb dX9_taxOf_11 (lv_at hl 5 rfl) ?_
      refine lv_aload_n hx hb dX9_taxOf_13 rfl (lv_at hl 0 rfl) ?_
      refine g_get (C := RX9) (T := TX9) (N := 20) (ci := 9) (index := 64) hx hb hts in_X9_taxOf_9 hown hK hP 0 11 rfl rfl (by decide) (List.mem_of_getElem? (i := 1) rfl) rfl dX9_taxOf_14 ?_
      refine lv_bipush (v := 13) hx hb dX9_taxOf_17 (by decide) ?_
      refine g_iald hx hb hK hP 2 0 rfl rfl 13 (rfl) (by omega) (by omega) dX9_taxOf_19 ?_
      rw [show (Nw 13 : Int32) = nI ns from h13]
      refine lv_icmp_ge (tgt := 107) hx hb dX9_taxOf_20 (by decide) (fun c20 => ?_) (fun c20 => ?_)
      · have hie : i = ns := by have q := ge_nI c20 (by omega) (by omega); omega
        refine lv_aload_n hx hb dX9_taxOf_107 rfl (lv_at hl 0 rfl) ?_
        refine g_get (C := RX9) (T := TX9) (N := 20) (ci := 9) (index := 64) hx hb hts in_X9_taxOf_9 hown hK hP 0 11 rfl rfl (by decide) (List.mem_of_getElem? (i := 1) rfl) rfl dX9_taxOf_108 ?_
        refine lv_bipush (v := 22) hx hb dX9_taxOf_111 (by decide) ?_
        refine g_iald hx hb hK hP 2 0 rfl rfl 22 (rfl) (by omega) (by omega) dX9_taxOf_113 ?_
        refine lv_if_le (tgt := 133) hx hb dX9_taxOf_114 (by decide) (fun c114 => ?_) (fun c114 => ?_)
        · refine lv_lload_n hx hb dX9_taxOf_133 rfl (lv_at hl 2 rfl) ?_
          refine lv_ldc2 (v := 100) hx hb hown (hts (.constantLong RX9 132 (100)) (List.mem_of_getElem? (i := 2) rfl)) dX9_taxOf_134 ?_
          refine lv_ldiv hx hb dX9_taxOf_137 (by decide) ?_
          refine lv_l2i (v := ((tsM (evF Nw 13) (odF Nw 13) x i).1 / 100).toInt32) hx hb dX9_taxOf_138 rfl ?_
          exact hret _ _ ls (by rw [hie]; simp [taxM, c20, c114]) dX9_taxOf_139
        · refine lv_lload_n hx hb dX9_taxOf_117 rfl (lv_at hl 2 rfl) ?_
          refine lv_lload hx hb dX9_taxOf_118 (lv_at hl 3 rfl) ?_
          refine lv_aload_n hx hb dX9_taxOf_120 rfl (lv_at hl 0 rfl) ?_
          refine g_get (C := RX9) (T := TX9) (N := 20) (ci := 9) (index := 64) hx hb hts in_X9_taxOf_9 hown hK hP 0 11 rfl rfl (by decide) (List.mem_of_getElem? (i := 1) rfl) rfl dX9_taxOf_121 ?_
          refine lv_bipush (v := 22) hx hb dX9_taxOf_124 (by decide) ?_
          refine g_iald hx hb hK hP 2 0 rfl rfl 22 (rfl) (by omega) (by omega) dX9_taxOf_126 ?_
          refine lv_iconst (v := 1) hx hb dX9_taxOf_127 (by decide) ?_
          refine lv_isub hx hb dX9_taxOf_128 ?_
          refine lv_i2l (v := ((Nw 22) - 1).toInt64) hx hb dX9_taxOf_129 rfl ?_
          refine lv_lmul hx hb dX9_taxOf_130 ?_
          refine lv_ladd hx hb dX9_taxOf_131 ?_
          refine lv_lstore_n (lv' := [(3, .long ((tsM (evF Nw 13) (odF Nw 13) x i).1 + ((tsM (evF Nw 13) (odF Nw 13) x i).2.1 * (((Nw 22) - 1).toInt64)))), (0, .ref mo), (1, .long x), (5, .long (tsM (evF Nw 13) (odF Nw 13) x i).2.1), (7, .long (tsM (evF Nw 13) (odF Nw 13) x i).2.2), (9, .int (nI i))]) hx hb dX9_taxOf_132 rfl hl (by decide) rfl (fun ls hl => ?_)
          refine lv_lload_n hx hb dX9_taxOf_133 rfl (lv_at hl 0 rfl) ?_
          refine lv_ldc2 (v := 100) hx hb hown (hts (.constantLong RX9 132 (100)) (List.mem_of_getElem? (i := 2) rfl)) dX9_taxOf_134 ?_
          refine lv_ldiv hx hb dX9_taxOf_137 (by decide) ?_
          refine lv_l2i (v := (((tsM (evF Nw 13) (odF Nw 13) x i).1 + ((tsM (evF Nw 13) (odF Nw 13) x i).2.1 * (((Nw 22) - 1).toInt64))) / 100).toInt32) hx hb dX9_taxOf_138 rfl ?_
          exact hret _ _ ls (by rw [hie]; simp [taxM, c20, c114]) dX9_taxOf_139
      · have hlt : i < ns := lt_nI c20 (by omega) (by omega)
        refine lv_aload_n hx hb dX9_taxOf_23 rfl (lv_at hl 0 rfl) ?_
        refine g_get (C := RX9) (T := TX9) (N := 20) (ci := 9) (index := 64) hx hb hts in_X9_taxOf_9 hown hK hP 0 11 rfl rfl (by decide) (List.mem_of_getElem? (i := 1) rfl) rfl dX9_taxOf_24 ?_
        refine lv_bipush (v := 14) hx hb dX9_taxOf_27 (by decide) ?_
        refine lv_iconst (v := 2) hx hb dX9_taxOf_29 (by decide) ?_
        refine lv_iload hx hb dX9_taxOf_30 (lv_at hl 5 rfl) ?_
        refine lv_imul hx hb dX9_taxOf_32 ?_
        refine lv_iadd hx hb dX9_taxOf_33 ?_
        refine g_iald hx hb hK hP 2 0 rfl rfl (14 + (2 * i)) (nx_a (rfl) (nx_m (rfl) (rfl))) (by omega) (by omega) dX9_taxOf_34 ?_
        rw [show (Nw (14 + (2 * i)) : Int32) = evF Nw 13 i from rfl]
        refine lv_i2l (v := (evF Nw 13 i).toInt64) hx hb dX9_taxOf_35 rfl ?_
        refine lv_lload hx hb dX9_taxOf_36 (lv_at hl 4 rfl) ?_
        refine lv_lsub hx hb dX9_taxOf_38 ?_
        refine lv_lstore (lv' := [(10, .long (((evF Nw 13 i).toInt64) - (tsM (evF Nw 13) (odF Nw 13) x i).2.2)), (0, .ref mo), (1, .long x), (3, .long (tsM (evF Nw 13) (odF Nw 13) x i).1), (5, .long (tsM (evF Nw 13) (odF Nw 13) x i).2.1), (7, .long (tsM (evF Nw 13) (odF Nw 13) x i).2.2), (9, .int (nI i))]) hx hb dX9_taxOf_39 hl (by decide) rfl (fun ls hl => ?_)
        refine lv_lload hx hb dX9_taxOf_41 (lv_at hl 4 rfl) ?_
        refine lv_lload hx hb dX9_taxOf_43 (lv_at hl 0 rfl) ?_
        refine W.lcmp hx hb dX9_taxOf_45 ?_
        refine lv_if_ge (tgt := 54) hx hb dX9_taxOf_46 (by decide) (fun c46 => ?_) (fun c46 => ?_)
        · refine lv_lload hx hb dX9_taxOf_54 (lv_at hl 0 rfl) ?_
          refine lv_lstore (lv' := [(12, .long (((evF Nw 13 i).toInt64) - (tsM (evF Nw 13) (odF Nw 13) x i).2.2)), (10, .long (((evF Nw 13 i).toInt64) - (tsM (evF Nw 13) (odF Nw 13) x i).2.2)), (0, .ref mo), (1, .long x), (3, .long (tsM (evF Nw 13) (odF Nw 13) x i).1), (5, .long (tsM (evF Nw 13) (odF Nw 13) x i).2.1), (7, .long (tsM (evF Nw 13) (odF Nw 13) x i).2.2), (9, .int (nI i))]) hx hb dX9_taxOf_56 hl (by decide) rfl (fun ls hl => ?_)
          refine lv_lload_n hx hb dX9_taxOf_58 rfl (lv_at hl 4 rfl) ?_
          refine lv_lload hx hb dX9_taxOf_59 (lv_at hl 0 rfl) ?_
          refine lv_aload_n hx hb dX9_taxOf_61 rfl (lv_at hl 2 rfl) ?_
          refine g_get (C := RX9) (T := TX9) (N := 20) (ci := 9) (index := 64) hx hb hts in_X9_taxOf_9 hown hK hP 0 11 rfl rfl (by decide) (List.mem_of_getElem? (i := 1) rfl) rfl dX9_taxOf_62 ?_
          refine lv_bipush (v := 14) hx hb dX9_taxOf_65 (by decide) ?_
          refine lv_iconst (v := 2) hx hb dX9_taxOf_67 (by decide) ?_
          refine lv_iload hx hb dX9_taxOf_68 (lv_at hl 7 rfl) ?_
          refine lv_imul hx hb dX9_taxOf_70 ?_
          refine lv_iadd hx hb dX9_taxOf_71 ?_
          refine lv_iconst (v := 1) hx hb dX9_taxOf_72 (by decide) ?_
          refine lv_iadd hx hb dX9_taxOf_73 ?_
          refine g_iald hx hb hK hP 2 0 rfl rfl ((14 + (2 * i)) + 1) (nx_a (nx_a (rfl) (nx_m (rfl) (rfl))) (rfl)) (by omega) (by omega) dX9_taxOf_74 ?_
          rw [show (Nw ((14 + (2 * i)) + 1) : Int32) = odF Nw 13 i from congrArg Nw (show 14 + 2 * i + 1 = 13 + 2 + 2 * i by omega)]
          refine lv_i2l (v := (odF Nw 13 i).toInt64) hx hb dX9_taxOf_75 rfl ?_
          refine lv_lmul hx hb dX9_taxOf_76 ?_
          refine lv_ladd hx hb dX9_taxOf_77 ?_
          refine lv_lstore_n (lv' := [(3, .long ((tsM (evF Nw 13) (odF Nw 13) x i).1 + ((((evF Nw 13 i).toInt64) - (tsM (evF Nw 13) (odF Nw 13) x i).2.2) * ((odF Nw 13 i).toInt64)))), (12, .long (((evF Nw 13 i).toInt64) - (tsM (evF Nw 13) (odF Nw 13) x i).2.2)), (10, .long (((evF Nw 13 i).toInt64) - (tsM (evF Nw 13) (odF Nw 13) x i).2.2)), (0, .ref mo), (1, .long x), (5, .long (tsM (evF Nw 13) (odF Nw 13) x i).2.1), (7, .long (tsM (evF Nw 13) (odF Nw 13) x i).2.2), (9, .int (nI i))]) hx hb dX9_taxOf_78 rfl hl (by decide) rfl (fun ls hl => ?_)
          refine lv_lload hx hb dX9_taxOf_79 (lv_at hl 5 rfl) ?_
          refine lv_lload hx hb dX9_taxOf_81 (lv_at hl 1 rfl) ?_
          refine lv_lsub hx hb dX9_taxOf_83 ?_
          refine lv_lstore (lv' := [(5, .long ((tsM (evF Nw 13) (odF Nw 13) x i).2.1 - (((evF Nw 13 i).toInt64) - (tsM (evF Nw 13) (odF Nw 13) x i).2.2))), (3, .long ((tsM (evF Nw 13) (odF Nw 13) x i).1 + ((((evF Nw 13 i).toInt64) - (tsM (evF Nw 13) (odF Nw 13) x i).2.2) * ((odF Nw 13 i).toInt64)))), (12, .long (((evF Nw 13 i).toInt64) - (tsM (evF Nw 13) (odF Nw 13) x i).2.2)), (10, .long (((evF Nw 13 i).toInt64) - (tsM (evF Nw 13) (odF Nw 13) x i).2.2)), (0, .ref mo), (1, .long x), (7, .long (tsM (evF Nw 13) (odF Nw 13) x i).2.2), (9, .int (nI i))]) hx hb dX9_taxOf_84 hl (by decide) rfl (fun ls hl => ?_)
          refine lv_aload_n hx hb dX9_taxOf_86 rfl (lv_at hl 4 rfl) ?_
          refine g_get (C := RX9) (T := TX9) (N := 20) (ci := 9) (index := 64) hx hb hts in_X9_taxOf_9 hown hK hP 0 11 rfl rfl (by decide) (List.mem_of_getElem? (i := 1) rfl) rfl dX9_taxOf_87 ?_
          refine lv_bipush (v := 14) hx hb dX9_taxOf_90 (by decide) ?_
          refine lv_iconst (v := 2) hx hb dX9_taxOf_92 (by decide) ?_
          refine lv_iload hx hb dX9_taxOf_93 (lv_at hl 7 rfl) ?_
          refine lv_imul hx hb dX9_taxOf_95 ?_
          refine lv_iadd hx hb dX9_taxOf_96 ?_
          refine g_iald hx hb hK hP 2 0 rfl rfl (14 + (2 * i)) (nx_a (rfl) (nx_m (rfl) (rfl))) (by omega) (by omega) dX9_taxOf_97 ?_
          rw [show (Nw (14 + (2 * i)) : Int32) = evF Nw 13 i from rfl]
          refine lv_i2l (v := (evF Nw 13 i).toInt64) hx hb dX9_taxOf_98 rfl ?_
          refine lv_lstore (lv' := [(7, .long ((evF Nw 13 i).toInt64)), (5, .long ((tsM (evF Nw 13) (odF Nw 13) x i).2.1 - (((evF Nw 13 i).toInt64) - (tsM (evF Nw 13) (odF Nw 13) x i).2.2))), (3, .long ((tsM (evF Nw 13) (odF Nw 13) x i).1 + ((((evF Nw 13 i).toInt64) - (tsM (evF Nw 13) (odF Nw 13) x i).2.2) * ((odF Nw 13 i).toInt64)))), (12, .long (((evF Nw 13 i).toInt64) - (tsM (evF Nw 13) (odF Nw 13) x i).2.2)), (10, .long (((evF Nw 13 i).toInt64) - (tsM (evF Nw 13) (odF Nw 13) x i).2.2)), (0, .ref mo), (1, .long x), (9, .int (nI i))]) hx hb dX9_taxOf_99 hl (by decide) rfl (fun ls hl => ?_)
          refine lv_iinc (v := nI (i + 1)) (lv' := [(9, .int (nI (i + 1))), (7, .long ((evF Nw 13 i).toInt64)), (5, .long ((tsM (evF Nw 13) (odF Nw 13) x i).2.1 - (((evF Nw 13 i).toInt64) - (tsM (evF Nw 13) (odF Nw 13) x i).2.2))), (3, .long ((tsM (evF Nw 13) (odF Nw 13) x i).1 + ((((evF Nw 13 i).toInt64) - (tsM (evF Nw 13) (odF Nw 13) x i).2.2) * ((odF Nw 13 i).toInt64)))), (12, .long (((evF Nw 13 i).toInt64) - (tsM (evF Nw 13) (odF Nw 13) x i).2.2)), (10, .long (((evF Nw 13 i).toInt64) - (tsM (evF Nw 13) (odF Nw 13) x i).2.2)), (0, .ref mo), (1, .long x)]) hx hb dX9_taxOf_101 hl (k := 7) rfl (nI_add _ 1) (by decide) rfl (fun ls hl => ?_)
          refine lv_goto (tgt := 11) hx hb dX9_taxOf_104 (by decide) ?_
          exact ih11 (i + 1) (by omega) _ _ _ _ (by omega) (by simp only [tsM]; simp [c20, c46]) (by simp only [tsM]; simp [c20, c46]) (rfl) (rfl) ls (lv_sub hl [6, 7, 3, 2, 1, 0] rfl)
        · refine lv_lload hx hb dX9_taxOf_49 (lv_at hl 4 rfl) ?_
          refine lv_goto (tgt := 56) hx hb dX9_taxOf_51 (by decide) ?_
          refine lv_lstore (lv' := [(12, .long (tsM (evF Nw 13) (odF Nw 13) x i).2.1), (10, .long (((evF Nw 13 i).toInt64) - (tsM (evF Nw 13) (odF Nw 13) x i).2.2)), (0, .ref mo), (1, .long x), (3, .long (tsM (evF Nw 13) (odF Nw 13) x i).1), (5, .long (tsM (evF Nw 13) (odF Nw 13) x i).2.1), (7, .long (tsM (evF Nw 13) (odF Nw 13) x i).2.2), (9, .int (nI i))]) hx hb dX9_taxOf_56 hl (by decide) rfl (fun ls hl => ?_)
          refine lv_lload_n hx hb dX9_taxOf_58 rfl (lv_at hl 4 rfl) ?_
          refine lv_lload hx hb dX9_taxOf_59 (lv_at hl 0 rfl) ?_
          refine lv_aload_n hx hb dX9_taxOf_61 rfl (lv_at hl 2 rfl) ?_
          refine g_get (C := RX9) (T := TX9) (N := 20) (ci := 9) (index := 64) hx hb hts in_X9_taxOf_9 hown hK hP 0 11 rfl rfl (by decide) (List.mem_of_getElem? (i := 1) rfl) rfl dX9_taxOf_62 ?_
          refine lv_bipush (v := 14) hx hb dX9_taxOf_65 (by decide) ?_
          refine lv_iconst (v := 2) hx hb dX9_taxOf_67 (by decide) ?_
          refine lv_iload hx hb dX9_taxOf_68 (lv_at hl 7 rfl) ?_
          refine lv_imul hx hb dX9_taxOf_70 ?_
          refine lv_iadd hx hb dX9_taxOf_71 ?_
          refine lv_iconst (v := 1) hx hb dX9_taxOf_72 (by decide) ?_
          refine lv_iadd hx hb dX9_taxOf_73 ?_
          refine g_iald hx hb hK hP 2 0 rfl rfl ((14 + (2 * i)) + 1) (nx_a (nx_a (rfl) (nx_m (rfl) (rfl))) (rfl)) (by omega) (by omega) dX9_taxOf_74 ?_
          rw [show (Nw ((14 + (2 * i)) + 1) : Int32) = odF Nw 13 i from congrArg Nw (show 14 + 2 * i + 1 = 13 + 2 + 2 * i by omega)]
          refine lv_i2l (v := (odF Nw 13 i).toInt64) hx hb dX9_taxOf_75 rfl ?_
          refine lv_lmul hx hb dX9_taxOf_76 ?_
          refine lv_ladd hx hb dX9_taxOf_77 ?_
          refine lv_lstore_n (lv' := [(3, .long ((tsM (evF Nw 13) (odF Nw 13) x i).1 + ((tsM (evF Nw 13) (odF Nw 13) x i).2.1 * ((odF Nw 13 i).toInt64)))), (12, .long (tsM (evF Nw 13) (odF Nw 13) x i).2.1), (10, .long (((evF Nw 13 i).toInt64) - (tsM (evF Nw 13) (odF Nw 13) x i).2.2)), (0, .ref mo), (1, .long x), (5, .long (tsM (evF Nw 13) (odF Nw 13) x i).2.1), (7, .long (tsM (evF Nw 13) (odF Nw 13) x i).2.2), (9, .int (nI i))]) hx hb dX9_taxOf_78 rfl hl (by decide) rfl (fun ls hl => ?_)
          refine lv_lload hx hb dX9_taxOf_79 (lv_at hl 5 rfl) ?_
          refine lv_lload hx hb dX9_taxOf_81 (lv_at hl 1 rfl) ?_
          refine lv_lsub hx hb dX9_taxOf_83 ?_
          refine lv_lstore (lv' := [(5, .long ((tsM (evF Nw 13) (odF Nw 13) x i).2.1 - (tsM (evF Nw 13) (odF Nw 13) x i).2.1)), (3, .long ((tsM (evF Nw 13) (odF Nw 13) x i).1 + ((tsM (evF Nw 13) (odF Nw 13) x i).2.1 * ((odF Nw 13 i).toInt64)))), (12, .long (tsM (evF Nw 13) (odF Nw 13) x i).2.1), (10, .long (((evF Nw 13 i).toInt64) - (tsM (evF Nw 13) (odF Nw 13) x i).2.2)), (0, .ref mo), (1, .long x), (7, .long (tsM (evF Nw 13) (odF Nw 13) x i).2.2), (9, .int (nI i))]) hx hb dX9_taxOf_84 hl (by decide) rfl (fun ls hl => ?_)
          refine lv_aload_n hx hb dX9_taxOf_86 rfl (lv_at hl 4 rfl) ?_
          refine g_get (C := RX9) (T := TX9) (N := 20) (ci := 9) (index := 64) hx hb hts in_X9_taxOf_9 hown hK hP 0 11 rfl rfl (by decide) (List.mem_of_getElem? (i := 1) rfl) rfl dX9_taxOf_87 ?_
          refine lv_bipush (v := 14) hx hb dX9_taxOf_90 (by decide) ?_
          refine lv_iconst (v := 2) hx hb dX9_taxOf_92 (by decide) ?_
          refine lv_iload hx hb dX9_taxOf_93 (lv_at hl 7 rfl) ?_
          refine lv_imul hx hb dX9_taxOf_95 ?_
          refine lv_iadd hx hb dX9_taxOf_96 ?_
          refine g_iald hx hb hK hP 2 0 rfl rfl (14 + (2 * i)) (nx_a (rfl) (nx_m (rfl) (rfl))) (by omega) (by omega) dX9_taxOf_97 ?_
          rw [show (Nw (14 + (2 * i)) : Int32) = evF Nw 13 i from rfl]
          refine lv_i2l (v := (evF Nw 13 i).toInt64) hx hb dX9_taxOf_98 rfl ?_
          refine lv_lstore (lv' := [(7, .long ((evF Nw 13 i).toInt64)), (5, .long ((tsM (evF Nw 13) (odF Nw 13) x i).2.1 - (tsM (evF Nw 13) (odF Nw 13) x i).2.1)), (3, .long ((tsM (evF Nw 13) (odF Nw 13) x i).1 + ((tsM (evF Nw 13) (odF Nw 13) x i).2.1 * ((odF Nw 13 i).toInt64)))), (12, .long (tsM (evF Nw 13) (odF Nw 13) x i).2.1), (10, .long (((evF Nw 13 i).toInt64) - (tsM (evF Nw 13) (odF Nw 13) x i).2.2)), (0, .ref mo), (1, .long x), (9, .int (nI i))]) hx hb dX9_taxOf_99 hl (by decide) rfl (fun ls hl => ?_)
          refine lv_iinc (v := nI (i + 1)) (lv' := [(9, .int (nI (i + 1))), (7, .long ((evF Nw 13 i).toInt64)), (5, .long ((tsM (evF Nw 13) (odF Nw 13) x i).2.1 - (tsM (evF Nw 13) (odF Nw 13) x i).2.1)), (3, .long ((tsM (evF Nw 13) (odF Nw 13) x i).1 + ((tsM (evF Nw 13) (odF Nw 13) x i).2.1 * ((odF Nw 13 i).toInt64)))), (12, .long (tsM (evF Nw 13) (odF Nw 13) x i).2.1), (10, .long (((evF Nw 13 i).toInt64) - (tsM (evF Nw 13) (odF Nw 13) x i).2.2)), (0, .ref mo), (1, .long x)]) hx hb dX9_taxOf_101 hl (k := 7) rfl (nI_add _ 1) (by decide) rfl (fun ls hl => ?_)
          refine lv_goto (tgt := 11) hx hb dX9_taxOf_104 (by decide) ?_
          exact ih11 (i + 1) (by omega) _ _ _ _ (by omega) (by simp only [tsM]; simp [c20, c46]) (by simp only [tsM]; simp [c20, c46]) (rfl) (rfl) ls (lv_sub hl [6, 7, 3, 2, 1, 0] rfl)
  exact L11 (ns - 0 + 1) 0 (by omega) _ _ _ _ (Nat.lt_succ_self _) (rfl) (rfl) (rfl) (nI_0.symm) ls (lv_sub hl [4, 5, 3, 2, 1, 0] rfl)

theorem in_X9_yearly_9 : ∀ w ∈ wsX90, w ∈ wsX9_yearly := fun _ h => List.mem_cons_of_mem _ (List.mem_append_right _ (h))
set_option maxHeartbeats 4000000 in
set_option maxRecDepth 100000 in
theorem kX9_yearly (l : Launch) (D : va_G) (cI cB : ClassId) (mo q1 q2 q3 q4 q5 q6 q7 q8 : Nat) (th tn sz tt fm so nu fau plc : Int32) (wd : Int64) (sm rm : Int32) (Tp Nw Rr Sn In Pd Rt Rw : Nat → Int32) (ns nr ni np nb : Nat) (p : Nat) (hcn : cnt Nw ns nr ni np nb) (hp : p < 4) (hcut : 1 ≤ Nw (7 + p) + 1) : Rd l D (TY cI cB) yX9_yearly wsX9_yearly 1 24 [.ref mo, .int (nI p)] [(mo, .inr (9, [.int th, .ref q1, .int tn, .int sz, .int tt, .int fm, .int so, .int nu, .int fau, .int plc, .long wd, .ref q2, .ref q3, .ref q4, .int sm, .ref q5, .ref q6, .ref q7, .ref q8, .int rm])), (q1, .inl (cI, 840, .inl Tp)), (q2, .inl (cI, 240, .inl Nw)), (q3, .inl (cI, 240, .inl Rr)), (q4, .inl (cI, 2880, .inl Sn)), (q5, .inl (cI, 4, .inl In)), (q6, .inl (cI, 500, .inl Pd)), (q7, .inl (cI, 500, .inl Rt)), (q8, .inl (cI, 10000, .inl Rw))] (yrM Nw ni p) := by
  refine rd_i (cc := cX9_yearly) (maxL := 2) (by decide) rfl (Nat.le_of_ble_eq_true rfl) ?_
  intro p_ e_ s_ m_ ar_ be_ me_ co_ ls Q_ hx hb hml hown hts hP hK hl hret
  have hown : s_.vm.findClass RX9 = some m_.cls := hown
  have hl : lv_has ls 2 [(0, .ref mo), (1, .int (nI p))] := hl
  refine lv_aload_n hx hb dX9_yearly_0 rfl (lv_at hl 0 rfl) ?_
  refine lv_bipush (v := 36) hx hb dX9_yearly_1 (by decide) ?_
  refine lv_aload_n hx hb dX9_yearly_3 rfl (lv_at hl 0 rfl) ?_
  refine g_get (C := RX9) (T := TX9) (N := 20) (ci := 9) (index := 64) hx hb hts in_X9_yearly_9 hown hK hP 0 11 rfl rfl (by decide) (List.mem_of_getElem? (i := 1) rfl) rfl dX9_yearly_4 ?_
  refine lv_bipush (v := 7) hx hb dX9_yearly_7 (by decide) ?_
  refine lv_iload_n hx hb dX9_yearly_9 rfl (lv_at hl 1 rfl) ?_
  refine lv_iadd hx hb dX9_yearly_10 ?_
  refine g_iald hx hb hK hP 2 0 rfl rfl (7 + p) (nx_a (rfl) (rfl)) (by omega) (by omega) dX9_yearly_11 ?_
  refine rd_V (As := [.int 36, .int (Nw (7 + p))]) (rest := []) (ci := 9) (kX9_upTo l D cI cB mo q1 q2 q3 q4 q5 q6 q7 q8 th tn sz tt fm so nu fau plc wd sm rm Tp Nw Rr Sn In Pd Rt Rw 36 ni (Nw (7 + p)) (hcn.2.2.1.1) (by have := hcn.2.2.1.2; omega)) ⟨hx, hb, hml, hown, hts⟩ (cwV 2 hts gX9_yearly_X9_upTo rfl rfl rfl (by decide +kernel) ⟨Nat.le_of_ble_eq_true rfl, Nat.le_of_ble_eq_true rfl⟩) hK hP [0, 1, 2, 3, 4, 5, 6, 7, 8] rfl 0 rfl rfl rfl rfl hl.1 (Nat.le_of_ble_eq_true rfl) dX9_yearly_12 ⟨Nat.le_refl _, Nat.le_refl _⟩ ?_
  refine lv_i2l (v := (upM Nw 36 (Nw (7 + p)) ni).toInt64) hx hb dX9_yearly_15 rfl ?_
  refine lv_ldc2 (v := 365) hx hb hown (hts (.constantLong RX9 134 (365)) (List.mem_of_getElem? (i := 2) rfl)) dX9_yearly_16 ?_
  refine lv_lmul hx hb dX9_yearly_19 ?_
  refine lv_aload_n hx hb dX9_yearly_20 rfl (lv_at hl 0 rfl) ?_
  refine g_get (C := RX9) (T := TX9) (N := 20) (ci := 9) (index := 64) hx hb hts in_X9_yearly_9 hown hK hP 0 11 rfl rfl (by decide) (List.mem_of_getElem? (i := 1) rfl) rfl dX9_yearly_21 ?_
  refine lv_bipush (v := 7) hx hb dX9_yearly_24 (by decide) ?_
  refine lv_iload_n hx hb dX9_yearly_26 rfl (lv_at hl 1 rfl) ?_
  refine lv_iadd hx hb dX9_yearly_27 ?_
  refine g_iald hx hb hK hP 2 0 rfl rfl (7 + p) (nx_a (rfl) (rfl)) (by omega) (by omega) dX9_yearly_28 ?_
  refine lv_iconst (v := 1) hx hb dX9_yearly_29 (by decide) ?_
  refine lv_iadd hx hb dX9_yearly_30 ?_
  refine lv_i2l (v := ((Nw (7 + p)) + 1).toInt64) hx hb dX9_yearly_31 rfl ?_
  refine lv_ldiv hx hb dX9_yearly_32 (i64_ne0 hcut) ?_
  refine lv_l2i (v := ((((upM Nw 36 (Nw (7 + p)) ni).toInt64) * 365) / (((Nw (7 + p)) + 1).toInt64)).toInt32) hx hb dX9_yearly_33 rfl ?_
  exact hret _ _ ls (rfl) dX9_yearly_34

theorem in_X9_sumBy_9 : ∀ w ∈ wsX90, w ∈ wsX9_sumBy := fun _ h => List.mem_cons_of_mem _ (List.mem_append_right _ (h))
set_option maxHeartbeats 4000000 in
set_option maxRecDepth 100000 in
theorem kX9_sumBy (l : Launch) (D : va_G) (cI cB : ClassId) (mo q1 q2 q3 q4 q5 q6 q7 q8 : Nat) (th tn sz tt fm so nu fau plc : Int32) (wd : Int64) (sm rm : Int32) (Tp Nw Rr Sn In Pd Rt Rw : Nat → Int32) (ns nr ni np nb : Nat) (r : Int32) (p : Nat) (hcn : cnt Nw ns nr ni np nb) (hp : p < 4) (hcut : 1 ≤ Nw (7 + p) + 1) : Rd l D (TY cI cB) yX9_sumBy wsX9_sumBy 2 45 [.ref mo, .int r, .int (nI p)] [(mo, .inr (9, [.int th, .ref q1, .int tn, .int sz, .int tt, .int fm, .int so, .int nu, .int fau, .int plc, .long wd, .ref q2, .ref q3, .ref q4, .int sm, .ref q5, .ref q6, .ref q7, .ref q8, .int rm])), (q1, .inl (cI, 840, .inl Tp)), (q2, .inl (cI, 240, .inl Nw)), (q3, .inl (cI, 240, .inl Rr)), (q4, .inl (cI, 2880, .inl Sn)), (q5, .inl (cI, 4, .inl In)), (q6, .inl (cI, 500, .inl Pd)), (q7, .inl (cI, 500, .inl Rt)), (q8, .inl (cI, 10000, .inl Rw))] (sbM Nw ns ni r p) := by
  refine rd_i (cc := cX9_sumBy) (maxL := 5) (by decide) rfl (Nat.le_of_ble_eq_true rfl) ?_
  intro p_ e_ s_ m_ ar_ be_ me_ co_ ls Q_ hx hb hml hown hts hP hK hl hret
  have hown : s_.vm.findClass RX9 = some m_.cls := hown
  have hl : lv_has ls 5 [(0, .ref mo), (1, .int r), (2, .int (nI p))] := hl
  refine lv_iload_n hx hb dX9_sumBy_0 rfl (lv_at hl 1 rfl) ?_
  refine lv_if_ne (tgt := 17) hx hb dX9_sumBy_1 (by decide) (fun c1 => ?_) (fun c1 => ?_)
  · refine lv_iload_n hx hb dX9_sumBy_17 rfl (lv_at hl 1 rfl) ?_
    refine lv_iconst (v := 1) hx hb dX9_sumBy_18 (by decide) ?_
    refine lv_icmp_ne (tgt := 32) hx hb dX9_sumBy_19 (by decide) (fun c19 => ?_) (fun c19 => ?_)
    · refine lv_aload_n hx hb dX9_sumBy_32 rfl (lv_at hl 0 rfl) ?_
      refine lv_aload_n hx hb dX9_sumBy_33 rfl (lv_at hl 0 rfl) ?_
      refine lv_iload_n hx hb dX9_sumBy_34 rfl (lv_at hl 2 rfl) ?_
      refine rd_V (As := [.int (nI p)]) (rest := [.ref mo]) (ci := 9) (kX9_yearly l D cI cB mo q1 q2 q3 q4 q5 q6 q7 q8 th tn sz tt fm so nu fau plc wd sm rm Tp Nw Rr Sn In Pd Rt Rw ns nr ni np nb p (by assumption) (by assumption) (by assumption)) ⟨hx, hb, hml, hown, hts⟩ (cwV 1 hts gX9_sumBy_X9_yearly rfl rfl rfl (by decide +kernel) ⟨Nat.le_of_ble_eq_true rfl, Nat.le_of_ble_eq_true rfl⟩) hK hP [0, 1, 2, 3, 4, 5, 6, 7, 8] rfl 0 rfl rfl rfl rfl hl.1 (Nat.le_of_ble_eq_true rfl) dX9_sumBy_35 ⟨Nat.le_refl _, Nat.le_refl _⟩ ?_
      refine lv_i2l (v := (yrM Nw ni p).toInt64) hx hb dX9_sumBy_38 rfl ?_
      refine rd_V (As := [.long ((yrM Nw ni p).toInt64)]) (rest := []) (ci := 9) (kX9_taxOf l D cI cB mo q1 q2 q3 q4 q5 q6 q7 q8 th tn sz tt fm so nu fau plc wd sm rm Tp Nw Rr Sn In Pd Rt Rw ns nr ni np nb ((yrM Nw ni p).toInt64) (by assumption)) ⟨hx, hb, hml, hown, hts⟩ (cwV 1 hts gX9_sumBy_X9_taxOf rfl rfl rfl (by decide +kernel) ⟨Nat.le_of_ble_eq_true rfl, Nat.le_of_ble_eq_true rfl⟩) hK hP [0, 1, 2, 3, 4, 5, 6, 7, 8] rfl 0 rfl rfl rfl rfl hl.1 (Nat.le_of_ble_eq_true rfl) dX9_sumBy_39 ⟨Nat.le_refl _, Nat.le_refl _⟩ ?_
      refine lv_i2l (v := (taxM Nw ns ((yrM Nw ni p).toInt64)).toInt64) hx hb dX9_sumBy_42 rfl ?_
      refine lv_lstore_n (lv' := [(3, .long ((taxM Nw ns ((yrM Nw ni p).toInt64)).toInt64)), (0, .ref mo), (1, .int r), (2, .int (nI p))]) hx hb dX9_sumBy_43 rfl hl (by decide) rfl (fun ls hl => ?_)
      refine lv_lload_n hx hb dX9_sumBy_44 rfl (lv_at hl 0 rfl) ?_
      refine lv_aload_n hx hb dX9_sumBy_45 rfl (lv_at hl 1 rfl) ?_
      refine g_get (C := RX9) (T := TX9) (N := 20) (ci := 9) (index := 64) hx hb hts in_X9_sumBy_9 hown hK hP 0 11 rfl rfl (by decide) (List.mem_of_getElem? (i := 1) rfl) rfl dX9_sumBy_46 ?_
      refine lv_bipush (v := 11) hx hb dX9_sumBy_49 (by decide) ?_
      refine lv_iload_n hx hb dX9_sumBy_51 rfl (lv_at hl 2 rfl) ?_
      refine lv_iconst (v := 1) hx hb dX9_sumBy_52 (by decide) ?_
      refine lv_icmp_ne (tgt := 60) hx hb dX9_sumBy_53 (by decide) (fun c53 => ?_) (fun c53 => absurd c53 (c19))
      refine lv_iconst (v := 0) hx hb dX9_sumBy_60 (by decide) ?_
      refine lv_iadd hx hb dX9_sumBy_61 ?_
      rw [show (11 + 0 : Int32) = 11 from by decide]
      refine g_iald hx hb hK hP 2 0 rfl rfl 11 (rfl) (by omega) (by omega) dX9_sumBy_62 ?_
      refine lv_i2l (v := (Nw 11).toInt64) hx hb dX9_sumBy_63 rfl ?_
      refine lv_lmul hx hb dX9_sumBy_64 ?_
      refine lv_iload_n hx hb dX9_sumBy_65 rfl (lv_at hl 3 rfl) ?_
      refine lv_iconst (v := 1) hx hb dX9_sumBy_66 (by decide) ?_
      refine lv_iadd hx hb dX9_sumBy_67 ?_
      refine lv_i2l (v := ((nI p) + 1).toInt64) hx hb dX9_sumBy_68 rfl ?_
      refine lv_lmul hx hb dX9_sumBy_69 ?_
      refine lv_ldc2 (v := 400) hx hb hown (hts (.constantLong RX9 147 (400)) (List.mem_of_getElem? (i := 2) rfl)) dX9_sumBy_70 ?_
      refine lv_ldiv hx hb dX9_sumBy_73 (by decide) ?_
      refine lv_l2i (v := (((((taxM Nw ns ((yrM Nw ni p).toInt64)).toInt64) * ((Nw 11).toInt64)) * (((nI p) + 1).toInt64)) / 400).toInt32) hx hb dX9_sumBy_74 rfl ?_
      exact hret _ _ ls (by simp [sbM, sbB, c1, c19, c53]) dX9_sumBy_75
    · refine lv_aload_n hx hb dX9_sumBy_22 rfl (lv_at hl 0 rfl) ?_
      refine g_get (C := RX9) (T := TX9) (N := 20) (ci := 9) (index := 64) hx hb hts in_X9_sumBy_9 hown hK hP 0 11 rfl rfl (by decide) (List.mem_of_getElem? (i := 1) rfl) rfl dX9_sumBy_23 ?_
      refine lv_iconst (v := 0) hx hb dX9_sumBy_26 (by decide) ?_
      refine g_iald hx hb hK hP 2 0 rfl rfl 0 (rfl) (by omega) (by omega) dX9_sumBy_27 ?_
      refine lv_i2l (v := (Nw 0).toInt64) hx hb dX9_sumBy_28 rfl ?_
      refine lv_goto (tgt := 43) hx hb dX9_sumBy_29 (by decide) ?_
      refine lv_lstore_n (lv' := [(3, .long ((Nw 0).toInt64)), (0, .ref mo), (1, .int r), (2, .int (nI p))]) hx hb dX9_sumBy_43 rfl hl (by decide) rfl (fun ls hl => ?_)
      refine lv_lload_n hx hb dX9_sumBy_44 rfl (lv_at hl 0 rfl) ?_
      refine lv_aload_n hx hb dX9_sumBy_45 rfl (lv_at hl 1 rfl) ?_
      refine g_get (C := RX9) (T := TX9) (N := 20) (ci := 9) (index := 64) hx hb hts in_X9_sumBy_9 hown hK hP 0 11 rfl rfl (by decide) (List.mem_of_getElem? (i := 1) rfl) rfl dX9_sumBy_46 ?_
      refine lv_bipush (v := 11) hx hb dX9_sumBy_49 (by decide) ?_
      refine lv_iload_n hx hb dX9_sumBy_51 rfl (lv_at hl 2 rfl) ?_
      refine lv_iconst (v := 1) hx hb dX9_sumBy_52 (by decide) ?_
      refine lv_icmp_ne (tgt := 60) hx hb dX9_sumBy_53 (by decide) (fun c53 => absurd c53 (fun q => q c19)) (fun c53 => ?_)
      refine lv_iconst (v := 1) hx hb dX9_sumBy_56 (by decide) ?_
      refine lv_goto (tgt := 61) hx hb dX9_sumBy_57 (by decide) ?_
      refine lv_iadd hx hb dX9_sumBy_61 ?_
      rw [show (11 + 1 : Int32) = 12 from by decide]
      refine g_iald hx hb hK hP 2 0 rfl rfl 12 (rfl) (by omega) (by omega) dX9_sumBy_62 ?_
      refine lv_i2l (v := (Nw 12).toInt64) hx hb dX9_sumBy_63 rfl ?_
      refine lv_lmul hx hb dX9_sumBy_64 ?_
      refine lv_iload_n hx hb dX9_sumBy_65 rfl (lv_at hl 3 rfl) ?_
      refine lv_iconst (v := 1) hx hb dX9_sumBy_66 (by decide) ?_
      refine lv_iadd hx hb dX9_sumBy_67 ?_
      refine lv_i2l (v := ((nI p) + 1).toInt64) hx hb dX9_sumBy_68 rfl ?_
      refine lv_lmul hx hb dX9_sumBy_69 ?_
      refine lv_ldc2 (v := 400) hx hb hown (hts (.constantLong RX9 147 (400)) (List.mem_of_getElem? (i := 2) rfl)) dX9_sumBy_70 ?_
      refine lv_ldiv hx hb dX9_sumBy_73 (by decide) ?_
      refine lv_l2i (v := (((((Nw 0).toInt64) * ((Nw 12).toInt64)) * (((nI p) + 1).toInt64)) / 400).toInt32) hx hb dX9_sumBy_74 rfl ?_
      exact hret _ _ ls (by simp [sbM, sbB, c1, c19, c53]) dX9_sumBy_75
  · refine lv_aload_n hx hb dX9_sumBy_4 rfl (lv_at hl 0 rfl) ?_
    refine lv_aload_n hx hb dX9_sumBy_5 rfl (lv_at hl 0 rfl) ?_
    refine rd_V (As := []) (rest := [.ref mo]) (ci := 9) (kX9_allIncome l D cI cB mo q1 q2 q3 q4 q5 q6 q7 q8 th tn sz tt fm so nu fau plc wd sm rm Tp Nw Rr Sn In Pd Rt Rw ns nr ni np nb (by assumption)) ⟨hx, hb, hml, hown, hts⟩ (cwV 0 hts gX9_sumBy_X9_allIncome rfl rfl rfl (by decide +kernel) ⟨Nat.le_of_ble_eq_true rfl, Nat.le_of_ble_eq_true rfl⟩) hK hP [0, 1, 2, 3, 4, 5, 6, 7, 8] rfl 0 rfl rfl rfl rfl hl.1 (Nat.le_of_ble_eq_true rfl) dX9_sumBy_6 ⟨Nat.le_refl _, Nat.le_refl _⟩ ?_
    refine lv_i2l (v := (upM Nw 36 500 ni).toInt64) hx hb dX9_sumBy_9 rfl ?_
    refine rd_V (As := [.long ((upM Nw 36 500 ni).toInt64)]) (rest := []) (ci := 9) (kX9_taxOf l D cI cB mo q1 q2 q3 q4 q5 q6 q7 q8 th tn sz tt fm so nu fau plc wd sm rm Tp Nw Rr Sn In Pd Rt Rw ns nr ni np nb ((upM Nw 36 500 ni).toInt64) (by assumption)) ⟨hx, hb, hml, hown, hts⟩ (cwV 1 hts gX9_sumBy_X9_taxOf rfl rfl rfl (by decide +kernel) ⟨Nat.le_of_ble_eq_true rfl, Nat.le_of_ble_eq_true rfl⟩) hK hP [0, 1, 2, 3, 4, 5, 6, 7, 8] rfl 0 rfl rfl rfl rfl hl.1 (Nat.le_of_ble_eq_true rfl) dX9_sumBy_10 ⟨Nat.le_refl _, Nat.le_refl _⟩ ?_
    refine lv_i2l (v := (taxM Nw ns ((upM Nw 36 500 ni).toInt64)).toInt64) hx hb dX9_sumBy_13 rfl ?_
    refine lv_goto (tgt := 43) hx hb dX9_sumBy_14 (by decide) ?_
    refine lv_lstore_n (lv' := [(3, .long ((taxM Nw ns ((upM Nw 36 500 ni).toInt64)).toInt64)), (0, .ref mo), (1, .int r), (2, .int (nI p))]) hx hb dX9_sumBy_43 rfl hl (by decide) rfl (fun ls hl => ?_)
    refine lv_lload_n hx hb dX9_sumBy_44 rfl (lv_at hl 0 rfl) ?_
    refine lv_aload_n hx hb dX9_sumBy_45 rfl (lv_at hl 1 rfl) ?_
    refine g_get (C := RX9) (T := TX9) (N := 20) (ci := 9) (index := 64) hx hb hts in_X9_sumBy_9 hown hK hP 0 11 rfl rfl (by decide) (List.mem_of_getElem? (i := 1) rfl) rfl dX9_sumBy_46 ?_
    refine lv_bipush (v := 11) hx hb dX9_sumBy_49 (by decide) ?_
    refine lv_iload_n hx hb dX9_sumBy_51 rfl (lv_at hl 2 rfl) ?_
    refine lv_iconst (v := 1) hx hb dX9_sumBy_52 (by decide) ?_
    refine lv_icmp_ne (tgt := 60) hx hb dX9_sumBy_53 (by decide) (fun c53 => ?_) (fun c53 => absurd c53 (by rw [c1]; decide))
    refine lv_iconst (v := 0) hx hb dX9_sumBy_60 (by decide) ?_
    refine lv_iadd hx hb dX9_sumBy_61 ?_
    rw [show (11 + 0 : Int32) = 11 from by decide]
    refine g_iald hx hb hK hP 2 0 rfl rfl 11 (rfl) (by omega) (by omega) dX9_sumBy_62 ?_
    refine lv_i2l (v := (Nw 11).toInt64) hx hb dX9_sumBy_63 rfl ?_
    refine lv_lmul hx hb dX9_sumBy_64 ?_
    refine lv_iload_n hx hb dX9_sumBy_65 rfl (lv_at hl 3 rfl) ?_
    refine lv_iconst (v := 1) hx hb dX9_sumBy_66 (by decide) ?_
    refine lv_iadd hx hb dX9_sumBy_67 ?_
    refine lv_i2l (v := ((nI p) + 1).toInt64) hx hb dX9_sumBy_68 rfl ?_
    refine lv_lmul hx hb dX9_sumBy_69 ?_
    refine lv_ldc2 (v := 400) hx hb hown (hts (.constantLong RX9 147 (400)) (List.mem_of_getElem? (i := 2) rfl)) dX9_sumBy_70 ?_
    refine lv_ldiv hx hb dX9_sumBy_73 (by decide) ?_
    refine lv_l2i (v := (((((taxM Nw ns ((upM Nw 36 500 ni).toInt64)).toInt64) * ((Nw 11).toInt64)) * (((nI p) + 1).toInt64)) / 400).toInt32) hx hb dX9_sumBy_74 rfl ?_
    exact hret _ _ ls (by simp [sbM, sbB, c1, c53]) dX9_sumBy_75

set_option maxHeartbeats 4000000 in
set_option maxRecDepth 100000 in
theorem kX9_leastRule (l : Launch) (D : va_G) (cI cB : ClassId) (mo q1 q2 q3 q4 q5 q6 q7 q8 : Nat) (th tn sz tt fm so nu fau plc : Int32) (wd : Int64) (sm rm : Int32) (Tp Nw Rr Sn In Pd Rt Rw : Nat → Int32) (ns nr ni np nb : Nat) (p : Nat) (bar : Int32) (hcn : cnt Nw ns nr ni np nb) (hp : p < 4) (hcut : 1 ≤ Nw (7 + p) + 1) : Rd l D (TY cI cB) yX9_leastRule wsX9_leastRule 3 69 [.ref mo, .int (nI p), .int bar] [(mo, .inr (9, [.int th, .ref q1, .int tn, .int sz, .int tt, .int fm, .int so, .int nu, .int fau, .int plc, .long wd, .ref q2, .ref q3, .ref q4, .int sm, .ref q5, .ref q6, .ref q7, .ref q8, .int rm])), (q1, .inl (cI, 840, .inl Tp)), (q2, .inl (cI, 240, .inl Nw)), (q3, .inl (cI, 240, .inl Rr)), (q4, .inl (cI, 2880, .inl Sn)), (q5, .inl (cI, 4, .inl In)), (q6, .inl (cI, 500, .inl Pd)), (q7, .inl (cI, 500, .inl Rt)), (q8, .inl (cI, 10000, .inl Rw))] (chM (fun r => sbM Nw ns ni r p) bar 3) := by
  refine rd_i (cc := cX9_leastRule) (maxL := 5) (by decide) rfl (Nat.le_of_ble_eq_true rfl) ?_
  intro p_ e_ s_ m_ ar_ be_ me_ co_ ls Q_ hx hb hml hown hts hP hK hl hret
  have hown : s_.vm.findClass RX9 = some m_.cls := hown
  have hl : lv_has ls 5 [(0, .ref mo), (1, .int (nI p)), (2, .int bar)] := hl
  refine lv_iconst (v := -1) hx hb dX9_leastRule_0 (by decide) ?_
  refine lv_istore_n (lv' := [(3, .int (-1)), (0, .ref mo), (1, .int (nI p)), (2, .int bar)]) hx hb dX9_leastRule_1 rfl hl (by decide) rfl (fun ls hl => ?_)
  refine lv_iconst (v := 0) hx hb dX9_leastRule_2 (by decide) ?_
  refine lv_istore (lv' := [(4, .int 0), (3, .int (-1)), (0, .ref mo), (1, .int (nI p)), (2, .int bar)]) hx hb dX9_leastRule_3 hl (by decide) rfl (fun ls hl => ?_)
  have L5 : ∀ (nn_ : Nat) (i : Nat) (hi : i ≤ 3) (xx_v3 : Int32) (xx_v4 : Int32), (3 - i) < nn_ → xx_v3 = chM (fun r => sbM Nw ns ni r p) bar i → xx_v4 = nI i → ∀ (ls : Array Slot), lv_has ls 5 [(0, .ref mo), (1, .int (nI p)), (2, .int bar), (3, .int xx_v3), (4, .int xx_v4)] → W p_ l e_ (RM 3 69) s_ m_ ar_ be_ me_ co_ s_.heap [] 0 0 Q_ (F0 m_ 5 ls []) := by
    intro nn_
    induction nn_ with
    | zero => intro i hi xx_v3 xx_v4 hn_; exact absurd hn_ (Nat.not_lt_zero _)
    | succ nn_ ih5 =>
      intro i hi xx_v3 xx_v4 hn_ e_xx_v3 e_xx_v4 ls hl
      subst e_xx_v3 e_xx_v4
      refine lv_iload hx hb dX9_leastRule_5 (lv_at hl 4 rfl) ?_
      refine lv_iconst (v := 3) hx hb dX9_leastRule_7 (by decide) ?_
      refine lv_icmp_ge (tgt := 50) hx hb dX9_leastRule_8 (by decide) (fun c8 => ?_) (fun c8 => ?_)
      · refine lv_iload_n hx hb dX9_leastRule_50 rfl (lv_at hl 3 rfl) ?_
        exact hret _ _ ls (by have q := ge_nI (b := 3) c8 (by omega) (by omega); rw [show i = 3 by omega]) dX9_leastRule_51
      · have hlt : i < 3 := lt_nI (b := 3) c8 (by omega) (by omega)
        refine lv_iload_n hx hb dX9_leastRule_11 rfl (lv_at hl 2 rfl) ?_
        refine lv_iload hx hb dX9_leastRule_12 (lv_at hl 4 rfl) ?_
        refine rd_S (As := [.int bar, .int (nI i)]) (rest := []) (kX9_has l D cI cB bar (nI i) ) ⟨hx, hb, hml, hown, hts⟩ (va_cwS 2 hts gX9_leastRule_X9_has rfl rfl rfl (by decide +kernel) ⟨Nat.le_of_ble_eq_true rfl, Nat.le_of_ble_eq_true rfl⟩) hK hP [] rfl rfl rfl hl.1 (Nat.le_of_ble_eq_true rfl) dX9_leastRule_14 ⟨Nat.le_refl _, Nat.le_refl _⟩ ?_
        refine lv_if_ne (tgt := 44) hx hb dX9_leastRule_17 (by decide) (fun c17 => ?_) (fun c17 => ?_)
        · refine lv_iinc (v := nI (i + 1)) (lv' := [(4, .int (nI (i + 1))), (0, .ref mo), (1, .int (nI p)), (2, .int bar), (3, .int (chM (fun r => sbM Nw ns ni r p) bar i))]) hx hb dX9_leastRule_44 hl (k := 4) rfl (nI_add _ 1) (by decide) rfl (fun ls hl => ?_)
          refine lv_goto (tgt := 5) hx hb dX9_leastRule_47 (by decide) ?_
          exact ih5 (i + 1) (by omega) _ _ (by omega) (by simp [chM, c8, c17]) (rfl) ls (lv_sub hl [1, 2, 3, 4, 0] rfl)
        · refine lv_iload_n hx hb dX9_leastRule_20 rfl (lv_at hl 3 rfl) ?_
          refine lv_iconst (v := -1) hx hb dX9_leastRule_21 (by decide) ?_
          refine lv_icmp_eq (tgt := 41) hx hb dX9_leastRule_22 (by decide) (fun c22 => ?_) (fun c22 => ?_)
          · refine lv_iload hx hb dX9_leastRule_41 (lv_at hl 4 rfl) ?_
            refine lv_istore_n (lv' := [(3, .int (nI i)), (0, .ref mo), (1, .int (nI p)), (2, .int bar), (4, .int (nI i))]) hx hb dX9_leastRule_43 rfl hl (by decide) rfl (fun ls hl => ?_)
            refine lv_iinc (v := nI (i + 1)) (lv' := [(4, .int (nI (i + 1))), (3, .int (nI i)), (0, .ref mo), (1, .int (nI p)), (2, .int bar)]) hx hb dX9_leastRule_44 hl (k := 4) rfl (nI_add _ 1) (by decide) rfl (fun ls hl => ?_)
            refine lv_goto (tgt := 5) hx hb dX9_leastRule_47 (by decide) ?_
            exact ih5 (i + 1) (by omega) _ _ (by omega) (by simp [chM, c8, c17, c22]) (rfl) ls (lv_sub hl [2, 3, 4, 1, 0] rfl)
          · refine lv_aload_n hx hb dX9_leastRule_25 rfl (lv_at hl 0 rfl) ?_
            refine lv_iload hx hb dX9_leastRule_26 (lv_at hl 4 rfl) ?_
            refine lv_iload_n hx hb dX9_leastRule_28 rfl (lv_at hl 1 rfl) ?_
            refine rd_V (As := [.int (nI i), .int (nI p)]) (rest := []) (ci := 9) (kX9_sumBy l D cI cB mo q1 q2 q3 q4 q5 q6 q7 q8 th tn sz tt fm so nu fau plc wd sm rm Tp Nw Rr Sn In Pd Rt Rw ns nr ni np nb (nI i) p (by assumption) (by assumption) (by assumption)) ⟨hx, hb, hml, hown, hts⟩ (cwV 2 hts gX9_leastRule_X9_sumBy rfl rfl rfl (by decide +kernel) ⟨Nat.le_of_ble_eq_true rfl, Nat.le_of_ble_eq_true rfl⟩) hK hP [0, 1, 2, 3, 4, 5, 6, 7, 8] rfl 0 rfl rfl rfl rfl hl.1 (Nat.le_of_ble_eq_true rfl) dX9_leastRule_29 ⟨Nat.le_refl _, Nat.le_refl _⟩ ?_
            refine lv_aload_n hx hb dX9_leastRule_32 rfl (lv_at hl 0 rfl) ?_
            refine lv_iload_n hx hb dX9_leastRule_33 rfl (lv_at hl 3 rfl) ?_
            refine lv_iload_n hx hb dX9_leastRule_34 rfl (lv_at hl 1 rfl) ?_
            refine rd_V (As := [.int (chM (fun r => sbM Nw ns ni r p) bar i), .int (nI p)]) (rest := [.int (sbM Nw ns ni (nI i) p)]) (ci := 9) (kX9_sumBy l D cI cB mo q1 q2 q3 q4 q5 q6 q7 q8 th tn sz tt fm so nu fau plc wd sm rm Tp Nw Rr Sn In Pd Rt Rw ns nr ni np nb (chM (fun r => sbM Nw ns ni r p) bar i) p (by assumption) (by assumption) (by assumption)) ⟨hx, hb, hml, hown, hts⟩ (cwV 2 hts gX9_leastRule_X9_sumBy rfl rfl rfl (by decide +kernel) ⟨Nat.le_of_ble_eq_true rfl, Nat.le_of_ble_eq_true rfl⟩) hK hP [0, 1, 2, 3, 4, 5, 6, 7, 8] rfl 0 rfl rfl rfl rfl hl.1 (Nat.le_of_ble_eq_true rfl) dX9_leastRule_35 ⟨Nat.le_refl _, Nat.le_refl _⟩ ?_
            refine lv_icmp_ge (tgt := 44) hx hb dX9_leastRule_38 (by decide) (fun c38 => ?_) (fun c38 => ?_)
            · refine lv_iinc (v := nI (i + 1)) (lv' := [(4, .int (nI (i + 1))), (0, .ref mo), (1, .int (nI p)), (2, .int bar), (3, .int (chM (fun r => sbM Nw ns ni r p) bar i))]) hx hb dX9_leastRule_44 hl (k := 4) rfl (nI_add _ 1) (by decide) rfl (fun ls hl => ?_)
              refine lv_goto (tgt := 5) hx hb dX9_leastRule_47 (by decide) ?_
              exact ih5 (i + 1) (by omega) _ _ (by omega) (by simp [chM, c8, c17, c22, c38]) (rfl) ls (lv_sub hl [1, 2, 3, 4, 0] rfl)
            · refine lv_iload hx hb dX9_leastRule_41 (lv_at hl 4 rfl) ?_
              refine lv_istore_n (lv' := [(3, .int (nI i)), (0, .ref mo), (1, .int (nI p)), (2, .int bar), (4, .int (nI i))]) hx hb dX9_leastRule_43 rfl hl (by decide) rfl (fun ls hl => ?_)
              refine lv_iinc (v := nI (i + 1)) (lv' := [(4, .int (nI (i + 1))), (3, .int (nI i)), (0, .ref mo), (1, .int (nI p)), (2, .int bar)]) hx hb dX9_leastRule_44 hl (k := 4) rfl (nI_add _ 1) (by decide) rfl (fun ls hl => ?_)
              refine lv_goto (tgt := 5) hx hb dX9_leastRule_47 (by decide) ?_
              exact ih5 (i + 1) (by omega) _ _ (by omega) (by simp [chM, c8, c17, c22, c38]) (rfl) ls (lv_sub hl [2, 3, 4, 1, 0] rfl)
  exact L5 (3 - 0 + 1) 0 (by omega) _ _ (Nat.lt_succ_self _) (rfl) (nI_0.symm) ls (lv_sub hl [2, 3, 4, 1, 0] rfl)

theorem in_X9_laysInstalments_9 : ∀ w ∈ wsX90, w ∈ wsX9_laysInstalments := fun _ h => List.mem_cons_of_mem _ (List.mem_append_right _ (h))
set_option maxHeartbeats 4000000 in
set_option maxRecDepth 100000 in
theorem kX9_laysInstalments (l : Launch) (D : va_G) (cI cB : ClassId) (mo q1 q2 q3 q4 q5 q6 q7 q8 : Nat) (th tn sz tt fm so nu fau plc : Int32) (wd : Int64) (sm rm : Int32) (Tp Nw Rr Sn In Pd Rt Rw : Nat → Int32) (ns nr ni np nb : Nat) (bar : Int32) (hcn : cnt Nw ns nr ni np nb) (hcut : ∀ p, p < 4 → 1 ≤ Nw (7 + p) + 1) : Wr l D (TY cI cB) yX9_laysInstalments wsX9_laysInstalments 4 93 [.ref mo, .int bar] [(mo, .inr (9, [.int th, .ref q1, .int tn, .int sz, .int tt, .int fm, .int so, .int nu, .int fau, .int plc, .long wd, .ref q2, .ref q3, .ref q4, .int sm, .ref q5, .ref q6, .ref q7, .ref q8, .int rm])), (q1, .inl (cI, 840, .inl Tp)), (q2, .inl (cI, 240, .inl Nw)), (q3, .inl (cI, 240, .inl Rr)), (q4, .inl (cI, 2880, .inl Sn)), (q5, .inl (cI, 4, .inl In)), (q6, .inl (cI, 500, .inl Pd)), (q7, .inl (cI, 500, .inl Rt)), (q8, .inl (cI, 10000, .inl Rw))] [(mo, .inr (9, [.int th, .ref q1, .int tn, .int sz, .int tt, .int fm, .int so, .int nu, .int fau, .int plc, .long wd, .ref q2, .ref q3, .ref q4, .int sm, .ref q5, .ref q6, .ref q7, .ref q8, .int rm])), (q1, .inl (cI, 840, .inl Tp)), (q2, .inl (cI, 240, .inl Nw)), (q3, .inl (cI, 240, .inl Rr)), (q4, .inl (cI, 2880, .inl Sn)), (q5, .inl (cI, 4, .inl (ov (inM (lsM Nw ns ni bar)) In 4))), (q6, .inl (cI, 500, .inl Pd)), (q7, .inl (cI, 500, .inl Rt)), (q8, .inl (cI, 10000, .inl Rw))] none := by
  refine wr_v (cc := cX9_laysInstalments) (maxL := 5) (by decide) rfl (Nat.le_of_ble_eq_true rfl) ?_
  intro p_ e_ s_ m_ ar_ be_ me_ co_ ls Q_ A_ hx hb hml hown hts hP hK hD hS hl hret
  have hown : s_.vm.findClass RX9 = some m_.cls := hown
  have hl : lv_has ls 5 [(0, .ref mo), (1, .int bar)] := hl
  refine lv_iconst (v := 0) hx hb dX9_laysInstalments_0 (by decide) ?_
  refine lv_istore_n (lv' := [(2, .int 0), (0, .ref mo), (1, .int bar)]) hx hb dX9_laysInstalments_1 rfl hl (by decide) rfl (fun ls hl => ?_)
  refine lv_iconst (v := 0) hx hb dX9_laysInstalments_2 (by decide) ?_
  refine lv_istore_n (lv' := [(3, .int 0), (2, .int 0), (0, .ref mo), (1, .int bar)]) hx hb dX9_laysInstalments_3 rfl hl (by decide) rfl (fun ls hl => ?_)
  have L4 : ∀ (nn_ : Nat) (i : Nat) (hi : i ≤ 4) (xx_v2 : Int32) (xx_v3 : Int32) (xx_g5 : Nat → Int32), (4 - i) < nn_ → xx_v2 = alM (lsM Nw ns ni bar) i → xx_v3 = nI i → xx_g5 = ov (inM (lsM Nw ns ni bar)) In i → ∀ (H_ : Heap) (lc_ : List Loc), va_P D vwCl [(mo, .inr (9, [.int th, .ref q1, .int tn, .int sz, .int tt, .int fm, .int so, .int nu, .int fau, .int plc, .long wd, .ref q2, .ref q3, .ref q4, .int sm, .ref q5, .ref q6, .ref q7, .ref q8, .int rm])), (q1, .inl (cI, 840, .inl Tp)), (q2, .inl (cI, 240, .inl Nw)), (q3, .inl (cI, 240, .inl Rr)), (q4, .inl (cI, 2880, .inl Sn)), (q5, .inl (cI, 4, .inl xx_g5)), (q6, .inl (cI, 500, .inl Pd)), (q7, .inl (cI, 500, .inl Rt)), (q8, .inl (cI, 10000, .inl Rw))] H_ → va_D A_ [(mo, .inr (9, [.int th, .ref q1, .int tn, .int sz, .int tt, .int fm, .int so, .int nu, .int fau, .int plc, .long wd, .ref q2, .ref q3, .ref q4, .int sm, .ref q5, .ref q6, .ref q7, .ref q8, .int rm])), (q1, .inl (cI, 840, .inl Tp)), (q2, .inl (cI, 240, .inl Nw)), (q3, .inl (cI, 240, .inl Rr)), (q4, .inl (cI, 2880, .inl Sn)), (q5, .inl (cI, 4, .inl xx_g5)), (q6, .inl (cI, 500, .inl Pd)), (q7, .inl (cI, 500, .inl Rt)), (q8, .inl (cI, 10000, .inl Rw))] → va_S A_ s_.heap H_ lc_ → ∀ (ls : Array Slot), lv_has ls 5 [(0, .ref mo), (1, .int bar), (2, .int xx_v2), (3, .int xx_v3)] → W p_ l e_ (RM 4 93) s_ m_ ar_ be_ me_ co_ H_ lc_ 0 0 Q_ (F0 m_ 4 ls []) := by
    intro nn_
    induction nn_ with
    | zero => intro i hi xx_v2 xx_v3 xx_g5 hn_; exact absurd hn_ (Nat.not_lt_zero _)
    | succ nn_ ih4 =>
      intro i hi xx_v2 xx_v3 xx_g5 hn_ e_xx_v2 e_xx_v3 e_xx_g5 H_ lc_ hP hD hS ls hl
      subst e_xx_v2 e_xx_v3 e_xx_g5
      refine lv_iload_n hx hb dX9_laysInstalments_4 rfl (lv_at hl 3 rfl) ?_
      refine lv_iconst (v := 4) hx hb dX9_laysInstalments_5 (by decide) ?_
      refine lv_icmp_ge (tgt := 56) hx hb dX9_laysInstalments_6 (by decide) (fun c6 => ?_) (fun c6 => ?_)
      · exact hret _ _ _ ls hS (by have q := ge_nI (b := 4) c6 (by omega) (by omega); rw [show i = 4 by omega] at hP; exact hP) dX9_laysInstalments_56
      · have hlt : i < 4 := lt_nI (b := 4) c6 (by omega) (by omega)
        refine lv_aload_n hx hb dX9_laysInstalments_9 rfl (lv_at hl 0 rfl) ?_
        refine lv_aload_n hx hb dX9_laysInstalments_10 rfl (lv_at hl 0 rfl) ?_
        refine lv_iload_n hx hb dX9_laysInstalments_11 rfl (lv_at hl 3 rfl) ?_
        refine lv_iload_n hx hb dX9_laysInstalments_12 rfl (lv_at hl 1 rfl) ?_
        refine rd_V (As := [.int (nI i), .int bar]) (rest := [.ref mo]) (ci := 9) (kX9_leastRule l D cI cB mo q1 q2 q3 q4 q5 q6 q7 q8 th tn sz tt fm so nu fau plc wd sm rm Tp Nw Rr Sn (ov (inM (lsM Nw ns ni bar)) In i) Pd Rt Rw ns nr ni np nb i bar (hcn) (hlt) (hcut i hlt)) ⟨hx, hb, hml, hown, hts⟩ (cwV 2 hts gX9_laysInstalments_X9_leastRule rfl rfl rfl (by decide +kernel) ⟨Nat.le_of_ble_eq_true rfl, Nat.le_of_ble_eq_true rfl⟩) hK hP [0, 1, 2, 3, 4, 5, 6, 7, 8] rfl 0 rfl rfl rfl rfl hl.1 (Nat.le_of_ble_eq_true rfl) dX9_laysInstalments_13 ⟨Nat.le_refl _, Nat.le_refl _⟩ ?_
        refine lv_iload_n hx hb dX9_laysInstalments_16 rfl (lv_at hl 3 rfl) ?_
        refine rd_V (As := [.int (chM (fun r => sbM Nw ns ni r i) bar 3), .int (nI i)]) (rest := []) (ci := 9) (kX9_sumBy l D cI cB mo q1 q2 q3 q4 q5 q6 q7 q8 th tn sz tt fm so nu fau plc wd sm rm Tp Nw Rr Sn (ov (inM (lsM Nw ns ni bar)) In i) Pd Rt Rw ns nr ni np nb (chM (fun r => sbM Nw ns ni r i) bar 3) i (hcn) (hlt) (hcut i hlt)) ⟨hx, hb, hml, hown, hts⟩ (cwV 2 hts gX9_laysInstalments_X9_sumBy rfl rfl rfl (by decide +kernel) ⟨Nat.le_of_ble_eq_true rfl, Nat.le_of_ble_eq_true rfl⟩) hK hP [0, 1, 2, 3, 4, 5, 6, 7, 8] rfl 0 rfl rfl rfl rfl hl.1 (Nat.le_of_ble_eq_true rfl) dX9_laysInstalments_17 ⟨Nat.le_refl _, Nat.le_refl _⟩ ?_
        rw [show (sbM Nw ns ni (chM (fun r => sbM Nw ns ni r i) bar 3) i : Int32) = lsM Nw ns ni bar i from rfl]
        refine lv_iload_n hx hb dX9_laysInstalments_20 rfl (lv_at hl 2 rfl) ?_
        refine lv_isub hx hb dX9_laysInstalments_21 ?_
        refine lv_istore (lv' := [(4, .int ((lsM Nw ns ni bar i) - (alM (lsM Nw ns ni bar) i))), (0, .ref mo), (1, .int bar), (2, .int (alM (lsM Nw ns ni bar) i)), (3, .int (nI i))]) hx hb dX9_laysInstalments_22 hl (by decide) rfl (fun ls hl => ?_)
        refine lv_aload_n hx hb dX9_laysInstalments_24 rfl (lv_at hl 1 rfl) ?_
        refine g_get (C := RX9) (T := TX9) (N := 20) (ci := 9) (index := 73) hx hb hts in_X9_laysInstalments_9 hown hK hP 0 15 rfl rfl (by decide) (List.mem_of_getElem? (i := 1) rfl) rfl dX9_laysInstalments_25 ?_
        refine lv_iload_n hx hb dX9_laysInstalments_28 rfl (lv_at hl 4 rfl) ?_
        refine lv_iload hx hb dX9_laysInstalments_29 (lv_at hl 0 rfl) ?_
        refine lv_if_le (tgt := 39) hx hb dX9_laysInstalments_31 (by decide) (fun c31 => ?_) (fun c31 => ?_)
        · refine lv_iconst (v := 0) hx hb dX9_laysInstalments_39 (by decide) ?_
          refine g_iast hx hb hK hP hD hS 5 0 rfl rfl i (rfl) (by omega) (by omega) dX9_laysInstalments_40 (fun H_ lc_ hP hD hS => ?_)
          have hP : va_P D vwCl [(mo, .inr (9, [.int th, .ref q1, .int tn, .int sz, .int tt, .int fm, .int so, .int nu, .int fau, .int plc, .long wd, .ref q2, .ref q3, .ref q4, .int sm, .ref q5, .ref q6, .ref q7, .ref q8, .int rm])), (q1, .inl (cI, 840, .inl Tp)), (q2, .inl (cI, 240, .inl Nw)), (q3, .inl (cI, 240, .inl Rr)), (q4, .inl (cI, 2880, .inl Sn)), (q5, .inl (cI, 4, .inl (upd (ov (inM (lsM Nw ns ni bar)) In i) i 0))), (q6, .inl (cI, 500, .inl Pd)), (q7, .inl (cI, 500, .inl Rt)), (q8, .inl (cI, 10000, .inl Rw))] H_ := hP
          have hD : va_D A_ [(mo, .inr (9, [.int th, .ref q1, .int tn, .int sz, .int tt, .int fm, .int so, .int nu, .int fau, .int plc, .long wd, .ref q2, .ref q3, .ref q4, .int sm, .ref q5, .ref q6, .ref q7, .ref q8, .int rm])), (q1, .inl (cI, 840, .inl Tp)), (q2, .inl (cI, 240, .inl Nw)), (q3, .inl (cI, 240, .inl Rr)), (q4, .inl (cI, 2880, .inl Sn)), (q5, .inl (cI, 4, .inl (upd (ov (inM (lsM Nw ns ni bar)) In i) i 0))), (q6, .inl (cI, 500, .inl Pd)), (q7, .inl (cI, 500, .inl Rt)), (q8, .inl (cI, 10000, .inl Rw))] := hD
          refine lv_iload_n hx hb dX9_laysInstalments_41 rfl (lv_at hl 3 rfl) ?_
          refine lv_aload_n hx hb dX9_laysInstalments_42 rfl (lv_at hl 1 rfl) ?_
          refine g_get (C := RX9) (T := TX9) (N := 20) (ci := 9) (index := 73) hx hb hts in_X9_laysInstalments_9 hown hK hP 0 15 rfl rfl (by decide) (List.mem_of_getElem? (i := 1) rfl) rfl dX9_laysInstalments_43 ?_
          refine lv_iload_n hx hb dX9_laysInstalments_46 rfl (lv_at hl 4 rfl) ?_
          refine g_iald hx hb hK hP 5 0 rfl rfl i (rfl) (by omega) (by omega) dX9_laysInstalments_47 ?_
          refine lv_iadd hx hb dX9_laysInstalments_48 ?_
          refine lv_istore_n (lv' := [(2, .int ((alM (lsM Nw ns ni bar) i) + ((upd (ov (inM (lsM Nw ns ni bar)) In i) i 0) i))), (4, .int ((lsM Nw ns ni bar i) - (alM (lsM Nw ns ni bar) i))), (0, .ref mo), (1, .int bar), (3, .int (nI i))]) hx hb dX9_laysInstalments_49 rfl hl (by decide) rfl (fun ls hl => ?_)
          refine lv_iinc (v := nI (i + 1)) (lv' := [(3, .int (nI (i + 1))), (2, .int ((alM (lsM Nw ns ni bar) i) + ((upd (ov (inM (lsM Nw ns ni bar)) In i) i 0) i))), (4, .int ((lsM Nw ns ni bar i) - (alM (lsM Nw ns ni bar) i))), (0, .ref mo), (1, .int bar)]) hx hb dX9_laysInstalments_50 hl (k := 4) rfl (nI_add _ 1) (by decide) rfl (fun ls hl => ?_)
          refine lv_goto (tgt := 4) hx hb dX9_laysInstalments_53 (by decide) ?_
          exact ih4 (i + 1) (by omega) _ _ _ (by omega) (by simp [alM, posM, upd, c6, c31]) (rfl) (by rw [← ov_s]; simp [inM, posM, c6, c31]) _ _ hP hD hS ls (lv_sub hl [3, 4, 1, 0] rfl)
        · refine lv_iload hx hb dX9_laysInstalments_34 (lv_at hl 0 rfl) ?_
          refine lv_goto (tgt := 40) hx hb dX9_laysInstalments_36 (by decide) ?_
          refine g_iast hx hb hK hP hD hS 5 0 rfl rfl i (rfl) (by omega) (by omega) dX9_laysInstalments_40 (fun H_ lc_ hP hD hS => ?_)
          have hP : va_P D vwCl [(mo, .inr (9, [.int th, .ref q1, .int tn, .int sz, .int tt, .int fm, .int so, .int nu, .int fau, .int plc, .long wd, .ref q2, .ref q3, .ref q4, .int sm, .ref q5, .ref q6, .ref q7, .ref q8, .int rm])), (q1, .inl (cI, 840, .inl Tp)), (q2, .inl (cI, 240, .inl Nw)), (q3, .inl (cI, 240, .inl Rr)), (q4, .inl (cI, 2880, .inl Sn)), (q5, .inl (cI, 4, .inl (upd (ov (inM (lsM Nw ns ni bar)) In i) i ((lsM Nw ns ni bar i) - (alM (lsM Nw ns ni bar) i))))), (q6, .inl (cI, 500, .inl Pd)), (q7, .inl (cI, 500, .inl Rt)), (q8, .inl (cI, 10000, .inl Rw))] H_ := hP
          have hD : va_D A_ [(mo, .inr (9, [.int th, .ref q1, .int tn, .int sz, .int tt, .int fm, .int so, .int nu, .int fau, .int plc, .long wd, .ref q2, .ref q3, .ref q4, .int sm, .ref q5, .ref q6, .ref q7, .ref q8, .int rm])), (q1, .inl (cI, 840, .inl Tp)), (q2, .inl (cI, 240, .inl Nw)), (q3, .inl (cI, 240, .inl Rr)), (q4, .inl (cI, 2880, .inl Sn)), (q5, .inl (cI, 4, .inl (upd (ov (inM (lsM Nw ns ni bar)) In i) i ((lsM Nw ns ni bar i) - (alM (lsM Nw ns ni bar) i))))), (q6, .inl (cI, 500, .inl Pd)), (q7, .inl (cI, 500, .inl Rt)), (q8, .inl (cI, 10000, .inl Rw))] := hD
          refine lv_iload_n hx hb dX9_laysInstalments_41 rfl (lv_at hl 3 rfl) ?_
          refine lv_aload_n hx hb dX9_laysInstalments_42 rfl (lv_at hl 1 rfl) ?_
          refine g_get (C := RX9) (T := TX9) (N := 20) (ci := 9) (index := 73) hx hb hts in_X9_laysInstalments_9 hown hK hP 0 15 rfl rfl (by decide) (List.mem_of_getElem? (i := 1) rfl) rfl dX9_laysInstalments_43 ?_
          refine lv_iload_n hx hb dX9_laysInstalments_46 rfl (lv_at hl 4 rfl) ?_
          refine g_iald hx hb hK hP 5 0 rfl rfl i (rfl) (by omega) (by omega) dX9_laysInstalments_47 ?_
          refine lv_iadd hx hb dX9_laysInstalments_48 ?_
          refine lv_istore_n (lv' := [(2, .int ((alM (lsM Nw ns ni bar) i) + ((upd (ov (inM (lsM Nw ns ni bar)) In i) i ((lsM Nw ns ni bar i) - (alM (lsM Nw ns ni bar) i))) i))), (4, .int ((lsM Nw ns ni bar i) - (alM (lsM Nw ns ni bar) i))), (0, .ref mo), (1, .int bar), (3, .int (nI i))]) hx hb dX9_laysInstalments_49 rfl hl (by decide) rfl (fun ls hl => ?_)
          refine lv_iinc (v := nI (i + 1)) (lv' := [(3, .int (nI (i + 1))), (2, .int ((alM (lsM Nw ns ni bar) i) + ((upd (ov (inM (lsM Nw ns ni bar)) In i) i ((lsM Nw ns ni bar i) - (alM (lsM Nw ns ni bar) i))) i))), (4, .int ((lsM Nw ns ni bar i) - (alM (lsM Nw ns ni bar) i))), (0, .ref mo), (1, .int bar)]) hx hb dX9_laysInstalments_50 hl (k := 4) rfl (nI_add _ 1) (by decide) rfl (fun ls hl => ?_)
          refine lv_goto (tgt := 4) hx hb dX9_laysInstalments_53 (by decide) ?_
          exact ih4 (i + 1) (by omega) _ _ _ (by omega) (by simp [alM, posM, upd, c6, c31]) (rfl) (by rw [← ov_s]; simp [inM, posM, c6, c31]) _ _ hP hD hS ls (lv_sub hl [3, 4, 1, 0] rfl)
  exact L4 (4 - 0 + 1) 0 (by omega) _ _ _ (Nat.lt_succ_self _) (rfl) (nI_0.symm) ((ov_0 _ _).symm) _ _ hP hD hS ls (lv_sub hl [2, 3, 1, 0] rfl)

theorem in_X9_laysInstalments__9 : ∀ w ∈ wsX90, w ∈ wsX9_laysInstalments_ := fun _ h => List.mem_cons_of_mem _ (List.mem_append_right _ (h))
set_option maxHeartbeats 4000000 in
set_option maxRecDepth 100000 in
theorem kX9_laysInstalments_ (l : Launch) (D : va_G) (cI cB : ClassId) (mo q1 q2 q3 q4 q5 q6 q7 q8 : Nat) (th tn sz tt fm so nu fau plc : Int32) (wd : Int64) (sm rm : Int32) (Tp Nw Rr Sn In Pd Rt Rw : Nat → Int32) (ns nr ni np nb : Nat) (hcn : cnt Nw ns nr ni np nb) (hcut : ∀ p, p < 4 → 1 ≤ Nw (7 + p) + 1) : Wr l D (TY cI cB) yX9_laysInstalments_ wsX9_laysInstalments_ 5 117 [.ref mo] [(mo, .inr (9, [.int th, .ref q1, .int tn, .int sz, .int tt, .int fm, .int so, .int nu, .int fau, .int plc, .long wd, .ref q2, .ref q3, .ref q4, .int sm, .ref q5, .ref q6, .ref q7, .ref q8, .int rm])), (q1, .inl (cI, 840, .inl Tp)), (q2, .inl (cI, 240, .inl Nw)), (q3, .inl (cI, 240, .inl Rr)), (q4, .inl (cI, 2880, .inl Sn)), (q5, .inl (cI, 4, .inl In)), (q6, .inl (cI, 500, .inl Pd)), (q7, .inl (cI, 500, .inl Rt)), (q8, .inl (cI, 10000, .inl Rw))] [(mo, .inr (9, [.int th, .ref q1, .int tn, .int sz, .int tt, .int fm, .int so, .int nu, .int fau, .int plc, .long wd, .ref q2, .ref q3, .ref q4, .int sm, .ref q5, .ref q6, .ref q7, .ref q8, .int rm])), (q1, .inl (cI, 840, .inl Tp)), (q2, .inl (cI, 240, .inl Nw)), (q3, .inl (cI, 240, .inl Rr)), (q4, .inl (cI, 2880, .inl Sn)), (q5, .inl (cI, 4, .inl (ov (inM (lsM Nw ns ni (Nw 239))) In 4))), (q6, .inl (cI, 500, .inl Pd)), (q7, .inl (cI, 500, .inl Rt)), (q8, .inl (cI, 10000, .inl Rw))] none := by
  refine wr_v (cc := cX9_laysInstalments_) (maxL := 1) (by decide) rfl (Nat.le_of_ble_eq_true rfl) ?_
  intro p_ e_ s_ m_ ar_ be_ me_ co_ ls Q_ A_ hx hb hml hown hts hP hK hD hS hl hret
  have hown : s_.vm.findClass RX9 = some m_.cls := hown
  have hl : lv_has ls 1 [(0, .ref mo)] := hl
  refine lv_aload_n hx hb dX9_laysInstalments__0 rfl (lv_at hl 0 rfl) ?_
  refine lv_aload_n hx hb dX9_laysInstalments__1 rfl (lv_at hl 0 rfl) ?_
  refine g_get (C := RX9) (T := TX9) (N := 20) (ci := 9) (index := 64) hx hb hts in_X9_laysInstalments__9 hown hK hP 0 11 rfl rfl (by decide) (List.mem_of_getElem? (i := 1) rfl) rfl dX9_laysInstalments__2 ?_
  refine lv_sipush (v := 239) hx hb dX9_laysInstalments__5 (by decide) ?_
  refine g_iald hx hb hK hP 2 0 rfl rfl 239 (rfl) (by omega) (by omega) dX9_laysInstalments__8 ?_
  refine wp_V (As := [.int (Nw 239)]) (rest := []) (ci := 9) (ws' := [(mo, .inr (9, [.int th, .ref q1, .int tn, .int sz, .int tt, .int fm, .int so, .int nu, .int fau, .int plc, .long wd, .ref q2, .ref q3, .ref q4, .int sm, .ref q5, .ref q6, .ref q7, .ref q8, .int rm])), (q1, .inl (cI, 840, .inl Tp)), (q2, .inl (cI, 240, .inl Nw)), (q3, .inl (cI, 240, .inl Rr)), (q4, .inl (cI, 2880, .inl Sn)), (q5, .inl (cI, 4, .inl (ov (inM (lsM Nw ns ni (Nw 239))) In 4))), (q6, .inl (cI, 500, .inl Pd)), (q7, .inl (cI, 500, .inl Rt)), (q8, .inl (cI, 10000, .inl Rw))]) (kX9_laysInstalments l D cI cB mo q1 q2 q3 q4 q5 q6 q7 q8 th tn sz tt fm so nu fau plc wd sm rm Tp Nw Rr Sn In Pd Rt Rw ns nr ni np nb (Nw 239) (by assumption) (by assumption)) ⟨hx, hb, hml, hown, hts⟩ (cwV 1 hts gX9_laysInstalments__X9_laysInstalments rfl rfl rfl (by decide +kernel) ⟨Nat.le_of_ble_eq_true rfl, Nat.le_of_ble_eq_true rfl⟩) hK hP hD hS [0, 1, 2, 3, 4, 5, 6, 7, 8] [] rfl rfl rfl 9 rfl (by decide +kernel) (by decide +kernel) rfl (by decide +kernel) 0 rfl rfl rfl rfl hl.1 (Nat.le_of_ble_eq_true rfl) dX9_laysInstalments__9 ⟨Nat.le_refl _, Nat.le_refl _⟩ (fun H_ lc_ hP hD hS => ?_)
  show W p_ l e_ (RM 5 117) s_ m_ ar_ be_ me_ co_ H_ lc_ 0 0 Q_ (F0 m_ 12 ls [])
  exact hret _ _ _ ls hS (hP) dX9_laysInstalments__12

theorem in_X9_paidAt_9 : ∀ w ∈ wsX90, w ∈ wsX9_paidAt := fun _ h => List.mem_cons_of_mem _ (List.mem_append_right _ (h))
set_option maxHeartbeats 4000000 in
set_option maxRecDepth 100000 in
theorem kX9_paidAt (l : Launch) (D : va_G) (cI cB : ClassId) (mo q1 q2 q3 q4 q5 q6 q7 q8 : Nat) (th tn sz tt fm so nu fau plc : Int32) (wd : Int64) (sm rm : Int32) (Tp Nw Rr Sn In Pd Rt Rw : Nat → Int32) (ns nr ni np nb : Nat) (d : Int32) (hcn : cnt Nw ns nr ni np nb) : Rd l D (TY cI cB) yX9_paidAt wsX9_paidAt 1 24 [.ref mo, .int d] [(mo, .inr (9, [.int th, .ref q1, .int tn, .int sz, .int tt, .int fm, .int so, .int nu, .int fau, .int plc, .long wd, .ref q2, .ref q3, .ref q4, .int sm, .ref q5, .ref q6, .ref q7, .ref q8, .int rm])), (q1, .inl (cI, 840, .inl Tp)), (q2, .inl (cI, 240, .inl Nw)), (q3, .inl (cI, 240, .inl Rr)), (q4, .inl (cI, 2880, .inl Sn)), (q5, .inl (cI, 4, .inl In)), (q6, .inl (cI, 500, .inl Pd)), (q7, .inl (cI, 500, .inl Rt)), (q8, .inl (cI, 10000, .inl Rw))] (paM Nw np nb d) := by
  refine rd_i (cc := cX9_paidAt) (maxL := 2) (by decide) rfl (Nat.le_of_ble_eq_true rfl) ?_
  intro p_ e_ s_ m_ ar_ be_ me_ co_ ls Q_ hx hb hml hown hts hP hK hl hret
  have hown : s_.vm.findClass RX9 = some m_.cls := hown
  have hl : lv_has ls 2 [(0, .ref mo), (1, .int d)] := hl
  refine lv_aload_n hx hb dX9_paidAt_0 rfl (lv_at hl 0 rfl) ?_
  refine g_get (C := RX9) (T := TX9) (N := 20) (ci := 9) (index := 64) hx hb hts in_X9_paidAt_9 hown hK hP 0 11 rfl rfl (by decide) (List.mem_of_getElem? (i := 1) rfl) rfl dX9_paidAt_1 ?_
  refine lv_iconst (v := 1) hx hb dX9_paidAt_4 (by decide) ?_
  refine g_iald hx hb hK hP 2 0 rfl rfl 1 (rfl) (by omega) (by omega) dX9_paidAt_5 ?_
  refine lv_aload_n hx hb dX9_paidAt_6 rfl (lv_at hl 0 rfl) ?_
  refine lv_bipush (v := 117) hx hb dX9_paidAt_7 (by decide) ?_
  refine lv_iload_n hx hb dX9_paidAt_9 rfl (lv_at hl 1 rfl) ?_
  refine rd_V (As := [.int 117, .int d]) (rest := [.int (Nw 1)]) (ci := 9) (kX9_upTo l D cI cB mo q1 q2 q3 q4 q5 q6 q7 q8 th tn sz tt fm so nu fau plc wd sm rm Tp Nw Rr Sn In Pd Rt Rw 117 np d (hcn.2.2.2.1.1) (by have := hcn.2.2.2.1.2; omega)) ⟨hx, hb, hml, hown, hts⟩ (cwV 2 hts gX9_paidAt_X9_upTo rfl rfl rfl (by decide +kernel) ⟨Nat.le_of_ble_eq_true rfl, Nat.le_of_ble_eq_true rfl⟩) hK hP [0, 1, 2, 3, 4, 5, 6, 7, 8] rfl 0 rfl rfl rfl rfl hl.1 (Nat.le_of_ble_eq_true rfl) dX9_paidAt_10 ⟨Nat.le_refl _, Nat.le_refl _⟩ ?_
  refine lv_iadd hx hb dX9_paidAt_13 ?_
  refine lv_aload_n hx hb dX9_paidAt_14 rfl (lv_at hl 0 rfl) ?_
  refine lv_sipush (v := 198) hx hb dX9_paidAt_15 (by decide) ?_
  refine lv_iload_n hx hb dX9_paidAt_18 rfl (lv_at hl 1 rfl) ?_
  refine rd_V (As := [.int 198, .int d]) (rest := [.int ((Nw 1) + (upM Nw 117 d np))]) (ci := 9) (kX9_upTo l D cI cB mo q1 q2 q3 q4 q5 q6 q7 q8 th tn sz tt fm so nu fau plc wd sm rm Tp Nw Rr Sn In Pd Rt Rw 198 nb d (hcn.2.2.2.2.1) (by have := hcn.2.2.2.2.2; omega)) ⟨hx, hb, hml, hown, hts⟩ (cwV 2 hts gX9_paidAt_X9_upTo rfl rfl rfl (by decide +kernel) ⟨Nat.le_of_ble_eq_true rfl, Nat.le_of_ble_eq_true rfl⟩) hK hP [0, 1, 2, 3, 4, 5, 6, 7, 8] rfl 0 rfl rfl rfl rfl hl.1 (Nat.le_of_ble_eq_true rfl) dX9_paidAt_19 ⟨Nat.le_refl _, Nat.le_refl _⟩ ?_
  refine lv_isub hx hb dX9_paidAt_22 ?_
  exact hret _ _ ls (rfl) dX9_paidAt_23

theorem in_X9_rateOf_9 : ∀ w ∈ wsX90, w ∈ wsX9_rateOf := fun _ h => List.mem_cons_of_mem _ (List.mem_append_right _ (h))
set_option maxHeartbeats 4000000 in
set_option maxRecDepth 100000 in
theorem kX9_rateOf (l : Launch) (D : va_G) (cI cB : ClassId) (mo q1 q2 q3 q4 q5 q6 q7 q8 : Nat) (th tn sz tt fm so nu fau plc : Int32) (wd : Int64) (sm rm : Int32) (Tp Nw Rr Sn In Pd Rt Rw : Nat → Int32) (ns nr ni np nb : Nat) (d : Int32) (hcn : cnt Nw ns nr ni np nb) : Rd l D (TY cI cB) yX9_rateOf wsX9_rateOf 0 0 [.ref mo, .int d] [(mo, .inr (9, [.int th, .ref q1, .int tn, .int sz, .int tt, .int fm, .int so, .int nu, .int fau, .int plc, .long wd, .ref q2, .ref q3, .ref q4, .int sm, .ref q5, .ref q6, .ref q7, .ref q8, .int rm])), (q1, .inl (cI, 840, .inl Tp)), (q2, .inl (cI, 240, .inl Nw)), (q3, .inl (cI, 240, .inl Rr)), (q4, .inl (cI, 2880, .inl Sn)), (q5, .inl (cI, 4, .inl In)), (q6, .inl (cI, 500, .inl Pd)), (q7, .inl (cI, 500, .inl Rt)), (q8, .inl (cI, 10000, .inl Rw))] (raM Nw nr d) := by
  refine rd_i (cc := cX9_rateOf) (maxL := 4) (by decide) rfl (Nat.le_of_ble_eq_true rfl) ?_
  intro p_ e_ s_ m_ ar_ be_ me_ co_ ls Q_ hx hb hml hown hts hP hK hl hret
  have hown : s_.vm.findClass RX9 = some m_.cls := hown
  have hl : lv_has ls 4 [(0, .ref mo), (1, .int d)] := hl
  have h13 := hcn.2.1.1
  have h13b := hcn.2.1.2
  refine lv_iconst (v := 0) hx hb dX9_rateOf_0 (by decide) ?_
  refine lv_istore_n (lv' := [(2, .int 0), (0, .ref mo), (1, .int d)]) hx hb dX9_rateOf_1 rfl hl (by decide) rfl (fun ls hl => ?_)
  refine lv_iconst (v := 0) hx hb dX9_rateOf_2 (by decide) ?_
  refine lv_istore_n (lv' := [(3, .int 0), (2, .int 0), (0, .ref mo), (1, .int d)]) hx hb dX9_rateOf_3 rfl hl (by decide) rfl (fun ls hl => ?_)
  have L4 : ∀ (nn_ : Nat) (i : Nat) (hi : i ≤ nr) (xx_v2 : Int32) (xx_v3 : Int32), (nr - i) < nn_ → xx_v2 = raM Nw i d → xx_v3 = nI i → ∀ (ls : Array Slot), lv_has ls 4 [(0, .ref mo), (1, .int d), (2, .int xx_v2), (3, .int xx_v3)] → W p_ l e_ (RM 0 0) s_ m_ ar_ be_ me_ co_ s_.heap [] 0 0 Q_ (F0 m_ 4 ls []) := by
    intro nn_
    induction nn_ with
    | zero => intro i hi xx_v2 xx_v3 hn_; exact absurd hn_ (Nat.not_lt_zero _)
    | succ nn_ ih4 =>
      intro i hi xx_v2 xx_v3 hn_ e_xx_v2 e_xx_v3 ls hl
      subst e_xx_v2 e_xx_v3
      refine lv_iload_n hx hb dX9_rateOf_4 rfl (lv_at hl 3 rfl) ?_
      refine lv_aload_n hx hb dX9_rateOf_5 rfl (lv_at hl 0 rfl) ?_
      refine g_get (C := RX9) (T := TX9) (N := 20) (ci := 9) (index := 64) hx hb hts in_X9_rateOf_9 hown hK hP 0 11 rfl rfl (by decide) (List.mem_of_getElem? (i := 1) rfl) rfl dX9_rateOf_6 ?_
      refine lv_bipush (v := 23) hx hb dX9_rateOf_9 (by decide) ?_
      refine g_iald hx hb hK hP 2 0 rfl rfl 23 (rfl) (by omega) (by omega) dX9_rateOf_11 ?_
      rw [show (Nw 23 : Int32) = nI nr from h13]
      refine lv_icmp_ge (tgt := 50) hx hb dX9_rateOf_12 (by decide) (fun c12 => ?_) (fun c12 => ?_)
      · refine lv_iload_n hx hb dX9_rateOf_50 rfl (lv_at hl 2 rfl) ?_
        exact hret _ _ ls (by have q := ge_nI c12 (by omega) (by omega); rw [show i = nr by omega]) dX9_rateOf_51
      · have hlt : i < nr := lt_nI c12 (by omega) (by omega)
        refine lv_aload_n hx hb dX9_rateOf_15 rfl (lv_at hl 0 rfl) ?_
        refine g_get (C := RX9) (T := TX9) (N := 20) (ci := 9) (index := 64) hx hb hts in_X9_rateOf_9 hown hK hP 0 11 rfl rfl (by decide) (List.mem_of_getElem? (i := 1) rfl) rfl dX9_rateOf_16 ?_
        refine lv_bipush (v := 24) hx hb dX9_rateOf_19 (by decide) ?_
        refine lv_iconst (v := 2) hx hb dX9_rateOf_21 (by decide) ?_
        refine lv_iload_n hx hb dX9_rateOf_22 rfl (lv_at hl 3 rfl) ?_
        refine lv_imul hx hb dX9_rateOf_23 ?_
        refine lv_iadd hx hb dX9_rateOf_24 ?_
        refine g_iald hx hb hK hP 2 0 rfl rfl (24 + (2 * i)) (nx_a (rfl) (nx_m (rfl) (rfl))) (by omega) (by omega) dX9_rateOf_25 ?_
        rw [show (Nw (24 + (2 * i)) : Int32) = evF Nw 23 i from rfl]
        refine lv_iload_n hx hb dX9_rateOf_26 rfl (lv_at hl 1 rfl) ?_
        refine lv_icmp_gt (tgt := 44) hx hb dX9_rateOf_27 (by decide) (fun c27 => ?_) (fun c27 => ?_)
        · refine lv_iinc (v := nI (i + 1)) (lv' := [(3, .int (nI (i + 1))), (0, .ref mo), (1, .int d), (2, .int (raM Nw i d))]) hx hb dX9_rateOf_44 hl (k := 3) rfl (nI_add _ 1) (by decide) rfl (fun ls hl => ?_)
          refine lv_goto (tgt := 4) hx hb dX9_rateOf_47 (by decide) ?_
          exact ih4 (i + 1) (by omega) _ _ (by omega) (by simp only [raM, latUp]; simp [c12, c27]) (rfl) ls (lv_sub hl [1, 2, 3, 0] rfl)
        · refine lv_aload_n hx hb dX9_rateOf_30 rfl (lv_at hl 0 rfl) ?_
          refine g_get (C := RX9) (T := TX9) (N := 20) (ci := 9) (index := 64) hx hb hts in_X9_rateOf_9 hown hK hP 0 11 rfl rfl (by decide) (List.mem_of_getElem? (i := 1) rfl) rfl dX9_rateOf_31 ?_
          refine lv_bipush (v := 24) hx hb dX9_rateOf_34 (by decide) ?_
          refine lv_iconst (v := 2) hx hb dX9_rateOf_36 (by decide) ?_
          refine lv_iload_n hx hb dX9_rateOf_37 rfl (lv_at hl 3 rfl) ?_
          refine lv_imul hx hb dX9_rateOf_38 ?_
          refine lv_iadd hx hb dX9_rateOf_39 ?_
          refine lv_iconst (v := 1) hx hb dX9_rateOf_40 (by decide) ?_
          refine lv_iadd hx hb dX9_rateOf_41 ?_
          refine g_iald hx hb hK hP 2 0 rfl rfl ((24 + (2 * i)) + 1) (nx_a (nx_a (rfl) (nx_m (rfl) (rfl))) (rfl)) (by omega) (by omega) dX9_rateOf_42 ?_
          rw [show (Nw ((24 + (2 * i)) + 1) : Int32) = odF Nw 23 i from congrArg Nw (show 24 + 2 * i + 1 = 23 + 2 + 2 * i by omega)]
          refine lv_istore_n (lv' := [(2, .int (odF Nw 23 i)), (0, .ref mo), (1, .int d), (3, .int (nI i))]) hx hb dX9_rateOf_43 rfl hl (by decide) rfl (fun ls hl => ?_)
          refine lv_iinc (v := nI (i + 1)) (lv' := [(3, .int (nI (i + 1))), (2, .int (odF Nw 23 i)), (0, .ref mo), (1, .int d)]) hx hb dX9_rateOf_44 hl (k := 3) rfl (nI_add _ 1) (by decide) rfl (fun ls hl => ?_)
          refine lv_goto (tgt := 4) hx hb dX9_rateOf_47 (by decide) ?_
          exact ih4 (i + 1) (by omega) _ _ (by omega) (by simp only [raM, latUp]; simp [c12, c27]) (rfl) ls (lv_sub hl [2, 3, 1, 0] rfl)
  exact L4 (nr - 0 + 1) 0 (by omega) _ _ (Nat.lt_succ_self _) (rfl) (nI_0.symm) ls (lv_sub hl [2, 3, 1, 0] rfl)

theorem in_X9_laysDays_9 : ∀ w ∈ wsX90, w ∈ wsX9_laysDays := fun _ h => List.mem_cons_of_mem _ (List.mem_append_right _ (h))
set_option maxHeartbeats 4000000 in
set_option maxRecDepth 100000 in
theorem kX9_laysDays (l : Launch) (D : va_G) (cI cB : ClassId) (mo q1 q2 q3 q4 q5 q6 q7 q8 : Nat) (th tn sz tt fm so nu fau plc : Int32) (wd : Int64) (sm rm : Int32) (Tp Nw Rr Sn In Pd Rt Rw : Nat → Int32) (ns nr ni np nb : Nat) (hcn : cnt Nw ns nr ni np nb) : Wr l D (TY cI cB) yX9_laysDays wsX9_laysDays 2 45 [.ref mo] [(mo, .inr (9, [.int th, .ref q1, .int tn, .int sz, .int tt, .int fm, .int so, .int nu, .int fau, .int plc, .long wd, .ref q2, .ref q3, .ref q4, .int sm, .ref q5, .ref q6, .ref q7, .ref q8, .int rm])), (q1, .inl (cI, 840, .inl Tp)), (q2, .inl (cI, 240, .inl Nw)), (q3, .inl (cI, 240, .inl Rr)), (q4, .inl (cI, 2880, .inl Sn)), (q5, .inl (cI, 4, .inl In)), (q6, .inl (cI, 500, .inl Pd)), (q7, .inl (cI, 500, .inl Rt)), (q8, .inl (cI, 10000, .inl Rw))] [(mo, .inr (9, [.int th, .ref q1, .int tn, .int sz, .int tt, .int fm, .int so, .int nu, .int fau, .int plc, .long wd, .ref q2, .ref q3, .ref q4, .int sm, .ref q5, .ref q6, .ref q7, .ref q8, .int rm])), (q1, .inl (cI, 840, .inl Tp)), (q2, .inl (cI, 240, .inl Nw)), (q3, .inl (cI, 240, .inl Rr)), (q4, .inl (cI, 2880, .inl Sn)), (q5, .inl (cI, 4, .inl In)), (q6, .inl (cI, 500, .inl (ov (fun j => paM Nw np nb (nI j)) Pd 500))), (q7, .inl (cI, 500, .inl (ov (fun j => raM Nw nr (nI j)) Rt 500))), (q8, .inl (cI, 10000, .inl Rw))] none := by
  refine wr_v (cc := cX9_laysDays) (maxL := 2) (by decide) rfl (Nat.le_of_ble_eq_true rfl) ?_
  intro p_ e_ s_ m_ ar_ be_ me_ co_ ls Q_ A_ hx hb hml hown hts hP hK hD hS hl hret
  have hown : s_.vm.findClass RX9 = some m_.cls := hown
  have hl : lv_has ls 2 [(0, .ref mo)] := hl
  refine lv_iconst (v := 0) hx hb dX9_laysDays_0 (by decide) ?_
  refine lv_istore_n (lv' := [(1, .int 0), (0, .ref mo)]) hx hb dX9_laysDays_1 rfl hl (by decide) rfl (fun ls hl => ?_)
  have L2 : ∀ (nn_ : Nat) (i : Nat) (hi : i ≤ 500) (xx_v1 : Int32) (xx_g6 : Nat → Int32) (xx_g7 : Nat → Int32), (500 - i) < nn_ → xx_v1 = nI i → xx_g6 = ov (fun j => paM Nw np nb (nI j)) Pd i → xx_g7 = ov (fun j => raM Nw nr (nI j)) Rt i → ∀ (H_ : Heap) (lc_ : List Loc), va_P D vwCl [(mo, .inr (9, [.int th, .ref q1, .int tn, .int sz, .int tt, .int fm, .int so, .int nu, .int fau, .int plc, .long wd, .ref q2, .ref q3, .ref q4, .int sm, .ref q5, .ref q6, .ref q7, .ref q8, .int rm])), (q1, .inl (cI, 840, .inl Tp)), (q2, .inl (cI, 240, .inl Nw)), (q3, .inl (cI, 240, .inl Rr)), (q4, .inl (cI, 2880, .inl Sn)), (q5, .inl (cI, 4, .inl In)), (q6, .inl (cI, 500, .inl xx_g6)), (q7, .inl (cI, 500, .inl xx_g7)), (q8, .inl (cI, 10000, .inl Rw))] H_ → va_D A_ [(mo, .inr (9, [.int th, .ref q1, .int tn, .int sz, .int tt, .int fm, .int so, .int nu, .int fau, .int plc, .long wd, .ref q2, .ref q3, .ref q4, .int sm, .ref q5, .ref q6, .ref q7, .ref q8, .int rm])), (q1, .inl (cI, 840, .inl Tp)), (q2, .inl (cI, 240, .inl Nw)), (q3, .inl (cI, 240, .inl Rr)), (q4, .inl (cI, 2880, .inl Sn)), (q5, .inl (cI, 4, .inl In)), (q6, .inl (cI, 500, .inl xx_g6)), (q7, .inl (cI, 500, .inl xx_g7)), (q8, .inl (cI, 10000, .inl Rw))] → va_S A_ s_.heap H_ lc_ → ∀ (ls : Array Slot), lv_has ls 2 [(0, .ref mo), (1, .int xx_v1)] → W p_ l e_ (RM 2 45) s_ m_ ar_ be_ me_ co_ H_ lc_ 0 0 Q_ (F0 m_ 2 ls []) := by
    intro nn_
    induction nn_ with
    | zero => intro i hi xx_v1 xx_g6 xx_g7 hn_; exact absurd hn_ (Nat.not_lt_zero _)
    | succ nn_ ih2 =>
      intro i hi xx_v1 xx_g6 xx_g7 hn_ e_xx_v1 e_xx_g6 e_xx_g7 H_ lc_ hP hD hS ls hl
      subst e_xx_v1 e_xx_g6 e_xx_g7
      refine lv_iload_n hx hb dX9_laysDays_2 rfl (lv_at hl 1 rfl) ?_
      refine lv_sipush (v := 500) hx hb dX9_laysDays_3 (by decide) ?_
      refine lv_icmp_ge (tgt := 37) hx hb dX9_laysDays_6 (by decide) (fun c6 => ?_) (fun c6 => ?_)
      · exact hret _ _ _ ls hS (by have q := ge_nI (b := 500) c6 (by omega) (by omega); rw [show i = 500 by omega] at hP; exact hP) dX9_laysDays_37
      · have hlt : i < 500 := lt_nI (b := 500) c6 (by omega) (by omega)
        refine lv_aload_n hx hb dX9_laysDays_9 rfl (lv_at hl 0 rfl) ?_
        refine g_get (C := RX9) (T := TX9) (N := 20) (ci := 9) (index := 76) hx hb hts in_X9_laysDays_9 hown hK hP 0 16 rfl rfl (by decide) (List.mem_of_getElem? (i := 1) rfl) rfl dX9_laysDays_10 ?_
        refine lv_iload_n hx hb dX9_laysDays_13 rfl (lv_at hl 1 rfl) ?_
        refine lv_aload_n hx hb dX9_laysDays_14 rfl (lv_at hl 0 rfl) ?_
        refine lv_iload_n hx hb dX9_laysDays_15 rfl (lv_at hl 1 rfl) ?_
        refine rd_V (As := [.int (nI i)]) (rest := [.int (nI i), .ref q6]) (ci := 9) (kX9_paidAt l D cI cB mo q1 q2 q3 q4 q5 q6 q7 q8 th tn sz tt fm so nu fau plc wd sm rm Tp Nw Rr Sn In (ov (fun j => paM Nw np nb (nI j)) Pd i) (ov (fun j => raM Nw nr (nI j)) Rt i) Rw ns nr ni np nb (nI i) (hcn)) ⟨hx, hb, hml, hown, hts⟩ (cwV 1 hts gX9_laysDays_X9_paidAt rfl rfl rfl (by decide +kernel) ⟨Nat.le_of_ble_eq_true rfl, Nat.le_of_ble_eq_true rfl⟩) hK hP [0, 1, 2, 3, 4, 5, 6, 7, 8] rfl 0 rfl rfl rfl rfl hl.1 (Nat.le_of_ble_eq_true rfl) dX9_laysDays_16 ⟨Nat.le_refl _, Nat.le_refl _⟩ ?_
        refine g_iast hx hb hK hP hD hS 6 0 rfl rfl i (rfl) (by omega) (by omega) dX9_laysDays_19 (fun H_ lc_ hP hD hS => ?_)
        have hP : va_P D vwCl [(mo, .inr (9, [.int th, .ref q1, .int tn, .int sz, .int tt, .int fm, .int so, .int nu, .int fau, .int plc, .long wd, .ref q2, .ref q3, .ref q4, .int sm, .ref q5, .ref q6, .ref q7, .ref q8, .int rm])), (q1, .inl (cI, 840, .inl Tp)), (q2, .inl (cI, 240, .inl Nw)), (q3, .inl (cI, 240, .inl Rr)), (q4, .inl (cI, 2880, .inl Sn)), (q5, .inl (cI, 4, .inl In)), (q6, .inl (cI, 500, .inl (upd (ov (fun j => paM Nw np nb (nI j)) Pd i) i (paM Nw np nb (nI i))))), (q7, .inl (cI, 500, .inl (ov (fun j => raM Nw nr (nI j)) Rt i))), (q8, .inl (cI, 10000, .inl Rw))] H_ := hP
        have hD : va_D A_ [(mo, .inr (9, [.int th, .ref q1, .int tn, .int sz, .int tt, .int fm, .int so, .int nu, .int fau, .int plc, .long wd, .ref q2, .ref q3, .ref q4, .int sm, .ref q5, .ref q6, .ref q7, .ref q8, .int rm])), (q1, .inl (cI, 840, .inl Tp)), (q2, .inl (cI, 240, .inl Nw)), (q3, .inl (cI, 240, .inl Rr)), (q4, .inl (cI, 2880, .inl Sn)), (q5, .inl (cI, 4, .inl In)), (q6, .inl (cI, 500, .inl (upd (ov (fun j => paM Nw np nb (nI j)) Pd i) i (paM Nw np nb (nI i))))), (q7, .inl (cI, 500, .inl (ov (fun j => raM Nw nr (nI j)) Rt i))), (q8, .inl (cI, 10000, .inl Rw))] := hD
        refine lv_aload_n hx hb dX9_laysDays_20 rfl (lv_at hl 0 rfl) ?_
        refine g_get (C := RX9) (T := TX9) (N := 20) (ci := 9) (index := 79) hx hb hts in_X9_laysDays_9 hown hK hP 0 17 rfl rfl (by decide) (List.mem_of_getElem? (i := 2) rfl) rfl dX9_laysDays_21 ?_
        refine lv_iload_n hx hb dX9_laysDays_24 rfl (lv_at hl 1 rfl) ?_
        refine lv_aload_n hx hb dX9_laysDays_25 rfl (lv_at hl 0 rfl) ?_
        refine lv_iload_n hx hb dX9_laysDays_26 rfl (lv_at hl 1 rfl) ?_
        refine rd_V (As := [.int (nI i)]) (rest := [.int (nI i), .ref q7]) (ci := 9) (kX9_rateOf l D cI cB mo q1 q2 q3 q4 q5 q6 q7 q8 th tn sz tt fm so nu fau plc wd sm rm Tp Nw Rr Sn In (upd (ov (fun j => paM Nw np nb (nI j)) Pd i) i (paM Nw np nb (nI i))) (ov (fun j => raM Nw nr (nI j)) Rt i) Rw ns nr ni np nb (nI i) (hcn)) ⟨hx, hb, hml, hown, hts⟩ (cwV 1 hts gX9_laysDays_X9_rateOf rfl rfl rfl (by decide +kernel) ⟨Nat.le_of_ble_eq_true rfl, Nat.le_of_ble_eq_true rfl⟩) hK hP [0, 1, 2, 3, 4, 5, 6, 7, 8] rfl 0 rfl rfl rfl rfl hl.1 (Nat.le_of_ble_eq_true rfl) dX9_laysDays_27 ⟨Nat.le_refl _, Nat.le_refl _⟩ ?_
        refine g_iast hx hb hK hP hD hS 7 0 rfl rfl i (rfl) (by omega) (by omega) dX9_laysDays_30 (fun H_ lc_ hP hD hS => ?_)
        have hP : va_P D vwCl [(mo, .inr (9, [.int th, .ref q1, .int tn, .int sz, .int tt, .int fm, .int so, .int nu, .int fau, .int plc, .long wd, .ref q2, .ref q3, .ref q4, .int sm, .ref q5, .ref q6, .ref q7, .ref q8, .int rm])), (q1, .inl (cI, 840, .inl Tp)), (q2, .inl (cI, 240, .inl Nw)), (q3, .inl (cI, 240, .inl Rr)), (q4, .inl (cI, 2880, .inl Sn)), (q5, .inl (cI, 4, .inl In)), (q6, .inl (cI, 500, .inl (upd (ov (fun j => paM Nw np nb (nI j)) Pd i) i (paM Nw np nb (nI i))))), (q7, .inl (cI, 500, .inl (upd (ov (fun j => raM Nw nr (nI j)) Rt i) i (raM Nw nr (nI i))))), (q8, .inl (cI, 10000, .inl Rw))] H_ := hP
        have hD : va_D A_ [(mo, .inr (9, [.int th, .ref q1, .int tn, .int sz, .int tt, .int fm, .int so, .int nu, .int fau, .int plc, .long wd, .ref q2, .ref q3, .ref q4, .int sm, .ref q5, .ref q6, .ref q7, .ref q8, .int rm])), (q1, .inl (cI, 840, .inl Tp)), (q2, .inl (cI, 240, .inl Nw)), (q3, .inl (cI, 240, .inl Rr)), (q4, .inl (cI, 2880, .inl Sn)), (q5, .inl (cI, 4, .inl In)), (q6, .inl (cI, 500, .inl (upd (ov (fun j => paM Nw np nb (nI j)) Pd i) i (paM Nw np nb (nI i))))), (q7, .inl (cI, 500, .inl (upd (ov (fun j => raM Nw nr (nI j)) Rt i) i (raM Nw nr (nI i))))), (q8, .inl (cI, 10000, .inl Rw))] := hD
        refine lv_iinc (v := nI (i + 1)) (lv' := [(1, .int (nI (i + 1))), (0, .ref mo)]) hx hb dX9_laysDays_31 hl (k := 1) rfl (nI_add _ 1) (by decide) rfl (fun ls hl => ?_)
        refine lv_goto (tgt := 2) hx hb dX9_laysDays_34 (by decide) ?_
        exact ih2 (i + 1) (by omega) _ _ _ (by omega) (rfl) (ov_s (fun j => paM Nw np nb (nI j)) Pd i) (ov_s (fun j => raM Nw nr (nI j)) Rt i) _ _ hP hD hS ls (lv_sub hl [1, 0] rfl)
  exact L2 (500 - 0 + 1) 0 (by omega) _ _ _ (Nat.lt_succ_self _) (nI_0.symm) ((ov_0 _ _).symm) ((ov_0 _ _).symm) _ _ hP hD hS ls (lv_sub hl [1, 0] rfl)

theorem in_X9_uncovered_9 : ∀ w ∈ wsX90, w ∈ wsX9_uncovered := fun _ h => List.mem_cons_of_mem _ (List.mem_append_right _ (h))
set_option maxHeartbeats 4000000 in
set_option maxRecDepth 100000 in
theorem kX9_uncovered (l : Launch) (D : va_G) (cI cB : ClassId) (mo q1 q2 q3 q4 q5 q6 q7 q8 : Nat) (th tn sz tt fm so nu fau plc : Int32) (wd : Int64) (sm rm : Int32) (Tp Nw Rr Sn In Pd Rt Rw : Nat → Int32) (p : Nat) (x : Int32) (hp : p < 4) : Rd l D (TY cI cB) yX9_uncovered wsX9_uncovered 0 0 [.ref mo, .int (nI p), .int x] [(mo, .inr (9, [.int th, .ref q1, .int tn, .int sz, .int tt, .int fm, .int so, .int nu, .int fau, .int plc, .long wd, .ref q2, .ref q3, .ref q4, .int sm, .ref q5, .ref q6, .ref q7, .ref q8, .int rm])), (q1, .inl (cI, 840, .inl Tp)), (q2, .inl (cI, 240, .inl Nw)), (q3, .inl (cI, 240, .inl Rr)), (q4, .inl (cI, 2880, .inl Sn)), (q5, .inl (cI, 4, .inl In)), (q6, .inl (cI, 500, .inl Pd)), (q7, .inl (cI, 500, .inl Rt)), (q8, .inl (cI, 10000, .inl Rw))] (unM In p x) := by
  refine rd_i (cc := cX9_uncovered) (maxL := 5) (by decide) rfl (Nat.le_of_ble_eq_true rfl) ?_
  intro p_ e_ s_ m_ ar_ be_ me_ co_ ls Q_ hx hb hml hown hts hP hK hl hret
  have hown : s_.vm.findClass RX9 = some m_.cls := hown
  have hl : lv_has ls 5 [(0, .ref mo), (1, .int (nI p)), (2, .int x)] := hl
  refine lv_iload_n hx hb dX9_uncovered_0 rfl (lv_at hl 2 rfl) ?_
  refine lv_istore_n (lv' := [(3, .int x), (0, .ref mo), (1, .int (nI p)), (2, .int x)]) hx hb dX9_uncovered_1 rfl hl (by decide) rfl (fun ls hl => ?_)
  refine lv_iconst (v := 0) hx hb dX9_uncovered_2 (by decide) ?_
  refine lv_istore (lv' := [(4, .int 0), (3, .int x), (0, .ref mo), (1, .int (nI p)), (2, .int x)]) hx hb dX9_uncovered_3 hl (by decide) rfl (fun ls hl => ?_)
  have L5 : ∀ (nn_ : Nat) (i : Nat) (hi : i ≤ p) (xx_v3 : Int32) (xx_v4 : Int32), (p - i) < nn_ → xx_v3 = lfM In x i → xx_v4 = nI i → ∀ (ls : Array Slot), lv_has ls 5 [(0, .ref mo), (1, .int (nI p)), (2, .int x), (3, .int xx_v3), (4, .int xx_v4)] → W p_ l e_ (RM 0 0) s_ m_ ar_ be_ me_ co_ s_.heap [] 0 0 Q_ (F0 m_ 5 ls []) := by
    intro nn_
    induction nn_ with
    | zero => intro i hi xx_v3 xx_v4 hn_; exact absurd hn_ (Nat.not_lt_zero _)
    | succ nn_ ih5 =>
      intro i hi xx_v3 xx_v4 hn_ e_xx_v3 e_xx_v4 ls hl
      subst e_xx_v3 e_xx_v4
      refine lv_iload hx hb dX9_uncovered_5 (lv_at hl 4 rfl) ?_
      refine lv_iload_n hx hb dX9_uncovered_7 rfl (lv_at hl 1 rfl) ?_
      refine lv_icmp_ge (tgt := 27) hx hb dX9_uncovered_8 (by decide) (fun c8 => ?_) (fun c8 => ?_)
      · have hie : i = p := by have q := ge_nI c8 (by omega) (by omega); omega
        refine lv_aload_n hx hb dX9_uncovered_27 rfl (lv_at hl 0 rfl) ?_
        refine g_get (C := RX9) (T := TX9) (N := 20) (ci := 9) (index := 73) hx hb hts in_X9_uncovered_9 hown hK hP 0 15 rfl rfl (by decide) (List.mem_of_getElem? (i := 1) rfl) rfl dX9_uncovered_28 ?_
        refine lv_iload_n hx hb dX9_uncovered_31 rfl (lv_at hl 1 rfl) ?_
        refine g_iald hx hb hK hP 5 0 rfl rfl p (rfl) (by omega) (by omega) dX9_uncovered_32 ?_
        refine lv_istore (lv' := [(4, .int (In p)), (0, .ref mo), (1, .int (nI p)), (2, .int x), (3, .int (lfM In x i))]) hx hb dX9_uncovered_33 hl (by decide) rfl (fun ls hl => ?_)
        refine lv_iload_n hx hb dX9_uncovered_35 rfl (lv_at hl 4 rfl) ?_
        refine lv_if_gt (tgt := 44) hx hb dX9_uncovered_36 (by decide) (fun c36 => ?_) (fun c36 => ?_)
        · refine lv_iload_n hx hb dX9_uncovered_44 rfl (lv_at hl 4 rfl) ?_
          refine lv_iload hx hb dX9_uncovered_45 (lv_at hl 0 rfl) ?_
          refine lv_icmp_lt (tgt := 54) hx hb dX9_uncovered_47 (by decide) (fun c47 => ?_) (fun c47 => ?_)
          · refine lv_iload hx hb dX9_uncovered_54 (lv_at hl 0 rfl) ?_
            refine lv_iload_n hx hb dX9_uncovered_56 rfl (lv_at hl 4 rfl) ?_
            refine lv_isub hx hb dX9_uncovered_57 ?_
            exact hret _ _ ls (by rw [hie] at *; simp [unM, c8, c36, c47]) dX9_uncovered_58
          · refine lv_iconst (v := 0) hx hb dX9_uncovered_50 (by decide) ?_
            refine lv_goto (tgt := 58) hx hb dX9_uncovered_51 (by decide) ?_
            exact hret _ _ ls (by rw [hie] at *; simp [unM, c8, c36, c47]) dX9_uncovered_58
        · refine lv_iload hx hb dX9_uncovered_39 (lv_at hl 0 rfl) ?_
          refine lv_goto (tgt := 58) hx hb dX9_uncovered_41 (by decide) ?_
          exact hret _ _ ls (by rw [hie] at *; simp [unM, c8, c36]) dX9_uncovered_58
      · have hlt : i < p := lt_nI c8 (by omega) (by omega)
        refine lv_iload_n hx hb dX9_uncovered_11 rfl (lv_at hl 3 rfl) ?_
        refine lv_aload_n hx hb dX9_uncovered_12 rfl (lv_at hl 0 rfl) ?_
        refine g_get (C := RX9) (T := TX9) (N := 20) (ci := 9) (index := 73) hx hb hts in_X9_uncovered_9 hown hK hP 0 15 rfl rfl (by decide) (List.mem_of_getElem? (i := 1) rfl) rfl dX9_uncovered_13 ?_
        refine lv_iload hx hb dX9_uncovered_16 (lv_at hl 4 rfl) ?_
        refine g_iald hx hb hK hP 5 0 rfl rfl i (rfl) (by omega) (by omega) dX9_uncovered_18 ?_
        refine lv_isub hx hb dX9_uncovered_19 ?_
        refine lv_istore_n (lv' := [(3, .int ((lfM In x i) - (In i))), (0, .ref mo), (1, .int (nI p)), (2, .int x), (4, .int (nI i))]) hx hb dX9_uncovered_20 rfl hl (by decide) rfl (fun ls hl => ?_)
        refine lv_iinc (v := nI (i + 1)) (lv' := [(4, .int (nI (i + 1))), (3, .int ((lfM In x i) - (In i))), (0, .ref mo), (1, .int (nI p)), (2, .int x)]) hx hb dX9_uncovered_21 hl (k := 4) rfl (nI_add _ 1) (by decide) rfl (fun ls hl => ?_)
        refine lv_goto (tgt := 5) hx hb dX9_uncovered_24 (by decide) ?_
        exact ih5 (i + 1) (by omega) _ _ (by omega) (rfl) (rfl) ls (lv_sub hl [2, 3, 4, 1, 0] rfl)
  exact L5 (p - 0 + 1) 0 (by omega) _ _ (Nat.lt_succ_self _) (rfl) (nI_0.symm) ls (lv_sub hl [2, 3, 4, 1, 0] rfl)

theorem in_X9_costOf_9 : ∀ w ∈ wsX90, w ∈ wsX9_costOf := fun _ h => List.mem_cons_of_mem _ (List.mem_append_right _ (h))
set_option maxHeartbeats 4000000 in
set_option maxRecDepth 100000 in
theorem kX9_costOf (l : Launch) (D : va_G) (cI cB : ClassId) (mo q1 q2 q3 q4 q5 q6 q7 q8 : Nat) (th tn sz tt fm so nu fau plc : Int32) (wd : Int64) (sm rm : Int32) (Tp Nw Rr Sn In Pd Rt Rw : Nat → Int32) (p : Nat) (day more : Int32) (due : Nat → Nat) (ed : Nat) (hp : p < 4) (hdue : ∀ p, p < 4 → Nw (3 + p) = nI (due p) ∧ due p ≤ 499) (hed : Nw 2 = nI ed) (hel : ed ≤ 499) : Rd l D (TY cI cB) yX9_costOf wsX9_costOf 1 24 [.ref mo, .int (nI p), .int day, .int more] [(mo, .inr (9, [.int th, .ref q1, .int tn, .int sz, .int tt, .int fm, .int so, .int nu, .int fau, .int plc, .long wd, .ref q2, .ref q3, .ref q4, .int sm, .ref q5, .ref q6, .ref q7, .ref q8, .int rm])), (q1, .inl (cI, 840, .inl Tp)), (q2, .inl (cI, 240, .inl Nw)), (q3, .inl (cI, 240, .inl Rr)), (q4, .inl (cI, 2880, .inl Sn)), (q5, .inl (cI, 4, .inl In)), (q6, .inl (cI, 500, .inl Pd)), (q7, .inl (cI, 500, .inl Rt)), (q8, .inl (cI, 10000, .inl Rw))] (coM In Pd Rt p day more (due p) ed) := by
  refine rd_i (cc := cX9_costOf) (maxL := 7) (by decide) rfl (Nat.le_of_ble_eq_true rfl) ?_
  intro p_ e_ s_ m_ ar_ be_ me_ co_ ls Q_ hx hb hml hown hts hP hK hl hret
  have hown : s_.vm.findClass RX9 = some m_.cls := hown
  have hl : lv_has ls 7 [(0, .ref mo), (1, .int (nI p)), (2, .int day), (3, .int more)] := hl
  have hd1 := (hdue p hp).1
  have hd2 := (hdue p hp).2
  refine lv_lconst (v := 0) hx hb dX9_costOf_0 (by decide) ?_
  refine lv_lstore (lv' := [(4, .long 0), (0, .ref mo), (1, .int (nI p)), (2, .int day), (3, .int more)]) hx hb dX9_costOf_1 hl (by decide) rfl (fun ls hl => ?_)
  refine lv_aload_n hx hb dX9_costOf_3 rfl (lv_at hl 1 rfl) ?_
  refine g_get (C := RX9) (T := TX9) (N := 20) (ci := 9) (index := 64) hx hb hts in_X9_costOf_9 hown hK hP 0 11 rfl rfl (by decide) (List.mem_of_getElem? (i := 1) rfl) rfl dX9_costOf_4 ?_
  refine lv_iconst (v := 3) hx hb dX9_costOf_7 (by decide) ?_
  refine lv_iload_n hx hb dX9_costOf_8 rfl (lv_at hl 2 rfl) ?_
  refine lv_iadd hx hb dX9_costOf_9 ?_
  refine g_iald hx hb hK hP 2 0 rfl rfl (3 + p) (nx_a (rfl) (rfl)) (by omega) (by omega) dX9_costOf_10 ?_
  rw [show (Nw (3 + p) : Int32) = nI (due p) from hd1]
  refine lv_istore (lv' := [(6, .int (nI (due p))), (4, .long 0), (0, .ref mo), (1, .int (nI p)), (2, .int day), (3, .int more)]) hx hb dX9_costOf_11 hl (by decide) rfl (fun ls hl => ?_)
  have L13 : ∀ (nn_ : Nat) (i : Nat) (hi : i ≤ ed - due p ∨ i = 0) (xx_v4 : Int64) (xx_v6 : Int32), (500 - (due p + i)) < nn_ → xx_v4 = ccM In Pd Rt p day more (due p) i → xx_v6 = nI (due p + i) → ∀ (ls : Array Slot), lv_has ls 7 [(0, .ref mo), (1, .int (nI p)), (2, .int day), (3, .int more), (4, .long xx_v4), (6, .int xx_v6)] → W p_ l e_ (RM 1 24) s_ m_ ar_ be_ me_ co_ s_.heap [] 0 0 Q_ (F0 m_ 13 ls []) := by
    intro nn_
    induction nn_ with
    | zero => intro i hi xx_v4 xx_v6 hn_; exact absurd hn_ (Nat.not_lt_zero _)
    | succ nn_ ih13 =>
      intro i hi xx_v4 xx_v6 hn_ e_xx_v4 e_xx_v6 ls hl
      subst e_xx_v4 e_xx_v6
      refine lv_iload hx hb dX9_costOf_13 (lv_at hl 5 rfl) ?_
      refine lv_aload_n hx hb dX9_costOf_15 rfl (lv_at hl 0 rfl) ?_
      refine g_get (C := RX9) (T := TX9) (N := 20) (ci := 9) (index := 64) hx hb hts in_X9_costOf_9 hown hK hP 0 11 rfl rfl (by decide) (List.mem_of_getElem? (i := 1) rfl) rfl dX9_costOf_16 ?_
      refine lv_iconst (v := 2) hx hb dX9_costOf_19 (by decide) ?_
      refine g_iald hx hb hK hP 2 0 rfl rfl 2 (rfl) (by omega) (by omega) dX9_costOf_20 ?_
      rw [show (Nw 2 : Int32) = nI ed from hed]
      refine lv_icmp_ge (tgt := 69) hx hb dX9_costOf_21 (by decide) (fun c21 => ?_) (fun c21 => ?_)
      · refine lv_lload hx hb dX9_costOf_69 (lv_at hl 4 rfl) ?_
        refine lv_ldc2 (v := 100000) hx hb hown (hts (.constantLong RX9 171 (100000)) (List.mem_of_getElem? (i := 4) rfl)) dX9_costOf_71 ?_
        refine lv_ldiv hx hb dX9_costOf_74 (by decide) ?_
        refine lv_l2i (v := ((ccM In Pd Rt p day more (due p) i) / 100000).toInt32) hx hb dX9_costOf_75 rfl ?_
        exact hret _ _ ls (by have q := ge_nI c21 (by omega) (by omega); unfold coM; rw [show i = ed - due p by omega]) dX9_costOf_76
      · have hlt : due p + i < ed := lt_nI c21 (by omega) (by omega)
        refine lv_lload hx hb dX9_costOf_24 (lv_at hl 4 rfl) ?_
        refine lv_aload_n hx hb dX9_costOf_26 rfl (lv_at hl 0 rfl) ?_
        refine lv_iload_n hx hb dX9_costOf_27 rfl (lv_at hl 1 rfl) ?_
        refine lv_aload_n hx hb dX9_costOf_28 rfl (lv_at hl 0 rfl) ?_
        refine g_get (C := RX9) (T := TX9) (N := 20) (ci := 9) (index := 76) hx hb hts in_X9_costOf_9 hown hK hP 0 16 rfl rfl (by decide) (List.mem_of_getElem? (i := 2) rfl) rfl dX9_costOf_29 ?_
        refine lv_iload hx hb dX9_costOf_32 (lv_at hl 5 rfl) ?_
        refine g_iald hx hb hK hP 6 0 rfl rfl (due p + i) (rfl) (by omega) (by omega) dX9_costOf_34 ?_
        refine lv_iload hx hb dX9_costOf_35 (lv_at hl 5 rfl) ?_
        refine lv_iload_n hx hb dX9_costOf_37 rfl (lv_at hl 2 rfl) ?_
        refine lv_icmp_lt (tgt := 45) hx hb dX9_costOf_38 (by decide) (fun c38 => ?_) (fun c38 => ?_)
        · refine lv_iconst (v := 0) hx hb dX9_costOf_45 (by decide) ?_
          refine lv_iadd hx hb dX9_costOf_46 ?_
          refine rd_V (As := [.int (nI p), .int ((Pd (due p + i)) + 0)]) (rest := [.long (ccM In Pd Rt p day more (due p) i)]) (ci := 9) (kX9_uncovered l D cI cB mo q1 q2 q3 q4 q5 q6 q7 q8 th tn sz tt fm so nu fau plc wd sm rm Tp Nw Rr Sn In Pd Rt Rw p ((Pd (due p + i)) + 0) (hp)) ⟨hx, hb, hml, hown, hts⟩ (cwV 2 hts gX9_costOf_X9_uncovered rfl rfl rfl (by decide +kernel) ⟨Nat.le_of_ble_eq_true rfl, Nat.le_of_ble_eq_true rfl⟩) hK hP [0, 1, 2, 3, 4, 5, 6, 7, 8] rfl 0 rfl rfl rfl rfl hl.1 (Nat.le_of_ble_eq_true rfl) dX9_costOf_47 ⟨Nat.le_refl _, Nat.le_refl _⟩ ?_
          refine lv_i2l (v := (unM In p ((Pd (due p + i)) + 0)).toInt64) hx hb dX9_costOf_50 rfl ?_
          refine lv_aload_n hx hb dX9_costOf_51 rfl (lv_at hl 0 rfl) ?_
          refine g_get (C := RX9) (T := TX9) (N := 20) (ci := 9) (index := 79) hx hb hts in_X9_costOf_9 hown hK hP 0 17 rfl rfl (by decide) (List.mem_of_getElem? (i := 3) rfl) rfl dX9_costOf_52 ?_
          refine lv_iload hx hb dX9_costOf_55 (lv_at hl 5 rfl) ?_
          refine g_iald hx hb hK hP 7 0 rfl rfl (due p + i) (rfl) (by omega) (by omega) dX9_costOf_57 ?_
          refine lv_i2l (v := (Rt (due p + i)).toInt64) hx hb dX9_costOf_58 rfl ?_
          refine lv_lmul hx hb dX9_costOf_59 ?_
          refine lv_ladd hx hb dX9_costOf_60 ?_
          refine lv_lstore (lv' := [(4, .long ((ccM In Pd Rt p day more (due p) i) + (((unM In p ((Pd (due p + i)) + 0)).toInt64) * ((Rt (due p + i)).toInt64)))), (0, .ref mo), (1, .int (nI p)), (2, .int day), (3, .int more), (6, .int (nI (due p + i)))]) hx hb dX9_costOf_61 hl (by decide) rfl (fun ls hl => ?_)
          refine lv_iinc (v := nI ((due p + i) + 1)) (lv' := [(6, .int (nI ((due p + i) + 1))), (4, .long ((ccM In Pd Rt p day more (due p) i) + (((unM In p ((Pd (due p + i)) + 0)).toInt64) * ((Rt (due p + i)).toInt64)))), (0, .ref mo), (1, .int (nI p)), (2, .int day), (3, .int more)]) hx hb dX9_costOf_63 hl (k := 5) rfl (nI_add _ 1) (by decide) rfl (fun ls hl => ?_)
          refine lv_goto (tgt := 13) hx hb dX9_costOf_66 (by decide) ?_
          exact ih13 (i + 1) (Or.inl (by omega)) _ _ (by omega) (by simp [ccM, c21, c38]) (rfl) ls (lv_sub hl [2, 3, 4, 5, 1, 0] rfl)
        · refine lv_iload_n hx hb dX9_costOf_41 rfl (lv_at hl 3 rfl) ?_
          refine lv_goto (tgt := 46) hx hb dX9_costOf_42 (by decide) ?_
          refine lv_iadd hx hb dX9_costOf_46 ?_
          refine rd_V (As := [.int (nI p), .int ((Pd (due p + i)) + more)]) (rest := [.long (ccM In Pd Rt p day more (due p) i)]) (ci := 9) (kX9_uncovered l D cI cB mo q1 q2 q3 q4 q5 q6 q7 q8 th tn sz tt fm so nu fau plc wd sm rm Tp Nw Rr Sn In Pd Rt Rw p ((Pd (due p + i)) + more) (hp)) ⟨hx, hb, hml, hown, hts⟩ (cwV 2 hts gX9_costOf_X9_uncovered rfl rfl rfl (by decide +kernel) ⟨Nat.le_of_ble_eq_true rfl, Nat.le_of_ble_eq_true rfl⟩) hK hP [0, 1, 2, 3, 4, 5, 6, 7, 8] rfl 0 rfl rfl rfl rfl hl.1 (Nat.le_of_ble_eq_true rfl) dX9_costOf_47 ⟨Nat.le_refl _, Nat.le_refl _⟩ ?_
          refine lv_i2l (v := (unM In p ((Pd (due p + i)) + more)).toInt64) hx hb dX9_costOf_50 rfl ?_
          refine lv_aload_n hx hb dX9_costOf_51 rfl (lv_at hl 0 rfl) ?_
          refine g_get (C := RX9) (T := TX9) (N := 20) (ci := 9) (index := 79) hx hb hts in_X9_costOf_9 hown hK hP 0 17 rfl rfl (by decide) (List.mem_of_getElem? (i := 3) rfl) rfl dX9_costOf_52 ?_
          refine lv_iload hx hb dX9_costOf_55 (lv_at hl 5 rfl) ?_
          refine g_iald hx hb hK hP 7 0 rfl rfl (due p + i) (rfl) (by omega) (by omega) dX9_costOf_57 ?_
          refine lv_i2l (v := (Rt (due p + i)).toInt64) hx hb dX9_costOf_58 rfl ?_
          refine lv_lmul hx hb dX9_costOf_59 ?_
          refine lv_ladd hx hb dX9_costOf_60 ?_
          refine lv_lstore (lv' := [(4, .long ((ccM In Pd Rt p day more (due p) i) + (((unM In p ((Pd (due p + i)) + more)).toInt64) * ((Rt (due p + i)).toInt64)))), (0, .ref mo), (1, .int (nI p)), (2, .int day), (3, .int more), (6, .int (nI (due p + i)))]) hx hb dX9_costOf_61 hl (by decide) rfl (fun ls hl => ?_)
          refine lv_iinc (v := nI ((due p + i) + 1)) (lv' := [(6, .int (nI ((due p + i) + 1))), (4, .long ((ccM In Pd Rt p day more (due p) i) + (((unM In p ((Pd (due p + i)) + more)).toInt64) * ((Rt (due p + i)).toInt64)))), (0, .ref mo), (1, .int (nI p)), (2, .int day), (3, .int more)]) hx hb dX9_costOf_63 hl (k := 5) rfl (nI_add _ 1) (by decide) rfl (fun ls hl => ?_)
          refine lv_goto (tgt := 13) hx hb dX9_costOf_66 (by decide) ?_
          exact ih13 (i + 1) (Or.inl (by omega)) _ _ (by omega) (by simp [ccM, c21, c38]) (rfl) ls (lv_sub hl [2, 3, 4, 5, 1, 0] rfl)
  exact L13 (500 - (due p + 0) + 1) 0 (Or.inr rfl) _ _ (Nat.lt_succ_self _) (rfl) (rfl) ls (lv_sub hl [2, 3, 4, 5, 1, 0] rfl)

set_option maxHeartbeats 4000000 in
set_option maxRecDepth 100000 in
theorem kX9_costsWith (l : Launch) (D : va_G) (cI cB : ClassId) (mo q1 q2 q3 q4 q5 q6 q7 q8 : Nat) (th tn sz tt fm so nu fau plc : Int32) (wd : Int64) (sm rm : Int32) (Tp Nw Rr Sn In Pd Rt Rw : Nat → Int32) (day more : Int32) (due : Nat → Nat) (ed : Nat) (hdue : ∀ p, p < 4 → Nw (3 + p) = nI (due p) ∧ due p ≤ 499) (hed : Nw 2 = nI ed) (hel : ed ≤ 499) : Rd l D (TY cI cB) yX9_costsWith wsX9_costsWith 2 50 [.ref mo, .int day, .int more] [(mo, .inr (9, [.int th, .ref q1, .int tn, .int sz, .int tt, .int fm, .int so, .int nu, .int fau, .int plc, .long wd, .ref q2, .ref q3, .ref q4, .int sm, .ref q5, .ref q6, .ref q7, .ref q8, .int rm])), (q1, .inl (cI, 840, .inl Tp)), (q2, .inl (cI, 240, .inl Nw)), (q3, .inl (cI, 240, .inl Rr)), (q4, .inl (cI, 2880, .inl Sn)), (q5, .inl (cI, 4, .inl In)), (q6, .inl (cI, 500, .inl Pd)), (q7, .inl (cI, 500, .inl Rt)), (q8, .inl (cI, 10000, .inl Rw))] (cwM In Pd Rt due ed day more 4) := by
  refine rd_i (cc := cX9_costsWith) (maxL := 5) (by decide) rfl (Nat.le_of_ble_eq_true rfl) ?_
  intro p_ e_ s_ m_ ar_ be_ me_ co_ ls Q_ hx hb hml hown hts hP hK hl hret
  have hown : s_.vm.findClass RX9 = some m_.cls := hown
  have hl : lv_has ls 5 [(0, .ref mo), (1, .int day), (2, .int more)] := hl
  refine lv_iconst (v := 0) hx hb dX9_costsWith_0 (by decide) ?_
  refine lv_istore_n (lv' := [(3, .int 0), (0, .ref mo), (1, .int day), (2, .int more)]) hx hb dX9_costsWith_1 rfl hl (by decide) rfl (fun ls hl => ?_)
  refine lv_iconst (v := 0) hx hb dX9_costsWith_2 (by decide) ?_
  refine lv_istore (lv' := [(4, .int 0), (3, .int 0), (0, .ref mo), (1, .int day), (2, .int more)]) hx hb dX9_costsWith_3 hl (by decide) rfl (fun ls hl => ?_)
  have L5 : ∀ (nn_ : Nat) (i : Nat) (hi : i ≤ 4) (xx_v3 : Int32) (xx_v4 : Int32), (4 - i) < nn_ → xx_v3 = cwM In Pd Rt due ed day more i → xx_v4 = nI i → ∀ (ls : Array Slot), lv_has ls 5 [(0, .ref mo), (1, .int day), (2, .int more), (3, .int xx_v3), (4, .int xx_v4)] → W p_ l e_ (RM 2 50) s_ m_ ar_ be_ me_ co_ s_.heap [] 0 0 Q_ (F0 m_ 5 ls []) := by
    intro nn_
    induction nn_ with
    | zero => intro i hi xx_v3 xx_v4 hn_; exact absurd hn_ (Nat.not_lt_zero _)
    | succ nn_ ih5 =>
      intro i hi xx_v3 xx_v4 hn_ e_xx_v3 e_xx_v4 ls hl
      subst e_xx_v3 e_xx_v4
      refine lv_iload hx hb dX9_costsWith_5 (lv_at hl 4 rfl) ?_
      refine lv_iconst (v := 4) hx hb dX9_costsWith_7 (by decide) ?_
      refine lv_icmp_ge (tgt := 28) hx hb dX9_costsWith_8 (by decide) (fun c8 => ?_) (fun c8 => ?_)
      · refine lv_iload_n hx hb dX9_costsWith_28 rfl (lv_at hl 3 rfl) ?_
        exact hret _ _ ls (by have q := ge_nI (b := 4) c8 (by omega) (by omega); rw [show i = 4 by omega]) dX9_costsWith_29
      · have hlt : i < 4 := lt_nI (b := 4) c8 (by omega) (by omega)
        refine lv_iload_n hx hb dX9_costsWith_11 rfl (lv_at hl 3 rfl) ?_
        refine lv_aload_n hx hb dX9_costsWith_12 rfl (lv_at hl 0 rfl) ?_
        refine lv_iload hx hb dX9_costsWith_13 (lv_at hl 4 rfl) ?_
        refine lv_iload_n hx hb dX9_costsWith_15 rfl (lv_at hl 1 rfl) ?_
        refine lv_iload_n hx hb dX9_costsWith_16 rfl (lv_at hl 2 rfl) ?_
        refine rd_V (As := [.int (nI i), .int day, .int more]) (rest := [.int (cwM In Pd Rt due ed day more i)]) (ci := 9) (kX9_costOf l D cI cB mo q1 q2 q3 q4 q5 q6 q7 q8 th tn sz tt fm so nu fau plc wd sm rm Tp Nw Rr Sn In Pd Rt Rw i day more due ed (by assumption) (by assumption) (by assumption) (by assumption)) ⟨hx, hb, hml, hown, hts⟩ (cwV 3 hts gX9_costsWith_X9_costOf rfl rfl rfl (by decide +kernel) ⟨Nat.le_of_ble_eq_true rfl, Nat.le_of_ble_eq_true rfl⟩) hK hP [0, 1, 2, 3, 4, 5, 6, 7, 8] rfl 0 rfl rfl rfl rfl hl.1 (Nat.le_of_ble_eq_true rfl) dX9_costsWith_17 ⟨Nat.le_refl _, Nat.le_refl _⟩ ?_
        refine lv_iadd hx hb dX9_costsWith_20 ?_
        refine lv_istore_n (lv' := [(3, .int ((cwM In Pd Rt due ed day more i) + (coM In Pd Rt i day more (due i) ed))), (0, .ref mo), (1, .int day), (2, .int more), (4, .int (nI i))]) hx hb dX9_costsWith_21 rfl hl (by decide) rfl (fun ls hl => ?_)
        refine lv_iinc (v := nI (i + 1)) (lv' := [(4, .int (nI (i + 1))), (3, .int ((cwM In Pd Rt due ed day more i) + (coM In Pd Rt i day more (due i) ed))), (0, .ref mo), (1, .int day), (2, .int more)]) hx hb dX9_costsWith_22 hl (k := 4) rfl (nI_add _ 1) (by decide) rfl (fun ls hl => ?_)
        refine lv_goto (tgt := 5) hx hb dX9_costsWith_25 (by decide) ?_
        exact ih5 (i + 1) (by omega) _ _ (by omega) (rfl) (rfl) ls (lv_sub hl [2, 3, 4, 1, 0] rfl)
  exact L5 (4 - 0 + 1) 0 (by omega) _ _ (Nat.lt_succ_self _) (rfl) (nI_0.symm) ls (lv_sub hl [2, 3, 4, 1, 0] rfl)

set_option maxHeartbeats 4000000 in
set_option maxRecDepth 100000 in
theorem kX9_costs (l : Launch) (D : va_G) (cI cB : ClassId) (mo q1 q2 q3 q4 q5 q6 q7 q8 : Nat) (th tn sz tt fm so nu fau plc : Int32) (wd : Int64) (sm rm : Int32) (Tp Nw Rr Sn In Pd Rt Rw : Nat → Int32) (ns nr ni np nb : Nat) (due : Nat → Nat) (ed : Nat) (hcn : cnt Nw ns nr ni np nb) (hcut : ∀ p, p < 4 → 1 ≤ Nw (7 + p) + 1) (hdue : ∀ p, p < 4 → Nw (3 + p) = nI (due p) ∧ due p ≤ 499) (hed : Nw 2 = nI ed) (hel : ed ≤ 499) : Wr l D (TY cI cB) yX9_costs wsX9_costs 6 137 [.ref mo] [(mo, .inr (9, [.int th, .ref q1, .int tn, .int sz, .int tt, .int fm, .int so, .int nu, .int fau, .int plc, .long wd, .ref q2, .ref q3, .ref q4, .int sm, .ref q5, .ref q6, .ref q7, .ref q8, .int rm])), (q1, .inl (cI, 840, .inl Tp)), (q2, .inl (cI, 240, .inl Nw)), (q3, .inl (cI, 240, .inl Rr)), (q4, .inl (cI, 2880, .inl Sn)), (q5, .inl (cI, 4, .inl In)), (q6, .inl (cI, 500, .inl Pd)), (q7, .inl (cI, 500, .inl Rt)), (q8, .inl (cI, 10000, .inl Rw))] [(mo, .inr (9, [.int th, .ref q1, .int tn, .int sz, .int tt, .int fm, .int so, .int nu, .int fau, .int plc, .long wd, .ref q2, .ref q3, .ref q4, .int sm, .ref q5, .ref q6, .ref q7, .ref q8, .int rm])), (q1, .inl (cI, 840, .inl Tp)), (q2, .inl (cI, 240, .inl Nw)), (q3, .inl (cI, 240, .inl Rr)), (q4, .inl (cI, 2880, .inl Sn)), (q5, .inl (cI, 4, .inl (ov (inM (lsM Nw ns ni (Nw 239))) In 4))), (q6, .inl (cI, 500, .inl (ov (fun j => paM Nw np nb (nI j)) Pd 500))), (q7, .inl (cI, 500, .inl (ov (fun j => raM Nw nr (nI j)) Rt 500))), (q8, .inl (cI, 10000, .inl Rw))] (some (.int (cwM (ov (inM (lsM Nw ns ni (Nw 239))) In 4) (ov (fun j => paM Nw np nb (nI j)) Pd 500) (ov (fun j => raM Nw nr (nI j)) Rt 500) due ed 0 0 4))) := by
  refine wr_i (cc := cX9_costs) (maxL := 1) (by decide) rfl (Nat.le_of_ble_eq_true rfl) ?_
  intro p_ e_ s_ m_ ar_ be_ me_ co_ ls Q_ A_ hx hb hml hown hts hP hK hD hS hl hret
  have hown : s_.vm.findClass RX9 = some m_.cls := hown
  have hl : lv_has ls 1 [(0, .ref mo)] := hl
  refine lv_aload_n hx hb dX9_costs_0 rfl (lv_at hl 0 rfl) ?_
  refine wp_V (As := []) (rest := []) (ci := 9) (ws' := [(mo, .inr (9, [.int th, .ref q1, .int tn, .int sz, .int tt, .int fm, .int so, .int nu, .int fau, .int plc, .long wd, .ref q2, .ref q3, .ref q4, .int sm, .ref q5, .ref q6, .ref q7, .ref q8, .int rm])), (q1, .inl (cI, 840, .inl Tp)), (q2, .inl (cI, 240, .inl Nw)), (q3, .inl (cI, 240, .inl Rr)), (q4, .inl (cI, 2880, .inl Sn)), (q5, .inl (cI, 4, .inl (ov (inM (lsM Nw ns ni (Nw 239))) In 4))), (q6, .inl (cI, 500, .inl Pd)), (q7, .inl (cI, 500, .inl Rt)), (q8, .inl (cI, 10000, .inl Rw))]) (kX9_laysInstalments_ l D cI cB mo q1 q2 q3 q4 q5 q6 q7 q8 th tn sz tt fm so nu fau plc wd sm rm Tp Nw Rr Sn In Pd Rt Rw ns nr ni np nb (by assumption) (by assumption)) ⟨hx, hb, hml, hown, hts⟩ (cwV 0 hts gX9_costs_X9_laysInstalments_ rfl rfl rfl (by decide +kernel) ⟨Nat.le_of_ble_eq_true rfl, Nat.le_of_ble_eq_true rfl⟩) hK hP hD hS [0, 1, 2, 3, 4, 5, 6, 7, 8] [] rfl rfl rfl 9 rfl (by decide +kernel) (by decide +kernel) rfl (by decide +kernel) 0 rfl rfl rfl rfl hl.1 (Nat.le_of_ble_eq_true rfl) dX9_costs_1 ⟨Nat.le_refl _, Nat.le_refl _⟩ (fun H_ lc_ hP hD hS => ?_)
  show W p_ l e_ (RM 6 137) s_ m_ ar_ be_ me_ co_ H_ lc_ 0 0 Q_ (F0 m_ 4 ls [])
  refine lv_aload_n hx hb dX9_costs_4 rfl (lv_at hl 0 rfl) ?_
  refine wp_V (As := []) (rest := []) (ci := 9) (ws' := [(mo, .inr (9, [.int th, .ref q1, .int tn, .int sz, .int tt, .int fm, .int so, .int nu, .int fau, .int plc, .long wd, .ref q2, .ref q3, .ref q4, .int sm, .ref q5, .ref q6, .ref q7, .ref q8, .int rm])), (q1, .inl (cI, 840, .inl Tp)), (q2, .inl (cI, 240, .inl Nw)), (q3, .inl (cI, 240, .inl Rr)), (q4, .inl (cI, 2880, .inl Sn)), (q5, .inl (cI, 4, .inl (ov (inM (lsM Nw ns ni (Nw 239))) In 4))), (q6, .inl (cI, 500, .inl (ov (fun j => paM Nw np nb (nI j)) Pd 500))), (q7, .inl (cI, 500, .inl (ov (fun j => raM Nw nr (nI j)) Rt 500))), (q8, .inl (cI, 10000, .inl Rw))]) (kX9_laysDays l D cI cB mo q1 q2 q3 q4 q5 q6 q7 q8 th tn sz tt fm so nu fau plc wd sm rm Tp Nw Rr Sn (ov (inM (lsM Nw ns ni (Nw 239))) In 4) Pd Rt Rw ns nr ni np nb (by assumption)) ⟨hx, hb, hml, hown, hts⟩ (cwV 0 hts gX9_costs_X9_laysDays rfl rfl rfl (by decide +kernel) ⟨Nat.le_of_ble_eq_true rfl, Nat.le_of_ble_eq_true rfl⟩) hK hP hD hS [0, 1, 2, 3, 4, 5, 6, 7, 8] [] rfl rfl rfl 9 rfl (by decide +kernel) (by decide +kernel) rfl (by decide +kernel) 0 rfl rfl rfl rfl hl.1 (Nat.le_of_ble_eq_true rfl) dX9_costs_5 ⟨Nat.le_refl _, Nat.le_refl _⟩ (fun H_ lc_ hP hD hS => ?_)
  show W p_ l e_ (RM 6 137) s_ m_ ar_ be_ me_ co_ H_ lc_ 0 0 Q_ (F0 m_ 8 ls [])
  refine lv_aload_n hx hb dX9_costs_8 rfl (lv_at hl 0 rfl) ?_
  refine lv_iconst (v := 0) hx hb dX9_costs_9 (by decide) ?_
  refine lv_iconst (v := 0) hx hb dX9_costs_10 (by decide) ?_
  refine rd_V (As := [.int 0, .int 0]) (rest := []) (ci := 9) (kX9_costsWith l D cI cB mo q1 q2 q3 q4 q5 q6 q7 q8 th tn sz tt fm so nu fau plc wd sm rm Tp Nw Rr Sn (ov (inM (lsM Nw ns ni (Nw 239))) In 4) (ov (fun j => paM Nw np nb (nI j)) Pd 500) (ov (fun j => raM Nw nr (nI j)) Rt 500) Rw 0 0 due ed (by assumption) (by assumption) (by assumption)) ⟨hx, hb, hml, hown, hts⟩ (cwV 2 hts gX9_costs_X9_costsWith rfl rfl rfl (by decide +kernel) ⟨Nat.le_of_ble_eq_true rfl, Nat.le_of_ble_eq_true rfl⟩) hK hP [0, 1, 2, 3, 4, 5, 6, 7, 8] rfl 0 rfl rfl rfl rfl hl.1 (Nat.le_of_ble_eq_true rfl) dX9_costs_11 ⟨Nat.le_refl _, Nat.le_refl _⟩ ?_
  exact hret _ _ _ _ ls hS (hP) (rfl) dX9_costs_14

theorem in_X9_freeAt_9 : ∀ w ∈ wsX90, w ∈ wsX9_freeAt := fun _ h => List.mem_cons_of_mem _ (List.mem_append_right _ (h))
set_option maxHeartbeats 4000000 in
set_option maxRecDepth 100000 in
theorem kX9_freeAt (l : Launch) (D : va_G) (cI cB : ClassId) (mo q1 q2 q3 q4 q5 q6 q7 q8 : Nat) (th tn sz tt fm so nu fau plc : Int32) (wd : Int64) (sm rm : Int32) (Tp Nw Rr Sn In Pd Rt Rw : Nat → Int32) (ns nr ni np nb : Nat) (d : Int32) (hcn : cnt Nw ns nr ni np nb) : Rd l D (TY cI cB) yX9_freeAt wsX9_freeAt 2 45 [.ref mo, .int d] [(mo, .inr (9, [.int th, .ref q1, .int tn, .int sz, .int tt, .int fm, .int so, .int nu, .int fau, .int plc, .long wd, .ref q2, .ref q3, .ref q4, .int sm, .ref q5, .ref q6, .ref q7, .ref q8, .int rm])), (q1, .inl (cI, 840, .inl Tp)), (q2, .inl (cI, 240, .inl Nw)), (q3, .inl (cI, 240, .inl Rr)), (q4, .inl (cI, 2880, .inl Sn)), (q5, .inl (cI, 4, .inl In)), (q6, .inl (cI, 500, .inl Pd)), (q7, .inl (cI, 500, .inl Rt)), (q8, .inl (cI, 10000, .inl Rw))] (posM (frM Nw In d (paM Nw np nb d) 4)) := by
  refine rd_i (cc := cX9_freeAt) (maxL := 4) (by decide) rfl (Nat.le_of_ble_eq_true rfl) ?_
  intro p_ e_ s_ m_ ar_ be_ me_ co_ ls Q_ hx hb hml hown hts hP hK hl hret
  have hown : s_.vm.findClass RX9 = some m_.cls := hown
  have hl : lv_has ls 4 [(0, .ref mo), (1, .int d)] := hl
  refine lv_aload_n hx hb dX9_freeAt_0 rfl (lv_at hl 0 rfl) ?_
  refine lv_iload_n hx hb dX9_freeAt_1 rfl (lv_at hl 1 rfl) ?_
  refine rd_V (As := [.int d]) (rest := []) (ci := 9) (kX9_paidAt l D cI cB mo q1 q2 q3 q4 q5 q6 q7 q8 th tn sz tt fm so nu fau plc wd sm rm Tp Nw Rr Sn In Pd Rt Rw ns nr ni np nb d (by assumption)) ⟨hx, hb, hml, hown, hts⟩ (cwV 1 hts gX9_freeAt_X9_paidAt rfl rfl rfl (by decide +kernel) ⟨Nat.le_of_ble_eq_true rfl, Nat.le_of_ble_eq_true rfl⟩) hK hP [0, 1, 2, 3, 4, 5, 6, 7, 8] rfl 0 rfl rfl rfl rfl hl.1 (Nat.le_of_ble_eq_true rfl) dX9_freeAt_2 ⟨Nat.le_refl _, Nat.le_refl _⟩ ?_
  refine lv_istore_n (lv' := [(2, .int (paM Nw np nb d)), (0, .ref mo), (1, .int d)]) hx hb dX9_freeAt_5 rfl hl (by decide) rfl (fun ls hl => ?_)
  refine lv_iconst (v := 0) hx hb dX9_freeAt_6 (by decide) ?_
  refine lv_istore_n (lv' := [(3, .int 0), (2, .int (paM Nw np nb d)), (0, .ref mo), (1, .int d)]) hx hb dX9_freeAt_7 rfl hl (by decide) rfl (fun ls hl => ?_)
  have L8 : ∀ (nn_ : Nat) (i : Nat) (hi : i ≤ 4) (xx_v2 : Int32) (xx_v3 : Int32), (4 - i) < nn_ → xx_v2 = frM Nw In d (paM Nw np nb d) i → xx_v3 = nI i → ∀ (ls : Array Slot), lv_has ls 4 [(0, .ref mo), (1, .int d), (2, .int xx_v2), (3, .int xx_v3)] → W p_ l e_ (RM 2 45) s_ m_ ar_ be_ me_ co_ s_.heap [] 0 0 Q_ (F0 m_ 8 ls []) := by
    intro nn_
    induction nn_ with
    | zero => intro i hi xx_v2 xx_v3 hn_; exact absurd hn_ (Nat.not_lt_zero _)
    | succ nn_ ih8 =>
      intro i hi xx_v2 xx_v3 hn_ e_xx_v2 e_xx_v3 ls hl
      subst e_xx_v2 e_xx_v3
      refine lv_iload_n hx hb dX9_freeAt_8 rfl (lv_at hl 3 rfl) ?_
      refine lv_iconst (v := 4) hx hb dX9_freeAt_9 (by decide) ?_
      refine lv_icmp_ge (tgt := 40) hx hb dX9_freeAt_10 (by decide) (fun c10 => ?_) (fun c10 => ?_)
      · have hie : i = 4 := by have q := ge_nI (b := 4) c10 (by omega) (by omega); omega
        refine lv_iload_n hx hb dX9_freeAt_40 rfl (lv_at hl 2 rfl) ?_
        refine lv_if_le (tgt := 48) hx hb dX9_freeAt_41 (by decide) (fun c41 => ?_) (fun c41 => ?_)
        · refine lv_iconst (v := 0) hx hb dX9_freeAt_48 (by decide) ?_
          exact hret _ _ ls (by rw [hie] at *; simp [posM, c10, c41]) dX9_freeAt_49
        · refine lv_iload_n hx hb dX9_freeAt_44 rfl (lv_at hl 2 rfl) ?_
          refine lv_goto (tgt := 49) hx hb dX9_freeAt_45 (by decide) ?_
          exact hret _ _ ls (by rw [hie] at *; simp [posM, c10, c41]) dX9_freeAt_49
      · have hlt : i < 4 := lt_nI (b := 4) c10 (by omega) (by omega)
        refine lv_aload_n hx hb dX9_freeAt_13 rfl (lv_at hl 0 rfl) ?_
        refine g_get (C := RX9) (T := TX9) (N := 20) (ci := 9) (index := 64) hx hb hts in_X9_freeAt_9 hown hK hP 0 11 rfl rfl (by decide) (List.mem_of_getElem? (i := 1) rfl) rfl dX9_freeAt_14 ?_
        refine lv_iconst (v := 3) hx hb dX9_freeAt_17 (by decide) ?_
        refine lv_iload_n hx hb dX9_freeAt_18 rfl (lv_at hl 3 rfl) ?_
        refine lv_iadd hx hb dX9_freeAt_19 ?_
        refine g_iald hx hb hK hP 2 0 rfl rfl (3 + i) (nx_a (rfl) (rfl)) (by omega) (by omega) dX9_freeAt_20 ?_
        refine lv_iload_n hx hb dX9_freeAt_21 rfl (lv_at hl 1 rfl) ?_
        refine lv_icmp_gt (tgt := 34) hx hb dX9_freeAt_22 (by decide) (fun c22 => ?_) (fun c22 => ?_)
        · refine lv_iinc (v := nI (i + 1)) (lv' := [(3, .int (nI (i + 1))), (0, .ref mo), (1, .int d), (2, .int (frM Nw In d (paM Nw np nb d) i))]) hx hb dX9_freeAt_34 hl (k := 3) rfl (nI_add _ 1) (by decide) rfl (fun ls hl => ?_)
          refine lv_goto (tgt := 8) hx hb dX9_freeAt_37 (by decide) ?_
          exact ih8 (i + 1) (by omega) _ _ (by omega) (by simp [frM, c10, c22]) (rfl) ls (lv_sub hl [1, 2, 3, 0] rfl)
        · refine lv_iload_n hx hb dX9_freeAt_25 rfl (lv_at hl 2 rfl) ?_
          refine lv_aload_n hx hb dX9_freeAt_26 rfl (lv_at hl 0 rfl) ?_
          refine g_get (C := RX9) (T := TX9) (N := 20) (ci := 9) (index := 73) hx hb hts in_X9_freeAt_9 hown hK hP 0 15 rfl rfl (by decide) (List.mem_of_getElem? (i := 2) rfl) rfl dX9_freeAt_27 ?_
          refine lv_iload_n hx hb dX9_freeAt_30 rfl (lv_at hl 3 rfl) ?_
          refine g_iald hx hb hK hP 5 0 rfl rfl i (rfl) (by omega) (by omega) dX9_freeAt_31 ?_
          refine lv_isub hx hb dX9_freeAt_32 ?_
          refine lv_istore_n (lv' := [(2, .int ((frM Nw In d (paM Nw np nb d) i) - (In i))), (0, .ref mo), (1, .int d), (3, .int (nI i))]) hx hb dX9_freeAt_33 rfl hl (by decide) rfl (fun ls hl => ?_)
          refine lv_iinc (v := nI (i + 1)) (lv' := [(3, .int (nI (i + 1))), (2, .int ((frM Nw In d (paM Nw np nb d) i) - (In i))), (0, .ref mo), (1, .int d)]) hx hb dX9_freeAt_34 hl (k := 3) rfl (nI_add _ 1) (by decide) rfl (fun ls hl => ?_)
          refine lv_goto (tgt := 8) hx hb dX9_freeAt_37 (by decide) ?_
          exact ih8 (i + 1) (by omega) _ _ (by omega) (by simp [frM, c10, c22]) (rfl) ls (lv_sub hl [2, 3, 1, 0] rfl)
  exact L8 (4 - 0 + 1) 0 (by omega) _ _ (Nat.lt_succ_self _) (rfl) (nI_0.symm) ls (lv_sub hl [2, 3, 1, 0] rfl)

theorem in_X9_isPay_9 : ∀ w ∈ wsX90, w ∈ wsX9_isPay := fun _ h => List.mem_cons_of_mem _ (List.mem_append_right _ (h))
set_option maxHeartbeats 4000000 in
set_option maxRecDepth 100000 in
theorem kX9_isPay (l : Launch) (D : va_G) (cI cB : ClassId) (mo q1 q2 q3 q4 q5 q6 q7 q8 : Nat) (th tn sz tt fm so nu fau plc : Int32) (wd : Int64) (sm rm : Int32) (Tp Nw Rr Sn In Pd Rt Rw : Nat → Int32) (v : Int32)  : Rd l D (TY cI cB) yX9_isPay wsX9_isPay 1 22 [.ref mo, .int v] [(mo, .inr (9, [.int th, .ref q1, .int tn, .int sz, .int tt, .int fm, .int so, .int nu, .int fau, .int plc, .long wd, .ref q2, .ref q3, .ref q4, .int sm, .ref q5, .ref q6, .ref q7, .ref q8, .int rm])), (q1, .inl (cI, 840, .inl Tp)), (q2, .inl (cI, 240, .inl Nw)), (q3, .inl (cI, 240, .inl Rr)), (q4, .inl (cI, 2880, .inl Sn)), (q5, .inl (cI, 4, .inl In)), (q6, .inl (cI, 500, .inl Pd)), (q7, .inl (cI, 500, .inl Rt)), (q8, .inl (cI, 10000, .inl Rw))] (isInM v 0 (Nw 117 - 1)) := by
  refine rd_z (cc := cX9_isPay) (maxL := 2) (by decide) rfl (Nat.le_of_ble_eq_true rfl) ?_
  intro p_ e_ s_ m_ ar_ be_ me_ co_ ls Q_ hx hb hml hown hts hP hK hl hret
  have hown : s_.vm.findClass RX9 = some m_.cls := hown
  have hl : lv_has ls 2 [(0, .ref mo), (1, .int v)] := hl
  refine lv_iload_n hx hb dX9_isPay_0 rfl (lv_at hl 1 rfl) ?_
  refine lv_iconst (v := 0) hx hb dX9_isPay_1 (by decide) ?_
  refine lv_aload_n hx hb dX9_isPay_2 rfl (lv_at hl 0 rfl) ?_
  refine g_get (C := RX9) (T := TX9) (N := 20) (ci := 9) (index := 64) hx hb hts in_X9_isPay_9 hown hK hP 0 11 rfl rfl (by decide) (List.mem_of_getElem? (i := 1) rfl) rfl dX9_isPay_3 ?_
  refine lv_bipush (v := 117) hx hb dX9_isPay_6 (by decide) ?_
  refine g_iald hx hb hK hP 2 0 rfl rfl 117 (rfl) (by omega) (by omega) dX9_isPay_8 ?_
  refine lv_iconst (v := 1) hx hb dX9_isPay_9 (by decide) ?_
  refine lv_isub hx hb dX9_isPay_10 ?_
  refine rd_S (As := [.int v, .int 0, .int ((Nw 117) - 1)]) (rest := []) (kX9_isIn l D cI cB v 0 ((Nw 117) - 1) ) ⟨hx, hb, hml, hown, hts⟩ (va_cwS 3 hts gX9_isPay_X9_isIn rfl rfl rfl (by decide +kernel) ⟨Nat.le_of_ble_eq_true rfl, Nat.le_of_ble_eq_true rfl⟩) hK hP [] rfl rfl rfl hl.1 (Nat.le_of_ble_eq_true rfl) dX9_isPay_11 ⟨Nat.le_refl _, Nat.le_refl _⟩ ?_
  exact hret _ _ ls (rfl) (isInM_nar _ _ _) dX9_isPay_14

