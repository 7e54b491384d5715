def pmM (N : Nat → Int32) (ns nr ni np nb : Nat) (due : Nat → Nat) (ed : Nat) (In Pd Rt : Nat → Int32) (p : Nat) (w : Int32) : Int32 :=
  if w = 3 then sbM N ns ni (chM (fun r => sbM N ns ni r p) (N 239) 3) p else if w = 4 then chM (fun r => sbM N ns ni r p) (N 239) 3 else if w = 5 then (ov (inM (lsM N ns ni (N 239))) In 4) p
  else if w = 6 then coM (ov (inM (lsM N ns ni (N 239))) In 4) (ov (fun j => paM N np nb (nI j)) Pd 500) (ov (fun j => raM N nr (nI j)) Rt 500) p 0 0 (due p) ed
  else if w = 7 then N (3 + p) else if w = 8 then N (7 + p) else if w = 9 then yrM N ni p else sbM N ns ni w p
theorem in_X9_period_9 : ∀ w ∈ wsX90, w ∈ wsX9_period := fun _ h => List.mem_cons_of_mem _ (List.mem_append_right _ (h))
set_option maxHeartbeats 4000000 in
set_option maxRecDepth 100000 in
theorem kX9_period (l : Launch) (D : va_G) (cI cB : ClassId) (mo q1 q2 q3 q4 q5 q6 q7 q8 : Nat) (th tn sz tt fm so nu fau plc : Int32) (wd : Int64) (sm rm : Int32) (Tp Nw Rr Sn In Pd Rt Rw : Nat → Int32) (ns nr ni np nb : Nat) (due : Nat → Nat) (ed : Nat) (p w : Int32) (hcn : cnt Nw ns nr ni np nb) (hcut : ∀ p, p < 4 → 1 ≤ Nw (7 + p) + 1) (hdue : ∀ p, p < 4 → Nw (3 + p) = nI (due p) ∧ due p ≤ 499) (hed : Nw 2 = nI ed) (hel : ed ≤ 499) : We l D (TY cI cB) yX9_period wsX9_period 6 137 [.ref mo, .int p, .int w] (S := (Nat → Int32) × (Nat → Int32) × (Nat → Int32)) [(mo, .inr (9, [.int th, .ref q1, .int tn, .int sz, .int tt, .int fm, .int so, .int nu, .int fau, .int plc, .long wd, .ref q2, .ref q3, .ref q4, .int sm, .ref q5, .ref q6, .ref q7, .ref q8, .int rm])), (q1, .inl (cI, 840, .inl Tp)), (q2, .inl (cI, 240, .inl Nw)), (q3, .inl (cI, 240, .inl Rr)), (q4, .inl (cI, 2880, .inl Sn)), (q5, .inl (cI, 4, .inl In)), (q6, .inl (cI, 500, .inl Pd)), (q7, .inl (cI, 500, .inl Rt)), (q8, .inl (cI, 10000, .inl Rw))] (fun u => [(mo, .inr (9, [.int 0, .ref q1, .int tn, .int sz, .int tt, .int fm, .int so, .int nu, .int fau, .int plc, .long wd, .ref q2, .ref q3, .ref q4, .int sm, .ref q5, .ref q6, .ref q7, .ref q8, .int rm])), (q1, .inl (cI, 840, .inl Tp)), (q2, .inl (cI, 240, .inl Nw)), (q3, .inl (cI, 240, .inl Rr)), (q4, .inl (cI, 2880, .inl Sn)), (q5, .inl (cI, 4, .inl u.1)), (q6, .inl (cI, 500, .inl u.2.1)), (q7, .inl (cI, 500, .inl u.2.2)), (q8, .inl (cI, 10000, .inl Rw))]) (some (.int (if isInM p 0 3 = 0 then -1 else if isInM w 0 9 = 0 then -1 else pmM Nw ns nr ni np nb due ed In Pd Rt p.toNatClampNeg w))) := by
  refine we_i (cc := cX9_period) (maxL := 4) (by decide) rfl (Nat.le_of_ble_eq_true rfl) ?_
  intro p_ e_ s_ m_ ar_ be_ me_ co_ ls Q_ A_ hx hb hml hown hts hP hK hD hS hl hret
  have hown : s_.vm.findClass RX9 = some m_.cls := hown
  have hl : lv_has ls 4 [(0, .ref mo), (1, .int p), (2, .int w)] := hl
  refine lv_aload_n hx hb dX9_period_0 rfl (lv_at hl 0 rfl) ?_
  refine lv_iconst (v := 0) hx hb dX9_period_1 (by decide) ?_
  refine g_put (C := RX9) (T := TX9) (N := 20) (ci := 9) (index := 1) (v := .int 0) (ws' := [(mo, .inr (9, [.int 0, .ref q1, .int tn, .int sz, .int tt, .int fm, .int so, .int nu, .int fau, .int plc, .long wd, .ref q2, .ref q3, .ref q4, .int sm, .ref q5, .ref q6, .ref q7, .ref q8, .int rm])), (q1, .inl (cI, 840, .inl Tp)), (q2, .inl (cI, 240, .inl Nw)), (q3, .inl (cI, 240, .inl Rr)), (q4, .inl (cI, 2880, .inl Sn)), (q5, .inl (cI, 4, .inl In)), (q6, .inl (cI, 500, .inl Pd)), (q7, .inl (cI, 500, .inl Rt)), (q8, .inl (cI, 10000, .inl Rw))]) hx hb hts in_X9_period_9 tyX9 tyX9_ok nmX9 hown hK hP hD hS 0 0 rfl rfl (by decide) (List.mem_of_getElem? (i := 1) rfl) rfl rfl rfl (Nat.le_of_ble_eq_true rfl) dX9_period_2 rfl (fun H_ lc_ hP hD hS => ?_)
  refine lv_iload_n hx hb dX9_period_5 rfl (lv_at hl 1 rfl) ?_
  refine lv_iconst (v := 0) hx hb dX9_period_6 (by decide) ?_
  refine lv_iconst (v := 3) hx hb dX9_period_7 (by decide) ?_
  refine rd_S (As := [.int p, .int 0, .int 3]) (rest := []) (kX9_isIn l D cI cB p 0 3 ) ⟨hx, hb, hml, hown, hts⟩ (va_cwS 3 hts gX9_period_X9_isIn rfl rfl rfl (by decide +kernel) ⟨Nat.le_of_ble_eq_true rfl, Nat.le_of_ble_eq_true rfl⟩) hK hP [] rfl rfl rfl hl.1 (Nat.le_of_ble_eq_true rfl) dX9_period_8 ⟨Nat.le_refl _, Nat.le_refl _⟩ ?_
  refine lv_if_eq (tgt := 24) hx hb dX9_period_11 (by decide) (fun c11 => ?_) (fun c11 => ?_)
  · refine lv_iconst (v := -1) hx hb dX9_period_24 (by decide) ?_
    exact hret _ _ _ _ ls hS (⟨(In, Pd, Rt), hP⟩) (by simp [c11]) dX9_period_25
  · refine lv_iload_n hx hb dX9_period_14 rfl (lv_at hl 2 rfl) ?_
    refine lv_iconst (v := 0) hx hb dX9_period_15 (by decide) ?_
    refine lv_bipush (v := 9) hx hb dX9_period_16 (by decide) ?_
    refine rd_S (As := [.int w, .int 0, .int 9]) (rest := []) (kX9_isIn l D cI cB w 0 9 ) ⟨hx, hb, hml, hown, hts⟩ (va_cwS 3 hts gX9_period_X9_isIn rfl rfl rfl (by decide +kernel) ⟨Nat.le_of_ble_eq_true rfl, Nat.le_of_ble_eq_true rfl⟩) hK hP [] rfl rfl rfl hl.1 (Nat.le_of_ble_eq_true rfl) dX9_period_18 ⟨Nat.le_refl _, Nat.le_refl _⟩ ?_
    refine lv_if_ne (tgt := 26) hx hb dX9_period_21 (by decide) (fun c21 => ?_) (fun c21 => ?_)
    · obtain ⟨q, hq, rfl⟩ := isInM_nI (n := 3) (by omega) c11
      have hq4 : q < 4 := by omega
      have hcq := hcut q hq4
      refine lv_aload_n hx hb dX9_period_26 rfl (lv_at hl 0 rfl) ?_
      refine wp_V (As := []) (rest := []) (ci := 9) (ws' := [(mo, .inr (9, [.int 0, .ref q1, .int tn, .int sz, .int tt, .int fm, .int so, .int nu, .int fau, .int plc, .long wd, .ref q2, .ref q3, .ref q4, .int sm, .ref q5, .ref q6, .ref q7, .ref q8, .int rm])), (q1, .inl (cI, 840, .inl Tp)), (q2, .inl (cI, 240, .inl Nw)), (q3, .inl (cI, 240, .inl Rr)), (q4, .inl (cI, 2880, .inl Sn)), (q5, .inl (cI, 4, .inl (ov (inM (lsM Nw ns ni (Nw 239))) In 4))), (q6, .inl (cI, 500, .inl Pd)), (q7, .inl (cI, 500, .inl Rt)), (q8, .inl (cI, 10000, .inl Rw))]) (kX9_laysInstalments_ l D cI cB mo q1 q2 q3 q4 q5 q6 q7 q8 0 tn sz tt fm so nu fau plc wd sm rm Tp Nw Rr Sn In Pd Rt Rw ns nr ni np nb (by first | assumption | omega) (by first | assumption | omega)) ⟨hx, hb, hml, hown, hts⟩ (cwV 0 hts gX9_period_X9_laysInstalments_ rfl rfl rfl (by decide +kernel) ⟨Nat.le_of_ble_eq_true rfl, Nat.le_of_ble_eq_true rfl⟩) hK hP hD hS [0, 1, 2, 3, 4, 5, 6, 7, 8] [] rfl rfl (two_eq [] rfl rfl) 9 rfl (by decide +kernel) (by decide +kernel) (two_eq [mo, q1, q2, q3, q4, q5, q6, q7, q8] rfl rfl) (by decide +kernel) 0 rfl rfl rfl rfl hl.1 (Nat.le_of_ble_eq_true rfl) dX9_period_27 ⟨Nat.le_refl _, Nat.le_refl _⟩ (fun H_ lc_ hP hD hS => ?_)
      show W p_ l e_ (RM 6 137) s_ m_ ar_ be_ me_ co_ H_ lc_ 0 0 Q_ (F0 m_ 30 ls [])
      refine lv_aload_n hx hb dX9_period_30 rfl (lv_at hl 0 rfl) ?_
      refine wp_V (As := []) (rest := []) (ci := 9) (ws' := [(mo, .inr (9, [.int 0, .ref q1, .int tn, .int sz, .int tt, .int fm, .int so, .int nu, .int fau, .int plc, .long wd, .ref q2, .ref q3, .ref q4, .int sm, .ref q5, .ref q6, .ref q7, .ref q8, .int rm])), (q1, .inl (cI, 840, .inl Tp)), (q2, .inl (cI, 240, .inl Nw)), (q3, .inl (cI, 240, .inl Rr)), (q4, .inl (cI, 2880, .inl Sn)), (q5, .inl (cI, 4, .inl (ov (inM (lsM Nw ns ni (Nw 239))) In 4))), (q6, .inl (cI, 500, .inl (ov (fun j => paM Nw np nb (nI j)) Pd 500))), (q7, .inl (cI, 500, .inl (ov (fun j => raM Nw nr (nI j)) Rt 500))), (q8, .inl (cI, 10000, .inl Rw))]) (kX9_laysDays l D cI cB mo q1 q2 q3 q4 q5 q6 q7 q8 0 tn sz tt fm so nu fau plc wd sm rm Tp Nw Rr Sn (ov (inM (lsM Nw ns ni (Nw 239))) In 4) Pd Rt Rw ns nr ni np nb (by first | assumption | omega)) ⟨hx, hb, hml, hown, hts⟩ (cwV 0 hts gX9_period_X9_laysDays rfl rfl rfl (by decide +kernel) ⟨Nat.le_of_ble_eq_true rfl, Nat.le_of_ble_eq_true rfl⟩) hK hP hD hS [0, 1, 2, 3, 4, 5, 6, 7, 8] [] rfl rfl (two_eq [] rfl rfl) 9 rfl (by decide +kernel) (by decide +kernel) (two_eq [mo, q1, q2, q3, q4, q5, q6, q7, q8] rfl rfl) (by decide +kernel) 0 rfl rfl rfl rfl hl.1 (Nat.le_of_ble_eq_true rfl) dX9_period_31 ⟨Nat.le_refl _, Nat.le_refl _⟩ (fun H_ lc_ hP hD hS => ?_)
      show W p_ l e_ (RM 6 137) s_ m_ ar_ be_ me_ co_ H_ lc_ 0 0 Q_ (F0 m_ 34 ls [])
      refine lv_aload_n hx hb dX9_period_34 rfl (lv_at hl 0 rfl) ?_
      refine lv_iload_n hx hb dX9_period_35 rfl (lv_at hl 1 rfl) ?_
      refine lv_aload_n hx hb dX9_period_36 rfl (lv_at hl 0 rfl) ?_
      refine g_get (C := RX9) (T := TX9) (N := 20) (ci := 9) (index := 64) hx hb hts in_X9_period_9 hown hK hP 0 11 rfl rfl (by decide) (List.mem_of_getElem? (i := 2) rfl) rfl dX9_period_37 ?_
      refine lv_sipush (v := 239) hx hb dX9_period_40 (by decide) ?_
      refine g_iald hx hb hK hP 2 0 rfl rfl 239 (rfl) (by omega) (by omega) dX9_period_43 ?_
      refine rd_V (As := [.int (nI q), .int (Nw 239)]) (rest := []) (ci := 9) (kX9_leastRule l D cI cB mo q1 q2 q3 q4 q5 q6 q7 q8 0 tn sz tt fm so nu fau plc wd sm rm Tp Nw Rr Sn (ov (inM (lsM Nw ns ni (Nw 239))) In 4) (ov (fun j => paM Nw np nb (nI j)) Pd 500) (ov (fun j => raM Nw nr (nI j)) Rt 500) Rw ns nr ni np nb q (Nw 239) (by first | assumption | omega) (by first | assumption | omega) (by first | assumption | omega)) ⟨hx, hb, hml, hown, hts⟩ (cwV 2 hts gX9_period_X9_leastRule rfl rfl rfl (by decide +kernel) ⟨Nat.le_of_ble_eq_true rfl, Nat.le_of_ble_eq_true rfl⟩) hK hP [0, 1, 2, 3, 4, 5, 6, 7, 8] rfl 0 rfl rfl rfl rfl hl.1 (Nat.le_of_ble_eq_true rfl) dX9_period_44 ⟨Nat.le_refl _, Nat.le_refl _⟩ ?_
      refine lv_istore_n (lv' := [(3, .int (chM (fun r => sbM Nw ns ni r q) (Nw 239) 3)), (0, .ref mo), (1, .int (nI q)), (2, .int w)]) hx hb dX9_period_47 rfl hl (by decide) rfl (fun ls hl => ?_)
      refine lv_iload_n hx hb dX9_period_48 rfl (lv_at hl 3 rfl) ?_
      by_cases c49_3 : w = (3 : Int32)
      · refine lv_tableIn (off := 43) (tgt := 92) hx hb dX9_period_49 (by rw [c49_3]; decide) (by rw [c49_3]; decide) (by rw [c49_3]; rfl) (by decide) ?_
        refine lv_aload_n hx hb dX9_period_92 rfl (lv_at hl 1 rfl) ?_
        refine lv_iload_n hx hb dX9_period_93 rfl (lv_at hl 0 rfl) ?_
        refine lv_iload_n hx hb dX9_period_94 rfl (lv_at hl 2 rfl) ?_
        refine rd_V (As := [.int (chM (fun r => sbM Nw ns ni r q) (Nw 239) 3), .int (nI q)]) (rest := []) (ci := 9) (kX9_sumBy l D cI cB mo q1 q2 q3 q4 q5 q6 q7 q8 0 tn sz tt fm so nu fau plc wd sm rm Tp Nw Rr Sn (ov (inM (lsM Nw ns ni (Nw 239))) In 4) (ov (fun j => paM Nw np nb (nI j)) Pd 500) (ov (fun j => raM Nw nr (nI j)) Rt 500) Rw ns nr ni np nb (chM (fun r => sbM Nw ns ni r q) (Nw 239) 3) q (by first | assumption | omega) (by first | assumption | omega) (by first | assumption | omega)) ⟨hx, hb, hml, hown, hts⟩ (cwV 2 hts gX9_period_X9_sumBy rfl rfl rfl (by decide +kernel) ⟨Nat.le_of_ble_eq_true rfl, Nat.le_of_ble_eq_true rfl⟩) hK hP [0, 1, 2, 3, 4, 5, 6, 7, 8] rfl 0 rfl rfl rfl rfl hl.1 (Nat.le_of_ble_eq_true rfl) dX9_period_95 ⟨Nat.le_refl _, Nat.le_refl _⟩ ?_
        exact hret _ _ _ _ ls hS (⟨(ov (inM (lsM Nw ns ni (Nw 239))) In 4, ov (fun j => paM Nw np nb (nI j)) Pd 500, ov (fun j => raM Nw nr (nI j)) Rt 500), hP⟩) (by rw [if_neg c11, if_neg c21, nI_clamp (by omega)]; unfold pmM; rw [if_pos c49_3]) dX9_period_98
      by_cases c49_4 : w = (4 : Int32)
      · refine lv_tableIn (off := 50) (tgt := 99) hx hb dX9_period_49 (by rw [c49_4]; decide) (by rw [c49_4]; decide) (by rw [c49_4]; rfl) (by decide) ?_
        refine lv_iload_n hx hb dX9_period_99 rfl (lv_at hl 0 rfl) ?_
        exact hret _ _ _ _ ls hS (⟨(ov (inM (lsM Nw ns ni (Nw 239))) In 4, ov (fun j => paM Nw np nb (nI j)) Pd 500, ov (fun j => raM Nw nr (nI j)) Rt 500), hP⟩) (by rw [if_neg c11, if_neg c21, nI_clamp (by omega)]; unfold pmM; rw [if_neg c49_3, if_pos c49_4]) dX9_period_100
      by_cases c49_5 : w = (5 : Int32)
      · refine lv_tableIn (off := 52) (tgt := 101) hx hb dX9_period_49 (by rw [c49_5]; decide) (by rw [c49_5]; decide) (by rw [c49_5]; rfl) (by decide) ?_
        refine lv_aload_n hx hb dX9_period_101 rfl (lv_at hl 1 rfl) ?_
        refine g_get (C := RX9) (T := TX9) (N := 20) (ci := 9) (index := 73) hx hb hts in_X9_period_9 hown hK hP 0 15 rfl rfl (by decide) (List.mem_of_getElem? (i := 3) rfl) rfl dX9_period_102 ?_
        refine lv_iload_n hx hb dX9_period_105 rfl (lv_at hl 2 rfl) ?_
        refine g_iald hx hb hK hP 5 0 rfl rfl q (rfl) (by omega) (by omega) dX9_period_106 ?_
        exact hret _ _ _ _ ls hS (⟨(ov (inM (lsM Nw ns ni (Nw 239))) In 4, ov (fun j => paM Nw np nb (nI j)) Pd 500, ov (fun j => raM Nw nr (nI j)) Rt 500), hP⟩) (by rw [if_neg c11, if_neg c21, nI_clamp (by omega)]; unfold pmM; rw [if_neg c49_3, if_neg c49_4, if_pos c49_5]) dX9_period_107
      by_cases c49_6 : w = (6 : Int32)
      · refine lv_tableIn (off := 59) (tgt := 108) hx hb dX9_period_49 (by rw [c49_6]; decide) (by rw [c49_6]; decide) (by rw [c49_6]; rfl) (by decide) ?_
        refine lv_aload_n hx hb dX9_period_108 rfl (lv_at hl 1 rfl) ?_
        refine lv_iload_n hx hb dX9_period_109 rfl (lv_at hl 2 rfl) ?_
        refine lv_iconst (v := 0) hx hb dX9_period_110 (by decide) ?_
        refine lv_iconst (v := 0) hx hb dX9_period_111 (by decide) ?_
        refine rd_V (As := [.int (nI q), .int 0, .int 0]) (rest := []) (ci := 9) (kX9_costOf l D cI cB mo q1 q2 q3 q4 q5 q6 q7 q8 0 tn sz tt fm so nu fau plc wd sm rm Tp Nw Rr Sn (ov (inM (lsM Nw ns ni (Nw 239))) In 4) (ov (fun j => paM Nw np nb (nI j)) Pd 500) (ov (fun j => raM Nw nr (nI j)) Rt 500) Rw q 0 0 due ed (by first | assumption | omega) (by first | assumption | omega) (by first | assumption | omega) (by first | assumption | omega)) ⟨hx, hb, hml, hown, hts⟩ (cwV 3 hts gX9_period_X9_costOf rfl rfl rfl (by decide +kernel) ⟨Nat.le_of_ble_eq_true rfl, Nat.le_of_ble_eq_true rfl⟩) hK hP [0, 1, 2, 3, 4, 5, 6, 7, 8] rfl 0 rfl rfl rfl rfl hl.1 (Nat.le_of_ble_eq_true rfl) dX9_period_112 ⟨Nat.le_refl _, Nat.le_refl _⟩ ?_
        exact hret _ _ _ _ ls hS (⟨(ov (inM (lsM Nw ns ni (Nw 239))) In 4, ov (fun j => paM Nw np nb (nI j)) Pd 500, ov (fun j => raM Nw nr (nI j)) Rt 500), hP⟩) (by rw [if_neg c11, if_neg c21, nI_clamp (by omega)]; unfold pmM; rw [if_neg c49_3, if_neg c49_4, if_neg c49_5, if_pos c49_6]) dX9_period_115
      by_cases c49_7 : w = (7 : Int32)
      · refine lv_tableIn (off := 67) (tgt := 116) hx hb dX9_period_49 (by rw [c49_7]; decide) (by rw [c49_7]; decide) (by rw [c49_7]; rfl) (by decide) ?_
        refine lv_aload_n hx hb dX9_period_116 rfl (lv_at hl 1 rfl) ?_
        refine g_get (C := RX9) (T := TX9) (N := 20) (ci := 9) (index := 64) hx hb hts in_X9_period_9 hown hK hP 0 11 rfl rfl (by decide) (List.mem_of_getElem? (i := 2) rfl) rfl dX9_period_117 ?_
        refine lv_iconst (v := 3) hx hb dX9_period_120 (by decide) ?_
        refine lv_iload_n hx hb dX9_period_121 rfl (lv_at hl 2 rfl) ?_
        refine lv_iadd hx hb dX9_period_122 ?_
        refine g_iald hx hb hK hP 2 0 rfl rfl (3 + q) (nx_a (rfl) (rfl)) (by omega) (by omega) dX9_period_123 ?_
        exact hret _ _ _ _ ls hS (⟨(ov (inM (lsM Nw ns ni (Nw 239))) In 4, ov (fun j => paM Nw np nb (nI j)) Pd 500, ov (fun j => raM Nw nr (nI j)) Rt 500), hP⟩) (by rw [if_neg c11, if_neg c21, nI_clamp (by omega)]; unfold pmM; rw [if_neg c49_3, if_neg c49_4, if_neg c49_5, if_neg c49_6, if_pos c49_7]) dX9_period_124
      by_cases c49_8 : w = (8 : Int32)
      · refine lv_tableIn (off := 76) (tgt := 125) hx hb dX9_period_49 (by rw [c49_8]; decide) (by rw [c49_8]; decide) (by rw [c49_8]; rfl) (by decide) ?_
        refine lv_aload_n hx hb dX9_period_125 rfl (lv_at hl 1 rfl) ?_
        refine g_get (C := RX9) (T := TX9) (N := 20) (ci := 9) (index := 64) hx hb hts in_X9_period_9 hown hK hP 0 11 rfl rfl (by decide) (List.mem_of_getElem? (i := 2) rfl) rfl dX9_period_126 ?_
        refine lv_bipush (v := 7) hx hb dX9_period_129 (by decide) ?_
        refine lv_iload_n hx hb dX9_period_131 rfl (lv_at hl 2 rfl) ?_
        refine lv_iadd hx hb dX9_period_132 ?_
        refine g_iald hx hb hK hP 2 0 rfl rfl (7 + q) (nx_a (rfl) (rfl)) (by omega) (by omega) dX9_period_133 ?_
        exact hret _ _ _ _ ls hS (⟨(ov (inM (lsM Nw ns ni (Nw 239))) In 4, ov (fun j => paM Nw np nb (nI j)) Pd 500, ov (fun j => raM Nw nr (nI j)) Rt 500), hP⟩) (by rw [if_neg c11, if_neg c21, nI_clamp (by omega)]; unfold pmM; rw [if_neg c49_3, if_neg c49_4, if_neg c49_5, if_neg c49_6, if_neg c49_7, if_pos c49_8]) dX9_period_134
      by_cases c49_9 : w = (9 : Int32)
      · refine lv_tableIn (off := 86) (tgt := 135) hx hb dX9_period_49 (by rw [c49_9]; decide) (by rw [c49_9]; decide) (by rw [c49_9]; rfl) (by decide) ?_
        refine lv_aload_n hx hb dX9_period_135 rfl (lv_at hl 1 rfl) ?_
        refine lv_iload_n hx hb dX9_period_136 rfl (lv_at hl 2 rfl) ?_
        refine rd_V (As := [.int (nI q)]) (rest := []) (ci := 9) (kX9_yearly l D cI cB mo q1 q2 q3 q4 q5 q6 q7 q8 0 tn sz tt fm so nu fau plc wd sm rm Tp Nw Rr Sn (ov (inM (lsM Nw ns ni (Nw 239))) In 4) (ov (fun j => paM Nw np nb (nI j)) Pd 500) (ov (fun j => raM Nw nr (nI j)) Rt 500) Rw ns nr ni np nb q (by first | assumption | omega) (by first | assumption | omega) (by first | assumption | omega)) ⟨hx, hb, hml, hown, hts⟩ (cwV 1 hts gX9_period_X9_yearly rfl rfl rfl (by decide +kernel) ⟨Nat.le_of_ble_eq_true rfl, Nat.le_of_ble_eq_true rfl⟩) hK hP [0, 1, 2, 3, 4, 5, 6, 7, 8] rfl 0 rfl rfl rfl rfl hl.1 (Nat.le_of_ble_eq_true rfl) dX9_period_137 ⟨Nat.le_refl _, Nat.le_refl _⟩ ?_
        exact hret _ _ _ _ ls hS (⟨(ov (inM (lsM Nw ns ni (Nw 239))) In 4, ov (fun j => paM Nw np nb (nI j)) Pd 500, ov (fun j => raM Nw nr (nI j)) Rt 500), hP⟩) (by rw [if_neg c11, if_neg c21, nI_clamp (by omega)]; unfold pmM; rw [if_neg c49_3, if_neg c49_4, if_neg c49_5, if_neg c49_6, if_neg c49_7, if_neg c49_8, if_pos c49_9]) dX9_period_140
      refine lv_tableOut (tgt := 141) hx hb dX9_period_49 (by have q0 := lv_neT (a := 3) c49_3 rfl; have q1 := lv_neT (a := 4) c49_4 rfl; have q2 := lv_neT (a := 5) c49_5 rfl; have q3 := lv_neT (a := 6) c49_6 rfl; have q4 := lv_neT (a := 7) c49_7 rfl; have q5 := lv_neT (a := 8) c49_8 rfl; have q6 := lv_neT (a := 9) c49_9 rfl; omega) (by decide) ?_
      refine lv_aload_n hx hb dX9_period_141 rfl (lv_at hl 1 rfl) ?_
      refine lv_iload_n hx hb dX9_period_142 rfl (lv_at hl 3 rfl) ?_
      refine lv_iload_n hx hb dX9_period_143 rfl (lv_at hl 2 rfl) ?_
      refine rd_V (As := [.int w, .int (nI q)]) (rest := []) (ci := 9) (kX9_sumBy l D cI cB mo q1 q2 q3 q4 q5 q6 q7 q8 0 tn sz tt fm so nu fau plc wd sm rm Tp Nw Rr Sn (ov (inM (lsM Nw ns ni (Nw 239))) In 4) (ov (fun j => paM Nw np nb (nI j)) Pd 500) (ov (fun j => raM Nw nr (nI j)) Rt 500) Rw ns nr ni np nb w q (by first | assumption | omega) (by first | assumption | omega) (by first | assumption | omega)) ⟨hx, hb, hml, hown, hts⟩ (cwV 2 hts gX9_period_X9_sumBy rfl rfl rfl (by decide +kernel) ⟨Nat.le_of_ble_eq_true rfl, Nat.le_of_ble_eq_true rfl⟩) hK hP [0, 1, 2, 3, 4, 5, 6, 7, 8] rfl 0 rfl rfl rfl rfl hl.1 (Nat.le_of_ble_eq_true rfl) dX9_period_144 ⟨Nat.le_refl _, Nat.le_refl _⟩ ?_
      exact hret _ _ _ _ ls hS (⟨(ov (inM (lsM Nw ns ni (Nw 239))) In 4, ov (fun j => paM Nw np nb (nI j)) Pd 500, ov (fun j => raM Nw nr (nI j)) Rt 500), hP⟩) (by rw [if_neg c11, if_neg c21, nI_clamp (by omega)]; unfold pmM; rw [if_neg c49_3, if_neg c49_4, if_neg c49_5, if_neg c49_6, if_neg c49_7, if_neg c49_8, if_neg c49_9]) dX9_period_147
    · refine lv_iconst (v := -1) hx hb dX9_period_24 (by decide) ?_
      exact hret _ _ _ _ ls hS (⟨(In, Pd, Rt), hP⟩) (by simp [c11, c21]) dX9_period_25

theorem in_X9_costsBy_9 : ∀ w ∈ wsX90, w ∈ wsX9_costsBy := fun _ h => List.mem_cons_of_mem _ (List.mem_append_right _ (h))
set_option maxHeartbeats 4000000 in
set_option maxRecDepth 100000 in
theorem kX9_costsBy (l : Launch) (D : va_G) (cI cB : ClassId) (mo q1 q2 q3 q4 q5 q6 q7 q8 : Nat) (th tn sz tt fm so nu fau plc : Int32) (wd : Int64) (sm rm : Int32) (Tp Nw Rr Sn In Pd Rt Rw : Nat → Int32) (ns nr ni np nb : Nat) (due : Nat → Nat) (ed A : Nat) (v : Int32) (hA : A < 240) (hcn : cnt (upd Nw A v) ns nr ni np nb) (hcut : ∀ p, p < 4 → 1 ≤ upd Nw A v (7 + p) + 1) (hdue : ∀ p, p < 4 → upd Nw A v (3 + p) = nI (due p) ∧ due p ≤ 499) (hed : upd Nw A v 2 = nI ed) (hel : ed ≤ 499) : Wr l D (TY cI cB) yX9_costsBy wsX9_costsBy 7 157 [.ref mo, .int (nI A), .int v] [(mo, .inr (9, [.int th, .ref q1, .int tn, .int sz, .int tt, .int fm, .int so, .int nu, .int fau, .int plc, .long wd, .ref q2, .ref q3, .ref q4, .int sm, .ref q5, .ref q6, .ref q7, .ref q8, .int rm])), (q1, .inl (cI, 840, .inl Tp)), (q2, .inl (cI, 240, .inl Nw)), (q3, .inl (cI, 240, .inl Rr)), (q4, .inl (cI, 2880, .inl Sn)), (q5, .inl (cI, 4, .inl In)), (q6, .inl (cI, 500, .inl Pd)), (q7, .inl (cI, 500, .inl Rt)), (q8, .inl (cI, 10000, .inl Rw))] [(mo, .inr (9, [.int th, .ref q1, .int tn, .int sz, .int tt, .int fm, .int so, .int nu, .int fau, .int plc, .long wd, .ref q2, .ref q3, .ref q4, .int sm, .ref q5, .ref q6, .ref q7, .ref q8, .int rm])), (q1, .inl (cI, 840, .inl Tp)), (q2, .inl (cI, 240, .inl Nw)), (q3, .inl (cI, 240, .inl Rr)), (q4, .inl (cI, 2880, .inl Sn)), (q5, .inl (cI, 4, .inl (ov (inM (lsM (upd Nw A v) ns ni (upd Nw A v 239))) In 4))), (q6, .inl (cI, 500, .inl (ov (fun j => paM (upd Nw A v) np nb (nI j)) Pd 500))), (q7, .inl (cI, 500, .inl (ov (fun j => raM (upd Nw A v) nr (nI j)) Rt 500))), (q8, .inl (cI, 10000, .inl Rw))] (some (.int (cwM (ov (inM (lsM (upd Nw A v) ns ni (upd Nw A v 239))) In 4) (ov (fun j => paM (upd Nw A v) np nb (nI j)) Pd 500) (ov (fun j => raM (upd Nw A v) nr (nI j)) Rt 500) due ed 0 0 4))) := by
  refine wr_i (cc := cX9_costsBy) (maxL := 5) (by decide) rfl (Nat.le_of_ble_eq_true rfl) ?_
  intro p_ e_ s_ m_ ar_ be_ me_ co_ ls Q_ A_ hx hb hml hown hts hP hK hD hS hl hret
  have hown : s_.vm.findClass RX9 = some m_.cls := hown
  have hl : lv_has ls 5 [(0, .ref mo), (1, .int (nI A)), (2, .int v)] := hl
  refine lv_aload_n hx hb dX9_costsBy_0 rfl (lv_at hl 0 rfl) ?_
  refine g_get (C := RX9) (T := TX9) (N := 20) (ci := 9) (index := 64) hx hb hts in_X9_costsBy_9 hown hK hP 0 11 rfl rfl (by decide) (List.mem_of_getElem? (i := 1) rfl) rfl dX9_costsBy_1 ?_
  refine lv_iload_n hx hb dX9_costsBy_4 rfl (lv_at hl 1 rfl) ?_
  refine g_iald hx hb hK hP 2 0 rfl rfl A (rfl) (by omega) (by omega) dX9_costsBy_5 ?_
  refine lv_istore_n (lv' := [(3, .int (Nw A)), (0, .ref mo), (1, .int (nI A)), (2, .int v)]) hx hb dX9_costsBy_6 rfl hl (by decide) rfl (fun ls hl => ?_)
  refine lv_aload_n hx hb dX9_costsBy_7 rfl (lv_at hl 1 rfl) ?_
  refine g_get (C := RX9) (T := TX9) (N := 20) (ci := 9) (index := 64) hx hb hts in_X9_costsBy_9 hown hK hP 0 11 rfl rfl (by decide) (List.mem_of_getElem? (i := 1) rfl) rfl dX9_costsBy_8 ?_
  refine lv_iload_n hx hb dX9_costsBy_11 rfl (lv_at hl 2 rfl) ?_
  refine lv_iload_n hx hb dX9_costsBy_12 rfl (lv_at hl 3 rfl) ?_
  refine g_iast hx hb hK hP hD hS 2 0 rfl rfl A (rfl) (by omega) (by omega) dX9_costsBy_13 (fun H_ lc_ hP hD hS => ?_)
  have hP : va_P D vwCl [(mo, .inr (9, [.int th, .ref q1, .int tn, .int sz, .int tt, .int fm, .int so, .int nu, .int fau, .int plc, .long wd, .ref q2, .ref q3, .ref q4, .int sm, .ref q5, .ref q6, .ref q7, .ref q8, .int rm])), (q1, .inl (cI, 840, .inl Tp)), (q2, .inl (cI, 240, .inl (upd Nw A v))), (q3, .inl (cI, 240, .inl Rr)), (q4, .inl (cI, 2880, .inl Sn)), (q5, .inl (cI, 4, .inl In)), (q6, .inl (cI, 500, .inl Pd)), (q7, .inl (cI, 500, .inl Rt)), (q8, .inl (cI, 10000, .inl Rw))] H_ := hP
  have hD : va_D A_ [(mo, .inr (9, [.int th, .ref q1, .int tn, .int sz, .int tt, .int fm, .int so, .int nu, .int fau, .int plc, .long wd, .ref q2, .ref q3, .ref q4, .int sm, .ref q5, .ref q6, .ref q7, .ref q8, .int rm])), (q1, .inl (cI, 840, .inl Tp)), (q2, .inl (cI, 240, .inl (upd Nw A v))), (q3, .inl (cI, 240, .inl Rr)), (q4, .inl (cI, 2880, .inl Sn)), (q5, .inl (cI, 4, .inl In)), (q6, .inl (cI, 500, .inl Pd)), (q7, .inl (cI, 500, .inl Rt)), (q8, .inl (cI, 10000, .inl Rw))] := hD
  refine lv_aload_n hx hb dX9_costsBy_14 rfl (lv_at hl 1 rfl) ?_
  refine wp_V (As := []) (rest := []) (ci := 9) (ws' := [(mo, .inr (9, [.int th, .ref q1, .int tn, .int sz, .int tt, .int fm, .int so, .int nu, .int fau, .int plc, .long wd, .ref q2, .ref q3, .ref q4, .int sm, .ref q5, .ref q6, .ref q7, .ref q8, .int rm])), (q1, .inl (cI, 840, .inl Tp)), (q2, .inl (cI, 240, .inl (upd Nw A v))), (q3, .inl (cI, 240, .inl Rr)), (q4, .inl (cI, 2880, .inl Sn)), (q5, .inl (cI, 4, .inl (ov (inM (lsM (upd Nw A v) ns ni ((upd Nw A v) 239))) In 4))), (q6, .inl (cI, 500, .inl (ov (fun j => paM (upd Nw A v) np nb (nI j)) Pd 500))), (q7, .inl (cI, 500, .inl (ov (fun j => raM (upd Nw A v) nr (nI j)) Rt 500))), (q8, .inl (cI, 10000, .inl Rw))]) (kX9_costs l D cI cB mo q1 q2 q3 q4 q5 q6 q7 q8 th tn sz tt fm so nu fau plc wd sm rm Tp (upd Nw A v) Rr Sn In Pd Rt Rw ns nr ni np nb due ed (by assumption) (by assumption) (by assumption) (by assumption) (by assumption)) ⟨hx, hb, hml, hown, hts⟩ (cwV 0 hts gX9_costsBy_X9_costs rfl rfl rfl (by decide +kernel) ⟨Nat.le_of_ble_eq_true rfl, Nat.le_of_ble_eq_true rfl⟩) hK hP hD hS [0, 1, 2, 3, 4, 5, 6, 7, 8] [] rfl rfl (two_eq [] rfl rfl) 9 rfl (by decide +kernel) (by decide +kernel) (two_eq [mo, q1, q2, q3, q4, q5, q6, q7, q8] rfl rfl) (by decide +kernel) 0 rfl rfl rfl rfl hl.1 (Nat.le_of_ble_eq_true rfl) dX9_costsBy_15 ⟨Nat.le_refl _, Nat.le_refl _⟩ (fun H_ lc_ hP hD hS => ?_)
  show W p_ l e_ (RM 7 157) s_ m_ ar_ be_ me_ co_ H_ lc_ 0 0 Q_ (F0 m_ 18 ls [.int (cwM (ov (inM (lsM (upd Nw A v) ns ni ((upd Nw A v) 239))) In 4) (ov (fun j => paM (upd Nw A v) np nb (nI j)) Pd 500) (ov (fun j => raM (upd Nw A v) nr (nI j)) Rt 500) due ed 0 0 4)])
  refine lv_istore (lv' := [(4, .int (cwM (ov (inM (lsM (upd Nw A v) ns ni ((upd Nw A v) 239))) In 4) (ov (fun j => paM (upd Nw A v) np nb (nI j)) Pd 500) (ov (fun j => raM (upd Nw A v) nr (nI j)) Rt 500) due ed 0 0 4)), (3, .int (Nw A)), (0, .ref mo), (1, .int (nI A)), (2, .int v)]) hx hb dX9_costsBy_18 hl (by decide) rfl (fun ls hl => ?_)
  refine lv_aload_n hx hb dX9_costsBy_20 rfl (lv_at hl 2 rfl) ?_
  refine g_get (C := RX9) (T := TX9) (N := 20) (ci := 9) (index := 64) hx hb hts in_X9_costsBy_9 hown hK hP 0 11 rfl rfl (by decide) (List.mem_of_getElem? (i := 1) rfl) rfl dX9_costsBy_21 ?_
  refine lv_iload_n hx hb dX9_costsBy_24 rfl (lv_at hl 3 rfl) ?_
  refine lv_iload_n hx hb dX9_costsBy_25 rfl (lv_at hl 1 rfl) ?_
  refine g_iast hx hb hK hP hD hS 2 0 rfl rfl A (rfl) (by omega) (by omega) dX9_costsBy_26 (fun H_ lc_ hP hD hS => ?_)
  have hP : va_P D vwCl [(mo, .inr (9, [.int th, .ref q1, .int tn, .int sz, .int tt, .int fm, .int so, .int nu, .int fau, .int plc, .long wd, .ref q2, .ref q3, .ref q4, .int sm, .ref q5, .ref q6, .ref q7, .ref q8, .int rm])), (q1, .inl (cI, 840, .inl Tp)), (q2, .inl (cI, 240, .inl (upd (upd Nw A v) A (Nw A)))), (q3, .inl (cI, 240, .inl Rr)), (q4, .inl (cI, 2880, .inl Sn)), (q5, .inl (cI, 4, .inl (ov (inM (lsM (upd Nw A v) ns ni ((upd Nw A v) 239))) In 4))), (q6, .inl (cI, 500, .inl (ov (fun j => paM (upd Nw A v) np nb (nI j)) Pd 500))), (q7, .inl (cI, 500, .inl (ov (fun j => raM (upd Nw A v) nr (nI j)) Rt 500))), (q8, .inl (cI, 10000, .inl Rw))] H_ := hP
  have hD : va_D A_ [(mo, .inr (9, [.int th, .ref q1, .int tn, .int sz, .int tt, .int fm, .int so, .int nu, .int fau, .int plc, .long wd, .ref q2, .ref q3, .ref q4, .int sm, .ref q5, .ref q6, .ref q7, .ref q8, .int rm])), (q1, .inl (cI, 840, .inl Tp)), (q2, .inl (cI, 240, .inl (upd (upd Nw A v) A (Nw A)))), (q3, .inl (cI, 240, .inl Rr)), (q4, .inl (cI, 2880, .inl Sn)), (q5, .inl (cI, 4, .inl (ov (inM (lsM (upd Nw A v) ns ni ((upd Nw A v) 239))) In 4))), (q6, .inl (cI, 500, .inl (ov (fun j => paM (upd Nw A v) np nb (nI j)) Pd 500))), (q7, .inl (cI, 500, .inl (ov (fun j => raM (upd Nw A v) nr (nI j)) Rt 500))), (q8, .inl (cI, 10000, .inl Rw))] := hD
  refine lv_iload hx hb dX9_costsBy_27 (lv_at hl 0 rfl) ?_
  exact hret _ _ _ _ ls hS (by rw [upd_back] at hP; exact hP) (rfl) dX9_costsBy_29

def bbM (b r : Int32) : Int32 := if isInM r 0 2 = 0 then -1 else if b ^^^ 1 <<< (r &&& 31) = 7 then -1 else b ^^^ 1 <<< (r &&& 31)
theorem in_X9_barredBy_9 : ∀ w ∈ wsX90, w ∈ wsX9_barredBy := fun _ h => List.mem_cons_of_mem _ (List.mem_append_right _ (h))
set_option maxHeartbeats 4000000 in
set_option maxRecDepth 100000 in
theorem kX9_barredBy (l : Launch) (D : va_G) (cI cB : ClassId) (mo q1 q2 q3 q4 q5 q6 q7 q8 : Nat) (th tn sz tt fm so nu fau plc : Int32) (wd : Int64) (sm rm : Int32) (Tp Nw Rr Sn In Pd Rt Rw : Nat → Int32) (r : Int32)  : Rd l D (TY cI cB) yX9_barredBy wsX9_barredBy 1 22 [.ref mo, .int r] [(mo, .inr (9, [.int th, .ref q1, .int tn, .int sz, .int tt, .int fm, .int so, .int nu, .int fau, .int plc, .long wd, .ref q2, .ref q3, .ref q4, .int sm, .ref q5, .ref q6, .ref q7, .ref q8, .int rm])), (q1, .inl (cI, 840, .inl Tp)), (q2, .inl (cI, 240, .inl Nw)), (q3, .inl (cI, 240, .inl Rr)), (q4, .inl (cI, 2880, .inl Sn)), (q5, .inl (cI, 4, .inl In)), (q6, .inl (cI, 500, .inl Pd)), (q7, .inl (cI, 500, .inl Rt)), (q8, .inl (cI, 10000, .inl Rw))] (bbM (Nw 239) r) := by
  refine rd_i (cc := cX9_barredBy) (maxL := 3) (by decide) rfl (Nat.le_of_ble_eq_true rfl) ?_
  intro p_ e_ s_ m_ ar_ be_ me_ co_ ls Q_ hx hb hml hown hts hP hK hl hret
  have hown : s_.vm.findClass RX9 = some m_.cls := hown
  have hl : lv_has ls 3 [(0, .ref mo), (1, .int r)] := hl
  refine lv_iload_n hx hb dX9_barredBy_0 rfl (lv_at hl 1 rfl) ?_
  refine lv_iconst (v := 0) hx hb dX9_barredBy_1 (by decide) ?_
  refine lv_iconst (v := 2) hx hb dX9_barredBy_2 (by decide) ?_
  refine rd_S (As := [.int r, .int 0, .int 2]) (rest := []) (kX9_isIn l D cI cB r 0 2 ) ⟨hx, hb, hml, hown, hts⟩ (va_cwS 3 hts gX9_barredBy_X9_isIn rfl rfl rfl (by decide +kernel) ⟨Nat.le_of_ble_eq_true rfl, Nat.le_of_ble_eq_true rfl⟩) hK hP [] rfl rfl rfl hl.1 (Nat.le_of_ble_eq_true rfl) dX9_barredBy_3 ⟨Nat.le_refl _, Nat.le_refl _⟩ ?_
  refine lv_if_eq (tgt := 24) hx hb dX9_barredBy_6 (by decide) (fun c6 => ?_) (fun c6 => ?_)
  · refine lv_bipush (v := 7) hx hb dX9_barredBy_24 (by decide) ?_
    refine lv_istore_n (lv' := [(2, .int 7), (0, .ref mo), (1, .int r)]) hx hb dX9_barredBy_26 rfl hl (by decide) rfl (fun ls hl => ?_)
    refine lv_iload_n hx hb dX9_barredBy_27 rfl (lv_at hl 0 rfl) ?_
    refine lv_bipush (v := 7) hx hb dX9_barredBy_28 (by decide) ?_
    refine lv_icmp_ne (tgt := 37) hx hb dX9_barredBy_30 (by decide) (fun c30 => absurd c30 (fun q => q rfl)) (fun c30 => ?_)
    refine lv_iconst (v := -1) hx hb dX9_barredBy_33 (by decide) ?_
    refine lv_goto (tgt := 38) hx hb dX9_barredBy_34 (by decide) ?_
    exact hret _ _ ls (by simp [bbM, c6, c30]) dX9_barredBy_38
  · refine lv_aload_n hx hb dX9_barredBy_9 rfl (lv_at hl 0 rfl) ?_
    refine g_get (C := RX9) (T := TX9) (N := 20) (ci := 9) (index := 64) hx hb hts in_X9_barredBy_9 hown hK hP 0 11 rfl rfl (by decide) (List.mem_of_getElem? (i := 1) rfl) rfl dX9_barredBy_10 ?_
    refine lv_sipush (v := 239) hx hb dX9_barredBy_13 (by decide) ?_
    refine g_iald hx hb hK hP 2 0 rfl rfl 239 (rfl) (by omega) (by omega) dX9_barredBy_16 ?_
    refine lv_iconst (v := 1) hx hb dX9_barredBy_17 (by decide) ?_
    refine lv_iload_n hx hb dX9_barredBy_18 rfl (lv_at hl 1 rfl) ?_
    refine lv_ishl hx hb dX9_barredBy_19 ?_
    refine lv_ixor hx hb dX9_barredBy_20 ?_
    refine lv_goto (tgt := 26) hx hb dX9_barredBy_21 (by decide) ?_
    refine lv_istore_n (lv' := [(2, .int ((Nw 239) ^^^ (1 <<< (r &&& 31)))), (0, .ref mo), (1, .int r)]) hx hb dX9_barredBy_26 rfl hl (by decide) rfl (fun ls hl => ?_)
    refine lv_iload_n hx hb dX9_barredBy_27 rfl (lv_at hl 0 rfl) ?_
    refine lv_bipush (v := 7) hx hb dX9_barredBy_28 (by decide) ?_
    refine lv_icmp_ne (tgt := 37) hx hb dX9_barredBy_30 (by decide) (fun c30 => ?_) (fun c30 => ?_)
    · refine lv_iload_n hx hb dX9_barredBy_37 rfl (lv_at hl 0 rfl) ?_
      exact hret _ _ ls (by simp [bbM, c6, c30]) dX9_barredBy_38
    · refine lv_iconst (v := -1) hx hb dX9_barredBy_33 (by decide) ?_
      refine lv_goto (tgt := 38) hx hb dX9_barredBy_34 (by decide) ?_
      exact hret _ _ ls (by simp [bbM, c6, c30]) dX9_barredBy_38

theorem in_X9_moved_9 : ∀ w ∈ wsX90, w ∈ wsX9_moved := fun _ h => List.mem_cons_of_mem _ (List.mem_append_right _ (h))
set_option maxHeartbeats 4000000 in
set_option maxRecDepth 100000 in
theorem kX9_moved (l : Launch) (D : va_G) (cI cB : ClassId) (mo q1 q2 q3 q4 q5 q6 q7 q8 : Nat) (th tn sz tt fm so nu fau plc : Int32) (wd : Int64) (sm rm : Int32) (Tp Nw Rr Sn In Pd Rt Rw : Nat → Int32) (ns nr ni np nb : Nat) (due : Nat → Nat) (ed : Nat) (k d : Int32) (hcn : cnt Nw ns nr ni np nb) (hcut : ∀ p, p < 4 → 1 ≤ Nw (7 + p) + 1) (hdue : ∀ p, p < 4 → Nw (3 + p) = nI (due p) ∧ due p ≤ 499) (hed : Nw 2 = nI ed) (hel : ed ≤ 499) : We l D (TY cI cB) yX9_moved wsX9_moved 8 181 [.ref mo, .int k, .int d] (S := (Nat → Int32) × (Nat → Int32) × (Nat → Int32)) [(mo, .inr (9, [.int th, .ref q1, .int tn, .int sz, .int tt, .int fm, .int so, .int nu, .int fau, .int plc, .long wd, .ref q2, .ref q3, .ref q4, .int sm, .ref q5, .ref q6, .ref q7, .ref q8, .int rm])), (q1, .inl (cI, 840, .inl Tp)), (q2, .inl (cI, 240, .inl Nw)), (q3, .inl (cI, 240, .inl Rr)), (q4, .inl (cI, 2880, .inl Sn)), (q5, .inl (cI, 4, .inl In)), (q6, .inl (cI, 500, .inl Pd)), (q7, .inl (cI, 500, .inl Rt)), (q8, .inl (cI, 10000, .inl Rw))] (fun u => [(mo, .inr (9, [.int 0, .ref q1, .int tn, .int sz, .int tt, .int fm, .int so, .int nu, .int fau, .int plc, .long wd, .ref q2, .ref q3, .ref q4, .int sm, .ref q5, .ref q6, .ref q7, .ref q8, .int rm])), (q1, .inl (cI, 840, .inl Tp)), (q2, .inl (cI, 240, .inl Nw)), (q3, .inl (cI, 240, .inl Rr)), (q4, .inl (cI, 2880, .inl Sn)), (q5, .inl (cI, 4, .inl u.1)), (q6, .inl (cI, 500, .inl u.2.1)), (q7, .inl (cI, 500, .inl u.2.2)), (q8, .inl (cI, 10000, .inl Rw))]) (some (.int (if isInM k 0 (Nw 117 - 1) = 0 then -1 else if isInM d 0 499 = 0 then -1 else cwM (ov (inM (lsM (upd Nw (118 + 2 * k.toNatClampNeg) d) ns ni (upd Nw (118 + 2 * k.toNatClampNeg) d 239))) In 4) (ov (fun j => paM (upd Nw (118 + 2 * k.toNatClampNeg) d) np nb (nI j)) Pd 500) (ov (fun j => raM (upd Nw (118 + 2 * k.toNatClampNeg) d) nr (nI j)) Rt 500) due ed 0 0 4))) := by
  refine we_i (cc := cX9_moved) (maxL := 3) (by decide) rfl (Nat.le_of_ble_eq_true rfl) ?_
  intro p_ e_ s_ m_ ar_ be_ me_ co_ ls Q_ A_ hx hb hml hown hts hP hK hD hS hl hret
  have hown : s_.vm.findClass RX9 = some m_.cls := hown
  have hl : lv_has ls 3 [(0, .ref mo), (1, .int k), (2, .int d)] := hl
  have h117 := hcn.2.2.2.1.1
  have h117b := hcn.2.2.2.1.2
  refine lv_aload_n hx hb dX9_moved_0 rfl (lv_at hl 0 rfl) ?_
  refine lv_iconst (v := 0) hx hb dX9_moved_1 (by decide) ?_
  refine g_put (C := RX9) (T := TX9) (N := 20) (ci := 9) (index := 1) (v := .int 0) (ws' := [(mo, .inr (9, [.int 0, .ref q1, .int tn, .int sz, .int tt, .int fm, .int so, .int nu, .int fau, .int plc, .long wd, .ref q2, .ref q3, .ref q4, .int sm, .ref q5, .ref q6, .ref q7, .ref q8, .int rm])), (q1, .inl (cI, 840, .inl Tp)), (q2, .inl (cI, 240, .inl Nw)), (q3, .inl (cI, 240, .inl Rr)), (q4, .inl (cI, 2880, .inl Sn)), (q5, .inl (cI, 4, .inl In)), (q6, .inl (cI, 500, .inl Pd)), (q7, .inl (cI, 500, .inl Rt)), (q8, .inl (cI, 10000, .inl Rw))]) hx hb hts in_X9_moved_9 tyX9 tyX9_ok nmX9 hown hK hP hD hS 0 0 rfl rfl (by decide) (List.mem_of_getElem? (i := 1) rfl) rfl rfl rfl (Nat.le_of_ble_eq_true rfl) dX9_moved_2 rfl (fun H_ lc_ hP hD hS => ?_)
  refine lv_aload_n hx hb dX9_moved_5 rfl (lv_at hl 0 rfl) ?_
  refine lv_iload_n hx hb dX9_moved_6 rfl (lv_at hl 1 rfl) ?_
  refine rd_V (As := [.int k]) (rest := []) (ci := 9) (kX9_isPay l D cI cB mo q1 q2 q3 q4 q5 q6 q7 q8 0 tn sz tt fm so nu fau plc wd sm rm Tp Nw Rr Sn In Pd Rt Rw k ) ⟨hx, hb, hml, hown, hts⟩ (cwV 1 hts gX9_moved_X9_isPay rfl rfl rfl (by decide +kernel) ⟨Nat.le_of_ble_eq_true rfl, Nat.le_of_ble_eq_true rfl⟩) hK hP [0, 1, 2, 3, 4, 5, 6, 7, 8] rfl 0 rfl rfl rfl rfl hl.1 (Nat.le_of_ble_eq_true rfl) dX9_moved_7 ⟨Nat.le_refl _, Nat.le_refl _⟩ ?_
  refine lv_if_eq (tgt := 34) hx hb dX9_moved_10 (by decide) (fun c10 => ?_) (fun c10 => ?_)
  · refine lv_iconst (v := -1) hx hb dX9_moved_34 (by decide) ?_
    exact hret _ _ _ _ ls hS (⟨(In, Pd, Rt), hP⟩) (by simp [c10]) dX9_moved_35
  · refine lv_iload_n hx hb dX9_moved_13 rfl (lv_at hl 2 rfl) ?_
    refine rd_S (As := [.int d]) (rest := []) (kX9_isDay l D cI cB d ) ⟨hx, hb, hml, hown, hts⟩ (va_cwS 1 hts gX9_moved_X9_isDay rfl rfl rfl (by decide +kernel) ⟨Nat.le_of_ble_eq_true rfl, Nat.le_of_ble_eq_true rfl⟩) hK hP [] rfl rfl rfl hl.1 (Nat.le_of_ble_eq_true rfl) dX9_moved_14 ⟨Nat.le_refl _, Nat.le_refl _⟩ ?_
    refine lv_if_eq (tgt := 34) hx hb dX9_moved_17 (by decide) (fun c17 => ?_) (fun c17 => ?_)
    · refine lv_iconst (v := -1) hx hb dX9_moved_34 (by decide) ?_
      exact hret _ _ _ _ ls hS (⟨(In, Pd, Rt), hP⟩) (by simp [c10, c17]) dX9_moved_35
    · obtain ⟨q, hq, rfl⟩ := isPay_nI h117b (h117 ▸ c10)
      refine lv_aload_n hx hb dX9_moved_20 rfl (lv_at hl 0 rfl) ?_
      refine lv_bipush (v := 118) hx hb dX9_moved_21 (by decide) ?_
      refine lv_iconst (v := 2) hx hb dX9_moved_23 (by decide) ?_
      refine lv_iload_n hx hb dX9_moved_24 rfl (lv_at hl 1 rfl) ?_
      refine lv_imul hx hb dX9_moved_25 ?_
      refine lv_iadd hx hb dX9_moved_26 ?_
      rw [show (118 + (2 * (nI q)) : Int32) = nI (118 + 2 * q) from nx_a rfl (nx_m rfl rfl)]
      refine lv_iload_n hx hb dX9_moved_27 rfl (lv_at hl 2 rfl) ?_
      refine wp_V (As := [.int (nI (118 + 2 * q)), .int d]) (rest := []) (ci := 9) (ws' := [(mo, .inr (9, [.int 0, .ref q1, .int tn, .int sz, .int tt, .int fm, .int so, .int nu, .int fau, .int plc, .long wd, .ref q2, .ref q3, .ref q4, .int sm, .ref q5, .ref q6, .ref q7, .ref q8, .int rm])), (q1, .inl (cI, 840, .inl Tp)), (q2, .inl (cI, 240, .inl Nw)), (q3, .inl (cI, 240, .inl Rr)), (q4, .inl (cI, 2880, .inl Sn)), (q5, .inl (cI, 4, .inl (ov (inM (lsM (upd Nw (118 + 2 * q) d) ns ni (upd Nw (118 + 2 * q) d 239))) In 4))), (q6, .inl (cI, 500, .inl (ov (fun j => paM (upd Nw (118 + 2 * q) d) np nb (nI j)) Pd 500))), (q7, .inl (cI, 500, .inl (ov (fun j => raM (upd Nw (118 + 2 * q) d) nr (nI j)) Rt 500))), (q8, .inl (cI, 10000, .inl Rw))]) (kX9_costsBy l D cI cB mo q1 q2 q3 q4 q5 q6 q7 q8 0 tn sz tt fm so nu fau plc wd sm rm Tp Nw Rr Sn In Pd Rt Rw ns nr ni np nb due ed (118 + 2 * q) d (by omega) (cnt_upd hcn (by omega) (by omega) (by omega) (by omega) (by omega)) (fun p hp => by rw [upd_ne (by omega)]; exact hcut p hp) (fun p hp => by rw [upd_ne (by omega)]; exact hdue p hp) (by rw [upd_ne (by omega)]; exact hed) (hel)) ⟨hx, hb, hml, hown, hts⟩ (cwV 2 hts gX9_moved_X9_costsBy rfl rfl rfl (by decide +kernel) ⟨Nat.le_of_ble_eq_true rfl, Nat.le_of_ble_eq_true rfl⟩) hK hP hD hS [0, 1, 2, 3, 4, 5, 6, 7, 8] [] rfl rfl (two_eq [] rfl rfl) 9 rfl (by decide +kernel) (by decide +kernel) (two_eq [mo, q1, q2, q3, q4, q5, q6, q7, q8] rfl rfl) (by decide +kernel) 0 rfl rfl rfl rfl hl.1 (Nat.le_of_ble_eq_true rfl) dX9_moved_28 ⟨Nat.le_refl _, Nat.le_refl _⟩ (fun H_ lc_ hP hD hS => ?_)
      show W p_ l e_ (RM 8 181) s_ m_ ar_ be_ me_ co_ H_ lc_ 0 0 Q_ (F0 m_ 31 ls [.int (cwM (ov (inM (lsM (upd Nw (118 + 2 * q) d) ns ni (upd Nw (118 + 2 * q) d 239))) In 4) (ov (fun j => paM (upd Nw (118 + 2 * q) d) np nb (nI j)) Pd 500) (ov (fun j => raM (upd Nw (118 + 2 * q) d) nr (nI j)) Rt 500) due ed 0 0 4)])
      refine lv_goto (tgt := 35) hx hb dX9_moved_31 (by decide) ?_
      exact hret _ _ _ _ ls hS (⟨(ov (inM (lsM (upd Nw (118 + 2 * q) d) ns ni (upd Nw (118 + 2 * q) d 239))) In 4, ov (fun j => paM (upd Nw (118 + 2 * q) d) np nb (nI j)) Pd 500, ov (fun j => raM (upd Nw (118 + 2 * q) d) nr (nI j)) Rt 500), hP⟩) (by rw [if_neg c10, if_neg c17, nI_clamp (by omega)]) dX9_moved_35

theorem in_X9_were_9 : ∀ w ∈ wsX90, w ∈ wsX9_were := fun _ h => List.mem_cons_of_mem _ (List.mem_append_right _ (h))
set_option maxHeartbeats 4000000 in
set_option maxRecDepth 100000 in
theorem kX9_were (l : Launch) (D : va_G) (cI cB : ClassId) (mo q1 q2 q3 q4 q5 q6 q7 q8 : Nat) (th tn sz tt fm so nu fau plc : Int32) (wd : Int64) (sm rm : Int32) (Tp Nw Rr Sn In Pd Rt Rw : Nat → Int32) (ns nr ni np nb : Nat) (due : Nat → Nat) (ed : Nat) (k d : Int32) (hcn : cnt Nw ns nr ni np nb) (hcut : ∀ p, p < 4 → 1 ≤ Nw (7 + p) + 1) (hdue : ∀ p, p < 4 → Nw (3 + p) = nI (due p) ∧ due p ≤ 499) (hed : Nw 2 = nI ed) (hel : ed ≤ 499) : We l D (TY cI cB) yX9_were wsX9_were 8 181 [.ref mo, .int k, .int d] (S := (Nat → Int32) × (Nat → Int32) × (Nat → Int32)) [(mo, .inr (9, [.int th, .ref q1, .int tn, .int sz, .int tt, .int fm, .int so, .int nu, .int fau, .int plc, .long wd, .ref q2, .ref q3, .ref q4, .int sm, .ref q5, .ref q6, .ref q7, .ref q8, .int rm])), (q1, .inl (cI, 840, .inl Tp)), (q2, .inl (cI, 240, .inl Nw)), (q3, .inl (cI, 240, .inl Rr)), (q4, .inl (cI, 2880, .inl Sn)), (q5, .inl (cI, 4, .inl In)), (q6, .inl (cI, 500, .inl Pd)), (q7, .inl (cI, 500, .inl Rt)), (q8, .inl (cI, 10000, .inl Rw))] (fun u => [(mo, .inr (9, [.int 0, .ref q1, .int tn, .int sz, .int tt, .int fm, .int so, .int nu, .int fau, .int plc, .long wd, .ref q2, .ref q3, .ref q4, .int sm, .ref q5, .ref q6, .ref q7, .ref q8, .int rm])), (q1, .inl (cI, 840, .inl Tp)), (q2, .inl (cI, 240, .inl Nw)), (q3, .inl (cI, 240, .inl Rr)), (q4, .inl (cI, 2880, .inl Sn)), (q5, .inl (cI, 4, .inl u.1)), (q6, .inl (cI, 500, .inl u.2.1)), (q7, .inl (cI, 500, .inl u.2.2)), (q8, .inl (cI, 10000, .inl Rw))]) (some (.int (if isInM k 0 (Nw 117 - 1) = 0 then -1 else if isInM d 0 99999 = 0 then -1 else cwM (ov (inM (lsM (upd Nw (118 + 2 * k.toNatClampNeg + 1) d) ns ni (upd Nw (118 + 2 * k.toNatClampNeg + 1) d 239))) In 4) (ov (fun j => paM (upd Nw (118 + 2 * k.toNatClampNeg + 1) d) np nb (nI j)) Pd 500) (ov (fun j => raM (upd Nw (118 + 2 * k.toNatClampNeg + 1) d) nr (nI j)) Rt 500) due ed 0 0 4))) := by
  refine we_i (cc := cX9_were) (maxL := 3) (by decide) rfl (Nat.le_of_ble_eq_true rfl) ?_
  intro p_ e_ s_ m_ ar_ be_ me_ co_ ls Q_ A_ hx hb hml hown hts hP hK hD hS hl hret
  have hown : s_.vm.findClass RX9 = some m_.cls := hown
  have hl : lv_has ls 3 [(0, .ref mo), (1, .int k), (2, .int d)] := hl
  have h117 := hcn.2.2.2.1.1
  have h117b := hcn.2.2.2.1.2
  refine lv_aload_n hx hb dX9_were_0 rfl (lv_at hl 0 rfl) ?_
  refine lv_iconst (v := 0) hx hb dX9_were_1 (by decide) ?_
  refine g_put (C := RX9) (T := TX9) (N := 20) (ci := 9) (index := 1) (v := .int 0) (ws' := [(mo, .inr (9, [.int 0, .ref q1, .int tn, .int sz, .int tt, .int fm, .int so, .int nu, .int fau, .int plc, .long wd, .ref q2, .ref q3, .ref q4, .int sm, .ref q5, .ref q6, .ref q7, .ref q8, .int rm])), (q1, .inl (cI, 840, .inl Tp)), (q2, .inl (cI, 240, .inl Nw)), (q3, .inl (cI, 240, .inl Rr)), (q4, .inl (cI, 2880, .inl Sn)), (q5, .inl (cI, 4, .inl In)), (q6, .inl (cI, 500, .inl Pd)), (q7, .inl (cI, 500, .inl Rt)), (q8, .inl (cI, 10000, .inl Rw))]) hx hb hts in_X9_were_9 tyX9 tyX9_ok nmX9 hown hK hP hD hS 0 0 rfl rfl (by decide) (List.mem_of_getElem? (i := 1) rfl) rfl rfl rfl (Nat.le_of_ble_eq_true rfl) dX9_were_2 rfl (fun H_ lc_ hP hD hS => ?_)
  refine lv_aload_n hx hb dX9_were_5 rfl (lv_at hl 0 rfl) ?_
  refine lv_iload_n hx hb dX9_were_6 rfl (lv_at hl 1 rfl) ?_
  refine rd_V (As := [.int k]) (rest := []) (ci := 9) (kX9_isPay l D cI cB mo q1 q2 q3 q4 q5 q6 q7 q8 0 tn sz tt fm so nu fau plc wd sm rm Tp Nw Rr Sn In Pd Rt Rw k ) ⟨hx, hb, hml, hown, hts⟩ (cwV 1 hts gX9_were_X9_isPay rfl rfl rfl (by decide +kernel) ⟨Nat.le_of_ble_eq_true rfl, Nat.le_of_ble_eq_true rfl⟩) hK hP [0, 1, 2, 3, 4, 5, 6, 7, 8] rfl 0 rfl rfl rfl rfl hl.1 (Nat.le_of_ble_eq_true rfl) dX9_were_7 ⟨Nat.le_refl _, Nat.le_refl _⟩ ?_
  refine lv_if_eq (tgt := 39) hx hb dX9_were_10 (by decide) (fun c10 => ?_) (fun c10 => ?_)
  · refine lv_iconst (v := -1) hx hb dX9_were_39 (by decide) ?_
    exact hret _ _ _ _ ls hS (⟨(In, Pd, Rt), hP⟩) (by simp [c10]) dX9_were_40
  · refine lv_iload_n hx hb dX9_were_13 rfl (lv_at hl 2 rfl) ?_
    refine lv_iconst (v := 0) hx hb dX9_were_14 (by decide) ?_
    refine lv_ldc (v := 99999) hx hb hown (hts (.constant RX9 99 (99999)) (List.mem_of_getElem? (i := 2) rfl)) dX9_were_15 ?_
    refine rd_S (As := [.int d, .int 0, .int 99999]) (rest := []) (kX9_isIn l D cI cB d 0 99999 ) ⟨hx, hb, hml, hown, hts⟩ (va_cwS 3 hts gX9_were_X9_isIn rfl rfl rfl (by decide +kernel) ⟨Nat.le_of_ble_eq_true rfl, Nat.le_of_ble_eq_true rfl⟩) hK hP [] rfl rfl rfl hl.1 (Nat.le_of_ble_eq_true rfl) dX9_were_17 ⟨Nat.le_refl _, Nat.le_refl _⟩ ?_
    refine lv_if_eq (tgt := 39) hx hb dX9_were_20 (by decide) (fun c20 => ?_) (fun c20 => ?_)
    · refine lv_iconst (v := -1) hx hb dX9_were_39 (by decide) ?_
      exact hret _ _ _ _ ls hS (⟨(In, Pd, Rt), hP⟩) (by simp [c10, c20]) dX9_were_40
    · obtain ⟨q, hq, rfl⟩ := isPay_nI h117b (h117 ▸ c10)
      refine lv_aload_n hx hb dX9_were_23 rfl (lv_at hl 0 rfl) ?_
      refine lv_bipush (v := 118) hx hb dX9_were_24 (by decide) ?_
      refine lv_iconst (v := 2) hx hb dX9_were_26 (by decide) ?_
      refine lv_iload_n hx hb dX9_were_27 rfl (lv_at hl 1 rfl) ?_
      refine lv_imul hx hb dX9_were_28 ?_
      refine lv_iadd hx hb dX9_were_29 ?_
      refine lv_iconst (v := 1) hx hb dX9_were_30 (by decide) ?_
      refine lv_iadd hx hb dX9_were_31 ?_
      rw [show ((118 + (2 * (nI q))) + 1 : Int32) = nI (118 + 2 * q + 1) from nx_a (nx_a rfl (nx_m rfl rfl)) rfl]
      refine lv_iload_n hx hb dX9_were_32 rfl (lv_at hl 2 rfl) ?_
      refine wp_V (As := [.int (nI (118 + 2 * q + 1)), .int d]) (rest := []) (ci := 9) (ws' := [(mo, .inr (9, [.int 0, .ref q1, .int tn, .int sz, .int tt, .int fm, .int so, .int nu, .int fau, .int plc, .long wd, .ref q2, .ref q3, .ref q4, .int sm, .ref q5, .ref q6, .ref q7, .ref q8, .int rm])), (q1, .inl (cI, 840, .inl Tp)), (q2, .inl (cI, 240, .inl Nw)), (q3, .inl (cI, 240, .inl Rr)), (q4, .inl (cI, 2880, .inl Sn)), (q5, .inl (cI, 4, .inl (ov (inM (lsM (upd Nw (118 + 2 * q + 1) d) ns ni (upd Nw (118 + 2 * q + 1) d 239))) In 4))), (q6, .inl (cI, 500, .inl (ov (fun j => paM (upd Nw (118 + 2 * q + 1) d) np nb (nI j)) Pd 500))), (q7, .inl (cI, 500, .inl (ov (fun j => raM (upd Nw (118 + 2 * q + 1) d) nr (nI j)) Rt 500))), (q8, .inl (cI, 10000, .inl Rw))]) (kX9_costsBy l D cI cB mo q1 q2 q3 q4 q5 q6 q7 q8 0 tn sz tt fm so nu fau plc wd sm rm Tp Nw Rr Sn In Pd Rt Rw ns nr ni np nb due ed (118 + 2 * q + 1) d (by omega) (cnt_upd hcn (by omega) (by omega) (by omega) (by omega) (by omega)) (fun p hp => by rw [upd_ne (by omega)]; exact hcut p hp) (fun p hp => by rw [upd_ne (by omega)]; exact hdue p hp) (by rw [upd_ne (by omega)]; exact hed) (hel)) ⟨hx, hb, hml, hown, hts⟩ (cwV 2 hts gX9_were_X9_costsBy rfl rfl rfl (by decide +kernel) ⟨Nat.le_of_ble_eq_true rfl, Nat.le_of_ble_eq_true rfl⟩) hK hP hD hS [0, 1, 2, 3, 4, 5, 6, 7, 8] [] rfl rfl (two_eq [] rfl rfl) 9 rfl (by decide +kernel) (by decide +kernel) (two_eq [mo, q1, q2, q3, q4, q5, q6, q7, q8] rfl rfl) (by decide +kernel) 0 rfl rfl rfl rfl hl.1 (Nat.le_of_ble_eq_true rfl) dX9_were_33 ⟨Nat.le_refl _, Nat.le_refl _⟩ (fun H_ lc_ hP hD hS => ?_)
      show W p_ l e_ (RM 8 181) s_ m_ ar_ be_ me_ co_ H_ lc_ 0 0 Q_ (F0 m_ 36 ls [.int (cwM (ov (inM (lsM (upd Nw (118 + 2 * q + 1) d) ns ni (upd Nw (118 + 2 * q + 1) d 239))) In 4) (ov (fun j => paM (upd Nw (118 + 2 * q + 1) d) np nb (nI j)) Pd 500) (ov (fun j => raM (upd Nw (118 + 2 * q + 1) d) nr (nI j)) Rt 500) due ed 0 0 4)])
      refine lv_goto (tgt := 40) hx hb dX9_were_36 (by decide) ?_
      exact hret _ _ _ _ ls hS (⟨(ov (inM (lsM (upd Nw (118 + 2 * q + 1) d) ns ni (upd Nw (118 + 2 * q + 1) d 239))) In 4, ov (fun j => paM (upd Nw (118 + 2 * q + 1) d) np nb (nI j)) Pd 500, ov (fun j => raM (upd Nw (118 + 2 * q + 1) d) nr (nI j)) Rt 500), hP⟩) (by rw [if_neg c10, if_neg c20, nI_clamp (by omega)]) dX9_were_40

theorem in_X9_barring_9 : ∀ w ∈ wsX90, w ∈ wsX9_barring := fun _ h => List.mem_cons_of_mem _ (List.mem_append_right _ (h))
set_option maxHeartbeats 4000000 in
set_option maxRecDepth 100000 in
theorem kX9_barring (l : Launch) (D : va_G) (cI cB : ClassId) (mo q1 q2 q3 q4 q5 q6 q7 q8 : Nat) (th tn sz tt fm so nu fau plc : Int32) (wd : Int64) (sm rm : Int32) (Tp Nw Rr Sn In Pd Rt Rw : Nat → Int32) (ns nr ni np nb : Nat) (due : Nat → Nat) (ed : Nat) (r : Int32) (hcn : cnt Nw ns nr ni np nb) (hcut : ∀ p, p < 4 → 1 ≤ Nw (7 + p) + 1) (hdue : ∀ p, p < 4 → Nw (3 + p) = nI (due p) ∧ due p ≤ 499) (hed : Nw 2 = nI ed) (hel : ed ≤ 499) : We l D (TY cI cB) yX9_barring wsX9_barring 8 181 [.ref mo, .int r] (S := (Nat → Int32) × (Nat → Int32) × (Nat → Int32)) [(mo, .inr (9, [.int th, .ref q1, .int tn, .int sz, .int tt, .int fm, .int so, .int nu, .int fau, .int plc, .long wd, .ref q2, .ref q3, .ref q4, .int sm, .ref q5, .ref q6, .ref q7, .ref q8, .int rm])), (q1, .inl (cI, 840, .inl Tp)), (q2, .inl (cI, 240, .inl Nw)), (q3, .inl (cI, 240, .inl Rr)), (q4, .inl (cI, 2880, .inl Sn)), (q5, .inl (cI, 4, .inl In)), (q6, .inl (cI, 500, .inl Pd)), (q7, .inl (cI, 500, .inl Rt)), (q8, .inl (cI, 10000, .inl Rw))] (fun u => [(mo, .inr (9, [.int 0, .ref q1, .int tn, .int sz, .int tt, .int fm, .int so, .int nu, .int fau, .int plc, .long wd, .ref q2, .ref q3, .ref q4, .int sm, .ref q5, .ref q6, .ref q7, .ref q8, .int rm])), (q1, .inl (cI, 840, .inl Tp)), (q2, .inl (cI, 240, .inl Nw)), (q3, .inl (cI, 240, .inl Rr)), (q4, .inl (cI, 2880, .inl Sn)), (q5, .inl (cI, 4, .inl u.1)), (q6, .inl (cI, 500, .inl u.2.1)), (q7, .inl (cI, 500, .inl u.2.2)), (q8, .inl (cI, 10000, .inl Rw))]) (some (.int (if (bbM (Nw 239) r) = -1 then -1 else cwM (ov (inM (lsM (upd Nw 239 (bbM (Nw 239) r)) ns ni (upd Nw 239 (bbM (Nw 239) r) 239))) In 4) (ov (fun j => paM (upd Nw 239 (bbM (Nw 239) r)) np nb (nI j)) Pd 500) (ov (fun j => raM (upd Nw 239 (bbM (Nw 239) r)) nr (nI j)) Rt 500) due ed 0 0 4))) := by
  refine we_i (cc := cX9_barring) (maxL := 2) (by decide) rfl (Nat.le_of_ble_eq_true rfl) ?_
  intro p_ e_ s_ m_ ar_ be_ me_ co_ ls Q_ A_ hx hb hml hown hts hP hK hD hS hl hret
  have hown : s_.vm.findClass RX9 = some m_.cls := hown
  have hl : lv_has ls 2 [(0, .ref mo), (1, .int r)] := hl
  refine lv_aload_n hx hb dX9_barring_0 rfl (lv_at hl 0 rfl) ?_
  refine lv_iconst (v := 0) hx hb dX9_barring_1 (by decide) ?_
  refine g_put (C := RX9) (T := TX9) (N := 20) (ci := 9) (index := 1) (v := .int 0) (ws' := [(mo, .inr (9, [.int 0, .ref q1, .int tn, .int sz, .int tt, .int fm, .int so, .int nu, .int fau, .int plc, .long wd, .ref q2, .ref q3, .ref q4, .int sm, .ref q5, .ref q6, .ref q7, .ref q8, .int rm])), (q1, .inl (cI, 840, .inl Tp)), (q2, .inl (cI, 240, .inl Nw)), (q3, .inl (cI, 240, .inl Rr)), (q4, .inl (cI, 2880, .inl Sn)), (q5, .inl (cI, 4, .inl In)), (q6, .inl (cI, 500, .inl Pd)), (q7, .inl (cI, 500, .inl Rt)), (q8, .inl (cI, 10000, .inl Rw))]) hx hb hts in_X9_barring_9 tyX9 tyX9_ok nmX9 hown hK hP hD hS 0 0 rfl rfl (by decide) (List.mem_of_getElem? (i := 1) rfl) rfl rfl rfl (Nat.le_of_ble_eq_true rfl) dX9_barring_2 rfl (fun H_ lc_ hP hD hS => ?_)
  refine lv_aload_n hx hb dX9_barring_5 rfl (lv_at hl 0 rfl) ?_
  refine lv_iload_n hx hb dX9_barring_6 rfl (lv_at hl 1 rfl) ?_
  refine rd_V (As := [.int r]) (rest := []) (ci := 9) (kX9_barredBy l D cI cB mo q1 q2 q3 q4 q5 q6 q7 q8 0 tn sz tt fm so nu fau plc wd sm rm Tp Nw Rr Sn In Pd Rt Rw r ) ⟨hx, hb, hml, hown, hts⟩ (cwV 1 hts gX9_barring_X9_barredBy rfl rfl rfl (by decide +kernel) ⟨Nat.le_of_ble_eq_true rfl, Nat.le_of_ble_eq_true rfl⟩) hK hP [0, 1, 2, 3, 4, 5, 6, 7, 8] rfl 0 rfl rfl rfl rfl hl.1 (Nat.le_of_ble_eq_true rfl) dX9_barring_7 ⟨Nat.le_refl _, Nat.le_refl _⟩ ?_
  refine lv_iconst (v := -1) hx hb dX9_barring_10 (by decide) ?_
  refine lv_icmp_ne (tgt := 18) hx hb dX9_barring_11 (by decide) (fun c11 => ?_) (fun c11 => ?_)
  · refine lv_aload_n hx hb dX9_barring_18 rfl (lv_at hl 0 rfl) ?_
    refine lv_sipush (v := 239) hx hb dX9_barring_19 (by decide) ?_
    refine lv_aload_n hx hb dX9_barring_22 rfl (lv_at hl 0 rfl) ?_
    refine lv_iload_n hx hb dX9_barring_23 rfl (lv_at hl 1 rfl) ?_
    refine rd_V (As := [.int r]) (rest := [.int 239, .ref mo]) (ci := 9) (kX9_barredBy l D cI cB mo q1 q2 q3 q4 q5 q6 q7 q8 0 tn sz tt fm so nu fau plc wd sm rm Tp Nw Rr Sn In Pd Rt Rw r ) ⟨hx, hb, hml, hown, hts⟩ (cwV 1 hts gX9_barring_X9_barredBy rfl rfl rfl (by decide +kernel) ⟨Nat.le_of_ble_eq_true rfl, Nat.le_of_ble_eq_true rfl⟩) hK hP [0, 1, 2, 3, 4, 5, 6, 7, 8] rfl 0 rfl rfl rfl rfl hl.1 (Nat.le_of_ble_eq_true rfl) dX9_barring_24 ⟨Nat.le_refl _, Nat.le_refl _⟩ ?_
    refine wp_V (As := [.int 239, .int (bbM (Nw 239) r)]) (rest := []) (ci := 9) (ws' := [(mo, .inr (9, [.int 0, .ref q1, .int tn, .int sz, .int tt, .int fm, .int so, .int nu, .int fau, .int plc, .long wd, .ref q2, .ref q3, .ref q4, .int sm, .ref q5, .ref q6, .ref q7, .ref q8, .int rm])), (q1, .inl (cI, 840, .inl Tp)), (q2, .inl (cI, 240, .inl Nw)), (q3, .inl (cI, 240, .inl Rr)), (q4, .inl (cI, 2880, .inl Sn)), (q5, .inl (cI, 4, .inl (ov (inM (lsM (upd Nw 239 (bbM (Nw 239) r)) ns ni (upd Nw 239 (bbM (Nw 239) r) 239))) In 4))), (q6, .inl (cI, 500, .inl (ov (fun j => paM (upd Nw 239 (bbM (Nw 239) r)) np nb (nI j)) Pd 500))), (q7, .inl (cI, 500, .inl (ov (fun j => raM (upd Nw 239 (bbM (Nw 239) r)) nr (nI j)) Rt 500))), (q8, .inl (cI, 10000, .inl Rw))]) (kX9_costsBy l D cI cB mo q1 q2 q3 q4 q5 q6 q7 q8 0 tn sz tt fm so nu fau plc wd sm rm Tp Nw Rr Sn In Pd Rt Rw ns nr ni np nb due ed 239 (bbM (Nw 239) r) (by omega) (cnt_upd hcn (by omega) (by omega) (by omega) (by omega) (by omega)) (fun p hp => by rw [upd_ne (by omega)]; exact hcut p hp) (fun p hp => by rw [upd_ne (by omega)]; exact hdue p hp) (by rw [upd_ne (by omega)]; exact hed) (hel)) ⟨hx, hb, hml, hown, hts⟩ (cwV 2 hts gX9_barring_X9_costsBy rfl rfl rfl (by decide +kernel) ⟨Nat.le_of_ble_eq_true rfl, Nat.le_of_ble_eq_true rfl⟩) hK hP hD hS [0, 1, 2, 3, 4, 5, 6, 7, 8] [] rfl rfl (two_eq [] rfl rfl) 9 rfl (by decide +kernel) (by decide +kernel) (two_eq [mo, q1, q2, q3, q4, q5, q6, q7, q8] rfl rfl) (by decide +kernel) 0 rfl rfl rfl rfl hl.1 (Nat.le_of_ble_eq_true rfl) dX9_barring_27 ⟨Nat.le_refl _, Nat.le_refl _⟩ (fun H_ lc_ hP hD hS => ?_)
    show W p_ l e_ (RM 8 181) s_ m_ ar_ be_ me_ co_ H_ lc_ 0 0 Q_ (F0 m_ 30 ls [.int (cwM (ov (inM (lsM (upd Nw 239 (bbM (Nw 239) r)) ns ni (upd Nw 239 (bbM (Nw 239) r) 239))) In 4) (ov (fun j => paM (upd Nw 239 (bbM (Nw 239) r)) np nb (nI j)) Pd 500) (ov (fun j => raM (upd Nw 239 (bbM (Nw 239) r)) nr (nI j)) Rt 500) due ed 0 0 4)])
    exact hret _ _ _ _ ls hS (⟨(ov (inM (lsM (upd Nw 239 (bbM (Nw 239) r)) ns ni (upd Nw 239 (bbM (Nw 239) r) 239))) In 4, ov (fun j => paM (upd Nw 239 (bbM (Nw 239) r)) np nb (nI j)) Pd 500, ov (fun j => raM (upd Nw 239 (bbM (Nw 239) r)) nr (nI j)) Rt 500), hP⟩) (by simp only [c11, if_true, if_false]) dX9_barring_30
  · refine lv_iconst (v := -1) hx hb dX9_barring_14 (by decide) ?_
    refine lv_goto (tgt := 30) hx hb dX9_barring_15 (by decide) ?_
    exact hret _ _ _ _ ls hS (⟨(In, Pd, Rt), hP⟩) (by simp only [c11, if_true, if_false]) dX9_barring_30

def ltM (C : Nat → Int32) (low : Int32) : Nat → Nat
  | 0 => 0
  | d + 1 => if C (d + 1) = low then d + 1 else ltM C low d
theorem ltM_at {C : Nat → Int32} {low : Int32} {d : Nat} (h : C d = low) : ltM C low d = d := by
  cases d with
  | zero => rfl
  | succ d => unfold ltM; rw [if_pos h]
theorem ltM_dn {C : Nat → Int32} {low : Int32} {d : Nat} (h : ¬ C (d + 1) = low) : ltM C low (d + 1) = ltM C low d := by
  conv => lhs; unfold ltM
  rw [if_neg h]
theorem in_X9_latest_9 : ∀ w ∈ wsX90, w ∈ wsX9_latest := fun _ h => List.mem_cons_of_mem _ (List.mem_append_right _ (h))
set_option maxHeartbeats 4000000 in
set_option maxRecDepth 100000 in
theorem kX9_latest (l : Launch) (D : va_G) (cI cB : ClassId) (mo q1 q2 q3 q4 q5 q6 q7 q8 : Nat) (th tn sz tt fm so nu fau plc : Int32) (wd : Int64) (sm rm : Int32) (Tp Nw Rr Sn In Pd Rt Rw : Nat → Int32) (ns nr ni np nb : Nat) (due : Nat → Nat) (ed : Nat) (a : Int32) (hcn : cnt Nw ns nr ni np nb) (hcut : ∀ p, p < 4 → 1 ≤ Nw (7 + p) + 1) (hdue : ∀ p, p < 4 → Nw (3 + p) = nI (due p) ∧ due p ≤ 499) (hed : Nw 2 = nI ed) (hel : ed ≤ 499) : We l D (TY cI cB) yX9_latest wsX9_latest 7 157 [.ref mo, .int a] (S := (Nat → Int32) × (Nat → Int32) × (Nat → Int32)) [(mo, .inr (9, [.int th, .ref q1, .int tn, .int sz, .int tt, .int fm, .int so, .int nu, .int fau, .int plc, .long wd, .ref q2, .ref q3, .ref q4, .int sm, .ref q5, .ref q6, .ref q7, .ref q8, .int rm])), (q1, .inl (cI, 840, .inl Tp)), (q2, .inl (cI, 240, .inl Nw)), (q3, .inl (cI, 240, .inl Rr)), (q4, .inl (cI, 2880, .inl Sn)), (q5, .inl (cI, 4, .inl In)), (q6, .inl (cI, 500, .inl Pd)), (q7, .inl (cI, 500, .inl Rt)), (q8, .inl (cI, 10000, .inl Rw))] (fun u => [(mo, .inr (9, [.int 0, .ref q1, .int tn, .int sz, .int tt, .int fm, .int so, .int nu, .int fau, .int plc, .long wd, .ref q2, .ref q3, .ref q4, .int sm, .ref q5, .ref q6, .ref q7, .ref q8, .int rm])), (q1, .inl (cI, 840, .inl Tp)), (q2, .inl (cI, 240, .inl Nw)), (q3, .inl (cI, 240, .inl Rr)), (q4, .inl (cI, 2880, .inl Sn)), (q5, .inl (cI, 4, .inl u.1)), (q6, .inl (cI, 500, .inl u.2.1)), (q7, .inl (cI, 500, .inl u.2.2)), (q8, .inl (cI, 10000, .inl Rw))]) (some (.int (if isInM a 1 99999 = 0 then -1 else nI (ltM (fun d => cwM (ov (inM (lsM Nw ns ni (Nw 239))) In 4) (ov (fun j => paM Nw np nb (nI j)) Pd 500) (ov (fun j => raM Nw nr (nI j)) Rt 500) due ed (nI d) a 4) (cwM (ov (inM (lsM Nw ns ni (Nw 239))) In 4) (ov (fun j => paM Nw np nb (nI j)) Pd 500) (ov (fun j => raM Nw nr (nI j)) Rt 500) due ed 0 a 4) ed)))) := by
  refine we_i (cc := cX9_latest) (maxL := 4) (by decide) rfl (Nat.le_of_ble_eq_true rfl) ?_
  intro p_ e_ s_ m_ ar_ be_ me_ co_ ls Q_ A_ hx hb hml hown hts hP hK hD hS hl hret
  have hown : s_.vm.findClass RX9 = some m_.cls := hown
  have hl : lv_has ls 4 [(0, .ref mo), (1, .int a)] := hl
  refine lv_aload_n hx hb dX9_latest_0 rfl (lv_at hl 0 rfl) ?_
  refine lv_iconst (v := 0) hx hb dX9_latest_1 (by decide) ?_
  refine g_put (C := RX9) (T := TX9) (N := 20) (ci := 9) (index := 1) (v := .int 0) (ws' := [(mo, .inr (9, [.int 0, .ref q1, .int tn, .int sz, .int tt, .int fm, .int so, .int nu, .int fau, .int plc, .long wd, .ref q2, .ref q3, .ref q4, .int sm, .ref q5, .ref q6, .ref q7, .ref q8, .int rm])), (q1, .inl (cI, 840, .inl Tp)), (q2, .inl (cI, 240, .inl Nw)), (q3, .inl (cI, 240, .inl Rr)), (q4, .inl (cI, 2880, .inl Sn)), (q5, .inl (cI, 4, .inl In)), (q6, .inl (cI, 500, .inl Pd)), (q7, .inl (cI, 500, .inl Rt)), (q8, .inl (cI, 10000, .inl Rw))]) hx hb hts in_X9_latest_9 tyX9 tyX9_ok nmX9 hown hK hP hD hS 0 0 rfl rfl (by decide) (List.mem_of_getElem? (i := 1) rfl) rfl rfl rfl (Nat.le_of_ble_eq_true rfl) dX9_latest_2 rfl (fun H_ lc_ hP hD hS => ?_)
  refine lv_iload_n hx hb dX9_latest_5 rfl (lv_at hl 1 rfl) ?_
  refine lv_iconst (v := 1) hx hb dX9_latest_6 (by decide) ?_
  refine lv_ldc (v := 99999) hx hb hown (hts (.constant RX9 99 (99999)) (List.mem_of_getElem? (i := 2) rfl)) dX9_latest_7 ?_
  refine rd_S (As := [.int a, .int 1, .int 99999]) (rest := []) (kX9_isIn l D cI cB a 1 99999 ) ⟨hx, hb, hml, hown, hts⟩ (va_cwS 3 hts gX9_latest_X9_isIn rfl rfl rfl (by decide +kernel) ⟨Nat.le_of_ble_eq_true rfl, Nat.le_of_ble_eq_true rfl⟩) hK hP [] rfl rfl rfl hl.1 (Nat.le_of_ble_eq_true rfl) dX9_latest_9 ⟨Nat.le_refl _, Nat.le_refl _⟩ ?_
  refine lv_if_ne (tgt := 17) hx hb dX9_latest_12 (by decide) (fun c12 => ?_) (fun c12 => ?_)
  · refine lv_aload_n hx hb dX9_latest_17 rfl (lv_at hl 0 rfl) ?_
    refine wp_V (As := []) (rest := []) (ci := 9) (ws' := [(mo, .inr (9, [.int 0, .ref q1, .int tn, .int sz, .int tt, .int fm, .int so, .int nu, .int fau, .int plc, .long wd, .ref q2, .ref q3, .ref q4, .int sm, .ref q5, .ref q6, .ref q7, .ref q8, .int rm])), (q1, .inl (cI, 840, .inl Tp)), (q2, .inl (cI, 240, .inl Nw)), (q3, .inl (cI, 240, .inl Rr)), (q4, .inl (cI, 2880, .inl Sn)), (q5, .inl (cI, 4, .inl (ov (inM (lsM Nw ns ni (Nw 239))) In 4))), (q6, .inl (cI, 500, .inl (ov (fun j => paM Nw np nb (nI j)) Pd 500))), (q7, .inl (cI, 500, .inl (ov (fun j => raM Nw nr (nI j)) Rt 500))), (q8, .inl (cI, 10000, .inl Rw))]) (kX9_costs l D cI cB mo q1 q2 q3 q4 q5 q6 q7 q8 0 tn sz tt fm so nu fau plc wd sm rm Tp Nw Rr Sn In Pd Rt Rw ns nr ni np nb due ed (by assumption) (by assumption) (by assumption) (by assumption) (by assumption)) ⟨hx, hb, hml, hown, hts⟩ (cwV 0 hts gX9_latest_X9_costs rfl rfl rfl (by decide +kernel) ⟨Nat.le_of_ble_eq_true rfl, Nat.le_of_ble_eq_true rfl⟩) hK hP hD hS [0, 1, 2, 3, 4, 5, 6, 7, 8] [] rfl rfl (two_eq [] rfl rfl) 9 rfl (by decide +kernel) (by decide +kernel) (two_eq [mo, q1, q2, q3, q4, q5, q6, q7, q8] rfl rfl) (by decide +kernel) 0 rfl rfl rfl rfl hl.1 (Nat.le_of_ble_eq_true rfl) dX9_latest_18 ⟨Nat.le_refl _, Nat.le_refl _⟩ (fun H_ lc_ hP hD hS => ?_)
    show W p_ l e_ (RM 7 157) s_ m_ ar_ be_ me_ co_ H_ lc_ 0 0 Q_ (F0 m_ 21 ls [.int (cwM (ov (inM (lsM Nw ns ni (Nw 239))) In 4) (ov (fun j => paM Nw np nb (nI j)) Pd 500) (ov (fun j => raM Nw nr (nI j)) Rt 500) due ed 0 0 4)])
    refine lv_pop hx hb dX9_latest_21 rfl ?_
    refine lv_aload_n hx hb dX9_latest_22 rfl (lv_at hl 0 rfl) ?_
    refine lv_iconst (v := 0) hx hb dX9_latest_23 (by decide) ?_
    refine lv_iload_n hx hb dX9_latest_24 rfl (lv_at hl 1 rfl) ?_
    refine rd_V (As := [.int 0, .int a]) (rest := []) (ci := 9) (kX9_costsWith l D cI cB mo q1 q2 q3 q4 q5 q6 q7 q8 0 tn sz tt fm so nu fau plc wd sm rm Tp Nw Rr Sn (ov (inM (lsM Nw ns ni (Nw 239))) In 4) (ov (fun j => paM Nw np nb (nI j)) Pd 500) (ov (fun j => raM Nw nr (nI j)) Rt 500) Rw 0 a due ed (by assumption) (by assumption) (by assumption)) ⟨hx, hb, hml, hown, hts⟩ (cwV 2 hts gX9_latest_X9_costsWith rfl rfl rfl (by decide +kernel) ⟨Nat.le_of_ble_eq_true rfl, Nat.le_of_ble_eq_true rfl⟩) hK hP [0, 1, 2, 3, 4, 5, 6, 7, 8] rfl 0 rfl rfl rfl rfl hl.1 (Nat.le_of_ble_eq_true rfl) dX9_latest_25 ⟨Nat.le_refl _, Nat.le_refl _⟩ ?_
    refine lv_istore_n (lv' := [(2, .int (cwM (ov (inM (lsM Nw ns ni (Nw 239))) In 4) (ov (fun j => paM Nw np nb (nI j)) Pd 500) (ov (fun j => raM Nw nr (nI j)) Rt 500) due ed 0 a 4)), (0, .ref mo), (1, .int a)]) hx hb dX9_latest_28 rfl hl (by decide) rfl (fun ls hl => ?_)
    refine lv_aload_n hx hb dX9_latest_29 rfl (lv_at hl 1 rfl) ?_
    refine g_get (C := RX9) (T := TX9) (N := 20) (ci := 9) (index := 64) hx hb hts in_X9_latest_9 hown hK hP 0 11 rfl rfl (by decide) (List.mem_of_getElem? (i := 3) rfl) rfl dX9_latest_30 ?_
    refine lv_iconst (v := 2) hx hb dX9_latest_33 (by decide) ?_
    refine g_iald hx hb hK hP 2 0 rfl rfl 2 (rfl) (by omega) (by omega) dX9_latest_34 ?_
    refine lv_istore_n (lv' := [(3, .int (Nw 2)), (2, .int (cwM (ov (inM (lsM Nw ns ni (Nw 239))) In 4) (ov (fun j => paM Nw np nb (nI j)) Pd 500) (ov (fun j => raM Nw nr (nI j)) Rt 500) due ed 0 a 4)), (0, .ref mo), (1, .int a)]) hx hb dX9_latest_35 rfl hl (by decide) rfl (fun ls hl => ?_)
    have L36 : ∀ (nn_ : Nat) (d : Nat) (hinv : ltM (fun d => cwM (ov (inM (lsM Nw ns ni (Nw 239))) In 4) (ov (fun j => paM Nw np nb (nI j)) Pd 500) (ov (fun j => raM Nw nr (nI j)) Rt 500) due ed (nI d) a 4) (cwM (ov (inM (lsM Nw ns ni (Nw 239))) In 4) (ov (fun j => paM Nw np nb (nI j)) Pd 500) (ov (fun j => raM Nw nr (nI j)) Rt 500) due ed 0 a 4) d = ltM (fun d => cwM (ov (inM (lsM Nw ns ni (Nw 239))) In 4) (ov (fun j => paM Nw np nb (nI j)) Pd 500) (ov (fun j => raM Nw nr (nI j)) Rt 500) due ed (nI d) a 4) (cwM (ov (inM (lsM Nw ns ni (Nw 239))) In 4) (ov (fun j => paM Nw np nb (nI j)) Pd 500) (ov (fun j => raM Nw nr (nI j)) Rt 500) due ed 0 a 4) ed) (xx_v3 : Int32), d < nn_ → xx_v3 = nI d → ∀ (H_ : Heap) (lc_ : List Loc), va_P D vwCl [(mo, .inr (9, [.int 0, .ref q1, .int tn, .int sz, .int tt, .int fm, .int so, .int nu, .int fau, .int plc, .long wd, .ref q2, .ref q3, .ref q4, .int sm, .ref q5, .ref q6, .ref q7, .ref q8, .int rm])), (q1, .inl (cI, 840, .inl Tp)), (q2, .inl (cI, 240, .inl Nw)), (q3, .inl (cI, 240, .inl Rr)), (q4, .inl (cI, 2880, .inl Sn)), (q5, .inl (cI, 4, .inl (ov (inM (lsM Nw ns ni (Nw 239))) In 4))), (q6, .inl (cI, 500, .inl (ov (fun j => paM Nw np nb (nI j)) Pd 500))), (q7, .inl (cI, 500, .inl (ov (fun j => raM Nw nr (nI j)) Rt 500))), (q8, .inl (cI, 10000, .inl Rw))] H_ → va_D A_ [(mo, .inr (9, [.int 0, .ref q1, .int tn, .int sz, .int tt, .int fm, .int so, .int nu, .int fau, .int plc, .long wd, .ref q2, .ref q3, .ref q4, .int sm, .ref q5, .ref q6, .ref q7, .ref q8, .int rm])), (q1, .inl (cI, 840, .inl Tp)), (q2, .inl (cI, 240, .inl Nw)), (q3, .inl (cI, 240, .inl Rr)), (q4, .inl (cI, 2880, .inl Sn)), (q5, .inl (cI, 4, .inl (ov (inM (lsM Nw ns ni (Nw 239))) In 4))), (q6, .inl (cI, 500, .inl (ov (fun j => paM Nw np nb (nI j)) Pd 500))), (q7, .inl (cI, 500, .inl (ov (fun j => raM Nw nr (nI j)) Rt 500))), (q8, .inl (cI, 10000, .inl Rw))] → va_S A_ s_.heap H_ lc_ → ∀ (ls : Array Slot), lv_has ls 4 [(0, .ref mo), (1, .int a), (2, .int (cwM (ov (inM (lsM Nw ns ni (Nw 239))) In 4) (ov (fun j => paM Nw np nb (nI j)) Pd 500) (ov (fun j => raM Nw nr (nI j)) Rt 500) due ed 0 a 4)), (3, .int xx_v3)] → W p_ l e_ (RM 7 157) s_ m_ ar_ be_ me_ co_ H_ lc_ 0 0 Q_ (F0 m_ 36 ls []) := by
      intro nn_
      induction nn_ with
      | zero => intro d hinv xx_v3 hn_; exact absurd hn_ (Nat.not_lt_zero _)
      | succ nn_ ih36 =>
        intro d hinv xx_v3 hn_ e_xx_v3 H_ lc_ hP hD hS ls hl
        subst e_xx_v3
        refine lv_aload_n hx hb dX9_latest_36 rfl (lv_at hl 0 rfl) ?_
        refine lv_iload_n hx hb dX9_latest_37 rfl (lv_at hl 3 rfl) ?_
        refine lv_iload_n hx hb dX9_latest_38 rfl (lv_at hl 1 rfl) ?_
        refine rd_V (As := [.int (nI d), .int a]) (rest := []) (ci := 9) (kX9_costsWith l D cI cB mo q1 q2 q3 q4 q5 q6 q7 q8 0 tn sz tt fm so nu fau plc wd sm rm Tp Nw Rr Sn (ov (inM (lsM Nw ns ni (Nw 239))) In 4) (ov (fun j => paM Nw np nb (nI j)) Pd 500) (ov (fun j => raM Nw nr (nI j)) Rt 500) Rw (nI d) a due ed (by assumption) (by assumption) (by assumption)) ⟨hx, hb, hml, hown, hts⟩ (cwV 2 hts gX9_latest_X9_costsWith rfl rfl rfl (by decide +kernel) ⟨Nat.le_of_ble_eq_true rfl, Nat.le_of_ble_eq_true rfl⟩) hK hP [0, 1, 2, 3, 4, 5, 6, 7, 8] rfl 0 rfl rfl rfl rfl hl.1 (Nat.le_of_ble_eq_true rfl) dX9_latest_39 ⟨Nat.le_refl _, Nat.le_refl _⟩ ?_
        refine lv_iload_n hx hb dX9_latest_42 rfl (lv_at hl 2 rfl) ?_
        refine lv_icmp_eq (tgt := 52) hx hb dX9_latest_43 (by decide) (fun c43 => ?_) (fun c43 => ?_)
        · refine lv_iload_n hx hb dX9_latest_52 rfl (lv_at hl 3 rfl) ?_
          exact hret _ _ _ _ ls hS (⟨(ov (inM (lsM Nw ns ni (Nw 239))) In 4, ov (fun j => paM Nw np nb (nI j)) Pd 500, ov (fun j => raM Nw nr (nI j)) Rt 500), hP⟩) (by rw [if_neg c12, ← hinv]; exact congrArg nI (ltM_at (C := (fun d => cwM (ov (inM (lsM Nw ns ni (Nw 239))) In 4) (ov (fun j => paM Nw np nb (nI j)) Pd 500) (ov (fun j => raM Nw nr (nI j)) Rt 500) due ed (nI d) a 4)) c43).symm) dX9_latest_53
        · obtain ⟨d9, rfl⟩ : ∃ e, d = e + 1 := by
            cases d with
            | zero => exact absurd rfl c43
            | succ e => exact ⟨e, rfl⟩
          refine lv_iinc (v := nI d9) (lv' := [(3, .int (nI d9)), (0, .ref mo), (1, .int a), (2, .int (cwM (ov (inM (lsM Nw ns ni (Nw 239))) In 4) (ov (fun j => paM Nw np nb (nI j)) Pd 500) (ov (fun j => raM Nw nr (nI j)) Rt 500) due ed 0 a 4))]) hx hb dX9_latest_46 hl (k := 3) rfl (pk_m1 d9) (by decide) rfl (fun ls hl => ?_)
          refine lv_goto (tgt := 36) hx hb dX9_latest_49 (by decide) ?_
          exact ih36 d9 (by rw [← hinv]; exact (ltM_dn (C := (fun d => cwM (ov (inM (lsM Nw ns ni (Nw 239))) In 4) (ov (fun j => paM Nw np nb (nI j)) Pd 500) (ov (fun j => raM Nw nr (nI j)) Rt 500) due ed (nI d) a 4)) c43).symm) _ (by omega) (rfl) _ _ hP hD hS ls (lv_sub hl [1, 2, 3, 0] rfl)
    exact L36 (ed + 1) ed (rfl) _ (Nat.lt_succ_self _) (hed) _ _ hP hD hS ls (lv_sub hl [2, 3, 1, 0] rfl)
  · refine lv_iconst (v := -1) hx hb dX9_latest_15 (by decide) ?_
    exact hret _ _ _ _ ls hS (⟨(In, Pd, Rt), hP⟩) (by simp [c12]) dX9_latest_16

