def pmM (N : Nat → Int32) (ns nr ni np nb : Nat) (due : Nat → Nat) (ed : Nat) (In Pd Rt : Nat → Int32) (p : Nat) (w : Int32) : Int32 :=
  if w = 3 then sbM N ns ni (chM (fun r => sbM N ns ni r p) (N 239) 3) p else if w = 4 then chM (fun r => sbM N ns ni r p) (N 239) 3 else if w = 5 then (ov (inM (lsM N ns ni (N 239))) In 4) p
  else if w = 6 then coM (ov (inM (lsM N ns ni (N 239))) In 4) (ov (fun j => paM N np nb (nI j)) Pd 500) (ov (fun j => raM N nr (nI j)) Rt 500) p 0 0 (due p) ed
  else if w = 7 then N (3 + p) else if w = 8 then N (7 + p) else if w = 9 then yrM N ni p else sbM N ns ni w p
theorem in_X9_period_9 : ∀ w ∈ wsX90, w ∈ wsX9_period := fun _ h => List.mem_cons_of_mem _ (List.mem_append_right _ (h))
set_option maxHeartbeats 4000000 in
set_option maxRecDepth 100000 in
theorem kX9_period (l : Launch) (D : va_G) (cI cB : ClassId) (mo q1 q2 q3 q4 q5 q6 q7 q8 : Nat) (th tn sz tt fm so nu fau plc : Int32) (wd : Int64) (sm rm : Int32) (Tp Nw Rr Sn In Pd Rt Rw : Nat → Int32) (ns nr ni np nb : Nat) (due : Nat → Nat) (ed : Nat) (p w : Int32) (hcn : cnt Nw ns nr ni np nb) (hcut : ∀ p, p < 4 → 1 ≤ Nw (7 + p) + 1) (hdue : ∀ p, p < 4 → Nw (3 + p) = nI (due p) ∧ due p ≤ 499) (hed : Nw 2 = nI ed) (hel : ed ≤ 499) : We l D (TY cI cB) yX9_period wsX9_period 6 137 [.ref mo, .int p, .int w] (S := (Nat → Int32) × (Nat → Int32) × (Nat → Int32)) [(mo, .inr (9, [.int th, .ref q1, .int tn, .int sz, .int tt, .int fm, .int so, .int nu, .int fau, .int plc, .long wd, .ref q2, .ref q3, .ref q4, .int sm, .ref q5, .ref q6, .ref q7, .ref q8, .int rm])), (q1, .inl (cI, 840, .inl Tp)), (q2, .inl (cI, 240, .inl Nw)), (q3, .inl (cI, 240, .inl Rr)), (q4, .inl (cI, 2880, .inl Sn)), (q5, .inl (cI, 4, .inl In)), (q6, .inl (cI, 500, .inl Pd)), (q7, .inl (cI, 500, .inl Rt)), (q8, .inl (cI, 10000, .inl Rw))] (fun u => [(mo, .inr (9, [.int 0, .ref q1, .int tn, .int sz, .int tt, .int fm, .int so, .int nu, .int fau, .int plc, .long wd, .ref q2, .ref q3, .ref q4, .int sm, .ref q5, .ref q6, .ref q7, .ref q8, .int rm])), (q1, .inl (cI, 840, .inl Tp)), (q2, .inl (cI, 240, .inl Nw)), (q3, .inl (cI, 240, .inl Rr)), (q4, .inl (cI, 2880, .inl Sn)), (q5, .inl (cI, 4, .inl u.1)), (q6, .inl (cI, 500, .inl u.2.1)), (q7, .inl (cI, 500, .inl u.2.2)), (q8, .inl (cI, 10000, .inl Rw))]) (some (.int (if isInM p 0 3 = 0 then -1 else if isInM w 0 9 = 0 then -1 else pmM Nw ns nr ni np nb due ed In Pd Rt p.toNatClampNeg w))) := by
  refine we_i (cc := cX9_period) (maxL := 4) (by decide) rfl (Nat.le_of_ble_eq_true rfl) ?_
  intro p_ e_ s_ m_ ar_ be_ me_ co_ ls Q_ A_ hx hb hml hown hts hP hK hD hS hl hret
  have hown : s_.vm.findClass RX9 = some m_.cls := hown
  have hl : lv_has ls 4 [(0, .ref mo), (1, .int p), (2, .int w)] := hl
  refine lv_aload_n hx hb dX9_period_0 rfl (lv_at hl 0 rfl) ?_
  refine lv_iconst (v := 0) hx hb dX9_period_1 (by decide) ?_
  refine g_put (C := RX9) (T := TX9) (N := 20) (ci := 9) (index := 1) (v := .int 0) (ws' := [(mo, .inr (9, [.int 0, .ref q1, .int tn, .int sz, .int tt, .int fm, .int so, .int nu, .int fau, .int plc, .long wd, .ref q2, .ref q3, .ref q4, .int sm, .ref q5, .ref q6, .ref q7, .ref q8, .int rm])), (q1, .inl (cI, 840, .inl Tp)), (q2, .inl (cI, 240, .inl Nw)), (q3, .inl (cI, 240, .inl Rr)), (q4, .inl (cI, 2880, .inl Sn)), (q5, .inl (cI, 4, .inl In)), (q6, .inl (cI, 500, .inl Pd)), (q7, .inl (cI, 500, .inl Rt)), (q8, .inl (cI, 10000, .inl Rw))]) hx hb hts in_X9_period_9 tyX9 tyX9_ok nmX9 hown hK hP hD hS 0 0 rfl rfl (by decide) (List.mem_of_getElem? (i := 1) rfl) rfl rfl rfl (Nat.le_of_ble_eq_true rfl) dX9_period_2 rfl (fun H_ lc_ hP hD hS => ?_)
  refine lv_iload_n hx hb dX9_period_5 rfl (lv_at hl 1 rfl) ?_
  refine lv_iconst (v := 0) hx hb dX9_period_6 (by decide) ?_
  refine lv_iconst (v := 3) hx hb dX9_period_7 (by decide) ?_
  refine rd_S (As := [.int p, .int 0, .int 3]) (rest := []) (kX9_isIn l D cI cB p 0 3 ) ⟨hx, hb, hml, hown, hts⟩ (va_cwS 3 hts gX9_period_X9_isIn rfl rfl rfl (by decide +kernel) ⟨Nat.le_of_ble_eq_true rfl, Nat.le_of_ble_eq_true rfl⟩) hK hP [] rfl rfl rfl hl.1 (Nat.le_of_ble_eq_true rfl) dX9_period_8 ⟨Nat.le_refl _, Nat.le_refl _⟩ ?_
  refine lv_if_eq (tgt := 24) hx hb dX9_period_11 (by decide) (fun c11 => ?_) (fun c11 => ?_)
  · refine lv_iconst (v := -1) hx hb dX9_period_24 (by decide) ?_
    exact hret _ _ _ _ ls hS (⟨(In, Pd, Rt), hP⟩) (by simp [c11]) dX9_period_25
  · refine lv_iload_n hx hb dX9_period_14 rfl (lv_at hl 2 rfl) ?_
    refine lv_iconst (v := 0) hx hb dX9_period_15 (by decide) ?_
    refine lv_bipush (v := 9) hx hb dX9_period_16 (by decide) ?_
    refine rd_S (As := [.int w, .int 0, .int 9]) (rest := []) (kX9_isIn l D cI cB w 0 9 ) ⟨hx, hb, hml, hown, hts⟩ (va_cwS 3 hts gX9_period_X9_isIn rfl rfl rfl (by decide +kernel) ⟨Nat.le_of_ble_eq_true rfl, Nat.le_of_ble_eq_true rfl⟩) hK hP [] rfl rfl rfl hl.1 (Nat.le_of_ble_eq_true rfl) dX9_period_18 ⟨Nat.le_refl _, Nat.le_refl _⟩ ?_
    refine lv_if_ne (tgt := 26) hx hb dX9_period_21 (by decide) (fun c21 => ?_) (fun c21 => ?_)
    · obtain ⟨q, hq, rfl⟩ := isInM_nI (n := 3) (by omega) c11
      have hq4 : q < 4 := by omega
      have hcq := hcut q hq4
      refine lv_aload_n hx hb dX9_period_26 rfl (lv_at hl 0 rfl) ?_
      refine wp_V (As := []) (rest := []) (ci := 9) (ws' := [(mo, .inr (9, [.int 0, .ref q1, .int tn, .int sz, .int tt, .int fm, .int so, .int nu, .int fau, .int plc, .long wd, .ref q2, .ref q3, .ref q4, .int sm, .ref q5, .ref q6, .ref q7, .ref q8, .int rm])), (q1, .inl (cI, 840, .inl Tp)), (q2, .inl (cI, 240, .inl Nw)), (q3, .inl (cI, 240, .inl Rr)), (q4, .inl (cI, 2880, .inl Sn)), (q5, .inl (cI, 4, .inl (ov (inM (lsM Nw ns ni (Nw 239))) In 4))), (q6, .inl (cI, 500, .inl Pd)), (q7, .inl (cI, 500, .inl Rt)), (q8, .inl (cI, 10000, .inl Rw))]) (kX9_laysInstalments_ l D cI cB mo q1 q2 q3 q4 q5 q6 q7 q8 0 tn sz tt fm so nu fau plc wd sm rm Tp Nw Rr Sn In Pd Rt Rw ns nr ni np nb (by first | assumption | omega) (by first | assumption | omega)) ⟨hx, hb, hml, hown, hts⟩ (cwV 0 hts gX9_period_X9_laysInstalments_ rfl rfl rfl (by decide +kernel) ⟨Nat.le_of_ble_eq_true rfl, Nat.le_of_ble_eq_true rfl⟩) hK hP hD hS [0, 1, 2, 3, 4, 5, 6, 7, 8] [] rfl rfl rfl 9 rfl (by decide +kernel) (by decide +kernel) rfl (by decide +kernel) 0 rfl rfl rfl rfl hl.1 (Nat.le_of_ble_eq_true rfl) dX9_period_27 ⟨Nat.le_refl _, Nat.le_refl _⟩ (fun H_ lc_ hP hD hS => ?_)
      show W p_ l e_ (RM 6 137) s_ m_ ar_ be_ me_ co_ H_ lc_ 0 0 Q_ (F0 m_ 30 ls [])
      refine lv_aload_n hx hb dX9_period_30 rfl (lv_at hl 0 rfl) ?_
      refine wp_V (As := []) (rest := []) (ci := 9) (ws' := [(mo, .inr (9, [.int 0, .ref q1, .int tn, .int sz, .int tt, .int fm, .int so, .int nu, .int fau, .int plc, .long wd, .ref q2, .ref q3, .ref q4, .int sm, .ref q5, .ref q6, .ref q7, .ref q8, .int rm])), (q1, .inl (cI, 840, .inl Tp)), (q2, .inl (cI, 240, .inl Nw)), (q3, .inl (cI, 240, .inl Rr)), (q4, .inl (cI, 2880, .inl Sn)), (q5, .inl (cI, 4, .inl (ov (inM (lsM Nw ns ni (Nw 239))) In 4))), (q6, .inl (cI, 500, .inl (ov (fun j => paM Nw np nb (nI j)) Pd 500))), (q7, .inl (cI, 500, .inl (ov (fun j => raM Nw nr (nI j)) Rt 500))), (q8, .inl (cI, 10000, .inl Rw))]) (kX9_laysDays l D cI cB mo q1 q2 q3 q4 q5 q6 q7 q8 0 tn sz tt fm so nu fau plc wd sm rm Tp Nw Rr Sn (ov (inM (lsM Nw ns ni (Nw 239))) In 4) Pd Rt Rw ns nr ni np nb (by first | assumption | omega)) ⟨hx, hb, hml, hown, hts⟩ (cwV 0 hts gX9_period_X9_laysDays rfl rfl rfl (by decide +kernel) ⟨Nat.le_of_ble_eq_true rfl, Nat.le_of_ble_eq_true rfl⟩) hK hP hD hS [0, 1, 2, 3, 4, 5, 6, 7, 8] [] rfl rfl rfl 9 rfl (by decide +kernel) (by decide +kernel) rfl (by decide +kernel) 0 rfl rfl rfl rfl hl.1 (Nat.le_of_ble_eq_true rfl) dX9_period_31 ⟨Nat.le_refl _, Nat.le_refl _⟩ (fun H_ lc_ hP hD hS => ?_)
      show W p_ l e_ (RM 6 137) s_ m_ ar_ be_ me_ co_ H_ lc_ 0 0 Q_ (F0 m_ 34 ls [])
      refine lv_aload_n hx hb dX9_period_34 rfl (lv_at hl 0 rfl) ?_
      refine lv_iload_n hx hb dX9_period_35 rfl (lv_at hl 1 rfl) ?_
      refine lv_aload_n hx hb dX9_period_36 rfl (lv_at hl 0 rfl) ?_
      refine g_get (C := RX9) (T := TX9) (N := 20) (ci := 9) (index := 64) hx hb hts in_X9_period_9 hown hK hP 0 11 rfl rfl (by decide) (List.mem_of_getElem? (i := 2) rfl) rfl dX9_period_37 ?_
      refine lv_sipush (v := 239) hx hb dX9_period_40 (by decide) ?_
      refine g_iald hx hb hK hP 2 0 rfl rfl 239 (rfl) (by omega) (by omega) dX9_period_43 ?_
      refine rd_V (As := [.int (nI q), .int (Nw 239)]) (rest := []) (ci := 9) (kX9_leastRule l D cI cB mo q1 q2 q3 q4 q5 q6 q7 q8 0 tn sz tt fm so nu fau plc wd sm rm Tp Nw Rr Sn (ov (inM (lsM Nw ns ni (Nw 239))) In 4) (ov (fun j => paM Nw np nb (nI j)) Pd 500) (ov (fun j => raM Nw nr (nI j)) Rt 500) Rw ns nr ni np nb q (Nw 239) (by first | assumption | omega) (by first | assumption | omega) (by first | assumption | omega)) ⟨hx, hb, hml, hown, hts⟩ (cwV 2 hts gX9_period_X9_leastRule rfl rfl rfl (by decide +kernel) ⟨Nat.le_of_ble_eq_true rfl, Nat.le_of_ble_eq_true rfl⟩) hK hP [0, 1, 2, 3, 4, 5, 6, 7, 8] rfl 0 rfl rfl rfl rfl hl.1 (Nat.le_of_ble_eq_true rfl) dX9_period_44 ⟨Nat.le_refl _, Nat.le_refl _⟩ ?_
      refine lv_istore_n (lv' := [(3, .int (chM (fun r => sbM Nw ns ni r q) (Nw 239) 3)), (0, .ref mo), (1, .int (nI q)), (2, .int w)]) hx hb dX9_period_47 rfl hl (by decide) rfl (fun ls hl => ?_)
      refine lv_iload_n hx hb dX9_period_48 rfl (lv_at hl 3 rfl) ?_
      by_cases c49_3 : w = (3 : Int32)
      · refine lv_tableIn (off := 43) (tgt := 92) hx hb dX9_period_49 (by rw [c49_3]; decide) (by rw [c49_3]; decide) (by rw [c49_3]; rfl) (by decide) ?_
        refine lv_aload_n hx hb dX9_period_92 rfl (lv_at hl 1 rfl) ?_
        refine lv_iload_n hx hb dX9_period_93 rfl (lv_at hl 0 rfl) ?_
        refine lv_iload_n hx hb dX9_period_94 rfl (lv_at hl 2 rfl) ?_
        refine rd_V (As := [.int (chM (fun r => sbM Nw ns ni r q) (Nw 239) 3), .int (nI q)]) (rest := []) (ci := 9) (kX9_sumBy l D cI cB mo q1 q2 q3 q4 q5 q6 q7 q8 0 tn sz tt fm so nu fau plc wd sm rm Tp Nw Rr Sn (ov (inM (lsM Nw ns ni (Nw 239))) In 4) (ov (fun j => paM Nw np nb (nI j)) Pd 500) (ov (fun j => raM Nw nr (nI j)) Rt 500) Rw ns nr ni np nb (chM (fun r => sbM Nw ns ni r q) (Nw 239) 3) q (by first | assumption | omega) (by first | assumption | omega) (by first | assumption | omega)) ⟨hx, hb, hml, hown, hts⟩ (cwV 2 hts gX9_period_X9_sumBy rfl rfl rfl (by decide +kernel) ⟨Nat.le_of_ble_eq_true rfl, Nat.le_of_ble_eq_true rfl⟩) hK hP [0, 1, 2, 3, 4, 5, 6, 7, 8] rfl 0 rfl rfl rfl rfl hl.1 (Nat.le_of_ble_eq_true rfl) dX9_period_95 ⟨Nat.le_refl _, Nat.le_refl _⟩ ?_
        exact hret _ _ _ _ ls hS (⟨(ov (inM (lsM Nw ns ni (Nw 239))) In 4, ov (fun j => paM Nw np nb (nI j)) Pd 500, ov (fun j => raM Nw nr (nI j)) Rt 500), hP⟩) (by rw [if_neg c11, if_neg c21, nI_clamp (by omega)]; unfold pmM; rw [if_pos c49_3]) dX9_period_98
      by_cases c49_4 : w = (4 : Int32)
      · refine lv_tableIn (off := 50) (tgt := 99) hx hb dX9_period_49 (by rw [c49_4]; decide) (by rw [c49_4]; decide) (by rw [c49_4]; rfl) (by decide) ?_
        refine lv_iload_n hx hb dX9_period_99 rfl (lv_at hl 0 rfl) ?_
        exact hret _ _ _ _ ls hS (⟨(ov (inM (lsM Nw ns ni (Nw 239))) In 4, ov (fun j => paM Nw np nb (nI j)) Pd 500, ov (fun j => raM Nw nr (nI j)) Rt 500), hP⟩) (by rw [if_neg c11, if_neg c21, nI_clamp (by omega)]; unfold pmM; rw [if_neg c49_3, if_pos c49_4]) dX9_period_100
      by_cases c49_5 : w = (5 : Int32)
      · refine lv_tableIn (off := 52) (tgt := 101) hx hb dX9_period_49 (by rw [c49_5]; decide) (by rw [c49_5]; decide) (by rw [c49_5]; rfl) (by decide) ?_
        refine lv_aload_n hx hb dX9_period_101 rfl (lv_at hl 1 rfl) ?_
        refine g_get (C := RX9) (T := TX9) (N := 20) (ci := 9) (index := 73) hx hb hts in_X9_period_9 hown hK hP 0 15 rfl rfl (by decide) (List.mem_of_getElem? (i := 3) rfl) rfl dX9_period_102 ?_
        refine lv_iload_n hx hb dX9_period_105 rfl (lv_at hl 2 rfl) ?_
        refine g_iald hx hb hK hP 5 0 rfl rfl q (rfl) (by omega) (by omega) dX9_period_106 ?_
        exact hret _ _ _ _ ls hS (⟨(ov (inM (lsM Nw ns ni (Nw 239))) In 4, ov (fun j => paM Nw np nb (nI j)) Pd 500, ov (fun j => raM Nw nr (nI j)) Rt 500), hP⟩) (by rw [if_neg c11, if_neg c21, nI_clamp (by omega)]; unfold pmM; rw [if_neg c49_3, if_neg c49_4, if_pos c49_5]) dX9_period_107
      by_cases c49_6 : w = (6 : Int32)
      · refine lv_tableIn (off := 59) (tgt := 108) hx hb dX9_period_49 (by rw [c49_6]; decide) (by rw [c49_6]; decide) (by rw [c49_6]; rfl) (by decide) ?_
        refine lv_aload_n hx hb dX9_period_108 rfl (lv_at hl 1 rfl) ?_
        refine lv_iload_n hx hb dX9_period_109 rfl (lv_at hl 2 rfl) ?_
        refine lv_iconst (v := 0) hx hb dX9_period_110 (by decide) ?_
        refine lv_iconst (v := 0) hx hb dX9_period_111 (by decide) ?_
        refine rd_V (As := [.int (nI q), .int 0, .int 0]) (rest := []) (ci := 9) (kX9_costOf l D cI cB mo q1 q2 q3 q4 q5 q6 q7 q8 0 tn sz tt fm so nu fau plc wd sm rm Tp Nw Rr Sn (ov (inM (lsM Nw ns ni (Nw 239))) In 4) (ov (fun j => paM Nw np nb (nI j)) Pd 500) (ov (fun j => raM Nw nr (nI j)) Rt 500) Rw q 0 0 due ed (by first | assumption | omega) (by first | assumption | omega) (by first | assumption | omega) (by first | assumption | omega)) ⟨hx, hb, hml, hown, hts⟩ (cwV 3 hts gX9_period_X9_costOf rfl rfl rfl (by decide +kernel) ⟨Nat.le_of_ble_eq_true rfl, Nat.le_of_ble_eq_true rfl⟩) hK hP [0, 1, 2, 3, 4, 5, 6, 7, 8] rfl 0 rfl rfl rfl rfl hl.1 (Nat.le_of_ble_eq_true rfl) dX9_period_112 ⟨Nat.le_refl _, Nat.le_refl _⟩ ?_
        exact hret _ _ _ _ ls hS (⟨(ov (inM (lsM Nw ns ni (Nw 239))) In 4, ov (fun j => paM Nw np nb (nI j)) Pd 500, ov (fun j => raM Nw nr (nI j)) Rt 500), hP⟩) (by rw [if_neg c11, if_neg c21, nI_clamp (by omega)]; unfold pmM; rw [if_neg c49_3, if_neg c49_4, if_neg c49_5, if_pos c49_6]) dX9_period_115
      by_cases c49_7 : w = (7 : Int32)
      · refine lv_tableIn (off := 67) (tgt := 116) hx hb dX9_period_49 (by rw [c49_7]; decide) (by rw [c49_7]; decide) (by rw [c49_7]; rfl) (by decide) ?_
        refine lv_aload_n hx hb dX9_period_116 rfl (lv_at hl 1 rfl) ?_
        refine g_get (C := RX9) (T := TX9) (N := 20) (ci := 9) (index := 64) hx hb hts in_X9_period_9 hown hK hP 0 11 rfl rfl (by decide) (List.mem_of_getElem? (i := 2) rfl) rfl dX9_period_117 ?_
        refine lv_iconst (v := 3) hx hb dX9_period_120 (by decide) ?_
        refine lv_iload_n hx hb dX9_period_121 rfl (lv_at hl 2 rfl) ?_
        refine lv_iadd hx hb dX9_period_122 ?_
        refine g_iald hx hb hK hP 2 0 rfl rfl (3 + q) (nx_a (rfl) (rfl)) (by omega) (by omega) dX9_period_123 ?_
        exact hret _ _ _ _ ls hS (⟨(ov (inM (lsM Nw ns ni (Nw 239))) In 4, ov (fun j => paM Nw np nb (nI j)) Pd 500, ov (fun j => raM Nw nr (nI j)) Rt 500), hP⟩) (by rw [if_neg c11, if_neg c21, nI_clamp (by omega)]; unfold pmM; rw [if_neg c49_3, if_neg c49_4, if_neg c49_5, if_neg c49_6, if_pos c49_7]) dX9_period_124
      by_cases c49_8 : w = (8 : Int32)
      · refine lv_tableIn (off := 76) (tgt := 125) hx hb dX9_period_49 (by rw [c49_8]; decide) (by rw [c49_8]; decide) (by rw [c49_8]; rfl) (by decide) ?_
        refine lv_aload_n hx hb dX9_period_125 rfl (lv_at hl 1 rfl) ?_
        refine g_get (C := RX9) (T := TX9) (N := 20) (ci := 9) (index := 64) hx hb hts in_X9_period_9 hown hK hP 0 11 rfl rfl (by decide) (List.mem_of_getElem? (i := 2) rfl) rfl dX9_period_126 ?_
        refine lv_bipush (v := 7) hx hb dX9_period_129 (by decide) ?_
        refine lv_iload_n hx hb dX9_period_131 rfl (lv_at hl 2 rfl) ?_
        refine lv_iadd hx hb dX9_period_132 ?_
        refine g_iald hx hb hK hP 2 0 rfl rfl (7 + q) (nx_a (rfl) (rfl)) (by omega) (by omega) dX9_period_133 ?_
        exact hret _ _ _ _ ls hS (⟨(ov (inM (lsM Nw ns ni (Nw 239))) In 4, ov (fun j => paM Nw np nb (nI j)) Pd 500, ov (fun j => raM Nw nr (nI j)) Rt 500), hP⟩) (by rw [if_neg c11, if_neg c21, nI_clamp (by omega)]; unfold pmM; rw [if_neg c49_3, if_neg c49_4, if_neg c49_5, if_neg c49_6, if_neg c49_7, if_pos c49_8]) dX9_period_134
      by_cases c49_9 : w = (9 : Int32)
      · refine lv_tableIn (off := 86) (tgt := 135) hx hb dX9_period_49 (by rw [c49_9]; decide) (by rw [c49_9]; decide) (by rw [c49_9]; rfl) (by decide) ?_
        refine lv_aload_n hx hb dX9_period_135 rfl (lv_at hl 1 rfl) ?_
        refine lv_iload_n hx hb dX9_period_136 rfl (lv_at hl 2 rfl) ?_
        refine rd_V (As := [.int (nI q)]) (rest := []) (ci := 9) (kX9_yearly l D cI cB mo q1 q2 q3 q4 q5 q6 q7 q8 0 tn sz tt fm so nu fau plc wd sm rm Tp Nw Rr Sn (ov (inM (lsM Nw ns ni (Nw 239))) In 4) (ov (fun j => paM Nw np nb (nI j)) Pd 500) (ov (fun j => raM Nw nr (nI j)) Rt 500) Rw ns nr ni np nb q (by first | assumption | omega) (by first | assumption | omega) (by first | assumption | omega)) ⟨hx, hb, hml, hown, hts⟩ (cwV 1 hts gX9_period_X9_yearly rfl rfl rfl (by decide +kernel) ⟨Nat.le_of_ble_eq_true rfl, Nat.le_of_ble_eq_true rfl⟩) hK hP [0, 1, 2, 3, 4, 5, 6, 7, 8] rfl 0 rfl rfl rfl rfl hl.1 (Nat.le_of_ble_eq_true rfl) dX9_period_137 ⟨Nat.le_refl _, Nat.le_refl _⟩ ?_
        exact hret _ _ _ _ ls hS (⟨(ov (inM (lsM Nw ns ni (Nw 239))) In 4, ov (fun j => paM Nw np nb (nI j)) Pd 500, ov (fun j => raM Nw nr (nI j)) Rt 500), hP⟩) (by rw [if_neg c11, if_neg c21, nI_clamp (by omega)]; unfold pmM; rw [if_neg c49_3, if_neg c49_4, if_neg c49_5, if_neg c49_6, if_neg c49_7, if_neg c49_8, if_pos c49_9]) dX9_period_140
      refine lv_tableOut (tgt := 141) hx hb dX9_period_49 (by have q0 := lv_neT (a := 3) c49_3 rfl; have q1 := lv_neT (a := 4) c49_4 rfl; have q2 := lv_neT (a := 5) c49_5 rfl; have q3 := lv_neT (a := 6) c49_6 rfl; have q4 := lv_neT (a := 7) c49_7 rfl; have q5 := lv_neT (a := 8) c49_8 rfl; have q6 := lv_neT (a := 9) c49_9 rfl; omega) (by decide) ?_
      refine lv_aload_n hx hb dX9_period_141 rfl (lv_at hl 1 rfl) ?_
      refine lv_iload_n hx hb dX9_period_142 rfl (lv_at hl 3 rfl) ?_
      refine lv_iload_n hx hb dX9_period_143 rfl (lv_at hl 2 rfl) ?_
      refine rd_V (As := [.int w, .int (nI q)]) (rest := []) (ci := 9) (kX9_sumBy l D cI cB mo q1 q2 q3 q4 q5 q6 q7 q8 0 tn sz tt fm so nu fau plc wd sm rm Tp Nw Rr Sn (ov (inM (lsM Nw ns ni (Nw 239))) In 4) (ov (fun j => paM Nw np nb (nI j)) Pd 500) (ov (fun j => raM Nw nr (nI j)) Rt 500) Rw ns nr ni np nb w q (by first | assumption | omega) (by first | assumption | omega) (by first | assumption | omega)) ⟨hx, hb, hml, hown, hts⟩ (cwV 2 hts gX9_period_X9_sumBy rfl rfl rfl (by decide +kernel) ⟨Nat.le_of_ble_eq_true rfl, Nat.le_of_ble_eq_true rfl⟩) hK hP [0, 1, 2, 3, 4, 5, 6, 7, 8] rfl 0 rfl rfl rfl rfl hl.1 (Nat.le_of_ble_eq_true rfl) dX9_period_144 ⟨Nat.le_refl _, Nat.le_refl _⟩ ?_
      exact hret _ _ _ _ ls hS (⟨(ov (inM (lsM Nw ns ni (Nw 239))) In 4, ov (fun j => paM Nw np nb (nI j)) Pd 500, ov (fun j => raM Nw nr (nI j)) Rt 500), hP⟩) (by rw [if_neg c11, if_neg c21, nI_clamp (by omega)]; unfold pmM; rw [if_neg c49_3, if_neg c49_4, if_neg c49_5, if_neg c49_6, if_neg c49_7, if_neg c49_8, if_neg c49_9]) dX9_period_147
    · refine lv_iconst (v := -1) hx hb dX9_period_24 (by decide) ?_
      exact hret _ _ _ _ ls hS (⟨(In, Pd, Rt), hP⟩) (by simp [c11, c21]) dX9_period_25

theorem in_X9_costsBy_9 : ∀ w ∈ wsX90, w ∈ wsX9_costsBy := fun _ h => List.mem_cons_of_mem _ (List.mem_append_right _ (h))
set_option maxHeartbeats 4000000 in
set_option maxRecDepth 100000 in
theorem kX9_costsBy (l : Launch) (D : va_G) (cI cB : ClassId) (mo q1 q2 q3 q4 q5 q6 q7 q8 : Nat) (th tn sz tt fm so nu fau plc : Int32) (wd : Int64) (sm rm : Int32) (Tp Nw Rr Sn In Pd Rt Rw : Nat → Int32) (ns nr ni np nb : Nat) (due : Nat → Nat) (ed A : Nat) (v : Int32) (hA : A < 240) (hcn : cnt (upd Nw A v) ns nr ni np nb) (hcut : ∀ p, p < 4 → 1 ≤ upd Nw A v (7 + p) + 1) (hdue : ∀ p, p < 4 → upd Nw A v (3 + p) = nI (due p) ∧ due p ≤ 499) (hed : upd Nw A v 2 = nI ed) (hel : ed ≤ 499) : We l D (TY cI cB) yX9_costsBy wsX9_costsBy 7 157 [.ref mo, .int (nI A), .int v] (S := (Nat → Int32) × (Nat → Int32) × (Nat → Int32)) [(mo, .inr (9, [.int th, .ref q1, .int tn, .int sz, .int tt, .int fm, .int so, .int nu, .int fau, .int plc, .long wd, .ref q2, .ref q3, .ref q4, .int sm, .ref q5, .ref q6, .ref q7, .ref q8, .int rm])), (q1, .inl (cI, 840, .inl Tp)), (q2, .inl (cI, 240, .inl Nw)), (q3, .inl (cI, 240, .inl Rr)), (q4, .inl (cI, 2880, .inl Sn)), (q5, .inl (cI, 4, .inl In)), (q6, .inl (cI, 500, .inl Pd)), (q7, .inl (cI, 500, .inl Rt)), (q8, .inl (cI, 10000, .inl Rw))] (fun u => [(mo, .inr (9, [.int th, .ref q1, .int tn, .int sz, .int tt, .int fm, .int so, .int nu, .int fau, .int plc, .long wd, .ref q2, .ref q3, .ref q4, .int sm, .ref q5, .ref q6, .ref q7, .ref q8, .int rm])), (q1, .inl (cI, 840, .inl Tp)), (q2, .inl (cI, 240, .inl Nw)), (q3, .inl (cI, 240, .inl Rr)), (q4, .inl (cI, 2880, .inl Sn)), (q5, .inl (cI, 4, .inl u.1)), (q6, .inl (cI, 500, .inl u.2.1)), (q7, .inl (cI, 500, .inl u.2.2)), (q8, .inl (cI, 10000, .inl Rw))]) (some (.int (cwM (ov (inM (lsM (upd Nw A v) ns ni (upd Nw A v 239))) In 4) (ov (fun j => paM (upd Nw A v) np nb (nI j)) Pd 500) (ov (fun j => raM (upd Nw A v) nr (nI j)) Rt 500) due ed 0 0 4))) := by
  refine we_i (cc := cX9_costsBy) (maxL := 5) (by decide) rfl (Nat.le_of_ble_eq_true rfl) ?_
  intro p_ e_ s_ m_ ar_ be_ me_ co_ ls Q_ A_ hx hb hml hown hts hP hK hD hS hl hret
  have hown : s_.vm.findClass RX9 = some m_.cls := hown
  have hl : lv_has ls 5 [(0, .ref mo), (1, .int (nI A)), (2, .int v)] := hl
  refine lv_aload_n hx hb dX9_costsBy_0 rfl (lv_at hl 0 rfl) ?_
  refine g_get (C := RX9) (T := TX9) (N := 20) (ci := 9) (index := 64) hx hb hts in_X9_costsBy_9 hown hK hP 0 11 rfl rfl (by decide) (List.mem_of_getElem? (i := 1) rfl) rfl dX9_costsBy_1 ?_
  refine lv_iload_n hx hb dX9_costsBy_4 rfl (lv_at hl 1 rfl) ?_
  refine g_iald hx hb hK hP 2 0 rfl rfl A (rfl) (by omega) (by omega) dX9_costsBy_5 ?_
  refine lv_istore_n (lv' := [(3, .int (Nw A)), (0, .ref mo), (1, .int (nI A)), (2, .int v)]) hx hb dX9_costsBy_6 rfl hl (by decide) rfl (fun ls hl => ?_)
  refine lv_aload_n hx hb dX9_costsBy_7 rfl (lv_at hl 1 rfl) ?_
  refine g_get (C := RX9) (T := TX9) (N := 20) (ci := 9) (index := 64) hx hb hts in_X9_costsBy_9 hown hK hP 0 11 rfl rfl (by decide) (List.mem_of_getElem? (i := 1) rfl) rfl dX9_costsBy_8 ?_
  refine lv_iload_n hx hb dX9_costsBy_11 rfl (lv_at hl 2 rfl) ?_
  refine lv_iload_n hx hb dX9_costsBy_12 rfl (lv_at hl 3 rfl) ?_
  refine g_iast hx hb hK hP hD hS 2 0 rfl rfl A (rfl) (by omega) (by omega) dX9_costsBy_13 (fun H_ lc_ hP hD hS => ?_)
  have hP : va_P D vwCl [(mo, .inr (9, [.int th, .ref q1, .int tn, .int sz, .int tt, .int fm, .int so, .int nu, .int fau, .int plc, .long wd, .ref q2, .ref q3, .ref q4, .int sm, .ref q5, .ref q6, .ref q7, .ref q8, .int rm])), (q1, .inl (cI, 840, .inl Tp)), (q2, .inl (cI, 240, .inl (upd Nw A v))), (q3, .inl (cI, 240, .inl Rr)), (q4, .inl (cI, 2880, .inl Sn)), (q5, .inl (cI, 4, .inl In)), (q6, .inl (cI, 500, .inl Pd)), (q7, .inl (cI, 500, .inl Rt)), (q8, .inl (cI, 10000, .inl Rw))] H_ := hP
  have hD : va_D A_ [(mo, .inr (9, [.int th, .ref q1, .int tn, .int sz, .int tt, .int fm, .int so, .int nu, .int fau, .int plc, .long wd, .ref q2, .ref q3, .ref q4, .int sm, .ref q5, .ref q6, .ref q7, .ref q8, .int rm])), (q1, .inl (cI, 840, .inl Tp)), (q2, .inl (cI, 240, .inl (upd Nw A v))), (q3, .inl (cI, 240, .inl Rr)), (q4, .inl (cI, 2880, .inl Sn)), (q5, .inl (cI, 4, .inl In)), (q6, .inl (cI, 500, .inl Pd)), (q7, .inl (cI, 500, .inl Rt)), (q8, .inl (cI, 10000, .inl Rw))] := hD
  refine lv_aload_n hx hb dX9_costsBy_14 rfl (lv_at hl 1 rfl) ?_
  refine wp_V (As := []) (rest := []) (ci := 9) (ws' := [(mo, .inr (9, [.int th, .ref q1, .int tn, .int sz, .int tt, .int fm, .int so, .int nu, .int fau, .int plc, .long wd, .ref q2, .ref q3, .ref q4, .int sm, .ref q5, .ref q6, .ref q7, .ref q8, .int rm])), (q1, .inl (cI, 840, .inl Tp)), (q2, .inl (cI, 240, .inl (upd Nw A v))), (q3, .inl (cI, 240, .inl Rr)), (q4, .inl (cI, 2880, .inl Sn)), (q5, .inl (cI, 4, .inl (ov (inM (lsM (upd Nw A v) ns ni ((upd Nw A v) 239))) In 4))), (q6, .inl (cI, 500, .inl (ov (fun j => paM (upd Nw A v) np nb (nI j)) Pd 500))), (q7, .inl (cI, 500, .inl (ov (fun j => raM (upd Nw A v) nr (nI j)) Rt 500))), (q8, .inl (cI, 10000, .inl Rw))]) (kX9_costs l D cI cB mo q1 q2 q3 q4 q5 q6 q7 q8 th tn sz tt fm so nu fau plc wd sm rm Tp (upd Nw A v) Rr Sn In Pd Rt Rw ns nr ni np nb due ed (by assumption) (by assumption) (by assumption) (by assumption) (by assumption)) ⟨hx, hb, hml, hown, hts⟩ (cwV 0 hts gX9_costsBy_X9_costs rfl rfl rfl (by decide +kernel) ⟨Nat.le_of_ble_eq_true rfl, Nat.le_of_ble_eq_true rfl⟩) hK hP hD hS [0, 1, 2, 3, 4, 5, 6, 7, 8] [] rfl rfl rfl 9 rfl (by decide +kernel) (by decide +kernel) rfl (by decide +kernel) 0 rfl rfl rfl rfl hl.1 (Nat.le_of_ble_eq_true rfl) dX9_costsBy_15 ⟨Nat.le_refl _, Nat.le_refl _⟩ (fun H_ lc_ hP hD hS => ?_)
  show W p_ l e_ (RM 7 157) s_ m_ ar_ be_ me_ co_ H_ lc_ 0 0 Q_ (F0 m_ 18 ls [.int (cwM (ov (inM (lsM (upd Nw A v) ns ni ((upd Nw A v) 239))) In 4) (ov (fun j => paM (upd Nw A v) np nb (nI j)) Pd 500) (ov (fun j => raM (upd Nw A v) nr (nI j)) Rt 500) due ed 0 0 4)])
  refine lv_istore (lv' := [(4, .int (cwM (ov (inM (lsM (upd Nw A v) ns ni ((upd Nw A v) 239))) In 4) (ov (fun j => paM (upd Nw A v) np nb (nI j)) Pd 500) (ov (fun j => raM (upd Nw A v) nr (nI j)) Rt 500) due ed 0 0 4)), (3, .int (Nw A)), (0, .ref mo), (1, .int (nI A)), (2, .int v)]) hx hb dX9_costsBy_18 hl (by decide) rfl (fun ls hl => ?_)
  refine lv_aload_n hx hb dX9_costsBy_20 rfl (lv_at hl 2 rfl) ?_
  refine g_get (C := RX9) (T := TX9) (N := 20) (ci := 9) (index := 64) hx hb hts in_X9_costsBy_9 hown hK hP 0 11 rfl rfl (by decide) (List.mem_of_getElem? (i := 1) rfl) rfl dX9_costsBy_21 ?_
  refine lv_iload_n hx hb dX9_costsBy_24 rfl (lv_at hl 3 rfl) ?_
  refine lv_iload_n hx hb dX9_costsBy_25 rfl (lv_at hl 1 rfl) ?_
  refine g_iast hx hb hK hP hD hS 2 0 rfl rfl A (rfl) (by omega) (by omega) dX9_costsBy_26 (fun H_ lc_ hP hD hS => ?_)
  have hP : va_P D vwCl [(mo, .inr (9, [.int th, .ref q1, .int tn, .int sz, .int tt, .int fm, .int so, .int nu, .int fau, .int plc, .long wd, .ref q2, .ref q3, .ref q4, .int sm, .ref q5, .ref q6, .ref q7, .ref q8, .int rm])), (q1, .inl (cI, 840, .inl Tp)), (q2, .inl (cI, 240, .inl (upd (upd Nw A v) A (Nw A)))), (q3, .inl (cI, 240, .inl Rr)), (q4, .inl (cI, 2880, .inl Sn)), (q5, .inl (cI, 4, .inl (ov (inM (lsM (upd Nw A v) ns ni ((upd Nw A v) 239))) In 4))), (q6, .inl (cI, 500, .inl (ov (fun j => paM (upd Nw A v) np nb (nI j)) Pd 500))), (q7, .inl (cI, 500, .inl (ov (fun j => raM (upd Nw A v) nr (nI j)) Rt 500))), (q8, .inl (cI, 10000, .inl Rw))] H_ := hP
  have hD : va_D A_ [(mo, .inr (9, [.int th, .ref q1, .int tn, .int sz, .int tt, .int fm, .int so, .int nu, .int fau, .int plc, .long wd, .ref q2, .ref q3, .ref q4, .int sm, .ref q5, .ref q6, .ref q7, .ref q8, .int rm])), (q1, .inl (cI, 840, .inl Tp)), (q2, .inl (cI, 240, .inl (upd (upd Nw A v) A (Nw A)))), (q3, .inl (cI, 240, .inl Rr)), (q4, .inl (cI, 2880, .inl Sn)), (q5, .inl (cI, 4, .inl (ov (inM (lsM (upd Nw A v) ns ni ((upd Nw A v) 239))) In 4))), (q6, .inl (cI, 500, .inl (ov (fun j => paM (upd Nw A v) np nb (nI j)) Pd 500))), (q7, .inl (cI, 500, .inl (ov (fun j => raM (upd Nw A v) nr (nI j)) Rt 500))), (q8, .inl (cI, 10000, .inl Rw))] := hD
  refine lv_iload hx hb dX9_costsBy_27 (lv_at hl 0 rfl) ?_
  exact hret _ _ _ _ ls hS (⟨(ov (inM (lsM (upd Nw A v) ns ni ((upd Nw A v) 239))) In 4, ov (fun j => paM (upd Nw A v) np nb (nI j)) Pd 500, ov (fun j => raM (upd Nw A v) nr (nI j)) Rt 500), by rw [upd_back] at hP; exact hP⟩) (rfl) dX9_costsBy_29

