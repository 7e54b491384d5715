theorem rwS_le (s : RSt) (op p d o r : Int32) : (rwS s op p d o r).2 ≤ s.2 + 1 := by
  unfold rwS
  by_cases h : o ≤ 0
  · rw [if_pos h]; omega
  · rw [if_neg h]
    by_cases h2 : ¬ op = 0 ∧ s.1 (5 * (s.2 - 1) + 3) = o ∧ s.1 (5 * (s.2 - 1) + 4) = r
    · rw [if_pos h2]; exact Nat.le_succ _
    · rw [if_neg h2]; exact Nat.le_refl _
theorem rwX_le (o r : Nat → Int32) (p : Int32) (a : Nat) (s0 : RSt) : ∀ i, (rwX o r p a s0 i).2 ≤ s0.2 + i
  | 0 => Nat.le_refl _
  | i + 1 => by
    rw [rwX_s]
    have h1 := rwS_le (rwX o r p a s0 i) (bfO o i) p (nI (a + i)) (o i) (r i)
    have h2 := rwX_le o r p a s0 i
    omega
theorem rwP_le (In Pd Rt : Nat → Int32) (due : Nat → Nat) (ed : Nat) (s0 : RSt) (hed : ed ≤ 499) : ∀ p, (rwP In Pd Rt due ed s0 p).2 ≤ s0.2 + 500 * p
  | 0 => Nat.le_refl _
  | p + 1 => by
    rw [rwP_s]
    have h1 := rwX_le (oM In Pd p (due p)) (rtF Rt (due p)) (nI p) (due p) (rwP In Pd Rt due ed s0 p) (ed - due p)
    have h2 := rwP_le In Pd Rt due ed s0 hed p
    omega
theorem isRow_nI {k : Int32} {n : Nat} (hn : n < 2 ^ 31) (h : ¬ isInM k 0 (nI n - 1) = 0) : ∃ q : Nat, q < n ∧ k = nI q := by
  cases n with
  | zero => obtain ⟨q, hq, _⟩ := isPay_nI (n := 0) (by omega) h; omega
  | succ n =>
    rw [nI_pred] at h
    obtain ⟨q, hq, e⟩ := isInM_nI (by omega) h
    exact ⟨q, by omega, e⟩
def nwM (N : Nat → Int32) (ns nr ni np nb : Nat) (due : Nat → Nat) (ed : Nat) (In Pd Rt Rw : Nat → Int32) (sm tn w : Int32) : Int32 :=
  if w = 0 then upM N 36 500 ni else if w = 1 then taxM N ns (upM N 36 500 ni).toInt64 else if w = 2 then paM N np nb (N 2) else if w = 3 then taxM N ns (upM N 36 500 ni).toInt64 - paM N np nb (N 2)
  else if w = 4 then cwM (ov (inM (lsM N ns ni (N 239))) In 4) (ov (fun j => paM N np nb (nI j)) Pd 500) (ov (fun j => raM N nr (nI j)) Rt 500) due ed 0 0 4
  else if w = 5 then N 117 else if w = 6 then upM N 198 500 nb
  else if w = 7 then nI (rwP (ov (inM (lsM N ns ni (N 239))) In 4) (ov (fun j => paM N np nb (nI j)) Pd 500) (ov (fun j => raM N nr (nI j)) Rt 500) due ed (Rw, 0) 4).2
  else if w = 8 then N 239 else if w = 9 then sm else if w = 10 then tn else -1000000000
theorem in_X9_now_9 : ∀ w ∈ wsX90, w ∈ wsX9_now := fun _ h => List.mem_cons_of_mem _ (List.mem_append_right _ (h))
set_option maxHeartbeats 4000000 in
set_option maxRecDepth 100000 in
theorem kX9_now (l : Launch) (D : va_G) (cI cB : ClassId) (mo q1 q2 q3 q4 q5 q6 q7 q8 : Nat) (th tn sz tt fm so nu fau plc : Int32) (wd : Int64) (sm rm : Int32) (Tp Nw Rr Sn In Pd Rt Rw : Nat → Int32) (ns nr ni np nb : Nat) (due : Nat → Nat) (ed : Nat) (w : Int32) (hcn : cnt Nw ns nr ni np nb) (hcut : ∀ p, p < 4 → 1 ≤ Nw (7 + p) + 1) (hdue : ∀ p, p < 4 → Nw (3 + p) = nI (due p) ∧ due p ≤ 499) (hed : Nw 2 = nI ed) (hel : ed ≤ 499) : We l D (TY cI cB) yX9_now wsX9_now 7 163 [.ref mo, .int w] (S := (Nat → Int32) × (Nat → Int32) × (Nat → Int32) × (Nat → Int32) × (Int32)) [(mo, .inr (9, [.int th, .ref q1, .int tn, .int sz, .int tt, .int fm, .int so, .int nu, .int fau, .int plc, .long wd, .ref q2, .ref q3, .ref q4, .int sm, .ref q5, .ref q6, .ref q7, .ref q8, .int rm])), (q1, .inl (cI, 840, .inl Tp)), (q2, .inl (cI, 240, .inl Nw)), (q3, .inl (cI, 240, .inl Rr)), (q4, .inl (cI, 2880, .inl Sn)), (q5, .inl (cI, 4, .inl In)), (q6, .inl (cI, 500, .inl Pd)), (q7, .inl (cI, 500, .inl Rt)), (q8, .inl (cI, 10000, .inl Rw))] (fun u => [(mo, .inr (9, [.int 0, .ref q1, .int tn, .int sz, .int tt, .int fm, .int so, .int nu, .int fau, .int plc, .long wd, .ref q2, .ref q3, .ref q4, .int sm, .ref q5, .ref q6, .ref q7, .ref q8, .int u.2.2.2.2])), (q1, .inl (cI, 840, .inl Tp)), (q2, .inl (cI, 240, .inl Nw)), (q3, .inl (cI, 240, .inl Rr)), (q4, .inl (cI, 2880, .inl Sn)), (q5, .inl (cI, 4, .inl u.1)), (q6, .inl (cI, 500, .inl u.2.1)), (q7, .inl (cI, 500, .inl u.2.2.1)), (q8, .inl (cI, 10000, .inl u.2.2.2.1))]) (some (.int (nwM Nw ns nr ni np nb due ed In Pd Rt Rw sm tn w))) := by
  refine we_i (cc := cX9_now) (maxL := 2) (by decide) rfl (Nat.le_of_ble_eq_true rfl) ?_
  intro p_ e_ s_ m_ ar_ be_ me_ co_ ls Q_ A_ hx hb hml hown hts hP hK hD hS hl hret
  have hown : s_.vm.findClass RX9 = some m_.cls := hown
  have hl : lv_has ls 2 [(0, .ref mo), (1, .int w)] := hl
  refine lv_aload_n hx hb dX9_now_0 rfl (lv_at hl 0 rfl) ?_
  refine lv_iconst (v := 0) hx hb dX9_now_1 (by decide) ?_
  refine g_put (C := RX9) (T := TX9) (N := 20) (ci := 9) (index := 1) (v := .int 0) (ws' := [(mo, .inr (9, [.int 0, .ref q1, .int tn, .int sz, .int tt, .int fm, .int so, .int nu, .int fau, .int plc, .long wd, .ref q2, .ref q3, .ref q4, .int sm, .ref q5, .ref q6, .ref q7, .ref q8, .int rm])), (q1, .inl (cI, 840, .inl Tp)), (q2, .inl (cI, 240, .inl Nw)), (q3, .inl (cI, 240, .inl Rr)), (q4, .inl (cI, 2880, .inl Sn)), (q5, .inl (cI, 4, .inl In)), (q6, .inl (cI, 500, .inl Pd)), (q7, .inl (cI, 500, .inl Rt)), (q8, .inl (cI, 10000, .inl Rw))]) hx hb hts in_X9_now_9 tyX9 tyX9_ok nmX9 hown hK hP hD hS 0 0 rfl rfl (by decide) (List.mem_of_getElem? (i := 1) rfl) rfl rfl rfl (Nat.le_of_ble_eq_true rfl) dX9_now_2 rfl (fun H_ lc_ hP hD hS => ?_)
  refine lv_iload_n hx hb dX9_now_5 rfl (lv_at hl 1 rfl) ?_
  by_cases c6_0 : w = (0 : Int32)
  · refine lv_tableIn (off := 58) (tgt := 64) hx hb dX9_now_6 (by rw [c6_0]; decide) (by rw [c6_0]; decide) (by rw [c6_0]; rfl) (by decide) ?_
    refine lv_aload_n hx hb dX9_now_64 rfl (lv_at hl 0 rfl) ?_
    refine rd_V (As := []) (rest := []) (ci := 9) (kX9_allIncome l D cI cB mo q1 q2 q3 q4 q5 q6 q7 q8 0 tn sz tt fm so nu fau plc wd sm rm Tp Nw Rr Sn In Pd Rt Rw ns nr ni np nb (by assumption)) ⟨hx, hb, hml, hown, hts⟩ (cwV 0 hts gX9_now_X9_allIncome rfl rfl rfl (by decide +kernel) ⟨Nat.le_of_ble_eq_true rfl, Nat.le_of_ble_eq_true rfl⟩) hK hP [0, 1, 2, 3, 4, 5, 6, 7, 8] rfl 0 rfl rfl rfl rfl hl.1 (Nat.le_of_ble_eq_true rfl) dX9_now_65 ⟨Nat.le_refl _, Nat.le_refl _⟩ ?_
    exact hret _ _ _ _ ls hS (⟨(In, Pd, Rt, Rw, rm), hP⟩) (by unfold nwM; rw [if_pos c6_0]) dX9_now_68
  by_cases c6_1 : w = (1 : Int32)
  · refine lv_tableIn (off := 63) (tgt := 69) hx hb dX9_now_6 (by rw [c6_1]; decide) (by rw [c6_1]; decide) (by rw [c6_1]; rfl) (by decide) ?_
    refine lv_aload_n hx hb dX9_now_69 rfl (lv_at hl 0 rfl) ?_
    refine lv_aload_n hx hb dX9_now_70 rfl (lv_at hl 0 rfl) ?_
    refine rd_V (As := []) (rest := [.ref mo]) (ci := 9) (kX9_allIncome l D cI cB mo q1 q2 q3 q4 q5 q6 q7 q8 0 tn sz tt fm so nu fau plc wd sm rm Tp Nw Rr Sn In Pd Rt Rw ns nr ni np nb (by assumption)) ⟨hx, hb, hml, hown, hts⟩ (cwV 0 hts gX9_now_X9_allIncome rfl rfl rfl (by decide +kernel) ⟨Nat.le_of_ble_eq_true rfl, Nat.le_of_ble_eq_true rfl⟩) hK hP [0, 1, 2, 3, 4, 5, 6, 7, 8] rfl 0 rfl rfl rfl rfl hl.1 (Nat.le_of_ble_eq_true rfl) dX9_now_71 ⟨Nat.le_refl _, Nat.le_refl _⟩ ?_
    refine lv_i2l (v := (upM Nw 36 500 ni).toInt64) hx hb dX9_now_74 rfl ?_
    refine rd_V (As := [.long ((upM Nw 36 500 ni).toInt64)]) (rest := []) (ci := 9) (kX9_taxOf l D cI cB mo q1 q2 q3 q4 q5 q6 q7 q8 0 tn sz tt fm so nu fau plc wd sm rm Tp Nw Rr Sn In Pd Rt Rw ns nr ni np nb ((upM Nw 36 500 ni).toInt64) (by assumption)) ⟨hx, hb, hml, hown, hts⟩ (cwV 1 hts gX9_now_X9_taxOf rfl rfl rfl (by decide +kernel) ⟨Nat.le_of_ble_eq_true rfl, Nat.le_of_ble_eq_true rfl⟩) hK hP [0, 1, 2, 3, 4, 5, 6, 7, 8] rfl 0 rfl rfl rfl rfl hl.1 (Nat.le_of_ble_eq_true rfl) dX9_now_75 ⟨Nat.le_refl _, Nat.le_refl _⟩ ?_
    exact hret _ _ _ _ ls hS (⟨(In, Pd, Rt, Rw, rm), hP⟩) (by unfold nwM; rw [if_neg c6_0, if_pos c6_1]) dX9_now_78
  by_cases c6_2 : w = (2 : Int32)
  · refine lv_tableIn (off := 73) (tgt := 79) hx hb dX9_now_6 (by rw [c6_2]; decide) (by rw [c6_2]; decide) (by rw [c6_2]; rfl) (by decide) ?_
    refine lv_aload_n hx hb dX9_now_79 rfl (lv_at hl 0 rfl) ?_
    refine lv_aload_n hx hb dX9_now_80 rfl (lv_at hl 0 rfl) ?_
    refine g_get (C := RX9) (T := TX9) (N := 20) (ci := 9) (index := 64) hx hb hts in_X9_now_9 hown hK hP 0 11 rfl rfl (by decide) (List.mem_of_getElem? (i := 2) rfl) rfl dX9_now_81 ?_
    refine lv_iconst (v := 2) hx hb dX9_now_84 (by decide) ?_
    refine g_iald hx hb hK hP 2 0 rfl rfl 2 (rfl) (by omega) (by omega) dX9_now_85 ?_
    refine rd_V (As := [.int (Nw 2)]) (rest := []) (ci := 9) (kX9_paidAt l D cI cB mo q1 q2 q3 q4 q5 q6 q7 q8 0 tn sz tt fm so nu fau plc wd sm rm Tp Nw Rr Sn In Pd Rt Rw ns nr ni np nb (Nw 2) (by assumption)) ⟨hx, hb, hml, hown, hts⟩ (cwV 1 hts gX9_now_X9_paidAt rfl rfl rfl (by decide +kernel) ⟨Nat.le_of_ble_eq_true rfl, Nat.le_of_ble_eq_true rfl⟩) hK hP [0, 1, 2, 3, 4, 5, 6, 7, 8] rfl 0 rfl rfl rfl rfl hl.1 (Nat.le_of_ble_eq_true rfl) dX9_now_86 ⟨Nat.le_refl _, Nat.le_refl _⟩ ?_
    exact hret _ _ _ _ ls hS (⟨(In, Pd, Rt, Rw, rm), hP⟩) (by unfold nwM; rw [if_neg c6_0, if_neg c6_1, if_pos c6_2]) dX9_now_89
  by_cases c6_3 : w = (3 : Int32)
  · refine lv_tableIn (off := 84) (tgt := 90) hx hb dX9_now_6 (by rw [c6_3]; decide) (by rw [c6_3]; decide) (by rw [c6_3]; rfl) (by decide) ?_
    refine lv_aload_n hx hb dX9_now_90 rfl (lv_at hl 0 rfl) ?_
    refine lv_aload_n hx hb dX9_now_91 rfl (lv_at hl 0 rfl) ?_
    refine rd_V (As := []) (rest := [.ref mo]) (ci := 9) (kX9_allIncome l D cI cB mo q1 q2 q3 q4 q5 q6 q7 q8 0 tn sz tt fm so nu fau plc wd sm rm Tp Nw Rr Sn In Pd Rt Rw ns nr ni np nb (by assumption)) ⟨hx, hb, hml, hown, hts⟩ (cwV 0 hts gX9_now_X9_allIncome rfl rfl rfl (by decide +kernel) ⟨Nat.le_of_ble_eq_true rfl, Nat.le_of_ble_eq_true rfl⟩) hK hP [0, 1, 2, 3, 4, 5, 6, 7, 8] rfl 0 rfl rfl rfl rfl hl.1 (Nat.le_of_ble_eq_true rfl) dX9_now_92 ⟨Nat.le_refl _, Nat.le_refl _⟩ ?_
    refine lv_i2l (v := (upM Nw 36 500 ni).toInt64) hx hb dX9_now_95 rfl ?_
    refine rd_V (As := [.long ((upM Nw 36 500 ni).toInt64)]) (rest := []) (ci := 9) (kX9_taxOf l D cI cB mo q1 q2 q3 q4 q5 q6 q7 q8 0 tn sz tt fm so nu fau plc wd sm rm Tp Nw Rr Sn In Pd Rt Rw ns nr ni np nb ((upM Nw 36 500 ni).toInt64) (by assumption)) ⟨hx, hb, hml, hown, hts⟩ (cwV 1 hts gX9_now_X9_taxOf rfl rfl rfl (by decide +kernel) ⟨Nat.le_of_ble_eq_true rfl, Nat.le_of_ble_eq_true rfl⟩) hK hP [0, 1, 2, 3, 4, 5, 6, 7, 8] rfl 0 rfl rfl rfl rfl hl.1 (Nat.le_of_ble_eq_true rfl) dX9_now_96 ⟨Nat.le_refl _, Nat.le_refl _⟩ ?_
    refine lv_aload_n hx hb dX9_now_99 rfl (lv_at hl 0 rfl) ?_
    refine lv_aload_n hx hb dX9_now_100 rfl (lv_at hl 0 rfl) ?_
    refine g_get (C := RX9) (T := TX9) (N := 20) (ci := 9) (index := 64) hx hb hts in_X9_now_9 hown hK hP 0 11 rfl rfl (by decide) (List.mem_of_getElem? (i := 2) rfl) rfl dX9_now_101 ?_
    refine lv_iconst (v := 2) hx hb dX9_now_104 (by decide) ?_
    refine g_iald hx hb hK hP 2 0 rfl rfl 2 (rfl) (by omega) (by omega) dX9_now_105 ?_
    refine rd_V (As := [.int (Nw 2)]) (rest := [.int (taxM Nw ns ((upM Nw 36 500 ni).toInt64))]) (ci := 9) (kX9_paidAt l D cI cB mo q1 q2 q3 q4 q5 q6 q7 q8 0 tn sz tt fm so nu fau plc wd sm rm Tp Nw Rr Sn In Pd Rt Rw ns nr ni np nb (Nw 2) (by assumption)) ⟨hx, hb, hml, hown, hts⟩ (cwV 1 hts gX9_now_X9_paidAt rfl rfl rfl (by decide +kernel) ⟨Nat.le_of_ble_eq_true rfl, Nat.le_of_ble_eq_true rfl⟩) hK hP [0, 1, 2, 3, 4, 5, 6, 7, 8] rfl 0 rfl rfl rfl rfl hl.1 (Nat.le_of_ble_eq_true rfl) dX9_now_106 ⟨Nat.le_refl _, Nat.le_refl _⟩ ?_
    refine lv_isub hx hb dX9_now_109 ?_
    exact hret _ _ _ _ ls hS (⟨(In, Pd, Rt, Rw, rm), hP⟩) (by unfold nwM; rw [if_neg c6_0, if_neg c6_1, if_neg c6_2, if_pos c6_3]) dX9_now_110
  by_cases c6_4 : w = (4 : Int32)
  · refine lv_tableIn (off := 105) (tgt := 111) hx hb dX9_now_6 (by rw [c6_4]; decide) (by rw [c6_4]; decide) (by rw [c6_4]; rfl) (by decide) ?_
    refine lv_aload_n hx hb dX9_now_111 rfl (lv_at hl 0 rfl) ?_
    refine wp_V (As := []) (rest := []) (ci := 9) (ws' := [(mo, .inr (9, [.int 0, .ref q1, .int tn, .int sz, .int tt, .int fm, .int so, .int nu, .int fau, .int plc, .long wd, .ref q2, .ref q3, .ref q4, .int sm, .ref q5, .ref q6, .ref q7, .ref q8, .int rm])), (q1, .inl (cI, 840, .inl Tp)), (q2, .inl (cI, 240, .inl Nw)), (q3, .inl (cI, 240, .inl Rr)), (q4, .inl (cI, 2880, .inl Sn)), (q5, .inl (cI, 4, .inl (ov (inM (lsM Nw ns ni (Nw 239))) In 4))), (q6, .inl (cI, 500, .inl (ov (fun j => paM Nw np nb (nI j)) Pd 500))), (q7, .inl (cI, 500, .inl (ov (fun j => raM Nw nr (nI j)) Rt 500))), (q8, .inl (cI, 10000, .inl Rw))]) (kX9_costs l D cI cB mo q1 q2 q3 q4 q5 q6 q7 q8 0 tn sz tt fm so nu fau plc wd sm rm Tp Nw Rr Sn In Pd Rt Rw ns nr ni np nb due ed (by assumption) (by assumption) (by assumption) (by assumption) (by assumption)) ⟨hx, hb, hml, hown, hts⟩ (cwV 0 hts gX9_now_X9_costs rfl rfl rfl (by decide +kernel) ⟨Nat.le_of_ble_eq_true rfl, Nat.le_of_ble_eq_true rfl⟩) hK hP hD hS [0, 1, 2, 3, 4, 5, 6, 7, 8] [] rfl rfl (two_eq [] rfl rfl) 9 rfl (by decide +kernel) (by decide +kernel) (two_eq [mo, q1, q2, q3, q4, q5, q6, q7, q8] rfl rfl) (by decide +kernel) 0 rfl rfl rfl rfl hl.1 (Nat.le_of_ble_eq_true rfl) dX9_now_112 ⟨Nat.le_refl _, Nat.le_refl _⟩ (fun H_ lc_ hP hD hS => ?_)
    show W p_ l e_ (RM 7 163) s_ m_ ar_ be_ me_ co_ H_ lc_ 0 0 Q_ (F0 m_ 115 ls [.int (cwM (ov (inM (lsM Nw ns ni (Nw 239))) In 4) (ov (fun j => paM Nw np nb (nI j)) Pd 500) (ov (fun j => raM Nw nr (nI j)) Rt 500) due ed 0 0 4)])
    exact hret _ _ _ _ ls hS (⟨(ov (inM (lsM Nw ns ni (Nw 239))) In 4, ov (fun j => paM Nw np nb (nI j)) Pd 500, ov (fun j => raM Nw nr (nI j)) Rt 500, Rw, rm), hP⟩) (by unfold nwM; rw [if_neg c6_0, if_neg c6_1, if_neg c6_2, if_neg c6_3, if_pos c6_4]) dX9_now_115
  by_cases c6_5 : w = (5 : Int32)
  · refine lv_tableIn (off := 110) (tgt := 116) hx hb dX9_now_6 (by rw [c6_5]; decide) (by rw [c6_5]; decide) (by rw [c6_5]; rfl) (by decide) ?_
    refine lv_aload_n hx hb dX9_now_116 rfl (lv_at hl 0 rfl) ?_
    refine g_get (C := RX9) (T := TX9) (N := 20) (ci := 9) (index := 64) hx hb hts in_X9_now_9 hown hK hP 0 11 rfl rfl (by decide) (List.mem_of_getElem? (i := 2) rfl) rfl dX9_now_117 ?_
    refine lv_bipush (v := 117) hx hb dX9_now_120 (by decide) ?_
    refine g_iald hx hb hK hP 2 0 rfl rfl 117 (rfl) (by omega) (by omega) dX9_now_122 ?_
    exact hret _ _ _ _ ls hS (⟨(In, Pd, Rt, Rw, rm), hP⟩) (by unfold nwM; rw [if_neg c6_0, if_neg c6_1, if_neg c6_2, if_neg c6_3, if_neg c6_4, if_pos c6_5]) dX9_now_123
  by_cases c6_6 : w = (6 : Int32)
  · refine lv_tableIn (off := 118) (tgt := 124) hx hb dX9_now_6 (by rw [c6_6]; decide) (by rw [c6_6]; decide) (by rw [c6_6]; rfl) (by decide) ?_
    refine lv_aload_n hx hb dX9_now_124 rfl (lv_at hl 0 rfl) ?_
    refine lv_sipush (v := 198) hx hb dX9_now_125 (by decide) ?_
    refine lv_sipush (v := 500) hx hb dX9_now_128 (by decide) ?_
    refine rd_V (As := [.int 198, .int 500]) (rest := []) (ci := 9) (kX9_upTo l D cI cB mo q1 q2 q3 q4 q5 q6 q7 q8 0 tn sz tt fm so nu fau plc wd sm rm Tp Nw Rr Sn In Pd Rt Rw 198 nb 500 (hcn.2.2.2.2.1) (by have := hcn.2.2.2.2.2; omega)) ⟨hx, hb, hml, hown, hts⟩ (cwV 2 hts gX9_now_X9_upTo rfl rfl rfl (by decide +kernel) ⟨Nat.le_of_ble_eq_true rfl, Nat.le_of_ble_eq_true rfl⟩) hK hP [0, 1, 2, 3, 4, 5, 6, 7, 8] rfl 0 rfl rfl rfl rfl hl.1 (Nat.le_of_ble_eq_true rfl) dX9_now_131 ⟨Nat.le_refl _, Nat.le_refl _⟩ ?_
    exact hret _ _ _ _ ls hS (⟨(In, Pd, Rt, Rw, rm), hP⟩) (by unfold nwM; rw [if_neg c6_0, if_neg c6_1, if_neg c6_2, if_neg c6_3, if_neg c6_4, if_neg c6_5, if_pos c6_6]) dX9_now_134
  by_cases c6_7 : w = (7 : Int32)
  · refine lv_tableIn (off := 129) (tgt := 135) hx hb dX9_now_6 (by rw [c6_7]; decide) (by rw [c6_7]; decide) (by rw [c6_7]; rfl) (by decide) ?_
    refine lv_aload_n hx hb dX9_now_135 rfl (lv_at hl 0 rfl) ?_
    refine wp_V (As := []) (rest := []) (ci := 9) (ws' := [(mo, .inr (9, [.int 0, .ref q1, .int tn, .int sz, .int tt, .int fm, .int so, .int nu, .int fau, .int plc, .long wd, .ref q2, .ref q3, .ref q4, .int sm, .ref q5, .ref q6, .ref q7, .ref q8, .int (nI (rwP (ov (inM (lsM Nw ns ni (Nw 239))) In 4) (ov (fun j => paM Nw np nb (nI j)) Pd 500) (ov (fun j => raM Nw nr (nI j)) Rt 500) due ed (Rw, 0) 4).2)])), (q1, .inl (cI, 840, .inl Tp)), (q2, .inl (cI, 240, .inl Nw)), (q3, .inl (cI, 240, .inl Rr)), (q4, .inl (cI, 2880, .inl Sn)), (q5, .inl (cI, 4, .inl (ov (inM (lsM Nw ns ni (Nw 239))) In 4))), (q6, .inl (cI, 500, .inl (ov (fun j => paM Nw np nb (nI j)) Pd 500))), (q7, .inl (cI, 500, .inl (ov (fun j => raM Nw nr (nI j)) Rt 500))), (q8, .inl (cI, 10000, .inl (rwP (ov (inM (lsM Nw ns ni (Nw 239))) In 4) (ov (fun j => paM Nw np nb (nI j)) Pd 500) (ov (fun j => raM Nw nr (nI j)) Rt 500) due ed (Rw, 0) 4).1))]) (kX9_laysRows l D cI cB mo q1 q2 q3 q4 q5 q6 q7 q8 0 tn sz tt fm so nu fau plc wd sm rm Tp Nw Rr Sn In Pd Rt Rw ns nr ni np nb due ed (by assumption) (by assumption) (by assumption) (by assumption) (by assumption)) ⟨hx, hb, hml, hown, hts⟩ (cwV 0 hts gX9_now_X9_laysRows rfl rfl rfl (by decide +kernel) ⟨Nat.le_of_ble_eq_true rfl, Nat.le_of_ble_eq_true rfl⟩) hK hP hD hS [0, 1, 2, 3, 4, 5, 6, 7, 8] [] rfl rfl (two_eq [] rfl rfl) 9 rfl (by decide +kernel) (by decide +kernel) (two_eq [mo, q1, q2, q3, q4, q5, q6, q7, q8] rfl rfl) (by decide +kernel) 0 rfl rfl rfl rfl hl.1 (Nat.le_of_ble_eq_true rfl) dX9_now_136 ⟨Nat.le_refl _, Nat.le_refl _⟩ (fun H_ lc_ hP hD hS => ?_)
    show W p_ l e_ (RM 7 163) s_ m_ ar_ be_ me_ co_ H_ lc_ 0 0 Q_ (F0 m_ 139 ls [])
    refine lv_aload_n hx hb dX9_now_139 rfl (lv_at hl 0 rfl) ?_
    refine g_get (C := RX9) (T := TX9) (N := 20) (ci := 9) (index := 185) hx hb hts in_X9_now_9 hown hK hP 0 19 rfl rfl (by decide) (List.mem_of_getElem? (i := 3) rfl) rfl dX9_now_140 ?_
    exact hret _ _ _ _ ls hS (⟨(ov (inM (lsM Nw ns ni (Nw 239))) In 4, ov (fun j => paM Nw np nb (nI j)) Pd 500, ov (fun j => raM Nw nr (nI j)) Rt 500, (rwP (ov (inM (lsM Nw ns ni (Nw 239))) In 4) (ov (fun j => paM Nw np nb (nI j)) Pd 500) (ov (fun j => raM Nw nr (nI j)) Rt 500) due ed (Rw, 0) 4).1, nI (rwP (ov (inM (lsM Nw ns ni (Nw 239))) In 4) (ov (fun j => paM Nw np nb (nI j)) Pd 500) (ov (fun j => raM Nw nr (nI j)) Rt 500) due ed (Rw, 0) 4).2), hP⟩) (by unfold nwM; rw [if_neg c6_0, if_neg c6_1, if_neg c6_2, if_neg c6_3, if_neg c6_4, if_neg c6_5, if_neg c6_6, if_pos c6_7]) dX9_now_143
  by_cases c6_8 : w = (8 : Int32)
  · refine lv_tableIn (off := 138) (tgt := 144) hx hb dX9_now_6 (by rw [c6_8]; decide) (by rw [c6_8]; decide) (by rw [c6_8]; rfl) (by decide) ?_
    refine lv_aload_n hx hb dX9_now_144 rfl (lv_at hl 0 rfl) ?_
    refine g_get (C := RX9) (T := TX9) (N := 20) (ci := 9) (index := 64) hx hb hts in_X9_now_9 hown hK hP 0 11 rfl rfl (by decide) (List.mem_of_getElem? (i := 2) rfl) rfl dX9_now_145 ?_
    refine lv_sipush (v := 239) hx hb dX9_now_148 (by decide) ?_
    refine g_iald hx hb hK hP 2 0 rfl rfl 239 (rfl) (by omega) (by omega) dX9_now_151 ?_
    exact hret _ _ _ _ ls hS (⟨(In, Pd, Rt, Rw, rm), hP⟩) (by unfold nwM; rw [if_neg c6_0, if_neg c6_1, if_neg c6_2, if_neg c6_3, if_neg c6_4, if_neg c6_5, if_neg c6_6, if_neg c6_7, if_pos c6_8]) dX9_now_152
  by_cases c6_9 : w = (9 : Int32)
  · refine lv_tableIn (off := 147) (tgt := 153) hx hb dX9_now_6 (by rw [c6_9]; decide) (by rw [c6_9]; decide) (by rw [c6_9]; rfl) (by decide) ?_
    refine lv_aload_n hx hb dX9_now_153 rfl (lv_at hl 0 rfl) ?_
    refine g_get (C := RX9) (T := TX9) (N := 20) (ci := 9) (index := 125) hx hb hts in_X9_now_9 hown hK hP 0 14 rfl rfl (by decide) (List.mem_of_getElem? (i := 4) rfl) rfl dX9_now_154 ?_
    exact hret _ _ _ _ ls hS (⟨(In, Pd, Rt, Rw, rm), hP⟩) (by unfold nwM; rw [if_neg c6_0, if_neg c6_1, if_neg c6_2, if_neg c6_3, if_neg c6_4, if_neg c6_5, if_neg c6_6, if_neg c6_7, if_neg c6_8, if_pos c6_9]) dX9_now_157
  by_cases c6_10 : w = (10 : Int32)
  · refine lv_tableIn (off := 152) (tgt := 158) hx hb dX9_now_6 (by rw [c6_10]; decide) (by rw [c6_10]; decide) (by rw [c6_10]; rfl) (by decide) ?_
    refine lv_aload_n hx hb dX9_now_158 rfl (lv_at hl 0 rfl) ?_
    refine g_get (C := RX9) (T := TX9) (N := 20) (ci := 9) (index := 11) hx hb hts in_X9_now_9 hown hK hP 0 2 rfl rfl (by decide) (List.mem_of_getElem? (i := 5) rfl) rfl dX9_now_159 ?_
    exact hret _ _ _ _ ls hS (⟨(In, Pd, Rt, Rw, rm), hP⟩) (by unfold nwM; rw [if_neg c6_0, if_neg c6_1, if_neg c6_2, if_neg c6_3, if_neg c6_4, if_neg c6_5, if_neg c6_6, if_neg c6_7, if_neg c6_8, if_neg c6_9, if_pos c6_10]) dX9_now_162
  refine lv_tableOut (tgt := 163) hx hb dX9_now_6 (by have q0 := lv_neT (a := 0) c6_0 rfl; have q1 := lv_neT (a := 1) c6_1 rfl; have q2 := lv_neT (a := 2) c6_2 rfl; have q3 := lv_neT (a := 3) c6_3 rfl; have q4 := lv_neT (a := 4) c6_4 rfl; have q5 := lv_neT (a := 5) c6_5 rfl; have q6 := lv_neT (a := 6) c6_6 rfl; have q7 := lv_neT (a := 7) c6_7 rfl; have q8 := lv_neT (a := 8) c6_8 rfl; have q9 := lv_neT (a := 9) c6_9 rfl; have q10 := lv_neT (a := 10) c6_10 rfl; omega) (by decide) ?_
  refine lv_ldc (v := (-1000000000)) hx hb hown (hts (.constant RX9 194 (-1000000000)) (List.mem_of_getElem? (i := 6) rfl)) dX9_now_163 ?_
  exact hret _ _ _ _ ls hS (⟨(In, Pd, Rt, Rw, rm), hP⟩) (by unfold nwM; rw [if_neg c6_0, if_neg c6_1, if_neg c6_2, if_neg c6_3, if_neg c6_4, if_neg c6_5, if_neg c6_6, if_neg c6_7, if_neg c6_8, if_neg c6_9, if_neg c6_10]) dX9_now_165

theorem in_X9_refuse_9 : ∀ w ∈ wsX90, w ∈ wsX9_refuse := fun _ h => List.mem_cons_of_mem _ (List.mem_append_right _ (h))
set_option maxHeartbeats 4000000 in
set_option maxRecDepth 100000 in
theorem kX9_refuse (l : Launch) (D : va_G) (cI cB : ClassId) (mo q1 q2 q3 q4 q5 q6 q7 q8 : Nat) (th tn sz tt fm so nu fau plc : Int32) (wd : Int64) (sm rm : Int32) (Tp Nw Rr Sn In Pd Rt Rw : Nat → Int32)  : Wr l D (TY cI cB) yX9_refuse wsX9_refuse 0 0 [.ref mo] [(mo, .inr (9, [.int th, .ref q1, .int tn, .int sz, .int tt, .int fm, .int so, .int nu, .int fau, .int plc, .long wd, .ref q2, .ref q3, .ref q4, .int sm, .ref q5, .ref q6, .ref q7, .ref q8, .int rm])), (q1, .inl (cI, 840, .inl Tp)), (q2, .inl (cI, 240, .inl Nw)), (q3, .inl (cI, 240, .inl Rr)), (q4, .inl (cI, 2880, .inl Sn)), (q5, .inl (cI, 4, .inl In)), (q6, .inl (cI, 500, .inl Pd)), (q7, .inl (cI, 500, .inl Rt)), (q8, .inl (cI, 10000, .inl Rw))] [(mo, .inr (9, [.int 1, .ref q1, .int tn, .int sz, .int tt, .int fm, .int so, .int nu, .int fau, .int plc, .long wd, .ref q2, .ref q3, .ref q4, .int sm, .ref q5, .ref q6, .ref q7, .ref q8, .int rm])), (q1, .inl (cI, 840, .inl Tp)), (q2, .inl (cI, 240, .inl Nw)), (q3, .inl (cI, 240, .inl Rr)), (q4, .inl (cI, 2880, .inl Sn)), (q5, .inl (cI, 4, .inl In)), (q6, .inl (cI, 500, .inl Pd)), (q7, .inl (cI, 500, .inl Rt)), (q8, .inl (cI, 10000, .inl Rw))] (some (.int 0)) := by
  refine wr_i (cc := cX9_refuse) (maxL := 1) (by decide) rfl (Nat.le_of_ble_eq_true rfl) ?_
  intro p_ e_ s_ m_ ar_ be_ me_ co_ ls Q_ A_ hx hb hml hown hts hP hK hD hS hl hret
  have hown : s_.vm.findClass RX9 = some m_.cls := hown
  have hl : lv_has ls 1 [(0, .ref mo)] := hl
  refine lv_aload_n hx hb dX9_refuse_0 rfl (lv_at hl 0 rfl) ?_
  refine lv_iconst (v := 1) hx hb dX9_refuse_1 (by decide) ?_
  refine g_put (C := RX9) (T := TX9) (N := 20) (ci := 9) (index := 1) (v := .int 1) (ws' := [(mo, .inr (9, [.int 1, .ref q1, .int tn, .int sz, .int tt, .int fm, .int so, .int nu, .int fau, .int plc, .long wd, .ref q2, .ref q3, .ref q4, .int sm, .ref q5, .ref q6, .ref q7, .ref q8, .int rm])), (q1, .inl (cI, 840, .inl Tp)), (q2, .inl (cI, 240, .inl Nw)), (q3, .inl (cI, 240, .inl Rr)), (q4, .inl (cI, 2880, .inl Sn)), (q5, .inl (cI, 4, .inl In)), (q6, .inl (cI, 500, .inl Pd)), (q7, .inl (cI, 500, .inl Rt)), (q8, .inl (cI, 10000, .inl Rw))]) hx hb hts in_X9_refuse_9 tyX9 tyX9_ok nmX9 hown hK hP hD hS 0 0 rfl rfl (by decide) (List.mem_of_getElem? (i := 1) rfl) rfl rfl rfl (Nat.le_of_ble_eq_true rfl) dX9_refuse_2 rfl (fun H_ lc_ hP hD hS => ?_)
  refine lv_iconst (v := 0) hx hb dX9_refuse_5 (by decide) ?_
  exact hret _ _ _ _ ls hS (hP) (rfl) dX9_refuse_6

abbrev okL (i w : Int32) (n : Nat) : Prop := ¬ isInM i 0 (nI n - 1) = 0 ∧ ¬ isInM w 0 4 = 0
theorem unM_cong {I J : Nat → Int32} {p : Nat} {x : Int32} (h : ∀ q, q ≤ p → I q = J q) : unM I p x = unM J p x := by
  have hl : ∀ k, k ≤ p → lfM I x k = lfM J x k := by
    intro k
    induction k with
    | zero => intro _; rfl
    | succ k ih => intro hk; unfold lfM; rw [ih (by omega), h k (by omega)]
  unfold unM
  rw [hl p (Nat.le_refl _), h p (Nat.le_refl _)]
theorem in_X9_late_9 : ∀ w ∈ wsX90, w ∈ wsX9_late := fun _ h => List.mem_cons_of_mem _ (List.mem_append_right _ (h))
set_option maxHeartbeats 4000000 in
set_option maxRecDepth 100000 in
theorem kX9_late (l : Launch) (D : va_G) (cI cB : ClassId) (mo q1 q2 q3 q4 q5 q6 q7 q8 : Nat) (th tn sz tt fm so nu fau plc : Int32) (wd : Int64) (sm rm : Int32) (Tp Nw Rr Sn In Pd Rt Rw : Nat → Int32) (ns nr ni np nb : Nat) (due : Nat → Nat) (ed : Nat) (i w : Int32) (hcn : cnt Nw ns nr ni np nb) (hcut : ∀ p, p < 4 → 1 ≤ Nw (7 + p) + 1) (hdue : ∀ p, p < 4 → Nw (3 + p) = nI (due p) ∧ due p ≤ 499) (hed : Nw 2 = nI ed) (hel : ed ≤ 499) : We l D (TY cI cB) yX9_late wsX9_late 7 163 [.ref mo, .int i, .int w] (S := (Nat → Int32) × (Nat → Int32) × (Nat → Int32) × (Nat → Int32) × (Int32)) [(mo, .inr (9, [.int th, .ref q1, .int tn, .int sz, .int tt, .int fm, .int so, .int nu, .int fau, .int plc, .long wd, .ref q2, .ref q3, .ref q4, .int sm, .ref q5, .ref q6, .ref q7, .ref q8, .int rm])), (q1, .inl (cI, 840, .inl Tp)), (q2, .inl (cI, 240, .inl Nw)), (q3, .inl (cI, 240, .inl Rr)), (q4, .inl (cI, 2880, .inl Sn)), (q5, .inl (cI, 4, .inl In)), (q6, .inl (cI, 500, .inl Pd)), (q7, .inl (cI, 500, .inl Rt)), (q8, .inl (cI, 10000, .inl Rw))] (fun u => [(mo, .inr (9, [.int (if okL i w (rwP (ov (inM (lsM Nw ns ni (Nw 239))) In 4) (ov (fun j => paM Nw np nb (nI j)) Pd 500) (ov (fun j => raM Nw nr (nI j)) Rt 500) due ed (Rw, 0) 4).2 then 0 else 1), .ref q1, .int tn, .int sz, .int tt, .int fm, .int so, .int nu, .int fau, .int plc, .long wd, .ref q2, .ref q3, .ref q4, .int sm, .ref q5, .ref q6, .ref q7, .ref q8, .int u.2.2.2.2])), (q1, .inl (cI, 840, .inl Tp)), (q2, .inl (cI, 240, .inl Nw)), (q3, .inl (cI, 240, .inl Rr)), (q4, .inl (cI, 2880, .inl Sn)), (q5, .inl (cI, 4, .inl u.1)), (q6, .inl (cI, 500, .inl u.2.1)), (q7, .inl (cI, 500, .inl u.2.2.1)), (q8, .inl (cI, 10000, .inl u.2.2.2.1))]) (some (.int (if okL i w (rwP (ov (inM (lsM Nw ns ni (Nw 239))) In 4) (ov (fun j => paM Nw np nb (nI j)) Pd 500) (ov (fun j => raM Nw nr (nI j)) Rt 500) due ed (Rw, 0) 4).2 then (rwP (ov (inM (lsM Nw ns ni (Nw 239))) In 4) (ov (fun j => paM Nw np nb (nI j)) Pd 500) (ov (fun j => raM Nw nr (nI j)) Rt 500) due ed (Rw, 0) 4).1 (5 * i.toNatClampNeg + w.toNatClampNeg) else 0))) := by
  refine we_i (cc := cX9_late) (maxL := 3) (by decide) rfl (Nat.le_of_ble_eq_true rfl) ?_
  intro p_ e_ s_ m_ ar_ be_ me_ co_ ls Q_ A_ hx hb hml hown hts hP hK hD hS hl hret
  have hown : s_.vm.findClass RX9 = some m_.cls := hown
  have hl : lv_has ls 3 [(0, .ref mo), (1, .int i), (2, .int w)] := hl
  refine lv_aload_n hx hb dX9_late_0 rfl (lv_at hl 0 rfl) ?_
  refine lv_iconst (v := 0) hx hb dX9_late_1 (by decide) ?_
  refine g_put (C := RX9) (T := TX9) (N := 20) (ci := 9) (index := 1) (v := .int 0) (ws' := [(mo, .inr (9, [.int 0, .ref q1, .int tn, .int sz, .int tt, .int fm, .int so, .int nu, .int fau, .int plc, .long wd, .ref q2, .ref q3, .ref q4, .int sm, .ref q5, .ref q6, .ref q7, .ref q8, .int rm])), (q1, .inl (cI, 840, .inl Tp)), (q2, .inl (cI, 240, .inl Nw)), (q3, .inl (cI, 240, .inl Rr)), (q4, .inl (cI, 2880, .inl Sn)), (q5, .inl (cI, 4, .inl In)), (q6, .inl (cI, 500, .inl Pd)), (q7, .inl (cI, 500, .inl Rt)), (q8, .inl (cI, 10000, .inl Rw))]) hx hb hts in_X9_late_9 tyX9 tyX9_ok nmX9 hown hK hP hD hS 0 0 rfl rfl (by decide) (List.mem_of_getElem? (i := 1) rfl) rfl rfl rfl (Nat.le_of_ble_eq_true rfl) dX9_late_2 rfl (fun H_ lc_ hP hD hS => ?_)
  refine lv_aload_n hx hb dX9_late_5 rfl (lv_at hl 0 rfl) ?_
  refine wp_V (As := []) (rest := []) (ci := 9) (ws' := [(mo, .inr (9, [.int 0, .ref q1, .int tn, .int sz, .int tt, .int fm, .int so, .int nu, .int fau, .int plc, .long wd, .ref q2, .ref q3, .ref q4, .int sm, .ref q5, .ref q6, .ref q7, .ref q8, .int (nI (rwP (ov (inM (lsM Nw ns ni (Nw 239))) In 4) (ov (fun j => paM Nw np nb (nI j)) Pd 500) (ov (fun j => raM Nw nr (nI j)) Rt 500) due ed (Rw, 0) 4).2)])), (q1, .inl (cI, 840, .inl Tp)), (q2, .inl (cI, 240, .inl Nw)), (q3, .inl (cI, 240, .inl Rr)), (q4, .inl (cI, 2880, .inl Sn)), (q5, .inl (cI, 4, .inl (ov (inM (lsM Nw ns ni (Nw 239))) In 4))), (q6, .inl (cI, 500, .inl (ov (fun j => paM Nw np nb (nI j)) Pd 500))), (q7, .inl (cI, 500, .inl (ov (fun j => raM Nw nr (nI j)) Rt 500))), (q8, .inl (cI, 10000, .inl (rwP (ov (inM (lsM Nw ns ni (Nw 239))) In 4) (ov (fun j => paM Nw np nb (nI j)) Pd 500) (ov (fun j => raM Nw nr (nI j)) Rt 500) due ed (Rw, 0) 4).1))]) (kX9_laysRows l D cI cB mo q1 q2 q3 q4 q5 q6 q7 q8 0 tn sz tt fm so nu fau plc wd sm rm Tp Nw Rr Sn In Pd Rt Rw ns nr ni np nb due ed (by assumption) (by assumption) (by assumption) (by assumption) (by assumption)) ⟨hx, hb, hml, hown, hts⟩ (cwV 0 hts gX9_late_X9_laysRows rfl rfl rfl (by decide +kernel) ⟨Nat.le_of_ble_eq_true rfl, Nat.le_of_ble_eq_true rfl⟩) hK hP hD hS [0, 1, 2, 3, 4, 5, 6, 7, 8] [] rfl rfl (two_eq [] rfl rfl) 9 rfl (by decide +kernel) (by decide +kernel) (two_eq [mo, q1, q2, q3, q4, q5, q6, q7, q8] rfl rfl) (by decide +kernel) 0 rfl rfl rfl rfl hl.1 (Nat.le_of_ble_eq_true rfl) dX9_late_6 ⟨Nat.le_refl _, Nat.le_refl _⟩ (fun H_ lc_ hP hD hS => ?_)
  show W p_ l e_ (RM 7 163) s_ m_ ar_ be_ me_ co_ H_ lc_ 0 0 Q_ (F0 m_ 9 ls [])
  have hRl : (rwP (ov (inM (lsM Nw ns ni (Nw 239))) In 4) (ov (fun j => paM Nw np nb (nI j)) Pd 500) (ov (fun j => raM Nw nr (nI j)) Rt 500) due ed (Rw, 0) 4).2 ≤ 2000 := by have z := rwP_le (ov (inM (lsM Nw ns ni (Nw 239))) In 4) (ov (fun j => paM Nw np nb (nI j)) Pd 500) (ov (fun j => raM Nw nr (nI j)) Rt 500) due ed (Rw, 0) hel 4; dsimp only at z; omega
  refine lv_iload_n hx hb dX9_late_9 rfl (lv_at hl 1 rfl) ?_
  refine lv_iconst (v := 0) hx hb dX9_late_10 (by decide) ?_
  refine lv_aload_n hx hb dX9_late_11 rfl (lv_at hl 0 rfl) ?_
  refine g_get (C := RX9) (T := TX9) (N := 20) (ci := 9) (index := 185) hx hb hts in_X9_late_9 hown hK hP 0 19 rfl rfl (by decide) (List.mem_of_getElem? (i := 2) rfl) rfl dX9_late_12 ?_
  refine lv_iconst (v := 1) hx hb dX9_late_15 (by decide) ?_
  refine lv_isub hx hb dX9_late_16 ?_
  refine rd_S (As := [.int i, .int 0, .int ((nI (rwP (ov (inM (lsM Nw ns ni (Nw 239))) In 4) (ov (fun j => paM Nw np nb (nI j)) Pd 500) (ov (fun j => raM Nw nr (nI j)) Rt 500) due ed (Rw, 0) 4).2) - 1)]) (rest := []) (kX9_isIn l D cI cB i 0 ((nI (rwP (ov (inM (lsM Nw ns ni (Nw 239))) In 4) (ov (fun j => paM Nw np nb (nI j)) Pd 500) (ov (fun j => raM Nw nr (nI j)) Rt 500) due ed (Rw, 0) 4).2) - 1) ) ⟨hx, hb, hml, hown, hts⟩ (va_cwS 3 hts gX9_late_X9_isIn rfl rfl rfl (by decide +kernel) ⟨Nat.le_of_ble_eq_true rfl, Nat.le_of_ble_eq_true rfl⟩) hK hP [] rfl rfl rfl hl.1 (Nat.le_of_ble_eq_true rfl) dX9_late_17 ⟨Nat.le_refl _, Nat.le_refl _⟩ ?_
  refine lv_if_eq (tgt := 45) hx hb dX9_late_20 (by decide) (fun c20 => ?_) (fun c20 => ?_)
  · have hno : ¬ okL i w (rwP (ov (inM (lsM Nw ns ni (Nw 239))) In 4) (ov (fun j => paM Nw np nb (nI j)) Pd 500) (ov (fun j => raM Nw nr (nI j)) Rt 500) due ed (Rw, 0) 4).2 := fun z => by first | exact z.1 c20 | exact z.2 c29
    refine lv_aload_n hx hb dX9_late_45 rfl (lv_at hl 0 rfl) ?_
    refine wp_V (As := []) (rest := []) (ci := 9) (ws' := [(mo, .inr (9, [.int 1, .ref q1, .int tn, .int sz, .int tt, .int fm, .int so, .int nu, .int fau, .int plc, .long wd, .ref q2, .ref q3, .ref q4, .int sm, .ref q5, .ref q6, .ref q7, .ref q8, .int (nI (rwP (ov (inM (lsM Nw ns ni (Nw 239))) In 4) (ov (fun j => paM Nw np nb (nI j)) Pd 500) (ov (fun j => raM Nw nr (nI j)) Rt 500) due ed (Rw, 0) 4).2)])), (q1, .inl (cI, 840, .inl Tp)), (q2, .inl (cI, 240, .inl Nw)), (q3, .inl (cI, 240, .inl Rr)), (q4, .inl (cI, 2880, .inl Sn)), (q5, .inl (cI, 4, .inl (ov (inM (lsM Nw ns ni (Nw 239))) In 4))), (q6, .inl (cI, 500, .inl (ov (fun j => paM Nw np nb (nI j)) Pd 500))), (q7, .inl (cI, 500, .inl (ov (fun j => raM Nw nr (nI j)) Rt 500))), (q8, .inl (cI, 10000, .inl (rwP (ov (inM (lsM Nw ns ni (Nw 239))) In 4) (ov (fun j => paM Nw np nb (nI j)) Pd 500) (ov (fun j => raM Nw nr (nI j)) Rt 500) due ed (Rw, 0) 4).1))]) (kX9_refuse l D cI cB mo q1 q2 q3 q4 q5 q6 q7 q8 0 tn sz tt fm so nu fau plc wd sm (nI (rwP (ov (inM (lsM Nw ns ni (Nw 239))) In 4) (ov (fun j => paM Nw np nb (nI j)) Pd 500) (ov (fun j => raM Nw nr (nI j)) Rt 500) due ed (Rw, 0) 4).2) Tp Nw Rr Sn (ov (inM (lsM Nw ns ni (Nw 239))) In 4) (ov (fun j => paM Nw np nb (nI j)) Pd 500) (ov (fun j => raM Nw nr (nI j)) Rt 500) (rwP (ov (inM (lsM Nw ns ni (Nw 239))) In 4) (ov (fun j => paM Nw np nb (nI j)) Pd 500) (ov (fun j => raM Nw nr (nI j)) Rt 500) due ed (Rw, 0) 4).1 ) ⟨hx, hb, hml, hown, hts⟩ (cwV 0 hts gX9_late_X9_refuse rfl rfl rfl (by decide +kernel) ⟨Nat.le_of_ble_eq_true rfl, Nat.le_of_ble_eq_true rfl⟩) hK hP hD hS [0, 1, 2, 3, 4, 5, 6, 7, 8] [] rfl rfl (two_eq [] rfl rfl) 9 rfl (by decide +kernel) (by decide +kernel) (two_eq [mo, q1, q2, q3, q4, q5, q6, q7, q8] rfl rfl) (by decide +kernel) 0 rfl rfl rfl rfl hl.1 (Nat.le_of_ble_eq_true rfl) dX9_late_46 ⟨Nat.le_refl _, Nat.le_refl _⟩ (fun H_ lc_ hP hD hS => ?_)
    show W p_ l e_ (RM 7 163) s_ m_ ar_ be_ me_ co_ H_ lc_ 0 0 Q_ (F0 m_ 49 ls [.int 0])
    exact hret _ _ _ _ ls hS (⟨(ov (inM (lsM Nw ns ni (Nw 239))) In 4, ov (fun j => paM Nw np nb (nI j)) Pd 500, ov (fun j => raM Nw nr (nI j)) Rt 500, (rwP (ov (inM (lsM Nw ns ni (Nw 239))) In 4) (ov (fun j => paM Nw np nb (nI j)) Pd 500) (ov (fun j => raM Nw nr (nI j)) Rt 500) due ed (Rw, 0) 4).1, nI (rwP (ov (inM (lsM Nw ns ni (Nw 239))) In 4) (ov (fun j => paM Nw np nb (nI j)) Pd 500) (ov (fun j => raM Nw nr (nI j)) Rt 500) due ed (Rw, 0) 4).2), by simpa only [if_neg hno] using hP⟩) (by rw [if_neg hno]) dX9_late_49
  · refine lv_iload_n hx hb dX9_late_23 rfl (lv_at hl 2 rfl) ?_
    refine lv_iconst (v := 0) hx hb dX9_late_24 (by decide) ?_
    refine lv_iconst (v := 4) hx hb dX9_late_25 (by decide) ?_
    refine rd_S (As := [.int w, .int 0, .int 4]) (rest := []) (kX9_isIn l D cI cB w 0 4 ) ⟨hx, hb, hml, hown, hts⟩ (va_cwS 3 hts gX9_late_X9_isIn rfl rfl rfl (by decide +kernel) ⟨Nat.le_of_ble_eq_true rfl, Nat.le_of_ble_eq_true rfl⟩) hK hP [] rfl rfl rfl hl.1 (Nat.le_of_ble_eq_true rfl) dX9_late_26 ⟨Nat.le_refl _, Nat.le_refl _⟩ ?_
    refine lv_if_eq (tgt := 45) hx hb dX9_late_29 (by decide) (fun c29 => ?_) (fun c29 => ?_)
    · have hno : ¬ okL i w (rwP (ov (inM (lsM Nw ns ni (Nw 239))) In 4) (ov (fun j => paM Nw np nb (nI j)) Pd 500) (ov (fun j => raM Nw nr (nI j)) Rt 500) due ed (Rw, 0) 4).2 := fun z => by first | exact z.1 c20 | exact z.2 c29
      refine lv_aload_n hx hb dX9_late_45 rfl (lv_at hl 0 rfl) ?_
      refine wp_V (As := []) (rest := []) (ci := 9) (ws' := [(mo, .inr (9, [.int 1, .ref q1, .int tn, .int sz, .int tt, .int fm, .int so, .int nu, .int fau, .int plc, .long wd, .ref q2, .ref q3, .ref q4, .int sm, .ref q5, .ref q6, .ref q7, .ref q8, .int (nI (rwP (ov (inM (lsM Nw ns ni (Nw 239))) In 4) (ov (fun j => paM Nw np nb (nI j)) Pd 500) (ov (fun j => raM Nw nr (nI j)) Rt 500) due ed (Rw, 0) 4).2)])), (q1, .inl (cI, 840, .inl Tp)), (q2, .inl (cI, 240, .inl Nw)), (q3, .inl (cI, 240, .inl Rr)), (q4, .inl (cI, 2880, .inl Sn)), (q5, .inl (cI, 4, .inl (ov (inM (lsM Nw ns ni (Nw 239))) In 4))), (q6, .inl (cI, 500, .inl (ov (fun j => paM Nw np nb (nI j)) Pd 500))), (q7, .inl (cI, 500, .inl (ov (fun j => raM Nw nr (nI j)) Rt 500))), (q8, .inl (cI, 10000, .inl (rwP (ov (inM (lsM Nw ns ni (Nw 239))) In 4) (ov (fun j => paM Nw np nb (nI j)) Pd 500) (ov (fun j => raM Nw nr (nI j)) Rt 500) due ed (Rw, 0) 4).1))]) (kX9_refuse l D cI cB mo q1 q2 q3 q4 q5 q6 q7 q8 0 tn sz tt fm so nu fau plc wd sm (nI (rwP (ov (inM (lsM Nw ns ni (Nw 239))) In 4) (ov (fun j => paM Nw np nb (nI j)) Pd 500) (ov (fun j => raM Nw nr (nI j)) Rt 500) due ed (Rw, 0) 4).2) Tp Nw Rr Sn (ov (inM (lsM Nw ns ni (Nw 239))) In 4) (ov (fun j => paM Nw np nb (nI j)) Pd 500) (ov (fun j => raM Nw nr (nI j)) Rt 500) (rwP (ov (inM (lsM Nw ns ni (Nw 239))) In 4) (ov (fun j => paM Nw np nb (nI j)) Pd 500) (ov (fun j => raM Nw nr (nI j)) Rt 500) due ed (Rw, 0) 4).1 ) ⟨hx, hb, hml, hown, hts⟩ (cwV 0 hts gX9_late_X9_refuse rfl rfl rfl (by decide +kernel) ⟨Nat.le_of_ble_eq_true rfl, Nat.le_of_ble_eq_true rfl⟩) hK hP hD hS [0, 1, 2, 3, 4, 5, 6, 7, 8] [] rfl rfl (two_eq [] rfl rfl) 9 rfl (by decide +kernel) (by decide +kernel) (two_eq [mo, q1, q2, q3, q4, q5, q6, q7, q8] rfl rfl) (by decide +kernel) 0 rfl rfl rfl rfl hl.1 (Nat.le_of_ble_eq_true rfl) dX9_late_46 ⟨Nat.le_refl _, Nat.le_refl _⟩ (fun H_ lc_ hP hD hS => ?_)
      show W p_ l e_ (RM 7 163) s_ m_ ar_ be_ me_ co_ H_ lc_ 0 0 Q_ (F0 m_ 49 ls [.int 0])
      exact hret _ _ _ _ ls hS (⟨(ov (inM (lsM Nw ns ni (Nw 239))) In 4, ov (fun j => paM Nw np nb (nI j)) Pd 500, ov (fun j => raM Nw nr (nI j)) Rt 500, (rwP (ov (inM (lsM Nw ns ni (Nw 239))) In 4) (ov (fun j => paM Nw np nb (nI j)) Pd 500) (ov (fun j => raM Nw nr (nI j)) Rt 500) due ed (Rw, 0) 4).1, nI (rwP (ov (inM (lsM Nw ns ni (Nw 239))) In 4) (ov (fun j => paM Nw np nb (nI j)) Pd 500) (ov (fun j => raM Nw nr (nI j)) Rt 500) due ed (Rw, 0) 4).2), by simpa only [if_neg hno] using hP⟩) (by rw [if_neg hno]) dX9_late_49
    · obtain ⟨q, hq, rfl⟩ := isRow_nI (by omega) c20
      obtain ⟨w9, hw9, rfl⟩ := isInM_nI (n := 4) (by omega) c29
      have hok : okL (nI q) (nI w9) (rwP (ov (inM (lsM Nw ns ni (Nw 239))) In 4) (ov (fun j => paM Nw np nb (nI j)) Pd 500) (ov (fun j => raM Nw nr (nI j)) Rt 500) due ed (Rw, 0) 4).2 := ⟨c20, c29⟩
      refine lv_aload_n hx hb dX9_late_32 rfl (lv_at hl 0 rfl) ?_
      refine g_get (C := RX9) (T := TX9) (N := 20) (ci := 9) (index := 82) hx hb hts in_X9_late_9 hown hK hP 0 18 rfl rfl (by decide) (List.mem_of_getElem? (i := 3) rfl) rfl dX9_late_33 ?_
      refine lv_iconst (v := 5) hx hb dX9_late_36 (by decide) ?_
      refine lv_iload_n hx hb dX9_late_37 rfl (lv_at hl 1 rfl) ?_
      refine lv_imul hx hb dX9_late_38 ?_
      refine lv_iload_n hx hb dX9_late_39 rfl (lv_at hl 2 rfl) ?_
      refine lv_iadd hx hb dX9_late_40 ?_
      refine g_iald hx hb hK hP 8 0 rfl rfl ((5 * q) + w9) (nx_a (nx_m (rfl) (rfl)) (rfl)) (by omega) (by omega) dX9_late_41 ?_
      refine lv_goto (tgt := 49) hx hb dX9_late_42 (by decide) ?_
      exact hret _ _ _ _ ls hS (⟨(ov (inM (lsM Nw ns ni (Nw 239))) In 4, ov (fun j => paM Nw np nb (nI j)) Pd 500, ov (fun j => raM Nw nr (nI j)) Rt 500, (rwP (ov (inM (lsM Nw ns ni (Nw 239))) In 4) (ov (fun j => paM Nw np nb (nI j)) Pd 500) (ov (fun j => raM Nw nr (nI j)) Rt 500) due ed (Rw, 0) 4).1, nI (rwP (ov (inM (lsM Nw ns ni (Nw 239))) In 4) (ov (fun j => paM Nw np nb (nI j)) Pd 500) (ov (fun j => raM Nw nr (nI j)) Rt 500) due ed (Rw, 0) 4).2), by simpa only [if_pos hok] using hP⟩) (by rw [if_pos hok, nI_clamp (by omega), nI_clamp (by omega)]) dX9_late_49

