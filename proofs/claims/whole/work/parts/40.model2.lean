def wordM (w s : Int32) : Int32 := (w.toUInt32 >>> (s.toUInt32 &&& Int32.toUInt32 31)).toInt32 &&& 255
def ay4 (T : Nat → Int32) (n : Nat) (w : Int32) : Nat → Int32 := upd (upd (upd (upd T n (wordM w 24)) (n + 1) (wordM w 16)) (n + 2) (wordM w 8)) (n + 3) (wordM w 0)
def fdM (T : Nat → Int32) (n : Nat) (a b c d e : Int32) : Nat → Int32 := ay4 (ay4 (ay4 (ay4 (ay4 T n a) (n + 4) b) (n + 8) c) (n + 12) d) (n + 16) e
theorem isPay_nI {k : Int32} {n : Nat} (hn : n ≤ 40) (h : ¬ isInM k 0 (nI n - 1) = 0) : ∃ q : Nat, q < n ∧ k = nI q := by
  cases n with
  | zero =>
    unfold isInM at h
    by_cases h1 : k < 0
    · rw [if_pos h1] at h; exact absurd rfl h
    · rw [if_neg h1] at h
      have h2 : nI 0 - 1 < k := by
        rw [Int32.lt_iff_toInt_lt] at h1 ⊢
        have e1 : (nI 0 - 1 : Int32).toInt = -1 := by decide
        have e2 : (0 : Int32).toInt = 0 := rfl
        omega
      rw [if_pos h2] at h
      exact absurd rfl h
  | succ n =>
    rw [nI_pred] at h
    obtain ⟨q, hq, e⟩ := isInM_nI (by omega) h
    exact ⟨q, by omega, e⟩
theorem upd_ne {f : Nat → Int32} {k j : Nat} {x : Int32} (h : j ≠ k) : upd f k x j = f j := by simp [upd, h]
theorem upd_back (f : Nat → Int32) (k : Nat) (x : Int32) : upd (upd f k x) k (f k) = f := by
  funext j
  by_cases h : j = k
  · subst h; simp [upd]
  · simp [upd, h]
theorem upd_self (f : Nat → Int32) (k : Nat) (x : Int32) : upd f k x k = x := by simp [upd]
theorem cnt_upd {N : Nat → Int32} {ns nr ni np nb A : Nat} {v : Int32} (h : cnt N ns nr ni np nb) (h1 : A ≠ 13) (h2 : A ≠ 23) (h3 : A ≠ 36) (h4 : A ≠ 117) (h5 : A ≠ 198) : cnt (upd N A v) ns nr ni np nb := by
  unfold cnt at h ⊢
  rw [upd_ne (Ne.symm h1), upd_ne (Ne.symm h2), upd_ne (Ne.symm h3), upd_ne (Ne.symm h4), upd_ne (Ne.symm h5)]
  exact h
theorem in_X9_lays_9 : ∀ w ∈ wsX90, w ∈ wsX9_lays := fun _ h => List.mem_cons_of_mem _ (List.mem_append_right _ (h))
set_option maxHeartbeats 4000000 in
set_option maxRecDepth 100000 in
theorem kX9_lays (l : Launch) (D : va_G) (cI cB : ClassId) (mo q1 q2 q3 q4 q5 q6 q7 q8 : Nat) (th sz tt fm so nu fau plc : Int32) (wd : Int64) (sm rm : Int32) (Tp Nw Rr Sn In Pd Rt Rw : Nat → Int32) (n : Nat) (w : Int32) (hn : n + 4 ≤ 840) : Wr l D (TY cI cB) yX9_lays wsX9_lays 0 0 [.ref mo, .int w] [(mo, .inr (9, [.int th, .ref q1, .int (nI n), .int sz, .int tt, .int fm, .int so, .int nu, .int fau, .int plc, .long wd, .ref q2, .ref q3, .ref q4, .int sm, .ref q5, .ref q6, .ref q7, .ref q8, .int rm])), (q1, .inl (cI, 840, .inl Tp)), (q2, .inl (cI, 240, .inl Nw)), (q3, .inl (cI, 240, .inl Rr)), (q4, .inl (cI, 2880, .inl Sn)), (q5, .inl (cI, 4, .inl In)), (q6, .inl (cI, 500, .inl Pd)), (q7, .inl (cI, 500, .inl Rt)), (q8, .inl (cI, 10000, .inl Rw))] [(mo, .inr (9, [.int th, .ref q1, .int (nI (n + 4)), .int sz, .int tt, .int fm, .int so, .int nu, .int fau, .int plc, .long wd, .ref q2, .ref q3, .ref q4, .int sm, .ref q5, .ref q6, .ref q7, .ref q8, .int rm])), (q1, .inl (cI, 840, .inl (ay4 Tp n w))), (q2, .inl (cI, 240, .inl Nw)), (q3, .inl (cI, 240, .inl Rr)), (q4, .inl (cI, 2880, .inl Sn)), (q5, .inl (cI, 4, .inl In)), (q6, .inl (cI, 500, .inl Pd)), (q7, .inl (cI, 500, .inl Rt)), (q8, .inl (cI, 10000, .inl Rw))] none := by
  refine wr_v (cc := cX9_lays) (maxL := 3) (by decide) rfl (Nat.le_of_ble_eq_true rfl) ?_
  intro p_ e_ s_ m_ ar_ be_ me_ co_ ls Q_ A_ hx hb hml hown hts hP hK hD hS hl hret
  have hown : s_.vm.findClass RX9 = some m_.cls := hown
  have hl : lv_has ls 3 [(0, .ref mo), (1, .int w)] := hl
  refine lv_bipush (v := 24) hx hb dX9_lays_0 (by decide) ?_
  refine lv_istore_n (lv' := [(2, .int 24), (0, .ref mo), (1, .int w)]) hx hb dX9_lays_2 rfl hl (by decide) rfl (fun ls hl => ?_)
  refine lv_iload_n hx hb dX9_lays_3 rfl (lv_at hl 0 rfl) ?_
  refine lv_if_lt (tgt := 39) hx hb dX9_lays_4 (by decide) (fun c4 => absurd c4 (by decide)) (fun c4 => ?_)
  refine lv_aload_n hx hb dX9_lays_7 rfl (lv_at hl 1 rfl) ?_
  refine g_get (C := RX9) (T := TX9) (N := 20) (ci := 9) (index := 7) hx hb hts in_X9_lays_9 hown hK hP 0 1 rfl rfl (by decide) (List.mem_of_getElem? (i := 1) rfl) rfl dX9_lays_8 ?_
  refine lv_aload_n hx hb dX9_lays_11 rfl (lv_at hl 1 rfl) ?_
  refine g_get (C := RX9) (T := TX9) (N := 20) (ci := 9) (index := 11) hx hb hts in_X9_lays_9 hown hK hP 0 2 rfl rfl (by decide) (List.mem_of_getElem? (i := 2) rfl) rfl dX9_lays_12 ?_
  refine lv_iload_n hx hb dX9_lays_15 rfl (lv_at hl 2 rfl) ?_
  refine lv_iload_n hx hb dX9_lays_16 rfl (lv_at hl 0 rfl) ?_
  refine lv_iushr (v := (w.toUInt32 >>> ((24 : Int32).toUInt32 &&& Int32.toUInt32 31)).toInt32) hx hb dX9_lays_17 rfl ?_
  refine lv_sipush (v := 255) hx hb dX9_lays_18 (by decide) ?_
  refine lv_iand hx hb dX9_lays_21 ?_
  refine g_iast hx hb hK hP hD hS 1 0 rfl rfl n (rfl) (by omega) (by omega) dX9_lays_22 (fun H_ lc_ hP hD hS => ?_)
  have hP : va_P D vwCl [(mo, .inr (9, [.int th, .ref q1, .int (nI n), .int sz, .int tt, .int fm, .int so, .int nu, .int fau, .int plc, .long wd, .ref q2, .ref q3, .ref q4, .int sm, .ref q5, .ref q6, .ref q7, .ref q8, .int rm])), (q1, .inl (cI, 840, .inl (upd Tp n (((w.toUInt32 >>> ((24 : Int32).toUInt32 &&& Int32.toUInt32 31)).toInt32) &&& 255)))), (q2, .inl (cI, 240, .inl Nw)), (q3, .inl (cI, 240, .inl Rr)), (q4, .inl (cI, 2880, .inl Sn)), (q5, .inl (cI, 4, .inl In)), (q6, .inl (cI, 500, .inl Pd)), (q7, .inl (cI, 500, .inl Rt)), (q8, .inl (cI, 10000, .inl Rw))] H_ := hP
  have hD : va_D A_ [(mo, .inr (9, [.int th, .ref q1, .int (nI n), .int sz, .int tt, .int fm, .int so, .int nu, .int fau, .int plc, .long wd, .ref q2, .ref q3, .ref q4, .int sm, .ref q5, .ref q6, .ref q7, .ref q8, .int rm])), (q1, .inl (cI, 840, .inl (upd Tp n (((w.toUInt32 >>> ((24 : Int32).toUInt32 &&& Int32.toUInt32 31)).toInt32) &&& 255)))), (q2, .inl (cI, 240, .inl Nw)), (q3, .inl (cI, 240, .inl Rr)), (q4, .inl (cI, 2880, .inl Sn)), (q5, .inl (cI, 4, .inl In)), (q6, .inl (cI, 500, .inl Pd)), (q7, .inl (cI, 500, .inl Rt)), (q8, .inl (cI, 10000, .inl Rw))] := hD
  refine lv_aload_n hx hb dX9_lays_23 rfl (lv_at hl 1 rfl) ?_
  refine lv_dup hx hb dX9_lays_24 rfl ?_
  refine g_get (C := RX9) (T := TX9) (N := 20) (ci := 9) (index := 11) hx hb hts in_X9_lays_9 hown hK hP 0 2 rfl rfl (by decide) (List.mem_of_getElem? (i := 2) rfl) rfl dX9_lays_25 ?_
  refine lv_iconst (v := 1) hx hb dX9_lays_28 (by decide) ?_
  refine lv_iadd hx hb dX9_lays_29 ?_
  rw [show ((nI n) + 1 : Int32) = nI (n + 1) from nI_1 _]
  refine g_put (C := RX9) (T := TX9) (N := 20) (ci := 9) (index := 11) (v := .int (nI (n + 1))) (ws' := [(mo, .inr (9, [.int th, .ref q1, .int (nI (n + 1)), .int sz, .int tt, .int fm, .int so, .int nu, .int fau, .int plc, .long wd, .ref q2, .ref q3, .ref q4, .int sm, .ref q5, .ref q6, .ref q7, .ref q8, .int rm])), (q1, .inl (cI, 840, .inl (upd Tp n (((w.toUInt32 >>> ((24 : Int32).toUInt32 &&& Int32.toUInt32 31)).toInt32) &&& 255)))), (q2, .inl (cI, 240, .inl Nw)), (q3, .inl (cI, 240, .inl Rr)), (q4, .inl (cI, 2880, .inl Sn)), (q5, .inl (cI, 4, .inl In)), (q6, .inl (cI, 500, .inl Pd)), (q7, .inl (cI, 500, .inl Rt)), (q8, .inl (cI, 10000, .inl Rw))]) hx hb hts in_X9_lays_9 tyX9 tyX9_ok nmX9 hown hK hP hD hS 0 2 rfl rfl (by decide) (List.mem_of_getElem? (i := 2) rfl) rfl rfl rfl (Nat.le_of_ble_eq_true rfl) dX9_lays_30 rfl (fun H_ lc_ hP hD hS => ?_)
  refine lv_iinc (v := 16) (lv' := [(2, .int 16), (0, .ref mo), (1, .int w)]) hx hb dX9_lays_33 hl (k := 0) rfl (by decide) (by decide) rfl (fun ls hl => ?_)
  refine lv_goto (tgt := 3) hx hb dX9_lays_36 (by decide) ?_
  refine lv_iload_n hx hb dX9_lays_3 rfl (lv_at hl 0 rfl) ?_
  refine lv_if_lt (tgt := 39) hx hb dX9_lays_4 (by decide) (fun c4' => absurd c4' (by decide)) (fun c4' => ?_)
  refine lv_aload_n hx hb dX9_lays_7 rfl (lv_at hl 1 rfl) ?_
  refine g_get (C := RX9) (T := TX9) (N := 20) (ci := 9) (index := 7) hx hb hts in_X9_lays_9 hown hK hP 0 1 rfl rfl (by decide) (List.mem_of_getElem? (i := 1) rfl) rfl dX9_lays_8 ?_
  refine lv_aload_n hx hb dX9_lays_11 rfl (lv_at hl 1 rfl) ?_
  refine g_get (C := RX9) (T := TX9) (N := 20) (ci := 9) (index := 11) hx hb hts in_X9_lays_9 hown hK hP 0 2 rfl rfl (by decide) (List.mem_of_getElem? (i := 2) rfl) rfl dX9_lays_12 ?_
  refine lv_iload_n hx hb dX9_lays_15 rfl (lv_at hl 2 rfl) ?_
  refine lv_iload_n hx hb dX9_lays_16 rfl (lv_at hl 0 rfl) ?_
  refine lv_iushr (v := (w.toUInt32 >>> ((16 : Int32).toUInt32 &&& Int32.toUInt32 31)).toInt32) hx hb dX9_lays_17 rfl ?_
  refine lv_sipush (v := 255) hx hb dX9_lays_18 (by decide) ?_
  refine lv_iand hx hb dX9_lays_21 ?_
  refine g_iast hx hb hK hP hD hS 1 0 rfl rfl (n + 1) (rfl) (by omega) (by omega) dX9_lays_22 (fun H_ lc_ hP hD hS => ?_)
  have hP : va_P D vwCl [(mo, .inr (9, [.int th, .ref q1, .int (nI (n + 1)), .int sz, .int tt, .int fm, .int so, .int nu, .int fau, .int plc, .long wd, .ref q2, .ref q3, .ref q4, .int sm, .ref q5, .ref q6, .ref q7, .ref q8, .int rm])), (q1, .inl (cI, 840, .inl (upd (upd Tp n (((w.toUInt32 >>> ((24 : Int32).toUInt32 &&& Int32.toUInt32 31)).toInt32) &&& 255)) (n + 1) (((w.toUInt32 >>> ((16 : Int32).toUInt32 &&& Int32.toUInt32 31)).toInt32) &&& 255)))), (q2, .inl (cI, 240, .inl Nw)), (q3, .inl (cI, 240, .inl Rr)), (q4, .inl (cI, 2880, .inl Sn)), (q5, .inl (cI, 4, .inl In)), (q6, .inl (cI, 500, .inl Pd)), (q7, .inl (cI, 500, .inl Rt)), (q8, .inl (cI, 10000, .inl Rw))] H_ := hP
  have hD : va_D A_ [(mo, .inr (9, [.int th, .ref q1, .int (nI (n + 1)), .int sz, .int tt, .int fm, .int so, .int nu, .int fau, .int plc, .long wd, .ref q2, .ref q3, .ref q4, .int sm, .ref q5, .ref q6, .ref q7, .ref q8, .int rm])), (q1, .inl (cI, 840, .inl (upd (upd Tp n (((w.toUInt32 >>> ((24 : Int32).toUInt32 &&& Int32.toUInt32 31)).toInt32) &&& 255)) (n + 1) (((w.toUInt32 >>> ((16 : Int32).toUInt32 &&& Int32.toUInt32 31)).toInt32) &&& 255)))), (q2, .inl (cI, 240, .inl Nw)), (q3, .inl (cI, 240, .inl Rr)), (q4, .inl (cI, 2880, .inl Sn)), (q5, .inl (cI, 4, .inl In)), (q6, .inl (cI, 500, .inl Pd)), (q7, .inl (cI, 500, .inl Rt)), (q8, .inl (cI, 10000, .inl Rw))] := hD
  refine lv_aload_n hx hb dX9_lays_23 rfl (lv_at hl 1 rfl) ?_
  refine lv_dup hx hb dX9_lays_24 rfl ?_
  refine g_get (C := RX9) (T := TX9) (N := 20) (ci := 9) (index := 11) hx hb hts in_X9_lays_9 hown hK hP 0 2 rfl rfl (by decide) (List.mem_of_getElem? (i := 2) rfl) rfl dX9_lays_25 ?_
  refine lv_iconst (v := 1) hx hb dX9_lays_28 (by decide) ?_
  refine lv_iadd hx hb dX9_lays_29 ?_
  rw [show ((nI (n + 1)) + 1 : Int32) = nI (n + 2) from nI_1 _]
  refine g_put (C := RX9) (T := TX9) (N := 20) (ci := 9) (index := 11) (v := .int (nI (n + 2))) (ws' := [(mo, .inr (9, [.int th, .ref q1, .int (nI (n + 2)), .int sz, .int tt, .int fm, .int so, .int nu, .int fau, .int plc, .long wd, .ref q2, .ref q3, .ref q4, .int sm, .ref q5, .ref q6, .ref q7, .ref q8, .int rm])), (q1, .inl (cI, 840, .inl (upd (upd Tp n (((w.toUInt32 >>> ((24 : Int32).toUInt32 &&& Int32.toUInt32 31)).toInt32) &&& 255)) (n + 1) (((w.toUInt32 >>> ((16 : Int32).toUInt32 &&& Int32.toUInt32 31)).toInt32) &&& 255)))), (q2, .inl (cI, 240, .inl Nw)), (q3, .inl (cI, 240, .inl Rr)), (q4, .inl (cI, 2880, .inl Sn)), (q5, .inl (cI, 4, .inl In)), (q6, .inl (cI, 500, .inl Pd)), (q7, .inl (cI, 500, .inl Rt)), (q8, .inl (cI, 10000, .inl Rw))]) hx hb hts in_X9_lays_9 tyX9 tyX9_ok nmX9 hown hK hP hD hS 0 2 rfl rfl (by decide) (List.mem_of_getElem? (i := 2) rfl) rfl rfl rfl (Nat.le_of_ble_eq_true rfl) dX9_lays_30 rfl (fun H_ lc_ hP hD hS => ?_)
  refine lv_iinc (v := 8) (lv' := [(2, .int 8), (0, .ref mo), (1, .int w)]) hx hb dX9_lays_33 hl (k := 0) rfl (by decide) (by decide) rfl (fun ls hl => ?_)
  refine lv_goto (tgt := 3) hx hb dX9_lays_36 (by decide) ?_
  refine lv_iload_n hx hb dX9_lays_3 rfl (lv_at hl 0 rfl) ?_
  refine lv_if_lt (tgt := 39) hx hb dX9_lays_4 (by decide) (fun c4'' => absurd c4'' (by decide)) (fun c4'' => ?_)
  refine lv_aload_n hx hb dX9_lays_7 rfl (lv_at hl 1 rfl) ?_
  refine g_get (C := RX9) (T := TX9) (N := 20) (ci := 9) (index := 7) hx hb hts in_X9_lays_9 hown hK hP 0 1 rfl rfl (by decide) (List.mem_of_getElem? (i := 1) rfl) rfl dX9_lays_8 ?_
  refine lv_aload_n hx hb dX9_lays_11 rfl (lv_at hl 1 rfl) ?_
  refine g_get (C := RX9) (T := TX9) (N := 20) (ci := 9) (index := 11) hx hb hts in_X9_lays_9 hown hK hP 0 2 rfl rfl (by decide) (List.mem_of_getElem? (i := 2) rfl) rfl dX9_lays_12 ?_
  refine lv_iload_n hx hb dX9_lays_15 rfl (lv_at hl 2 rfl) ?_
  refine lv_iload_n hx hb dX9_lays_16 rfl (lv_at hl 0 rfl) ?_
  refine lv_iushr (v := (w.toUInt32 >>> ((8 : Int32).toUInt32 &&& Int32.toUInt32 31)).toInt32) hx hb dX9_lays_17 rfl ?_
  refine lv_sipush (v := 255) hx hb dX9_lays_18 (by decide) ?_
  refine lv_iand hx hb dX9_lays_21 ?_
  refine g_iast hx hb hK hP hD hS 1 0 rfl rfl (n + 2) (rfl) (by omega) (by omega) dX9_lays_22 (fun H_ lc_ hP hD hS => ?_)
  have hP : va_P D vwCl [(mo, .inr (9, [.int th, .ref q1, .int (nI (n + 2)), .int sz, .int tt, .int fm, .int so, .int nu, .int fau, .int plc, .long wd, .ref q2, .ref q3, .ref q4, .int sm, .ref q5, .ref q6, .ref q7, .ref q8, .int rm])), (q1, .inl (cI, 840, .inl (upd (upd (upd Tp n (((w.toUInt32 >>> ((24 : Int32).toUInt32 &&& Int32.toUInt32 31)).toInt32) &&& 255)) (n + 1) (((w.toUInt32 >>> ((16 : Int32).toUInt32 &&& Int32.toUInt32 31)).toInt32) &&& 255)) (n + 2) (((w.toUInt32 >>> ((8 : Int32).toUInt32 &&& Int32.toUInt32 31)).toInt32) &&& 255)))), (q2, .inl (cI, 240, .inl Nw)), (q3, .inl (cI, 240, .inl Rr)), (q4, .inl (cI, 2880, .inl Sn)), (q5, .inl (cI, 4, .inl In)), (q6, .inl (cI, 500, .inl Pd)), (q7, .inl (cI, 500, .inl Rt)), (q8, .inl (cI, 10000, .inl Rw))] H_ := hP
  have hD : va_D A_ [(mo, .inr (9, [.int th, .ref q1, .int (nI (n + 2)), .int sz, .int tt, .int fm, .int so, .int nu, .int fau, .int plc, .long wd, .ref q2, .ref q3, .ref q4, .int sm, .ref q5, .ref q6, .ref q7, .ref q8, .int rm])), (q1, .inl (cI, 840, .inl (upd (upd (upd Tp n (((w.toUInt32 >>> ((24 : Int32).toUInt32 &&& Int32.toUInt32 31)).toInt32) &&& 255)) (n + 1) (((w.toUInt32 >>> ((16 : Int32).toUInt32 &&& Int32.toUInt32 31)).toInt32) &&& 255)) (n + 2) (((w.toUInt32 >>> ((8 : Int32).toUInt32 &&& Int32.toUInt32 31)).toInt32) &&& 255)))), (q2, .inl (cI, 240, .inl Nw)), (q3, .inl (cI, 240, .inl Rr)), (q4, .inl (cI, 2880, .inl Sn)), (q5, .inl (cI, 4, .inl In)), (q6, .inl (cI, 500, .inl Pd)), (q7, .inl (cI, 500, .inl Rt)), (q8, .inl (cI, 10000, .inl Rw))] := hD
  refine lv_aload_n hx hb dX9_lays_23 rfl (lv_at hl 1 rfl) ?_
  refine lv_dup hx hb dX9_lays_24 rfl ?_
  refine g_get (C := RX9) (T := TX9) (N := 20) (ci := 9) (index := 11) hx hb hts in_X9_lays_9 hown hK hP 0 2 rfl rfl (by decide) (List.mem_of_getElem? (i := 2) rfl) rfl dX9_lays_25 ?_
  refine lv_iconst (v := 1) hx hb dX9_lays_28 (by decide) ?_
  refine lv_iadd hx hb dX9_lays_29 ?_
  rw [show ((nI (n + 2)) + 1 : Int32) = nI (n + 3) from nI_1 _]
  refine g_put (C := RX9) (T := TX9) (N := 20) (ci := 9) (index := 11) (v := .int (nI (n + 3))) (ws' := [(mo, .inr (9, [.int th, .ref q1, .int (nI (n + 3)), .int sz, .int tt, .int fm, .int so, .int nu, .int fau, .int plc, .long wd, .ref q2, .ref q3, .ref q4, .int sm, .ref q5, .ref q6, .ref q7, .ref q8, .int rm])), (q1, .inl (cI, 840, .inl (upd (upd (upd Tp n (((w.toUInt32 >>> ((24 : Int32).toUInt32 &&& Int32.toUInt32 31)).toInt32) &&& 255)) (n + 1) (((w.toUInt32 >>> ((16 : Int32).toUInt32 &&& Int32.toUInt32 31)).toInt32) &&& 255)) (n + 2) (((w.toUInt32 >>> ((8 : Int32).toUInt32 &&& Int32.toUInt32 31)).toInt32) &&& 255)))), (q2, .inl (cI, 240, .inl Nw)), (q3, .inl (cI, 240, .inl Rr)), (q4, .inl (cI, 2880, .inl Sn)), (q5, .inl (cI, 4, .inl In)), (q6, .inl (cI, 500, .inl Pd)), (q7, .inl (cI, 500, .inl Rt)), (q8, .inl (cI, 10000, .inl Rw))]) hx hb hts in_X9_lays_9 tyX9 tyX9_ok nmX9 hown hK hP hD hS 0 2 rfl rfl (by decide) (List.mem_of_getElem? (i := 2) rfl) rfl rfl rfl (Nat.le_of_ble_eq_true rfl) dX9_lays_30 rfl (fun H_ lc_ hP hD hS => ?_)
  refine lv_iinc (v := 0) (lv' := [(2, .int 0), (0, .ref mo), (1, .int w)]) hx hb dX9_lays_33 hl (k := 0) rfl (by decide) (by decide) rfl (fun ls hl => ?_)
  refine lv_goto (tgt := 3) hx hb dX9_lays_36 (by decide) ?_
  refine lv_iload_n hx hb dX9_lays_3 rfl (lv_at hl 0 rfl) ?_
  refine lv_if_lt (tgt := 39) hx hb dX9_lays_4 (by decide) (fun c4''' => absurd c4''' (by decide)) (fun c4''' => ?_)
  refine lv_aload_n hx hb dX9_lays_7 rfl (lv_at hl 1 rfl) ?_
  refine g_get (C := RX9) (T := TX9) (N := 20) (ci := 9) (index := 7) hx hb hts in_X9_lays_9 hown hK hP 0 1 rfl rfl (by decide) (List.mem_of_getElem? (i := 1) rfl) rfl dX9_lays_8 ?_
  refine lv_aload_n hx hb dX9_lays_11 rfl (lv_at hl 1 rfl) ?_
  refine g_get (C := RX9) (T := TX9) (N := 20) (ci := 9) (index := 11) hx hb hts in_X9_lays_9 hown hK hP 0 2 rfl rfl (by decide) (List.mem_of_getElem? (i := 2) rfl) rfl dX9_lays_12 ?_
  refine lv_iload_n hx hb dX9_lays_15 rfl (lv_at hl 2 rfl) ?_
  refine lv_iload_n hx hb dX9_lays_16 rfl (lv_at hl 0 rfl) ?_
  refine lv_iushr (v := (w.toUInt32 >>> ((0 : Int32).toUInt32 &&& Int32.toUInt32 31)).toInt32) hx hb dX9_lays_17 rfl ?_
  refine lv_sipush (v := 255) hx hb dX9_lays_18 (by decide) ?_
  refine lv_iand hx hb dX9_lays_21 ?_
  refine g_iast hx hb hK hP hD hS 1 0 rfl rfl (n + 3) (rfl) (by omega) (by omega) dX9_lays_22 (fun H_ lc_ hP hD hS => ?_)
  have hP : va_P D vwCl [(mo, .inr (9, [.int th, .ref q1, .int (nI (n + 3)), .int sz, .int tt, .int fm, .int so, .int nu, .int fau, .int plc, .long wd, .ref q2, .ref q3, .ref q4, .int sm, .ref q5, .ref q6, .ref q7, .ref q8, .int rm])), (q1, .inl (cI, 840, .inl (upd (upd (upd (upd Tp n (((w.toUInt32 >>> ((24 : Int32).toUInt32 &&& Int32.toUInt32 31)).toInt32) &&& 255)) (n + 1) (((w.toUInt32 >>> ((16 : Int32).toUInt32 &&& Int32.toUInt32 31)).toInt32) &&& 255)) (n + 2) (((w.toUInt32 >>> ((8 : Int32).toUInt32 &&& Int32.toUInt32 31)).toInt32) &&& 255)) (n + 3) (((w.toUInt32 >>> ((0 : Int32).toUInt32 &&& Int32.toUInt32 31)).toInt32) &&& 255)))), (q2, .inl (cI, 240, .inl Nw)), (q3, .inl (cI, 240, .inl Rr)), (q4, .inl (cI, 2880, .inl Sn)), (q5, .inl (cI, 4, .inl In)), (q6, .inl (cI, 500, .inl Pd)), (q7, .inl (cI, 500, .inl Rt)), (q8, .inl (cI, 10000, .inl Rw))] H_ := hP
  have hD : va_D A_ [(mo, .inr (9, [.int th, .ref q1, .int (nI (n + 3)), .int sz, .int tt, .int fm, .int so, .int nu, .int fau, .int plc, .long wd, .ref q2, .ref q3, .ref q4, .int sm, .ref q5, .ref q6, .ref q7, .ref q8, .int rm])), (q1, .inl (cI, 840, .inl (upd (upd (upd (upd Tp n (((w.toUInt32 >>> ((24 : Int32).toUInt32 &&& Int32.toUInt32 31)).toInt32) &&& 255)) (n + 1) (((w.toUInt32 >>> ((16 : Int32).toUInt32 &&& Int32.toUInt32 31)).toInt32) &&& 255)) (n + 2) (((w.toUInt32 >>> ((8 : Int32).toUInt32 &&& Int32.toUInt32 31)).toInt32) &&& 255)) (n + 3) (((w.toUInt32 >>> ((0 : Int32).toUInt32 &&& Int32.toUInt32 31)).toInt32) &&& 255)))), (q2, .inl (cI, 240, .inl Nw)), (q3, .inl (cI, 240, .inl Rr)), (q4, .inl (cI, 2880, .inl Sn)), (q5, .inl (cI, 4, .inl In)), (q6, .inl (cI, 500, .inl Pd)), (q7, .inl (cI, 500, .inl Rt)), (q8, .inl (cI, 10000, .inl Rw))] := hD
  refine lv_aload_n hx hb dX9_lays_23 rfl (lv_at hl 1 rfl) ?_
  refine lv_dup hx hb dX9_lays_24 rfl ?_
  refine g_get (C := RX9) (T := TX9) (N := 20) (ci := 9) (index := 11) hx hb hts in_X9_lays_9 hown hK hP 0 2 rfl rfl (by decide) (List.mem_of_getElem? (i := 2) rfl) rfl dX9_lays_25 ?_
  refine lv_iconst (v := 1) hx hb dX9_lays_28 (by decide) ?_
  refine lv_iadd hx hb dX9_lays_29 ?_
  rw [show ((nI (n + 3)) + 1 : Int32) = nI (n + 4) from nI_1 _]
  refine g_put (C := RX9) (T := TX9) (N := 20) (ci := 9) (index := 11) (v := .int (nI (n + 4))) (ws' := [(mo, .inr (9, [.int th, .ref q1, .int (nI (n + 4)), .int sz, .int tt, .int fm, .int so, .int nu, .int fau, .int plc, .long wd, .ref q2, .ref q3, .ref q4, .int sm, .ref q5, .ref q6, .ref q7, .ref q8, .int rm])), (q1, .inl (cI, 840, .inl (upd (upd (upd (upd Tp n (((w.toUInt32 >>> ((24 : Int32).toUInt32 &&& Int32.toUInt32 31)).toInt32) &&& 255)) (n + 1) (((w.toUInt32 >>> ((16 : Int32).toUInt32 &&& Int32.toUInt32 31)).toInt32) &&& 255)) (n + 2) (((w.toUInt32 >>> ((8 : Int32).toUInt32 &&& Int32.toUInt32 31)).toInt32) &&& 255)) (n + 3) (((w.toUInt32 >>> ((0 : Int32).toUInt32 &&& Int32.toUInt32 31)).toInt32) &&& 255)))), (q2, .inl (cI, 240, .inl Nw)), (q3, .inl (cI, 240, .inl Rr)), (q4, .inl (cI, 2880, .inl Sn)), (q5, .inl (cI, 4, .inl In)), (q6, .inl (cI, 500, .inl Pd)), (q7, .inl (cI, 500, .inl Rt)), (q8, .inl (cI, 10000, .inl Rw))]) hx hb hts in_X9_lays_9 tyX9 tyX9_ok nmX9 hown hK hP hD hS 0 2 rfl rfl (by decide) (List.mem_of_getElem? (i := 2) rfl) rfl rfl rfl (Nat.le_of_ble_eq_true rfl) dX9_lays_30 rfl (fun H_ lc_ hP hD hS => ?_)
  refine lv_iinc (v := (-8)) (lv' := [(2, .int (-8)), (0, .ref mo), (1, .int w)]) hx hb dX9_lays_33 hl (k := 0) rfl (by decide) (by decide) rfl (fun ls hl => ?_)
  refine lv_goto (tgt := 3) hx hb dX9_lays_36 (by decide) ?_
  refine lv_iload_n hx hb dX9_lays_3 rfl (lv_at hl 0 rfl) ?_
  refine lv_if_lt (tgt := 39) hx hb dX9_lays_4 (by decide) (fun c4'''' => ?_) (fun c4'''' => absurd (by decide) c4'''')
  exact hret _ _ _ ls hS (hP) dX9_lays_39

theorem in_X9_feed_9 : ∀ w ∈ wsX90, w ∈ wsX9_feed := fun _ h => List.mem_cons_of_mem _ (List.mem_append_right _ (h))
set_option maxHeartbeats 4000000 in
set_option maxRecDepth 100000 in
theorem kX9_feed (l : Launch) (D : va_G) (cI cB : ClassId) (mo q1 q2 q3 q4 q5 q6 q7 q8 : Nat) (th sz tt fm so nu fau plc : Int32) (wd : Int64) (sm rm : Int32) (Tp Nw Rr Sn In Pd Rt Rw : Nat → Int32) (n : Nat) (a b c d e : Int32) (hn : n ≤ 840) : Wr l D (TY cI cB) yX9_feed wsX9_feed 1 22 [.ref mo, .int a, .int b, .int c, .int d, .int e] [(mo, .inr (9, [.int th, .ref q1, .int (nI n), .int sz, .int tt, .int fm, .int so, .int nu, .int fau, .int plc, .long wd, .ref q2, .ref q3, .ref q4, .int sm, .ref q5, .ref q6, .ref q7, .ref q8, .int rm])), (q1, .inl (cI, 840, .inl Tp)), (q2, .inl (cI, 240, .inl Nw)), (q3, .inl (cI, 240, .inl Rr)), (q4, .inl (cI, 2880, .inl Sn)), (q5, .inl (cI, 4, .inl In)), (q6, .inl (cI, 500, .inl Pd)), (q7, .inl (cI, 500, .inl Rt)), (q8, .inl (cI, 10000, .inl Rw))] [(mo, .inr (9, [.int 0, .ref q1, .int (nI (if n + 20 ≤ 840 then n + 20 else n)), .int sz, .int tt, .int fm, .int so, .int nu, .int fau, .int plc, .long wd, .ref q2, .ref q3, .ref q4, .int sm, .ref q5, .ref q6, .ref q7, .ref q8, .int rm])), (q1, .inl (cI, 840, .inl (if n + 20 ≤ 840 then fdM Tp n a b c d e else Tp))), (q2, .inl (cI, 240, .inl Nw)), (q3, .inl (cI, 240, .inl Rr)), (q4, .inl (cI, 2880, .inl Sn)), (q5, .inl (cI, 4, .inl In)), (q6, .inl (cI, 500, .inl Pd)), (q7, .inl (cI, 500, .inl Rt)), (q8, .inl (cI, 10000, .inl Rw))] (some (.int (if n + 20 ≤ 840 then nI (n + 20) else -1))) := by
  refine wr_i (cc := cX9_feed) (maxL := 6) (by decide) rfl (Nat.le_of_ble_eq_true rfl) ?_
  intro p_ e_ s_ m_ ar_ be_ me_ co_ ls Q_ A_ hx hb hml hown hts hP hK hD hS hl hret
  have hown : s_.vm.findClass RX9 = some m_.cls := hown
  have hl : lv_has ls 6 [(0, .ref mo), (1, .int a), (2, .int b), (3, .int c), (4, .int d), (5, .int e)] := hl
  refine lv_aload_n hx hb dX9_feed_0 rfl (lv_at hl 0 rfl) ?_
  refine lv_iconst (v := 0) hx hb dX9_feed_1 (by decide) ?_
  refine g_put (C := RX9) (T := TX9) (N := 20) (ci := 9) (index := 1) (v := .int 0) (ws' := [(mo, .inr (9, [.int 0, .ref q1, .int (nI n), .int sz, .int tt, .int fm, .int so, .int nu, .int fau, .int plc, .long wd, .ref q2, .ref q3, .ref q4, .int sm, .ref q5, .ref q6, .ref q7, .ref q8, .int rm])), (q1, .inl (cI, 840, .inl Tp)), (q2, .inl (cI, 240, .inl Nw)), (q3, .inl (cI, 240, .inl Rr)), (q4, .inl (cI, 2880, .inl Sn)), (q5, .inl (cI, 4, .inl In)), (q6, .inl (cI, 500, .inl Pd)), (q7, .inl (cI, 500, .inl Rt)), (q8, .inl (cI, 10000, .inl Rw))]) hx hb hts in_X9_feed_9 tyX9 tyX9_ok nmX9 hown hK hP hD hS 0 0 rfl rfl (by decide) (List.mem_of_getElem? (i := 1) rfl) rfl rfl rfl (Nat.le_of_ble_eq_true rfl) dX9_feed_2 rfl (fun H_ lc_ hP hD hS => ?_)
  refine lv_aload_n hx hb dX9_feed_5 rfl (lv_at hl 0 rfl) ?_
  refine g_get (C := RX9) (T := TX9) (N := 20) (ci := 9) (index := 11) hx hb hts in_X9_feed_9 hown hK hP 0 2 rfl rfl (by decide) (List.mem_of_getElem? (i := 2) rfl) rfl dX9_feed_6 ?_
  refine lv_bipush (v := 20) hx hb dX9_feed_9 (by decide) ?_
  refine lv_iadd hx hb dX9_feed_11 ?_
  rw [show ((nI n) + 20 : Int32) = nI (n + 20) from nI_add n 20]
  refine lv_sipush (v := 840) hx hb dX9_feed_12 (by decide) ?_
  refine lv_icmp_le (tgt := 20) hx hb dX9_feed_15 (by decide) (fun c15 => ?_) (fun c15 => ?_)
  · have hyes : n + 20 ≤ 840 := (nI_leI (b := 840) (by omega) (by omega)).mp c15
    refine lv_aload_n hx hb dX9_feed_20 rfl (lv_at hl 0 rfl) ?_
    refine lv_iload_n hx hb dX9_feed_21 rfl (lv_at hl 1 rfl) ?_
    refine wp_V (As := [.int a]) (rest := []) (ci := 9) (ws' := [(mo, .inr (9, [.int 0, .ref q1, .int (nI (n + 4)), .int sz, .int tt, .int fm, .int so, .int nu, .int fau, .int plc, .long wd, .ref q2, .ref q3, .ref q4, .int sm, .ref q5, .ref q6, .ref q7, .ref q8, .int rm])), (q1, .inl (cI, 840, .inl (ay4 Tp n a))), (q2, .inl (cI, 240, .inl Nw)), (q3, .inl (cI, 240, .inl Rr)), (q4, .inl (cI, 2880, .inl Sn)), (q5, .inl (cI, 4, .inl In)), (q6, .inl (cI, 500, .inl Pd)), (q7, .inl (cI, 500, .inl Rt)), (q8, .inl (cI, 10000, .inl Rw))]) (kX9_lays l D cI cB mo q1 q2 q3 q4 q5 q6 q7 q8 0 sz tt fm so nu fau plc wd sm rm Tp Nw Rr Sn In Pd Rt Rw n a (by omega)) ⟨hx, hb, hml, hown, hts⟩ (cwV 1 hts gX9_feed_X9_lays rfl rfl rfl (by decide +kernel) ⟨Nat.le_of_ble_eq_true rfl, Nat.le_of_ble_eq_true rfl⟩) hK hP hD hS [0, 1, 2, 3, 4, 5, 6, 7, 8] [] rfl rfl (two_eq [] rfl rfl) 9 rfl (by decide +kernel) (by decide +kernel) (two_eq [mo, q1, q2, q3, q4, q5, q6, q7, q8] rfl rfl) (by decide +kernel) 0 rfl rfl rfl rfl hl.1 (Nat.le_of_ble_eq_true rfl) dX9_feed_22 ⟨Nat.le_refl _, Nat.le_refl _⟩ (fun H_ lc_ hP hD hS => ?_)
    show W p_ l e_ (RM 1 22) s_ m_ ar_ be_ me_ co_ H_ lc_ 0 0 Q_ (F0 m_ 25 ls [])
    refine lv_aload_n hx hb dX9_feed_25 rfl (lv_at hl 0 rfl) ?_
    refine lv_iload_n hx hb dX9_feed_26 rfl (lv_at hl 2 rfl) ?_
    refine wp_V (As := [.int b]) (rest := []) (ci := 9) (ws' := [(mo, .inr (9, [.int 0, .ref q1, .int (nI ((n + 4) + 4)), .int sz, .int tt, .int fm, .int so, .int nu, .int fau, .int plc, .long wd, .ref q2, .ref q3, .ref q4, .int sm, .ref q5, .ref q6, .ref q7, .ref q8, .int rm])), (q1, .inl (cI, 840, .inl (ay4 (ay4 Tp n a) (n + 4) b))), (q2, .inl (cI, 240, .inl Nw)), (q3, .inl (cI, 240, .inl Rr)), (q4, .inl (cI, 2880, .inl Sn)), (q5, .inl (cI, 4, .inl In)), (q6, .inl (cI, 500, .inl Pd)), (q7, .inl (cI, 500, .inl Rt)), (q8, .inl (cI, 10000, .inl Rw))]) (kX9_lays l D cI cB mo q1 q2 q3 q4 q5 q6 q7 q8 0 sz tt fm so nu fau plc wd sm rm (ay4 Tp n a) Nw Rr Sn In Pd Rt Rw (n + 4) b (by omega)) ⟨hx, hb, hml, hown, hts⟩ (cwV 1 hts gX9_feed_X9_lays rfl rfl rfl (by decide +kernel) ⟨Nat.le_of_ble_eq_true rfl, Nat.le_of_ble_eq_true rfl⟩) hK hP hD hS [0, 1, 2, 3, 4, 5, 6, 7, 8] [] rfl rfl (two_eq [] rfl rfl) 9 rfl (by decide +kernel) (by decide +kernel) (two_eq [mo, q1, q2, q3, q4, q5, q6, q7, q8] rfl rfl) (by decide +kernel) 0 rfl rfl rfl rfl hl.1 (Nat.le_of_ble_eq_true rfl) dX9_feed_27 ⟨Nat.le_refl _, Nat.le_refl _⟩ (fun H_ lc_ hP hD hS => ?_)
    show W p_ l e_ (RM 1 22) s_ m_ ar_ be_ me_ co_ H_ lc_ 0 0 Q_ (F0 m_ 30 ls [])
    refine lv_aload_n hx hb dX9_feed_30 rfl (lv_at hl 0 rfl) ?_
    refine lv_iload_n hx hb dX9_feed_31 rfl (lv_at hl 3 rfl) ?_
    refine wp_V (As := [.int c]) (rest := []) (ci := 9) (ws' := [(mo, .inr (9, [.int 0, .ref q1, .int (nI (((n + 4) + 4) + 4)), .int sz, .int tt, .int fm, .int so, .int nu, .int fau, .int plc, .long wd, .ref q2, .ref q3, .ref q4, .int sm, .ref q5, .ref q6, .ref q7, .ref q8, .int rm])), (q1, .inl (cI, 840, .inl (ay4 (ay4 (ay4 Tp n a) (n + 4) b) ((n + 4) + 4) c))), (q2, .inl (cI, 240, .inl Nw)), (q3, .inl (cI, 240, .inl Rr)), (q4, .inl (cI, 2880, .inl Sn)), (q5, .inl (cI, 4, .inl In)), (q6, .inl (cI, 500, .inl Pd)), (q7, .inl (cI, 500, .inl Rt)), (q8, .inl (cI, 10000, .inl Rw))]) (kX9_lays l D cI cB mo q1 q2 q3 q4 q5 q6 q7 q8 0 sz tt fm so nu fau plc wd sm rm (ay4 (ay4 Tp n a) (n + 4) b) Nw Rr Sn In Pd Rt Rw ((n + 4) + 4) c (by omega)) ⟨hx, hb, hml, hown, hts⟩ (cwV 1 hts gX9_feed_X9_lays rfl rfl rfl (by decide +kernel) ⟨Nat.le_of_ble_eq_true rfl, Nat.le_of_ble_eq_true rfl⟩) hK hP hD hS [0, 1, 2, 3, 4, 5, 6, 7, 8] [] rfl rfl (two_eq [] rfl rfl) 9 rfl (by decide +kernel) (by decide +kernel) (two_eq [mo, q1, q2, q3, q4, q5, q6, q7, q8] rfl rfl) (by decide +kernel) 0 rfl rfl rfl rfl hl.1 (Nat.le_of_ble_eq_true rfl) dX9_feed_32 ⟨Nat.le_refl _, Nat.le_refl _⟩ (fun H_ lc_ hP hD hS => ?_)
    show W p_ l e_ (RM 1 22) s_ m_ ar_ be_ me_ co_ H_ lc_ 0 0 Q_ (F0 m_ 35 ls [])
    refine lv_aload_n hx hb dX9_feed_35 rfl (lv_at hl 0 rfl) ?_
    refine lv_iload hx hb dX9_feed_36 (lv_at hl 4 rfl) ?_
    refine wp_V (As := [.int d]) (rest := []) (ci := 9) (ws' := [(mo, .inr (9, [.int 0, .ref q1, .int (nI ((((n + 4) + 4) + 4) + 4)), .int sz, .int tt, .int fm, .int so, .int nu, .int fau, .int plc, .long wd, .ref q2, .ref q3, .ref q4, .int sm, .ref q5, .ref q6, .ref q7, .ref q8, .int rm])), (q1, .inl (cI, 840, .inl (ay4 (ay4 (ay4 (ay4 Tp n a) (n + 4) b) ((n + 4) + 4) c) (((n + 4) + 4) + 4) d))), (q2, .inl (cI, 240, .inl Nw)), (q3, .inl (cI, 240, .inl Rr)), (q4, .inl (cI, 2880, .inl Sn)), (q5, .inl (cI, 4, .inl In)), (q6, .inl (cI, 500, .inl Pd)), (q7, .inl (cI, 500, .inl Rt)), (q8, .inl (cI, 10000, .inl Rw))]) (kX9_lays l D cI cB mo q1 q2 q3 q4 q5 q6 q7 q8 0 sz tt fm so nu fau plc wd sm rm (ay4 (ay4 (ay4 Tp n a) (n + 4) b) ((n + 4) + 4) c) Nw Rr Sn In Pd Rt Rw (((n + 4) + 4) + 4) d (by omega)) ⟨hx, hb, hml, hown, hts⟩ (cwV 1 hts gX9_feed_X9_lays rfl rfl rfl (by decide +kernel) ⟨Nat.le_of_ble_eq_true rfl, Nat.le_of_ble_eq_true rfl⟩) hK hP hD hS [0, 1, 2, 3, 4, 5, 6, 7, 8] [] rfl rfl (two_eq [] rfl rfl) 9 rfl (by decide +kernel) (by decide +kernel) (two_eq [mo, q1, q2, q3, q4, q5, q6, q7, q8] rfl rfl) (by decide +kernel) 0 rfl rfl rfl rfl hl.1 (Nat.le_of_ble_eq_true rfl) dX9_feed_38 ⟨Nat.le_refl _, Nat.le_refl _⟩ (fun H_ lc_ hP hD hS => ?_)
    show W p_ l e_ (RM 1 22) s_ m_ ar_ be_ me_ co_ H_ lc_ 0 0 Q_ (F0 m_ 41 ls [])
    refine lv_aload_n hx hb dX9_feed_41 rfl (lv_at hl 0 rfl) ?_
    refine lv_iload hx hb dX9_feed_42 (lv_at hl 5 rfl) ?_
    refine wp_V (As := [.int e]) (rest := []) (ci := 9) (ws' := [(mo, .inr (9, [.int 0, .ref q1, .int (nI (((((n + 4) + 4) + 4) + 4) + 4)), .int sz, .int tt, .int fm, .int so, .int nu, .int fau, .int plc, .long wd, .ref q2, .ref q3, .ref q4, .int sm, .ref q5, .ref q6, .ref q7, .ref q8, .int rm])), (q1, .inl (cI, 840, .inl (ay4 (ay4 (ay4 (ay4 (ay4 Tp n a) (n + 4) b) ((n + 4) + 4) c) (((n + 4) + 4) + 4) d) ((((n + 4) + 4) + 4) + 4) e))), (q2, .inl (cI, 240, .inl Nw)), (q3, .inl (cI, 240, .inl Rr)), (q4, .inl (cI, 2880, .inl Sn)), (q5, .inl (cI, 4, .inl In)), (q6, .inl (cI, 500, .inl Pd)), (q7, .inl (cI, 500, .inl Rt)), (q8, .inl (cI, 10000, .inl Rw))]) (kX9_lays l D cI cB mo q1 q2 q3 q4 q5 q6 q7 q8 0 sz tt fm so nu fau plc wd sm rm (ay4 (ay4 (ay4 (ay4 Tp n a) (n + 4) b) ((n + 4) + 4) c) (((n + 4) + 4) + 4) d) Nw Rr Sn In Pd Rt Rw ((((n + 4) + 4) + 4) + 4) e (by omega)) ⟨hx, hb, hml, hown, hts⟩ (cwV 1 hts gX9_feed_X9_lays rfl rfl rfl (by decide +kernel) ⟨Nat.le_of_ble_eq_true rfl, Nat.le_of_ble_eq_true rfl⟩) hK hP hD hS [0, 1, 2, 3, 4, 5, 6, 7, 8] [] rfl rfl (two_eq [] rfl rfl) 9 rfl (by decide +kernel) (by decide +kernel) (two_eq [mo, q1, q2, q3, q4, q5, q6, q7, q8] rfl rfl) (by decide +kernel) 0 rfl rfl rfl rfl hl.1 (Nat.le_of_ble_eq_true rfl) dX9_feed_44 ⟨Nat.le_refl _, Nat.le_refl _⟩ (fun H_ lc_ hP hD hS => ?_)
    show W p_ l e_ (RM 1 22) s_ m_ ar_ be_ me_ co_ H_ lc_ 0 0 Q_ (F0 m_ 47 ls [])
    refine lv_aload_n hx hb dX9_feed_47 rfl (lv_at hl 0 rfl) ?_
    refine g_get (C := RX9) (T := TX9) (N := 20) (ci := 9) (index := 11) hx hb hts in_X9_feed_9 hown hK hP 0 2 rfl rfl (by decide) (List.mem_of_getElem? (i := 2) rfl) rfl dX9_feed_48 ?_
    exact hret _ _ _ _ ls hS (by rw [if_pos hyes, if_pos hyes]; exact hP) (by rw [if_pos hyes]) dX9_feed_51
  · have hno : ¬ n + 20 ≤ 840 := fun q => c15 ((nI_leI (b := 840) (by omega) (by omega)).mpr q)
    refine lv_iconst (v := -1) hx hb dX9_feed_18 (by decide) ?_
    exact hret _ _ _ _ ls hS (by simpa only [if_neg hno] using hP) (by rw [if_neg hno]) dX9_feed_19

theorem in_X9_end_9 : ∀ w ∈ wsX90, w ∈ wsX9_end := fun _ h => List.mem_cons_of_mem _ (List.mem_append_right _ (h))
set_option maxHeartbeats 4000000 in
set_option maxRecDepth 100000 in
theorem kX9_end (l : Launch) (D : va_G) (cI cB : ClassId) (mo q1 q2 q3 q4 q5 q6 q7 q8 : Nat) (th tn sz tt fm so nu fau plc : Int32) (wd : Int64) (sm rm : Int32) (Tp Nw Rr Sn In Pd Rt Rw : Nat → Int32) (x : Int32)  : Wr l D (TY cI cB) yX9_end wsX9_end 0 0 [.ref mo, .int x] [(mo, .inr (9, [.int th, .ref q1, .int tn, .int sz, .int tt, .int fm, .int so, .int nu, .int fau, .int plc, .long wd, .ref q2, .ref q3, .ref q4, .int sm, .ref q5, .ref q6, .ref q7, .ref q8, .int rm])), (q1, .inl (cI, 840, .inl Tp)), (q2, .inl (cI, 240, .inl Nw)), (q3, .inl (cI, 240, .inl Rr)), (q4, .inl (cI, 2880, .inl Sn)), (q5, .inl (cI, 4, .inl In)), (q6, .inl (cI, 500, .inl Pd)), (q7, .inl (cI, 500, .inl Rt)), (q8, .inl (cI, 10000, .inl Rw))] [(mo, .inr (9, [.int 0, .ref q1, .int (if x < 0 then tn else if x ≤ tn then x else tn), .int sz, .int tt, .int fm, .int so, .int nu, .int fau, .int plc, .long wd, .ref q2, .ref q3, .ref q4, .int sm, .ref q5, .ref q6, .ref q7, .ref q8, .int rm])), (q1, .inl (cI, 840, .inl Tp)), (q2, .inl (cI, 240, .inl Nw)), (q3, .inl (cI, 240, .inl Rr)), (q4, .inl (cI, 2880, .inl Sn)), (q5, .inl (cI, 4, .inl In)), (q6, .inl (cI, 500, .inl Pd)), (q7, .inl (cI, 500, .inl Rt)), (q8, .inl (cI, 10000, .inl Rw))] (some (.int (if x < 0 then 0 else if x ≤ tn then 1 else 0))) := by
  refine wr_z (cc := cX9_end) (maxL := 2) (by decide) rfl (Nat.le_of_ble_eq_true rfl) ?_
  intro p_ e_ s_ m_ ar_ be_ me_ co_ ls Q_ A_ hx hb hml hown hts hP hK hD hS hl hret
  have hown : s_.vm.findClass RX9 = some m_.cls := hown
  have hl : lv_has ls 2 [(0, .ref mo), (1, .int x)] := hl
  refine lv_aload_n hx hb dX9_end_0 rfl (lv_at hl 0 rfl) ?_
  refine lv_iconst (v := 0) hx hb dX9_end_1 (by decide) ?_
  refine g_put (C := RX9) (T := TX9) (N := 20) (ci := 9) (index := 1) (v := .int 0) (ws' := [(mo, .inr (9, [.int 0, .ref q1, .int tn, .int sz, .int tt, .int fm, .int so, .int nu, .int fau, .int plc, .long wd, .ref q2, .ref q3, .ref q4, .int sm, .ref q5, .ref q6, .ref q7, .ref q8, .int rm])), (q1, .inl (cI, 840, .inl Tp)), (q2, .inl (cI, 240, .inl Nw)), (q3, .inl (cI, 240, .inl Rr)), (q4, .inl (cI, 2880, .inl Sn)), (q5, .inl (cI, 4, .inl In)), (q6, .inl (cI, 500, .inl Pd)), (q7, .inl (cI, 500, .inl Rt)), (q8, .inl (cI, 10000, .inl Rw))]) hx hb hts in_X9_end_9 tyX9 tyX9_ok nmX9 hown hK hP hD hS 0 0 rfl rfl (by decide) (List.mem_of_getElem? (i := 1) rfl) rfl rfl rfl (Nat.le_of_ble_eq_true rfl) dX9_end_2 rfl (fun H_ lc_ hP hD hS => ?_)
  refine lv_iload_n hx hb dX9_end_5 rfl (lv_at hl 1 rfl) ?_
  refine lv_if_lt (tgt := 17) hx hb dX9_end_6 (by decide) (fun c6 => ?_) (fun c6 => ?_)
  · refine lv_iconst (v := 0) hx hb dX9_end_17 (by decide) ?_
    exact hret _ _ _ _ ls hS (by simpa only [c6, if_true, if_false] using hP) (by simp [c6]) (by decide) dX9_end_18
  · refine lv_iload_n hx hb dX9_end_9 rfl (lv_at hl 1 rfl) ?_
    refine lv_aload_n hx hb dX9_end_10 rfl (lv_at hl 0 rfl) ?_
    refine g_get (C := RX9) (T := TX9) (N := 20) (ci := 9) (index := 11) hx hb hts in_X9_end_9 hown hK hP 0 2 rfl rfl (by decide) (List.mem_of_getElem? (i := 2) rfl) rfl dX9_end_11 ?_
    refine lv_icmp_le (tgt := 19) hx hb dX9_end_14 (by decide) (fun c14 => ?_) (fun c14 => ?_)
    · refine lv_aload_n hx hb dX9_end_19 rfl (lv_at hl 0 rfl) ?_
      refine lv_iload_n hx hb dX9_end_20 rfl (lv_at hl 1 rfl) ?_
      refine g_put (C := RX9) (T := TX9) (N := 20) (ci := 9) (index := 11) (v := .int x) (ws' := [(mo, .inr (9, [.int 0, .ref q1, .int x, .int sz, .int tt, .int fm, .int so, .int nu, .int fau, .int plc, .long wd, .ref q2, .ref q3, .ref q4, .int sm, .ref q5, .ref q6, .ref q7, .ref q8, .int rm])), (q1, .inl (cI, 840, .inl Tp)), (q2, .inl (cI, 240, .inl Nw)), (q3, .inl (cI, 240, .inl Rr)), (q4, .inl (cI, 2880, .inl Sn)), (q5, .inl (cI, 4, .inl In)), (q6, .inl (cI, 500, .inl Pd)), (q7, .inl (cI, 500, .inl Rt)), (q8, .inl (cI, 10000, .inl Rw))]) hx hb hts in_X9_end_9 tyX9 tyX9_ok nmX9 hown hK hP hD hS 0 2 rfl rfl (by decide) (List.mem_of_getElem? (i := 2) rfl) rfl rfl rfl (Nat.le_of_ble_eq_true rfl) dX9_end_21 rfl (fun H_ lc_ hP hD hS => ?_)
      refine lv_iconst (v := 1) hx hb dX9_end_24 (by decide) ?_
      exact hret _ _ _ _ ls hS (by simpa only [c6, c14, if_true, if_false] using hP) (by simp [c6, c14]) (by decide) dX9_end_25
    · refine lv_iconst (v := 0) hx hb dX9_end_17 (by decide) ?_
      exact hret _ _ _ _ ls hS (by simpa only [c6, c14, if_true, if_false] using hP) (by simp [c6, c14]) (by decide) dX9_end_18

theorem in_X9_fault_9 : ∀ w ∈ wsX90, w ∈ wsX9_fault := fun _ h => List.mem_cons_of_mem _ (List.mem_append_right _ (h))
set_option maxHeartbeats 4000000 in
set_option maxRecDepth 100000 in
theorem kX9_fault (l : Launch) (D : va_G) (cI cB : ClassId) (mo q1 q2 q3 q4 q5 q6 q7 q8 : Nat) (th tn sz tt fm so nu fau plc : Int32) (wd : Int64) (sm rm : Int32) (Tp Nw Rr Sn In Pd Rt Rw : Nat → Int32)  : Wr l D (TY cI cB) yX9_fault wsX9_fault 0 0 [.ref mo] [(mo, .inr (9, [.int th, .ref q1, .int tn, .int sz, .int tt, .int fm, .int so, .int nu, .int fau, .int plc, .long wd, .ref q2, .ref q3, .ref q4, .int sm, .ref q5, .ref q6, .ref q7, .ref q8, .int rm])), (q1, .inl (cI, 840, .inl Tp)), (q2, .inl (cI, 240, .inl Nw)), (q3, .inl (cI, 240, .inl Rr)), (q4, .inl (cI, 2880, .inl Sn)), (q5, .inl (cI, 4, .inl In)), (q6, .inl (cI, 500, .inl Pd)), (q7, .inl (cI, 500, .inl Rt)), (q8, .inl (cI, 10000, .inl Rw))] [(mo, .inr (9, [.int 0, .ref q1, .int tn, .int sz, .int tt, .int fm, .int so, .int nu, .int fau, .int plc, .long wd, .ref q2, .ref q3, .ref q4, .int sm, .ref q5, .ref q6, .ref q7, .ref q8, .int rm])), (q1, .inl (cI, 840, .inl Tp)), (q2, .inl (cI, 240, .inl Nw)), (q3, .inl (cI, 240, .inl Rr)), (q4, .inl (cI, 2880, .inl Sn)), (q5, .inl (cI, 4, .inl In)), (q6, .inl (cI, 500, .inl Pd)), (q7, .inl (cI, 500, .inl Rt)), (q8, .inl (cI, 10000, .inl Rw))] (some (.int fau)) := by
  refine wr_i (cc := cX9_fault) (maxL := 1) (by decide) rfl (Nat.le_of_ble_eq_true rfl) ?_
  intro p_ e_ s_ m_ ar_ be_ me_ co_ ls Q_ A_ hx hb hml hown hts hP hK hD hS hl hret
  have hown : s_.vm.findClass RX9 = some m_.cls := hown
  have hl : lv_has ls 1 [(0, .ref mo)] := hl
  refine lv_aload_n hx hb dX9_fault_0 rfl (lv_at hl 0 rfl) ?_
  refine lv_iconst (v := 0) hx hb dX9_fault_1 (by decide) ?_
  refine g_put (C := RX9) (T := TX9) (N := 20) (ci := 9) (index := 1) (v := .int 0) (ws' := [(mo, .inr (9, [.int 0, .ref q1, .int tn, .int sz, .int tt, .int fm, .int so, .int nu, .int fau, .int plc, .long wd, .ref q2, .ref q3, .ref q4, .int sm, .ref q5, .ref q6, .ref q7, .ref q8, .int rm])), (q1, .inl (cI, 840, .inl Tp)), (q2, .inl (cI, 240, .inl Nw)), (q3, .inl (cI, 240, .inl Rr)), (q4, .inl (cI, 2880, .inl Sn)), (q5, .inl (cI, 4, .inl In)), (q6, .inl (cI, 500, .inl Pd)), (q7, .inl (cI, 500, .inl Rt)), (q8, .inl (cI, 10000, .inl Rw))]) hx hb hts in_X9_fault_9 tyX9 tyX9_ok nmX9 hown hK hP hD hS 0 0 rfl rfl (by decide) (List.mem_of_getElem? (i := 1) rfl) rfl rfl rfl (Nat.le_of_ble_eq_true rfl) dX9_fault_2 rfl (fun H_ lc_ hP hD hS => ?_)
  refine lv_aload_n hx hb dX9_fault_5 rfl (lv_at hl 0 rfl) ?_
  refine g_get (C := RX9) (T := TX9) (N := 20) (ci := 9) (index := 52) hx hb hts in_X9_fault_9 hown hK hP 0 8 rfl rfl (by decide) (List.mem_of_getElem? (i := 2) rfl) rfl dX9_fault_6 ?_
  exact hret _ _ _ _ ls hS (hP) (rfl) dX9_fault_9

theorem in_X9_tax_9 : ∀ w ∈ wsX90, w ∈ wsX9_tax := fun _ h => List.mem_cons_of_mem _ (List.mem_append_right _ (h))
set_option maxHeartbeats 4000000 in
set_option maxRecDepth 100000 in
theorem kX9_tax (l : Launch) (D : va_G) (cI cB : ClassId) (mo q1 q2 q3 q4 q5 q6 q7 q8 : Nat) (th tn sz tt fm so nu fau plc : Int32) (wd : Int64) (sm rm : Int32) (Tp Nw Rr Sn In Pd Rt Rw : Nat → Int32) (ns nr ni np nb : Nat) (x : Int32) (hcn : cnt Nw ns nr ni np nb) : Wr l D (TY cI cB) yX9_tax wsX9_tax 1 33 [.ref mo, .int x] [(mo, .inr (9, [.int th, .ref q1, .int tn, .int sz, .int tt, .int fm, .int so, .int nu, .int fau, .int plc, .long wd, .ref q2, .ref q3, .ref q4, .int sm, .ref q5, .ref q6, .ref q7, .ref q8, .int rm])), (q1, .inl (cI, 840, .inl Tp)), (q2, .inl (cI, 240, .inl Nw)), (q3, .inl (cI, 240, .inl Rr)), (q4, .inl (cI, 2880, .inl Sn)), (q5, .inl (cI, 4, .inl In)), (q6, .inl (cI, 500, .inl Pd)), (q7, .inl (cI, 500, .inl Rt)), (q8, .inl (cI, 10000, .inl Rw))] [(mo, .inr (9, [.int 0, .ref q1, .int tn, .int sz, .int tt, .int fm, .int so, .int nu, .int fau, .int plc, .long wd, .ref q2, .ref q3, .ref q4, .int sm, .ref q5, .ref q6, .ref q7, .ref q8, .int rm])), (q1, .inl (cI, 840, .inl Tp)), (q2, .inl (cI, 240, .inl Nw)), (q3, .inl (cI, 240, .inl Rr)), (q4, .inl (cI, 2880, .inl Sn)), (q5, .inl (cI, 4, .inl In)), (q6, .inl (cI, 500, .inl Pd)), (q7, .inl (cI, 500, .inl Rt)), (q8, .inl (cI, 10000, .inl Rw))] (some (.int (if isInM x 0 9999999 = 0 then -1 else taxM Nw ns x.toInt64))) := by
  refine wr_i (cc := cX9_tax) (maxL := 2) (by decide) rfl (Nat.le_of_ble_eq_true rfl) ?_
  intro p_ e_ s_ m_ ar_ be_ me_ co_ ls Q_ A_ hx hb hml hown hts hP hK hD hS hl hret
  have hown : s_.vm.findClass RX9 = some m_.cls := hown
  have hl : lv_has ls 2 [(0, .ref mo), (1, .int x)] := hl
  refine lv_aload_n hx hb dX9_tax_0 rfl (lv_at hl 0 rfl) ?_
  refine lv_iconst (v := 0) hx hb dX9_tax_1 (by decide) ?_
  refine g_put (C := RX9) (T := TX9) (N := 20) (ci := 9) (index := 1) (v := .int 0) (ws' := [(mo, .inr (9, [.int 0, .ref q1, .int tn, .int sz, .int tt, .int fm, .int so, .int nu, .int fau, .int plc, .long wd, .ref q2, .ref q3, .ref q4, .int sm, .ref q5, .ref q6, .ref q7, .ref q8, .int rm])), (q1, .inl (cI, 840, .inl Tp)), (q2, .inl (cI, 240, .inl Nw)), (q3, .inl (cI, 240, .inl Rr)), (q4, .inl (cI, 2880, .inl Sn)), (q5, .inl (cI, 4, .inl In)), (q6, .inl (cI, 500, .inl Pd)), (q7, .inl (cI, 500, .inl Rt)), (q8, .inl (cI, 10000, .inl Rw))]) hx hb hts in_X9_tax_9 tyX9 tyX9_ok nmX9 hown hK hP hD hS 0 0 rfl rfl (by decide) (List.mem_of_getElem? (i := 1) rfl) rfl rfl rfl (Nat.le_of_ble_eq_true rfl) dX9_tax_2 rfl (fun H_ lc_ hP hD hS => ?_)
  refine lv_iload_n hx hb dX9_tax_5 rfl (lv_at hl 1 rfl) ?_
  refine lv_iconst (v := 0) hx hb dX9_tax_6 (by decide) ?_
  refine lv_ldc (v := 9999999) hx hb hown (hts (.constant RX9 195 (9999999)) (List.mem_of_getElem? (i := 2) rfl)) dX9_tax_7 ?_
  refine rd_S (As := [.int x, .int 0, .int 9999999]) (rest := []) (kX9_isIn l D cI cB x 0 9999999 ) ⟨hx, hb, hml, hown, hts⟩ (va_cwS 3 hts gX9_tax_X9_isIn rfl rfl rfl (by decide +kernel) ⟨Nat.le_of_ble_eq_true rfl, Nat.le_of_ble_eq_true rfl⟩) hK hP [] rfl rfl rfl hl.1 (Nat.le_of_ble_eq_true rfl) dX9_tax_9 ⟨Nat.le_refl _, Nat.le_refl _⟩ ?_
  refine lv_if_eq (tgt := 24) hx hb dX9_tax_12 (by decide) (fun c12 => ?_) (fun c12 => ?_)
  · refine lv_iconst (v := -1) hx hb dX9_tax_24 (by decide) ?_
    exact hret _ _ _ _ ls hS (hP) (by simp [c12]) dX9_tax_25
  · refine lv_aload_n hx hb dX9_tax_15 rfl (lv_at hl 0 rfl) ?_
    refine lv_iload_n hx hb dX9_tax_16 rfl (lv_at hl 1 rfl) ?_
    refine lv_i2l (v := x.toInt64) hx hb dX9_tax_17 rfl ?_
    refine rd_V (As := [.long x.toInt64]) (rest := []) (ci := 9) (kX9_taxOf l D cI cB mo q1 q2 q3 q4 q5 q6 q7 q8 0 tn sz tt fm so nu fau plc wd sm rm Tp Nw Rr Sn In Pd Rt Rw ns nr ni np nb x.toInt64 (hcn)) ⟨hx, hb, hml, hown, hts⟩ (cwV 1 hts gX9_tax_X9_taxOf rfl rfl rfl (by decide +kernel) ⟨Nat.le_of_ble_eq_true rfl, Nat.le_of_ble_eq_true rfl⟩) hK hP [0, 1, 2, 3, 4, 5, 6, 7, 8] rfl 0 rfl rfl rfl rfl hl.1 (Nat.le_of_ble_eq_true rfl) dX9_tax_18 ⟨Nat.le_refl _, Nat.le_refl _⟩ ?_
    refine lv_goto (tgt := 25) hx hb dX9_tax_21 (by decide) ?_
    exact hret _ _ _ _ ls hS (hP) (by simp [c12]) dX9_tax_25

theorem in_X9_income_9 : ∀ w ∈ wsX90, w ∈ wsX9_income := fun _ h => List.mem_cons_of_mem _ (List.mem_append_right _ (h))
set_option maxHeartbeats 4000000 in
set_option maxRecDepth 100000 in
theorem kX9_income (l : Launch) (D : va_G) (cI cB : ClassId) (mo q1 q2 q3 q4 q5 q6 q7 q8 : Nat) (th tn sz tt fm so nu fau plc : Int32) (wd : Int64) (sm rm : Int32) (Tp Nw Rr Sn In Pd Rt Rw : Nat → Int32) (ns nr ni np nb : Nat) (x : Int32) (hcn : cnt Nw ns nr ni np nb) : Wr l D (TY cI cB) yX9_income wsX9_income 2 42 [.ref mo, .int x] [(mo, .inr (9, [.int th, .ref q1, .int tn, .int sz, .int tt, .int fm, .int so, .int nu, .int fau, .int plc, .long wd, .ref q2, .ref q3, .ref q4, .int sm, .ref q5, .ref q6, .ref q7, .ref q8, .int rm])), (q1, .inl (cI, 840, .inl Tp)), (q2, .inl (cI, 240, .inl Nw)), (q3, .inl (cI, 240, .inl Rr)), (q4, .inl (cI, 2880, .inl Sn)), (q5, .inl (cI, 4, .inl In)), (q6, .inl (cI, 500, .inl Pd)), (q7, .inl (cI, 500, .inl Rt)), (q8, .inl (cI, 10000, .inl Rw))] [(mo, .inr (9, [.int 0, .ref q1, .int tn, .int sz, .int tt, .int fm, .int so, .int nu, .int fau, .int plc, .long wd, .ref q2, .ref q3, .ref q4, .int sm, .ref q5, .ref q6, .ref q7, .ref q8, .int rm])), (q1, .inl (cI, 840, .inl Tp)), (q2, .inl (cI, 240, .inl Nw)), (q3, .inl (cI, 240, .inl Rr)), (q4, .inl (cI, 2880, .inl Sn)), (q5, .inl (cI, 4, .inl In)), (q6, .inl (cI, 500, .inl Pd)), (q7, .inl (cI, 500, .inl Rt)), (q8, .inl (cI, 10000, .inl Rw))] (some (.int (if isInM x 0 499 = 0 then -1 else upM Nw 36 x ni))) := by
  refine wr_i (cc := cX9_income) (maxL := 2) (by decide) rfl (Nat.le_of_ble_eq_true rfl) ?_
  intro p_ e_ s_ m_ ar_ be_ me_ co_ ls Q_ A_ hx hb hml hown hts hP hK hD hS hl hret
  have hown : s_.vm.findClass RX9 = some m_.cls := hown
  have hl : lv_has ls 2 [(0, .ref mo), (1, .int x)] := hl
  refine lv_aload_n hx hb dX9_income_0 rfl (lv_at hl 0 rfl) ?_
  refine lv_iconst (v := 0) hx hb dX9_income_1 (by decide) ?_
  refine g_put (C := RX9) (T := TX9) (N := 20) (ci := 9) (index := 1) (v := .int 0) (ws' := [(mo, .inr (9, [.int 0, .ref q1, .int tn, .int sz, .int tt, .int fm, .int so, .int nu, .int fau, .int plc, .long wd, .ref q2, .ref q3, .ref q4, .int sm, .ref q5, .ref q6, .ref q7, .ref q8, .int rm])), (q1, .inl (cI, 840, .inl Tp)), (q2, .inl (cI, 240, .inl Nw)), (q3, .inl (cI, 240, .inl Rr)), (q4, .inl (cI, 2880, .inl Sn)), (q5, .inl (cI, 4, .inl In)), (q6, .inl (cI, 500, .inl Pd)), (q7, .inl (cI, 500, .inl Rt)), (q8, .inl (cI, 10000, .inl Rw))]) hx hb hts in_X9_income_9 tyX9 tyX9_ok nmX9 hown hK hP hD hS 0 0 rfl rfl (by decide) (List.mem_of_getElem? (i := 1) rfl) rfl rfl rfl (Nat.le_of_ble_eq_true rfl) dX9_income_2 rfl (fun H_ lc_ hP hD hS => ?_)
  refine lv_iload_n hx hb dX9_income_5 rfl (lv_at hl 1 rfl) ?_
  refine rd_S (As := [.int x]) (rest := []) (kX9_isDay l D cI cB x ) ⟨hx, hb, hml, hown, hts⟩ (va_cwS 1 hts gX9_income_X9_isDay rfl rfl rfl (by decide +kernel) ⟨Nat.le_of_ble_eq_true rfl, Nat.le_of_ble_eq_true rfl⟩) hK hP [] rfl rfl rfl hl.1 (Nat.le_of_ble_eq_true rfl) dX9_income_6 ⟨Nat.le_refl _, Nat.le_refl _⟩ ?_
  refine lv_if_eq (tgt := 22) hx hb dX9_income_9 (by decide) (fun c9 => ?_) (fun c9 => ?_)
  · refine lv_iconst (v := -1) hx hb dX9_income_22 (by decide) ?_
    exact hret _ _ _ _ ls hS (hP) (by simp [c9]) dX9_income_23
  · refine lv_aload_n hx hb dX9_income_12 rfl (lv_at hl 0 rfl) ?_
    refine lv_bipush (v := 36) hx hb dX9_income_13 (by decide) ?_
    refine lv_iload_n hx hb dX9_income_15 rfl (lv_at hl 1 rfl) ?_
    refine rd_V (As := [.int 36, .int x]) (rest := []) (ci := 9) (kX9_upTo l D cI cB mo q1 q2 q3 q4 q5 q6 q7 q8 0 tn sz tt fm so nu fau plc wd sm rm Tp Nw Rr Sn In Pd Rt Rw 36 ni x (hcn.2.2.1.1) (by have := hcn.2.2.1.2; omega)) ⟨hx, hb, hml, hown, hts⟩ (cwV 2 hts gX9_income_X9_upTo rfl rfl rfl (by decide +kernel) ⟨Nat.le_of_ble_eq_true rfl, Nat.le_of_ble_eq_true rfl⟩) hK hP [0, 1, 2, 3, 4, 5, 6, 7, 8] rfl 0 rfl rfl rfl rfl hl.1 (Nat.le_of_ble_eq_true rfl) dX9_income_16 ⟨Nat.le_refl _, Nat.le_refl _⟩ ?_
    refine lv_goto (tgt := 23) hx hb dX9_income_19 (by decide) ?_
    exact hret _ _ _ _ ls hS (hP) (by simp [c9]) dX9_income_23

theorem in_X9_rate_9 : ∀ w ∈ wsX90, w ∈ wsX9_rate := fun _ h => List.mem_cons_of_mem _ (List.mem_append_right _ (h))
set_option maxHeartbeats 4000000 in
set_option maxRecDepth 100000 in
theorem kX9_rate (l : Launch) (D : va_G) (cI cB : ClassId) (mo q1 q2 q3 q4 q5 q6 q7 q8 : Nat) (th tn sz tt fm so nu fau plc : Int32) (wd : Int64) (sm rm : Int32) (Tp Nw Rr Sn In Pd Rt Rw : Nat → Int32) (ns nr ni np nb : Nat) (x : Int32) (hcn : cnt Nw ns nr ni np nb) : Wr l D (TY cI cB) yX9_rate wsX9_rate 2 42 [.ref mo, .int x] [(mo, .inr (9, [.int th, .ref q1, .int tn, .int sz, .int tt, .int fm, .int so, .int nu, .int fau, .int plc, .long wd, .ref q2, .ref q3, .ref q4, .int sm, .ref q5, .ref q6, .ref q7, .ref q8, .int rm])), (q1, .inl (cI, 840, .inl Tp)), (q2, .inl (cI, 240, .inl Nw)), (q3, .inl (cI, 240, .inl Rr)), (q4, .inl (cI, 2880, .inl Sn)), (q5, .inl (cI, 4, .inl In)), (q6, .inl (cI, 500, .inl Pd)), (q7, .inl (cI, 500, .inl Rt)), (q8, .inl (cI, 10000, .inl Rw))] [(mo, .inr (9, [.int 0, .ref q1, .int tn, .int sz, .int tt, .int fm, .int so, .int nu, .int fau, .int plc, .long wd, .ref q2, .ref q3, .ref q4, .int sm, .ref q5, .ref q6, .ref q7, .ref q8, .int rm])), (q1, .inl (cI, 840, .inl Tp)), (q2, .inl (cI, 240, .inl Nw)), (q3, .inl (cI, 240, .inl Rr)), (q4, .inl (cI, 2880, .inl Sn)), (q5, .inl (cI, 4, .inl In)), (q6, .inl (cI, 500, .inl Pd)), (q7, .inl (cI, 500, .inl Rt)), (q8, .inl (cI, 10000, .inl Rw))] (some (.int (if isInM x 0 499 = 0 then -1 else raM Nw nr x))) := by
  refine wr_i (cc := cX9_rate) (maxL := 2) (by decide) rfl (Nat.le_of_ble_eq_true rfl) ?_
  intro p_ e_ s_ m_ ar_ be_ me_ co_ ls Q_ A_ hx hb hml hown hts hP hK hD hS hl hret
  have hown : s_.vm.findClass RX9 = some m_.cls := hown
  have hl : lv_has ls 2 [(0, .ref mo), (1, .int x)] := hl
  refine lv_aload_n hx hb dX9_rate_0 rfl (lv_at hl 0 rfl) ?_
  refine lv_iconst (v := 0) hx hb dX9_rate_1 (by decide) ?_
  refine g_put (C := RX9) (T := TX9) (N := 20) (ci := 9) (index := 1) (v := .int 0) (ws' := [(mo, .inr (9, [.int 0, .ref q1, .int tn, .int sz, .int tt, .int fm, .int so, .int nu, .int fau, .int plc, .long wd, .ref q2, .ref q3, .ref q4, .int sm, .ref q5, .ref q6, .ref q7, .ref q8, .int rm])), (q1, .inl (cI, 840, .inl Tp)), (q2, .inl (cI, 240, .inl Nw)), (q3, .inl (cI, 240, .inl Rr)), (q4, .inl (cI, 2880, .inl Sn)), (q5, .inl (cI, 4, .inl In)), (q6, .inl (cI, 500, .inl Pd)), (q7, .inl (cI, 500, .inl Rt)), (q8, .inl (cI, 10000, .inl Rw))]) hx hb hts in_X9_rate_9 tyX9 tyX9_ok nmX9 hown hK hP hD hS 0 0 rfl rfl (by decide) (List.mem_of_getElem? (i := 1) rfl) rfl rfl rfl (Nat.le_of_ble_eq_true rfl) dX9_rate_2 rfl (fun H_ lc_ hP hD hS => ?_)
  refine lv_iload_n hx hb dX9_rate_5 rfl (lv_at hl 1 rfl) ?_
  refine rd_S (As := [.int x]) (rest := []) (kX9_isDay l D cI cB x ) ⟨hx, hb, hml, hown, hts⟩ (va_cwS 1 hts gX9_rate_X9_isDay rfl rfl rfl (by decide +kernel) ⟨Nat.le_of_ble_eq_true rfl, Nat.le_of_ble_eq_true rfl⟩) hK hP [] rfl rfl rfl hl.1 (Nat.le_of_ble_eq_true rfl) dX9_rate_6 ⟨Nat.le_refl _, Nat.le_refl _⟩ ?_
  refine lv_if_eq (tgt := 20) hx hb dX9_rate_9 (by decide) (fun c9 => ?_) (fun c9 => ?_)
  · refine lv_iconst (v := -1) hx hb dX9_rate_20 (by decide) ?_
    exact hret _ _ _ _ ls hS (hP) (by simp [c9]) dX9_rate_21
  · refine lv_aload_n hx hb dX9_rate_12 rfl (lv_at hl 0 rfl) ?_
    refine lv_iload_n hx hb dX9_rate_13 rfl (lv_at hl 1 rfl) ?_
    refine rd_V (As := [.int x]) (rest := []) (ci := 9) (kX9_rateOf l D cI cB mo q1 q2 q3 q4 q5 q6 q7 q8 0 tn sz tt fm so nu fau plc wd sm rm Tp Nw Rr Sn In Pd Rt Rw ns nr ni np nb x (hcn)) ⟨hx, hb, hml, hown, hts⟩ (cwV 1 hts gX9_rate_X9_rateOf rfl rfl rfl (by decide +kernel) ⟨Nat.le_of_ble_eq_true rfl, Nat.le_of_ble_eq_true rfl⟩) hK hP [0, 1, 2, 3, 4, 5, 6, 7, 8] rfl 0 rfl rfl rfl rfl hl.1 (Nat.le_of_ble_eq_true rfl) dX9_rate_14 ⟨Nat.le_refl _, Nat.le_refl _⟩ ?_
    refine lv_goto (tgt := 21) hx hb dX9_rate_17 (by decide) ?_
    exact hret _ _ _ _ ls hS (hP) (by simp [c9]) dX9_rate_21

theorem in_X9_payment_9 : ∀ w ∈ wsX90, w ∈ wsX9_payment := fun _ h => List.mem_cons_of_mem _ (List.mem_append_right _ (h))
set_option maxHeartbeats 4000000 in
set_option maxRecDepth 100000 in
theorem kX9_payment (l : Launch) (D : va_G) (cI cB : ClassId) (mo q1 q2 q3 q4 q5 q6 q7 q8 : Nat) (th tn sz tt fm so nu fau plc : Int32) (wd : Int64) (sm rm : Int32) (Tp Nw Rr Sn In Pd Rt Rw : Nat → Int32) (ns nr ni np nb : Nat) (k w : Int32) (hcn : cnt Nw ns nr ni np nb) : Wr l D (TY cI cB) yX9_payment wsX9_payment 2 43 [.ref mo, .int k, .int w] [(mo, .inr (9, [.int th, .ref q1, .int tn, .int sz, .int tt, .int fm, .int so, .int nu, .int fau, .int plc, .long wd, .ref q2, .ref q3, .ref q4, .int sm, .ref q5, .ref q6, .ref q7, .ref q8, .int rm])), (q1, .inl (cI, 840, .inl Tp)), (q2, .inl (cI, 240, .inl Nw)), (q3, .inl (cI, 240, .inl Rr)), (q4, .inl (cI, 2880, .inl Sn)), (q5, .inl (cI, 4, .inl In)), (q6, .inl (cI, 500, .inl Pd)), (q7, .inl (cI, 500, .inl Rt)), (q8, .inl (cI, 10000, .inl Rw))] [(mo, .inr (9, [.int 0, .ref q1, .int tn, .int sz, .int tt, .int fm, .int so, .int nu, .int fau, .int plc, .long wd, .ref q2, .ref q3, .ref q4, .int sm, .ref q5, .ref q6, .ref q7, .ref q8, .int rm])), (q1, .inl (cI, 840, .inl Tp)), (q2, .inl (cI, 240, .inl Nw)), (q3, .inl (cI, 240, .inl Rr)), (q4, .inl (cI, 2880, .inl Sn)), (q5, .inl (cI, 4, .inl In)), (q6, .inl (cI, 500, .inl Pd)), (q7, .inl (cI, 500, .inl Rt)), (q8, .inl (cI, 10000, .inl Rw))] (some (.int (if isInM k 0 (Nw 117 - 1) = 0 then -1 else if isInM w 0 1 = 0 then -1 else Nw (118 + 2 * k.toNatClampNeg + w.toNatClampNeg)))) := by
  refine wr_i (cc := cX9_payment) (maxL := 3) (by decide) rfl (Nat.le_of_ble_eq_true rfl) ?_
  intro p_ e_ s_ m_ ar_ be_ me_ co_ ls Q_ A_ hx hb hml hown hts hP hK hD hS hl hret
  have hown : s_.vm.findClass RX9 = some m_.cls := hown
  have hl : lv_has ls 3 [(0, .ref mo), (1, .int k), (2, .int w)] := hl
  have h117 := hcn.2.2.2.1.1
  have h117b := hcn.2.2.2.1.2
  refine lv_aload_n hx hb dX9_payment_0 rfl (lv_at hl 0 rfl) ?_
  refine lv_iconst (v := 0) hx hb dX9_payment_1 (by decide) ?_
  refine g_put (C := RX9) (T := TX9) (N := 20) (ci := 9) (index := 1) (v := .int 0) (ws' := [(mo, .inr (9, [.int 0, .ref q1, .int tn, .int sz, .int tt, .int fm, .int so, .int nu, .int fau, .int plc, .long wd, .ref q2, .ref q3, .ref q4, .int sm, .ref q5, .ref q6, .ref q7, .ref q8, .int rm])), (q1, .inl (cI, 840, .inl Tp)), (q2, .inl (cI, 240, .inl Nw)), (q3, .inl (cI, 240, .inl Rr)), (q4, .inl (cI, 2880, .inl Sn)), (q5, .inl (cI, 4, .inl In)), (q6, .inl (cI, 500, .inl Pd)), (q7, .inl (cI, 500, .inl Rt)), (q8, .inl (cI, 10000, .inl Rw))]) hx hb hts in_X9_payment_9 tyX9 tyX9_ok nmX9 hown hK hP hD hS 0 0 rfl rfl (by decide) (List.mem_of_getElem? (i := 1) rfl) rfl rfl rfl (Nat.le_of_ble_eq_true rfl) dX9_payment_2 rfl (fun H_ lc_ hP hD hS => ?_)
  refine lv_aload_n hx hb dX9_payment_5 rfl (lv_at hl 0 rfl) ?_
  refine lv_iload_n hx hb dX9_payment_6 rfl (lv_at hl 1 rfl) ?_
  refine rd_V (As := [.int k]) (rest := []) (ci := 9) (kX9_isPay l D cI cB mo q1 q2 q3 q4 q5 q6 q7 q8 0 tn sz tt fm so nu fau plc wd sm rm Tp Nw Rr Sn In Pd Rt Rw k ) ⟨hx, hb, hml, hown, hts⟩ (cwV 1 hts gX9_payment_X9_isPay rfl rfl rfl (by decide +kernel) ⟨Nat.le_of_ble_eq_true rfl, Nat.le_of_ble_eq_true rfl⟩) hK hP [0, 1, 2, 3, 4, 5, 6, 7, 8] rfl 0 rfl rfl rfl rfl hl.1 (Nat.le_of_ble_eq_true rfl) dX9_payment_7 ⟨Nat.le_refl _, Nat.le_refl _⟩ ?_
  refine lv_if_eq (tgt := 38) hx hb dX9_payment_10 (by decide) (fun c10 => ?_) (fun c10 => ?_)
  · refine lv_iconst (v := -1) hx hb dX9_payment_38 (by decide) ?_
    exact hret _ _ _ _ ls hS (hP) (by simp [c10]) dX9_payment_39
  · refine lv_iload_n hx hb dX9_payment_13 rfl (lv_at hl 2 rfl) ?_
    refine lv_iconst (v := 0) hx hb dX9_payment_14 (by decide) ?_
    refine lv_iconst (v := 1) hx hb dX9_payment_15 (by decide) ?_
    refine rd_S (As := [.int w, .int 0, .int 1]) (rest := []) (kX9_isIn l D cI cB w 0 1 ) ⟨hx, hb, hml, hown, hts⟩ (va_cwS 3 hts gX9_payment_X9_isIn rfl rfl rfl (by decide +kernel) ⟨Nat.le_of_ble_eq_true rfl, Nat.le_of_ble_eq_true rfl⟩) hK hP [] rfl rfl rfl hl.1 (Nat.le_of_ble_eq_true rfl) dX9_payment_16 ⟨Nat.le_refl _, Nat.le_refl _⟩ ?_
    refine lv_if_eq (tgt := 38) hx hb dX9_payment_19 (by decide) (fun c19 => ?_) (fun c19 => ?_)
    · refine lv_iconst (v := -1) hx hb dX9_payment_38 (by decide) ?_
      exact hret _ _ _ _ ls hS (hP) (by simp [c10, c19]) dX9_payment_39
    · obtain ⟨q, hq, rfl⟩ := isPay_nI h117b (h117 ▸ c10)
      obtain ⟨w9, hw9, rfl⟩ := isInM_nI (n := 1) (by omega) c19
      refine lv_aload_n hx hb dX9_payment_22 rfl (lv_at hl 0 rfl) ?_
      refine g_get (C := RX9) (T := TX9) (N := 20) (ci := 9) (index := 64) hx hb hts in_X9_payment_9 hown hK hP 0 11 rfl rfl (by decide) (List.mem_of_getElem? (i := 2) rfl) rfl dX9_payment_23 ?_
      refine lv_bipush (v := 118) hx hb dX9_payment_26 (by decide) ?_
      refine lv_iconst (v := 2) hx hb dX9_payment_28 (by decide) ?_
      refine lv_iload_n hx hb dX9_payment_29 rfl (lv_at hl 1 rfl) ?_
      refine lv_imul hx hb dX9_payment_30 ?_
      refine lv_iadd hx hb dX9_payment_31 ?_
      refine lv_iload_n hx hb dX9_payment_32 rfl (lv_at hl 2 rfl) ?_
      refine lv_iadd hx hb dX9_payment_33 ?_
      refine g_iald hx hb hK hP 2 0 rfl rfl ((118 + (2 * q)) + w9) (nx_a (nx_a (rfl) (nx_m (rfl) (rfl))) (rfl)) (by omega) (by omega) dX9_payment_34 ?_
      refine lv_goto (tgt := 39) hx hb dX9_payment_35 (by decide) ?_
      exact hret _ _ _ _ ls hS (hP) (by rw [if_neg c10, if_neg c19, nI_clamp (by omega), nI_clamp (by omega)]) dX9_payment_39

theorem in_X9_unpaid_9 : ∀ w ∈ wsX90, w ∈ wsX9_unpaid := fun _ h => List.mem_cons_of_mem _ (List.mem_append_right _ (h))
set_option maxHeartbeats 4000000 in
set_option maxRecDepth 100000 in
theorem kX9_unpaid (l : Launch) (D : va_G) (cI cB : ClassId) (mo q1 q2 q3 q4 q5 q6 q7 q8 : Nat) (th tn sz tt fm so nu fau plc : Int32) (wd : Int64) (sm rm : Int32) (Tp Nw Rr Sn In Pd Rt Rw : Nat → Int32) (ns nr ni np nb : Nat) (p d : Int32) (hcn : cnt Nw ns nr ni np nb) (hcut : ∀ p, p < 4 → 1 ≤ Nw (7 + p) + 1) : We l D (TY cI cB) yX9_unpaid wsX9_unpaid 6 137 [.ref mo, .int p, .int d] (S := (Nat → Int32)) [(mo, .inr (9, [.int th, .ref q1, .int tn, .int sz, .int tt, .int fm, .int so, .int nu, .int fau, .int plc, .long wd, .ref q2, .ref q3, .ref q4, .int sm, .ref q5, .ref q6, .ref q7, .ref q8, .int rm])), (q1, .inl (cI, 840, .inl Tp)), (q2, .inl (cI, 240, .inl Nw)), (q3, .inl (cI, 240, .inl Rr)), (q4, .inl (cI, 2880, .inl Sn)), (q5, .inl (cI, 4, .inl In)), (q6, .inl (cI, 500, .inl Pd)), (q7, .inl (cI, 500, .inl Rt)), (q8, .inl (cI, 10000, .inl Rw))] (fun u => [(mo, .inr (9, [.int 0, .ref q1, .int tn, .int sz, .int tt, .int fm, .int so, .int nu, .int fau, .int plc, .long wd, .ref q2, .ref q3, .ref q4, .int sm, .ref q5, .ref q6, .ref q7, .ref q8, .int rm])), (q1, .inl (cI, 840, .inl Tp)), (q2, .inl (cI, 240, .inl Nw)), (q3, .inl (cI, 240, .inl Rr)), (q4, .inl (cI, 2880, .inl Sn)), (q5, .inl (cI, 4, .inl u)), (q6, .inl (cI, 500, .inl Pd)), (q7, .inl (cI, 500, .inl Rt)), (q8, .inl (cI, 10000, .inl Rw))]) (some (.int (if isInM p 0 3 = 0 then -1 else if isInM d 0 499 = 0 then -1 else unM (ov (inM (lsM Nw ns ni (Nw 239))) In 4) p.toNatClampNeg (paM Nw np nb d)))) := by
  refine we_i (cc := cX9_unpaid) (maxL := 3) (by decide) rfl (Nat.le_of_ble_eq_true rfl) ?_
  intro p_ e_ s_ m_ ar_ be_ me_ co_ ls Q_ A_ hx hb hml hown hts hP hK hD hS hl hret
  have hown : s_.vm.findClass RX9 = some m_.cls := hown
  have hl : lv_has ls 3 [(0, .ref mo), (1, .int p), (2, .int d)] := hl
  refine lv_aload_n hx hb dX9_unpaid_0 rfl (lv_at hl 0 rfl) ?_
  refine lv_iconst (v := 0) hx hb dX9_unpaid_1 (by decide) ?_
  refine g_put (C := RX9) (T := TX9) (N := 20) (ci := 9) (index := 1) (v := .int 0) (ws' := [(mo, .inr (9, [.int 0, .ref q1, .int tn, .int sz, .int tt, .int fm, .int so, .int nu, .int fau, .int plc, .long wd, .ref q2, .ref q3, .ref q4, .int sm, .ref q5, .ref q6, .ref q7, .ref q8, .int rm])), (q1, .inl (cI, 840, .inl Tp)), (q2, .inl (cI, 240, .inl Nw)), (q3, .inl (cI, 240, .inl Rr)), (q4, .inl (cI, 2880, .inl Sn)), (q5, .inl (cI, 4, .inl In)), (q6, .inl (cI, 500, .inl Pd)), (q7, .inl (cI, 500, .inl Rt)), (q8, .inl (cI, 10000, .inl Rw))]) hx hb hts in_X9_unpaid_9 tyX9 tyX9_ok nmX9 hown hK hP hD hS 0 0 rfl rfl (by decide) (List.mem_of_getElem? (i := 1) rfl) rfl rfl rfl (Nat.le_of_ble_eq_true rfl) dX9_unpaid_2 rfl (fun H_ lc_ hP hD hS => ?_)
  refine lv_iload_n hx hb dX9_unpaid_5 rfl (lv_at hl 1 rfl) ?_
  refine lv_iconst (v := 0) hx hb dX9_unpaid_6 (by decide) ?_
  refine lv_iconst (v := 3) hx hb dX9_unpaid_7 (by decide) ?_
  refine rd_S (As := [.int p, .int 0, .int 3]) (rest := []) (kX9_isIn l D cI cB p 0 3 ) ⟨hx, hb, hml, hown, hts⟩ (va_cwS 3 hts gX9_unpaid_X9_isIn rfl rfl rfl (by decide +kernel) ⟨Nat.le_of_ble_eq_true rfl, Nat.le_of_ble_eq_true rfl⟩) hK hP [] rfl rfl rfl hl.1 (Nat.le_of_ble_eq_true rfl) dX9_unpaid_8 ⟨Nat.le_refl _, Nat.le_refl _⟩ ?_
  refine lv_if_eq (tgt := 21) hx hb dX9_unpaid_11 (by decide) (fun c11 => ?_) (fun c11 => ?_)
  · refine lv_iconst (v := -1) hx hb dX9_unpaid_21 (by decide) ?_
    exact hret _ _ _ _ ls hS (⟨(In), hP⟩) (by simp [c11]) dX9_unpaid_22
  · refine lv_iload_n hx hb dX9_unpaid_14 rfl (lv_at hl 2 rfl) ?_
    refine rd_S (As := [.int d]) (rest := []) (kX9_isDay l D cI cB d ) ⟨hx, hb, hml, hown, hts⟩ (va_cwS 1 hts gX9_unpaid_X9_isDay rfl rfl rfl (by decide +kernel) ⟨Nat.le_of_ble_eq_true rfl, Nat.le_of_ble_eq_true rfl⟩) hK hP [] rfl rfl rfl hl.1 (Nat.le_of_ble_eq_true rfl) dX9_unpaid_15 ⟨Nat.le_refl _, Nat.le_refl _⟩ ?_
    refine lv_if_ne (tgt := 23) hx hb dX9_unpaid_18 (by decide) (fun c18 => ?_) (fun c18 => ?_)
    · obtain ⟨q, hq, rfl⟩ := isInM_nI (n := 3) (by omega) c11
      refine lv_aload_n hx hb dX9_unpaid_23 rfl (lv_at hl 0 rfl) ?_
      refine wp_V (As := []) (rest := []) (ci := 9) (ws' := [(mo, .inr (9, [.int 0, .ref q1, .int tn, .int sz, .int tt, .int fm, .int so, .int nu, .int fau, .int plc, .long wd, .ref q2, .ref q3, .ref q4, .int sm, .ref q5, .ref q6, .ref q7, .ref q8, .int rm])), (q1, .inl (cI, 840, .inl Tp)), (q2, .inl (cI, 240, .inl Nw)), (q3, .inl (cI, 240, .inl Rr)), (q4, .inl (cI, 2880, .inl Sn)), (q5, .inl (cI, 4, .inl (ov (inM (lsM Nw ns ni (Nw 239))) In 4))), (q6, .inl (cI, 500, .inl Pd)), (q7, .inl (cI, 500, .inl Rt)), (q8, .inl (cI, 10000, .inl Rw))]) (kX9_laysInstalments_ l D cI cB mo q1 q2 q3 q4 q5 q6 q7 q8 0 tn sz tt fm so nu fau plc wd sm rm Tp Nw Rr Sn In Pd Rt Rw ns nr ni np nb (by first | assumption | omega) (by first | assumption | omega)) ⟨hx, hb, hml, hown, hts⟩ (cwV 0 hts gX9_unpaid_X9_laysInstalments_ rfl rfl rfl (by decide +kernel) ⟨Nat.le_of_ble_eq_true rfl, Nat.le_of_ble_eq_true rfl⟩) hK hP hD hS [0, 1, 2, 3, 4, 5, 6, 7, 8] [] rfl rfl (two_eq [] rfl rfl) 9 rfl (by decide +kernel) (by decide +kernel) (two_eq [mo, q1, q2, q3, q4, q5, q6, q7, q8] rfl rfl) (by decide +kernel) 0 rfl rfl rfl rfl hl.1 (Nat.le_of_ble_eq_true rfl) dX9_unpaid_24 ⟨Nat.le_refl _, Nat.le_refl _⟩ (fun H_ lc_ hP hD hS => ?_)
      show W p_ l e_ (RM 6 137) s_ m_ ar_ be_ me_ co_ H_ lc_ 0 0 Q_ (F0 m_ 27 ls [])
      refine lv_aload_n hx hb dX9_unpaid_27 rfl (lv_at hl 0 rfl) ?_
      refine lv_iload_n hx hb dX9_unpaid_28 rfl (lv_at hl 1 rfl) ?_
      refine lv_aload_n hx hb dX9_unpaid_29 rfl (lv_at hl 0 rfl) ?_
      refine lv_iload_n hx hb dX9_unpaid_30 rfl (lv_at hl 2 rfl) ?_
      refine rd_V (As := [.int d]) (rest := [.int (nI q), .ref mo]) (ci := 9) (kX9_paidAt l D cI cB mo q1 q2 q3 q4 q5 q6 q7 q8 0 tn sz tt fm so nu fau plc wd sm rm Tp Nw Rr Sn (ov (inM (lsM Nw ns ni (Nw 239))) In 4) Pd Rt Rw ns nr ni np nb d (by first | assumption | omega)) ⟨hx, hb, hml, hown, hts⟩ (cwV 1 hts gX9_unpaid_X9_paidAt rfl rfl rfl (by decide +kernel) ⟨Nat.le_of_ble_eq_true rfl, Nat.le_of_ble_eq_true rfl⟩) hK hP [0, 1, 2, 3, 4, 5, 6, 7, 8] rfl 0 rfl rfl rfl rfl hl.1 (Nat.le_of_ble_eq_true rfl) dX9_unpaid_31 ⟨Nat.le_refl _, Nat.le_refl _⟩ ?_
      refine rd_V (As := [.int (nI q), .int (paM Nw np nb d)]) (rest := []) (ci := 9) (kX9_uncovered l D cI cB mo q1 q2 q3 q4 q5 q6 q7 q8 0 tn sz tt fm so nu fau plc wd sm rm Tp Nw Rr Sn (ov (inM (lsM Nw ns ni (Nw 239))) In 4) Pd Rt Rw q (paM Nw np nb d) (by first | assumption | omega)) ⟨hx, hb, hml, hown, hts⟩ (cwV 2 hts gX9_unpaid_X9_uncovered rfl rfl rfl (by decide +kernel) ⟨Nat.le_of_ble_eq_true rfl, Nat.le_of_ble_eq_true rfl⟩) hK hP [0, 1, 2, 3, 4, 5, 6, 7, 8] rfl 0 rfl rfl rfl rfl hl.1 (Nat.le_of_ble_eq_true rfl) dX9_unpaid_34 ⟨Nat.le_refl _, Nat.le_refl _⟩ ?_
      exact hret _ _ _ _ ls hS (⟨(ov (inM (lsM Nw ns ni (Nw 239))) In 4), hP⟩) (by rw [if_neg c11, if_neg c18, nI_clamp (by omega)]) dX9_unpaid_37
    · refine lv_iconst (v := -1) hx hb dX9_unpaid_21 (by decide) ?_
      exact hret _ _ _ _ ls hS (⟨(In), hP⟩) (by simp [c11, c18]) dX9_unpaid_22

theorem in_X9_free_9 : ∀ w ∈ wsX90, w ∈ wsX9_free := fun _ h => List.mem_cons_of_mem _ (List.mem_append_right _ (h))
set_option maxHeartbeats 4000000 in
set_option maxRecDepth 100000 in
theorem kX9_free (l : Launch) (D : va_G) (cI cB : ClassId) (mo q1 q2 q3 q4 q5 q6 q7 q8 : Nat) (th tn sz tt fm so nu fau plc : Int32) (wd : Int64) (sm rm : Int32) (Tp Nw Rr Sn In Pd Rt Rw : Nat → Int32) (ns nr ni np nb : Nat) (d : Int32) (hcn : cnt Nw ns nr ni np nb) (hcut : ∀ p, p < 4 → 1 ≤ Nw (7 + p) + 1) : We l D (TY cI cB) yX9_free wsX9_free 6 137 [.ref mo, .int d] (S := (Nat → Int32)) [(mo, .inr (9, [.int th, .ref q1, .int tn, .int sz, .int tt, .int fm, .int so, .int nu, .int fau, .int plc, .long wd, .ref q2, .ref q3, .ref q4, .int sm, .ref q5, .ref q6, .ref q7, .ref q8, .int rm])), (q1, .inl (cI, 840, .inl Tp)), (q2, .inl (cI, 240, .inl Nw)), (q3, .inl (cI, 240, .inl Rr)), (q4, .inl (cI, 2880, .inl Sn)), (q5, .inl (cI, 4, .inl In)), (q6, .inl (cI, 500, .inl Pd)), (q7, .inl (cI, 500, .inl Rt)), (q8, .inl (cI, 10000, .inl Rw))] (fun u => [(mo, .inr (9, [.int 0, .ref q1, .int tn, .int sz, .int tt, .int fm, .int so, .int nu, .int fau, .int plc, .long wd, .ref q2, .ref q3, .ref q4, .int sm, .ref q5, .ref q6, .ref q7, .ref q8, .int rm])), (q1, .inl (cI, 840, .inl Tp)), (q2, .inl (cI, 240, .inl Nw)), (q3, .inl (cI, 240, .inl Rr)), (q4, .inl (cI, 2880, .inl Sn)), (q5, .inl (cI, 4, .inl u)), (q6, .inl (cI, 500, .inl Pd)), (q7, .inl (cI, 500, .inl Rt)), (q8, .inl (cI, 10000, .inl Rw))]) (some (.int (if isInM d 0 499 = 0 then -1 else posM (frM Nw (ov (inM (lsM Nw ns ni (Nw 239))) In 4) d (paM Nw np nb d) 4)))) := by
  refine we_i (cc := cX9_free) (maxL := 2) (by decide) rfl (Nat.le_of_ble_eq_true rfl) ?_
  intro p_ e_ s_ m_ ar_ be_ me_ co_ ls Q_ A_ hx hb hml hown hts hP hK hD hS hl hret
  have hown : s_.vm.findClass RX9 = some m_.cls := hown
  have hl : lv_has ls 2 [(0, .ref mo), (1, .int d)] := hl
  refine lv_aload_n hx hb dX9_free_0 rfl (lv_at hl 0 rfl) ?_
  refine lv_iconst (v := 0) hx hb dX9_free_1 (by decide) ?_
  refine g_put (C := RX9) (T := TX9) (N := 20) (ci := 9) (index := 1) (v := .int 0) (ws' := [(mo, .inr (9, [.int 0, .ref q1, .int tn, .int sz, .int tt, .int fm, .int so, .int nu, .int fau, .int plc, .long wd, .ref q2, .ref q3, .ref q4, .int sm, .ref q5, .ref q6, .ref q7, .ref q8, .int rm])), (q1, .inl (cI, 840, .inl Tp)), (q2, .inl (cI, 240, .inl Nw)), (q3, .inl (cI, 240, .inl Rr)), (q4, .inl (cI, 2880, .inl Sn)), (q5, .inl (cI, 4, .inl In)), (q6, .inl (cI, 500, .inl Pd)), (q7, .inl (cI, 500, .inl Rt)), (q8, .inl (cI, 10000, .inl Rw))]) hx hb hts in_X9_free_9 tyX9 tyX9_ok nmX9 hown hK hP hD hS 0 0 rfl rfl (by decide) (List.mem_of_getElem? (i := 1) rfl) rfl rfl rfl (Nat.le_of_ble_eq_true rfl) dX9_free_2 rfl (fun H_ lc_ hP hD hS => ?_)
  refine lv_iload_n hx hb dX9_free_5 rfl (lv_at hl 1 rfl) ?_
  refine rd_S (As := [.int d]) (rest := []) (kX9_isDay l D cI cB d ) ⟨hx, hb, hml, hown, hts⟩ (va_cwS 1 hts gX9_free_X9_isDay rfl rfl rfl (by decide +kernel) ⟨Nat.le_of_ble_eq_true rfl, Nat.le_of_ble_eq_true rfl⟩) hK hP [] rfl rfl rfl hl.1 (Nat.le_of_ble_eq_true rfl) dX9_free_6 ⟨Nat.le_refl _, Nat.le_refl _⟩ ?_
  refine lv_if_ne (tgt := 14) hx hb dX9_free_9 (by decide) (fun c9 => ?_) (fun c9 => ?_)
  · refine lv_aload_n hx hb dX9_free_14 rfl (lv_at hl 0 rfl) ?_
    refine wp_V (As := []) (rest := []) (ci := 9) (ws' := [(mo, .inr (9, [.int 0, .ref q1, .int tn, .int sz, .int tt, .int fm, .int so, .int nu, .int fau, .int plc, .long wd, .ref q2, .ref q3, .ref q4, .int sm, .ref q5, .ref q6, .ref q7, .ref q8, .int rm])), (q1, .inl (cI, 840, .inl Tp)), (q2, .inl (cI, 240, .inl Nw)), (q3, .inl (cI, 240, .inl Rr)), (q4, .inl (cI, 2880, .inl Sn)), (q5, .inl (cI, 4, .inl (ov (inM (lsM Nw ns ni (Nw 239))) In 4))), (q6, .inl (cI, 500, .inl Pd)), (q7, .inl (cI, 500, .inl Rt)), (q8, .inl (cI, 10000, .inl Rw))]) (kX9_laysInstalments_ l D cI cB mo q1 q2 q3 q4 q5 q6 q7 q8 0 tn sz tt fm so nu fau plc wd sm rm Tp Nw Rr Sn In Pd Rt Rw ns nr ni np nb (by assumption) (by assumption)) ⟨hx, hb, hml, hown, hts⟩ (cwV 0 hts gX9_free_X9_laysInstalments_ rfl rfl rfl (by decide +kernel) ⟨Nat.le_of_ble_eq_true rfl, Nat.le_of_ble_eq_true rfl⟩) hK hP hD hS [0, 1, 2, 3, 4, 5, 6, 7, 8] [] rfl rfl (two_eq [] rfl rfl) 9 rfl (by decide +kernel) (by decide +kernel) (two_eq [mo, q1, q2, q3, q4, q5, q6, q7, q8] rfl rfl) (by decide +kernel) 0 rfl rfl rfl rfl hl.1 (Nat.le_of_ble_eq_true rfl) dX9_free_15 ⟨Nat.le_refl _, Nat.le_refl _⟩ (fun H_ lc_ hP hD hS => ?_)
    show W p_ l e_ (RM 6 137) s_ m_ ar_ be_ me_ co_ H_ lc_ 0 0 Q_ (F0 m_ 18 ls [])
    refine lv_aload_n hx hb dX9_free_18 rfl (lv_at hl 0 rfl) ?_
    refine lv_iload_n hx hb dX9_free_19 rfl (lv_at hl 1 rfl) ?_
    refine rd_V (As := [.int d]) (rest := []) (ci := 9) (kX9_freeAt l D cI cB mo q1 q2 q3 q4 q5 q6 q7 q8 0 tn sz tt fm so nu fau plc wd sm rm Tp Nw Rr Sn (ov (inM (lsM Nw ns ni (Nw 239))) In 4) Pd Rt Rw ns nr ni np nb d (by assumption)) ⟨hx, hb, hml, hown, hts⟩ (cwV 1 hts gX9_free_X9_freeAt rfl rfl rfl (by decide +kernel) ⟨Nat.le_of_ble_eq_true rfl, Nat.le_of_ble_eq_true rfl⟩) hK hP [0, 1, 2, 3, 4, 5, 6, 7, 8] rfl 0 rfl rfl rfl rfl hl.1 (Nat.le_of_ble_eq_true rfl) dX9_free_20 ⟨Nat.le_refl _, Nat.le_refl _⟩ ?_
    exact hret _ _ _ _ ls hS (⟨(ov (inM (lsM Nw ns ni (Nw 239))) In 4), hP⟩) (by simp [c9]) dX9_free_23
  · refine lv_iconst (v := -1) hx hb dX9_free_12 (by decide) ?_
    exact hret _ _ _ _ ls hS (⟨(In), hP⟩) (by simp [c9]) dX9_free_13

def clM (In : Nat → Int32) (x : Int32) : Nat → Int32
  | 0 => x
  | k + 1 => clM In x k + In k
theorem in_X9_clears_9 : ∀ w ∈ wsX90, w ∈ wsX9_clears := fun _ h => List.mem_cons_of_mem _ (List.mem_append_right _ (h))
set_option maxHeartbeats 4000000 in
set_option maxRecDepth 100000 in
theorem kX9_clears (l : Launch) (D : va_G) (cI cB : ClassId) (mo q1 q2 q3 q4 q5 q6 q7 q8 : Nat) (th tn sz tt fm so nu fau plc : Int32) (wd : Int64) (sm rm : Int32) (Tp Nw Rr Sn In Pd Rt Rw : Nat → Int32) (ns nr ni np nb : Nat) (d : Int32) (hcn : cnt Nw ns nr ni np nb) (hcut : ∀ p, p < 4 → 1 ≤ Nw (7 + p) + 1) : We l D (TY cI cB) yX9_clears wsX9_clears 6 137 [.ref mo, .int d] (S := (Nat → Int32)) [(mo, .inr (9, [.int th, .ref q1, .int tn, .int sz, .int tt, .int fm, .int so, .int nu, .int fau, .int plc, .long wd, .ref q2, .ref q3, .ref q4, .int sm, .ref q5, .ref q6, .ref q7, .ref q8, .int rm])), (q1, .inl (cI, 840, .inl Tp)), (q2, .inl (cI, 240, .inl Nw)), (q3, .inl (cI, 240, .inl Rr)), (q4, .inl (cI, 2880, .inl Sn)), (q5, .inl (cI, 4, .inl In)), (q6, .inl (cI, 500, .inl Pd)), (q7, .inl (cI, 500, .inl Rt)), (q8, .inl (cI, 10000, .inl Rw))] (fun u => [(mo, .inr (9, [.int 0, .ref q1, .int tn, .int sz, .int tt, .int fm, .int so, .int nu, .int fau, .int plc, .long wd, .ref q2, .ref q3, .ref q4, .int sm, .ref q5, .ref q6, .ref q7, .ref q8, .int rm])), (q1, .inl (cI, 840, .inl Tp)), (q2, .inl (cI, 240, .inl Nw)), (q3, .inl (cI, 240, .inl Rr)), (q4, .inl (cI, 2880, .inl Sn)), (q5, .inl (cI, 4, .inl u)), (q6, .inl (cI, 500, .inl Pd)), (q7, .inl (cI, 500, .inl Rt)), (q8, .inl (cI, 10000, .inl Rw))]) (some (.int (if isInM d 0 499 = 0 then -1 else posM (clM (ov (inM (lsM Nw ns ni (Nw 239))) In 4) (-(paM Nw np nb d)) 4)))) := by
  refine we_i (cc := cX9_clears) (maxL := 4) (by decide) rfl (Nat.le_of_ble_eq_true rfl) ?_
  intro p_ e_ s_ m_ ar_ be_ me_ co_ ls Q_ A_ hx hb hml hown hts hP hK hD hS hl hret
  have hown : s_.vm.findClass RX9 = some m_.cls := hown
  have hl : lv_has ls 4 [(0, .ref mo), (1, .int d)] := hl
  refine lv_aload_n hx hb dX9_clears_0 rfl (lv_at hl 0 rfl) ?_
  refine lv_iconst (v := 0) hx hb dX9_clears_1 (by decide) ?_
  refine g_put (C := RX9) (T := TX9) (N := 20) (ci := 9) (index := 1) (v := .int 0) (ws' := [(mo, .inr (9, [.int 0, .ref q1, .int tn, .int sz, .int tt, .int fm, .int so, .int nu, .int fau, .int plc, .long wd, .ref q2, .ref q3, .ref q4, .int sm, .ref q5, .ref q6, .ref q7, .ref q8, .int rm])), (q1, .inl (cI, 840, .inl Tp)), (q2, .inl (cI, 240, .inl Nw)), (q3, .inl (cI, 240, .inl Rr)), (q4, .inl (cI, 2880, .inl Sn)), (q5, .inl (cI, 4, .inl In)), (q6, .inl (cI, 500, .inl Pd)), (q7, .inl (cI, 500, .inl Rt)), (q8, .inl (cI, 10000, .inl Rw))]) hx hb hts in_X9_clears_9 tyX9 tyX9_ok nmX9 hown hK hP hD hS 0 0 rfl rfl (by decide) (List.mem_of_getElem? (i := 1) rfl) rfl rfl rfl (Nat.le_of_ble_eq_true rfl) dX9_clears_2 rfl (fun H_ lc_ hP hD hS => ?_)
  refine lv_iload_n hx hb dX9_clears_5 rfl (lv_at hl 1 rfl) ?_
  refine rd_S (As := [.int d]) (rest := []) (kX9_isDay l D cI cB d ) ⟨hx, hb, hml, hown, hts⟩ (va_cwS 1 hts gX9_clears_X9_isDay rfl rfl rfl (by decide +kernel) ⟨Nat.le_of_ble_eq_true rfl, Nat.le_of_ble_eq_true rfl⟩) hK hP [] rfl rfl rfl hl.1 (Nat.le_of_ble_eq_true rfl) dX9_clears_6 ⟨Nat.le_refl _, Nat.le_refl _⟩ ?_
  refine lv_if_ne (tgt := 14) hx hb dX9_clears_9 (by decide) (fun c9 => ?_) (fun c9 => ?_)
  · refine lv_aload_n hx hb dX9_clears_14 rfl (lv_at hl 0 rfl) ?_
    refine wp_V (As := []) (rest := []) (ci := 9) (ws' := [(mo, .inr (9, [.int 0, .ref q1, .int tn, .int sz, .int tt, .int fm, .int so, .int nu, .int fau, .int plc, .long wd, .ref q2, .ref q3, .ref q4, .int sm, .ref q5, .ref q6, .ref q7, .ref q8, .int rm])), (q1, .inl (cI, 840, .inl Tp)), (q2, .inl (cI, 240, .inl Nw)), (q3, .inl (cI, 240, .inl Rr)), (q4, .inl (cI, 2880, .inl Sn)), (q5, .inl (cI, 4, .inl (ov (inM (lsM Nw ns ni (Nw 239))) In 4))), (q6, .inl (cI, 500, .inl Pd)), (q7, .inl (cI, 500, .inl Rt)), (q8, .inl (cI, 10000, .inl Rw))]) (kX9_laysInstalments_ l D cI cB mo q1 q2 q3 q4 q5 q6 q7 q8 0 tn sz tt fm so nu fau plc wd sm rm Tp Nw Rr Sn In Pd Rt Rw ns nr ni np nb (by assumption) (by assumption)) ⟨hx, hb, hml, hown, hts⟩ (cwV 0 hts gX9_clears_X9_laysInstalments_ rfl rfl rfl (by decide +kernel) ⟨Nat.le_of_ble_eq_true rfl, Nat.le_of_ble_eq_true rfl⟩) hK hP hD hS [0, 1, 2, 3, 4, 5, 6, 7, 8] [] rfl rfl (two_eq [] rfl rfl) 9 rfl (by decide +kernel) (by decide +kernel) (two_eq [mo, q1, q2, q3, q4, q5, q6, q7, q8] rfl rfl) (by decide +kernel) 0 rfl rfl rfl rfl hl.1 (Nat.le_of_ble_eq_true rfl) dX9_clears_15 ⟨Nat.le_refl _, Nat.le_refl _⟩ (fun H_ lc_ hP hD hS => ?_)
    show W p_ l e_ (RM 6 137) s_ m_ ar_ be_ me_ co_ H_ lc_ 0 0 Q_ (F0 m_ 18 ls [])
    refine lv_aload_n hx hb dX9_clears_18 rfl (lv_at hl 0 rfl) ?_
    refine lv_iload_n hx hb dX9_clears_19 rfl (lv_at hl 1 rfl) ?_
    refine rd_V (As := [.int d]) (rest := []) (ci := 9) (kX9_paidAt l D cI cB mo q1 q2 q3 q4 q5 q6 q7 q8 0 tn sz tt fm so nu fau plc wd sm rm Tp Nw Rr Sn (ov (inM (lsM Nw ns ni (Nw 239))) In 4) Pd Rt Rw ns nr ni np nb d (by assumption)) ⟨hx, hb, hml, hown, hts⟩ (cwV 1 hts gX9_clears_X9_paidAt rfl rfl rfl (by decide +kernel) ⟨Nat.le_of_ble_eq_true rfl, Nat.le_of_ble_eq_true rfl⟩) hK hP [0, 1, 2, 3, 4, 5, 6, 7, 8] rfl 0 rfl rfl rfl rfl hl.1 (Nat.le_of_ble_eq_true rfl) dX9_clears_20 ⟨Nat.le_refl _, Nat.le_refl _⟩ ?_
    refine lv_ineg hx hb dX9_clears_23 ?_
    refine lv_istore_n (lv' := [(2, .int (-(paM Nw np nb d))), (0, .ref mo), (1, .int d)]) hx hb dX9_clears_24 rfl hl (by decide) rfl (fun ls hl => ?_)
    refine lv_iconst (v := 0) hx hb dX9_clears_25 (by decide) ?_
    refine lv_istore_n (lv' := [(3, .int 0), (2, .int (-(paM Nw np nb d))), (0, .ref mo), (1, .int d)]) hx hb dX9_clears_26 rfl hl (by decide) rfl (fun ls hl => ?_)
    have L27 : ∀ (nn_ : Nat) (i : Nat) (hi : i ≤ 4) (xx_v2 : Int32) (xx_v3 : Int32), (4 - i) < nn_ → xx_v2 = clM (ov (inM (lsM Nw ns ni (Nw 239))) In 4) (-(paM Nw np nb d)) i → xx_v3 = nI i → ∀ (H_ : Heap) (lc_ : List Loc), va_P D vwCl [(mo, .inr (9, [.int 0, .ref q1, .int tn, .int sz, .int tt, .int fm, .int so, .int nu, .int fau, .int plc, .long wd, .ref q2, .ref q3, .ref q4, .int sm, .ref q5, .ref q6, .ref q7, .ref q8, .int rm])), (q1, .inl (cI, 840, .inl Tp)), (q2, .inl (cI, 240, .inl Nw)), (q3, .inl (cI, 240, .inl Rr)), (q4, .inl (cI, 2880, .inl Sn)), (q5, .inl (cI, 4, .inl (ov (inM (lsM Nw ns ni (Nw 239))) In 4))), (q6, .inl (cI, 500, .inl Pd)), (q7, .inl (cI, 500, .inl Rt)), (q8, .inl (cI, 10000, .inl Rw))] H_ → va_D A_ [(mo, .inr (9, [.int 0, .ref q1, .int tn, .int sz, .int tt, .int fm, .int so, .int nu, .int fau, .int plc, .long wd, .ref q2, .ref q3, .ref q4, .int sm, .ref q5, .ref q6, .ref q7, .ref q8, .int rm])), (q1, .inl (cI, 840, .inl Tp)), (q2, .inl (cI, 240, .inl Nw)), (q3, .inl (cI, 240, .inl Rr)), (q4, .inl (cI, 2880, .inl Sn)), (q5, .inl (cI, 4, .inl (ov (inM (lsM Nw ns ni (Nw 239))) In 4))), (q6, .inl (cI, 500, .inl Pd)), (q7, .inl (cI, 500, .inl Rt)), (q8, .inl (cI, 10000, .inl Rw))] → va_S A_ s_.heap H_ lc_ → ∀ (ls : Array Slot), lv_has ls 4 [(0, .ref mo), (1, .int d), (2, .int xx_v2), (3, .int xx_v3)] → W p_ l e_ (RM 6 137) s_ m_ ar_ be_ me_ co_ H_ lc_ 0 0 Q_ (F0 m_ 27 ls []) := by
      intro nn_
      induction nn_ with
      | zero => intro i hi xx_v2 xx_v3 hn_; exact absurd hn_ (Nat.not_lt_zero _)
      | succ nn_ ih27 =>
        intro i hi xx_v2 xx_v3 hn_ e_xx_v2 e_xx_v3 H_ lc_ hP hD hS ls hl
        subst e_xx_v2 e_xx_v3
        refine lv_iload_n hx hb dX9_clears_27 rfl (lv_at hl 3 rfl) ?_
        refine lv_iconst (v := 4) hx hb dX9_clears_28 (by decide) ?_
        refine lv_icmp_ge (tgt := 47) hx hb dX9_clears_29 (by decide) (fun c29 => ?_) (fun c29 => ?_)
        · have hie : i = 4 := by have q := ge_nI (b := 4) c29 (by omega) (by omega); omega
          refine lv_iload_n hx hb dX9_clears_47 rfl (lv_at hl 2 rfl) ?_
          refine lv_if_le (tgt := 55) hx hb dX9_clears_48 (by decide) (fun c48 => ?_) (fun c48 => ?_)
          · refine lv_iconst (v := 0) hx hb dX9_clears_55 (by decide) ?_
            exact hret _ _ _ _ ls hS (⟨(ov (inM (lsM Nw ns ni (Nw 239))) In 4), hP⟩) (by rw [if_neg c9]; rw [hie] at *; simp [posM, c9, c29, c48]) dX9_clears_56
          · refine lv_iload_n hx hb dX9_clears_51 rfl (lv_at hl 2 rfl) ?_
            refine lv_goto (tgt := 56) hx hb dX9_clears_52 (by decide) ?_
            exact hret _ _ _ _ ls hS (⟨(ov (inM (lsM Nw ns ni (Nw 239))) In 4), hP⟩) (by rw [if_neg c9]; rw [hie] at *; simp [posM, c9, c29, c48]) dX9_clears_56
        · have hlt : i < 4 := lt_nI (b := 4) c29 (by omega) (by omega)
          refine lv_iload_n hx hb dX9_clears_32 rfl (lv_at hl 2 rfl) ?_
          refine lv_aload_n hx hb dX9_clears_33 rfl (lv_at hl 0 rfl) ?_
          refine g_get (C := RX9) (T := TX9) (N := 20) (ci := 9) (index := 73) hx hb hts in_X9_clears_9 hown hK hP 0 15 rfl rfl (by decide) (List.mem_of_getElem? (i := 2) rfl) rfl dX9_clears_34 ?_
          refine lv_iload_n hx hb dX9_clears_37 rfl (lv_at hl 3 rfl) ?_
          refine g_iald hx hb hK hP 5 0 rfl rfl i (rfl) (by omega) (by omega) dX9_clears_38 ?_
          refine lv_iadd hx hb dX9_clears_39 ?_
          refine lv_istore_n (lv' := [(2, .int ((clM (ov (inM (lsM Nw ns ni (Nw 239))) In 4) (-(paM Nw np nb d)) i) + ((ov (inM (lsM Nw ns ni (Nw 239))) In 4) i))), (0, .ref mo), (1, .int d), (3, .int (nI i))]) hx hb dX9_clears_40 rfl hl (by decide) rfl (fun ls hl => ?_)
          refine lv_iinc (v := nI (i + 1)) (lv' := [(3, .int (nI (i + 1))), (2, .int ((clM (ov (inM (lsM Nw ns ni (Nw 239))) In 4) (-(paM Nw np nb d)) i) + ((ov (inM (lsM Nw ns ni (Nw 239))) In 4) i))), (0, .ref mo), (1, .int d)]) hx hb dX9_clears_41 hl (k := 3) rfl (nI_add _ 1) (by decide) rfl (fun ls hl => ?_)
          refine lv_goto (tgt := 27) hx hb dX9_clears_44 (by decide) ?_
          exact ih27 (i + 1) (by omega) _ _ (by omega) (rfl) (rfl) _ _ hP hD hS ls (lv_sub hl [2, 3, 1, 0] rfl)
    exact L27 (4 - 0 + 1) 0 (by omega) _ _ (Nat.lt_succ_self _) (rfl) (nI_0.symm) _ _ hP hD hS ls (lv_sub hl [2, 3, 1, 0] rfl)
  · refine lv_iconst (v := -1) hx hb dX9_clears_12 (by decide) ?_
    exact hret _ _ _ _ ls hS (⟨(In), hP⟩) (by simp [c9]) dX9_clears_13

