theorem in_X6_hasRoom_6 : ∀ w ∈ wsX60, w ∈ wsX6_hasRoom := fun _ h => List.mem_cons_of_mem _ (List.mem_append_right _ (h))
set_option maxHeartbeats 4000000 in
set_option maxRecDepth 100000 in
theorem kX6_hasRoom (l : Launch) (D : va_G) (cI cB : ClassId) (t tb n : Nat) (B : Nat → Int32) (hn : n ≤ 840) : Rd l D (TY cI cB) yX6_hasRoom wsX6_hasRoom 0 0 [.ref t] [(t, .inr (6, [.ref tb, .int (nI n)])), (tb, .inl (cB, 840, .inl B))] (if nI 840 < nI (n + 20) then 0 else 1) := by
  refine rd_z (cc := cX6_hasRoom) (maxL := 1) (by decide) rfl (Nat.le_of_ble_eq_true rfl) ?_
  intro p_ e_ s_ m_ ar_ be_ me_ co_ ls Q_ hx hb hml hown hts hP hK hl hret
  have hown : s_.vm.findClass RX6 = some m_.cls := hown
  have hl : lv_has ls 1 [(0, .ref t)] := hl
  refine lv_aload_n hx hb dX6_hasRoom_0 rfl (lv_at hl 0 rfl) ?_
  refine g_get (C := RX6) (T := TX6) (N := 2) (ci := 6) (index := 13) hx hb hts in_X6_hasRoom_6 hown hK hP 0 1 rfl rfl (by decide) (List.mem_of_getElem? (i := 1) rfl) rfl dX6_hasRoom_1 ?_
  refine lv_bipush (v := 20) hx hb dX6_hasRoom_4 (by decide) ?_
  refine lv_iadd hx hb dX6_hasRoom_6 ?_
  rw [show ((nI n) + 20 : Int32) = nI (n + 20) from nI_add n 20]
  refine lv_aload_n hx hb dX6_hasRoom_7 rfl (lv_at hl 0 rfl) ?_
  refine g_get (C := RX6) (T := TX6) (N := 2) (ci := 6) (index := 9) hx hb hts in_X6_hasRoom_6 hown hK hP 0 0 rfl rfl (by decide) (List.mem_of_getElem? (i := 2) rfl) rfl dX6_hasRoom_8 ?_
  refine va_alen (v := nI 840) hx hb hK hP 1 1 rfl rfl rfl dX6_hasRoom_11 ?_
  refine lv_icmp_gt (tgt := 19) hx hb dX6_hasRoom_12 (by decide) (fun c12 => ?_) (fun c12 => ?_)
  · refine lv_iconst (v := 0) hx hb dX6_hasRoom_19 (by decide) ?_
    exact hret _ _ ls (by simp [c12]) (by decide) dX6_hasRoom_20
  · refine lv_iconst (v := 1) hx hb dX6_hasRoom_15 (by decide) ?_
    refine lv_goto (tgt := 20) hx hb dX6_hasRoom_16 (by decide) ?_
    exact hret _ _ ls (by simp [c12]) (by decide) dX6_hasRoom_20

theorem in_X6_append_6 : ∀ w ∈ wsX60, w ∈ wsX6_append := fun _ h => List.mem_cons_of_mem _ (List.mem_append_right _ (h))
set_option maxHeartbeats 4000000 in
set_option maxRecDepth 100000 in
theorem kX6_append (l : Launch) (D : va_G) (cI cB : ClassId) (t tb n : Nat) (B : Nat → Int32) (w : Int32) (hn : n + 4 ≤ 840) : Wr l D (TY cI cB) yX6_append wsX6_append 0 0 [.ref t, .int w] [(t, .inr (6, [.ref tb, .int (nI n)])), (tb, .inl (cB, 840, .inl B))] [(t, .inr (6, [.ref tb, .int (nI (n + 4))])), (tb, .inl (cB, 840, .inl (ap4 B n w)))] none := by
  refine wr_v (cc := cX6_append) (maxL := 3) (by decide) rfl (Nat.le_of_ble_eq_true rfl) ?_
  intro p_ e_ s_ m_ ar_ be_ me_ co_ ls Q_ A_ hx hb hml hown hts hP hK hD hS hl hret
  have hown : s_.vm.findClass RX6 = some m_.cls := hown
  have hl : lv_has ls 3 [(0, .ref t), (1, .int w)] := hl
  refine lv_bipush (v := 24) hx hb dX6_append_0 (by decide) ?_
  refine lv_istore_n (lv' := [(2, .int 24), (0, .ref t), (1, .int w)]) hx hb dX6_append_2 rfl hl (by decide) rfl (fun ls hl => ?_)
  refine lv_iload_n hx hb dX6_append_3 rfl (lv_at hl 0 rfl) ?_
  refine lv_if_lt (tgt := 55) hx hb dX6_append_4 (by decide) (fun c4 => absurd c4 (by decide)) (fun c4 => ?_)
  refine lv_aload_n hx hb dX6_append_7 rfl (lv_at hl 1 rfl) ?_
  refine g_get (C := RX6) (T := TX6) (N := 2) (ci := 6) (index := 13) hx hb hts in_X6_append_6 hown hK hP 0 1 rfl rfl (by decide) (List.mem_of_getElem? (i := 1) rfl) rfl dX6_append_8 ?_
  refine lv_if_lt (tgt := 49) hx hb dX6_append_11 (by decide) (fun c11 => absurd c11 (nI_pos (by omega))) (fun c11 => ?_)
  refine lv_aload_n hx hb dX6_append_14 rfl (lv_at hl 1 rfl) ?_
  refine g_get (C := RX6) (T := TX6) (N := 2) (ci := 6) (index := 13) hx hb hts in_X6_append_6 hown hK hP 0 1 rfl rfl (by decide) (List.mem_of_getElem? (i := 1) rfl) rfl dX6_append_15 ?_
  refine lv_aload_n hx hb dX6_append_18 rfl (lv_at hl 1 rfl) ?_
  refine g_get (C := RX6) (T := TX6) (N := 2) (ci := 6) (index := 9) hx hb hts in_X6_append_6 hown hK hP 0 0 rfl rfl (by decide) (List.mem_of_getElem? (i := 2) rfl) rfl dX6_append_19 ?_
  refine va_alen (v := nI 840) hx hb hK hP 1 1 rfl rfl rfl dX6_append_22 ?_
  refine lv_icmp_ge (tgt := 49) hx hb dX6_append_23 (by decide) (fun c23 => absurd c23 (nI_ge (by omega) (by omega))) (fun c23 => ?_)
  refine lv_aload_n hx hb dX6_append_26 rfl (lv_at hl 1 rfl) ?_
  refine g_get (C := RX6) (T := TX6) (N := 2) (ci := 6) (index := 9) hx hb hts in_X6_append_6 hown hK hP 0 0 rfl rfl (by decide) (List.mem_of_getElem? (i := 2) rfl) rfl dX6_append_27 ?_
  refine lv_aload_n hx hb dX6_append_30 rfl (lv_at hl 1 rfl) ?_
  refine g_get (C := RX6) (T := TX6) (N := 2) (ci := 6) (index := 13) hx hb hts in_X6_append_6 hown hK hP 0 1 rfl rfl (by decide) (List.mem_of_getElem? (i := 1) rfl) rfl dX6_append_31 ?_
  refine lv_iload_n hx hb dX6_append_34 rfl (lv_at hl 2 rfl) ?_
  refine lv_iload_n hx hb dX6_append_35 rfl (lv_at hl 0 rfl) ?_
  refine lv_iushr (v := (w.toUInt32 >>> ((24 : Int32).toUInt32 &&& Int32.toUInt32 31)).toInt32) hx hb dX6_append_36 rfl ?_
  refine lv_i2b (v := ((w.toUInt32 >>> ((24 : Int32).toUInt32 &&& Int32.toUInt32 31)).toInt32).toInt8.toInt32) hx hb dX6_append_37 rfl ?_
  refine g_bast hx hb hK hP hD hS 1 1 rfl rfl n (rfl) (by omega) (by omega) dX6_append_38 (fun H_ lc_ hP hD hS => ?_)
  have hP : va_P D vwCl [(t, .inr (6, [.ref tb, .int (nI n)])), (tb, .inl (cB, 840, .inl (upd B n (vp_nar .byte (((w.toUInt32 >>> ((24 : Int32).toUInt32 &&& Int32.toUInt32 31)).toInt32).toInt8.toInt32)))))] H_ := hP
  have hD : va_D A_ [(t, .inr (6, [.ref tb, .int (nI n)])), (tb, .inl (cB, 840, .inl (upd B n (vp_nar .byte (((w.toUInt32 >>> ((24 : Int32).toUInt32 &&& Int32.toUInt32 31)).toInt32).toInt8.toInt32)))))] := hD
  refine lv_aload_n hx hb dX6_append_39 rfl (lv_at hl 1 rfl) ?_
  refine lv_dup hx hb dX6_append_40 rfl ?_
  refine g_get (C := RX6) (T := TX6) (N := 2) (ci := 6) (index := 13) hx hb hts in_X6_append_6 hown hK hP 0 1 rfl rfl (by decide) (List.mem_of_getElem? (i := 1) rfl) rfl dX6_append_41 ?_
  refine lv_iconst (v := 1) hx hb dX6_append_44 (by decide) ?_
  refine lv_iadd hx hb dX6_append_45 ?_
  rw [show ((nI n) + 1 : Int32) = nI (n + 1) from nI_1 _]
  refine g_put (C := RX6) (T := TX6) (N := 2) (ci := 6) (index := 13) (v := .int (nI (n + 1))) (ws' := [(t, .inr (6, [.ref tb, .int (nI (n + 1))])), (tb, .inl (cB, 840, .inl (upd B n (vp_nar .byte (((w.toUInt32 >>> ((24 : Int32).toUInt32 &&& Int32.toUInt32 31)).toInt32).toInt8.toInt32)))))]) hx hb hts in_X6_append_6 tyX6 tyX6_ok nmX6 hown hK hP hD hS 0 1 rfl rfl (by decide) (List.mem_of_getElem? (i := 1) rfl) rfl rfl rfl (Nat.le_of_ble_eq_true rfl) dX6_append_46 rfl (fun H_ lc_ hP hD hS => ?_)
  refine lv_iinc (v := 16) (lv' := [(2, .int 16), (0, .ref t), (1, .int w)]) hx hb dX6_append_49 hl (k := 0) rfl (by decide) (by decide) rfl (fun ls hl => ?_)
  refine lv_goto (tgt := 3) hx hb dX6_append_52 (by decide) ?_
  refine lv_iload_n hx hb dX6_append_3 rfl (lv_at hl 0 rfl) ?_
  refine lv_if_lt (tgt := 55) hx hb dX6_append_4 (by decide) (fun c4' => absurd c4' (by decide)) (fun c4' => ?_)
  refine lv_aload_n hx hb dX6_append_7 rfl (lv_at hl 1 rfl) ?_
  refine g_get (C := RX6) (T := TX6) (N := 2) (ci := 6) (index := 13) hx hb hts in_X6_append_6 hown hK hP 0 1 rfl rfl (by decide) (List.mem_of_getElem? (i := 1) rfl) rfl dX6_append_8 ?_
  refine lv_if_lt (tgt := 49) hx hb dX6_append_11 (by decide) (fun c11' => absurd c11' (nI_pos (by omega))) (fun c11' => ?_)
  refine lv_aload_n hx hb dX6_append_14 rfl (lv_at hl 1 rfl) ?_
  refine g_get (C := RX6) (T := TX6) (N := 2) (ci := 6) (index := 13) hx hb hts in_X6_append_6 hown hK hP 0 1 rfl rfl (by decide) (List.mem_of_getElem? (i := 1) rfl) rfl dX6_append_15 ?_
  refine lv_aload_n hx hb dX6_append_18 rfl (lv_at hl 1 rfl) ?_
  refine g_get (C := RX6) (T := TX6) (N := 2) (ci := 6) (index := 9) hx hb hts in_X6_append_6 hown hK hP 0 0 rfl rfl (by decide) (List.mem_of_getElem? (i := 2) rfl) rfl dX6_append_19 ?_
  refine va_alen (v := nI 840) hx hb hK hP 1 1 rfl rfl rfl dX6_append_22 ?_
  refine lv_icmp_ge (tgt := 49) hx hb dX6_append_23 (by decide) (fun c23' => absurd c23' (nI_ge (by omega) (by omega))) (fun c23' => ?_)
  refine lv_aload_n hx hb dX6_append_26 rfl (lv_at hl 1 rfl) ?_
  refine g_get (C := RX6) (T := TX6) (N := 2) (ci := 6) (index := 9) hx hb hts in_X6_append_6 hown hK hP 0 0 rfl rfl (by decide) (List.mem_of_getElem? (i := 2) rfl) rfl dX6_append_27 ?_
  refine lv_aload_n hx hb dX6_append_30 rfl (lv_at hl 1 rfl) ?_
  refine g_get (C := RX6) (T := TX6) (N := 2) (ci := 6) (index := 13) hx hb hts in_X6_append_6 hown hK hP 0 1 rfl rfl (by decide) (List.mem_of_getElem? (i := 1) rfl) rfl dX6_append_31 ?_
  refine lv_iload_n hx hb dX6_append_34 rfl (lv_at hl 2 rfl) ?_
  refine lv_iload_n hx hb dX6_append_35 rfl (lv_at hl 0 rfl) ?_
  refine lv_iushr (v := (w.toUInt32 >>> ((16 : Int32).toUInt32 &&& Int32.toUInt32 31)).toInt32) hx hb dX6_append_36 rfl ?_
  refine lv_i2b (v := ((w.toUInt32 >>> ((16 : Int32).toUInt32 &&& Int32.toUInt32 31)).toInt32).toInt8.toInt32) hx hb dX6_append_37 rfl ?_
  refine g_bast hx hb hK hP hD hS 1 1 rfl rfl (n + 1) (rfl) (by omega) (by omega) dX6_append_38 (fun H_ lc_ hP hD hS => ?_)
  have hP : va_P D vwCl [(t, .inr (6, [.ref tb, .int (nI (n + 1))])), (tb, .inl (cB, 840, .inl (upd (upd B n (vp_nar .byte (((w.toUInt32 >>> ((24 : Int32).toUInt32 &&& Int32.toUInt32 31)).toInt32).toInt8.toInt32))) (n + 1) (vp_nar .byte (((w.toUInt32 >>> ((16 : Int32).toUInt32 &&& Int32.toUInt32 31)).toInt32).toInt8.toInt32)))))] H_ := hP
  have hD : va_D A_ [(t, .inr (6, [.ref tb, .int (nI (n + 1))])), (tb, .inl (cB, 840, .inl (upd (upd B n (vp_nar .byte (((w.toUInt32 >>> ((24 : Int32).toUInt32 &&& Int32.toUInt32 31)).toInt32).toInt8.toInt32))) (n + 1) (vp_nar .byte (((w.toUInt32 >>> ((16 : Int32).toUInt32 &&& Int32.toUInt32 31)).toInt32).toInt8.toInt32)))))] := hD
  refine lv_aload_n hx hb dX6_append_39 rfl (lv_at hl 1 rfl) ?_
  refine lv_dup hx hb dX6_append_40 rfl ?_
  refine g_get (C := RX6) (T := TX6) (N := 2) (ci := 6) (index := 13) hx hb hts in_X6_append_6 hown hK hP 0 1 rfl rfl (by decide) (List.mem_of_getElem? (i := 1) rfl) rfl dX6_append_41 ?_
  refine lv_iconst (v := 1) hx hb dX6_append_44 (by decide) ?_
  refine lv_iadd hx hb dX6_append_45 ?_
  rw [show ((nI (n + 1)) + 1 : Int32) = nI (n + 2) from nI_1 _]
  refine g_put (C := RX6) (T := TX6) (N := 2) (ci := 6) (index := 13) (v := .int (nI (n + 2))) (ws' := [(t, .inr (6, [.ref tb, .int (nI (n + 2))])), (tb, .inl (cB, 840, .inl (upd (upd B n (vp_nar .byte (((w.toUInt32 >>> ((24 : Int32).toUInt32 &&& Int32.toUInt32 31)).toInt32).toInt8.toInt32))) (n + 1) (vp_nar .byte (((w.toUInt32 >>> ((16 : Int32).toUInt32 &&& Int32.toUInt32 31)).toInt32).toInt8.toInt32)))))]) hx hb hts in_X6_append_6 tyX6 tyX6_ok nmX6 hown hK hP hD hS 0 1 rfl rfl (by decide) (List.mem_of_getElem? (i := 1) rfl) rfl rfl rfl (Nat.le_of_ble_eq_true rfl) dX6_append_46 rfl (fun H_ lc_ hP hD hS => ?_)
  refine lv_iinc (v := 8) (lv' := [(2, .int 8), (0, .ref t), (1, .int w)]) hx hb dX6_append_49 hl (k := 0) rfl (by decide) (by decide) rfl (fun ls hl => ?_)
  refine lv_goto (tgt := 3) hx hb dX6_append_52 (by decide) ?_
  refine lv_iload_n hx hb dX6_append_3 rfl (lv_at hl 0 rfl) ?_
  refine lv_if_lt (tgt := 55) hx hb dX6_append_4 (by decide) (fun c4'' => absurd c4'' (by decide)) (fun c4'' => ?_)
  refine lv_aload_n hx hb dX6_append_7 rfl (lv_at hl 1 rfl) ?_
  refine g_get (C := RX6) (T := TX6) (N := 2) (ci := 6) (index := 13) hx hb hts in_X6_append_6 hown hK hP 0 1 rfl rfl (by decide) (List.mem_of_getElem? (i := 1) rfl) rfl dX6_append_8 ?_
  refine lv_if_lt (tgt := 49) hx hb dX6_append_11 (by decide) (fun c11'' => absurd c11'' (nI_pos (by omega))) (fun c11'' => ?_)
  refine lv_aload_n hx hb dX6_append_14 rfl (lv_at hl 1 rfl) ?_
  refine g_get (C := RX6) (T := TX6) (N := 2) (ci := 6) (index := 13) hx hb hts in_X6_append_6 hown hK hP 0 1 rfl rfl (by decide) (List.mem_of_getElem? (i := 1) rfl) rfl dX6_append_15 ?_
  refine lv_aload_n hx hb dX6_append_18 rfl (lv_at hl 1 rfl) ?_
  refine g_get (C := RX6) (T := TX6) (N := 2) (ci := 6) (index := 9) hx hb hts in_X6_append_6 hown hK hP 0 0 rfl rfl (by decide) (List.mem_of_getElem? (i := 2) rfl) rfl dX6_append_19 ?_
  refine va_alen (v := nI 840) hx hb hK hP 1 1 rfl rfl rfl dX6_append_22 ?_
  refine lv_icmp_ge (tgt := 49) hx hb dX6_append_23 (by decide) (fun c23'' => absurd c23'' (nI_ge (by omega) (by omega))) (fun c23'' => ?_)
  refine lv_aload_n hx hb dX6_append_26 rfl (lv_at hl 1 rfl) ?_
  refine g_get (C := RX6) (T := TX6) (N := 2) (ci := 6) (index := 9) hx hb hts in_X6_append_6 hown hK hP 0 0 rfl rfl (by decide) (List.mem_of_getElem? (i := 2) rfl) rfl dX6_append_27 ?_
  refine lv_aload_n hx hb dX6_append_30 rfl (lv_at hl 1 rfl) ?_
  refine g_get (C := RX6) (T := TX6) (N := 2) (ci := 6) (index := 13) hx hb hts in_X6_append_6 hown hK hP 0 1 rfl rfl (by decide) (List.mem_of_getElem? (i := 1) rfl) rfl dX6_append_31 ?_
  refine lv_iload_n hx hb dX6_append_34 rfl (lv_at hl 2 rfl) ?_
  refine lv_iload_n hx hb dX6_append_35 rfl (lv_at hl 0 rfl) ?_
  refine lv_iushr (v := (w.toUInt32 >>> ((8 : Int32).toUInt32 &&& Int32.toUInt32 31)).toInt32) hx hb dX6_append_36 rfl ?_
  refine lv_i2b (v := ((w.toUInt32 >>> ((8 : Int32).toUInt32 &&& Int32.toUInt32 31)).toInt32).toInt8.toInt32) hx hb dX6_append_37 rfl ?_
  refine g_bast hx hb hK hP hD hS 1 1 rfl rfl (n + 2) (rfl) (by omega) (by omega) dX6_append_38 (fun H_ lc_ hP hD hS => ?_)
  have hP : va_P D vwCl [(t, .inr (6, [.ref tb, .int (nI (n + 2))])), (tb, .inl (cB, 840, .inl (upd (upd (upd B n (vp_nar .byte (((w.toUInt32 >>> ((24 : Int32).toUInt32 &&& Int32.toUInt32 31)).toInt32).toInt8.toInt32))) (n + 1) (vp_nar .byte (((w.toUInt32 >>> ((16 : Int32).toUInt32 &&& Int32.toUInt32 31)).toInt32).toInt8.toInt32))) (n + 2) (vp_nar .byte (((w.toUInt32 >>> ((8 : Int32).toUInt32 &&& Int32.toUInt32 31)).toInt32).toInt8.toInt32)))))] H_ := hP
  have hD : va_D A_ [(t, .inr (6, [.ref tb, .int (nI (n + 2))])), (tb, .inl (cB, 840, .inl (upd (upd (upd B n (vp_nar .byte (((w.toUInt32 >>> ((24 : Int32).toUInt32 &&& Int32.toUInt32 31)).toInt32).toInt8.toInt32))) (n + 1) (vp_nar .byte (((w.toUInt32 >>> ((16 : Int32).toUInt32 &&& Int32.toUInt32 31)).toInt32).toInt8.toInt32))) (n + 2) (vp_nar .byte (((w.toUInt32 >>> ((8 : Int32).toUInt32 &&& Int32.toUInt32 31)).toInt32).toInt8.toInt32)))))] := hD
  refine lv_aload_n hx hb dX6_append_39 rfl (lv_at hl 1 rfl) ?_
  refine lv_dup hx hb dX6_append_40 rfl ?_
  refine g_get (C := RX6) (T := TX6) (N := 2) (ci := 6) (index := 13) hx hb hts in_X6_append_6 hown hK hP 0 1 rfl rfl (by decide) (List.mem_of_getElem? (i := 1) rfl) rfl dX6_append_41 ?_
  refine lv_iconst (v := 1) hx hb dX6_append_44 (by decide) ?_
  refine lv_iadd hx hb dX6_append_45 ?_
  rw [show ((nI (n + 2)) + 1 : Int32) = nI (n + 3) from nI_1 _]
  refine g_put (C := RX6) (T := TX6) (N := 2) (ci := 6) (index := 13) (v := .int (nI (n + 3))) (ws' := [(t, .inr (6, [.ref tb, .int (nI (n + 3))])), (tb, .inl (cB, 840, .inl (upd (upd (upd B n (vp_nar .byte (((w.toUInt32 >>> ((24 : Int32).toUInt32 &&& Int32.toUInt32 31)).toInt32).toInt8.toInt32))) (n + 1) (vp_nar .byte (((w.toUInt32 >>> ((16 : Int32).toUInt32 &&& Int32.toUInt32 31)).toInt32).toInt8.toInt32))) (n + 2) (vp_nar .byte (((w.toUInt32 >>> ((8 : Int32).toUInt32 &&& Int32.toUInt32 31)).toInt32).toInt8.toInt32)))))]) hx hb hts in_X6_append_6 tyX6 tyX6_ok nmX6 hown hK hP hD hS 0 1 rfl rfl (by decide) (List.mem_of_getElem? (i := 1) rfl) rfl rfl rfl (Nat.le_of_ble_eq_true rfl) dX6_append_46 rfl (fun H_ lc_ hP hD hS => ?_)
  refine lv_iinc (v := 0) (lv' := [(2, .int 0), (0, .ref t), (1, .int w)]) hx hb dX6_append_49 hl (k := 0) rfl (by decide) (by decide) rfl (fun ls hl => ?_)
  refine lv_goto (tgt := 3) hx hb dX6_append_52 (by decide) ?_
  refine lv_iload_n hx hb dX6_append_3 rfl (lv_at hl 0 rfl) ?_
  refine lv_if_lt (tgt := 55) hx hb dX6_append_4 (by decide) (fun c4''' => absurd c4''' (by decide)) (fun c4''' => ?_)
  refine lv_aload_n hx hb dX6_append_7 rfl (lv_at hl 1 rfl) ?_
  refine g_get (C := RX6) (T := TX6) (N := 2) (ci := 6) (index := 13) hx hb hts in_X6_append_6 hown hK hP 0 1 rfl rfl (by decide) (List.mem_of_getElem? (i := 1) rfl) rfl dX6_append_8 ?_
  refine lv_if_lt (tgt := 49) hx hb dX6_append_11 (by decide) (fun c11''' => absurd c11''' (nI_pos (by omega))) (fun c11''' => ?_)
  refine lv_aload_n hx hb dX6_append_14 rfl (lv_at hl 1 rfl) ?_
  refine g_get (C := RX6) (T := TX6) (N := 2) (ci := 6) (index := 13) hx hb hts in_X6_append_6 hown hK hP 0 1 rfl rfl (by decide) (List.mem_of_getElem? (i := 1) rfl) rfl dX6_append_15 ?_
  refine lv_aload_n hx hb dX6_append_18 rfl (lv_at hl 1 rfl) ?_
  refine g_get (C := RX6) (T := TX6) (N := 2) (ci := 6) (index := 9) hx hb hts in_X6_append_6 hown hK hP 0 0 rfl rfl (by decide) (List.mem_of_getElem? (i := 2) rfl) rfl dX6_append_19 ?_
  refine va_alen (v := nI 840) hx hb hK hP 1 1 rfl rfl rfl dX6_append_22 ?_
  refine lv_icmp_ge (tgt := 49) hx hb dX6_append_23 (by decide) (fun c23''' => absurd c23''' (nI_ge (by omega) (by omega))) (fun c23''' => ?_)
  refine lv_aload_n hx hb dX6_append_26 rfl (lv_at hl 1 rfl) ?_
  refine g_get (C := RX6) (T := TX6) (N := 2) (ci := 6) (index := 9) hx hb hts in_X6_append_6 hown hK hP 0 0 rfl rfl (by decide) (List.mem_of_getElem? (i := 2) rfl) rfl dX6_append_27 ?_
  refine lv_aload_n hx hb dX6_append_30 rfl (lv_at hl 1 rfl) ?_
  refine g_get (C := RX6) (T := TX6) (N := 2) (ci := 6) (index := 13) hx hb hts in_X6_append_6 hown hK hP 0 1 rfl rfl (by decide) (List.mem_of_getElem? (i := 1) rfl) rfl dX6_append_31 ?_
  refine lv_iload_n hx hb dX6_append_34 rfl (lv_at hl 2 rfl) ?_
  refine lv_iload_n hx hb dX6_append_35 rfl (lv_at hl 0 rfl) ?_
  refine lv_iushr (v := (w.toUInt32 >>> ((0 : Int32).toUInt32 &&& Int32.toUInt32 31)).toInt32) hx hb dX6_append_36 rfl ?_
  refine lv_i2b (v := ((w.toUInt32 >>> ((0 : Int32).toUInt32 &&& Int32.toUInt32 31)).toInt32).toInt8.toInt32) hx hb dX6_append_37 rfl ?_
  refine g_bast hx hb hK hP hD hS 1 1 rfl rfl (n + 3) (rfl) (by omega) (by omega) dX6_append_38 (fun H_ lc_ hP hD hS => ?_)
  have hP : va_P D vwCl [(t, .inr (6, [.ref tb, .int (nI (n + 3))])), (tb, .inl (cB, 840, .inl (upd (upd (upd (upd B n (vp_nar .byte (((w.toUInt32 >>> ((24 : Int32).toUInt32 &&& Int32.toUInt32 31)).toInt32).toInt8.toInt32))) (n + 1) (vp_nar .byte (((w.toUInt32 >>> ((16 : Int32).toUInt32 &&& Int32.toUInt32 31)).toInt32).toInt8.toInt32))) (n + 2) (vp_nar .byte (((w.toUInt32 >>> ((8 : Int32).toUInt32 &&& Int32.toUInt32 31)).toInt32).toInt8.toInt32))) (n + 3) (vp_nar .byte (((w.toUInt32 >>> ((0 : Int32).toUInt32 &&& Int32.toUInt32 31)).toInt32).toInt8.toInt32)))))] H_ := hP
  have hD : va_D A_ [(t, .inr (6, [.ref tb, .int (nI (n + 3))])), (tb, .inl (cB, 840, .inl (upd (upd (upd (upd B n (vp_nar .byte (((w.toUInt32 >>> ((24 : Int32).toUInt32 &&& Int32.toUInt32 31)).toInt32).toInt8.toInt32))) (n + 1) (vp_nar .byte (((w.toUInt32 >>> ((16 : Int32).toUInt32 &&& Int32.toUInt32 31)).toInt32).toInt8.toInt32))) (n + 2) (vp_nar .byte (((w.toUInt32 >>> ((8 : Int32).toUInt32 &&& Int32.toUInt32 31)).toInt32).toInt8.toInt32))) (n + 3) (vp_nar .byte (((w.toUInt32 >>> ((0 : Int32).toUInt32 &&& Int32.toUInt32 31)).toInt32).toInt8.toInt32)))))] := hD
  refine lv_aload_n hx hb dX6_append_39 rfl (lv_at hl 1 rfl) ?_
  refine lv_dup hx hb dX6_append_40 rfl ?_
  refine g_get (C := RX6) (T := TX6) (N := 2) (ci := 6) (index := 13) hx hb hts in_X6_append_6 hown hK hP 0 1 rfl rfl (by decide) (List.mem_of_getElem? (i := 1) rfl) rfl dX6_append_41 ?_
  refine lv_iconst (v := 1) hx hb dX6_append_44 (by decide) ?_
  refine lv_iadd hx hb dX6_append_45 ?_
  rw [show ((nI (n + 3)) + 1 : Int32) = nI (n + 4) from nI_1 _]
  refine g_put (C := RX6) (T := TX6) (N := 2) (ci := 6) (index := 13) (v := .int (nI (n + 4))) (ws' := [(t, .inr (6, [.ref tb, .int (nI (n + 4))])), (tb, .inl (cB, 840, .inl (upd (upd (upd (upd B n (vp_nar .byte (((w.toUInt32 >>> ((24 : Int32).toUInt32 &&& Int32.toUInt32 31)).toInt32).toInt8.toInt32))) (n + 1) (vp_nar .byte (((w.toUInt32 >>> ((16 : Int32).toUInt32 &&& Int32.toUInt32 31)).toInt32).toInt8.toInt32))) (n + 2) (vp_nar .byte (((w.toUInt32 >>> ((8 : Int32).toUInt32 &&& Int32.toUInt32 31)).toInt32).toInt8.toInt32))) (n + 3) (vp_nar .byte (((w.toUInt32 >>> ((0 : Int32).toUInt32 &&& Int32.toUInt32 31)).toInt32).toInt8.toInt32)))))]) hx hb hts in_X6_append_6 tyX6 tyX6_ok nmX6 hown hK hP hD hS 0 1 rfl rfl (by decide) (List.mem_of_getElem? (i := 1) rfl) rfl rfl rfl (Nat.le_of_ble_eq_true rfl) dX6_append_46 rfl (fun H_ lc_ hP hD hS => ?_)
  refine lv_iinc (v := (-8)) (lv' := [(2, .int (-8)), (0, .ref t), (1, .int w)]) hx hb dX6_append_49 hl (k := 0) rfl (by decide) (by decide) rfl (fun ls hl => ?_)
  refine lv_goto (tgt := 3) hx hb dX6_append_52 (by decide) ?_
  refine lv_iload_n hx hb dX6_append_3 rfl (lv_at hl 0 rfl) ?_
  refine lv_if_lt (tgt := 55) hx hb dX6_append_4 (by decide) (fun c4'''' => ?_) (fun c4'''' => absurd (by decide) c4'''')
  exact hret _ _ _ ls hS (hP) dX6_append_55

theorem in_X6_at_6 : ∀ w ∈ wsX60, w ∈ wsX6_at := fun _ h => List.mem_cons_of_mem _ (List.mem_append_right _ (h))
set_option maxHeartbeats 4000000 in
set_option maxRecDepth 100000 in
theorem kX6_at (l : Launch) (D : va_G) (cI cB : ClassId) (t tb n : Nat) (B : Nat → Int32) (i : Int32) (hn : n ≤ 840) : Rd l D (TY cI cB) yX6_at wsX6_at 0 0 [.ref t, .int i] [(t, .inr (6, [.ref tb, .int (nI n)])), (tb, .inl (cB, 840, .inl B))] (tapeX B n i) := by
  refine rd_i (cc := cX6_at) (maxL := 2) (by decide) rfl (Nat.le_of_ble_eq_true rfl) ?_
  intro p_ e_ s_ m_ ar_ be_ me_ co_ ls Q_ hx hb hml hown hts hP hK hl hret
  have hown : s_.vm.findClass RX6 = some m_.cls := hown
  have hl : lv_has ls 2 [(0, .ref t), (1, .int i)] := hl
  refine lv_iload_n hx hb dX6_at_0 rfl (lv_at hl 1 rfl) ?_
  refine lv_if_lt (tgt := 34) hx hb dX6_at_1 (by decide) (fun c1 => ?_) (fun c1 => ?_)
  · refine lv_iconst (v := 0) hx hb dX6_at_34 (by decide) ?_
    exact hret _ _ ls (by simp [tapeX, c1]) dX6_at_35
  · refine lv_iload_n hx hb dX6_at_4 rfl (lv_at hl 1 rfl) ?_
    refine lv_aload_n hx hb dX6_at_5 rfl (lv_at hl 0 rfl) ?_
    refine g_get (C := RX6) (T := TX6) (N := 2) (ci := 6) (index := 13) hx hb hts in_X6_at_6 hown hK hP 0 1 rfl rfl (by decide) (List.mem_of_getElem? (i := 1) rfl) rfl dX6_at_6 ?_
    refine lv_icmp_ge (tgt := 34) hx hb dX6_at_9 (by decide) (fun c9 => ?_) (fun c9 => ?_)
    · refine lv_iconst (v := 0) hx hb dX6_at_34 (by decide) ?_
      exact hret _ _ ls (by simp [tapeX, c1, c9]) dX6_at_35
    · refine lv_iload_n hx hb dX6_at_12 rfl (lv_at hl 1 rfl) ?_
      refine lv_aload_n hx hb dX6_at_13 rfl (lv_at hl 0 rfl) ?_
      refine g_get (C := RX6) (T := TX6) (N := 2) (ci := 6) (index := 9) hx hb hts in_X6_at_6 hown hK hP 0 0 rfl rfl (by decide) (List.mem_of_getElem? (i := 2) rfl) rfl dX6_at_14 ?_
      refine va_alen (v := nI 840) hx hb hK hP 1 1 rfl rfl rfl dX6_at_17 ?_
      refine lv_icmp_ge (tgt := 34) hx hb dX6_at_18 (by decide) (fun c18 => absurd c18 (nle_nI c9 hn (by omega))) (fun c18 => ?_)
      refine lv_aload_n hx hb dX6_at_21 rfl (lv_at hl 0 rfl) ?_
      refine g_get (C := RX6) (T := TX6) (N := 2) (ci := 6) (index := 9) hx hb hts in_X6_at_6 hown hK hP 0 0 rfl rfl (by decide) (List.mem_of_getElem? (i := 2) rfl) rfl dX6_at_22 ?_
      refine lv_iload_n hx hb dX6_at_25 rfl (lv_at hl 1 rfl) ?_
      refine va_bald hx hb hK hP 1 1 rfl rfl (in_nI c1 c18 (by omega)) dX6_at_26 ?_
      refine lv_sipush (v := 255) hx hb dX6_at_27 (by decide) ?_
      refine lv_iand hx hb dX6_at_30 ?_
      refine lv_goto (tgt := 35) hx hb dX6_at_31 (by decide) ?_
      exact hret _ _ ls (by simp [tapeX, c1, c9, c18]) dX6_at_35

theorem in_X2_forgetOldest_2 : ∀ w ∈ wsX20, w ∈ wsX2_forgetOldest := fun _ h => List.mem_cons_of_mem _ (List.mem_append_right _ (h))
set_option maxHeartbeats 4000000 in
set_option maxRecDepth 100000 in
theorem kX2_forgetOldest (l : Launch) (D : va_G) (cI cB : ClassId) (dd dk n : Nat) (K : Nat → Int32)  : Wr l D (TY cI cB) yX2_forgetOldest wsX2_forgetOldest 0 0 [.ref dd] [(dd, .inr (2, [.ref dk, .int (nI n)])), (dk, .inl (cI, 12, .inl K))] [(dd, .inr (2, [.ref dk, .int (nI 11)])), (dk, .inl (cI, 12, .inl (shK K 11)))] none := by
  refine wr_v (cc := cX2_forgetOldest) (maxL := 2) (by decide) rfl (Nat.le_of_ble_eq_true rfl) ?_
  intro p_ e_ s_ m_ ar_ be_ me_ co_ ls Q_ A_ hx hb hml hown hts hP hK hD hS hl hret
  have hown : s_.vm.findClass RX2 = some m_.cls := hown
  have hl : lv_has ls 2 [(0, .ref dd)] := hl
  refine lv_iconst (v := 1) hx hb dX2_forgetOldest_0 (by decide) ?_
  refine lv_istore_n (lv' := [(1, .int 1), (0, .ref dd)]) hx hb dX2_forgetOldest_1 rfl hl (by decide) rfl (fun ls hl => ?_)
  have L2 : ∀ (nn_ : Nat) (j : Nat) (hj : j ≤ 11) (xx_v1 : Int32) (xx_g1 : Nat → Int32), (11 - j) < nn_ → xx_v1 = nI (j + 1) → xx_g1 = shK K j → ∀ (H_ : Heap) (lc_ : List Loc), va_P D vwCl [(dd, .inr (2, [.ref dk, .int (nI n)])), (dk, .inl (cI, 12, .inl xx_g1))] H_ → va_D A_ [(dd, .inr (2, [.ref dk, .int (nI n)])), (dk, .inl (cI, 12, .inl xx_g1))] → va_S A_ s_.heap H_ lc_ → ∀ (ls : Array Slot), lv_has ls 2 [(0, .ref dd), (1, .int xx_v1)] → W p_ l e_ (RM 0 0) s_ m_ ar_ be_ me_ co_ H_ lc_ 0 0 Q_ (F0 m_ 2 ls []) := by
    intro nn_
    induction nn_ with
    | zero => intro j hj xx_v1 xx_g1 hn_; exact absurd hn_ (Nat.not_lt_zero _)
    | succ nn_ ih2 =>
      intro j hj xx_v1 xx_g1 hn_ e_xx_v1 e_xx_g1 H_ lc_ hP hD hS ls hl
      subst e_xx_v1 e_xx_g1
      refine lv_iload_n hx hb dX2_forgetOldest_2 rfl (lv_at hl 1 rfl) ?_
      refine lv_aload_n hx hb dX2_forgetOldest_3 rfl (lv_at hl 0 rfl) ?_
      refine g_get (C := RX2) (T := TX2) (N := 2) (ci := 2) (index := 9) hx hb hts in_X2_forgetOldest_2 hown hK hP 0 0 rfl rfl (by decide) (List.mem_of_getElem? (i := 1) rfl) rfl dX2_forgetOldest_4 ?_
      refine va_alen (v := nI 12) hx hb hK hP 1 0 rfl rfl rfl dX2_forgetOldest_7 ?_
      refine lv_icmp_ge (tgt := 31) hx hb dX2_forgetOldest_8 (by decide) (fun c8 => ?_) (fun c8 => ?_)
      · obtain rfl : j = 11 := by have q := ge_nI c8 (by omega) (by omega); omega
        refine lv_aload_n hx hb dX2_forgetOldest_31 rfl (lv_at hl 0 rfl) ?_
        refine lv_aload_n hx hb dX2_forgetOldest_32 rfl (lv_at hl 0 rfl) ?_
        refine g_get (C := RX2) (T := TX2) (N := 2) (ci := 2) (index := 9) hx hb hts in_X2_forgetOldest_2 hown hK hP 0 0 rfl rfl (by decide) (List.mem_of_getElem? (i := 1) rfl) rfl dX2_forgetOldest_33 ?_
        refine va_alen (v := nI 12) hx hb hK hP 1 0 rfl rfl rfl dX2_forgetOldest_36 ?_
        refine lv_iconst (v := 1) hx hb dX2_forgetOldest_37 (by decide) ?_
        refine lv_isub hx hb dX2_forgetOldest_38 ?_
        rw [show ((nI 12) - 1 : Int32) = nI 11 from by decide]
        refine g_put (C := RX2) (T := TX2) (N := 2) (ci := 2) (index := 13) (v := .int (nI 11)) (ws' := [(dd, .inr (2, [.ref dk, .int (nI 11)])), (dk, .inl (cI, 12, .inl (shK K 11)))]) hx hb hts in_X2_forgetOldest_2 tyX2 tyX2_ok nmX2 hown hK hP hD hS 0 1 rfl rfl (by decide) (List.mem_of_getElem? (i := 2) rfl) rfl rfl rfl (Nat.le_of_ble_eq_true rfl) dX2_forgetOldest_39 rfl (fun H_ lc_ hP hD hS => ?_)
        exact hret _ _ _ ls hS (hP) dX2_forgetOldest_42
      · have hlt : j < 11 := by have q := lt_nI c8 (by omega) (by omega); omega
        refine lv_aload_n hx hb dX2_forgetOldest_11 rfl (lv_at hl 0 rfl) ?_
        refine g_get (C := RX2) (T := TX2) (N := 2) (ci := 2) (index := 9) hx hb hts in_X2_forgetOldest_2 hown hK hP 0 0 rfl rfl (by decide) (List.mem_of_getElem? (i := 1) rfl) rfl dX2_forgetOldest_12 ?_
        refine lv_iload_n hx hb dX2_forgetOldest_15 rfl (lv_at hl 1 rfl) ?_
        refine lv_iconst (v := 1) hx hb dX2_forgetOldest_16 (by decide) ?_
        refine lv_isub hx hb dX2_forgetOldest_17 ?_
        rw [show ((nI (j + 1)) - 1 : Int32) = nI j from nI_pred j]
        refine lv_aload_n hx hb dX2_forgetOldest_18 rfl (lv_at hl 0 rfl) ?_
        refine g_get (C := RX2) (T := TX2) (N := 2) (ci := 2) (index := 9) hx hb hts in_X2_forgetOldest_2 hown hK hP 0 0 rfl rfl (by decide) (List.mem_of_getElem? (i := 1) rfl) rfl dX2_forgetOldest_19 ?_
        refine lv_iload_n hx hb dX2_forgetOldest_22 rfl (lv_at hl 1 rfl) ?_
        refine g_iald hx hb hK hP 1 0 rfl rfl (j + 1) (rfl) (by omega) (by omega) dX2_forgetOldest_23 ?_
        rw [show ((shK K j) (j + 1) : Int32) = K (j + 1) from shK_at K j]
        refine g_iast hx hb hK hP hD hS 1 0 rfl rfl j (rfl) (by omega) (by omega) dX2_forgetOldest_24 (fun H_ lc_ hP hD hS => ?_)
        have hP : va_P D vwCl [(dd, .inr (2, [.ref dk, .int (nI n)])), (dk, .inl (cI, 12, .inl (upd (shK K j) j (K (j + 1)))))] H_ := hP
        have hD : va_D A_ [(dd, .inr (2, [.ref dk, .int (nI n)])), (dk, .inl (cI, 12, .inl (upd (shK K j) j (K (j + 1)))))] := hD
        refine lv_iinc (v := nI ((j + 1) + 1)) (lv' := [(1, .int (nI ((j + 1) + 1))), (0, .ref dd)]) hx hb dX2_forgetOldest_25 hl (k := 1) rfl (nI_add _ 1) (by decide) rfl (fun ls hl => ?_)
        refine lv_goto (tgt := 2) hx hb dX2_forgetOldest_28 (by decide) ?_
        exact ih2 (j + 1) (by omega) _ _ (by omega) (rfl) (shK_s K j) _ _ hP hD hS ls (lv_sub hl [1, 0] rfl)
  exact L2 (11 - 0 + 1) 0 (by omega) _ _ (Nat.lt_succ_self _) (by decide) ((shK_0 K).symm) _ _ hP hD hS ls (lv_sub hl [1, 0] rfl)

theorem in_X2_keep_2 : ∀ w ∈ wsX20, w ∈ wsX2_keep := fun _ h => List.mem_cons_of_mem _ (List.mem_append_right _ (h))
set_option maxHeartbeats 4000000 in
set_option maxRecDepth 100000 in
theorem kX2_keep (l : Launch) (D : va_G) (cI cB : ClassId) (dd dk n : Nat) (K : Nat → Int32) (x : Int32) (hn : n ≤ 12) : Wr l D (TY cI cB) yX2_keep wsX2_keep 1 21 [.ref dd, .int x] [(dd, .inr (2, [.ref dk, .int (nI n)])), (dk, .inl (cI, 12, .inl K))] [(dd, .inr (2, [.ref dk, .int (nI (kpN n))])), (dk, .inl (cI, 12, .inl (kpK K n x)))] none := by
  refine wr_v (cc := cX2_keep) (maxL := 2) (by decide) rfl (Nat.le_of_ble_eq_true rfl) ?_
  intro p_ e_ s_ m_ ar_ be_ me_ co_ ls Q_ A_ hx hb hml hown hts hP hK hD hS hl hret
  have hown : s_.vm.findClass RX2 = some m_.cls := hown
  have hl : lv_has ls 2 [(0, .ref dd), (1, .int x)] := hl
  refine lv_aload_n hx hb dX2_keep_0 rfl (lv_at hl 0 rfl) ?_
  refine g_get (C := RX2) (T := TX2) (N := 2) (ci := 2) (index := 13) hx hb hts in_X2_keep_2 hown hK hP 0 1 rfl rfl (by decide) (List.mem_of_getElem? (i := 1) rfl) rfl dX2_keep_1 ?_
  refine lv_aload_n hx hb dX2_keep_4 rfl (lv_at hl 0 rfl) ?_
  refine g_get (C := RX2) (T := TX2) (N := 2) (ci := 2) (index := 9) hx hb hts in_X2_keep_2 hown hK hP 0 0 rfl rfl (by decide) (List.mem_of_getElem? (i := 2) rfl) rfl dX2_keep_5 ?_
  refine va_alen (v := nI 12) hx hb hK hP 1 0 rfl rfl rfl dX2_keep_8 ?_
  refine lv_icmp_lt (tgt := 16) hx hb dX2_keep_9 (by decide) (fun c9 => ?_) (fun c9 => ?_)
  · try have hn2 := lt_nI' c9 (by omega) (by omega)
    refine lv_aload_n hx hb dX2_keep_16 rfl (lv_at hl 0 rfl) ?_
    refine g_get (C := RX2) (T := TX2) (N := 2) (ci := 2) (index := 13) hx hb hts in_X2_keep_2 hown hK hP 0 1 rfl rfl (by decide) (List.mem_of_getElem? (i := 1) rfl) rfl dX2_keep_17 ?_
    refine lv_if_lt (tgt := 55) hx hb dX2_keep_20 (by decide) (fun c20 => absurd c20 (nI_pos (by omega))) (fun c20 => ?_)
    refine lv_aload_n hx hb dX2_keep_23 rfl (lv_at hl 0 rfl) ?_
    refine g_get (C := RX2) (T := TX2) (N := 2) (ci := 2) (index := 13) hx hb hts in_X2_keep_2 hown hK hP 0 1 rfl rfl (by decide) (List.mem_of_getElem? (i := 1) rfl) rfl dX2_keep_24 ?_
    refine lv_aload_n hx hb dX2_keep_27 rfl (lv_at hl 0 rfl) ?_
    refine g_get (C := RX2) (T := TX2) (N := 2) (ci := 2) (index := 9) hx hb hts in_X2_keep_2 hown hK hP 0 0 rfl rfl (by decide) (List.mem_of_getElem? (i := 2) rfl) rfl dX2_keep_28 ?_
    refine va_alen (v := nI 12) hx hb hK hP 1 0 rfl rfl rfl dX2_keep_31 ?_
    refine lv_icmp_ge (tgt := 55) hx hb dX2_keep_32 (by decide) (fun c32 => absurd c32 (nI_ge (by omega) (by omega))) (fun c32 => ?_)
    refine lv_aload_n hx hb dX2_keep_35 rfl (lv_at hl 0 rfl) ?_
    refine g_get (C := RX2) (T := TX2) (N := 2) (ci := 2) (index := 9) hx hb hts in_X2_keep_2 hown hK hP 0 0 rfl rfl (by decide) (List.mem_of_getElem? (i := 2) rfl) rfl dX2_keep_36 ?_
    refine lv_aload_n hx hb dX2_keep_39 rfl (lv_at hl 0 rfl) ?_
    refine g_get (C := RX2) (T := TX2) (N := 2) (ci := 2) (index := 13) hx hb hts in_X2_keep_2 hown hK hP 0 1 rfl rfl (by decide) (List.mem_of_getElem? (i := 1) rfl) rfl dX2_keep_40 ?_
    refine lv_iload_n hx hb dX2_keep_43 rfl (lv_at hl 1 rfl) ?_
    refine g_iast hx hb hK hP hD hS 1 0 rfl rfl n (rfl) (by omega) (by omega) dX2_keep_44 (fun H_ lc_ hP hD hS => ?_)
    have hP : va_P D vwCl [(dd, .inr (2, [.ref dk, .int (nI n)])), (dk, .inl (cI, 12, .inl (upd K n x)))] H_ := hP
    have hD : va_D A_ [(dd, .inr (2, [.ref dk, .int (nI n)])), (dk, .inl (cI, 12, .inl (upd K n x)))] := hD
    refine lv_aload_n hx hb dX2_keep_45 rfl (lv_at hl 0 rfl) ?_
    refine lv_dup hx hb dX2_keep_46 rfl ?_
    refine g_get (C := RX2) (T := TX2) (N := 2) (ci := 2) (index := 13) hx hb hts in_X2_keep_2 hown hK hP 0 1 rfl rfl (by decide) (List.mem_of_getElem? (i := 1) rfl) rfl dX2_keep_47 ?_
    refine lv_iconst (v := 1) hx hb dX2_keep_50 (by decide) ?_
    refine lv_iadd hx hb dX2_keep_51 ?_
    rw [show ((nI n) + 1 : Int32) = nI (n + 1) from nI_1 n]
    refine g_put (C := RX2) (T := TX2) (N := 2) (ci := 2) (index := 13) (v := .int (nI (n + 1))) (ws' := [(dd, .inr (2, [.ref dk, .int (nI (n + 1))])), (dk, .inl (cI, 12, .inl (upd K n x)))]) hx hb hts in_X2_keep_2 tyX2 tyX2_ok nmX2 hown hK hP hD hS 0 1 rfl rfl (by decide) (List.mem_of_getElem? (i := 1) rfl) rfl rfl rfl (Nat.le_of_ble_eq_true rfl) dX2_keep_52 rfl (fun H_ lc_ hP hD hS => ?_)
    exact hret _ _ _ ls hS (by simpa only [kpK, kpN, if_pos hn2] using hP) dX2_keep_55
  · have hn12 : n = 12 := by have q := ge_nI' c9 (by omega) (by omega); omega
    refine lv_aload_n hx hb dX2_keep_12 rfl (lv_at hl 0 rfl) ?_
    refine wr_V (As := []) (rest := []) (ci := 2) (ws' := [(dd, .inr (2, [.ref dk, .int (nI 11)])), (dk, .inl (cI, 12, .inl (shK K 11)))]) (kX2_forgetOldest l D cI cB dd dk n K ) ⟨hx, hb, hml, hown, hts⟩ (cwV 0 hts gX2_keep_X2_forgetOldest rfl rfl rfl (by decide +kernel) ⟨Nat.le_of_ble_eq_true rfl, Nat.le_of_ble_eq_true rfl⟩) hK hP hD hS [0, 1] rfl (by decide +kernel) rfl rfl 0 rfl rfl rfl rfl hl.1 (Nat.le_of_ble_eq_true rfl) dX2_keep_13 ⟨Nat.le_refl _, Nat.le_refl _⟩ (fun H_ lc_ hP hD hS => ?_)
    show W p_ l e_ (RM 1 21) s_ m_ ar_ be_ me_ co_ H_ lc_ 0 0 Q_ (F0 m_ 16 ls [])
    try have hn2 := lt_nI' c9 (by omega) (by omega)
    refine lv_aload_n hx hb dX2_keep_16 rfl (lv_at hl 0 rfl) ?_
    refine g_get (C := RX2) (T := TX2) (N := 2) (ci := 2) (index := 13) hx hb hts in_X2_keep_2 hown hK hP 0 1 rfl rfl (by decide) (List.mem_of_getElem? (i := 1) rfl) rfl dX2_keep_17 ?_
    refine lv_if_lt (tgt := 55) hx hb dX2_keep_20 (by decide) (fun c20 => absurd c20 (nI_pos (by omega))) (fun c20 => ?_)
    refine lv_aload_n hx hb dX2_keep_23 rfl (lv_at hl 0 rfl) ?_
    refine g_get (C := RX2) (T := TX2) (N := 2) (ci := 2) (index := 13) hx hb hts in_X2_keep_2 hown hK hP 0 1 rfl rfl (by decide) (List.mem_of_getElem? (i := 1) rfl) rfl dX2_keep_24 ?_
    refine lv_aload_n hx hb dX2_keep_27 rfl (lv_at hl 0 rfl) ?_
    refine g_get (C := RX2) (T := TX2) (N := 2) (ci := 2) (index := 9) hx hb hts in_X2_keep_2 hown hK hP 0 0 rfl rfl (by decide) (List.mem_of_getElem? (i := 2) rfl) rfl dX2_keep_28 ?_
    refine va_alen (v := nI 12) hx hb hK hP 1 0 rfl rfl rfl dX2_keep_31 ?_
    refine lv_icmp_ge (tgt := 55) hx hb dX2_keep_32 (by decide) (fun c32 => absurd c32 (nI_ge (by omega) (by omega))) (fun c32 => ?_)
    refine lv_aload_n hx hb dX2_keep_35 rfl (lv_at hl 0 rfl) ?_
    refine g_get (C := RX2) (T := TX2) (N := 2) (ci := 2) (index := 9) hx hb hts in_X2_keep_2 hown hK hP 0 0 rfl rfl (by decide) (List.mem_of_getElem? (i := 2) rfl) rfl dX2_keep_36 ?_
    refine lv_aload_n hx hb dX2_keep_39 rfl (lv_at hl 0 rfl) ?_
    refine g_get (C := RX2) (T := TX2) (N := 2) (ci := 2) (index := 13) hx hb hts in_X2_keep_2 hown hK hP 0 1 rfl rfl (by decide) (List.mem_of_getElem? (i := 1) rfl) rfl dX2_keep_40 ?_
    refine lv_iload_n hx hb dX2_keep_43 rfl (lv_at hl 1 rfl) ?_
    refine g_iast hx hb hK hP hD hS 1 0 rfl rfl 11 (rfl) (by omega) (by omega) dX2_keep_44 (fun H_ lc_ hP hD hS => ?_)
    have hP : va_P D vwCl [(dd, .inr (2, [.ref dk, .int (nI 11)])), (dk, .inl (cI, 12, .inl (upd (shK K 11) 11 x)))] H_ := hP
    have hD : va_D A_ [(dd, .inr (2, [.ref dk, .int (nI 11)])), (dk, .inl (cI, 12, .inl (upd (shK K 11) 11 x)))] := hD
    refine lv_aload_n hx hb dX2_keep_45 rfl (lv_at hl 0 rfl) ?_
    refine lv_dup hx hb dX2_keep_46 rfl ?_
    refine g_get (C := RX2) (T := TX2) (N := 2) (ci := 2) (index := 13) hx hb hts in_X2_keep_2 hown hK hP 0 1 rfl rfl (by decide) (List.mem_of_getElem? (i := 1) rfl) rfl dX2_keep_47 ?_
    refine lv_iconst (v := 1) hx hb dX2_keep_50 (by decide) ?_
    refine lv_iadd hx hb dX2_keep_51 ?_
    rw [show ((nI 11) + 1 : Int32) = nI 12 from by decide]
    refine g_put (C := RX2) (T := TX2) (N := 2) (ci := 2) (index := 13) (v := .int (nI 12)) (ws' := [(dd, .inr (2, [.ref dk, .int (nI 12)])), (dk, .inl (cI, 12, .inl (upd (shK K 11) 11 x)))]) hx hb hts in_X2_keep_2 tyX2 tyX2_ok nmX2 hown hK hP hD hS 0 1 rfl rfl (by decide) (List.mem_of_getElem? (i := 1) rfl) rfl rfl rfl (Nat.le_of_ble_eq_true rfl) dX2_keep_52 rfl (fun H_ lc_ hP hD hS => ?_)
    exact hret _ _ _ ls hS (by rw [hn12]; exact hP) dX2_keep_55

theorem in_X2_takeLatest_2 : ∀ w ∈ wsX20, w ∈ wsX2_takeLatest := fun _ h => List.mem_cons_of_mem _ (List.mem_append_right _ (h))
set_option maxHeartbeats 4000000 in
set_option maxRecDepth 100000 in
theorem kX2_takeLatest (l : Launch) (D : va_G) (cI cB : ClassId) (dd dk n : Nat) (K : Nat → Int32) (hn : n ≤ 12) : Wr l D (TY cI cB) yX2_takeLatest wsX2_takeLatest 0 0 [.ref dd] [(dd, .inr (2, [.ref dk, .int (nI n)])), (dk, .inl (cI, 12, .inl K))] [(dd, .inr (2, [.ref dk, .int (nI (n - 1))])), (dk, .inl (cI, 12, .inl K))] (some (.int (tlR K n))) := by
  refine wr_i (cc := cX2_takeLatest) (maxL := 1) (by decide) rfl (Nat.le_of_ble_eq_true rfl) ?_
  intro p_ e_ s_ m_ ar_ be_ me_ co_ ls Q_ A_ hx hb hml hown hts hP hK hD hS hl hret
  have hown : s_.vm.findClass RX2 = some m_.cls := hown
  have hl : lv_has ls 1 [(0, .ref dd)] := hl
  refine lv_aload_n hx hb dX2_takeLatest_0 rfl (lv_at hl 0 rfl) ?_
  refine g_get (C := RX2) (T := TX2) (N := 2) (ci := 2) (index := 13) hx hb hts in_X2_takeLatest_2 hown hK hP 0 1 rfl rfl (by decide) (List.mem_of_getElem? (i := 1) rfl) rfl dX2_takeLatest_1 ?_
  refine lv_iconst (v := 1) hx hb dX2_takeLatest_4 (by decide) ?_
  refine lv_icmp_lt (tgt := 20) hx hb dX2_takeLatest_5 (by decide) (fun c5 => ?_) (fun c5 => ?_)
  · obtain rfl : n = 0 := by have q := lt_nI' (b := 1) c5 (by omega) (by omega); omega
    refine lv_iconst (v := -1) hx hb dX2_takeLatest_20 (by decide) ?_
    exact hret _ _ _ _ ls hS (hP) (rfl) dX2_takeLatest_21
  · refine lv_aload_n hx hb dX2_takeLatest_8 rfl (lv_at hl 0 rfl) ?_
    refine g_get (C := RX2) (T := TX2) (N := 2) (ci := 2) (index := 13) hx hb hts in_X2_takeLatest_2 hown hK hP 0 1 rfl rfl (by decide) (List.mem_of_getElem? (i := 1) rfl) rfl dX2_takeLatest_9 ?_
    refine lv_aload_n hx hb dX2_takeLatest_12 rfl (lv_at hl 0 rfl) ?_
    refine g_get (C := RX2) (T := TX2) (N := 2) (ci := 2) (index := 9) hx hb hts in_X2_takeLatest_2 hown hK hP 0 0 rfl rfl (by decide) (List.mem_of_getElem? (i := 2) rfl) rfl dX2_takeLatest_13 ?_
    refine va_alen (v := nI 12) hx hb hK hP 1 0 rfl rfl rfl dX2_takeLatest_16 ?_
    refine lv_icmp_le (tgt := 22) hx hb dX2_takeLatest_17 (by decide) (fun c17 => ?_) (fun c17 => absurd (nI_le hn (by omega)) c17)
    have hn1 : 1 ≤ n := ge_nI' (b := 1) c5 (by omega) (by omega)
    refine lv_aload_n hx hb dX2_takeLatest_22 rfl (lv_at hl 0 rfl) ?_
    refine lv_dup hx hb dX2_takeLatest_23 rfl ?_
    refine g_get (C := RX2) (T := TX2) (N := 2) (ci := 2) (index := 13) hx hb hts in_X2_takeLatest_2 hown hK hP 0 1 rfl rfl (by decide) (List.mem_of_getElem? (i := 1) rfl) rfl dX2_takeLatest_24 ?_
    refine lv_iconst (v := 1) hx hb dX2_takeLatest_27 (by decide) ?_
    refine lv_isub hx hb dX2_takeLatest_28 ?_
    rw [show ((nI n) - 1 : Int32) = nI (n - 1) from pk_sub hn1]
    refine g_put (C := RX2) (T := TX2) (N := 2) (ci := 2) (index := 13) (v := .int (nI (n - 1))) (ws' := [(dd, .inr (2, [.ref dk, .int (nI (n - 1))])), (dk, .inl (cI, 12, .inl K))]) hx hb hts in_X2_takeLatest_2 tyX2 tyX2_ok nmX2 hown hK hP hD hS 0 1 rfl rfl (by decide) (List.mem_of_getElem? (i := 1) rfl) rfl rfl rfl (Nat.le_of_ble_eq_true rfl) dX2_takeLatest_29 rfl (fun H_ lc_ hP hD hS => ?_)
    refine lv_aload_n hx hb dX2_takeLatest_32 rfl (lv_at hl 0 rfl) ?_
    refine g_get (C := RX2) (T := TX2) (N := 2) (ci := 2) (index := 9) hx hb hts in_X2_takeLatest_2 hown hK hP 0 0 rfl rfl (by decide) (List.mem_of_getElem? (i := 2) rfl) rfl dX2_takeLatest_33 ?_
    refine lv_aload_n hx hb dX2_takeLatest_36 rfl (lv_at hl 0 rfl) ?_
    refine g_get (C := RX2) (T := TX2) (N := 2) (ci := 2) (index := 13) hx hb hts in_X2_takeLatest_2 hown hK hP 0 1 rfl rfl (by decide) (List.mem_of_getElem? (i := 1) rfl) rfl dX2_takeLatest_37 ?_
    refine g_iald hx hb hK hP 1 0 rfl rfl (n - 1) (rfl) (by omega) (by omega) dX2_takeLatest_40 ?_
    exact hret _ _ _ _ ls hS (hP) (by simp [tlR, show n ≠ 0 by omega]) dX2_takeLatest_41

