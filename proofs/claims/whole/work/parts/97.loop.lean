set_option maxHeartbeats 4000000 in
set_option maxRecDepth 100000 in
theorem lw_switch {p : Program} {l : Launch} {e : Env} {s : State} {m : MethodId} {below : List Frame} {meth : Method} {c : Code} {b N9 : Nat} {xs : Nat → Int32} {D : va_G} {cI cB cL : ClassId} {F : SFt} {x1 x2 : Nat} {a : LA} {H : Heap} {locs : List Loc} {cells slots : Nat} {Q : State → Prop} {ls : Array Slot} {i : Nat} (C : LCx p l s m c b N9 xs D cI cB cL F x1 x2) (hi : i + 5 < N9) (hc : cells + 1 ≤ 601024) (hs : slots + 6 ≤ 7293034) (I : LIv D cI cB cL s a H locs) (hl : lv_has ls 7 [(0, .ref b), (1, .ref a.x0), (2, .ref a.mo), (3, .ref a.ou), (4, .int (nI i))])
    (kk : ∀ (H1 : Heap) (locs1 : List Loc) (ls1 : Array Slot), LIv D cI cB cL s a H1 locs1 → lv_has ls1 7 [(0, .ref b), (1, .ref a.x0), (2, .ref a.mo), (3, .ref a.ou), (4, .int (nI i))] → W p l e room_1 s m #[Value.ref b] below meth c H1 locs1 (cells + 1) (slots + 6) Q (F0 m 874 ls1 [])) {v : Int32} : W p l e room_1 s m #[Value.ref b] below meth c H locs cells slots Q (F0 m 40 ls [.int v]) := by
  by_cases hv : v.toInt < 0 ∨ 22 < v.toInt
  · refine lv_tableOut (tgt := 874) C.hx C.hb dL_law_40 hv (by decide) ?_
    exact W.widen (k := cells + 1) (n := slots + 6) (Nat.le_succ _) (Nat.le_add_right _ _) (kk H locs ls I hl)
  · obtain ⟨q, hq, rfl⟩ := nI_of (x := v) (by rw [Int32.lt_iff_toInt_lt]; show ¬ v.toInt < 0; omega)
    rw [nI_toInt hq] at hv
    have hq2 : q ≤ 22 := by omega
    match q, hq2 with
    | 0, _ => exact lv_tableIn (off := 108) (tgt := 148) C.hx C.hb dL_law_40 (by decide) (by decide) (by decide) (by decide) (lw_c_feed C hi hc hs I hl kk)
    | 1, _ => exact lv_tableIn (off := 181) (tgt := 221) C.hx C.hb dL_law_40 (by decide) (by decide) (by decide) (by decide) (lw_c_end C hi hc hs I hl kk)
    | 2, _ => exact lv_tableIn (off := 206) (tgt := 246) C.hx C.hb dL_law_40 (by decide) (by decide) (by decide) (by decide) (lw_c_text C hi hc hs I hl kk)
    | 3, _ => exact lv_tableIn (off := 219) (tgt := 259) C.hx C.hb dL_law_40 (by decide) (by decide) (by decide) (by decide) (lw_c_fault C hi hc hs I hl kk)
    | 4, _ => exact lv_tableIn (off := 232) (tgt := 272) C.hx C.hb dL_law_40 (by decide) (by decide) (by decide) (by decide) (lw_c_now C hi hc hs I hl kk)
    | 5, _ => exact lv_tableIn (off := 257) (tgt := 297) C.hx C.hb dL_law_40 (by decide) (by decide) (by decide) (by decide) (lw_c_tax C hi hc hs I hl kk)
    | 6, _ => exact lv_tableIn (off := 282) (tgt := 322) C.hx C.hb dL_law_40 (by decide) (by decide) (by decide) (by decide) (lw_c_income C hi hc hs I hl kk)
    | 7, _ => exact lv_tableIn (off := 307) (tgt := 347) C.hx C.hb dL_law_40 (by decide) (by decide) (by decide) (by decide) (lw_c_period C hi hc hs I hl kk)
    | 8, _ => exact lv_tableIn (off := 344) (tgt := 384) C.hx C.hb dL_law_40 (by decide) (by decide) (by decide) (by decide) (lw_c_unpaid C hi hc hs I hl kk)
    | 9, _ => exact lv_tableIn (off := 381) (tgt := 421) C.hx C.hb dL_law_40 (by decide) (by decide) (by decide) (by decide) (lw_c_free C hi hc hs I hl kk)
    | 10, _ => exact lv_tableIn (off := 406) (tgt := 446) C.hx C.hb dL_law_40 (by decide) (by decide) (by decide) (by decide) (lw_c_rate C hi hc hs I hl kk)
    | 11, _ => exact lv_tableIn (off := 431) (tgt := 471) C.hx C.hb dL_law_40 (by decide) (by decide) (by decide) (by decide) (lw_c_payment C hi hc hs I hl kk)
    | 12, _ => exact lv_tableIn (off := 468) (tgt := 508) C.hx C.hb dL_law_40 (by decide) (by decide) (by decide) (by decide) (lw_c_late C hi hc hs I hl kk)
    | 13, _ => exact lv_tableIn (off := 536) (tgt := 576) C.hx C.hb dL_law_40 (by decide) (by decide) (by decide) (by decide) (lw_c_moved C hi hc hs I hl kk)
    | 14, _ => exact lv_tableIn (off := 573) (tgt := 613) C.hx C.hb dL_law_40 (by decide) (by decide) (by decide) (by decide) (lw_c_were C hi hc hs I hl kk)
    | 15, _ => exact lv_tableIn (off := 610) (tgt := 650) C.hx C.hb dL_law_40 (by decide) (by decide) (by decide) (by decide) (lw_c_barring C hi hc hs I hl kk)
    | 16, _ => exact lv_tableIn (off := 635) (tgt := 675) C.hx C.hb dL_law_40 (by decide) (by decide) (by decide) (by decide) (lw_c_latest C hi hc hs I hl kk)
    | 17, _ => exact lv_tableIn (off := 660) (tgt := 700) C.hx C.hb dL_law_40 (by decide) (by decide) (by decide) (by decide) (lw_c_clears C hi hc hs I hl kk)
    | 18, _ => exact lv_tableIn (off := 685) (tgt := 725) C.hx C.hb dL_law_40 (by decide) (by decide) (by decide) (by decide) (lw_c_earn C hi hc hs I hl kk)
    | 19, _ => exact lv_tableIn (off := 722) (tgt := 762) C.hx C.hb dL_law_40 (by decide) (by decide) (by decide) (by decide) (lw_c_pay C hi hc hs I hl kk)
    | 20, _ => exact lv_tableIn (off := 759) (tgt := 799) C.hx C.hb dL_law_40 (by decide) (by decide) (by decide) (by decide) (lw_c_refund C hi hc hs I hl kk)
    | 21, _ => exact lv_tableIn (off := 796) (tgt := 836) C.hx C.hb dL_law_40 (by decide) (by decide) (by decide) (by decide) (lw_c_bar C hi hc hs I hl kk)
    | 22, _ => exact lv_tableIn (off := 821) (tgt := 861) C.hx C.hb dL_law_40 (by decide) (by decide) (by decide) (by decide) (lw_c_undo C hi hc hs I hl kk)
    | j + 23, h => exact absurd h (by omega)
set_option maxHeartbeats 4000000 in
set_option maxRecDepth 100000 in
theorem lw_loop {p : Program} {l : Launch} {e : Env} {s : State} {m : MethodId} {below : List Frame} {meth : Method} {c : Code} {b N9 : Nat} {xs : Nat → Int32} {D : va_G} {cI cB cL : ClassId} {F : SFt} {x1 x2 : Nat} {a : LA} {Q : State → Prop} (C : LCx p l s m c b N9 xs D cI cB cL F x1 x2)
    (ex : ∀ (H : Heap) (locs : List Loc) (cells slots : Nat) (ls : Array Slot), cells ≤ 601024 → slots ≤ 7293034 → va_S (fun q : Nat => s.heap.size ≤ q) s.heap H locs → W p l e room_1 s m #[Value.ref b] below meth c H locs cells slots Q (F0 m 881 ls [.int 1])) :
    ∀ (n j : Nat), 6 * j ≤ N9 → N9 < 6 * j + n → ∀ (H : Heap) (locs : List Loc) (ls : Array Slot), LIv D cI cB cL s a H locs → lv_has ls 7 [(0, .ref b), (1, .ref a.x0), (2, .ref a.mo), (3, .ref a.ou), (4, .int (nI (6 * j)))] → W p l e room_1 s m #[Value.ref b] below meth c H locs (1000 + j) (20000 + 6 * j) Q (F0 m 23 ls []) := by
  have hN := C.hN
  intro n
  induction n with
  | zero => intro j h1 h2; exact absurd h2 (by omega)
  | succ n ih =>
    intro j h1 h2 H locs ls I hl
    have hS := (lw_hS I)
    refine lv_iload C.hx C.hb dL_law_23 (lv_at hl 4 rfl) ?_
    refine lv_aload_n C.hx C.hb dL_law_25 rfl (lv_at hl 0 rfl) ?_
    refine va_slen C.hx C.hb C.hX C.hbl (Nat.not_le.mpr C.hbl) hS dL_law_26 ?_
    refine lv_bipush (v := 6) C.hx C.hb dL_law_27 (by decide) ?_
    refine lv_isub C.hx C.hb dL_law_29 ?_
    have e1 : (Int32.ofNat N9 - 6).toInt = (N9 : Int) - 6 := by
      have e2 : (Int32.ofNat N9).toInt = (N9 : Int) := nI_toInt (n := N9) (by omega)
      rw [Int32.toInt_sub, e2]
      show Int.bmod ((N9 : Int) - 6) (2 ^ 32) = _
      exact Int.bmod_eq_of_le (by omega) (by omega)
    refine lv_icmp_gt (tgt := 880) C.hx C.hb dL_law_30 (by decide) (fun _ => ?_) (fun z => ?_)
    · refine lv_iconst (v := 1) C.hx C.hb dL_law_880 (by decide) ?_
      exact ex H locs _ _ ls (by omega) (by omega) hS
    · rw [Int32.lt_iff_toInt_lt, e1, nI_toInt (by omega)] at z
      have hi : 6 * j + 5 < N9 := by omega
      refine lv_aload_n C.hx C.hb dL_law_33 rfl (lv_at hl 0 rfl) ?_
      refine lv_iload C.hx C.hb dL_law_34 (lv_at hl 4 rfl) ?_
      refine va_sld C.hx C.hb C.hX C.hbl (Nat.not_le.mpr C.hbl) hS (vp_in_nI (by omega) (by omega)) dL_law_36 ?_
      refine lv_bipush (v := 31) C.hx C.hb dL_law_37 (by decide) ?_
      refine lv_iand C.hx C.hb dL_law_39 ?_
      refine lw_switch C hi (by omega) (by omega) I hl (fun H locs ls I hl => ?_)
      refine lv_iinc (v := nI (6 * (j + 1))) (lv' := [(4, .int (nI (6 * (j + 1)))), (0, .ref b), (1, .ref a.x0), (2, .ref a.mo), (3, .ref a.ou)]) C.hx C.hb dL_law_874 hl (k := 4) rfl (nI_add (6 * j) 6) (by decide) rfl (fun ls hl => ?_)
      refine lv_goto (tgt := 23) C.hx C.hb dL_law_877 (by decide) ?_
      exact ih (j + 1) (by omega) (by omega) H locs ls I (lv_sub hl [1, 2, 3, 4, 0] rfl)
