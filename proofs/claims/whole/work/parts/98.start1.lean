set_option maxHeartbeats 4000000 in
set_option maxRecDepth 100000 in
theorem whole_start {p : Program} {e : Env} {s : State} {m : MethodId} {below : List Frame} {meth : Method} {c : Code} (l : Launch) (hflags : l.flags = flags0) {b L : Nat} {xs : Nat → Int32} (hL : L ≤ 3072) (C0 : lw_At p s m meth c b L xs) : W p l e room_1 s m #[Value.ref b] below meth c s.heap [] 0 0 (lw_Z below #[Value.ref b] s) (entryFrame m ([Value.ref b] : List Value).toArray 7) := by
  obtain ⟨hx, hb, hr, hml, hown, hts, hX, hbl, hlocks, hgv⟩ := C0
  obtain ⟨D, cI, cB, cL, hK3⟩ := st_K hts
  obtain ⟨F, hF⟩ := st_SF hts hgv
  obtain ⟨x1, x2, hXF⟩ := st_XF hts hgv
  have hNF := st_NF hts
  have hown : s.vm.findClass RL = some m.cls := hown
  have hK : va_K D vwCl (TY cI cB) s := hK3.sub [0, 1] rfl
  have htw : ∀ w ∈ wsL_law, w.before #[Value.ref b] s = true := fun w h => hts w (wsL_law_in w h)
  have C : LCx p l s m c b L xs D cI cB cL F x1 x2 := ⟨hx, hb, hml, hown, htw, hX, hbl, hK3, hF, hXF, st_off hflags, hL⟩
  have hA : ∀ q : Nat, s.heap.size ≤ q → (fun q : Nat => s.heap.size ≤ q) q := fun _ h => h
  have hS : va_S (fun q : Nat => s.heap.size ≤ q) s.heap s.heap [] := va_S.rf
  have hP : va_P D vwCl [] s.heap := fun k q h => by simp at h
  have hD : va_D (fun q : Nat => s.heap.size ≤ q) [] := ⟨fun i j p q h => by simp at h, fun k q h => by simp at h⟩
  have hl := lv_entry ([.ref b]) (n := 7) (Nat.le_of_ble_eq_true rfl)
  rw [lg_entry_eq]
  generalize (lg_sl ([.ref b]) ++ List.replicate (7 - (lg_sl ([.ref b])).length) Slot.unset).toArray = ls at hl ⊢
  have hl : lv_has ls 7 [(0, .ref b)] := hl
  refine va_new (ci := 8) (fs := [.null, .null, .null, .null, .null, .null, .null, .null, .int 0]) (C := RX8) (T := TX8) (N := 9) hx hb hts lin_wsX80 tyX8 tyX8_ok hown (hts (.classLink RL 8 RX8) (by decide +kernel)) (hts (.instantiable RX8 9) (by decide +kernel)) (hts (.initialized RX8) (by decide +kernel)) hK hP hD hS hA rfl (fun j hj => by rcases (show j = 0 ∨ j = 1 ∨ j = 2 ∨ j = 3 ∨ j = 4 ∨ j = 5 ∨ j = 6 ∨ j = 7 ∨ j = 8 by omega) with rfl | rfl | rfl | rfl | rfl | rfl | rfl | rfl | rfl <;> rfl) (Nat.le_of_ble_eq_true rfl) (Nat.le_of_ble_eq_true rfl) dL_law_0 (fun x0 H hP hD hS => ?_)
  refine lv_dup hx hb dL_law_3 rfl ?_
  refine nw_IF (As := []) (rest := [.ref x0]) (wr := []) (kX8_init l D cI cB x0) ⟨hx, hb, hml, hown, htw⟩ (cwI 0 htw gL_law_X8_init rfl rfl rfl (hts (.initialized RX8) (by decide +kernel)) (hts (.methodLink RL 15 yX8_init) (by decide +kernel)) (hts (.instanceMethod yX8_init) (by decide +kernel)) rfl (by decide +kernel) ⟨Nat.le_of_ble_eq_true rfl, Nat.le_of_ble_eq_true rfl⟩) hK hNF hP hD hS hA [0] [] rfl rfl (by decide) (by decide) (by decide) rfl rfl hl.1 (Nat.le_of_ble_eq_true rfl) dL_law_4 ⟨Nat.le_of_ble_eq_true rfl, Nat.le_of_ble_eq_true rfl⟩ (fun u H locs hP hD hS => ?_)
  refine lv_astore_n (lv' := [(1, .ref x0), (0, .ref b)]) hx hb dL_law_7 rfl hl (by decide) rfl (fun ls hl => ?_)
  refine va_new (ci := 9) (fs := [.int 0, .null, .int 0, .int 0, .int 0, .int 0, .int 0, .int 0, .int 0, .int 0, .long 0, .null, .null, .null, .int 0, .null, .null, .null, .null, .int 0]) (C := RX9) (T := TX9) (N := 20) hx hb hts lin_wsX90 tyX9 tyX9_ok hown (hts (.classLink RL 16 RX9) (by decide +kernel)) (hts (.instantiable RX9 20) (by decide +kernel)) (hts (.initialized RX9) (by decide +kernel)) hK hP hD hS hA rfl (fun j hj => by rcases (show j = 0 ∨ j = 1 ∨ j = 2 ∨ j = 3 ∨ j = 4 ∨ j = 5 ∨ j = 6 ∨ j = 7 ∨ j = 8 ∨ j = 9 ∨ j = 10 ∨ j = 11 ∨ j = 12 ∨ j = 13 ∨ j = 14 ∨ j = 15 ∨ j = 16 ∨ j = 17 ∨ j = 18 ∨ j = 19 by omega) with rfl | rfl | rfl | rfl | rfl | rfl | rfl | rfl | rfl | rfl | rfl | rfl | rfl | rfl | rfl | rfl | rfl | rfl | rfl | rfl <;> rfl) (Nat.le_of_ble_eq_true rfl) (Nat.le_of_ble_eq_true rfl) dL_law_8 (fun mo H hP hD hS => ?_)
  refine lv_dup hx hb dL_law_11 rfl ?_
  refine nw_I (As := []) (rest := [.ref mo]) (wr := wD ((fun j => match j with | 0 => x0 | 1 => u 0 | 2 => u 1 | 3 => u 2 | 4 => u 3 | 5 => u 4 | 6 => u 23 | 7 => u 42 | 8 => u 43 | 9 => u 44 | 10 => u 45 | 11 => u 46 | 12 => u 47 | 13 => u 48 | 14 => u 49 | 15 => u 50 | 16 => u 51 | 17 => 0 | 18 => 0 | 19 => 0 | 20 => 0 | 21 => 0 | 22 => 0 | 23 => 0 | 24 => 0 | 25 => 0 | 26 => 0 | _ => 0, fun j => match j with | 0 => fun k => u (5 + 3 * k) | 1 => fun k => u (6 + 3 * k) | 2 => fun k => u (7 + 3 * k) | 3 => fun k => u (24 + 3 * k) | 4 => fun k => u (25 + 3 * k) | 5 => fun k => u (26 + 3 * k) | _ => fun _ => 0) : LA) cI cB (0) ((0, 0, 0, 0, 0, 0, 0, fun _ => 0)) (0) (fun _ => 0) ((fun _ _ => 0, fun _ _ => 0, fun _ => 0, fun _ => 0)) (fun _ _ => 0) (fun _ _ => 0) (fun _ => 0) (fun _ => 0) (fun _ => 0) (fun _ => 0) (fun _ => 0) (fun _ => 0) (fun _ => 0) ((0, 0, 0, 0, 0, 0)) (0) (fun _ => 0)) (kX9_init l D cI cB mo) ⟨hx, hb, hml, hown, htw⟩ (cwI 0 htw gL_law_X9_init rfl rfl rfl (hts (.initialized RX9) (by decide +kernel)) (hts (.methodLink RL 18 yX9_init) (by decide +kernel)) (hts (.instanceMethod yX9_init) (by decide +kernel)) rfl (by decide +kernel) ⟨Nat.le_of_ble_eq_true rfl, Nat.le_of_ble_eq_true rfl⟩) hK hP hD hS hA [53] [0, 1, 2, 3, 4, 5, 6, 7, 8, 9, 10, 11, 12, 13, 14, 15, 16, 17, 18, 19, 20, 21, 22, 23, 24, 25, 26, 27, 28, 29, 30, 31, 32, 33, 34, 35, 36, 37, 38, 39, 40, 41, 42, 43, 44, 45, 46, 47, 48, 49, 50, 51, 52] rfl rfl (by decide) (by decide) (by decide) rfl rfl hl.1 (Nat.le_of_ble_eq_true rfl) dL_law_12 ⟨Nat.le_of_ble_eq_true rfl, Nat.le_of_ble_eq_true rfl⟩ (fun v H locs hP hD hS => ?_)
  refine lv_astore_n (lv' := [(2, .ref mo), (1, .ref x0), (0, .ref b)]) hx hb dL_law_15 rfl hl (by decide) rfl (fun ls hl => ?_)
  refine lv_iconst (v := 1) hx hb dL_law_16 (by decide) ?_
  refine nw_arrL hx hb (hts (.arrayClass .long) (by decide +kernel)) hK3 hP hD hS hA 1 rfl (by omega) (Nat.le_of_ble_eq_true rfl) (Nat.le_of_ble_eq_true rfl) dL_law_17 (fun ou H hP hD hS => ?_)
  refine lv_astore_n (lv' := [(3, .ref ou), (2, .ref mo), (1, .ref x0), (0, .ref b)]) hx hb dL_law_19 rfl hl (by decide) rfl (fun ls hl => ?_)
  refine lv_iconst (v := 0) hx hb dL_law_20 (by decide) ?_
  refine lv_istore (lv' := [(4, .int 0), (3, .ref ou), (2, .ref mo), (1, .ref x0), (0, .ref b)]) hx hb dL_law_21 hl (by decide) rfl (fun ls hl => ?_)
  refine W.widen (k := 1000 + 0) (n := 20000 + 6 * 0) (Nat.le_of_ble_eq_true rfl) (Nat.le_of_ble_eq_true rfl) ?_
  refine lw_loop C (a := ((fun j => match j with | 0 => x0 | 1 => u 0 | 2 => u 1 | 3 => u 2 | 4 => u 3 | 5 => u 4 | 6 => u 23 | 7 => u 42 | 8 => u 43 | 9 => u 44 | 10 => u 45 | 11 => u 46 | 12 => u 47 | 13 => u 48 | 14 => u 49 | 15 => u 50 | 16 => u 51 | 17 => mo | 18 => v 0 | 19 => v 1 | 20 => v 2 | 21 => v 3 | 22 => v 4 | 23 => v 5 | 24 => v 6 | 25 => v 7 | 26 => ou | _ => 0, fun j => match j with | 0 => fun k => u (5 + 3 * k) | 1 => fun k => u (6 + 3 * k) | 2 => fun k => u (7 + 3 * k) | 3 => fun k => u (24 + 3 * k) | 4 => fun k => u (25 + 3 * k) | 5 => fun k => u (26 + 3 * k) | _ => fun _ => 0) : LA)) (fun H locs cells slots ls hc hs hS => ?_) (L + 1) 0 (Nat.zero_le _) (by omega) H locs ls ⟨0, (0, 0, 0, 0, 0, 0, 0, fun _ => 0), 0, fun _ => 0, (fun _ _ => 0, fun _ _ => 0, fun _ => 0, fun _ => 0), fun _ _ => 0, fun _ _ => 0, fun _ => 0, fun _ => 0, fun _ => 0, fun _ => 0, fun _ => 0, fun _ => 0, fun _ => 0, (0, 0, 0, 0, 0, 0), 0, fun _ => 0, 0, 0, 0, 0, 0, 0, 0, 0, 0, fun _ => 0, fun _ => 0, fun _ => 0, fun _ => 0, fun _ => 0, fun _ => 0, fun _ => 0, fun _ => 0, fun _ => 0, ⟨⟨Nat.zero_le _, fun j hj => absurd hj (Nat.not_lt_zero _)⟩, YR_zero (fun j hj => rfl), trivial, Nat.zero_le _⟩, ?_, ?_, hS⟩ (lv_sub hl [4, 3, 2, 1, 0] rfl)
  · refine va_forget (fun q hq => hS.2.2 q hq) ?_
    exact W.widen hc hs (lw_ret hx hb hr hlocks dL_law_881)
  · rw [List.append_assoc] at hP
    exact hP
  · rw [List.append_assoc] at hD
    exact hD
