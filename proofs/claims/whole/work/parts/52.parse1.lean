theorem isbM_T {T : Nat → Int32} {n q : Nat} (hq : q < n) (h : T q = 32 ∨ T q = 10) : isbM T n q = true := by
  unfold isbM; rw [decide_eq_true hq]; rcases h with h | h <;> simp [h]
theorem isbM_F {T : Nat → Int32} {n q : Nat} (h : n ≤ q ∨ (¬ T q = 32 ∧ ¬ T q = 10)) : isbM T n q = false := by
  unfold isbM
  rcases h with h | ⟨h1, h2⟩
  · rw [decide_eq_false (by omega)]; rfl
  · simp [h1, h2]
theorem isaM_T {T : Nat → Int32} {n q : Nat} (h : ¬ isInM (tpA T n q) 97 122 = 0 ∨ ¬ isInM (tpA T n q) 48 57 = 0) : isaM T n q = true := by
  unfold isaM; rcases h with h | h <;> simp [h]
theorem isaM_F {T : Nat → Int32} {n q : Nat} (h1 : isInM (tpA T n q) 97 122 = 0) (h2 : isInM (tpA T n q) 48 57 = 0) : isaM T n q = false := by
  unfold isaM; simp [h1, h2]
theorem isaM_lt {T : Nat → Int32} {n q : Nat} (hn : n ≤ 840) (hq : q ≤ 840) (h : ¬ isInM (tpA T n q) 97 122 = 0 ∨ ¬ isInM (tpA T n q) 48 57 = 0) : q < n ∧ tpA T n q = T q := by
  by_cases hc : nI n ≤ nI q
  · unfold tpA at h
    rw [if_pos hc] at h
    exact absurd h (by decide)
  · exact ⟨lt_nI hc (by omega) (by omega), by unfold tpA; rw [if_neg hc]⟩
theorem gdM_s (T : Nat → Int32) (s : Nat) (L : Int32) (k : Nat) : gdM T s L (k + 1) = if gdM T s L k = 0 then 0 else if isInM (T (s + k)) 97 122 = L then 1 else 0 := rfl
theorem wdM_s (T : Nat → Int32) (s k : Nat) : wdM T s (k + 1) = if 7 ≤ nI k then wdM T s k else 27 * wdM T s k + (T (s + k)).toInt64 - 96 := rfl
theorem nuM_s (T : Nat → Int32) (s k : Nat) : nuM T s (k + 1) = if 5 ≤ nI k then nuM T s k else 10 * nuM T s k + T (s + k) - 48 := rfl
theorem goP_in {T : Nat → Int32} {n p : Nat} (hp : p ≤ n) : p ≤ goP T n p ∧ goP T n p ≤ n := ⟨bl_ge _ _ _, by have := bl_le (isbM T n) (n - p) p; unfold goP; omega⟩
theorem in_X9_go_9 : ∀ w ∈ wsX90, w ∈ wsX9_go := fun _ h => List.mem_cons_of_mem _ (List.mem_append_right _ (h))
set_option maxHeartbeats 4000000 in
set_option maxRecDepth 100000 in
theorem kX9_go (l : Launch) (D : va_G) (cI cB : ClassId) (mo q1 q2 q3 q4 q5 q6 q7 q8 : Nat) (th tn : Int32) (sm rm : Int32) (Tp Nw Sn In Pd Rt Rw : Nat → Int32) (n : Nat) (S : MSt) (hn : n ≤ 840) (hSn : S.1 ≤ n) : Wr l D (TY cI cB) yX9_go wsX9_go 1 21 [.ref mo] [(mo, .inr (9, [.int th, .ref q1, .int tn, .int (nI n), .int (nI S.1), .int (nI S.2.1), .int S.2.2.1, .int S.2.2.2.1, .int S.2.2.2.2.1, .int S.2.2.2.2.2.1, .long S.2.2.2.2.2.2.1, .ref q2, .ref q3, .ref q4, .int sm, .ref q5, .ref q6, .ref q7, .ref q8, .int rm])), (q1, .inl (cI, 840, .inl Tp)), (q2, .inl (cI, 240, .inl Nw)), (q3, .inl (cI, 240, .inl S.2.2.2.2.2.2.2)), (q4, .inl (cI, 2880, .inl Sn)), (q5, .inl (cI, 4, .inl In)), (q6, .inl (cI, 500, .inl Pd)), (q7, .inl (cI, 500, .inl Rt)), (q8, .inl (cI, 10000, .inl Rw))] [(mo, .inr (9, [.int th, .ref q1, .int tn, .int (nI n), .int (nI (goM Tp n S).1), .int (nI (goM Tp n S).2.1), .int (goM Tp n S).2.2.1, .int (goM Tp n S).2.2.2.1, .int (goM Tp n S).2.2.2.2.1, .int (goM Tp n S).2.2.2.2.2.1, .long (goM Tp n S).2.2.2.2.2.2.1, .ref q2, .ref q3, .ref q4, .int sm, .ref q5, .ref q6, .ref q7, .ref q8, .int rm])), (q1, .inl (cI, 840, .inl Tp)), (q2, .inl (cI, 240, .inl Nw)), (q3, .inl (cI, 240, .inl (goM Tp n S).2.2.2.2.2.2.2)), (q4, .inl (cI, 2880, .inl Sn)), (q5, .inl (cI, 4, .inl In)), (q6, .inl (cI, 500, .inl Pd)), (q7, .inl (cI, 500, .inl Rt)), (q8, .inl (cI, 10000, .inl Rw))] none := by
  refine wr_v (cc := cX9_go) (maxL := 5) (by decide) rfl (Nat.le_of_ble_eq_true rfl) ?_
  intro p_ e_ s_ m_ ar_ be_ me_ co_ ls Q_ A_ hx hb hml hown hts hP hK hD hS hl hret
  have hown : s_.vm.findClass RX9 = some m_.cls := hown
  have hl : lv_has ls 5 [(0, .ref mo)] := hl
  have J52 : ∀   (xx_u0_4 : Int32), xx_u0_4 = nI (goP Tp n S.1) → ∀ (H_ : Heap) (lc_ : List Loc), va_P D vwCl [(mo, .inr (9, [.int th, .ref q1, .int tn, .int (nI n), .int xx_u0_4, .int (nI S.2.1), .int S.2.2.1, .int S.2.2.2.1, .int S.2.2.2.2.1, .int S.2.2.2.2.2.1, .long S.2.2.2.2.2.2.1, .ref q2, .ref q3, .ref q4, .int sm, .ref q5, .ref q6, .ref q7, .ref q8, .int rm])), (q1, .inl (cI, 840, .inl Tp)), (q2, .inl (cI, 240, .inl Nw)), (q3, .inl (cI, 240, .inl S.2.2.2.2.2.2.2)), (q4, .inl (cI, 2880, .inl Sn)), (q5, .inl (cI, 4, .inl In)), (q6, .inl (cI, 500, .inl Pd)), (q7, .inl (cI, 500, .inl Rt)), (q8, .inl (cI, 10000, .inl Rw))] H_ → va_D A_ [(mo, .inr (9, [.int th, .ref q1, .int tn, .int (nI n), .int xx_u0_4, .int (nI S.2.1), .int S.2.2.1, .int S.2.2.2.1, .int S.2.2.2.2.1, .int S.2.2.2.2.2.1, .long S.2.2.2.2.2.2.1, .ref q2, .ref q3, .ref q4, .int sm, .ref q5, .ref q6, .ref q7, .ref q8, .int rm])), (q1, .inl (cI, 840, .inl Tp)), (q2, .inl (cI, 240, .inl Nw)), (q3, .inl (cI, 240, .inl S.2.2.2.2.2.2.2)), (q4, .inl (cI, 2880, .inl Sn)), (q5, .inl (cI, 4, .inl In)), (q6, .inl (cI, 500, .inl Pd)), (q7, .inl (cI, 500, .inl Rt)), (q8, .inl (cI, 10000, .inl Rw))] → va_S A_ s_.heap H_ lc_ → ∀ (ls : Array Slot), lv_has ls 5 [(0, .ref mo)] → W p_ l e_ (RM 1 21) s_ m_ ar_ be_ me_ co_ H_ lc_ 0 0 Q_ (F0 m_ 52 ls []) := by
    intro xx_u0_4 e_xx_u0_4 H_ lc_ hP hD hS ls hl
    subst e_xx_u0_4
    have hs := goP_in (T := Tp) hSn
    refine lv_aload_n hx hb dX9_go_52 rfl (lv_at hl 0 rfl) ?_
    refine lv_aload_n hx hb dX9_go_53 rfl (lv_at hl 0 rfl) ?_
    refine g_get (C := RX9) (T := TX9) (N := 20) (ci := 9) (index := 21) hx hb hts in_X9_go_9 hown hK hP 0 4 rfl rfl (by decide) (List.mem_of_getElem? (i := 1) rfl) rfl dX9_go_54 ?_
    refine g_put (C := RX9) (T := TX9) (N := 20) (ci := 9) (index := 24) (v := .int (nI (goP Tp n S.1))) (ws' := [(mo, .inr (9, [.int th, .ref q1, .int tn, .int (nI n), .int (nI (goP Tp n S.1)), .int (nI (goP Tp n S.1)), .int S.2.2.1, .int S.2.2.2.1, .int S.2.2.2.2.1, .int S.2.2.2.2.2.1, .long S.2.2.2.2.2.2.1, .ref q2, .ref q3, .ref q4, .int sm, .ref q5, .ref q6, .ref q7, .ref q8, .int rm])), (q1, .inl (cI, 840, .inl Tp)), (q2, .inl (cI, 240, .inl Nw)), (q3, .inl (cI, 240, .inl S.2.2.2.2.2.2.2)), (q4, .inl (cI, 2880, .inl Sn)), (q5, .inl (cI, 4, .inl In)), (q6, .inl (cI, 500, .inl Pd)), (q7, .inl (cI, 500, .inl Rt)), (q8, .inl (cI, 10000, .inl Rw))]) hx hb hts in_X9_go_9 tyX9 tyX9_ok nmX9 hown hK hP hD hS 0 5 rfl rfl (by decide) (List.mem_of_getElem? (i := 4) rfl) rfl rfl rfl (Nat.le_of_ble_eq_true rfl) dX9_go_57 rfl (fun H_ lc_ hP hD hS => ?_)
    refine lv_aload_n hx hb dX9_go_60 rfl (lv_at hl 0 rfl) ?_
    refine g_get (C := RX9) (T := TX9) (N := 20) (ci := 9) (index := 18) hx hb hts in_X9_go_9 hown hK hP 0 3 rfl rfl (by decide) (List.mem_of_getElem? (i := 2) rfl) rfl dX9_go_61 ?_
    refine lv_sipush (v := 800) hx hb dX9_go_64 (by decide) ?_
    refine lv_icmp_le (tgt := 93) hx hb dX9_go_67 (by decide) (fun c67 => ?_) (fun c67 => ?_)
    · try have hA : ¬ (800 < n ∧ 800 ≤ (goP Tp n S.1)) := fun z => by first | exact absurd ((nI_leI (b := 800) (by omega) (by omega)).mp c67) (by omega) | exact absurd ((nI_ltI (b := 800) (by omega) (by omega)).mp c77) (by omega)
      refine lv_aload_n hx hb dX9_go_93 rfl (lv_at hl 0 rfl) ?_
      refine g_get (C := RX9) (T := TX9) (N := 20) (ci := 9) (index := 21) hx hb hts in_X9_go_9 hown hK hP 0 4 rfl rfl (by decide) (List.mem_of_getElem? (i := 1) rfl) rfl dX9_go_94 ?_
      refine lv_aload_n hx hb dX9_go_97 rfl (lv_at hl 0 rfl) ?_
      refine g_get (C := RX9) (T := TX9) (N := 20) (ci := 9) (index := 18) hx hb hts in_X9_go_9 hown hK hP 0 3 rfl rfl (by decide) (List.mem_of_getElem? (i := 2) rfl) rfl dX9_go_98 ?_
      refine lv_icmp_lt (tgt := 110) hx hb dX9_go_101 (by decide) (fun c101 => ?_) (fun c101 => ?_)
      · have hB : ¬ n ≤ (goP Tp n S.1) := by have z := (nI_ltI (by omega) (by omega)).mp c101; omega
        refine lv_aload_n hx hb dX9_go_110 rfl (lv_at hl 0 rfl) ?_
        refine g_get (C := RX9) (T := TX9) (N := 20) (ci := 9) (index := 7) hx hb hts in_X9_go_9 hown hK hP 0 1 rfl rfl (by decide) (List.mem_of_getElem? (i := 3) rfl) rfl dX9_go_111 ?_
        refine lv_aload_n hx hb dX9_go_114 rfl (lv_at hl 0 rfl) ?_
        refine g_get (C := RX9) (T := TX9) (N := 20) (ci := 9) (index := 21) hx hb hts in_X9_go_9 hown hK hP 0 4 rfl rfl (by decide) (List.mem_of_getElem? (i := 1) rfl) rfl dX9_go_115 ?_
        refine g_iald hx hb hK hP 1 0 rfl rfl (goP Tp n S.1) (rfl) (by omega) (by omega) dX9_go_118 ?_
        refine lv_istore_n (lv' := [(1, .int (Tp (goP Tp n S.1))), (0, .ref mo)]) hx hb dX9_go_119 rfl hl (by decide) rfl (fun ls hl => ?_)
        refine lv_iload_n hx hb dX9_go_120 rfl (lv_at hl 0 rfl) ?_
        refine rd_S (As := [.int (Tp (goP Tp n S.1))]) (rest := []) (kX9_isLetter l D cI cB (Tp (goP Tp n S.1)) ) ⟨hx, hb, hml, hown, hts⟩ (va_cwS 1 hts gX9_go_X9_isLetter rfl rfl rfl (by decide +kernel) ⟨Nat.le_of_ble_eq_true rfl, Nat.le_of_ble_eq_true rfl⟩) hK hP [] rfl rfl rfl hl.1 (Nat.le_of_ble_eq_true rfl) dX9_go_121 ⟨Nat.le_refl _, Nat.le_refl _⟩ ?_
        refine lv_if_ne (tgt := 160) hx hb dX9_go_124 (by decide) (fun c124 => ?_) (fun c124 => ?_)
        · refine lv_iload_n hx hb dX9_go_160 rfl (lv_at hl 0 rfl) ?_
          refine rd_S (As := [.int (Tp (goP Tp n S.1))]) (rest := []) (kX9_isLetter l D cI cB (Tp (goP Tp n S.1)) ) ⟨hx, hb, hml, hown, hts⟩ (va_cwS 1 hts gX9_go_X9_isLetter rfl rfl rfl (by decide +kernel) ⟨Nat.le_of_ble_eq_true rfl, Nat.le_of_ble_eq_true rfl⟩) hK hP [] rfl rfl rfl hl.1 (Nat.le_of_ble_eq_true rfl) dX9_go_161 ⟨Nat.le_refl _, Nat.le_refl _⟩ ?_
          refine lv_istore_n (lv' := [(2, .int (isInM (Tp (goP Tp n S.1)) 97 122)), (1, .int (Tp (goP Tp n S.1))), (0, .ref mo)]) hx hb dX9_go_164 rfl hl (by decide) rfl (fun ls hl => ?_)
          refine lv_iconst (v := 1) hx hb dX9_go_165 (by decide) ?_
          refine lv_istore_n (lv' := [(3, .int 1), (2, .int (isInM (Tp (goP Tp n S.1)) 97 122)), (1, .int (Tp (goP Tp n S.1))), (0, .ref mo)]) hx hb dX9_go_166 rfl hl (by decide) rfl (fun ls hl => ?_)
          refine lv_aload_n hx hb dX9_go_167 rfl (lv_at hl 3 rfl) ?_
          refine lv_lconst (v := 0) hx hb dX9_go_168 (by decide) ?_
          refine g_put (C := RX9) (T := TX9) (N := 20) (ci := 9) (index := 37) (v := .long 0) (ws' := [(mo, .inr (9, [.int th, .ref q1, .int tn, .int (nI n), .int (nI (goP Tp n S.1)), .int (nI (goP Tp n S.1)), .int S.2.2.1, .int S.2.2.2.1, .int S.2.2.2.2.1, .int S.2.2.2.2.2.1, .long 0, .ref q2, .ref q3, .ref q4, .int sm, .ref q5, .ref q6, .ref q7, .ref q8, .int rm])), (q1, .inl (cI, 840, .inl Tp)), (q2, .inl (cI, 240, .inl Nw)), (q3, .inl (cI, 240, .inl S.2.2.2.2.2.2.2)), (q4, .inl (cI, 2880, .inl Sn)), (q5, .inl (cI, 4, .inl In)), (q6, .inl (cI, 500, .inl Pd)), (q7, .inl (cI, 500, .inl Rt)), (q8, .inl (cI, 10000, .inl Rw))]) hx hb hts in_X9_go_9 tyX9 tyX9_ok nmX9 hown hK hP hD hS 0 10 rfl rfl (by decide) (List.mem_of_getElem? (i := 6) rfl) rfl rfl rfl (Nat.le_of_ble_eq_true rfl) dX9_go_169 rfl (fun H_ lc_ hP hD hS => ?_)
          refine lv_aload_n hx hb dX9_go_172 rfl (lv_at hl 3 rfl) ?_
          refine lv_iconst (v := 0) hx hb dX9_go_173 (by decide) ?_
          refine g_put (C := RX9) (T := TX9) (N := 20) (ci := 9) (index := 41) (v := .int 0) (ws' := [(mo, .inr (9, [.int th, .ref q1, .int tn, .int (nI n), .int (nI (goP Tp n S.1)), .int (nI (goP Tp n S.1)), .int S.2.2.1, .int 0, .int S.2.2.2.2.1, .int S.2.2.2.2.2.1, .long 0, .ref q2, .ref q3, .ref q4, .int sm, .ref q5, .ref q6, .ref q7, .ref q8, .int rm])), (q1, .inl (cI, 840, .inl Tp)), (q2, .inl (cI, 240, .inl Nw)), (q3, .inl (cI, 240, .inl S.2.2.2.2.2.2.2)), (q4, .inl (cI, 2880, .inl Sn)), (q5, .inl (cI, 4, .inl In)), (q6, .inl (cI, 500, .inl Pd)), (q7, .inl (cI, 500, .inl Rt)), (q8, .inl (cI, 10000, .inl Rw))]) hx hb hts in_X9_go_9 tyX9 tyX9_ok nmX9 hown hK hP hD hS 0 7 rfl rfl (by decide) (List.mem_of_getElem? (i := 7) rfl) rfl rfl rfl (Nat.le_of_ble_eq_true rfl) dX9_go_174 rfl (fun H_ lc_ hP hD hS => ?_)
          have L177 : ∀ (nn_ : Nat) (k9 : Nat) (hk9 : (goP Tp n S.1) + k9 ≤ n) (hinv9 : bl (isaM Tp n) (n - ((goP Tp n S.1) + k9)) ((goP Tp n S.1) + k9) = goE Tp n (goP Tp n S.1)) (xx_v3 : Int32) (xx_u0_4 : Int32) (xx_u0_10 : Int64) (xx_u0_7 : Int32), (n - ((goP Tp n S.1) + k9)) < nn_ → xx_v3 = gdM Tp (goP Tp n S.1) (isInM (Tp (goP Tp n S.1)) 97 122) k9 → xx_u0_4 = nI ((goP Tp n S.1) + k9) → xx_u0_10 = wdM Tp (goP Tp n S.1) k9 → xx_u0_7 = nuM Tp (goP Tp n S.1) k9 → ∀ (H_ : Heap) (lc_ : List Loc), va_P D vwCl [(mo, .inr (9, [.int th, .ref q1, .int tn, .int (nI n), .int xx_u0_4, .int (nI (goP Tp n S.1)), .int S.2.2.1, .int xx_u0_7, .int S.2.2.2.2.1, .int S.2.2.2.2.2.1, .long xx_u0_10, .ref q2, .ref q3, .ref q4, .int sm, .ref q5, .ref q6, .ref q7, .ref q8, .int rm])), (q1, .inl (cI, 840, .inl Tp)), (q2, .inl (cI, 240, .inl Nw)), (q3, .inl (cI, 240, .inl S.2.2.2.2.2.2.2)), (q4, .inl (cI, 2880, .inl Sn)), (q5, .inl (cI, 4, .inl In)), (q6, .inl (cI, 500, .inl Pd)), (q7, .inl (cI, 500, .inl Rt)), (q8, .inl (cI, 10000, .inl Rw))] H_ → va_D A_ [(mo, .inr (9, [.int th, .ref q1, .int tn, .int (nI n), .int xx_u0_4, .int (nI (goP Tp n S.1)), .int S.2.2.1, .int xx_u0_7, .int S.2.2.2.2.1, .int S.2.2.2.2.2.1, .long xx_u0_10, .ref q2, .ref q3, .ref q4, .int sm, .ref q5, .ref q6, .ref q7, .ref q8, .int rm])), (q1, .inl (cI, 840, .inl Tp)), (q2, .inl (cI, 240, .inl Nw)), (q3, .inl (cI, 240, .inl S.2.2.2.2.2.2.2)), (q4, .inl (cI, 2880, .inl Sn)), (q5, .inl (cI, 4, .inl In)), (q6, .inl (cI, 500, .inl Pd)), (q7, .inl (cI, 500, .inl Rt)), (q8, .inl (cI, 10000, .inl Rw))] → va_S A_ s_.heap H_ lc_ → ∀ (ls : Array Slot), lv_has ls 5 [(0, .ref mo), (1, .int (Tp (goP Tp n S.1))), (2, .int (isInM (Tp (goP Tp n S.1)) 97 122)), (3, .int xx_v3)] → W p_ l e_ (RM 1 21) s_ m_ ar_ be_ me_ co_ H_ lc_ 0 0 Q_ (F0 m_ 177 ls []) := by
            intro nn_
            induction nn_ with
            | zero => intro k9 hk9 hinv9 xx_v3 xx_u0_4 xx_u0_10 xx_u0_7 hn_; exact absurd hn_ (Nat.not_lt_zero _)
            | succ nn_ ih177 =>
              intro k9 hk9 hinv9 xx_v3 xx_u0_4 xx_u0_10 xx_u0_7 hn_ e_xx_v3 e_xx_u0_4 e_xx_u0_10 e_xx_u0_7 H_ lc_ hP hD hS ls hl
              subst e_xx_v3 e_xx_u0_4 e_xx_u0_10 e_xx_u0_7
              refine lv_aload_n hx hb dX9_go_177 rfl (lv_at hl 0 rfl) ?_
              refine lv_aload_n hx hb dX9_go_178 rfl (lv_at hl 0 rfl) ?_
              refine g_get (C := RX9) (T := TX9) (N := 20) (ci := 9) (index := 21) hx hb hts in_X9_go_9 hown hK hP 0 4 rfl rfl (by decide) (List.mem_of_getElem? (i := 1) rfl) rfl dX9_go_179 ?_
              refine rd_V (As := [.int (nI ((goP Tp n S.1) + k9))]) (rest := []) (ci := 9) (kX9_tapeAt l D cI cB mo q1 q2 q3 q4 q5 q6 q7 q8 th tn (nI ((goP Tp n S.1) + k9)) (nI (goP Tp n S.1)) S.2.2.1 (nuM Tp (goP Tp n S.1) k9) S.2.2.2.2.1 S.2.2.2.2.2.1 (wdM Tp (goP Tp n S.1) k9) sm rm Tp Nw S.2.2.2.2.2.2.2 Sn In Pd Rt Rw n ((goP Tp n S.1) + k9) (by first | assumption | omega) (by omega)) ⟨hx, hb, hml, hown, hts⟩ (cwV 1 hts gX9_go_X9_tapeAt rfl rfl rfl (by decide +kernel) ⟨Nat.le_of_ble_eq_true rfl, Nat.le_of_ble_eq_true rfl⟩) hK hP [0, 1, 2, 3, 4, 5, 6, 7, 8] rfl 0 rfl rfl rfl rfl hl.1 (Nat.le_of_ble_eq_true rfl) dX9_go_182 ⟨Nat.le_refl _, Nat.le_refl _⟩ ?_
              refine rd_S (As := [.int (tpA Tp n ((goP Tp n S.1) + k9))]) (rest := []) (kX9_isLetter l D cI cB (tpA Tp n ((goP Tp n S.1) + k9)) ) ⟨hx, hb, hml, hown, hts⟩ (va_cwS 1 hts gX9_go_X9_isLetter rfl rfl rfl (by decide +kernel) ⟨Nat.le_of_ble_eq_true rfl, Nat.le_of_ble_eq_true rfl⟩) hK hP [] rfl rfl rfl hl.1 (Nat.le_of_ble_eq_true rfl) dX9_go_185 ⟨Nat.le_refl _, Nat.le_refl _⟩ ?_
              refine lv_if_ne (tgt := 205) hx hb dX9_go_188 (by decide) (fun c188 => ?_) (fun c188 => ?_)
              · have hal : ¬ isInM (tpA Tp n ((goP Tp n S.1) + k9)) 97 122 = 0 ∨ ¬ isInM (tpA Tp n ((goP Tp n S.1) + k9)) 48 57 = 0 := by first | exact Or.inl c188 | exact Or.inr c202
                have ha := isaM_lt hn (by omega) hal
                refine lv_aload_n hx hb dX9_go_205 rfl (lv_at hl 0 rfl) ?_
                refine g_get (C := RX9) (T := TX9) (N := 20) (ci := 9) (index := 7) hx hb hts in_X9_go_9 hown hK hP 0 1 rfl rfl (by decide) (List.mem_of_getElem? (i := 3) rfl) rfl dX9_go_206 ?_
                refine lv_aload_n hx hb dX9_go_209 rfl (lv_at hl 0 rfl) ?_
                refine g_get (C := RX9) (T := TX9) (N := 20) (ci := 9) (index := 21) hx hb hts in_X9_go_9 hown hK hP 0 4 rfl rfl (by decide) (List.mem_of_getElem? (i := 1) rfl) rfl dX9_go_210 ?_
                refine g_iald hx hb hK hP 1 0 rfl rfl ((goP Tp n S.1) + k9) (rfl) (by omega) (by omega) dX9_go_213 ?_
                refine lv_istore (lv' := [(4, .int (Tp ((goP Tp n S.1) + k9))), (0, .ref mo), (1, .int (Tp (goP Tp n S.1))), (2, .int (isInM (Tp (goP Tp n S.1)) 97 122)), (3, .int (gdM Tp (goP Tp n S.1) (isInM (Tp (goP Tp n S.1)) 97 122) k9))]) hx hb dX9_go_214 hl (by decide) rfl (fun ls hl => ?_)
                have J234 : ∀ (g9 : Int32) (hg : g9 = gdM Tp (goP Tp n S.1) (isInM (Tp (goP Tp n S.1)) 97 122) (k9 + 1)) , ∀ (H_ : Heap) (lc_ : List Loc), va_P D vwCl [(mo, .inr (9, [.int th, .ref q1, .int tn, .int (nI n), .int (nI ((goP Tp n S.1) + k9)), .int (nI (goP Tp n S.1)), .int S.2.2.1, .int (nuM Tp (goP Tp n S.1) k9), .int S.2.2.2.2.1, .int S.2.2.2.2.2.1, .long (wdM Tp (goP Tp n S.1) k9), .ref q2, .ref q3, .ref q4, .int sm, .ref q5, .ref q6, .ref q7, .ref q8, .int rm])), (q1, .inl (cI, 840, .inl Tp)), (q2, .inl (cI, 240, .inl Nw)), (q3, .inl (cI, 240, .inl S.2.2.2.2.2.2.2)), (q4, .inl (cI, 2880, .inl Sn)), (q5, .inl (cI, 4, .inl In)), (q6, .inl (cI, 500, .inl Pd)), (q7, .inl (cI, 500, .inl Rt)), (q8, .inl (cI, 10000, .inl Rw))] H_ → va_D A_ [(mo, .inr (9, [.int th, .ref q1, .int tn, .int (nI n), .int (nI ((goP Tp n S.1) + k9)), .int (nI (goP Tp n S.1)), .int S.2.2.1, .int (nuM Tp (goP Tp n S.1) k9), .int S.2.2.2.2.1, .int S.2.2.2.2.2.1, .long (wdM Tp (goP Tp n S.1) k9), .ref q2, .ref q3, .ref q4, .int sm, .ref q5, .ref q6, .ref q7, .ref q8, .int rm])), (q1, .inl (cI, 840, .inl Tp)), (q2, .inl (cI, 240, .inl Nw)), (q3, .inl (cI, 240, .inl S.2.2.2.2.2.2.2)), (q4, .inl (cI, 2880, .inl Sn)), (q5, .inl (cI, 4, .inl In)), (q6, .inl (cI, 500, .inl Pd)), (q7, .inl (cI, 500, .inl Rt)), (q8, .inl (cI, 10000, .inl Rw))] → va_S A_ s_.heap H_ lc_ → ∀ (ls : Array Slot), lv_has ls 5 [(0, .ref mo), (1, .int (Tp (goP Tp n S.1))), (2, .int (isInM (Tp (goP Tp n S.1)) 97 122)), (3, .int (gdM Tp (goP Tp n S.1) (isInM (Tp (goP Tp n S.1)) 97 122) k9)), (4, .int (Tp ((goP Tp n S.1) + k9)))] → W p_ l e_ (RM 1 21) s_ m_ ar_ be_ me_ co_ H_ lc_ 0 0 Q_ (F0 m_ 234 ls [.int g9]) := by
                  intro g9 hg  H_ lc_ hP hD hS ls hl
                  refine lv_istore_n (lv' := [(3, .int g9), (0, .ref mo), (1, .int (Tp (goP Tp n S.1))), (2, .int (isInM (Tp (goP Tp n S.1)) 97 122)), (4, .int (Tp ((goP Tp n S.1) + k9)))]) hx hb dX9_go_234 rfl hl (by decide) rfl (fun ls hl => ?_)
                  refine lv_aload_n hx hb dX9_go_235 rfl (lv_at hl 1 rfl) ?_
                  refine g_get (C := RX9) (T := TX9) (N := 20) (ci := 9) (index := 21) hx hb hts in_X9_go_9 hown hK hP 0 4 rfl rfl (by decide) (List.mem_of_getElem? (i := 1) rfl) rfl dX9_go_236 ?_
                  refine lv_aload_n hx hb dX9_go_239 rfl (lv_at hl 1 rfl) ?_
                  refine g_get (C := RX9) (T := TX9) (N := 20) (ci := 9) (index := 24) hx hb hts in_X9_go_9 hown hK hP 0 5 rfl rfl (by decide) (List.mem_of_getElem? (i := 4) rfl) rfl dX9_go_240 ?_
                  refine lv_isub hx hb dX9_go_243 ?_
                  rw [show ((nI ((goP Tp n S.1) + k9)) - (nI (goP Tp n S.1)) : Int32) = nI k9 from by rw [pk_sub (by omega), show (goP Tp n S.1) + k9 - (goP Tp n S.1) = k9 by omega]]
                  refine lv_bipush (v := 7) hx hb dX9_go_244 (by decide) ?_
                  refine lv_icmp_ge (tgt := 269) hx hb dX9_go_246 (by decide) (fun c246 => ?_) (fun c246 => ?_)
                  · refine lv_aload_n hx hb dX9_go_269 rfl (lv_at hl 1 rfl) ?_
                    refine g_get (C := RX9) (T := TX9) (N := 20) (ci := 9) (index := 21) hx hb hts in_X9_go_9 hown hK hP 0 4 rfl rfl (by decide) (List.mem_of_getElem? (i := 1) rfl) rfl dX9_go_270 ?_
                    refine lv_aload_n hx hb dX9_go_273 rfl (lv_at hl 1 rfl) ?_
                    refine g_get (C := RX9) (T := TX9) (N := 20) (ci := 9) (index := 24) hx hb hts in_X9_go_9 hown hK hP 0 5 rfl rfl (by decide) (List.mem_of_getElem? (i := 4) rfl) rfl dX9_go_274 ?_
                    refine lv_isub hx hb dX9_go_277 ?_
                    rw [show ((nI ((goP Tp n S.1) + k9)) - (nI (goP Tp n S.1)) : Int32) = nI k9 from by rw [pk_sub (by omega), show (goP Tp n S.1) + k9 - (goP Tp n S.1) = k9 by omega]]
                    refine lv_iconst (v := 5) hx hb dX9_go_278 (by decide) ?_
                    refine lv_icmp_ge (tgt := 299) hx hb dX9_go_279 (by decide) (fun c279 => ?_) (fun c279 => ?_)
                    · refine lv_aload_n hx hb dX9_go_299 rfl (lv_at hl 1 rfl) ?_
                      refine lv_dup hx hb dX9_go_300 rfl ?_
                      refine g_get (C := RX9) (T := TX9) (N := 20) (ci := 9) (index := 21) hx hb hts in_X9_go_9 hown hK hP 0 4 rfl rfl (by decide) (List.mem_of_getElem? (i := 1) rfl) rfl dX9_go_301 ?_
                      refine lv_iconst (v := 1) hx hb dX9_go_304 (by decide) ?_
                      refine lv_iadd hx hb dX9_go_305 ?_
                      rw [show ((nI ((goP Tp n S.1) + k9)) + 1 : Int32) = nI ((goP Tp n S.1) + (k9 + 1)) from nI_1 _]
                      refine g_put (C := RX9) (T := TX9) (N := 20) (ci := 9) (index := 21) (v := .int (nI ((goP Tp n S.1) + (k9 + 1)))) (ws' := [(mo, .inr (9, [.int th, .ref q1, .int tn, .int (nI n), .int (nI ((goP Tp n S.1) + (k9 + 1))), .int (nI (goP Tp n S.1)), .int S.2.2.1, .int (nuM Tp (goP Tp n S.1) k9), .int S.2.2.2.2.1, .int S.2.2.2.2.2.1, .long (wdM Tp (goP Tp n S.1) k9), .ref q2, .ref q3, .ref q4, .int sm, .ref q5, .ref q6, .ref q7, .ref q8, .int rm])), (q1, .inl (cI, 840, .inl Tp)), (q2, .inl (cI, 240, .inl Nw)), (q3, .inl (cI, 240, .inl S.2.2.2.2.2.2.2)), (q4, .inl (cI, 2880, .inl Sn)), (q5, .inl (cI, 4, .inl In)), (q6, .inl (cI, 500, .inl Pd)), (q7, .inl (cI, 500, .inl Rt)), (q8, .inl (cI, 10000, .inl Rw))]) hx hb hts in_X9_go_9 tyX9 tyX9_ok nmX9 hown hK hP hD hS 0 4 rfl rfl (by decide) (List.mem_of_getElem? (i := 1) rfl) rfl rfl rfl (Nat.le_of_ble_eq_true rfl) dX9_go_306 rfl (fun H_ lc_ hP hD hS => ?_)
                      refine lv_goto (tgt := 177) hx hb dX9_go_309 (by decide) ?_
                      exact ih177 (k9 + 1) (by omega) (by rw [← hinv9]; exact (bl_T (isaM_T hal) ha.1).symm) _ _ _ _ (by omega) (hg) (rfl) (by rw [wdM_s, if_pos c246]) (by rw [nuM_s, if_pos c279]) _ _ hP hD hS ls (lv_sub hl [1, 2, 3, 0] rfl)
                    · refine lv_aload_n hx hb dX9_go_282 rfl (lv_at hl 1 rfl) ?_
                      refine lv_bipush (v := 10) hx hb dX9_go_283 (by decide) ?_
                      refine lv_aload_n hx hb dX9_go_285 rfl (lv_at hl 1 rfl) ?_
                      refine g_get (C := RX9) (T := TX9) (N := 20) (ci := 9) (index := 41) hx hb hts in_X9_go_9 hown hK hP 0 7 rfl rfl (by decide) (List.mem_of_getElem? (i := 7) rfl) rfl dX9_go_286 ?_
                      refine lv_imul hx hb dX9_go_289 ?_
                      refine lv_iload hx hb dX9_go_290 (lv_at hl 4 rfl) ?_
                      refine lv_iadd hx hb dX9_go_292 ?_
                      refine lv_bipush (v := 48) hx hb dX9_go_293 (by decide) ?_
                      refine lv_isub hx hb dX9_go_295 ?_
                      refine g_put (C := RX9) (T := TX9) (N := 20) (ci := 9) (index := 41) (v := .int (((10 * (nuM Tp (goP Tp n S.1) k9)) + (Tp ((goP Tp n S.1) + k9))) - 48)) (ws' := [(mo, .inr (9, [.int th, .ref q1, .int tn, .int (nI n), .int (nI ((goP Tp n S.1) + k9)), .int (nI (goP Tp n S.1)), .int S.2.2.1, .int (((10 * (nuM Tp (goP Tp n S.1) k9)) + (Tp ((goP Tp n S.1) + k9))) - 48), .int S.2.2.2.2.1, .int S.2.2.2.2.2.1, .long (wdM Tp (goP Tp n S.1) k9), .ref q2, .ref q3, .ref q4, .int sm, .ref q5, .ref q6, .ref q7, .ref q8, .int rm])), (q1, .inl (cI, 840, .inl Tp)), (q2, .inl (cI, 240, .inl Nw)), (q3, .inl (cI, 240, .inl S.2.2.2.2.2.2.2)), (q4, .inl (cI, 2880, .inl Sn)), (q5, .inl (cI, 4, .inl In)), (q6, .inl (cI, 500, .inl Pd)), (q7, .inl (cI, 500, .inl Rt)), (q8, .inl (cI, 10000, .inl Rw))]) hx hb hts in_X9_go_9 tyX9 tyX9_ok nmX9 hown hK hP hD hS 0 7 rfl rfl (by decide) (List.mem_of_getElem? (i := 7) rfl) rfl rfl rfl (Nat.le_of_ble_eq_true rfl) dX9_go_296 rfl (fun H_ lc_ hP hD hS => ?_)
                      refine lv_aload_n hx hb dX9_go_299 rfl (lv_at hl 1 rfl) ?_
                      refine lv_dup hx hb dX9_go_300 rfl ?_
                      refine g_get (C := RX9) (T := TX9) (N := 20) (ci := 9) (index := 21) hx hb hts in_X9_go_9 hown hK hP 0 4 rfl rfl (by decide) (List.mem_of_getElem? (i := 1) rfl) rfl dX9_go_301 ?_
                      refine lv_iconst (v := 1) hx hb dX9_go_304 (by decide) ?_
                      refine lv_iadd hx hb dX9_go_305 ?_
                      rw [show ((nI ((goP Tp n S.1) + k9)) + 1 : Int32) = nI ((goP Tp n S.1) + (k9 + 1)) from nI_1 _]
                      refine g_put (C := RX9) (T := TX9) (N := 20) (ci := 9) (index := 21) (v := .int (nI ((goP Tp n S.1) + (k9 + 1)))) (ws' := [(mo, .inr (9, [.int th, .ref q1, .int tn, .int (nI n), .int (nI ((goP Tp n S.1) + (k9 + 1))), .int (nI (goP Tp n S.1)), .int S.2.2.1, .int (((10 * (nuM Tp (goP Tp n S.1) k9)) + (Tp ((goP Tp n S.1) + k9))) - 48), .int S.2.2.2.2.1, .int S.2.2.2.2.2.1, .long (wdM Tp (goP Tp n S.1) k9), .ref q2, .ref q3, .ref q4, .int sm, .ref q5, .ref q6, .ref q7, .ref q8, .int rm])), (q1, .inl (cI, 840, .inl Tp)), (q2, .inl (cI, 240, .inl Nw)), (q3, .inl (cI, 240, .inl S.2.2.2.2.2.2.2)), (q4, .inl (cI, 2880, .inl Sn)), (q5, .inl (cI, 4, .inl In)), (q6, .inl (cI, 500, .inl Pd)), (q7, .inl (cI, 500, .inl Rt)), (q8, .inl (cI, 10000, .inl Rw))]) hx hb hts in_X9_go_9 tyX9 tyX9_ok nmX9 hown hK hP hD hS 0 4 rfl rfl (by decide) (List.mem_of_getElem? (i := 1) rfl) rfl rfl rfl (Nat.le_of_ble_eq_true rfl) dX9_go_306 rfl (fun H_ lc_ hP hD hS => ?_)
                      refine lv_goto (tgt := 177) hx hb dX9_go_309 (by decide) ?_
                      exact ih177 (k9 + 1) (by omega) (by rw [← hinv9]; exact (bl_T (isaM_T hal) ha.1).symm) _ _ _ _ (by omega) (hg) (rfl) (by rw [wdM_s, if_pos c246]) (by rw [nuM_s, if_neg c279]) _ _ hP hD hS ls (lv_sub hl [1, 2, 3, 0] rfl)
                  · refine lv_aload_n hx hb dX9_go_249 rfl (lv_at hl 1 rfl) ?_
                    refine lv_ldc2 (v := 27) hx hb hown (hts (.constantLong RX9 48 (27)) (List.mem_of_getElem? (i := 8) rfl)) dX9_go_250 ?_
                    refine lv_aload_n hx hb dX9_go_253 rfl (lv_at hl 1 rfl) ?_
                    refine g_get (C := RX9) (T := TX9) (N := 20) (ci := 9) (index := 37) hx hb hts in_X9_go_9 hown hK hP 0 10 rfl rfl (by decide) (List.mem_of_getElem? (i := 6) rfl) rfl dX9_go_254 ?_
                    refine lv_lmul hx hb dX9_go_257 ?_
                    refine lv_iload hx hb dX9_go_258 (lv_at hl 4 rfl) ?_
                    refine lv_i2l (v := (Tp ((goP Tp n S.1) + k9)).toInt64) hx hb dX9_go_260 rfl ?_
                    refine lv_ladd hx hb dX9_go_261 ?_
                    refine lv_ldc2 (v := 96) hx hb hown (hts (.constantLong RX9 50 (96)) (List.mem_of_getElem? (i := 9) rfl)) dX9_go_262 ?_
                    refine lv_lsub hx hb dX9_go_265 ?_
                    refine g_put (C := RX9) (T := TX9) (N := 20) (ci := 9) (index := 37) (v := .long (((27 * (wdM Tp (goP Tp n S.1) k9)) + ((Tp ((goP Tp n S.1) + k9)).toInt64)) - 96)) (ws' := [(mo, .inr (9, [.int th, .ref q1, .int tn, .int (nI n), .int (nI ((goP Tp n S.1) + k9)), .int (nI (goP Tp n S.1)), .int S.2.2.1, .int (nuM Tp (goP Tp n S.1) k9), .int S.2.2.2.2.1, .int S.2.2.2.2.2.1, .long (((27 * (wdM Tp (goP Tp n S.1) k9)) + ((Tp ((goP Tp n S.1) + k9)).toInt64)) - 96), .ref q2, .ref q3, .ref q4, .int sm, .ref q5, .ref q6, .ref q7, .ref q8, .int rm])), (q1, .inl (cI, 840, .inl Tp)), (q2, .inl (cI, 240, .inl Nw)), (q3, .inl (cI, 240, .inl S.2.2.2.2.2.2.2)), (q4, .inl (cI, 2880, .inl Sn)), (q5, .inl (cI, 4, .inl In)), (q6, .inl (cI, 500, .inl Pd)), (q7, .inl (cI, 500, .inl Rt)), (q8, .inl (cI, 10000, .inl Rw))]) hx hb hts in_X9_go_9 tyX9 tyX9_ok nmX9 hown hK hP hD hS 0 10 rfl rfl (by decide) (List.mem_of_getElem? (i := 6) rfl) rfl rfl rfl (Nat.le_of_ble_eq_true rfl) dX9_go_266 rfl (fun H_ lc_ hP hD hS => ?_)
                    refine lv_aload_n hx hb dX9_go_269 rfl (lv_at hl 1 rfl) ?_
                    refine g_get (C := RX9) (T := TX9) (N := 20) (ci := 9) (index := 21) hx hb hts in_X9_go_9 hown hK hP 0 4 rfl rfl (by decide) (List.mem_of_getElem? (i := 1) rfl) rfl dX9_go_270 ?_
                    refine lv_aload_n hx hb dX9_go_273 rfl (lv_at hl 1 rfl) ?_
                    refine g_get (C := RX9) (T := TX9) (N := 20) (ci := 9) (index := 24) hx hb hts in_X9_go_9 hown hK hP 0 5 rfl rfl (by decide) (List.mem_of_getElem? (i := 4) rfl) rfl dX9_go_274 ?_
                    refine lv_isub hx hb dX9_go_277 ?_
                    rw [show ((nI ((goP Tp n S.1) + k9)) - (nI (goP Tp n S.1)) : Int32) = nI k9 from by rw [pk_sub (by omega), show (goP Tp n S.1) + k9 - (goP Tp n S.1) = k9 by omega]]
                    refine lv_iconst (v := 5) hx hb dX9_go_278 (by decide) ?_
                    refine lv_icmp_ge (tgt := 299) hx hb dX9_go_279 (by decide) (fun c279 => ?_) (fun c279 => ?_)
                    · refine lv_aload_n hx hb dX9_go_299 rfl (lv_at hl 1 rfl) ?_
                      refine lv_dup hx hb dX9_go_300 rfl ?_
                      refine g_get (C := RX9) (T := TX9) (N := 20) (ci := 9) (index := 21) hx hb hts in_X9_go_9 hown hK hP 0 4 rfl rfl (by decide) (List.mem_of_getElem? (i := 1) rfl) rfl dX9_go_301 ?_
                      refine lv_iconst (v := 1) hx hb dX9_go_304 (by decide) ?_
                      refine lv_iadd hx hb dX9_go_305 ?_
                      rw [show ((nI ((goP Tp n S.1) + k9)) + 1 : Int32) = nI ((goP Tp n S.1) + (k9 + 1)) from nI_1 _]
                      refine g_put (C := RX9) (T := TX9) (N := 20) (ci := 9) (index := 21) (v := .int (nI ((goP Tp n S.1) + (k9 + 1)))) (ws' := [(mo, .inr (9, [.int th, .ref q1, .int tn, .int (nI n), .int (nI ((goP Tp n S.1) + (k9 + 1))), .int (nI (goP Tp n S.1)), .int S.2.2.1, .int (nuM Tp (goP Tp n S.1) k9), .int S.2.2.2.2.1, .int S.2.2.2.2.2.1, .long (((27 * (wdM Tp (goP Tp n S.1) k9)) + ((Tp ((goP Tp n S.1) + k9)).toInt64)) - 96), .ref q2, .ref q3, .ref q4, .int sm, .ref q5, .ref q6, .ref q7, .ref q8, .int rm])), (q1, .inl (cI, 840, .inl Tp)), (q2, .inl (cI, 240, .inl Nw)), (q3, .inl (cI, 240, .inl S.2.2.2.2.2.2.2)), (q4, .inl (cI, 2880, .inl Sn)), (q5, .inl (cI, 4, .inl In)), (q6, .inl (cI, 500, .inl Pd)), (q7, .inl (cI, 500, .inl Rt)), (q8, .inl (cI, 10000, .inl Rw))]) hx hb hts in_X9_go_9 tyX9 tyX9_ok nmX9 hown hK hP hD hS 0 4 rfl rfl (by decide) (List.mem_of_getElem? (i := 1) rfl) rfl rfl rfl (Nat.le_of_ble_eq_true rfl) dX9_go_306 rfl (fun H_ lc_ hP hD hS => ?_)
                      refine lv_goto (tgt := 177) hx hb dX9_go_309 (by decide) ?_
                      exact ih177 (k9 + 1) (by omega) (by rw [← hinv9]; exact (bl_T (isaM_T hal) ha.1).symm) _ _ _ _ (by omega) (hg) (rfl) (by rw [wdM_s, if_neg c246]) (by rw [nuM_s, if_pos c279]) _ _ hP hD hS ls (lv_sub hl [1, 2, 3, 0] rfl)
                    · refine lv_aload_n hx hb dX9_go_282 rfl (lv_at hl 1 rfl) ?_
                      refine lv_bipush (v := 10) hx hb dX9_go_283 (by decide) ?_
                      refine lv_aload_n hx hb dX9_go_285 rfl (lv_at hl 1 rfl) ?_
                      refine g_get (C := RX9) (T := TX9) (N := 20) (ci := 9) (index := 41) hx hb hts in_X9_go_9 hown hK hP 0 7 rfl rfl (by decide) (List.mem_of_getElem? (i := 7) rfl) rfl dX9_go_286 ?_
                      refine lv_imul hx hb dX9_go_289 ?_
                      refine lv_iload hx hb dX9_go_290 (lv_at hl 4 rfl) ?_
                      refine lv_iadd hx hb dX9_go_292 ?_
                      refine lv_bipush (v := 48) hx hb dX9_go_293 (by decide) ?_
                      refine lv_isub hx hb dX9_go_295 ?_
                      refine g_put (C := RX9) (T := TX9) (N := 20) (ci := 9) (index := 41) (v := .int (((10 * (nuM Tp (goP Tp n S.1) k9)) + (Tp ((goP Tp n S.1) + k9))) - 48)) (ws' := [(mo, .inr (9, [.int th, .ref q1, .int tn, .int (nI n), .int (nI ((goP Tp n S.1) + k9)), .int (nI (goP Tp n S.1)), .int S.2.2.1, .int (((10 * (nuM Tp (goP Tp n S.1) k9)) + (Tp ((goP Tp n S.1) + k9))) - 48), .int S.2.2.2.2.1, .int S.2.2.2.2.2.1, .long (((27 * (wdM Tp (goP Tp n S.1) k9)) + ((Tp ((goP Tp n S.1) + k9)).toInt64)) - 96), .ref q2, .ref q3, .ref q4, .int sm, .ref q5, .ref q6, .ref q7, .ref q8, .int rm])), (q1, .inl (cI, 840, .inl Tp)), (q2, .inl (cI, 240, .inl Nw)), (q3, .inl (cI, 240, .inl S.2.2.2.2.2.2.2)), (q4, .inl (cI, 2880, .inl Sn)), (q5, .inl (cI, 4, .inl In)), (q6, .inl (cI, 500, .inl Pd)), (q7, .inl (cI, 500, .inl Rt)), (q8, .inl (cI, 10000, .inl Rw))]) hx hb hts in_X9_go_9 tyX9 tyX9_ok nmX9 hown hK hP hD hS 0 7 rfl rfl (by decide) (List.mem_of_getElem? (i := 7) rfl) rfl rfl rfl (Nat.le_of_ble_eq_true rfl) dX9_go_296 rfl (fun H_ lc_ hP hD hS => ?_)
                      refine lv_aload_n hx hb dX9_go_299 rfl (lv_at hl 1 rfl) ?_
                      refine lv_dup hx hb dX9_go_300 rfl ?_
                      refine g_get (C := RX9) (T := TX9) (N := 20) (ci := 9) (index := 21) hx hb hts in_X9_go_9 hown hK hP 0 4 rfl rfl (by decide) (List.mem_of_getElem? (i := 1) rfl) rfl dX9_go_301 ?_
                      refine lv_iconst (v := 1) hx hb dX9_go_304 (by decide) ?_
                      refine lv_iadd hx hb dX9_go_305 ?_
                      rw [show ((nI ((goP Tp n S.1) + k9)) + 1 : Int32) = nI ((goP Tp n S.1) + (k9 + 1)) from nI_1 _]
                      refine g_put (C := RX9) (T := TX9) (N := 20) (ci := 9) (index := 21) (v := .int (nI ((goP Tp n S.1) + (k9 + 1)))) (ws' := [(mo, .inr (9, [.int th, .ref q1, .int tn, .int (nI n), .int (nI ((goP Tp n S.1) + (k9 + 1))), .int (nI (goP Tp n S.1)), .int S.2.2.1, .int (((10 * (nuM Tp (goP Tp n S.1) k9)) + (Tp ((goP Tp n S.1) + k9))) - 48), .int S.2.2.2.2.1, .int S.2.2.2.2.2.1, .long (((27 * (wdM Tp (goP Tp n S.1) k9)) + ((Tp ((goP Tp n S.1) + k9)).toInt64)) - 96), .ref q2, .ref q3, .ref q4, .int sm, .ref q5, .ref q6, .ref q7, .ref q8, .int rm])), (q1, .inl (cI, 840, .inl Tp)), (q2, .inl (cI, 240, .inl Nw)), (q3, .inl (cI, 240, .inl S.2.2.2.2.2.2.2)), (q4, .inl (cI, 2880, .inl Sn)), (q5, .inl (cI, 4, .inl In)), (q6, .inl (cI, 500, .inl Pd)), (q7, .inl (cI, 500, .inl Rt)), (q8, .inl (cI, 10000, .inl Rw))]) hx hb hts in_X9_go_9 tyX9 tyX9_ok nmX9 hown hK hP hD hS 0 4 rfl rfl (by decide) (List.mem_of_getElem? (i := 1) rfl) rfl rfl rfl (Nat.le_of_ble_eq_true rfl) dX9_go_306 rfl (fun H_ lc_ hP hD hS => ?_)
                      refine lv_goto (tgt := 177) hx hb dX9_go_309 (by decide) ?_
                      exact ih177 (k9 + 1) (by omega) (by rw [← hinv9]; exact (bl_T (isaM_T hal) ha.1).symm) _ _ _ _ (by omega) (hg) (rfl) (by rw [wdM_s, if_neg c246]) (by rw [nuM_s, if_neg c279]) _ _ hP hD hS ls (lv_sub hl [1, 2, 3, 0] rfl)
                refine lv_iload_n hx hb dX9_go_216 rfl (lv_at hl 4 rfl) ?_
                refine lv_if_eq (tgt := 233) hx hb dX9_go_217 (by decide) (fun c217 => ?_) (fun c217 => ?_)
                · refine lv_iconst (v := 0) hx hb dX9_go_233 (by decide) ?_
                  exact J234 0 (by rw [gdM_s, if_pos c217])   _ _ hP hD hS ls (lv_sub hl [1, 2, 3, 4, 0] rfl)
                · refine lv_iload hx hb dX9_go_220 (lv_at hl 0 rfl) ?_
                  refine rd_S (As := [.int (Tp ((goP Tp n S.1) + k9))]) (rest := []) (kX9_isLetter l D cI cB (Tp ((goP Tp n S.1) + k9)) ) ⟨hx, hb, hml, hown, hts⟩ (va_cwS 1 hts gX9_go_X9_isLetter rfl rfl rfl (by decide +kernel) ⟨Nat.le_of_ble_eq_true rfl, Nat.le_of_ble_eq_true rfl⟩) hK hP [] rfl rfl rfl hl.1 (Nat.le_of_ble_eq_true rfl) dX9_go_222 ⟨Nat.le_refl _, Nat.le_refl _⟩ ?_
                  refine lv_iload_n hx hb dX9_go_225 rfl (lv_at hl 3 rfl) ?_
                  refine lv_icmp_ne (tgt := 233) hx hb dX9_go_226 (by decide) (fun c226 => ?_) (fun c226 => ?_)
                  · refine lv_iconst (v := 0) hx hb dX9_go_233 (by decide) ?_
                    exact J234 0 (by rw [gdM_s, if_neg c217, if_neg c226])   _ _ hP hD hS ls (lv_sub hl [1, 2, 3, 4, 0] rfl)
                  · refine lv_iconst (v := 1) hx hb dX9_go_229 (by decide) ?_
                    refine lv_goto (tgt := 234) hx hb dX9_go_230 (by decide) ?_
                    exact J234 1 (by rw [gdM_s, if_neg c217, if_pos c226])   _ _ hP hD hS ls (lv_sub hl [1, 2, 3, 4, 0] rfl)
              · refine lv_aload_n hx hb dX9_go_191 rfl (lv_at hl 0 rfl) ?_
                refine lv_aload_n hx hb dX9_go_192 rfl (lv_at hl 0 rfl) ?_
                refine g_get (C := RX9) (T := TX9) (N := 20) (ci := 9) (index := 21) hx hb hts in_X9_go_9 hown hK hP 0 4 rfl rfl (by decide) (List.mem_of_getElem? (i := 1) rfl) rfl dX9_go_193 ?_
                refine rd_V (As := [.int (nI ((goP Tp n S.1) + k9))]) (rest := []) (ci := 9) (kX9_tapeAt l D cI cB mo q1 q2 q3 q4 q5 q6 q7 q8 th tn (nI ((goP Tp n S.1) + k9)) (nI (goP Tp n S.1)) S.2.2.1 (nuM Tp (goP Tp n S.1) k9) S.2.2.2.2.1 S.2.2.2.2.2.1 (wdM Tp (goP Tp n S.1) k9) sm rm Tp Nw S.2.2.2.2.2.2.2 Sn In Pd Rt Rw n ((goP Tp n S.1) + k9) (by first | assumption | omega) (by omega)) ⟨hx, hb, hml, hown, hts⟩ (cwV 1 hts gX9_go_X9_tapeAt rfl rfl rfl (by decide +kernel) ⟨Nat.le_of_ble_eq_true rfl, Nat.le_of_ble_eq_true rfl⟩) hK hP [0, 1, 2, 3, 4, 5, 6, 7, 8] rfl 0 rfl rfl rfl rfl hl.1 (Nat.le_of_ble_eq_true rfl) dX9_go_196 ⟨Nat.le_refl _, Nat.le_refl _⟩ ?_
                refine rd_S (As := [.int (tpA Tp n ((goP Tp n S.1) + k9))]) (rest := []) (kX9_isDigit l D cI cB (tpA Tp n ((goP Tp n S.1) + k9)) ) ⟨hx, hb, hml, hown, hts⟩ (va_cwS 1 hts gX9_go_X9_isDigit rfl rfl rfl (by decide +kernel) ⟨Nat.le_of_ble_eq_true rfl, Nat.le_of_ble_eq_true rfl⟩) hK hP [] rfl rfl rfl hl.1 (Nat.le_of_ble_eq_true rfl) dX9_go_199 ⟨Nat.le_refl _, Nat.le_refl _⟩ ?_
                refine lv_if_eq (tgt := 312) hx hb dX9_go_202 (by decide) (fun c202 => ?_) (fun c202 => ?_)
                · have hE : (goP Tp n S.1) + k9 = goE Tp n (goP Tp n S.1) := by rw [← hinv9]; exact (bl_F (isaM_F c188 c202)).symm
                  have hk : k9 = goE Tp n (goP Tp n S.1) - (goP Tp n S.1) := by omega
                  refine lv_aload_n hx hb dX9_go_312 rfl (lv_at hl 0 rfl) ?_
                  refine lv_iload_n hx hb dX9_go_313 rfl (lv_at hl 3 rfl) ?_
                  refine lv_if_eq (tgt := 334) hx hb dX9_go_314 (by decide) (fun c314 => ?_) (fun c314 => ?_)
                  · refine lv_iconst (v := 1) hx hb dX9_go_334 (by decide) ?_
                    refine lv_goto (tgt := 347) hx hb dX9_go_335 (by decide) ?_
                    refine g_put (C := RX9) (T := TX9) (N := 20) (ci := 9) (index := 27) (v := .int 1) (ws' := [(mo, .inr (9, [.int th, .ref q1, .int tn, .int (nI n), .int (nI ((goP Tp n S.1) + k9)), .int (nI (goP Tp n S.1)), .int 1, .int (nuM Tp (goP Tp n S.1) k9), .int S.2.2.2.2.1, .int S.2.2.2.2.2.1, .long (wdM Tp (goP Tp n S.1) k9), .ref q2, .ref q3, .ref q4, .int sm, .ref q5, .ref q6, .ref q7, .ref q8, .int rm])), (q1, .inl (cI, 840, .inl Tp)), (q2, .inl (cI, 240, .inl Nw)), (q3, .inl (cI, 240, .inl S.2.2.2.2.2.2.2)), (q4, .inl (cI, 2880, .inl Sn)), (q5, .inl (cI, 4, .inl In)), (q6, .inl (cI, 500, .inl Pd)), (q7, .inl (cI, 500, .inl Rt)), (q8, .inl (cI, 10000, .inl Rw))]) hx hb hts in_X9_go_9 tyX9 tyX9_ok nmX9 hown hK hP hD hS 0 6 rfl rfl (by decide) (List.mem_of_getElem? (i := 5) rfl) rfl rfl rfl (Nat.le_of_ble_eq_true rfl) dX9_go_347 rfl (fun H_ lc_ hP hD hS => ?_)
                    exact hret _ _ _ ls hS (by unfold goM; rw [if_neg hA, if_neg hB, if_neg (fun z => by first | exact c124 z.1 | exact c131 z.2)]; rw [← hk, ← hE]; unfold soM; rw [if_pos c314]; exact hP) dX9_go_350
                  · refine lv_iload_n hx hb dX9_go_317 rfl (lv_at hl 2 rfl) ?_
                    refine lv_if_ne (tgt := 338) hx hb dX9_go_318 (by decide) (fun c318 => ?_) (fun c318 => ?_)
                    · refine lv_iload_n hx hb dX9_go_338 rfl (lv_at hl 2 rfl) ?_
                      refine lv_if_eq (tgt := 346) hx hb dX9_go_339 (by decide) (fun c339 => absurd c339 (c318)) (fun c339 => ?_)
                      refine lv_iconst (v := 2) hx hb dX9_go_342 (by decide) ?_
                      refine lv_goto (tgt := 347) hx hb dX9_go_343 (by decide) ?_
                      refine g_put (C := RX9) (T := TX9) (N := 20) (ci := 9) (index := 27) (v := .int 2) (ws' := [(mo, .inr (9, [.int th, .ref q1, .int tn, .int (nI n), .int (nI ((goP Tp n S.1) + k9)), .int (nI (goP Tp n S.1)), .int 2, .int (nuM Tp (goP Tp n S.1) k9), .int S.2.2.2.2.1, .int S.2.2.2.2.2.1, .long (wdM Tp (goP Tp n S.1) k9), .ref q2, .ref q3, .ref q4, .int sm, .ref q5, .ref q6, .ref q7, .ref q8, .int rm])), (q1, .inl (cI, 840, .inl Tp)), (q2, .inl (cI, 240, .inl Nw)), (q3, .inl (cI, 240, .inl S.2.2.2.2.2.2.2)), (q4, .inl (cI, 2880, .inl Sn)), (q5, .inl (cI, 4, .inl In)), (q6, .inl (cI, 500, .inl Pd)), (q7, .inl (cI, 500, .inl Rt)), (q8, .inl (cI, 10000, .inl Rw))]) hx hb hts in_X9_go_9 tyX9 tyX9_ok nmX9 hown hK hP hD hS 0 6 rfl rfl (by decide) (List.mem_of_getElem? (i := 5) rfl) rfl rfl rfl (Nat.le_of_ble_eq_true rfl) dX9_go_347 rfl (fun H_ lc_ hP hD hS => ?_)
                      exact hret _ _ _ ls hS (by unfold goM; rw [if_neg hA, if_neg hB, if_neg (fun z => by first | exact c124 z.1 | exact c131 z.2)]; rw [← hk, ← hE]; unfold soM; rw [if_neg c314, if_neg c318]; exact hP) dX9_go_350
                    · refine lv_aload_n hx hb dX9_go_321 rfl (lv_at hl 0 rfl) ?_
                      refine g_get (C := RX9) (T := TX9) (N := 20) (ci := 9) (index := 21) hx hb hts in_X9_go_9 hown hK hP 0 4 rfl rfl (by decide) (List.mem_of_getElem? (i := 1) rfl) rfl dX9_go_322 ?_
                      refine lv_aload_n hx hb dX9_go_325 rfl (lv_at hl 0 rfl) ?_
                      refine g_get (C := RX9) (T := TX9) (N := 20) (ci := 9) (index := 24) hx hb hts in_X9_go_9 hown hK hP 0 5 rfl rfl (by decide) (List.mem_of_getElem? (i := 4) rfl) rfl dX9_go_326 ?_
                      refine lv_isub hx hb dX9_go_329 ?_
                      rw [show ((nI ((goP Tp n S.1) + k9)) - (nI (goP Tp n S.1)) : Int32) = nI k9 from by rw [pk_sub (by omega), show (goP Tp n S.1) + k9 - (goP Tp n S.1) = k9 by omega]]
                      refine lv_iconst (v := 5) hx hb dX9_go_330 (by decide) ?_
                      refine lv_icmp_le (tgt := 338) hx hb dX9_go_331 (by decide) (fun c331 => ?_) (fun c331 => ?_)
                      · refine lv_iload_n hx hb dX9_go_338 rfl (lv_at hl 2 rfl) ?_
                        refine lv_if_eq (tgt := 346) hx hb dX9_go_339 (by decide) (fun c339 => ?_) (fun c339 => absurd (c318) c339)
                        refine lv_iconst (v := 3) hx hb dX9_go_346 (by decide) ?_
                        refine g_put (C := RX9) (T := TX9) (N := 20) (ci := 9) (index := 27) (v := .int 3) (ws' := [(mo, .inr (9, [.int th, .ref q1, .int tn, .int (nI n), .int (nI ((goP Tp n S.1) + k9)), .int (nI (goP Tp n S.1)), .int 3, .int (nuM Tp (goP Tp n S.1) k9), .int S.2.2.2.2.1, .int S.2.2.2.2.2.1, .long (wdM Tp (goP Tp n S.1) k9), .ref q2, .ref q3, .ref q4, .int sm, .ref q5, .ref q6, .ref q7, .ref q8, .int rm])), (q1, .inl (cI, 840, .inl Tp)), (q2, .inl (cI, 240, .inl Nw)), (q3, .inl (cI, 240, .inl S.2.2.2.2.2.2.2)), (q4, .inl (cI, 2880, .inl Sn)), (q5, .inl (cI, 4, .inl In)), (q6, .inl (cI, 500, .inl Pd)), (q7, .inl (cI, 500, .inl Rt)), (q8, .inl (cI, 10000, .inl Rw))]) hx hb hts in_X9_go_9 tyX9 tyX9_ok nmX9 hown hK hP hD hS 0 6 rfl rfl (by decide) (List.mem_of_getElem? (i := 5) rfl) rfl rfl rfl (Nat.le_of_ble_eq_true rfl) dX9_go_347 rfl (fun H_ lc_ hP hD hS => ?_)
                        exact hret _ _ _ ls hS (by unfold goM; rw [if_neg hA, if_neg hB, if_neg (fun z => by first | exact c124 z.1 | exact c131 z.2)]; rw [← hk, ← hE]; unfold soM; rw [if_neg c314, if_pos c318, if_pos c331]; exact hP) dX9_go_350
                      · refine lv_iconst (v := 1) hx hb dX9_go_334 (by decide) ?_
                        refine lv_goto (tgt := 347) hx hb dX9_go_335 (by decide) ?_
                        refine g_put (C := RX9) (T := TX9) (N := 20) (ci := 9) (index := 27) (v := .int 1) (ws' := [(mo, .inr (9, [.int th, .ref q1, .int tn, .int (nI n), .int (nI ((goP Tp n S.1) + k9)), .int (nI (goP Tp n S.1)), .int 1, .int (nuM Tp (goP Tp n S.1) k9), .int S.2.2.2.2.1, .int S.2.2.2.2.2.1, .long (wdM Tp (goP Tp n S.1) k9), .ref q2, .ref q3, .ref q4, .int sm, .ref q5, .ref q6, .ref q7, .ref q8, .int rm])), (q1, .inl (cI, 840, .inl Tp)), (q2, .inl (cI, 240, .inl Nw)), (q3, .inl (cI, 240, .inl S.2.2.2.2.2.2.2)), (q4, .inl (cI, 2880, .inl Sn)), (q5, .inl (cI, 4, .inl In)), (q6, .inl (cI, 500, .inl Pd)), (q7, .inl (cI, 500, .inl Rt)), (q8, .inl (cI, 10000, .inl Rw))]) hx hb hts in_X9_go_9 tyX9 tyX9_ok nmX9 hown hK hP hD hS 0 6 rfl rfl (by decide) (List.mem_of_getElem? (i := 5) rfl) rfl rfl rfl (Nat.le_of_ble_eq_true rfl) dX9_go_347 rfl (fun H_ lc_ hP hD hS => ?_)
                        exact hret _ _ _ ls hS (by unfold goM; rw [if_neg hA, if_neg hB, if_neg (fun z => by first | exact c124 z.1 | exact c131 z.2)]; rw [← hk, ← hE]; unfold soM; rw [if_neg c314, if_pos c318, if_neg c331]; exact hP) dX9_go_350
                · have hal : ¬ isInM (tpA Tp n ((goP Tp n S.1) + k9)) 97 122 = 0 ∨ ¬ isInM (tpA Tp n ((goP Tp n S.1) + k9)) 48 57 = 0 := by first | exact Or.inl c188 | exact Or.inr c202
                  have ha := isaM_lt hn (by omega) hal
                  refine lv_aload_n hx hb dX9_go_205 rfl (lv_at hl 0 rfl) ?_
                  refine g_get (C := RX9) (T := TX9) (N := 20) (ci := 9) (index := 7) hx hb hts in_X9_go_9 hown hK hP 0 1 rfl rfl (by decide) (List.mem_of_getElem? (i := 3) rfl) rfl dX9_go_206 ?_
                  refine lv_aload_n hx hb dX9_go_209 rfl (lv_at hl 0 rfl) ?_
                  refine g_get (C := RX9) (T := TX9) (N := 20) (ci := 9) (index := 21) hx hb hts in_X9_go_9 hown hK hP 0 4 rfl rfl (by decide) (List.mem_of_getElem? (i := 1) rfl) rfl dX9_go_210 ?_
                  refine g_iald hx hb hK hP 1 0 rfl rfl ((goP Tp n S.1) + k9) (rfl) (by omega) (by omega) dX9_go_213 ?_
                  refine lv_istore (lv' := [(4, .int (Tp ((goP Tp n S.1) + k9))), (0, .ref mo), (1, .int (Tp (goP Tp n S.1))), (2, .int (isInM (Tp (goP Tp n S.1)) 97 122)), (3, .int (gdM Tp (goP Tp n S.1) (isInM (Tp (goP Tp n S.1)) 97 122) k9))]) hx hb dX9_go_214 hl (by decide) rfl (fun ls hl => ?_)
                  have J234 : ∀ (g9 : Int32) (hg : g9 = gdM Tp (goP Tp n S.1) (isInM (Tp (goP Tp n S.1)) 97 122) (k9 + 1)) , ∀ (H_ : Heap) (lc_ : List Loc), va_P D vwCl [(mo, .inr (9, [.int th, .ref q1, .int tn, .int (nI n), .int (nI ((goP Tp n S.1) + k9)), .int (nI (goP Tp n S.1)), .int S.2.2.1, .int (nuM Tp (goP Tp n S.1) k9), .int S.2.2.2.2.1, .int S.2.2.2.2.2.1, .long (wdM Tp (goP Tp n S.1) k9), .ref q2, .ref q3, .ref q4, .int sm, .ref q5, .ref q6, .ref q7, .ref q8, .int rm])), (q1, .inl (cI, 840, .inl Tp)), (q2, .inl (cI, 240, .inl Nw)), (q3, .inl (cI, 240, .inl S.2.2.2.2.2.2.2)), (q4, .inl (cI, 2880, .inl Sn)), (q5, .inl (cI, 4, .inl In)), (q6, .inl (cI, 500, .inl Pd)), (q7, .inl (cI, 500, .inl Rt)), (q8, .inl (cI, 10000, .inl Rw))] H_ → va_D A_ [(mo, .inr (9, [.int th, .ref q1, .int tn, .int (nI n), .int (nI ((goP Tp n S.1) + k9)), .int (nI (goP Tp n S.1)), .int S.2.2.1, .int (nuM Tp (goP Tp n S.1) k9), .int S.2.2.2.2.1, .int S.2.2.2.2.2.1, .long (wdM Tp (goP Tp n S.1) k9), .ref q2, .ref q3, .ref q4, .int sm, .ref q5, .ref q6, .ref q7, .ref q8, .int rm])), (q1, .inl (cI, 840, .inl Tp)), (q2, .inl (cI, 240, .inl Nw)), (q3, .inl (cI, 240, .inl S.2.2.2.2.2.2.2)), (q4, .inl (cI, 2880, .inl Sn)), (q5, .inl (cI, 4, .inl In)), (q6, .inl (cI, 500, .inl Pd)), (q7, .inl (cI, 500, .inl Rt)), (q8, .inl (cI, 10000, .inl Rw))] → va_S A_ s_.heap H_ lc_ → ∀ (ls : Array Slot), lv_has ls 5 [(0, .ref mo), (1, .int (Tp (goP Tp n S.1))), (2, .int (isInM (Tp (goP Tp n S.1)) 97 122)), (3, .int (gdM Tp (goP Tp n S.1) (isInM (Tp (goP Tp n S.1)) 97 122) k9)), (4, .int (Tp ((goP Tp n S.1) + k9)))] → W p_ l e_ (RM 1 21) s_ m_ ar_ be_ me_ co_ H_ lc_ 0 0 Q_ (F0 m_ 234 ls [.int g9]) := by
                    intro g9 hg  H_ lc_ hP hD hS ls hl
                    refine lv_istore_n (lv' := [(3, .int g9), (0, .ref mo), (1, .int (Tp (goP Tp n S.1))), (2, .int (isInM (Tp (goP Tp n S.1)) 97 122)), (4, .int (Tp ((goP Tp n S.1) + k9)))]) hx hb dX9_go_234 rfl hl (by decide) rfl (fun ls hl => ?_)
                    refine lv_aload_n hx hb dX9_go_235 rfl (lv_at hl 1 rfl) ?_
                    refine g_get (C := RX9) (T := TX9) (N := 20) (ci := 9) (index := 21) hx hb hts in_X9_go_9 hown hK hP 0 4 rfl rfl (by decide) (List.mem_of_getElem? (i := 1) rfl) rfl dX9_go_236 ?_
                    refine lv_aload_n hx hb dX9_go_239 rfl (lv_at hl 1 rfl) ?_
                    refine g_get (C := RX9) (T := TX9) (N := 20) (ci := 9) (index := 24) hx hb hts in_X9_go_9 hown hK hP 0 5 rfl rfl (by decide) (List.mem_of_getElem? (i := 4) rfl) rfl dX9_go_240 ?_
                    refine lv_isub hx hb dX9_go_243 ?_
                    rw [show ((nI ((goP Tp n S.1) + k9)) - (nI (goP Tp n S.1)) : Int32) = nI k9 from by rw [pk_sub (by omega), show (goP Tp n S.1) + k9 - (goP Tp n S.1) = k9 by omega]]
                    refine lv_bipush (v := 7) hx hb dX9_go_244 (by decide) ?_
                    refine lv_icmp_ge (tgt := 269) hx hb dX9_go_246 (by decide) (fun c246 => ?_) (fun c246 => ?_)
                    · refine lv_aload_n hx hb dX9_go_269 rfl (lv_at hl 1 rfl) ?_
                      refine g_get (C := RX9) (T := TX9) (N := 20) (ci := 9) (index := 21) hx hb hts in_X9_go_9 hown hK hP 0 4 rfl rfl (by decide) (List.mem_of_getElem? (i := 1) rfl) rfl dX9_go_270 ?_
                      refine lv_aload_n hx hb dX9_go_273 rfl (lv_at hl 1 rfl) ?_
                      refine g_get (C := RX9) (T := TX9) (N := 20) (ci := 9) (index := 24) hx hb hts in_X9_go_9 hown hK hP 0 5 rfl rfl (by decide) (List.mem_of_getElem? (i := 4) rfl) rfl dX9_go_274 ?_
                      refine lv_isub hx hb dX9_go_277 ?_
                      rw [show ((nI ((goP Tp n S.1) + k9)) - (nI (goP Tp n S.1)) : Int32) = nI k9 from by rw [pk_sub (by omega), show (goP Tp n S.1) + k9 - (goP Tp n S.1) = k9 by omega]]
                      refine lv_iconst (v := 5) hx hb dX9_go_278 (by decide) ?_
                      refine lv_icmp_ge (tgt := 299) hx hb dX9_go_279 (by decide) (fun c279 => ?_) (fun c279 => ?_)
                      · refine lv_aload_n hx hb dX9_go_299 rfl (lv_at hl 1 rfl) ?_
                        refine lv_dup hx hb dX9_go_300 rfl ?_
                        refine g_get (C := RX9) (T := TX9) (N := 20) (ci := 9) (index := 21) hx hb hts in_X9_go_9 hown hK hP 0 4 rfl rfl (by decide) (List.mem_of_getElem? (i := 1) rfl) rfl dX9_go_301 ?_
                        refine lv_iconst (v := 1) hx hb dX9_go_304 (by decide) ?_
                        refine lv_iadd hx hb dX9_go_305 ?_
                        rw [show ((nI ((goP Tp n S.1) + k9)) + 1 : Int32) = nI ((goP Tp n S.1) + (k9 + 1)) from nI_1 _]
                        refine g_put (C := RX9) (T := TX9) (N := 20) (ci := 9) (index := 21) (v := .int (nI ((goP Tp n S.1) + (k9 + 1)))) (ws' := [(mo, .inr (9, [.int th, .ref q1, .int tn, .int (nI n), .int (nI ((goP Tp n S.1) + (k9 + 1))), .int (nI (goP Tp n S.1)), .int S.2.2.1, .int (nuM Tp (goP Tp n S.1) k9), .int S.2.2.2.2.1, .int S.2.2.2.2.2.1, .long (wdM Tp (goP Tp n S.1) k9), .ref q2, .ref q3, .ref q4, .int sm, .ref q5, .ref q6, .ref q7, .ref q8, .int rm])), (q1, .inl (cI, 840, .inl Tp)), (q2, .inl (cI, 240, .inl Nw)), (q3, .inl (cI, 240, .inl S.2.2.2.2.2.2.2)), (q4, .inl (cI, 2880, .inl Sn)), (q5, .inl (cI, 4, .inl In)), (q6, .inl (cI, 500, .inl Pd)), (q7, .inl (cI, 500, .inl Rt)), (q8, .inl (cI, 10000, .inl Rw))]) hx hb hts in_X9_go_9 tyX9 tyX9_ok nmX9 hown hK hP hD hS 0 4 rfl rfl (by decide) (List.mem_of_getElem? (i := 1) rfl) rfl rfl rfl (Nat.le_of_ble_eq_true rfl) dX9_go_306 rfl (fun H_ lc_ hP hD hS => ?_)
                        refine lv_goto (tgt := 177) hx hb dX9_go_309 (by decide) ?_
                        exact ih177 (k9 + 1) (by omega) (by rw [← hinv9]; exact (bl_T (isaM_T hal) ha.1).symm) _ _ _ _ (by omega) (hg) (rfl) (by rw [wdM_s, if_pos c246]) (by rw [nuM_s, if_pos c279]) _ _ hP hD hS ls (lv_sub hl [1, 2, 3, 0] rfl)
                      · refine lv_aload_n hx hb dX9_go_282 rfl (lv_at hl 1 rfl) ?_
                        refine lv_bipush (v := 10) hx hb dX9_go_283 (by decide) ?_
                        refine lv_aload_n hx hb dX9_go_285 rfl (lv_at hl 1 rfl) ?_
                        refine g_get (C := RX9) (T := TX9) (N := 20) (ci := 9) (index := 41) hx hb hts in_X9_go_9 hown hK hP 0 7 rfl rfl (by decide) (List.mem_of_getElem? (i := 7) rfl) rfl dX9_go_286 ?_
                        refine lv_imul hx hb dX9_go_289 ?_
                        refine lv_iload hx hb dX9_go_290 (lv_at hl 4 rfl) ?_
                        refine lv_iadd hx hb dX9_go_292 ?_
                        refine lv_bipush (v := 48) hx hb dX9_go_293 (by decide) ?_
                        refine lv_isub hx hb dX9_go_295 ?_
                        refine g_put (C := RX9) (T := TX9) (N := 20) (ci := 9) (index := 41) (v := .int (((10 * (nuM Tp (goP Tp n S.1) k9)) + (Tp ((goP Tp n S.1) + k9))) - 48)) (ws' := [(mo, .inr (9, [.int th, .ref q1, .int tn, .int (nI n), .int (nI ((goP Tp n S.1) + k9)), .int (nI (goP Tp n S.1)), .int S.2.2.1, .int (((10 * (nuM Tp (goP Tp n S.1) k9)) + (Tp ((goP Tp n S.1) + k9))) - 48), .int S.2.2.2.2.1, .int S.2.2.2.2.2.1, .long (wdM Tp (goP Tp n S.1) k9), .ref q2, .ref q3, .ref q4, .int sm, .ref q5, .ref q6, .ref q7, .ref q8, .int rm])), (q1, .inl (cI, 840, .inl Tp)), (q2, .inl (cI, 240, .inl Nw)), (q3, .inl (cI, 240, .inl S.2.2.2.2.2.2.2)), (q4, .inl (cI, 2880, .inl Sn)), (q5, .inl (cI, 4, .inl In)), (q6, .inl (cI, 500, .inl Pd)), (q7, .inl (cI, 500, .inl Rt)), (q8, .inl (cI, 10000, .inl Rw))]) hx hb hts in_X9_go_9 tyX9 tyX9_ok nmX9 hown hK hP hD hS 0 7 rfl rfl (by decide) (List.mem_of_getElem? (i := 7) rfl) rfl rfl rfl (Nat.le_of_ble_eq_true rfl) dX9_go_296 rfl (fun H_ lc_ hP hD hS => ?_)
                        refine lv_aload_n hx hb dX9_go_299 rfl (lv_at hl 1 rfl) ?_
                        refine lv_dup hx hb dX9_go_300 rfl ?_
                        refine g_get (C := RX9) (T := TX9) (N := 20) (ci := 9) (index := 21) hx hb hts in_X9_go_9 hown hK hP 0 4 rfl rfl (by decide) (List.mem_of_getElem? (i := 1) rfl) rfl dX9_go_301 ?_
                        refine lv_iconst (v := 1) hx hb dX9_go_304 (by decide) ?_
                        refine lv_iadd hx hb dX9_go_305 ?_
                        rw [show ((nI ((goP Tp n S.1) + k9)) + 1 : Int32) = nI ((goP Tp n S.1) + (k9 + 1)) from nI_1 _]
                        refine g_put (C := RX9) (T := TX9) (N := 20) (ci := 9) (index := 21) (v := .int (nI ((goP Tp n S.1) + (k9 + 1)))) (ws' := [(mo, .inr (9, [.int th, .ref q1, .int tn, .int (nI n), .int (nI ((goP Tp n S.1) + (k9 + 1))), .int (nI (goP Tp n S.1)), .int S.2.2.1, .int (((10 * (nuM Tp (goP Tp n S.1) k9)) + (Tp ((goP Tp n S.1) + k9))) - 48), .int S.2.2.2.2.1, .int S.2.2.2.2.2.1, .long (wdM Tp (goP Tp n S.1) k9), .ref q2, .ref q3, .ref q4, .int sm, .ref q5, .ref q6, .ref q7, .ref q8, .int rm])), (q1, .inl (cI, 840, .inl Tp)), (q2, .inl (cI, 240, .inl Nw)), (q3, .inl (cI, 240, .inl S.2.2.2.2.2.2.2)), (q4, .inl (cI, 2880, .inl Sn)), (q5, .inl (cI, 4, .inl In)), (q6, .inl (cI, 500, .inl Pd)), (q7, .inl (cI, 500, .inl Rt)), (q8, .inl (cI, 10000, .inl Rw))]) hx hb hts in_X9_go_9 tyX9 tyX9_ok nmX9 hown hK hP hD hS 0 4 rfl rfl (by decide) (List.mem_of_getElem? (i := 1) rfl) rfl rfl rfl (Nat.le_of_ble_eq_true rfl) dX9_go_306 rfl (fun H_ lc_ hP hD hS => ?_)
                        refine lv_goto (tgt := 177) hx hb dX9_go_309 (by decide) ?_
                        exact ih177 (k9 + 1) (by omega) (by rw [← hinv9]; exact (bl_T (isaM_T hal) ha.1).symm) _ _ _ _ (by omega) (hg) (rfl) (by rw [wdM_s, if_pos c246]) (by rw [nuM_s, if_neg c279]) _ _ hP hD hS ls (lv_sub hl [1, 2, 3, 0] rfl)
                    · refine lv_aload_n hx hb dX9_go_249 rfl (lv_at hl 1 rfl) ?_
                      refine lv_ldc2 (v := 27) hx hb hown (hts (.constantLong RX9 48 (27)) (List.mem_of_getElem? (i := 8) rfl)) dX9_go_250 ?_
                      refine lv_aload_n hx hb dX9_go_253 rfl (lv_at hl 1 rfl) ?_
                      refine g_get (C := RX9) (T := TX9) (N := 20) (ci := 9) (index := 37) hx hb hts in_X9_go_9 hown hK hP 0 10 rfl rfl (by decide) (List.mem_of_getElem? (i := 6) rfl) rfl dX9_go_254 ?_
                      refine lv_lmul hx hb dX9_go_257 ?_
                      refine lv_iload hx hb dX9_go_258 (lv_at hl 4 rfl) ?_
                      refine lv_i2l (v := (Tp ((goP Tp n S.1) + k9)).toInt64) hx hb dX9_go_260 rfl ?_
                      refine lv_ladd hx hb dX9_go_261 ?_
                      refine lv_ldc2 (v := 96) hx hb hown (hts (.constantLong RX9 50 (96)) (List.mem_of_getElem? (i := 9) rfl)) dX9_go_262 ?_
                      refine lv_lsub hx hb dX9_go_265 ?_
                      refine g_put (C := RX9) (T := TX9) (N := 20) (ci := 9) (index := 37) (v := .long (((27 * (wdM Tp (goP Tp n S.1) k9)) + ((Tp ((goP Tp n S.1) + k9)).toInt64)) - 96)) (ws' := [(mo, .inr (9, [.int th, .ref q1, .int tn, .int (nI n), .int (nI ((goP Tp n S.1) + k9)), .int (nI (goP Tp n S.1)), .int S.2.2.1, .int (nuM Tp (goP Tp n S.1) k9), .int S.2.2.2.2.1, .int S.2.2.2.2.2.1, .long (((27 * (wdM Tp (goP Tp n S.1) k9)) + ((Tp ((goP Tp n S.1) + k9)).toInt64)) - 96), .ref q2, .ref q3, .ref q4, .int sm, .ref q5, .ref q6, .ref q7, .ref q8, .int rm])), (q1, .inl (cI, 840, .inl Tp)), (q2, .inl (cI, 240, .inl Nw)), (q3, .inl (cI, 240, .inl S.2.2.2.2.2.2.2)), (q4, .inl (cI, 2880, .inl Sn)), (q5, .inl (cI, 4, .inl In)), (q6, .inl (cI, 500, .inl Pd)), (q7, .inl (cI, 500, .inl Rt)), (q8, .inl (cI, 10000, .inl Rw))]) hx hb hts in_X9_go_9 tyX9 tyX9_ok nmX9 hown hK hP hD hS 0 10 rfl rfl (by decide) (List.mem_of_getElem? (i := 6) rfl) rfl rfl rfl (Nat.le_of_ble_eq_true rfl) dX9_go_266 rfl (fun H_ lc_ hP hD hS => ?_)
                      refine lv_aload_n hx hb dX9_go_269 rfl (lv_at hl 1 rfl) ?_
                      refine g_get (C := RX9) (T := TX9) (N := 20) (ci := 9) (index := 21) hx hb hts in_X9_go_9 hown hK hP 0 4 rfl rfl (by decide) (List.mem_of_getElem? (i := 1) rfl) rfl dX9_go_270 ?_
                      refine lv_aload_n hx hb dX9_go_273 rfl (lv_at hl 1 rfl) ?_
                      refine g_get (C := RX9) (T := TX9) (N := 20) (ci := 9) (index := 24) hx hb hts in_X9_go_9 hown hK hP 0 5 rfl rfl (by decide) (List.mem_of_getElem? (i := 4) rfl) rfl dX9_go_274 ?_
                      refine lv_isub hx hb dX9_go_277 ?_
                      rw [show ((nI ((goP Tp n S.1) + k9)) - (nI (goP Tp n S.1)) : Int32) = nI k9 from by rw [pk_sub (by omega), show (goP Tp n S.1) + k9 - (goP Tp n S.1) = k9 by omega]]
                      refine lv_iconst (v := 5) hx hb dX9_go_278 (by decide) ?_
                      refine lv_icmp_ge (tgt := 299) hx hb dX9_go_279 (by decide) (fun c279 => ?_) (fun c279 => ?_)
                      · refine lv_aload_n hx hb dX9_go_299 rfl (lv_at hl 1 rfl) ?_
                        refine lv_dup hx hb dX9_go_300 rfl ?_
                        refine g_get (C := RX9) (T := TX9) (N := 20) (ci := 9) (index := 21) hx hb hts in_X9_go_9 hown hK hP 0 4 rfl rfl (by decide) (List.mem_of_getElem? (i := 1) rfl) rfl dX9_go_301 ?_
                        refine lv_iconst (v := 1) hx hb dX9_go_304 (by decide) ?_
                        refine lv_iadd hx hb dX9_go_305 ?_
                        rw [show ((nI ((goP Tp n S.1) + k9)) + 1 : Int32) = nI ((goP Tp n S.1) + (k9 + 1)) from nI_1 _]
                        refine g_put (C := RX9) (T := TX9) (N := 20) (ci := 9) (index := 21) (v := .int (nI ((goP Tp n S.1) + (k9 + 1)))) (ws' := [(mo, .inr (9, [.int th, .ref q1, .int tn, .int (nI n), .int (nI ((goP Tp n S.1) + (k9 + 1))), .int (nI (goP Tp n S.1)), .int S.2.2.1, .int (nuM Tp (goP Tp n S.1) k9), .int S.2.2.2.2.1, .int S.2.2.2.2.2.1, .long (((27 * (wdM Tp (goP Tp n S.1) k9)) + ((Tp ((goP Tp n S.1) + k9)).toInt64)) - 96), .ref q2, .ref q3, .ref q4, .int sm, .ref q5, .ref q6, .ref q7, .ref q8, .int rm])), (q1, .inl (cI, 840, .inl Tp)), (q2, .inl (cI, 240, .inl Nw)), (q3, .inl (cI, 240, .inl S.2.2.2.2.2.2.2)), (q4, .inl (cI, 2880, .inl Sn)), (q5, .inl (cI, 4, .inl In)), (q6, .inl (cI, 500, .inl Pd)), (q7, .inl (cI, 500, .inl Rt)), (q8, .inl (cI, 10000, .inl Rw))]) hx hb hts in_X9_go_9 tyX9 tyX9_ok nmX9 hown hK hP hD hS 0 4 rfl rfl (by decide) (List.mem_of_getElem? (i := 1) rfl) rfl rfl rfl (Nat.le_of_ble_eq_true rfl) dX9_go_306 rfl (fun H_ lc_ hP hD hS => ?_)
                        refine lv_goto (tgt := 177) hx hb dX9_go_309 (by decide) ?_
                        exact ih177 (k9 + 1) (by omega) (by rw [← hinv9]; exact (bl_T (isaM_T hal) ha.1).symm) _ _ _ _ (by omega) (hg) (rfl) (by rw [wdM_s, if_neg c246]) (by rw [nuM_s, if_pos c279]) _ _ hP hD hS ls (lv_sub hl [1, 2, 3, 0] rfl)
                      · refine lv_aload_n hx hb dX9_go_282 rfl (lv_at hl 1 rfl) ?_
                        refine lv_bipush (v := 10) hx hb dX9_go_283 (by decide) ?_
                        refine lv_aload_n hx hb dX9_go_285 rfl (lv_at hl 1 rfl) ?_
                        refine g_get (C := RX9) (T := TX9) (N := 20) (ci := 9) (index := 41) hx hb hts in_X9_go_9 hown hK hP 0 7 rfl rfl (by decide) (List.mem_of_getElem? (i := 7) rfl) rfl dX9_go_286 ?_
                        refine lv_imul hx hb dX9_go_289 ?_
                        refine lv_iload hx hb dX9_go_290 (lv_at hl 4 rfl) ?_
                        refine lv_iadd hx hb dX9_go_292 ?_
                        refine lv_bipush (v := 48) hx hb dX9_go_293 (by decide) ?_
                        refine lv_isub hx hb dX9_go_295 ?_
                        refine g_put (C := RX9) (T := TX9) (N := 20) (ci := 9) (index := 41) (v := .int (((10 * (nuM Tp (goP Tp n S.1) k9)) + (Tp ((goP Tp n S.1) + k9))) - 48)) (ws' := [(mo, .inr (9, [.int th, .ref q1, .int tn, .int (nI n), .int (nI ((goP Tp n S.1) + k9)), .int (nI (goP Tp n S.1)), .int S.2.2.1, .int (((10 * (nuM Tp (goP Tp n S.1) k9)) + (Tp ((goP Tp n S.1) + k9))) - 48), .int S.2.2.2.2.1, .int S.2.2.2.2.2.1, .long (((27 * (wdM Tp (goP Tp n S.1) k9)) + ((Tp ((goP Tp n S.1) + k9)).toInt64)) - 96), .ref q2, .ref q3, .ref q4, .int sm, .ref q5, .ref q6, .ref q7, .ref q8, .int rm])), (q1, .inl (cI, 840, .inl Tp)), (q2, .inl (cI, 240, .inl Nw)), (q3, .inl (cI, 240, .inl S.2.2.2.2.2.2.2)), (q4, .inl (cI, 2880, .inl Sn)), (q5, .inl (cI, 4, .inl In)), (q6, .inl (cI, 500, .inl Pd)), (q7, .inl (cI, 500, .inl Rt)), (q8, .inl (cI, 10000, .inl Rw))]) hx hb hts in_X9_go_9 tyX9 tyX9_ok nmX9 hown hK hP hD hS 0 7 rfl rfl (by decide) (List.mem_of_getElem? (i := 7) rfl) rfl rfl rfl (Nat.le_of_ble_eq_true rfl) dX9_go_296 rfl (fun H_ lc_ hP hD hS => ?_)
                        refine lv_aload_n hx hb dX9_go_299 rfl (lv_at hl 1 rfl) ?_
                        refine lv_dup hx hb dX9_go_300 rfl ?_
                        refine g_get (C := RX9) (T := TX9) (N := 20) (ci := 9) (index := 21) hx hb hts in_X9_go_9 hown hK hP 0 4 rfl rfl (by decide) (List.mem_of_getElem? (i := 1) rfl) rfl dX9_go_301 ?_
                        refine lv_iconst (v := 1) hx hb dX9_go_304 (by decide) ?_
                        refine lv_iadd hx hb dX9_go_305 ?_
                        rw [show ((nI ((goP Tp n S.1) + k9)) + 1 : Int32) = nI ((goP Tp n S.1) + (k9 + 1)) from nI_1 _]
                        refine g_put (C := RX9) (T := TX9) (N := 20) (ci := 9) (index := 21) (v := .int (nI ((goP Tp n S.1) + (k9 + 1)))) (ws' := [(mo, .inr (9, [.int th, .ref q1, .int tn, .int (nI n), .int (nI ((goP Tp n S.1) + (k9 + 1))), .int (nI (goP Tp n S.1)), .int S.2.2.1, .int (((10 * (nuM Tp (goP Tp n S.1) k9)) + (Tp ((goP Tp n S.1) + k9))) - 48), .int S.2.2.2.2.1, .int S.2.2.2.2.2.1, .long (((27 * (wdM Tp (goP Tp n S.1) k9)) + ((Tp ((goP Tp n S.1) + k9)).toInt64)) - 96), .ref q2, .ref q3, .ref q4, .int sm, .ref q5, .ref q6, .ref q7, .ref q8, .int rm])), (q1, .inl (cI, 840, .inl Tp)), (q2, .inl (cI, 240, .inl Nw)), (q3, .inl (cI, 240, .inl S.2.2.2.2.2.2.2)), (q4, .inl (cI, 2880, .inl Sn)), (q5, .inl (cI, 4, .inl In)), (q6, .inl (cI, 500, .inl Pd)), (q7, .inl (cI, 500, .inl Rt)), (q8, .inl (cI, 10000, .inl Rw))]) hx hb hts in_X9_go_9 tyX9 tyX9_ok nmX9 hown hK hP hD hS 0 4 rfl rfl (by decide) (List.mem_of_getElem? (i := 1) rfl) rfl rfl rfl (Nat.le_of_ble_eq_true rfl) dX9_go_306 rfl (fun H_ lc_ hP hD hS => ?_)
                        refine lv_goto (tgt := 177) hx hb dX9_go_309 (by decide) ?_
                        exact ih177 (k9 + 1) (by omega) (by rw [← hinv9]; exact (bl_T (isaM_T hal) ha.1).symm) _ _ _ _ (by omega) (hg) (rfl) (by rw [wdM_s, if_neg c246]) (by rw [nuM_s, if_neg c279]) _ _ hP hD hS ls (lv_sub hl [1, 2, 3, 0] rfl)
                  refine lv_iload_n hx hb dX9_go_216 rfl (lv_at hl 4 rfl) ?_
                  refine lv_if_eq (tgt := 233) hx hb dX9_go_217 (by decide) (fun c217 => ?_) (fun c217 => ?_)
                  · refine lv_iconst (v := 0) hx hb dX9_go_233 (by decide) ?_
                    exact J234 0 (by rw [gdM_s, if_pos c217])   _ _ hP hD hS ls (lv_sub hl [1, 2, 3, 4, 0] rfl)
                  · refine lv_iload hx hb dX9_go_220 (lv_at hl 0 rfl) ?_
                    refine rd_S (As := [.int (Tp ((goP Tp n S.1) + k9))]) (rest := []) (kX9_isLetter l D cI cB (Tp ((goP Tp n S.1) + k9)) ) ⟨hx, hb, hml, hown, hts⟩ (va_cwS 1 hts gX9_go_X9_isLetter rfl rfl rfl (by decide +kernel) ⟨Nat.le_of_ble_eq_true rfl, Nat.le_of_ble_eq_true rfl⟩) hK hP [] rfl rfl rfl hl.1 (Nat.le_of_ble_eq_true rfl) dX9_go_222 ⟨Nat.le_refl _, Nat.le_refl _⟩ ?_
                    refine lv_iload_n hx hb dX9_go_225 rfl (lv_at hl 3 rfl) ?_
                    refine lv_icmp_ne (tgt := 233) hx hb dX9_go_226 (by decide) (fun c226 => ?_) (fun c226 => ?_)
                    · refine lv_iconst (v := 0) hx hb dX9_go_233 (by decide) ?_
                      exact J234 0 (by rw [gdM_s, if_neg c217, if_neg c226])   _ _ hP hD hS ls (lv_sub hl [1, 2, 3, 4, 0] rfl)
                    · refine lv_iconst (v := 1) hx hb dX9_go_229 (by decide) ?_
                      refine lv_goto (tgt := 234) hx hb dX9_go_230 (by decide) ?_
                      exact J234 1 (by rw [gdM_s, if_neg c217, if_pos c226])   _ _ hP hD hS ls (lv_sub hl [1, 2, 3, 4, 0] rfl)
          exact L177 (n - ((goP Tp n S.1) + 0) + 1) 0 (by omega) (rfl) _ _ _ _ (Nat.lt_succ_self _) (rfl) (rfl) (rfl) (rfl) _ _ hP hD hS ls (lv_sub hl [3, 2, 1, 0] rfl)
        · refine lv_iload_n hx hb dX9_go_127 rfl (lv_at hl 0 rfl) ?_
          refine rd_S (As := [.int (Tp (goP Tp n S.1))]) (rest := []) (kX9_isDigit l D cI cB (Tp (goP Tp n S.1)) ) ⟨hx, hb, hml, hown, hts⟩ (va_cwS 1 hts gX9_go_X9_isDigit rfl rfl rfl (by decide +kernel) ⟨Nat.le_of_ble_eq_true rfl, Nat.le_of_ble_eq_true rfl⟩) hK hP [] rfl rfl rfl hl.1 (Nat.le_of_ble_eq_true rfl) dX9_go_128 ⟨Nat.le_refl _, Nat.le_refl _⟩ ?_
          refine lv_if_ne (tgt := 160) hx hb dX9_go_131 (by decide) (fun c131 => ?_) (fun c131 => ?_)
          · refine lv_iload_n hx hb dX9_go_160 rfl (lv_at hl 0 rfl) ?_
            refine rd_S (As := [.int (Tp (goP Tp n S.1))]) (rest := []) (kX9_isLetter l D cI cB (Tp (goP Tp n S.1)) ) ⟨hx, hb, hml, hown, hts⟩ (va_cwS 1 hts gX9_go_X9_isLetter rfl rfl rfl (by decide +kernel) ⟨Nat.le_of_ble_eq_true rfl, Nat.le_of_ble_eq_true rfl⟩) hK hP [] rfl rfl rfl hl.1 (Nat.le_of_ble_eq_true rfl) dX9_go_161 ⟨Nat.le_refl _, Nat.le_refl _⟩ ?_
            refine lv_istore_n (lv' := [(2, .int (isInM (Tp (goP Tp n S.1)) 97 122)), (1, .int (Tp (goP Tp n S.1))), (0, .ref mo)]) hx hb dX9_go_164 rfl hl (by decide) rfl (fun ls hl => ?_)
            refine lv_iconst (v := 1) hx hb dX9_go_165 (by decide) ?_
            refine lv_istore_n (lv' := [(3, .int 1), (2, .int (isInM (Tp (goP Tp n S.1)) 97 122)), (1, .int (Tp (goP Tp n S.1))), (0, .ref mo)]) hx hb dX9_go_166 rfl hl (by decide) rfl (fun ls hl => ?_)
            refine lv_aload_n hx hb dX9_go_167 rfl (lv_at hl 3 rfl) ?_
            refine lv_lconst (v := 0) hx hb dX9_go_168 (by decide) ?_
            refine g_put (C := RX9) (T := TX9) (N := 20) (ci := 9) (index := 37) (v := .long 0) (ws' := [(mo, .inr (9, [.int th, .ref q1, .int tn, .int (nI n), .int (nI (goP Tp n S.1)), .int (nI (goP Tp n S.1)), .int S.2.2.1, .int S.2.2.2.1, .int S.2.2.2.2.1, .int S.2.2.2.2.2.1, .long 0, .ref q2, .ref q3, .ref q4, .int sm, .ref q5, .ref q6, .ref q7, .ref q8, .int rm])), (q1, .inl (cI, 840, .inl Tp)), (q2, .inl (cI, 240, .inl Nw)), (q3, .inl (cI, 240, .inl S.2.2.2.2.2.2.2)), (q4, .inl (cI, 2880, .inl Sn)), (q5, .inl (cI, 4, .inl In)), (q6, .inl (cI, 500, .inl Pd)), (q7, .inl (cI, 500, .inl Rt)), (q8, .inl (cI, 10000, .inl Rw))]) hx hb hts in_X9_go_9 tyX9 tyX9_ok nmX9 hown hK hP hD hS 0 10 rfl rfl (by decide) (List.mem_of_getElem? (i := 6) rfl) rfl rfl rfl (Nat.le_of_ble_eq_true rfl) dX9_go_169 rfl (fun H_ lc_ hP hD hS => ?_)
            refine lv_aload_n hx hb dX9_go_172 rfl (lv_at hl 3 rfl) ?_
            refine lv_iconst (v := 0) hx hb dX9_go_173 (by decide) ?_
            refine g_put (C := RX9) (T := TX9) (N := 20) (ci := 9) (index := 41) (v := .int 0) (ws' := [(mo, .inr (9, [.int th, .ref q1, .int tn, .int (nI n), .int (nI (goP Tp n S.1)), .int (nI (goP Tp n S.1)), .int S.2.2.1, .int 0, .int S.2.2.2.2.1, .int S.2.2.2.2.2.1, .long 0, .ref q2, .ref q3, .ref q4, .int sm, .ref q5, .ref q6, .ref q7, .ref q8, .int rm])), (q1, .inl (cI, 840, .inl Tp)), (q2, .inl (cI, 240, .inl Nw)), (q3, .inl (cI, 240, .inl S.2.2.2.2.2.2.2)), (q4, .inl (cI, 2880, .inl Sn)), (q5, .inl (cI, 4, .inl In)), (q6, .inl (cI, 500, .inl Pd)), (q7, .inl (cI, 500, .inl Rt)), (q8, .inl (cI, 10000, .inl Rw))]) hx hb hts in_X9_go_9 tyX9 tyX9_ok nmX9 hown hK hP hD hS 0 7 rfl rfl (by decide) (List.mem_of_getElem? (i := 7) rfl) rfl rfl rfl (Nat.le_of_ble_eq_true rfl) dX9_go_174 rfl (fun H_ lc_ hP hD hS => ?_)
            have L177 : ∀ (nn_ : Nat) (k9 : Nat) (hk9 : (goP Tp n S.1) + k9 ≤ n) (hinv9 : bl (isaM Tp n) (n - ((goP Tp n S.1) + k9)) ((goP Tp n S.1) + k9) = goE Tp n (goP Tp n S.1)) (xx_v3 : Int32) (xx_u0_4 : Int32) (xx_u0_10 : Int64) (xx_u0_7 : Int32), (n - ((goP Tp n S.1) + k9)) < nn_ → xx_v3 = gdM Tp (goP Tp n S.1) (isInM (Tp (goP Tp n S.1)) 97 122) k9 → xx_u0_4 = nI ((goP Tp n S.1) + k9) → xx_u0_10 = wdM Tp (goP Tp n S.1) k9 → xx_u0_7 = nuM Tp (goP Tp n S.1) k9 → ∀ (H_ : Heap) (lc_ : List Loc), va_P D vwCl [(mo, .inr (9, [.int th, .ref q1, .int tn, .int (nI n), .int xx_u0_4, .int (nI (goP Tp n S.1)), .int S.2.2.1, .int xx_u0_7, .int S.2.2.2.2.1, .int S.2.2.2.2.2.1, .long xx_u0_10, .ref q2, .ref q3, .ref q4, .int sm, .ref q5, .ref q6, .ref q7, .ref q8, .int rm])), (q1, .inl (cI, 840, .inl Tp)), (q2, .inl (cI, 240, .inl Nw)), (q3, .inl (cI, 240, .inl S.2.2.2.2.2.2.2)), (q4, .inl (cI, 2880, .inl Sn)), (q5, .inl (cI, 4, .inl In)), (q6, .inl (cI, 500, .inl Pd)), (q7, .inl (cI, 500, .inl Rt)), (q8, .inl (cI, 10000, .inl Rw))] H_ → va_D A_ [(mo, .inr (9, [.int th, .ref q1, .int tn, .int (nI n), .int xx_u0_4, .int (nI (goP Tp n S.1)), .int S.2.2.1, .int xx_u0_7, .int S.2.2.2.2.1, .int S.2.2.2.2.2.1, .long xx_u0_10, .ref q2, .ref q3, .ref q4, .int sm, .ref q5, .ref q6, .ref q7, .ref q8, .int rm])), (q1, .inl (cI, 840, .inl Tp)), (q2, .inl (cI, 240, .inl Nw)), (q3, .inl (cI, 240, .inl S.2.2.2.2.2.2.2)), (q4, .inl (cI, 2880, .inl Sn)), (q5, .inl (cI, 4, .inl In)), (q6, .inl (cI, 500, .inl Pd)), (q7, .inl (cI, 500, .inl Rt)), (q8, .inl (cI, 10000, .inl Rw))] → va_S A_ s_.heap H_ lc_ → ∀ (ls : Array Slot), lv_has ls 5 [(0, .ref mo), (1, .int (Tp (goP Tp n S.1))), (2, .int (isInM (Tp (goP Tp n S.1)) 97 122)), (3, .int xx_v3)] → W p_ l e_ (RM 1 21) s_ m_ ar_ be_ me_ co_ H_ lc_ 0 0 Q_ (F0 m_ 177 ls []) := by
              intro nn_
              induction nn_ with
              | zero => intro k9 hk9 hinv9 xx_v3 xx_u0_4 xx_u0_10 xx_u0_7 hn_; exact absurd hn_ (Nat.not_lt_zero _)
              | succ nn_ ih177 =>
                intro k9 hk9 hinv9 xx_v3 xx_u0_4 xx_u0_10 xx_u0_7 hn_ e_xx_v3 e_xx_u0_4 e_xx_u0_10 e_xx_u0_7 H_ lc_ hP hD hS ls hl
                subst e_xx_v3 e_xx_u0_4 e_xx_u0_10 e_xx_u0_7
                refine lv_aload_n hx hb dX9_go_177 rfl (lv_at hl 0 rfl) ?_
                refine lv_aload_n hx hb dX9_go_178 rfl (lv_at hl 0 rfl) ?_
                refine g_get (C := RX9) (T := TX9) (N := 20) (ci := 9) (index := 21) hx hb hts in_X9_go_9 hown hK hP 0 4 rfl rfl (by decide) (List.mem_of_getElem? (i := 1) rfl) rfl dX9_go_179 ?_
                refine rd_V (As := [.int (nI ((goP Tp n S.1) + k9))]) (rest := []) (ci := 9) (kX9_tapeAt l D cI cB mo q1 q2 q3 q4 q5 q6 q7 q8 th tn (nI ((goP Tp n S.1) + k9)) (nI (goP Tp n S.1)) S.2.2.1 (nuM Tp (goP Tp n S.1) k9) S.2.2.2.2.1 S.2.2.2.2.2.1 (wdM Tp (goP Tp n S.1) k9) sm rm Tp Nw S.2.2.2.2.2.2.2 Sn In Pd Rt Rw n ((goP Tp n S.1) + k9) (by first | assumption | omega) (by omega)) ⟨hx, hb, hml, hown, hts⟩ (cwV 1 hts gX9_go_X9_tapeAt rfl rfl rfl (by decide +kernel) ⟨Nat.le_of_ble_eq_true rfl, Nat.le_of_ble_eq_true rfl⟩) hK hP [0, 1, 2, 3, 4, 5, 6, 7, 8] rfl 0 rfl rfl rfl rfl hl.1 (Nat.le_of_ble_eq_true rfl) dX9_go_182 ⟨Nat.le_refl _, Nat.le_refl _⟩ ?_
                refine rd_S (As := [.int (tpA Tp n ((goP Tp n S.1) + k9))]) (rest := []) (kX9_isLetter l D cI cB (tpA Tp n ((goP Tp n S.1) + k9)) ) ⟨hx, hb, hml, hown, hts⟩ (va_cwS 1 hts gX9_go_X9_isLetter rfl rfl rfl (by decide +kernel) ⟨Nat.le_of_ble_eq_true rfl, Nat.le_of_ble_eq_true rfl⟩) hK hP [] rfl rfl rfl hl.1 (Nat.le_of_ble_eq_true rfl) dX9_go_185 ⟨Nat.le_refl _, Nat.le_refl _⟩ ?_
                refine lv_if_ne (tgt := 205) hx hb dX9_go_188 (by decide) (fun c188 => ?_) (fun c188 => ?_)
                · have hal : ¬ isInM (tpA Tp n ((goP Tp n S.1) + k9)) 97 122 = 0 ∨ ¬ isInM (tpA Tp n ((goP Tp n S.1) + k9)) 48 57 = 0 := by first | exact Or.inl c188 | exact Or.inr c202
                  have ha := isaM_lt hn (by omega) hal
                  refine lv_aload_n hx hb dX9_go_205 rfl (lv_at hl 0 rfl) ?_
                  refine g_get (C := RX9) (T := TX9) (N := 20) (ci := 9) (index := 7) hx hb hts in_X9_go_9 hown hK hP 0 1 rfl rfl (by decide) (List.mem_of_getElem? (i := 3) rfl) rfl dX9_go_206 ?_
                  refine lv_aload_n hx hb dX9_go_209 rfl (lv_at hl 0 rfl) ?_
                  refine g_get (C := RX9) (T := TX9) (N := 20) (ci := 9) (index := 21) hx hb hts in_X9_go_9 hown hK hP 0 4 rfl rfl (by decide) (List.mem_of_getElem? (i := 1) rfl) rfl dX9_go_210 ?_
                  refine g_iald hx hb hK hP 1 0 rfl rfl ((goP Tp n S.1) + k9) (rfl) (by omega) (by omega) dX9_go_213 ?_
                  refine lv_istore (lv' := [(4, .int (Tp ((goP Tp n S.1) + k9))), (0, .ref mo), (1, .int (Tp (goP Tp n S.1))), (2, .int (isInM (Tp (goP Tp n S.1)) 97 122)), (3, .int (gdM Tp (goP Tp n S.1) (isInM (Tp (goP Tp n S.1)) 97 122) k9))]) hx hb dX9_go_214 hl (by decide) rfl (fun ls hl => ?_)
                  have J234 : ∀ (g9 : Int32) (hg : g9 = gdM Tp (goP Tp n S.1) (isInM (Tp (goP Tp n S.1)) 97 122) (k9 + 1)) , ∀ (H_ : Heap) (lc_ : List Loc), va_P D vwCl [(mo, .inr (9, [.int th, .ref q1, .int tn, .int (nI n), .int (nI ((goP Tp n S.1) + k9)), .int (nI (goP Tp n S.1)), .int S.2.2.1, .int (nuM Tp (goP Tp n S.1) k9), .int S.2.2.2.2.1, .int S.2.2.2.2.2.1, .long (wdM Tp (goP Tp n S.1) k9), .ref q2, .ref q3, .ref q4, .int sm, .ref q5, .ref q6, .ref q7, .ref q8, .int rm])), (q1, .inl (cI, 840, .inl Tp)), (q2, .inl (cI, 240, .inl Nw)), (q3, .inl (cI, 240, .inl S.2.2.2.2.2.2.2)), (q4, .inl (cI, 2880, .inl Sn)), (q5, .inl (cI, 4, .inl In)), (q6, .inl (cI, 500, .inl Pd)), (q7, .inl (cI, 500, .inl Rt)), (q8, .inl (cI, 10000, .inl Rw))] H_ → va_D A_ [(mo, .inr (9, [.int th, .ref q1, .int tn, .int (nI n), .int (nI ((goP Tp n S.1) + k9)), .int (nI (goP Tp n S.1)), .int S.2.2.1, .int (nuM Tp (goP Tp n S.1) k9), .int S.2.2.2.2.1, .int S.2.2.2.2.2.1, .long (wdM Tp (goP Tp n S.1) k9), .ref q2, .ref q3, .ref q4, .int sm, .ref q5, .ref q6, .ref q7, .ref q8, .int rm])), (q1, .inl (cI, 840, .inl Tp)), (q2, .inl (cI, 240, .inl Nw)), (q3, .inl (cI, 240, .inl S.2.2.2.2.2.2.2)), (q4, .inl (cI, 2880, .inl Sn)), (q5, .inl (cI, 4, .inl In)), (q6, .inl (cI, 500, .inl Pd)), (q7, .inl (cI, 500, .inl Rt)), (q8, .inl (cI, 10000, .inl Rw))] → va_S A_ s_.heap H_ lc_ → ∀ (ls : Array Slot), lv_has ls 5 [(0, .ref mo), (1, .int (Tp (goP Tp n S.1))), (2, .int (isInM (Tp (goP Tp n S.1)) 97 122)), (3, .int (gdM Tp (goP Tp n S.1) (isInM (Tp (goP Tp n S.1)) 97 122) k9)), (4, .int (Tp ((goP Tp n S.1) + k9)))] → W p_ l e_ (RM 1 21) s_ m_ ar_ be_ me_ co_ H_ lc_ 0 0 Q_ (F0 m_ 234 ls [.int g9]) := by
                    intro g9 hg  H_ lc_ hP hD hS ls hl
                    refine lv_istore_n (lv' := [(3, .int g9), (0, .ref mo), (1, .int (Tp (goP Tp n S.1))), (2, .int (isInM (Tp (goP Tp n S.1)) 97 122)), (4, .int (Tp ((goP Tp n S.1) + k9)))]) hx hb dX9_go_234 rfl hl (by decide) rfl (fun ls hl => ?_)
                    refine lv_aload_n hx hb dX9_go_235 rfl (lv_at hl 1 rfl) ?_
                    refine g_get (C := RX9) (T := TX9) (N := 20) (ci := 9) (index := 21) hx hb hts in_X9_go_9 hown hK hP 0 4 rfl rfl (by decide) (List.mem_of_getElem? (i := 1) rfl) rfl dX9_go_236 ?_
                    refine lv_aload_n hx hb dX9_go_239 rfl (lv_at hl 1 rfl) ?_
                    refine g_get (C := RX9) (T := TX9) (N := 20) (ci := 9) (index := 24) hx hb hts in_X9_go_9 hown hK hP 0 5 rfl rfl (by decide) (List.mem_of_getElem? (i := 4) rfl) rfl dX9_go_240 ?_
                    refine lv_isub hx hb dX9_go_243 ?_
                    rw [show ((nI ((goP Tp n S.1) + k9)) - (nI (goP Tp n S.1)) : Int32) = nI k9 from by rw [pk_sub (by omega), show (goP Tp n S.1) + k9 - (goP Tp n S.1) = k9 by omega]]
                    refine lv_bipush (v := 7) hx hb dX9_go_244 (by decide) ?_
                    refine lv_icmp_ge (tgt := 269) hx hb dX9_go_246 (by decide) (fun c246 => ?_) (fun c246 => ?_)
                    · refine lv_aload_n hx hb dX9_go_269 rfl (lv_at hl 1 rfl) ?_
                      refine g_get (C := RX9) (T := TX9) (N := 20) (ci := 9) (index := 21) hx hb hts in_X9_go_9 hown hK hP 0 4 rfl rfl (by decide) (List.mem_of_getElem? (i := 1) rfl) rfl dX9_go_270 ?_
                      refine lv_aload_n hx hb dX9_go_273 rfl (lv_at hl 1 rfl) ?_
                      refine g_get (C := RX9) (T := TX9) (N := 20) (ci := 9) (index := 24) hx hb hts in_X9_go_9 hown hK hP 0 5 rfl rfl (by decide) (List.mem_of_getElem? (i := 4) rfl) rfl dX9_go_274 ?_
                      refine lv_isub hx hb dX9_go_277 ?_
                      rw [show ((nI ((goP Tp n S.1) + k9)) - (nI (goP Tp n S.1)) : Int32) = nI k9 from by rw [pk_sub (by omega), show (goP Tp n S.1) + k9 - (goP Tp n S.1) = k9 by omega]]
                      refine lv_iconst (v := 5) hx hb dX9_go_278 (by decide) ?_
                      refine lv_icmp_ge (tgt := 299) hx hb dX9_go_279 (by decide) (fun c279 => ?_) (fun c279 => ?_)
                      · refine lv_aload_n hx hb dX9_go_299 rfl (lv_at hl 1 rfl) ?_
                        refine lv_dup hx hb dX9_go_300 rfl ?_
                        refine g_get (C := RX9) (T := TX9) (N := 20) (ci := 9) (index := 21) hx hb hts in_X9_go_9 hown hK hP 0 4 rfl rfl (by decide) (List.mem_of_getElem? (i := 1) rfl) rfl dX9_go_301 ?_
                        refine lv_iconst (v := 1) hx hb dX9_go_304 (by decide) ?_
                        refine lv_iadd hx hb dX9_go_305 ?_
                        rw [show ((nI ((goP Tp n S.1) + k9)) + 1 : Int32) = nI ((goP Tp n S.1) + (k9 + 1)) from nI_1 _]
                        refine g_put (C := RX9) (T := TX9) (N := 20) (ci := 9) (index := 21) (v := .int (nI ((goP Tp n S.1) + (k9 + 1)))) (ws' := [(mo, .inr (9, [.int th, .ref q1, .int tn, .int (nI n), .int (nI ((goP Tp n S.1) + (k9 + 1))), .int (nI (goP Tp n S.1)), .int S.2.2.1, .int (nuM Tp (goP Tp n S.1) k9), .int S.2.2.2.2.1, .int S.2.2.2.2.2.1, .long (wdM Tp (goP Tp n S.1) k9), .ref q2, .ref q3, .ref q4, .int sm, .ref q5, .ref q6, .ref q7, .ref q8, .int rm])), (q1, .inl (cI, 840, .inl Tp)), (q2, .inl (cI, 240, .inl Nw)), (q3, .inl (cI, 240, .inl S.2.2.2.2.2.2.2)), (q4, .inl (cI, 2880, .inl Sn)), (q5, .inl (cI, 4, .inl In)), (q6, .inl (cI, 500, .inl Pd)), (q7, .inl (cI, 500, .inl Rt)), (q8, .inl (cI, 10000, .inl Rw))]) hx hb hts in_X9_go_9 tyX9 tyX9_ok nmX9 hown hK hP hD hS 0 4 rfl rfl (by decide) (List.mem_of_getElem? (i := 1) rfl) rfl rfl rfl (Nat.le_of_ble_eq_true rfl) dX9_go_306 rfl (fun H_ lc_ hP hD hS => ?_)
                        refine lv_goto (tgt := 177) hx hb dX9_go_309 (by decide) ?_
                        exact ih177 (k9 + 1) (by omega) (by rw [← hinv9]; exact (bl_T (isaM_T hal) ha.1).symm) _ _ _ _ (by omega) (hg) (rfl) (by rw [wdM_s, if_pos c246]) (by rw [nuM_s, if_pos c279]) _ _ hP hD hS ls (lv_sub hl [1, 2, 3, 0] rfl)
                      · refine lv_aload_n hx hb dX9_go_282 rfl (lv_at hl 1 rfl) ?_
                        refine lv_bipush (v := 10) hx hb dX9_go_283 (by decide) ?_
                        refine lv_aload_n hx hb dX9_go_285 rfl (lv_at hl 1 rfl) ?_
                        refine g_get (C := RX9) (T := TX9) (N := 20) (ci := 9) (index := 41) hx hb hts in_X9_go_9 hown hK hP 0 7 rfl rfl (by decide) (List.mem_of_getElem? (i := 7) rfl) rfl dX9_go_286 ?_
                        refine lv_imul hx hb dX9_go_289 ?_
                        refine lv_iload hx hb dX9_go_290 (lv_at hl 4 rfl) ?_
                        refine lv_iadd hx hb dX9_go_292 ?_
                        refine lv_bipush (v := 48) hx hb dX9_go_293 (by decide) ?_
                        refine lv_isub hx hb dX9_go_295 ?_
                        refine g_put (C := RX9) (T := TX9) (N := 20) (ci := 9) (index := 41) (v := .int (((10 * (nuM Tp (goP Tp n S.1) k9)) + (Tp ((goP Tp n S.1) + k9))) - 48)) (ws' := [(mo, .inr (9, [.int th, .ref q1, .int tn, .int (nI n), .int (nI ((goP Tp n S.1) + k9)), .int (nI (goP Tp n S.1)), .int S.2.2.1, .int (((10 * (nuM Tp (goP Tp n S.1) k9)) + (Tp ((goP Tp n S.1) + k9))) - 48), .int S.2.2.2.2.1, .int S.2.2.2.2.2.1, .long (wdM Tp (goP Tp n S.1) k9), .ref q2, .ref q3, .ref q4, .int sm, .ref q5, .ref q6, .ref q7, .ref q8, .int rm])), (q1, .inl (cI, 840, .inl Tp)), (q2, .inl (cI, 240, .inl Nw)), (q3, .inl (cI, 240, .inl S.2.2.2.2.2.2.2)), (q4, .inl (cI, 2880, .inl Sn)), (q5, .inl (cI, 4, .inl In)), (q6, .inl (cI, 500, .inl Pd)), (q7, .inl (cI, 500, .inl Rt)), (q8, .inl (cI, 10000, .inl Rw))]) hx hb hts in_X9_go_9 tyX9 tyX9_ok nmX9 hown hK hP hD hS 0 7 rfl rfl (by decide) (List.mem_of_getElem? (i := 7) rfl) rfl rfl rfl (Nat.le_of_ble_eq_true rfl) dX9_go_296 rfl (fun H_ lc_ hP hD hS => ?_)
                        refine lv_aload_n hx hb dX9_go_299 rfl (lv_at hl 1 rfl) ?_
                        refine lv_dup hx hb dX9_go_300 rfl ?_
                        refine g_get (C := RX9) (T := TX9) (N := 20) (ci := 9) (index := 21) hx hb hts in_X9_go_9 hown hK hP 0 4 rfl rfl (by decide) (List.mem_of_getElem? (i := 1) rfl) rfl dX9_go_301 ?_
                        refine lv_iconst (v := 1) hx hb dX9_go_304 (by decide) ?_
                        refine lv_iadd hx hb dX9_go_305 ?_
                        rw [show ((nI ((goP Tp n S.1) + k9)) + 1 : Int32) = nI ((goP Tp n S.1) + (k9 + 1)) from nI_1 _]
                        refine g_put (C := RX9) (T := TX9) (N := 20) (ci := 9) (index := 21) (v := .int (nI ((goP Tp n S.1) + (k9 + 1)))) (ws' := [(mo, .inr (9, [.int th, .ref q1, .int tn, .int (nI n), .int (nI ((goP Tp n S.1) + (k9 + 1))), .int (nI (goP Tp n S.1)), .int S.2.2.1, .int (((10 * (nuM Tp (goP Tp n S.1) k9)) + (Tp ((goP Tp n S.1) + k9))) - 48), .int S.2.2.2.2.1, .int S.2.2.2.2.2.1, .long (wdM Tp (goP Tp n S.1) k9), .ref q2, .ref q3, .ref q4, .int sm, .ref q5, .ref q6, .ref q7, .ref q8, .int rm])), (q1, .inl (cI, 840, .inl Tp)), (q2, .inl (cI, 240, .inl Nw)), (q3, .inl (cI, 240, .inl S.2.2.2.2.2.2.2)), (q4, .inl (cI, 2880, .inl Sn)), (q5, .inl (cI, 4, .inl In)), (q6, .inl (cI, 500, .inl Pd)), (q7, .inl (cI, 500, .inl Rt)), (q8, .inl (cI, 10000, .inl Rw))]) hx hb hts in_X9_go_9 tyX9 tyX9_ok nmX9 hown hK hP hD hS 0 4 rfl rfl (by decide) (List.mem_of_getElem? (i := 1) rfl) rfl rfl rfl (Nat.le_of_ble_eq_true rfl) dX9_go_306 rfl (fun H_ lc_ hP hD hS => ?_)
                        refine lv_goto (tgt := 177) hx hb dX9_go_309 (by decide) ?_
                        exact ih177 (k9 + 1) (by omega) (by rw [← hinv9]; exact (bl_T (isaM_T hal) ha.1).symm) _ _ _ _ (by omega) (hg) (rfl) (by rw [wdM_s, if_pos c246]) (by rw [nuM_s, if_neg c279]) _ _ hP hD hS ls (lv_sub hl [1, 2, 3, 0] rfl)
                    · refine lv_aload_n hx hb dX9_go_249 rfl (lv_at hl 1 rfl) ?_
                      refine lv_ldc2 (v := 27) hx hb hown (hts (.constantLong RX9 48 (27)) (List.mem_of_getElem? (i := 8) rfl)) dX9_go_250 ?_
                      refine lv_aload_n hx hb dX9_go_253 rfl (lv_at hl 1 rfl) ?_
                      refine g_get (C := RX9) (T := TX9) (N := 20) (ci := 9) (index := 37) hx hb hts in_X9_go_9 hown hK hP 0 10 rfl rfl (by decide) (List.mem_of_getElem? (i := 6) rfl) rfl dX9_go_254 ?_
                      refine lv_lmul hx hb dX9_go_257 ?_
                      refine lv_iload hx hb dX9_go_258 (lv_at hl 4 rfl) ?_
                      refine lv_i2l (v := (Tp ((goP Tp n S.1) + k9)).toInt64) hx hb dX9_go_260 rfl ?_
                      refine lv_ladd hx hb dX9_go_261 ?_
                      refine lv_ldc2 (v := 96) hx hb hown (hts (.constantLong RX9 50 (96)) (List.mem_of_getElem? (i := 9) rfl)) dX9_go_262 ?_
                      refine lv_lsub hx hb dX9_go_265 ?_
                      refine g_put (C := RX9) (T := TX9) (N := 20) (ci := 9) (index := 37) (v := .long (((27 * (wdM Tp (goP Tp n S.1) k9)) + ((Tp ((goP Tp n S.1) + k9)).toInt64)) - 96)) (ws' := [(mo, .inr (9, [.int th, .ref q1, .int tn, .int (nI n), .int (nI ((goP Tp n S.1) + k9)), .int (nI (goP Tp n S.1)), .int S.2.2.1, .int (nuM Tp (goP Tp n S.1) k9), .int S.2.2.2.2.1, .int S.2.2.2.2.2.1, .long (((27 * (wdM Tp (goP Tp n S.1) k9)) + ((Tp ((goP Tp n S.1) + k9)).toInt64)) - 96), .ref q2, .ref q3, .ref q4, .int sm, .ref q5, .ref q6, .ref q7, .ref q8, .int rm])), (q1, .inl (cI, 840, .inl Tp)), (q2, .inl (cI, 240, .inl Nw)), (q3, .inl (cI, 240, .inl S.2.2.2.2.2.2.2)), (q4, .inl (cI, 2880, .inl Sn)), (q5, .inl (cI, 4, .inl In)), (q6, .inl (cI, 500, .inl Pd)), (q7, .inl (cI, 500, .inl Rt)), (q8, .inl (cI, 10000, .inl Rw))]) hx hb hts in_X9_go_9 tyX9 tyX9_ok nmX9 hown hK hP hD hS 0 10 rfl rfl (by decide) (List.mem_of_getElem? (i := 6) rfl) rfl rfl rfl (Nat.le_of_ble_eq_true rfl) dX9_go_266 rfl (fun H_ lc_ hP hD hS => ?_)
                      refine lv_aload_n hx hb dX9_go_269 rfl (lv_at hl 1 rfl) ?_
                      refine g_get (C := RX9) (T := TX9) (N := 20) (ci := 9) (index := 21) hx hb hts in_X9_go_9 hown hK hP 0 4 rfl rfl (by decide) (List.mem_of_getElem? (i := 1) rfl) rfl dX9_go_270 ?_
                      refine lv_aload_n hx hb dX9_go_273 rfl (lv_at hl 1 rfl) ?_
                      refine g_get (C := RX9) (T := TX9) (N := 20) (ci := 9) (index := 24) hx hb hts in_X9_go_9 hown hK hP 0 5 rfl rfl (by decide) (List.mem_of_getElem? (i := 4) rfl) rfl dX9_go_274 ?_
                      refine lv_isub hx hb dX9_go_277 ?_
                      rw [show ((nI ((goP Tp n S.1) + k9)) - (nI (goP Tp n S.1)) : Int32) = nI k9 from by rw [pk_sub (by omega), show (goP Tp n S.1) + k9 - (goP Tp n S.1) = k9 by omega]]
                      refine lv_iconst (v := 5) hx hb dX9_go_278 (by decide) ?_
                      refine lv_icmp_ge (tgt := 299) hx hb dX9_go_279 (by decide) (fun c279 => ?_) (fun c279 => ?_)
                      · refine lv_aload_n hx hb dX9_go_299 rfl (lv_at hl 1 rfl) ?_
                        refine lv_dup hx hb dX9_go_300 rfl ?_
                        refine g_get (C := RX9) (T := TX9) (N := 20) (ci := 9) (index := 21) hx hb hts in_X9_go_9 hown hK hP 0 4 rfl rfl (by decide) (List.mem_of_getElem? (i := 1) rfl) rfl dX9_go_301 ?_
                        refine lv_iconst (v := 1) hx hb dX9_go_304 (by decide) ?_
                        refine lv_iadd hx hb dX9_go_305 ?_
                        rw [show ((nI ((goP Tp n S.1) + k9)) + 1 : Int32) = nI ((goP Tp n S.1) + (k9 + 1)) from nI_1 _]
                        refine g_put (C := RX9) (T := TX9) (N := 20) (ci := 9) (index := 21) (v := .int (nI ((goP Tp n S.1) + (k9 + 1)))) (ws' := [(mo, .inr (9, [.int th, .ref q1, .int tn, .int (nI n), .int (nI ((goP Tp n S.1) + (k9 + 1))), .int (nI (goP Tp n S.1)), .int S.2.2.1, .int (nuM Tp (goP Tp n S.1) k9), .int S.2.2.2.2.1, .int S.2.2.2.2.2.1, .long (((27 * (wdM Tp (goP Tp n S.1) k9)) + ((Tp ((goP Tp n S.1) + k9)).toInt64)) - 96), .ref q2, .ref q3, .ref q4, .int sm, .ref q5, .ref q6, .ref q7, .ref q8, .int rm])), (q1, .inl (cI, 840, .inl Tp)), (q2, .inl (cI, 240, .inl Nw)), (q3, .inl (cI, 240, .inl S.2.2.2.2.2.2.2)), (q4, .inl (cI, 2880, .inl Sn)), (q5, .inl (cI, 4, .inl In)), (q6, .inl (cI, 500, .inl Pd)), (q7, .inl (cI, 500, .inl Rt)), (q8, .inl (cI, 10000, .inl Rw))]) hx hb hts in_X9_go_9 tyX9 tyX9_ok nmX9 hown hK hP hD hS 0 4 rfl rfl (by decide) (List.mem_of_getElem? (i := 1) rfl) rfl rfl rfl (Nat.le_of_ble_eq_true rfl) dX9_go_306 rfl (fun H_ lc_ hP hD hS => ?_)
                        refine lv_goto (tgt := 177) hx hb dX9_go_309 (by decide) ?_
                        exact ih177 (k9 + 1) (by omega) (by rw [← hinv9]; exact (bl_T (isaM_T hal) ha.1).symm) _ _ _ _ (by omega) (hg) (rfl) (by rw [wdM_s, if_neg c246]) (by rw [nuM_s, if_pos c279]) _ _ hP hD hS ls (lv_sub hl [1, 2, 3, 0] rfl)
                      · refine lv_aload_n hx hb dX9_go_282 rfl (lv_at hl 1 rfl) ?_
                        refine lv_bipush (v := 10) hx hb dX9_go_283 (by decide) ?_
                        refine lv_aload_n hx hb dX9_go_285 rfl (lv_at hl 1 rfl) ?_
                        refine g_get (C := RX9) (T := TX9) (N := 20) (ci := 9) (index := 41) hx hb hts in_X9_go_9 hown hK hP 0 7 rfl rfl (by decide) (List.mem_of_getElem? (i := 7) rfl) rfl dX9_go_286 ?_
                        refine lv_imul hx hb dX9_go_289 ?_
                        refine lv_iload hx hb dX9_go_290 (lv_at hl 4 rfl) ?_
                        refine lv_iadd hx hb dX9_go_292 ?_
                        refine lv_bipush (v := 48) hx hb dX9_go_293 (by decide) ?_
                        refine lv_isub hx hb dX9_go_295 ?_
                        refine g_put (C := RX9) (T := TX9) (N := 20) (ci := 9) (index := 41) (v := .int (((10 * (nuM Tp (goP Tp n S.1) k9)) + (Tp ((goP Tp n S.1) + k9))) - 48)) (ws' := [(mo, .inr (9, [.int th, .ref q1, .int tn, .int (nI n), .int (nI ((goP Tp n S.1) + k9)), .int (nI (goP Tp n S.1)), .int S.2.2.1, .int (((10 * (nuM Tp (goP Tp n S.1) k9)) + (Tp ((goP Tp n S.1) + k9))) - 48), .int S.2.2.2.2.1, .int S.2.2.2.2.2.1, .long (((27 * (wdM Tp (goP Tp n S.1) k9)) + ((Tp ((goP Tp n S.1) + k9)).toInt64)) - 96), .ref q2, .ref q3, .ref q4, .int sm, .ref q5, .ref q6, .ref q7, .ref q8, .int rm])), (q1, .inl (cI, 840, .inl Tp)), (q2, .inl (cI, 240, .inl Nw)), (q3, .inl (cI, 240, .inl S.2.2.2.2.2.2.2)), (q4, .inl (cI, 2880, .inl Sn)), (q5, .inl (cI, 4, .inl In)), (q6, .inl (cI, 500, .inl Pd)), (q7, .inl (cI, 500, .inl Rt)), (q8, .inl (cI, 10000, .inl Rw))]) hx hb hts in_X9_go_9 tyX9 tyX9_ok nmX9 hown hK hP hD hS 0 7 rfl rfl (by decide) (List.mem_of_getElem? (i := 7) rfl) rfl rfl rfl (Nat.le_of_ble_eq_true rfl) dX9_go_296 rfl (fun H_ lc_ hP hD hS => ?_)
                        refine lv_aload_n hx hb dX9_go_299 rfl (lv_at hl 1 rfl) ?_
                        refine lv_dup hx hb dX9_go_300 rfl ?_
                        refine g_get (C := RX9) (T := TX9) (N := 20) (ci := 9) (index := 21) hx hb hts in_X9_go_9 hown hK hP 0 4 rfl rfl (by decide) (List.mem_of_getElem? (i := 1) rfl) rfl dX9_go_301 ?_
                        refine lv_iconst (v := 1) hx hb dX9_go_304 (by decide) ?_
                        refine lv_iadd hx hb dX9_go_305 ?_
                        rw [show ((nI ((goP Tp n S.1) + k9)) + 1 : Int32) = nI ((goP Tp n S.1) + (k9 + 1)) from nI_1 _]
                        refine g_put (C := RX9) (T := TX9) (N := 20) (ci := 9) (index := 21) (v := .int (nI ((goP Tp n S.1) + (k9 + 1)))) (ws' := [(mo, .inr (9, [.int th, .ref q1, .int tn, .int (nI n), .int (nI ((goP Tp n S.1) + (k9 + 1))), .int (nI (goP Tp n S.1)), .int S.2.2.1, .int (((10 * (nuM Tp (goP Tp n S.1) k9)) + (Tp ((goP Tp n S.1) + k9))) - 48), .int S.2.2.2.2.1, .int S.2.2.2.2.2.1, .long (((27 * (wdM Tp (goP Tp n S.1) k9)) + ((Tp ((goP Tp n S.1) + k9)).toInt64)) - 96), .ref q2, .ref q3, .ref q4, .int sm, .ref q5, .ref q6, .ref q7, .ref q8, .int rm])), (q1, .inl (cI, 840, .inl Tp)), (q2, .inl (cI, 240, .inl Nw)), (q3, .inl (cI, 240, .inl S.2.2.2.2.2.2.2)), (q4, .inl (cI, 2880, .inl Sn)), (q5, .inl (cI, 4, .inl In)), (q6, .inl (cI, 500, .inl Pd)), (q7, .inl (cI, 500, .inl Rt)), (q8, .inl (cI, 10000, .inl Rw))]) hx hb hts in_X9_go_9 tyX9 tyX9_ok nmX9 hown hK hP hD hS 0 4 rfl rfl (by decide) (List.mem_of_getElem? (i := 1) rfl) rfl rfl rfl (Nat.le_of_ble_eq_true rfl) dX9_go_306 rfl (fun H_ lc_ hP hD hS => ?_)
                        refine lv_goto (tgt := 177) hx hb dX9_go_309 (by decide) ?_
                        exact ih177 (k9 + 1) (by omega) (by rw [← hinv9]; exact (bl_T (isaM_T hal) ha.1).symm) _ _ _ _ (by omega) (hg) (rfl) (by rw [wdM_s, if_neg c246]) (by rw [nuM_s, if_neg c279]) _ _ hP hD hS ls (lv_sub hl [1, 2, 3, 0] rfl)
                  refine lv_iload_n hx hb dX9_go_216 rfl (lv_at hl 4 rfl) ?_
                  refine lv_if_eq (tgt := 233) hx hb dX9_go_217 (by decide) (fun c217 => ?_) (fun c217 => ?_)
                  · refine lv_iconst (v := 0) hx hb dX9_go_233 (by decide) ?_
                    exact J234 0 (by rw [gdM_s, if_pos c217])   _ _ hP hD hS ls (lv_sub hl [1, 2, 3, 4, 0] rfl)
                  · refine lv_iload hx hb dX9_go_220 (lv_at hl 0 rfl) ?_
                    refine rd_S (As := [.int (Tp ((goP Tp n S.1) + k9))]) (rest := []) (kX9_isLetter l D cI cB (Tp ((goP Tp n S.1) + k9)) ) ⟨hx, hb, hml, hown, hts⟩ (va_cwS 1 hts gX9_go_X9_isLetter rfl rfl rfl (by decide +kernel) ⟨Nat.le_of_ble_eq_true rfl, Nat.le_of_ble_eq_true rfl⟩) hK hP [] rfl rfl rfl hl.1 (Nat.le_of_ble_eq_true rfl) dX9_go_222 ⟨Nat.le_refl _, Nat.le_refl _⟩ ?_
                    refine lv_iload_n hx hb dX9_go_225 rfl (lv_at hl 3 rfl) ?_
                    refine lv_icmp_ne (tgt := 233) hx hb dX9_go_226 (by decide) (fun c226 => ?_) (fun c226 => ?_)
                    · refine lv_iconst (v := 0) hx hb dX9_go_233 (by decide) ?_
                      exact J234 0 (by rw [gdM_s, if_neg c217, if_neg c226])   _ _ hP hD hS ls (lv_sub hl [1, 2, 3, 4, 0] rfl)
                    · refine lv_iconst (v := 1) hx hb dX9_go_229 (by decide) ?_
                      refine lv_goto (tgt := 234) hx hb dX9_go_230 (by decide) ?_
                      exact J234 1 (by rw [gdM_s, if_neg c217, if_pos c226])   _ _ hP hD hS ls (lv_sub hl [1, 2, 3, 4, 0] rfl)
                · refine lv_aload_n hx hb dX9_go_191 rfl (lv_at hl 0 rfl) ?_
                  refine lv_aload_n hx hb dX9_go_192 rfl (lv_at hl 0 rfl) ?_
                  refine g_get (C := RX9) (T := TX9) (N := 20) (ci := 9) (index := 21) hx hb hts in_X9_go_9 hown hK hP 0 4 rfl rfl (by decide) (List.mem_of_getElem? (i := 1) rfl) rfl dX9_go_193 ?_
                  refine rd_V (As := [.int (nI ((goP Tp n S.1) + k9))]) (rest := []) (ci := 9) (kX9_tapeAt l D cI cB mo q1 q2 q3 q4 q5 q6 q7 q8 th tn (nI ((goP Tp n S.1) + k9)) (nI (goP Tp n S.1)) S.2.2.1 (nuM Tp (goP Tp n S.1) k9) S.2.2.2.2.1 S.2.2.2.2.2.1 (wdM Tp (goP Tp n S.1) k9) sm rm Tp Nw S.2.2.2.2.2.2.2 Sn In Pd Rt Rw n ((goP Tp n S.1) + k9) (by first | assumption | omega) (by omega)) ⟨hx, hb, hml, hown, hts⟩ (cwV 1 hts gX9_go_X9_tapeAt rfl rfl rfl (by decide +kernel) ⟨Nat.le_of_ble_eq_true rfl, Nat.le_of_ble_eq_true rfl⟩) hK hP [0, 1, 2, 3, 4, 5, 6, 7, 8] rfl 0 rfl rfl rfl rfl hl.1 (Nat.le_of_ble_eq_true rfl) dX9_go_196 ⟨Nat.le_refl _, Nat.le_refl _⟩ ?_
                  refine rd_S (As := [.int (tpA Tp n ((goP Tp n S.1) + k9))]) (rest := []) (kX9_isDigit l D cI cB (tpA Tp n ((goP Tp n S.1) + k9)) ) ⟨hx, hb, hml, hown, hts⟩ (va_cwS 1 hts gX9_go_X9_isDigit rfl rfl rfl (by decide +kernel) ⟨Nat.le_of_ble_eq_true rfl, Nat.le_of_ble_eq_true rfl⟩) hK hP [] rfl rfl rfl hl.1 (Nat.le_of_ble_eq_true rfl) dX9_go_199 ⟨Nat.le_refl _, Nat.le_refl _⟩ ?_
                  refine lv_if_eq (tgt := 312) hx hb dX9_go_202 (by decide) (fun c202 => ?_) (fun c202 => ?_)
                  · have hE : (goP Tp n S.1) + k9 = goE Tp n (goP Tp n S.1) := by rw [← hinv9]; exact (bl_F (isaM_F c188 c202)).symm
                    have hk : k9 = goE Tp n (goP Tp n S.1) - (goP Tp n S.1) := by omega
                    refine lv_aload_n hx hb dX9_go_312 rfl (lv_at hl 0 rfl) ?_
                    refine lv_iload_n hx hb dX9_go_313 rfl (lv_at hl 3 rfl) ?_
                    refine lv_if_eq (tgt := 334) hx hb dX9_go_314 (by decide) (fun c314 => ?_) (fun c314 => ?_)
                    · refine lv_iconst (v := 1) hx hb dX9_go_334 (by decide) ?_
                      refine lv_goto (tgt := 347) hx hb dX9_go_335 (by decide) ?_
                      refine g_put (C := RX9) (T := TX9) (N := 20) (ci := 9) (index := 27) (v := .int 1) (ws' := [(mo, .inr (9, [.int th, .ref q1, .int tn, .int (nI n), .int (nI ((goP Tp n S.1) + k9)), .int (nI (goP Tp n S.1)), .int 1, .int (nuM Tp (goP Tp n S.1) k9), .int S.2.2.2.2.1, .int S.2.2.2.2.2.1, .long (wdM Tp (goP Tp n S.1) k9), .ref q2, .ref q3, .ref q4, .int sm, .ref q5, .ref q6, .ref q7, .ref q8, .int rm])), (q1, .inl (cI, 840, .inl Tp)), (q2, .inl (cI, 240, .inl Nw)), (q3, .inl (cI, 240, .inl S.2.2.2.2.2.2.2)), (q4, .inl (cI, 2880, .inl Sn)), (q5, .inl (cI, 4, .inl In)), (q6, .inl (cI, 500, .inl Pd)), (q7, .inl (cI, 500, .inl Rt)), (q8, .inl (cI, 10000, .inl Rw))]) hx hb hts in_X9_go_9 tyX9 tyX9_ok nmX9 hown hK hP hD hS 0 6 rfl rfl (by decide) (List.mem_of_getElem? (i := 5) rfl) rfl rfl rfl (Nat.le_of_ble_eq_true rfl) dX9_go_347 rfl (fun H_ lc_ hP hD hS => ?_)
                      exact hret _ _ _ ls hS (by unfold goM; rw [if_neg hA, if_neg hB, if_neg (fun z => by first | exact c124 z.1 | exact c131 z.2)]; rw [← hk, ← hE]; unfold soM; rw [if_pos c314]; exact hP) dX9_go_350
                    · refine lv_iload_n hx hb dX9_go_317 rfl (lv_at hl 2 rfl) ?_
                      refine lv_if_ne (tgt := 338) hx hb dX9_go_318 (by decide) (fun c318 => ?_) (fun c318 => ?_)
                      · refine lv_iload_n hx hb dX9_go_338 rfl (lv_at hl 2 rfl) ?_
                        refine lv_if_eq (tgt := 346) hx hb dX9_go_339 (by decide) (fun c339 => absurd c339 (c318)) (fun c339 => ?_)
                        refine lv_iconst (v := 2) hx hb dX9_go_342 (by decide) ?_
                        refine lv_goto (tgt := 347) hx hb dX9_go_343 (by decide) ?_
                        refine g_put (C := RX9) (T := TX9) (N := 20) (ci := 9) (index := 27) (v := .int 2) (ws' := [(mo, .inr (9, [.int th, .ref q1, .int tn, .int (nI n), .int (nI ((goP Tp n S.1) + k9)), .int (nI (goP Tp n S.1)), .int 2, .int (nuM Tp (goP Tp n S.1) k9), .int S.2.2.2.2.1, .int S.2.2.2.2.2.1, .long (wdM Tp (goP Tp n S.1) k9), .ref q2, .ref q3, .ref q4, .int sm, .ref q5, .ref q6, .ref q7, .ref q8, .int rm])), (q1, .inl (cI, 840, .inl Tp)), (q2, .inl (cI, 240, .inl Nw)), (q3, .inl (cI, 240, .inl S.2.2.2.2.2.2.2)), (q4, .inl (cI, 2880, .inl Sn)), (q5, .inl (cI, 4, .inl In)), (q6, .inl (cI, 500, .inl Pd)), (q7, .inl (cI, 500, .inl Rt)), (q8, .inl (cI, 10000, .inl Rw))]) hx hb hts in_X9_go_9 tyX9 tyX9_ok nmX9 hown hK hP hD hS 0 6 rfl rfl (by decide) (List.mem_of_getElem? (i := 5) rfl) rfl rfl rfl (Nat.le_of_ble_eq_true rfl) dX9_go_347 rfl (fun H_ lc_ hP hD hS => ?_)
                        exact hret _ _ _ ls hS (by unfold goM; rw [if_neg hA, if_neg hB, if_neg (fun z => by first | exact c124 z.1 | exact c131 z.2)]; rw [← hk, ← hE]; unfold soM; rw [if_neg c314, if_neg c318]; exact hP) dX9_go_350
                      · refine lv_aload_n hx hb dX9_go_321 rfl (lv_at hl 0 rfl) ?_
                        refine g_get (C := RX9) (T := TX9) (N := 20) (ci := 9) (index := 21) hx hb hts in_X9_go_9 hown hK hP 0 4 rfl rfl (by decide) (List.mem_of_getElem? (i := 1) rfl) rfl dX9_go_322 ?_
                        refine lv_aload_n hx hb dX9_go_325 rfl (lv_at hl 0 rfl) ?_
                        refine g_get (C := RX9) (T := TX9) (N := 20) (ci := 9) (index := 24) hx hb hts in_X9_go_9 hown hK hP 0 5 rfl rfl (by decide) (List.mem_of_getElem? (i := 4) rfl) rfl dX9_go_326 ?_
                        refine lv_isub hx hb dX9_go_329 ?_
                        rw [show ((nI ((goP Tp n S.1) + k9)) - (nI (goP Tp n S.1)) : Int32) = nI k9 from by rw [pk_sub (by omega), show (goP Tp n S.1) + k9 - (goP Tp n S.1) = k9 by omega]]
                        refine lv_iconst (v := 5) hx hb dX9_go_330 (by decide) ?_
                        refine lv_icmp_le (tgt := 338) hx hb dX9_go_331 (by decide) (fun c331 => ?_) (fun c331 => ?_)
                        · refine lv_iload_n hx hb dX9_go_338 rfl (lv_at hl 2 rfl) ?_
                          refine lv_if_eq (tgt := 346) hx hb dX9_go_339 (by decide) (fun c339 => ?_) (fun c339 => absurd (c318) c339)
                          refine lv_iconst (v := 3) hx hb dX9_go_346 (by decide) ?_
                          refine g_put (C := RX9) (T := TX9) (N := 20) (ci := 9) (index := 27) (v := .int 3) (ws' := [(mo, .inr (9, [.int th, .ref q1, .int tn, .int (nI n), .int (nI ((goP Tp n S.1) + k9)), .int (nI (goP Tp n S.1)), .int 3, .int (nuM Tp (goP Tp n S.1) k9), .int S.2.2.2.2.1, .int S.2.2.2.2.2.1, .long (wdM Tp (goP Tp n S.1) k9), .ref q2, .ref q3, .ref q4, .int sm, .ref q5, .ref q6, .ref q7, .ref q8, .int rm])), (q1, .inl (cI, 840, .inl Tp)), (q2, .inl (cI, 240, .inl Nw)), (q3, .inl (cI, 240, .inl S.2.2.2.2.2.2.2)), (q4, .inl (cI, 2880, .inl Sn)), (q5, .inl (cI, 4, .inl In)), (q6, .inl (cI, 500, .inl Pd)), (q7, .inl (cI, 500, .inl Rt)), (q8, .inl (cI, 10000, .inl Rw))]) hx hb hts in_X9_go_9 tyX9 tyX9_ok nmX9 hown hK hP hD hS 0 6 rfl rfl (by decide) (List.mem_of_getElem? (i := 5) rfl) rfl rfl rfl (Nat.le_of_ble_eq_true rfl) dX9_go_347 rfl (fun H_ lc_ hP hD hS => ?_)
                          exact hret _ _ _ ls hS (by unfold goM; rw [if_neg hA, if_neg hB, if_neg (fun z => by first | exact c124 z.1 | exact c131 z.2)]; rw [← hk, ← hE]; unfold soM; rw [if_neg c314, if_pos c318, if_pos c331]; exact hP) dX9_go_350
                        · refine lv_iconst (v := 1) hx hb dX9_go_334 (by decide) ?_
                          refine lv_goto (tgt := 347) hx hb dX9_go_335 (by decide) ?_
                          refine g_put (C := RX9) (T := TX9) (N := 20) (ci := 9) (index := 27) (v := .int 1) (ws' := [(mo, .inr (9, [.int th, .ref q1, .int tn, .int (nI n), .int (nI ((goP Tp n S.1) + k9)), .int (nI (goP Tp n S.1)), .int 1, .int (nuM Tp (goP Tp n S.1) k9), .int S.2.2.2.2.1, .int S.2.2.2.2.2.1, .long (wdM Tp (goP Tp n S.1) k9), .ref q2, .ref q3, .ref q4, .int sm, .ref q5, .ref q6, .ref q7, .ref q8, .int rm])), (q1, .inl (cI, 840, .inl Tp)), (q2, .inl (cI, 240, .inl Nw)), (q3, .inl (cI, 240, .inl S.2.2.2.2.2.2.2)), (q4, .inl (cI, 2880, .inl Sn)), (q5, .inl (cI, 4, .inl In)), (q6, .inl (cI, 500, .inl Pd)), (q7, .inl (cI, 500, .inl Rt)), (q8, .inl (cI, 10000, .inl Rw))]) hx hb hts in_X9_go_9 tyX9 tyX9_ok nmX9 hown hK hP hD hS 0 6 rfl rfl (by decide) (List.mem_of_getElem? (i := 5) rfl) rfl rfl rfl (Nat.le_of_ble_eq_true rfl) dX9_go_347 rfl (fun H_ lc_ hP hD hS => ?_)
                          exact hret _ _ _ ls hS (by unfold goM; rw [if_neg hA, if_neg hB, if_neg (fun z => by first | exact c124 z.1 | exact c131 z.2)]; rw [← hk, ← hE]; unfold soM; rw [if_neg c314, if_pos c318, if_neg c331]; exact hP) dX9_go_350
                  · have hal : ¬ isInM (tpA Tp n ((goP Tp n S.1) + k9)) 97 122 = 0 ∨ ¬ isInM (tpA Tp n ((goP Tp n S.1) + k9)) 48 57 = 0 := by first | exact Or.inl c188 | exact Or.inr c202
                    have ha := isaM_lt hn (by omega) hal
                    refine lv_aload_n hx hb dX9_go_205 rfl (lv_at hl 0 rfl) ?_
                    refine g_get (C := RX9) (T := TX9) (N := 20) (ci := 9) (index := 7) hx hb hts in_X9_go_9 hown hK hP 0 1 rfl rfl (by decide) (List.mem_of_getElem? (i := 3) rfl) rfl dX9_go_206 ?_
                    refine lv_aload_n hx hb dX9_go_209 rfl (lv_at hl 0 rfl) ?_
                    refine g_get (C := RX9) (T := TX9) (N := 20) (ci := 9) (index := 21) hx hb hts in_X9_go_9 hown hK hP 0 4 rfl rfl (by decide) (List.mem_of_getElem? (i := 1) rfl) rfl dX9_go_210 ?_
                    refine g_iald hx hb hK hP 1 0 rfl rfl ((goP Tp n S.1) + k9) (rfl) (by omega) (by omega) dX9_go_213 ?_
                    refine lv_istore (lv' := [(4, .int (Tp ((goP Tp n S.1) + k9))), (0, .ref mo), (1, .int (Tp (goP Tp n S.1))), (2, .int (isInM (Tp (goP Tp n S.1)) 97 122)), (3, .int (gdM Tp (goP Tp n S.1) (isInM (Tp (goP Tp n S.1)) 97 122) k9))]) hx hb dX9_go_214 hl (by decide) rfl (fun ls hl => ?_)
                    have J234 : ∀ (g9 : Int32) (hg : g9 = gdM Tp (goP Tp n S.1) (isInM (Tp (goP Tp n S.1)) 97 122) (k9 + 1)) , ∀ (H_ : Heap) (lc_ : List Loc), va_P D vwCl [(mo, .inr (9, [.int th, .ref q1, .int tn, .int (nI n), .int (nI ((goP Tp n S.1) + k9)), .int (nI (goP Tp n S.1)), .int S.2.2.1, .int (nuM Tp (goP Tp n S.1) k9), .int S.2.2.2.2.1, .int S.2.2.2.2.2.1, .long (wdM Tp (goP Tp n S.1) k9), .ref q2, .ref q3, .ref q4, .int sm, .ref q5, .ref q6, .ref q7, .ref q8, .int rm])), (q1, .inl (cI, 840, .inl Tp)), (q2, .inl (cI, 240, .inl Nw)), (q3, .inl (cI, 240, .inl S.2.2.2.2.2.2.2)), (q4, .inl (cI, 2880, .inl Sn)), (q5, .inl (cI, 4, .inl In)), (q6, .inl (cI, 500, .inl Pd)), (q7, .inl (cI, 500, .inl Rt)), (q8, .inl (cI, 10000, .inl Rw))] H_ → va_D A_ [(mo, .inr (9, [.int th, .ref q1, .int tn, .int (nI n), .int (nI ((goP Tp n S.1) + k9)), .int (nI (goP Tp n S.1)), .int S.2.2.1, .int (nuM Tp (goP Tp n S.1) k9), .int S.2.2.2.2.1, .int S.2.2.2.2.2.1, .long (wdM Tp (goP Tp n S.1) k9), .ref q2, .ref q3, .ref q4, .int sm, .ref q5, .ref q6, .ref q7, .ref q8, .int rm])), (q1, .inl (cI, 840, .inl Tp)), (q2, .inl (cI, 240, .inl Nw)), (q3, .inl (cI, 240, .inl S.2.2.2.2.2.2.2)), (q4, .inl (cI, 2880, .inl Sn)), (q5, .inl (cI, 4, .inl In)), (q6, .inl (cI, 500, .inl Pd)), (q7, .inl (cI, 500, .inl Rt)), (q8, .inl (cI, 10000, .inl Rw))] → va_S A_ s_.heap H_ lc_ → ∀ (ls : Array Slot), lv_has ls 5 [(0, .ref mo), (1, .int (Tp (goP Tp n S.1))), (2, .int (isInM (Tp (goP Tp n S.1)) 97 122)), (3, .int (gdM Tp (goP Tp n S.1) (isInM (Tp (goP Tp n S.1)) 97 122) k9)), (4, .int (Tp ((goP Tp n S.1) + k9)))] → W p_ l e_ (RM 1 21) s_ m_ ar_ be_ me_ co_ H_ lc_ 0 0 Q_ (F0 m_ 234 ls [.int g9]) := by
                      intro g9 hg  H_ lc_ hP hD hS ls hl
                      refine lv_istore_n (lv' := [(3, .int g9), (0, .ref mo), (1, .int (Tp (goP Tp n S.1))), (2, .int (isInM (Tp (goP Tp n S.1)) 97 122)), (4, .int (Tp ((goP Tp n S.1) + k9)))]) hx hb dX9_go_234 rfl hl (by decide) rfl (fun ls hl => ?_)
                      refine lv_aload_n hx hb dX9_go_235 rfl (lv_at hl 1 rfl) ?_
                      refine g_get (C := RX9) (T := TX9) (N := 20) (ci := 9) (index := 21) hx hb hts in_X9_go_9 hown hK hP 0 4 rfl rfl (by decide) (List.mem_of_getElem? (i := 1) rfl) rfl dX9_go_236 ?_
                      refine lv_aload_n hx hb dX9_go_239 rfl (lv_at hl 1 rfl) ?_
                      refine g_get (C := RX9) (T := TX9) (N := 20) (ci := 9) (index := 24) hx hb hts in_X9_go_9 hown hK hP 0 5 rfl rfl (by decide) (List.mem_of_getElem? (i := 4) rfl) rfl dX9_go_240 ?_
                      refine lv_isub hx hb dX9_go_243 ?_
                      rw [show ((nI ((goP Tp n S.1) + k9)) - (nI (goP Tp n S.1)) : Int32) = nI k9 from by rw [pk_sub (by omega), show (goP Tp n S.1) + k9 - (goP Tp n S.1) = k9 by omega]]
                      refine lv_bipush (v := 7) hx hb dX9_go_244 (by decide) ?_
                      refine lv_icmp_ge (tgt := 269) hx hb dX9_go_246 (by decide) (fun c246 => ?_) (fun c246 => ?_)
                      · refine lv_aload_n hx hb dX9_go_269 rfl (lv_at hl 1 rfl) ?_
                        refine g_get (C := RX9) (T := TX9) (N := 20) (ci := 9) (index := 21) hx hb hts in_X9_go_9 hown hK hP 0 4 rfl rfl (by decide) (List.mem_of_getElem? (i := 1) rfl) rfl dX9_go_270 ?_
                        refine lv_aload_n hx hb dX9_go_273 rfl (lv_at hl 1 rfl) ?_
                        refine g_get (C := RX9) (T := TX9) (N := 20) (ci := 9) (index := 24) hx hb hts in_X9_go_9 hown hK hP 0 5 rfl rfl (by decide) (List.mem_of_getElem? (i := 4) rfl) rfl dX9_go_274 ?_
                        refine lv_isub hx hb dX9_go_277 ?_
                        rw [show ((nI ((goP Tp n S.1) + k9)) - (nI (goP Tp n S.1)) : Int32) = nI k9 from by rw [pk_sub (by omega), show (goP Tp n S.1) + k9 - (goP Tp n S.1) = k9 by omega]]
                        refine lv_iconst (v := 5) hx hb dX9_go_278 (by decide) ?_
                        refine lv_icmp_ge (tgt := 299) hx hb dX9_go_279 (by decide) (fun c279 => ?_) (fun c279 => ?_)
                        · refine lv_aload_n hx hb dX9_go_299 rfl (lv_at hl 1 rfl) ?_
                          refine lv_dup hx hb dX9_go_300 rfl ?_
                          refine g_get (C := RX9) (T := TX9) (N := 20) (ci := 9) (index := 21) hx hb hts in_X9_go_9 hown hK hP 0 4 rfl rfl (by decide) (List.mem_of_getElem? (i := 1) rfl) rfl dX9_go_301 ?_
                          refine lv_iconst (v := 1) hx hb dX9_go_304 (by decide) ?_
                          refine lv_iadd hx hb dX9_go_305 ?_
                          rw [show ((nI ((goP Tp n S.1) + k9)) + 1 : Int32) = nI ((goP Tp n S.1) + (k9 + 1)) from nI_1 _]
                          refine g_put (C := RX9) (T := TX9) (N := 20) (ci := 9) (index := 21) (v := .int (nI ((goP Tp n S.1) + (k9 + 1)))) (ws' := [(mo, .inr (9, [.int th, .ref q1, .int tn, .int (nI n), .int (nI ((goP Tp n S.1) + (k9 + 1))), .int (nI (goP Tp n S.1)), .int S.2.2.1, .int (nuM Tp (goP Tp n S.1) k9), .int S.2.2.2.2.1, .int S.2.2.2.2.2.1, .long (wdM Tp (goP Tp n S.1) k9), .ref q2, .ref q3, .ref q4, .int sm, .ref q5, .ref q6, .ref q7, .ref q8, .int rm])), (q1, .inl (cI, 840, .inl Tp)), (q2, .inl (cI, 240, .inl Nw)), (q3, .inl (cI, 240, .inl S.2.2.2.2.2.2.2)), (q4, .inl (cI, 2880, .inl Sn)), (q5, .inl (cI, 4, .inl In)), (q6, .inl (cI, 500, .inl Pd)), (q7, .inl (cI, 500, .inl Rt)), (q8, .inl (cI, 10000, .inl Rw))]) hx hb hts in_X9_go_9 tyX9 tyX9_ok nmX9 hown hK hP hD hS 0 4 rfl rfl (by decide) (List.mem_of_getElem? (i := 1) rfl) rfl rfl rfl (Nat.le_of_ble_eq_true rfl) dX9_go_306 rfl (fun H_ lc_ hP hD hS => ?_)
                          refine lv_goto (tgt := 177) hx hb dX9_go_309 (by decide) ?_
                          exact ih177 (k9 + 1) (by omega) (by rw [← hinv9]; exact (bl_T (isaM_T hal) ha.1).symm) _ _ _ _ (by omega) (hg) (rfl) (by rw [wdM_s, if_pos c246]) (by rw [nuM_s, if_pos c279]) _ _ hP hD hS ls (lv_sub hl [1, 2, 3, 0] rfl)
                        · refine lv_aload_n hx hb dX9_go_282 rfl (lv_at hl 1 rfl) ?_
                          refine lv_bipush (v := 10) hx hb dX9_go_283 (by decide) ?_
                          refine lv_aload_n hx hb dX9_go_285 rfl (lv_at hl 1 rfl) ?_
                          refine g_get (C := RX9) (T := TX9) (N := 20) (ci := 9) (index := 41) hx hb hts in_X9_go_9 hown hK hP 0 7 rfl rfl (by decide) (List.mem_of_getElem? (i := 7) rfl) rfl dX9_go_286 ?_
                          refine lv_imul hx hb dX9_go_289 ?_
                          refine lv_iload hx hb dX9_go_290 (lv_at hl 4 rfl) ?_
                          refine lv_iadd hx hb dX9_go_292 ?_
                          refine lv_bipush (v := 48) hx hb dX9_go_293 (by decide) ?_
                          refine lv_isub hx hb dX9_go_295 ?_
                          refine g_put (C := RX9) (T := TX9) (N := 20) (ci := 9) (index := 41) (v := .int (((10 * (nuM Tp (goP Tp n S.1) k9)) + (Tp ((goP Tp n S.1) + k9))) - 48)) (ws' := [(mo, .inr (9, [.int th, .ref q1, .int tn, .int (nI n), .int (nI ((goP Tp n S.1) + k9)), .int (nI (goP Tp n S.1)), .int S.2.2.1, .int (((10 * (nuM Tp (goP Tp n S.1) k9)) + (Tp ((goP Tp n S.1) + k9))) - 48), .int S.2.2.2.2.1, .int S.2.2.2.2.2.1, .long (wdM Tp (goP Tp n S.1) k9), .ref q2, .ref q3, .ref q4, .int sm, .ref q5, .ref q6, .ref q7, .ref q8, .int rm])), (q1, .inl (cI, 840, .inl Tp)), (q2, .inl (cI, 240, .inl Nw)), (q3, .inl (cI, 240, .inl S.2.2.2.2.2.2.2)), (q4, .inl (cI, 2880, .inl Sn)), (q5, .inl (cI, 4, .inl In)), (q6, .inl (cI, 500, .inl Pd)), (q7, .inl (cI, 500, .inl Rt)), (q8, .inl (cI, 10000, .inl Rw))]) hx hb hts in_X9_go_9 tyX9 tyX9_ok nmX9 hown hK hP hD hS 0 7 rfl rfl (by decide) (List.mem_of_getElem? (i := 7) rfl) rfl rfl rfl (Nat.le_of_ble_eq_true rfl) dX9_go_296 rfl (fun H_ lc_ hP hD hS => ?_)
                          refine lv_aload_n hx hb dX9_go_299 rfl (lv_at hl 1 rfl) ?_
                          refine lv_dup hx hb dX9_go_300 rfl ?_
                          refine g_get (C := RX9) (T := TX9) (N := 20) (ci := 9) (index := 21) hx hb hts in_X9_go_9 hown hK hP 0 4 rfl rfl (by decide) (List.mem_of_getElem? (i := 1) rfl) rfl dX9_go_301 ?_
                          refine lv_iconst (v := 1) hx hb dX9_go_304 (by decide) ?_
                          refine lv_iadd hx hb dX9_go_305 ?_
                          rw [show ((nI ((goP Tp n S.1) + k9)) + 1 : Int32) = nI ((goP Tp n S.1) + (k9 + 1)) from nI_1 _]
                          refine g_put (C := RX9) (T := TX9) (N := 20) (ci := 9) (index := 21) (v := .int (nI ((goP Tp n S.1) + (k9 + 1)))) (ws' := [(mo, .inr (9, [.int th, .ref q1, .int tn, .int (nI n), .int (nI ((goP Tp n S.1) + (k9 + 1))), .int (nI (goP Tp n S.1)), .int S.2.2.1, .int (((10 * (nuM Tp (goP Tp n S.1) k9)) + (Tp ((goP Tp n S.1) + k9))) - 48), .int S.2.2.2.2.1, .int S.2.2.2.2.2.1, .long (wdM Tp (goP Tp n S.1) k9), .ref q2, .ref q3, .ref q4, .int sm, .ref q5, .ref q6, .ref q7, .ref q8, .int rm])), (q1, .inl (cI, 840, .inl Tp)), (q2, .inl (cI, 240, .inl Nw)), (q3, .inl (cI, 240, .inl S.2.2.2.2.2.2.2)), (q4, .inl (cI, 2880, .inl Sn)), (q5, .inl (cI, 4, .inl In)), (q6, .inl (cI, 500, .inl Pd)), (q7, .inl (cI, 500, .inl Rt)), (q8, .inl (cI, 10000, .inl Rw))]) hx hb hts in_X9_go_9 tyX9 tyX9_ok nmX9 hown hK hP hD hS 0 4 rfl rfl (by decide) (List.mem_of_getElem? (i := 1) rfl) rfl rfl rfl (Nat.le_of_ble_eq_true rfl) dX9_go_306 rfl (fun H_ lc_ hP hD hS => ?_)
                          refine lv_goto (tgt := 177) hx hb dX9_go_309 (by decide) ?_
                          exact ih177 (k9 + 1) (by omega) (by rw [← hinv9]; exact (bl_T (isaM_T hal) ha.1).symm) _ _ _ _ (by omega) (hg) (rfl) (by rw [wdM_s, if_pos c246]) (by rw [nuM_s, if_neg c279]) _ _ hP hD hS ls (lv_sub hl [1, 2, 3, 0] rfl)
                      · refine lv_aload_n hx hb dX9_go_249 rfl (lv_at hl 1 rfl) ?_
                        refine lv_ldc2 (v := 27) hx hb hown (hts (.constantLong RX9 48 (27)) (List.mem_of_getElem? (i := 8) rfl)) dX9_go_250 ?_
                        refine lv_aload_n hx hb dX9_go_253 rfl (lv_at hl 1 rfl) ?_
                        refine g_get (C := RX9) (T := TX9) (N := 20) (ci := 9) (index := 37) hx hb hts in_X9_go_9 hown hK hP 0 10 rfl rfl (by decide) (List.mem_of_getElem? (i := 6) rfl) rfl dX9_go_254 ?_
                        refine lv_lmul hx hb dX9_go_257 ?_
                        refine lv_iload hx hb dX9_go_258 (lv_at hl 4 rfl) ?_
                        refine lv_i2l (v := (Tp ((goP Tp n S.1) + k9)).toInt64) hx hb dX9_go_260 rfl ?_
                        refine lv_ladd hx hb dX9_go_261 ?_
                        refine lv_ldc2 (v := 96) hx hb hown (hts (.constantLong RX9 50 (96)) (List.mem_of_getElem? (i := 9) rfl)) dX9_go_262 ?_
                        refine lv_lsub hx hb dX9_go_265 ?_
                        refine g_put (C := RX9) (T := TX9) (N := 20) (ci := 9) (index := 37) (v := .long (((27 * (wdM Tp (goP Tp n S.1) k9)) + ((Tp ((goP Tp n S.1) + k9)).toInt64)) - 96)) (ws' := [(mo, .inr (9, [.int th, .ref q1, .int tn, .int (nI n), .int (nI ((goP Tp n S.1) + k9)), .int (nI (goP Tp n S.1)), .int S.2.2.1, .int (nuM Tp (goP Tp n S.1) k9), .int S.2.2.2.2.1, .int S.2.2.2.2.2.1, .long (((27 * (wdM Tp (goP Tp n S.1) k9)) + ((Tp ((goP Tp n S.1) + k9)).toInt64)) - 96), .ref q2, .ref q3, .ref q4, .int sm, .ref q5, .ref q6, .ref q7, .ref q8, .int rm])), (q1, .inl (cI, 840, .inl Tp)), (q2, .inl (cI, 240, .inl Nw)), (q3, .inl (cI, 240, .inl S.2.2.2.2.2.2.2)), (q4, .inl (cI, 2880, .inl Sn)), (q5, .inl (cI, 4, .inl In)), (q6, .inl (cI, 500, .inl Pd)), (q7, .inl (cI, 500, .inl Rt)), (q8, .inl (cI, 10000, .inl Rw))]) hx hb hts in_X9_go_9 tyX9 tyX9_ok nmX9 hown hK hP hD hS 0 10 rfl rfl (by decide) (List.mem_of_getElem? (i := 6) rfl) rfl rfl rfl (Nat.le_of_ble_eq_true rfl) dX9_go_266 rfl (fun H_ lc_ hP hD hS => ?_)
                        refine lv_aload_n hx hb dX9_go_269 rfl (lv_at hl 1 rfl) ?_
                        refine g_get (C := RX9) (T := TX9) (N := 20) (ci := 9) (index := 21) hx hb hts in_X9_go_9 hown hK hP 0 4 rfl rfl (by decide) (List.mem_of_getElem? (i := 1) rfl) rfl dX9_go_270 ?_
                        refine lv_aload_n hx hb dX9_go_273 rfl (lv_at hl 1 rfl) ?_
                        refine g_get (C := RX9) (T := TX9) (N := 20) (ci := 9) (index := 24) hx hb hts in_X9_go_9 hown hK hP 0 5 rfl rfl (by decide) (List.mem_of_getElem? (i := 4) rfl) rfl dX9_go_274 ?_
                        refine lv_isub hx hb dX9_go_277 ?_
                        rw [show ((nI ((goP Tp n S.1) + k9)) - (nI (goP Tp n S.1)) : Int32) = nI k9 from by rw [pk_sub (by omega), show (goP Tp n S.1) + k9 - (goP Tp n S.1) = k9 by omega]]
                        refine lv_iconst (v := 5) hx hb dX9_go_278 (by decide) ?_
                        refine lv_icmp_ge (tgt := 299) hx hb dX9_go_279 (by decide) (fun c279 => ?_) (fun c279 => ?_)
                        · refine lv_aload_n hx hb dX9_go_299 rfl (lv_at hl 1 rfl) ?_
                          refine lv_dup hx hb dX9_go_300 rfl ?_
                          refine g_get (C := RX9) (T := TX9) (N := 20) (ci := 9) (index := 21) hx hb hts in_X9_go_9 hown hK hP 0 4 rfl rfl (by decide) (List.mem_of_getElem? (i := 1) rfl) rfl dX9_go_301 ?_
                          refine lv_iconst (v := 1) hx hb dX9_go_304 (by decide) ?_
                          refine lv_iadd hx hb dX9_go_305 ?_
                          rw [show ((nI ((goP Tp n S.1) + k9)) + 1 : Int32) = nI ((goP Tp n S.1) + (k9 + 1)) from nI_1 _]
                          refine g_put (C := RX9) (T := TX9) (N := 20) (ci := 9) (index := 21) (v := .int (nI ((goP Tp n S.1) + (k9 + 1)))) (ws' := [(mo, .inr (9, [.int th, .ref q1, .int tn, .int (nI n), .int (nI ((goP Tp n S.1) + (k9 + 1))), .int (nI (goP Tp n S.1)), .int S.2.2.1, .int (nuM Tp (goP Tp n S.1) k9), .int S.2.2.2.2.1, .int S.2.2.2.2.2.1, .long (((27 * (wdM Tp (goP Tp n S.1) k9)) + ((Tp ((goP Tp n S.1) + k9)).toInt64)) - 96), .ref q2, .ref q3, .ref q4, .int sm, .ref q5, .ref q6, .ref q7, .ref q8, .int rm])), (q1, .inl (cI, 840, .inl Tp)), (q2, .inl (cI, 240, .inl Nw)), (q3, .inl (cI, 240, .inl S.2.2.2.2.2.2.2)), (q4, .inl (cI, 2880, .inl Sn)), (q5, .inl (cI, 4, .inl In)), (q6, .inl (cI, 500, .inl Pd)), (q7, .inl (cI, 500, .inl Rt)), (q8, .inl (cI, 10000, .inl Rw))]) hx hb hts in_X9_go_9 tyX9 tyX9_ok nmX9 hown hK hP hD hS 0 4 rfl rfl (by decide) (List.mem_of_getElem? (i := 1) rfl) rfl rfl rfl (Nat.le_of_ble_eq_true rfl) dX9_go_306 rfl (fun H_ lc_ hP hD hS => ?_)
                          refine lv_goto (tgt := 177) hx hb dX9_go_309 (by decide) ?_
                          exact ih177 (k9 + 1) (by omega) (by rw [← hinv9]; exact (bl_T (isaM_T hal) ha.1).symm) _ _ _ _ (by omega) (hg) (rfl) (by rw [wdM_s, if_neg c246]) (by rw [nuM_s, if_pos c279]) _ _ hP hD hS ls (lv_sub hl [1, 2, 3, 0] rfl)
                        · refine lv_aload_n hx hb dX9_go_282 rfl (lv_at hl 1 rfl) ?_
                          refine lv_bipush (v := 10) hx hb dX9_go_283 (by decide) ?_
                          refine lv_aload_n hx hb dX9_go_285 rfl (lv_at hl 1 rfl) ?_
                          refine g_get (C := RX9) (T := TX9) (N := 20) (ci := 9) (index := 41) hx hb hts in_X9_go_9 hown hK hP 0 7 rfl rfl (by decide) (List.mem_of_getElem? (i := 7) rfl) rfl dX9_go_286 ?_
                          refine lv_imul hx hb dX9_go_289 ?_
                          refine lv_iload hx hb dX9_go_290 (lv_at hl 4 rfl) ?_
                          refine lv_iadd hx hb dX9_go_292 ?_
                          refine lv_bipush (v := 48) hx hb dX9_go_293 (by decide) ?_
                          refine lv_isub hx hb dX9_go_295 ?_
                          refine g_put (C := RX9) (T := TX9) (N := 20) (ci := 9) (index := 41) (v := .int (((10 * (nuM Tp (goP Tp n S.1) k9)) + (Tp ((goP Tp n S.1) + k9))) - 48)) (ws' := [(mo, .inr (9, [.int th, .ref q1, .int tn, .int (nI n), .int (nI ((goP Tp n S.1) + k9)), .int (nI (goP Tp n S.1)), .int S.2.2.1, .int (((10 * (nuM Tp (goP Tp n S.1) k9)) + (Tp ((goP Tp n S.1) + k9))) - 48), .int S.2.2.2.2.1, .int S.2.2.2.2.2.1, .long (((27 * (wdM Tp (goP Tp n S.1) k9)) + ((Tp ((goP Tp n S.1) + k9)).toInt64)) - 96), .ref q2, .ref q3, .ref q4, .int sm, .ref q5, .ref q6, .ref q7, .ref q8, .int rm])), (q1, .inl (cI, 840, .inl Tp)), (q2, .inl (cI, 240, .inl Nw)), (q3, .inl (cI, 240, .inl S.2.2.2.2.2.2.2)), (q4, .inl (cI, 2880, .inl Sn)), (q5, .inl (cI, 4, .inl In)), (q6, .inl (cI, 500, .inl Pd)), (q7, .inl (cI, 500, .inl Rt)), (q8, .inl (cI, 10000, .inl Rw))]) hx hb hts in_X9_go_9 tyX9 tyX9_ok nmX9 hown hK hP hD hS 0 7 rfl rfl (by decide) (List.mem_of_getElem? (i := 7) rfl) rfl rfl rfl (Nat.le_of_ble_eq_true rfl) dX9_go_296 rfl (fun H_ lc_ hP hD hS => ?_)
                          refine lv_aload_n hx hb dX9_go_299 rfl (lv_at hl 1 rfl) ?_
                          refine lv_dup hx hb dX9_go_300 rfl ?_
                          refine g_get (C := RX9) (T := TX9) (N := 20) (ci := 9) (index := 21) hx hb hts in_X9_go_9 hown hK hP 0 4 rfl rfl (by decide) (List.mem_of_getElem? (i := 1) rfl) rfl dX9_go_301 ?_
                          refine lv_iconst (v := 1) hx hb dX9_go_304 (by decide) ?_
                          refine lv_iadd hx hb dX9_go_305 ?_
                          rw [show ((nI ((goP Tp n S.1) + k9)) + 1 : Int32) = nI ((goP Tp n S.1) + (k9 + 1)) from nI_1 _]
                          refine g_put (C := RX9) (T := TX9) (N := 20) (ci := 9) (index := 21) (v := .int (nI ((goP Tp n S.1) + (k9 + 1)))) (ws' := [(mo, .inr (9, [.int th, .ref q1, .int tn, .int (nI n), .int (nI ((goP Tp n S.1) + (k9 + 1))), .int (nI (goP Tp n S.1)), .int S.2.2.1, .int (((10 * (nuM Tp (goP Tp n S.1) k9)) + (Tp ((goP Tp n S.1) + k9))) - 48), .int S.2.2.2.2.1, .int S.2.2.2.2.2.1, .long (((27 * (wdM Tp (goP Tp n S.1) k9)) + ((Tp ((goP Tp n S.1) + k9)).toInt64)) - 96), .ref q2, .ref q3, .ref q4, .int sm, .ref q5, .ref q6, .ref q7, .ref q8, .int rm])), (q1, .inl (cI, 840, .inl Tp)), (q2, .inl (cI, 240, .inl Nw)), (q3, .inl (cI, 240, .inl S.2.2.2.2.2.2.2)), (q4, .inl (cI, 2880, .inl Sn)), (q5, .inl (cI, 4, .inl In)), (q6, .inl (cI, 500, .inl Pd)), (q7, .inl (cI, 500, .inl Rt)), (q8, .inl (cI, 10000, .inl Rw))]) hx hb hts in_X9_go_9 tyX9 tyX9_ok nmX9 hown hK hP hD hS 0 4 rfl rfl (by decide) (List.mem_of_getElem? (i := 1) rfl) rfl rfl rfl (Nat.le_of_ble_eq_true rfl) dX9_go_306 rfl (fun H_ lc_ hP hD hS => ?_)
                          refine lv_goto (tgt := 177) hx hb dX9_go_309 (by decide) ?_
                          exact ih177 (k9 + 1) (by omega) (by rw [← hinv9]; exact (bl_T (isaM_T hal) ha.1).symm) _ _ _ _ (by omega) (hg) (rfl) (by rw [wdM_s, if_neg c246]) (by rw [nuM_s, if_neg c279]) _ _ hP hD hS ls (lv_sub hl [1, 2, 3, 0] rfl)
                    refine lv_iload_n hx hb dX9_go_216 rfl (lv_at hl 4 rfl) ?_
                    refine lv_if_eq (tgt := 233) hx hb dX9_go_217 (by decide) (fun c217 => ?_) (fun c217 => ?_)
                    · refine lv_iconst (v := 0) hx hb dX9_go_233 (by decide) ?_
                      exact J234 0 (by rw [gdM_s, if_pos c217])   _ _ hP hD hS ls (lv_sub hl [1, 2, 3, 4, 0] rfl)
                    · refine lv_iload hx hb dX9_go_220 (lv_at hl 0 rfl) ?_
                      refine rd_S (As := [.int (Tp ((goP Tp n S.1) + k9))]) (rest := []) (kX9_isLetter l D cI cB (Tp ((goP Tp n S.1) + k9)) ) ⟨hx, hb, hml, hown, hts⟩ (va_cwS 1 hts gX9_go_X9_isLetter rfl rfl rfl (by decide +kernel) ⟨Nat.le_of_ble_eq_true rfl, Nat.le_of_ble_eq_true rfl⟩) hK hP [] rfl rfl rfl hl.1 (Nat.le_of_ble_eq_true rfl) dX9_go_222 ⟨Nat.le_refl _, Nat.le_refl _⟩ ?_
                      refine lv_iload_n hx hb dX9_go_225 rfl (lv_at hl 3 rfl) ?_
                      refine lv_icmp_ne (tgt := 233) hx hb dX9_go_226 (by decide) (fun c226 => ?_) (fun c226 => ?_)
                      · refine lv_iconst (v := 0) hx hb dX9_go_233 (by decide) ?_
                        exact J234 0 (by rw [gdM_s, if_neg c217, if_neg c226])   _ _ hP hD hS ls (lv_sub hl [1, 2, 3, 4, 0] rfl)
                      · refine lv_iconst (v := 1) hx hb dX9_go_229 (by decide) ?_
                        refine lv_goto (tgt := 234) hx hb dX9_go_230 (by decide) ?_
                        exact J234 1 (by rw [gdM_s, if_neg c217, if_pos c226])   _ _ hP hD hS ls (lv_sub hl [1, 2, 3, 4, 0] rfl)
            exact L177 (n - ((goP Tp n S.1) + 0) + 1) 0 (by omega) (rfl) _ _ _ _ (Nat.lt_succ_self _) (rfl) (rfl) (rfl) (rfl) _ _ hP hD hS ls (lv_sub hl [3, 2, 1, 0] rfl)
          · refine lv_aload_n hx hb dX9_go_134 rfl (lv_at hl 1 rfl) ?_
            refine lv_iload_n hx hb dX9_go_135 rfl (lv_at hl 0 rfl) ?_
            refine lv_bipush (v := 59) hx hb dX9_go_136 (by decide) ?_
            refine lv_icmp_ne (tgt := 145) hx hb dX9_go_138 (by decide) (fun c138 => ?_) (fun c138 => ?_)
            · refine lv_iconst (v := 1) hx hb dX9_go_145 (by decide) ?_
              refine g_put (C := RX9) (T := TX9) (N := 20) (ci := 9) (index := 27) (v := .int 1) (ws' := [(mo, .inr (9, [.int th, .ref q1, .int tn, .int (nI n), .int (nI (goP Tp n S.1)), .int (nI (goP Tp n S.1)), .int 1, .int S.2.2.2.1, .int S.2.2.2.2.1, .int S.2.2.2.2.2.1, .long S.2.2.2.2.2.2.1, .ref q2, .ref q3, .ref q4, .int sm, .ref q5, .ref q6, .ref q7, .ref q8, .int rm])), (q1, .inl (cI, 840, .inl Tp)), (q2, .inl (cI, 240, .inl Nw)), (q3, .inl (cI, 240, .inl S.2.2.2.2.2.2.2)), (q4, .inl (cI, 2880, .inl Sn)), (q5, .inl (cI, 4, .inl In)), (q6, .inl (cI, 500, .inl Pd)), (q7, .inl (cI, 500, .inl Rt)), (q8, .inl (cI, 10000, .inl Rw))]) hx hb hts in_X9_go_9 tyX9 tyX9_ok nmX9 hown hK hP hD hS 0 6 rfl rfl (by decide) (List.mem_of_getElem? (i := 5) rfl) rfl rfl rfl (Nat.le_of_ble_eq_true rfl) dX9_go_146 rfl (fun H_ lc_ hP hD hS => ?_)
              refine lv_aload_n hx hb dX9_go_149 rfl (lv_at hl 1 rfl) ?_
              refine lv_dup hx hb dX9_go_150 rfl ?_
              refine g_get (C := RX9) (T := TX9) (N := 20) (ci := 9) (index := 21) hx hb hts in_X9_go_9 hown hK hP 0 4 rfl rfl (by decide) (List.mem_of_getElem? (i := 1) rfl) rfl dX9_go_151 ?_
              refine lv_iconst (v := 1) hx hb dX9_go_154 (by decide) ?_
              refine lv_iadd hx hb dX9_go_155 ?_
              rw [show ((nI (goP Tp n S.1)) + 1 : Int32) = nI ((goP Tp n S.1) + 1) from nI_1 _]
              refine g_put (C := RX9) (T := TX9) (N := 20) (ci := 9) (index := 21) (v := .int (nI ((goP Tp n S.1) + 1))) (ws' := [(mo, .inr (9, [.int th, .ref q1, .int tn, .int (nI n), .int (nI ((goP Tp n S.1) + 1)), .int (nI (goP Tp n S.1)), .int 1, .int S.2.2.2.1, .int S.2.2.2.2.1, .int S.2.2.2.2.2.1, .long S.2.2.2.2.2.2.1, .ref q2, .ref q3, .ref q4, .int sm, .ref q5, .ref q6, .ref q7, .ref q8, .int rm])), (q1, .inl (cI, 840, .inl Tp)), (q2, .inl (cI, 240, .inl Nw)), (q3, .inl (cI, 240, .inl S.2.2.2.2.2.2.2)), (q4, .inl (cI, 2880, .inl Sn)), (q5, .inl (cI, 4, .inl In)), (q6, .inl (cI, 500, .inl Pd)), (q7, .inl (cI, 500, .inl Rt)), (q8, .inl (cI, 10000, .inl Rw))]) hx hb hts in_X9_go_9 tyX9 tyX9_ok nmX9 hown hK hP hD hS 0 4 rfl rfl (by decide) (List.mem_of_getElem? (i := 1) rfl) rfl rfl rfl (Nat.le_of_ble_eq_true rfl) dX9_go_156 rfl (fun H_ lc_ hP hD hS => ?_)
              exact hret _ _ _ ls hS (by unfold goM; rw [if_neg hA, if_neg hB, if_pos ⟨c124, c131⟩, if_neg c138]; exact hP) dX9_go_159
            · refine lv_iconst (v := 4) hx hb dX9_go_141 (by decide) ?_
              refine lv_goto (tgt := 146) hx hb dX9_go_142 (by decide) ?_
              refine g_put (C := RX9) (T := TX9) (N := 20) (ci := 9) (index := 27) (v := .int 4) (ws' := [(mo, .inr (9, [.int th, .ref q1, .int tn, .int (nI n), .int (nI (goP Tp n S.1)), .int (nI (goP Tp n S.1)), .int 4, .int S.2.2.2.1, .int S.2.2.2.2.1, .int S.2.2.2.2.2.1, .long S.2.2.2.2.2.2.1, .ref q2, .ref q3, .ref q4, .int sm, .ref q5, .ref q6, .ref q7, .ref q8, .int rm])), (q1, .inl (cI, 840, .inl Tp)), (q2, .inl (cI, 240, .inl Nw)), (q3, .inl (cI, 240, .inl S.2.2.2.2.2.2.2)), (q4, .inl (cI, 2880, .inl Sn)), (q5, .inl (cI, 4, .inl In)), (q6, .inl (cI, 500, .inl Pd)), (q7, .inl (cI, 500, .inl Rt)), (q8, .inl (cI, 10000, .inl Rw))]) hx hb hts in_X9_go_9 tyX9 tyX9_ok nmX9 hown hK hP hD hS 0 6 rfl rfl (by decide) (List.mem_of_getElem? (i := 5) rfl) rfl rfl rfl (Nat.le_of_ble_eq_true rfl) dX9_go_146 rfl (fun H_ lc_ hP hD hS => ?_)
              refine lv_aload_n hx hb dX9_go_149 rfl (lv_at hl 1 rfl) ?_
              refine lv_dup hx hb dX9_go_150 rfl ?_
              refine g_get (C := RX9) (T := TX9) (N := 20) (ci := 9) (index := 21) hx hb hts in_X9_go_9 hown hK hP 0 4 rfl rfl (by decide) (List.mem_of_getElem? (i := 1) rfl) rfl dX9_go_151 ?_
              refine lv_iconst (v := 1) hx hb dX9_go_154 (by decide) ?_
              refine lv_iadd hx hb dX9_go_155 ?_
              rw [show ((nI (goP Tp n S.1)) + 1 : Int32) = nI ((goP Tp n S.1) + 1) from nI_1 _]
              refine g_put (C := RX9) (T := TX9) (N := 20) (ci := 9) (index := 21) (v := .int (nI ((goP Tp n S.1) + 1))) (ws' := [(mo, .inr (9, [.int th, .ref q1, .int tn, .int (nI n), .int (nI ((goP Tp n S.1) + 1)), .int (nI (goP Tp n S.1)), .int 4, .int S.2.2.2.1, .int S.2.2.2.2.1, .int S.2.2.2.2.2.1, .long S.2.2.2.2.2.2.1, .ref q2, .ref q3, .ref q4, .int sm, .ref q5, .ref q6, .ref q7, .ref q8, .int rm])), (q1, .inl (cI, 840, .inl Tp)), (q2, .inl (cI, 240, .inl Nw)), (q3, .inl (cI, 240, .inl S.2.2.2.2.2.2.2)), (q4, .inl (cI, 2880, .inl Sn)), (q5, .inl (cI, 4, .inl In)), (q6, .inl (cI, 500, .inl Pd)), (q7, .inl (cI, 500, .inl Rt)), (q8, .inl (cI, 10000, .inl Rw))]) hx hb hts in_X9_go_9 tyX9 tyX9_ok nmX9 hown hK hP hD hS 0 4 rfl rfl (by decide) (List.mem_of_getElem? (i := 1) rfl) rfl rfl rfl (Nat.le_of_ble_eq_true rfl) dX9_go_156 rfl (fun H_ lc_ hP hD hS => ?_)
              exact hret _ _ _ ls hS (by unfold goM; rw [if_neg hA, if_neg hB, if_pos ⟨c124, c131⟩, if_pos c138]; exact hP) dX9_go_159
      · refine lv_aload_n hx hb dX9_go_104 rfl (lv_at hl 0 rfl) ?_
        refine lv_iconst (v := 0) hx hb dX9_go_105 (by decide) ?_
        refine g_put (C := RX9) (T := TX9) (N := 20) (ci := 9) (index := 27) (v := .int 0) (ws' := [(mo, .inr (9, [.int th, .ref q1, .int tn, .int (nI n), .int (nI (goP Tp n S.1)), .int (nI (goP Tp n S.1)), .int 0, .int S.2.2.2.1, .int S.2.2.2.2.1, .int S.2.2.2.2.2.1, .long S.2.2.2.2.2.2.1, .ref q2, .ref q3, .ref q4, .int sm, .ref q5, .ref q6, .ref q7, .ref q8, .int rm])), (q1, .inl (cI, 840, .inl Tp)), (q2, .inl (cI, 240, .inl Nw)), (q3, .inl (cI, 240, .inl S.2.2.2.2.2.2.2)), (q4, .inl (cI, 2880, .inl Sn)), (q5, .inl (cI, 4, .inl In)), (q6, .inl (cI, 500, .inl Pd)), (q7, .inl (cI, 500, .inl Rt)), (q8, .inl (cI, 10000, .inl Rw))]) hx hb hts in_X9_go_9 tyX9 tyX9_ok nmX9 hown hK hP hD hS 0 6 rfl rfl (by decide) (List.mem_of_getElem? (i := 5) rfl) rfl rfl rfl (Nat.le_of_ble_eq_true rfl) dX9_go_106 rfl (fun H_ lc_ hP hD hS => ?_)
        exact hret _ _ _ ls hS (by unfold goM; rw [if_neg hA, if_pos (by have z : ¬ (goP Tp n S.1) < n := fun z => c101 ((nI_ltI (by omega) (by omega)).mpr z); omega)]; exact hP) dX9_go_109
    · refine lv_aload_n hx hb dX9_go_70 rfl (lv_at hl 0 rfl) ?_
      refine g_get (C := RX9) (T := TX9) (N := 20) (ci := 9) (index := 24) hx hb hts in_X9_go_9 hown hK hP 0 5 rfl rfl (by decide) (List.mem_of_getElem? (i := 4) rfl) rfl dX9_go_71 ?_
      refine lv_sipush (v := 800) hx hb dX9_go_74 (by decide) ?_
      refine lv_icmp_lt (tgt := 93) hx hb dX9_go_77 (by decide) (fun c77 => ?_) (fun c77 => ?_)
      · try have hA : ¬ (800 < n ∧ 800 ≤ (goP Tp n S.1)) := fun z => by first | exact absurd ((nI_leI (b := 800) (by omega) (by omega)).mp c67) (by omega) | exact absurd ((nI_ltI (b := 800) (by omega) (by omega)).mp c77) (by omega)
        refine lv_aload_n hx hb dX9_go_93 rfl (lv_at hl 0 rfl) ?_
        refine g_get (C := RX9) (T := TX9) (N := 20) (ci := 9) (index := 21) hx hb hts in_X9_go_9 hown hK hP 0 4 rfl rfl (by decide) (List.mem_of_getElem? (i := 1) rfl) rfl dX9_go_94 ?_
        refine lv_aload_n hx hb dX9_go_97 rfl (lv_at hl 0 rfl) ?_
        refine g_get (C := RX9) (T := TX9) (N := 20) (ci := 9) (index := 18) hx hb hts in_X9_go_9 hown hK hP 0 3 rfl rfl (by decide) (List.mem_of_getElem? (i := 2) rfl) rfl dX9_go_98 ?_
        refine lv_icmp_lt (tgt := 110) hx hb dX9_go_101 (by decide) (fun c101 => ?_) (fun c101 => ?_)
        · have hB : ¬ n ≤ (goP Tp n S.1) := by have z := (nI_ltI (by omega) (by omega)).mp c101; omega
          refine lv_aload_n hx hb dX9_go_110 rfl (lv_at hl 0 rfl) ?_
          refine g_get (C := RX9) (T := TX9) (N := 20) (ci := 9) (index := 7) hx hb hts in_X9_go_9 hown hK hP 0 1 rfl rfl (by decide) (List.mem_of_getElem? (i := 3) rfl) rfl dX9_go_111 ?_
          refine lv_aload_n hx hb dX9_go_114 rfl (lv_at hl 0 rfl) ?_
          refine g_get (C := RX9) (T := TX9) (N := 20) (ci := 9) (index := 21) hx hb hts in_X9_go_9 hown hK hP 0 4 rfl rfl (by decide) (List.mem_of_getElem? (i := 1) rfl) rfl dX9_go_115 ?_
          refine g_iald hx hb hK hP 1 0 rfl rfl (goP Tp n S.1) (rfl) (by omega) (by omega) dX9_go_118 ?_
          refine lv_istore_n (lv' := [(1, .int (Tp (goP Tp n S.1))), (0, .ref mo)]) hx hb dX9_go_119 rfl hl (by decide) rfl (fun ls hl => ?_)
          refine lv_iload_n hx hb dX9_go_120 rfl (lv_at hl 0 rfl) ?_
          refine rd_S (As := [.int (Tp (goP Tp n S.1))]) (rest := []) (kX9_isLetter l D cI cB (Tp (goP Tp n S.1)) ) ⟨hx, hb, hml, hown, hts⟩ (va_cwS 1 hts gX9_go_X9_isLetter rfl rfl rfl (by decide +kernel) ⟨Nat.le_of_ble_eq_true rfl, Nat.le_of_ble_eq_true rfl⟩) hK hP [] rfl rfl rfl hl.1 (Nat.le_of_ble_eq_true rfl) dX9_go_121 ⟨Nat.le_refl _, Nat.le_refl _⟩ ?_
          refine lv_if_ne (tgt := 160) hx hb dX9_go_124 (by decide) (fun c124 => ?_) (fun c124 => ?_)
          · refine lv_iload_n hx hb dX9_go_160 rfl (lv_at hl 0 rfl) ?_
            refine rd_S (As := [.int (Tp (goP Tp n S.1))]) (rest := []) (kX9_isLetter l D cI cB (Tp (goP Tp n S.1)) ) ⟨hx, hb, hml, hown, hts⟩ (va_cwS 1 hts gX9_go_X9_isLetter rfl rfl rfl (by decide +kernel) ⟨Nat.le_of_ble_eq_true rfl, Nat.le_of_ble_eq_true rfl⟩) hK hP [] rfl rfl rfl hl.1 (Nat.le_of_ble_eq_true rfl) dX9_go_161 ⟨Nat.le_refl _, Nat.le_refl _⟩ ?_
            refine lv_istore_n (lv' := [(2, .int (isInM (Tp (goP Tp n S.1)) 97 122)), (1, .int (Tp (goP Tp n S.1))), (0, .ref mo)]) hx hb dX9_go_164 rfl hl (by decide) rfl (fun ls hl => ?_)
            refine lv_iconst (v := 1) hx hb dX9_go_165 (by decide) ?_
            refine lv_istore_n (lv' := [(3, .int 1), (2, .int (isInM (Tp (goP Tp n S.1)) 97 122)), (1, .int (Tp (goP Tp n S.1))), (0, .ref mo)]) hx hb dX9_go_166 rfl hl (by decide) rfl (fun ls hl => ?_)
            refine lv_aload_n hx hb dX9_go_167 rfl (lv_at hl 3 rfl) ?_
            refine lv_lconst (v := 0) hx hb dX9_go_168 (by decide) ?_
            refine g_put (C := RX9) (T := TX9) (N := 20) (ci := 9) (index := 37) (v := .long 0) (ws' := [(mo, .inr (9, [.int th, .ref q1, .int tn, .int (nI n), .int (nI (goP Tp n S.1)), .int (nI (goP Tp n S.1)), .int S.2.2.1, .int S.2.2.2.1, .int S.2.2.2.2.1, .int S.2.2.2.2.2.1, .long 0, .ref q2, .ref q3, .ref q4, .int sm, .ref q5, .ref q6, .ref q7, .ref q8, .int rm])), (q1, .inl (cI, 840, .inl Tp)), (q2, .inl (cI, 240, .inl Nw)), (q3, .inl (cI, 240, .inl S.2.2.2.2.2.2.2)), (q4, .inl (cI, 2880, .inl Sn)), (q5, .inl (cI, 4, .inl In)), (q6, .inl (cI, 500, .inl Pd)), (q7, .inl (cI, 500, .inl Rt)), (q8, .inl (cI, 10000, .inl Rw))]) hx hb hts in_X9_go_9 tyX9 tyX9_ok nmX9 hown hK hP hD hS 0 10 rfl rfl (by decide) (List.mem_of_getElem? (i := 6) rfl) rfl rfl rfl (Nat.le_of_ble_eq_true rfl) dX9_go_169 rfl (fun H_ lc_ hP hD hS => ?_)
            refine lv_aload_n hx hb dX9_go_172 rfl (lv_at hl 3 rfl) ?_
            refine lv_iconst (v := 0) hx hb dX9_go_173 (by decide) ?_
            refine g_put (C := RX9) (T := TX9) (N := 20) (ci := 9) (index := 41) (v := .int 0) (ws' := [(mo, .inr (9, [.int th, .ref q1, .int tn, .int (nI n), .int (nI (goP Tp n S.1)), .int (nI (goP Tp n S.1)), .int S.2.2.1, .int 0, .int S.2.2.2.2.1, .int S.2.2.2.2.2.1, .long 0, .ref q2, .ref q3, .ref q4, .int sm, .ref q5, .ref q6, .ref q7, .ref q8, .int rm])), (q1, .inl (cI, 840, .inl Tp)), (q2, .inl (cI, 240, .inl Nw)), (q3, .inl (cI, 240, .inl S.2.2.2.2.2.2.2)), (q4, .inl (cI, 2880, .inl Sn)), (q5, .inl (cI, 4, .inl In)), (q6, .inl (cI, 500, .inl Pd)), (q7, .inl (cI, 500, .inl Rt)), (q8, .inl (cI, 10000, .inl Rw))]) hx hb hts in_X9_go_9 tyX9 tyX9_ok nmX9 hown hK hP hD hS 0 7 rfl rfl (by decide) (List.mem_of_getElem? (i := 7) rfl) rfl rfl rfl (Nat.le_of_ble_eq_true rfl) dX9_go_174 rfl (fun H_ lc_ hP hD hS => ?_)
            have L177 : ∀ (nn_ : Nat) (k9 : Nat) (hk9 : (goP Tp n S.1) + k9 ≤ n) (hinv9 : bl (isaM Tp n) (n - ((goP Tp n S.1) + k9)) ((goP Tp n S.1) + k9) = goE Tp n (goP Tp n S.1)) (xx_v3 : Int32) (xx_u0_4 : Int32) (xx_u0_10 : Int64) (xx_u0_7 : Int32), (n - ((goP Tp n S.1) + k9)) < nn_ → xx_v3 = gdM Tp (goP Tp n S.1) (isInM (Tp (goP Tp n S.1)) 97 122) k9 → xx_u0_4 = nI ((goP Tp n S.1) + k9) → xx_u0_10 = wdM Tp (goP Tp n S.1) k9 → xx_u0_7 = nuM Tp (goP Tp n S.1) k9 → ∀ (H_ : Heap) (lc_ : List Loc), va_P D vwCl [(mo, .inr (9, [.int th, .ref q1, .int tn, .int (nI n), .int xx_u0_4, .int (nI (goP Tp n S.1)), .int S.2.2.1, .int xx_u0_7, .int S.2.2.2.2.1, .int S.2.2.2.2.2.1, .long xx_u0_10, .ref q2, .ref q3, .ref q4, .int sm, .ref q5, .ref q6, .ref q7, .ref q8, .int rm])), (q1, .inl (cI, 840, .inl Tp)), (q2, .inl (cI, 240, .inl Nw)), (q3, .inl (cI, 240, .inl S.2.2.2.2.2.2.2)), (q4, .inl (cI, 2880, .inl Sn)), (q5, .inl (cI, 4, .inl In)), (q6, .inl (cI, 500, .inl Pd)), (q7, .inl (cI, 500, .inl Rt)), (q8, .inl (cI, 10000, .inl Rw))] H_ → va_D A_ [(mo, .inr (9, [.int th, .ref q1, .int tn, .int (nI n), .int xx_u0_4, .int (nI (goP Tp n S.1)), .int S.2.2.1, .int xx_u0_7, .int S.2.2.2.2.1, .int S.2.2.2.2.2.1, .long xx_u0_10, .ref q2, .ref q3, .ref q4, .int sm, .ref q5, .ref q6, .ref q7, .ref q8, .int rm])), (q1, .inl (cI, 840, .inl Tp)), (q2, .inl (cI, 240, .inl Nw)), (q3, .inl (cI, 240, .inl S.2.2.2.2.2.2.2)), (q4, .inl (cI, 2880, .inl Sn)), (q5, .inl (cI, 4, .inl In)), (q6, .inl (cI, 500, .inl Pd)), (q7, .inl (cI, 500, .inl Rt)), (q8, .inl (cI, 10000, .inl Rw))] → va_S A_ s_.heap H_ lc_ → ∀ (ls : Array Slot), lv_has ls 5 [(0, .ref mo), (1, .int (Tp (goP Tp n S.1))), (2, .int (isInM (Tp (goP Tp n S.1)) 97 122)), (3, .int xx_v3)] → W p_ l e_ (RM 1 21) s_ m_ ar_ be_ me_ co_ H_ lc_ 0 0 Q_ (F0 m_ 177 ls []) := by
              intro nn_
              induction nn_ with
              | zero => intro k9 hk9 hinv9 xx_v3 xx_u0_4 xx_u0_10 xx_u0_7 hn_; exact absurd hn_ (Nat.not_lt_zero _)
              | succ nn_ ih177 =>
                intro k9 hk9 hinv9 xx_v3 xx_u0_4 xx_u0_10 xx_u0_7 hn_ e_xx_v3 e_xx_u0_4 e_xx_u0_10 e_xx_u0_7 H_ lc_ hP hD hS ls hl
                subst e_xx_v3 e_xx_u0_4 e_xx_u0_10 e_xx_u0_7
                refine lv_aload_n hx hb dX9_go_177 rfl (lv_at hl 0 rfl) ?_
                refine lv_aload_n hx hb dX9_go_178 rfl (lv_at hl 0 rfl) ?_
                refine g_get (C := RX9) (T := TX9) (N := 20) (ci := 9) (index := 21) hx hb hts in_X9_go_9 hown hK hP 0 4 rfl rfl (by decide) (List.mem_of_getElem? (i := 1) rfl) rfl dX9_go_179 ?_
                refine rd_V (As := [.int (nI ((goP Tp n S.1) + k9))]) (rest := []) (ci := 9) (kX9_tapeAt l D cI cB mo q1 q2 q3 q4 q5 q6 q7 q8 th tn (nI ((goP Tp n S.1) + k9)) (nI (goP Tp n S.1)) S.2.2.1 (nuM Tp (goP Tp n S.1) k9) S.2.2.2.2.1 S.2.2.2.2.2.1 (wdM Tp (goP Tp n S.1) k9) sm rm Tp Nw S.2.2.2.2.2.2.2 Sn In Pd Rt Rw n ((goP Tp n S.1) + k9) (by first | assumption | omega) (by omega)) ⟨hx, hb, hml, hown, hts⟩ (cwV 1 hts gX9_go_X9_tapeAt rfl rfl rfl (by decide +kernel) ⟨Nat.le_of_ble_eq_true rfl, Nat.le_of_ble_eq_true rfl⟩) hK hP [0, 1, 2, 3, 4, 5, 6, 7, 8] rfl 0 rfl rfl rfl rfl hl.1 (Nat.le_of_ble_eq_true rfl) dX9_go_182 ⟨Nat.le_refl _, Nat.le_refl _⟩ ?_
                refine rd_S (As := [.int (tpA Tp n ((goP Tp n S.1) + k9))]) (rest := []) (kX9_isLetter l D cI cB (tpA Tp n ((goP Tp n S.1) + k9)) ) ⟨hx, hb, hml, hown, hts⟩ (va_cwS 1 hts gX9_go_X9_isLetter rfl rfl rfl (by decide +kernel) ⟨Nat.le_of_ble_eq_true rfl, Nat.le_of_ble_eq_true rfl⟩) hK hP [] rfl rfl rfl hl.1 (Nat.le_of_ble_eq_true rfl) dX9_go_185 ⟨Nat.le_refl _, Nat.le_refl _⟩ ?_
                refine lv_if_ne (tgt := 205) hx hb dX9_go_188 (by decide) (fun c188 => ?_) (fun c188 => ?_)
                · have hal : ¬ isInM (tpA Tp n ((goP Tp n S.1) + k9)) 97 122 = 0 ∨ ¬ isInM (tpA Tp n ((goP Tp n S.1) + k9)) 48 57 = 0 := by first | exact Or.inl c188 | exact Or.inr c202
                  have ha := isaM_lt hn (by omega) hal
                  refine lv_aload_n hx hb dX9_go_205 rfl (lv_at hl 0 rfl) ?_
                  refine g_get (C := RX9) (T := TX9) (N := 20) (ci := 9) (index := 7) hx hb hts in_X9_go_9 hown hK hP 0 1 rfl rfl (by decide) (List.mem_of_getElem? (i := 3) rfl) rfl dX9_go_206 ?_
                  refine lv_aload_n hx hb dX9_go_209 rfl (lv_at hl 0 rfl) ?_
                  refine g_get (C := RX9) (T := TX9) (N := 20) (ci := 9) (index := 21) hx hb hts in_X9_go_9 hown hK hP 0 4 rfl rfl (by decide) (List.mem_of_getElem? (i := 1) rfl) rfl dX9_go_210 ?_
                  refine g_iald hx hb hK hP 1 0 rfl rfl ((goP Tp n S.1) + k9) (rfl) (by omega) (by omega) dX9_go_213 ?_
                  refine lv_istore (lv' := [(4, .int (Tp ((goP Tp n S.1) + k9))), (0, .ref mo), (1, .int (Tp (goP Tp n S.1))), (2, .int (isInM (Tp (goP Tp n S.1)) 97 122)), (3, .int (gdM Tp (goP Tp n S.1) (isInM (Tp (goP Tp n S.1)) 97 122) k9))]) hx hb dX9_go_214 hl (by decide) rfl (fun ls hl => ?_)
                  have J234 : ∀ (g9 : Int32) (hg : g9 = gdM Tp (goP Tp n S.1) (isInM (Tp (goP Tp n S.1)) 97 122) (k9 + 1)) , ∀ (H_ : Heap) (lc_ : List Loc), va_P D vwCl [(mo, .inr (9, [.int th, .ref q1, .int tn, .int (nI n), .int (nI ((goP Tp n S.1) + k9)), .int (nI (goP Tp n S.1)), .int S.2.2.1, .int (nuM Tp (goP Tp n S.1) k9), .int S.2.2.2.2.1, .int S.2.2.2.2.2.1, .long (wdM Tp (goP Tp n S.1) k9), .ref q2, .ref q3, .ref q4, .int sm, .ref q5, .ref q6, .ref q7, .ref q8, .int rm])), (q1, .inl (cI, 840, .inl Tp)), (q2, .inl (cI, 240, .inl Nw)), (q3, .inl (cI, 240, .inl S.2.2.2.2.2.2.2)), (q4, .inl (cI, 2880, .inl Sn)), (q5, .inl (cI, 4, .inl In)), (q6, .inl (cI, 500, .inl Pd)), (q7, .inl (cI, 500, .inl Rt)), (q8, .inl (cI, 10000, .inl Rw))] H_ → va_D A_ [(mo, .inr (9, [.int th, .ref q1, .int tn, .int (nI n), .int (nI ((goP Tp n S.1) + k9)), .int (nI (goP Tp n S.1)), .int S.2.2.1, .int (nuM Tp (goP Tp n S.1) k9), .int S.2.2.2.2.1, .int S.2.2.2.2.2.1, .long (wdM Tp (goP Tp n S.1) k9), .ref q2, .ref q3, .ref q4, .int sm, .ref q5, .ref q6, .ref q7, .ref q8, .int rm])), (q1, .inl (cI, 840, .inl Tp)), (q2, .inl (cI, 240, .inl Nw)), (q3, .inl (cI, 240, .inl S.2.2.2.2.2.2.2)), (q4, .inl (cI, 2880, .inl Sn)), (q5, .inl (cI, 4, .inl In)), (q6, .inl (cI, 500, .inl Pd)), (q7, .inl (cI, 500, .inl Rt)), (q8, .inl (cI, 10000, .inl Rw))] → va_S A_ s_.heap H_ lc_ → ∀ (ls : Array Slot), lv_has ls 5 [(0, .ref mo), (1, .int (Tp (goP Tp n S.1))), (2, .int (isInM (Tp (goP Tp n S.1)) 97 122)), (3, .int (gdM Tp (goP Tp n S.1) (isInM (Tp (goP Tp n S.1)) 97 122) k9)), (4, .int (Tp ((goP Tp n S.1) + k9)))] → W p_ l e_ (RM 1 21) s_ m_ ar_ be_ me_ co_ H_ lc_ 0 0 Q_ (F0 m_ 234 ls [.int g9]) := by
                    intro g9 hg  H_ lc_ hP hD hS ls hl
                    refine lv_istore_n (lv' := [(3, .int g9), (0, .ref mo), (1, .int (Tp (goP Tp n S.1))), (2, .int (isInM (Tp (goP Tp n S.1)) 97 122)), (4, .int (Tp ((goP Tp n S.1) + k9)))]) hx hb dX9_go_234 rfl hl (by decide) rfl (fun ls hl => ?_)
                    refine lv_aload_n hx hb dX9_go_235 rfl (lv_at hl 1 rfl) ?_
                    refine g_get (C := RX9) (T := TX9) (N := 20) (ci := 9) (index := 21) hx hb hts in_X9_go_9 hown hK hP 0 4 rfl rfl (by decide) (List.mem_of_getElem? (i := 1) rfl) rfl dX9_go_236 ?_
                    refine lv_aload_n hx hb dX9_go_239 rfl (lv_at hl 1 rfl) ?_
                    refine g_get (C := RX9) (T := TX9) (N := 20) (ci := 9) (index := 24) hx hb hts in_X9_go_9 hown hK hP 0 5 rfl rfl (by decide) (List.mem_of_getElem? (i := 4) rfl) rfl dX9_go_240 ?_
                    refine lv_isub hx hb dX9_go_243 ?_
                    rw [show ((nI ((goP Tp n S.1) + k9)) - (nI (goP Tp n S.1)) : Int32) = nI k9 from by rw [pk_sub (by omega), show (goP Tp n S.1) + k9 - (goP Tp n S.1) = k9 by omega]]
                    refine lv_bipush (v := 7) hx hb dX9_go_244 (by decide) ?_
                    refine lv_icmp_ge (tgt := 269) hx hb dX9_go_246 (by decide) (fun c246 => ?_) (fun c246 => ?_)
                    · refine lv_aload_n hx hb dX9_go_269 rfl (lv_at hl 1 rfl) ?_
                      refine g_get (C := RX9) (T := TX9) (N := 20) (ci := 9) (index := 21) hx hb hts in_X9_go_9 hown hK hP 0 4 rfl rfl (by decide) (List.mem_of_getElem? (i := 1) rfl) rfl dX9_go_270 ?_
                      refine lv_aload_n hx hb dX9_go_273 rfl (lv_at hl 1 rfl) ?_
                      refine g_get (C := RX9) (T := TX9) (N := 20) (ci := 9) (index := 24) hx hb hts in_X9_go_9 hown hK hP 0 5 rfl rfl (by decide) (List.mem_of_getElem? (i := 4) rfl) rfl dX9_go_274 ?_
                      refine lv_isub hx hb dX9_go_277 ?_
                      rw [show ((nI ((goP Tp n S.1) + k9)) - (nI (goP Tp n S.1)) : Int32) = nI k9 from by rw [pk_sub (by omega), show (goP Tp n S.1) + k9 - (goP Tp n S.1) = k9 by omega]]
                      refine lv_iconst (v := 5) hx hb dX9_go_278 (by decide) ?_
                      refine lv_icmp_ge (tgt := 299) hx hb dX9_go_279 (by decide) (fun c279 => ?_) (fun c279 => ?_)
                      · refine lv_aload_n hx hb dX9_go_299 rfl (lv_at hl 1 rfl) ?_
                        refine lv_dup hx hb dX9_go_300 rfl ?_
                        refine g_get (C := RX9) (T := TX9) (N := 20) (ci := 9) (index := 21) hx hb hts in_X9_go_9 hown hK hP 0 4 rfl rfl (by decide) (List.mem_of_getElem? (i := 1) rfl) rfl dX9_go_301 ?_
                        refine lv_iconst (v := 1) hx hb dX9_go_304 (by decide) ?_
                        refine lv_iadd hx hb dX9_go_305 ?_
                        rw [show ((nI ((goP Tp n S.1) + k9)) + 1 : Int32) = nI ((goP Tp n S.1) + (k9 + 1)) from nI_1 _]
                        refine g_put (C := RX9) (T := TX9) (N := 20) (ci := 9) (index := 21) (v := .int (nI ((goP Tp n S.1) + (k9 + 1)))) (ws' := [(mo, .inr (9, [.int th, .ref q1, .int tn, .int (nI n), .int (nI ((goP Tp n S.1) + (k9 + 1))), .int (nI (goP Tp n S.1)), .int S.2.2.1, .int (nuM Tp (goP Tp n S.1) k9), .int S.2.2.2.2.1, .int S.2.2.2.2.2.1, .long (wdM Tp (goP Tp n S.1) k9), .ref q2, .ref q3, .ref q4, .int sm, .ref q5, .ref q6, .ref q7, .ref q8, .int rm])), (q1, .inl (cI, 840, .inl Tp)), (q2, .inl (cI, 240, .inl Nw)), (q3, .inl (cI, 240, .inl S.2.2.2.2.2.2.2)), (q4, .inl (cI, 2880, .inl Sn)), (q5, .inl (cI, 4, .inl In)), (q6, .inl (cI, 500, .inl Pd)), (q7, .inl (cI, 500, .inl Rt)), (q8, .inl (cI, 10000, .inl Rw))]) hx hb hts in_X9_go_9 tyX9 tyX9_ok nmX9 hown hK hP hD hS 0 4 rfl rfl (by decide) (List.mem_of_getElem? (i := 1) rfl) rfl rfl rfl (Nat.le_of_ble_eq_true rfl) dX9_go_306 rfl (fun H_ lc_ hP hD hS => ?_)
                        refine lv_goto (tgt := 177) hx hb dX9_go_309 (by decide) ?_
                        exact ih177 (k9 + 1) (by omega) (by rw [← hinv9]; exact (bl_T (isaM_T hal) ha.1).symm) _ _ _ _ (by omega) (hg) (rfl) (by rw [wdM_s, if_pos c246]) (by rw [nuM_s, if_pos c279]) _ _ hP hD hS ls (lv_sub hl [1, 2, 3, 0] rfl)
                      · refine lv_aload_n hx hb dX9_go_282 rfl (lv_at hl 1 rfl) ?_
                        refine lv_bipush (v := 10) hx hb dX9_go_283 (by decide) ?_
                        refine lv_aload_n hx hb dX9_go_285 rfl (lv_at hl 1 rfl) ?_
                        refine g_get (C := RX9) (T := TX9) (N := 20) (ci := 9) (index := 41) hx hb hts in_X9_go_9 hown hK hP 0 7 rfl rfl (by decide) (List.mem_of_getElem? (i := 7) rfl) rfl dX9_go_286 ?_
                        refine lv_imul hx hb dX9_go_289 ?_
                        refine lv_iload hx hb dX9_go_290 (lv_at hl 4 rfl) ?_
                        refine lv_iadd hx hb dX9_go_292 ?_
                        refine lv_bipush (v := 48) hx hb dX9_go_293 (by decide) ?_
                        refine lv_isub hx hb dX9_go_295 ?_
                        refine g_put (C := RX9) (T := TX9) (N := 20) (ci := 9) (index := 41) (v := .int (((10 * (nuM Tp (goP Tp n S.1) k9)) + (Tp ((goP Tp n S.1) + k9))) - 48)) (ws' := [(mo, .inr (9, [.int th, .ref q1, .int tn, .int (nI n), .int (nI ((goP Tp n S.1) + k9)), .int (nI (goP Tp n S.1)), .int S.2.2.1, .int (((10 * (nuM Tp (goP Tp n S.1) k9)) + (Tp ((goP Tp n S.1) + k9))) - 48), .int S.2.2.2.2.1, .int S.2.2.2.2.2.1, .long (wdM Tp (goP Tp n S.1) k9), .ref q2, .ref q3, .ref q4, .int sm, .ref q5, .ref q6, .ref q7, .ref q8, .int rm])), (q1, .inl (cI, 840, .inl Tp)), (q2, .inl (cI, 240, .inl Nw)), (q3, .inl (cI, 240, .inl S.2.2.2.2.2.2.2)), (q4, .inl (cI, 2880, .inl Sn)), (q5, .inl (cI, 4, .inl In)), (q6, .inl (cI, 500, .inl Pd)), (q7, .inl (cI, 500, .inl Rt)), (q8, .inl (cI, 10000, .inl Rw))]) hx hb hts in_X9_go_9 tyX9 tyX9_ok nmX9 hown hK hP hD hS 0 7 rfl rfl (by decide) (List.mem_of_getElem? (i := 7) rfl) rfl rfl rfl (Nat.le_of_ble_eq_true rfl) dX9_go_296 rfl (fun H_ lc_ hP hD hS => ?_)
                        refine lv_aload_n hx hb dX9_go_299 rfl (lv_at hl 1 rfl) ?_
                        refine lv_dup hx hb dX9_go_300 rfl ?_
                        refine g_get (C := RX9) (T := TX9) (N := 20) (ci := 9) (index := 21) hx hb hts in_X9_go_9 hown hK hP 0 4 rfl rfl (by decide) (List.mem_of_getElem? (i := 1) rfl) rfl dX9_go_301 ?_
                        refine lv_iconst (v := 1) hx hb dX9_go_304 (by decide) ?_
                        refine lv_iadd hx hb dX9_go_305 ?_
                        rw [show ((nI ((goP Tp n S.1) + k9)) + 1 : Int32) = nI ((goP Tp n S.1) + (k9 + 1)) from nI_1 _]
                        refine g_put (C := RX9) (T := TX9) (N := 20) (ci := 9) (index := 21) (v := .int (nI ((goP Tp n S.1) + (k9 + 1)))) (ws' := [(mo, .inr (9, [.int th, .ref q1, .int tn, .int (nI n), .int (nI ((goP Tp n S.1) + (k9 + 1))), .int (nI (goP Tp n S.1)), .int S.2.2.1, .int (((10 * (nuM Tp (goP Tp n S.1) k9)) + (Tp ((goP Tp n S.1) + k9))) - 48), .int S.2.2.2.2.1, .int S.2.2.2.2.2.1, .long (wdM Tp (goP Tp n S.1) k9), .ref q2, .ref q3, .ref q4, .int sm, .ref q5, .ref q6, .ref q7, .ref q8, .int rm])), (q1, .inl (cI, 840, .inl Tp)), (q2, .inl (cI, 240, .inl Nw)), (q3, .inl (cI, 240, .inl S.2.2.2.2.2.2.2)), (q4, .inl (cI, 2880, .inl Sn)), (q5, .inl (cI, 4, .inl In)), (q6, .inl (cI, 500, .inl Pd)), (q7, .inl (cI, 500, .inl Rt)), (q8, .inl (cI, 10000, .inl Rw))]) hx hb hts in_X9_go_9 tyX9 tyX9_ok nmX9 hown hK hP hD hS 0 4 rfl rfl (by decide) (List.mem_of_getElem? (i := 1) rfl) rfl rfl rfl (Nat.le_of_ble_eq_true rfl) dX9_go_306 rfl (fun H_ lc_ hP hD hS => ?_)
                        refine lv_goto (tgt := 177) hx hb dX9_go_309 (by decide) ?_
                        exact ih177 (k9 + 1) (by omega) (by rw [← hinv9]; exact (bl_T (isaM_T hal) ha.1).symm) _ _ _ _ (by omega) (hg) (rfl) (by rw [wdM_s, if_pos c246]) (by rw [nuM_s, if_neg c279]) _ _ hP hD hS ls (lv_sub hl [1, 2, 3, 0] rfl)
                    · refine lv_aload_n hx hb dX9_go_249 rfl (lv_at hl 1 rfl) ?_
                      refine lv_ldc2 (v := 27) hx hb hown (hts (.constantLong RX9 48 (27)) (List.mem_of_getElem? (i := 8) rfl)) dX9_go_250 ?_
                      refine lv_aload_n hx hb dX9_go_253 rfl (lv_at hl 1 rfl) ?_
                      refine g_get (C := RX9) (T := TX9) (N := 20) (ci := 9) (index := 37) hx hb hts in_X9_go_9 hown hK hP 0 10 rfl rfl (by decide) (List.mem_of_getElem? (i := 6) rfl) rfl dX9_go_254 ?_
                      refine lv_lmul hx hb dX9_go_257 ?_
                      refine lv_iload hx hb dX9_go_258 (lv_at hl 4 rfl) ?_
                      refine lv_i2l (v := (Tp ((goP Tp n S.1) + k9)).toInt64) hx hb dX9_go_260 rfl ?_
                      refine lv_ladd hx hb dX9_go_261 ?_
                      refine lv_ldc2 (v := 96) hx hb hown (hts (.constantLong RX9 50 (96)) (List.mem_of_getElem? (i := 9) rfl)) dX9_go_262 ?_
                      refine lv_lsub hx hb dX9_go_265 ?_
                      refine g_put (C := RX9) (T := TX9) (N := 20) (ci := 9) (index := 37) (v := .long (((27 * (wdM Tp (goP Tp n S.1) k9)) + ((Tp ((goP Tp n S.1) + k9)).toInt64)) - 96)) (ws' := [(mo, .inr (9, [.int th, .ref q1, .int tn, .int (nI n), .int (nI ((goP Tp n S.1) + k9)), .int (nI (goP Tp n S.1)), .int S.2.2.1, .int (nuM Tp (goP Tp n S.1) k9), .int S.2.2.2.2.1, .int S.2.2.2.2.2.1, .long (((27 * (wdM Tp (goP Tp n S.1) k9)) + ((Tp ((goP Tp n S.1) + k9)).toInt64)) - 96), .ref q2, .ref q3, .ref q4, .int sm, .ref q5, .ref q6, .ref q7, .ref q8, .int rm])), (q1, .inl (cI, 840, .inl Tp)), (q2, .inl (cI, 240, .inl Nw)), (q3, .inl (cI, 240, .inl S.2.2.2.2.2.2.2)), (q4, .inl (cI, 2880, .inl Sn)), (q5, .inl (cI, 4, .inl In)), (q6, .inl (cI, 500, .inl Pd)), (q7, .inl (cI, 500, .inl Rt)), (q8, .inl (cI, 10000, .inl Rw))]) hx hb hts in_X9_go_9 tyX9 tyX9_ok nmX9 hown hK hP hD hS 0 10 rfl rfl (by decide) (List.mem_of_getElem? (i := 6) rfl) rfl rfl rfl (Nat.le_of_ble_eq_true rfl) dX9_go_266 rfl (fun H_ lc_ hP hD hS => ?_)
                      refine lv_aload_n hx hb dX9_go_269 rfl (lv_at hl 1 rfl) ?_
                      refine g_get (C := RX9) (T := TX9) (N := 20) (ci := 9) (index := 21) hx hb hts in_X9_go_9 hown hK hP 0 4 rfl rfl (by decide) (List.mem_of_getElem? (i := 1) rfl) rfl dX9_go_270 ?_
                      refine lv_aload_n hx hb dX9_go_273 rfl (lv_at hl 1 rfl) ?_
                      refine g_get (C := RX9) (T := TX9) (N := 20) (ci := 9) (index := 24) hx hb hts in_X9_go_9 hown hK hP 0 5 rfl rfl (by decide) (List.mem_of_getElem? (i := 4) rfl) rfl dX9_go_274 ?_
                      refine lv_isub hx hb dX9_go_277 ?_
                      rw [show ((nI ((goP Tp n S.1) + k9)) - (nI (goP Tp n S.1)) : Int32) = nI k9 from by rw [pk_sub (by omega), show (goP Tp n S.1) + k9 - (goP Tp n S.1) = k9 by omega]]
                      refine lv_iconst (v := 5) hx hb dX9_go_278 (by decide) ?_
                      refine lv_icmp_ge (tgt := 299) hx hb dX9_go_279 (by decide) (fun c279 => ?_) (fun c279 => ?_)
                      · refine lv_aload_n hx hb dX9_go_299 rfl (lv_at hl 1 rfl) ?_
                        refine lv_dup hx hb dX9_go_300 rfl ?_
                        refine g_get (C := RX9) (T := TX9) (N := 20) (ci := 9) (index := 21) hx hb hts in_X9_go_9 hown hK hP 0 4 rfl rfl (by decide) (List.mem_of_getElem? (i := 1) rfl) rfl dX9_go_301 ?_
                        refine lv_iconst (v := 1) hx hb dX9_go_304 (by decide) ?_
                        refine lv_iadd hx hb dX9_go_305 ?_
                        rw [show ((nI ((goP Tp n S.1) + k9)) + 1 : Int32) = nI ((goP Tp n S.1) + (k9 + 1)) from nI_1 _]
                        refine g_put (C := RX9) (T := TX9) (N := 20) (ci := 9) (index := 21) (v := .int (nI ((goP Tp n S.1) + (k9 + 1)))) (ws' := [(mo, .inr (9, [.int th, .ref q1, .int tn, .int (nI n), .int (nI ((goP Tp n S.1) + (k9 + 1))), .int (nI (goP Tp n S.1)), .int S.2.2.1, .int (nuM Tp (goP Tp n S.1) k9), .int S.2.2.2.2.1, .int S.2.2.2.2.2.1, .long (((27 * (wdM Tp (goP Tp n S.1) k9)) + ((Tp ((goP Tp n S.1) + k9)).toInt64)) - 96), .ref q2, .ref q3, .ref q4, .int sm, .ref q5, .ref q6, .ref q7, .ref q8, .int rm])), (q1, .inl (cI, 840, .inl Tp)), (q2, .inl (cI, 240, .inl Nw)), (q3, .inl (cI, 240, .inl S.2.2.2.2.2.2.2)), (q4, .inl (cI, 2880, .inl Sn)), (q5, .inl (cI, 4, .inl In)), (q6, .inl (cI, 500, .inl Pd)), (q7, .inl (cI, 500, .inl Rt)), (q8, .inl (cI, 10000, .inl Rw))]) hx hb hts in_X9_go_9 tyX9 tyX9_ok nmX9 hown hK hP hD hS 0 4 rfl rfl (by decide) (List.mem_of_getElem? (i := 1) rfl) rfl rfl rfl (Nat.le_of_ble_eq_true rfl) dX9_go_306 rfl (fun H_ lc_ hP hD hS => ?_)
                        refine lv_goto (tgt := 177) hx hb dX9_go_309 (by decide) ?_
                        exact ih177 (k9 + 1) (by omega) (by rw [← hinv9]; exact (bl_T (isaM_T hal) ha.1).symm) _ _ _ _ (by omega) (hg) (rfl) (by rw [wdM_s, if_neg c246]) (by rw [nuM_s, if_pos c279]) _ _ hP hD hS ls (lv_sub hl [1, 2, 3, 0] rfl)
                      · refine lv_aload_n hx hb dX9_go_282 rfl (lv_at hl 1 rfl) ?_
                        refine lv_bipush (v := 10) hx hb dX9_go_283 (by decide) ?_
                        refine lv_aload_n hx hb dX9_go_285 rfl (lv_at hl 1 rfl) ?_
                        refine g_get (C := RX9) (T := TX9) (N := 20) (ci := 9) (index := 41) hx hb hts in_X9_go_9 hown hK hP 0 7 rfl rfl (by decide) (List.mem_of_getElem? (i := 7) rfl) rfl dX9_go_286 ?_
                        refine lv_imul hx hb dX9_go_289 ?_
                        refine lv_iload hx hb dX9_go_290 (lv_at hl 4 rfl) ?_
                        refine lv_iadd hx hb dX9_go_292 ?_
                        refine lv_bipush (v := 48) hx hb dX9_go_293 (by decide) ?_
                        refine lv_isub hx hb dX9_go_295 ?_
                        refine g_put (C := RX9) (T := TX9) (N := 20) (ci := 9) (index := 41) (v := .int (((10 * (nuM Tp (goP Tp n S.1) k9)) + (Tp ((goP Tp n S.1) + k9))) - 48)) (ws' := [(mo, .inr (9, [.int th, .ref q1, .int tn, .int (nI n), .int (nI ((goP Tp n S.1) + k9)), .int (nI (goP Tp n S.1)), .int S.2.2.1, .int (((10 * (nuM Tp (goP Tp n S.1) k9)) + (Tp ((goP Tp n S.1) + k9))) - 48), .int S.2.2.2.2.1, .int S.2.2.2.2.2.1, .long (((27 * (wdM Tp (goP Tp n S.1) k9)) + ((Tp ((goP Tp n S.1) + k9)).toInt64)) - 96), .ref q2, .ref q3, .ref q4, .int sm, .ref q5, .ref q6, .ref q7, .ref q8, .int rm])), (q1, .inl (cI, 840, .inl Tp)), (q2, .inl (cI, 240, .inl Nw)), (q3, .inl (cI, 240, .inl S.2.2.2.2.2.2.2)), (q4, .inl (cI, 2880, .inl Sn)), (q5, .inl (cI, 4, .inl In)), (q6, .inl (cI, 500, .inl Pd)), (q7, .inl (cI, 500, .inl Rt)), (q8, .inl (cI, 10000, .inl Rw))]) hx hb hts in_X9_go_9 tyX9 tyX9_ok nmX9 hown hK hP hD hS 0 7 rfl rfl (by decide) (List.mem_of_getElem? (i := 7) rfl) rfl rfl rfl (Nat.le_of_ble_eq_true rfl) dX9_go_296 rfl (fun H_ lc_ hP hD hS => ?_)
                        refine lv_aload_n hx hb dX9_go_299 rfl (lv_at hl 1 rfl) ?_
                        refine lv_dup hx hb dX9_go_300 rfl ?_
                        refine g_get (C := RX9) (T := TX9) (N := 20) (ci := 9) (index := 21) hx hb hts in_X9_go_9 hown hK hP 0 4 rfl rfl (by decide) (List.mem_of_getElem? (i := 1) rfl) rfl dX9_go_301 ?_
                        refine lv_iconst (v := 1) hx hb dX9_go_304 (by decide) ?_
                        refine lv_iadd hx hb dX9_go_305 ?_
                        rw [show ((nI ((goP Tp n S.1) + k9)) + 1 : Int32) = nI ((goP Tp n S.1) + (k9 + 1)) from nI_1 _]
                        refine g_put (C := RX9) (T := TX9) (N := 20) (ci := 9) (index := 21) (v := .int (nI ((goP Tp n S.1) + (k9 + 1)))) (ws' := [(mo, .inr (9, [.int th, .ref q1, .int tn, .int (nI n), .int (nI ((goP Tp n S.1) + (k9 + 1))), .int (nI (goP Tp n S.1)), .int S.2.2.1, .int (((10 * (nuM Tp (goP Tp n S.1) k9)) + (Tp ((goP Tp n S.1) + k9))) - 48), .int S.2.2.2.2.1, .int S.2.2.2.2.2.1, .long (((27 * (wdM Tp (goP Tp n S.1) k9)) + ((Tp ((goP Tp n S.1) + k9)).toInt64)) - 96), .ref q2, .ref q3, .ref q4, .int sm, .ref q5, .ref q6, .ref q7, .ref q8, .int rm])), (q1, .inl (cI, 840, .inl Tp)), (q2, .inl (cI, 240, .inl Nw)), (q3, .inl (cI, 240, .inl S.2.2.2.2.2.2.2)), (q4, .inl (cI, 2880, .inl Sn)), (q5, .inl (cI, 4, .inl In)), (q6, .inl (cI, 500, .inl Pd)), (q7, .inl (cI, 500, .inl Rt)), (q8, .inl (cI, 10000, .inl Rw))]) hx hb hts in_X9_go_9 tyX9 tyX9_ok nmX9 hown hK hP hD hS 0 4 rfl rfl (by decide) (List.mem_of_getElem? (i := 1) rfl) rfl rfl rfl (Nat.le_of_ble_eq_true rfl) dX9_go_306 rfl (fun H_ lc_ hP hD hS => ?_)
                        refine lv_goto (tgt := 177) hx hb dX9_go_309 (by decide) ?_
                        exact ih177 (k9 + 1) (by omega) (by rw [← hinv9]; exact (bl_T (isaM_T hal) ha.1).symm) _ _ _ _ (by omega) (hg) (rfl) (by rw [wdM_s, if_neg c246]) (by rw [nuM_s, if_neg c279]) _ _ hP hD hS ls (lv_sub hl [1, 2, 3, 0] rfl)
                  refine lv_iload_n hx hb dX9_go_216 rfl (lv_at hl 4 rfl) ?_
                  refine lv_if_eq (tgt := 233) hx hb dX9_go_217 (by decide) (fun c217 => ?_) (fun c217 => ?_)
                  · refine lv_iconst (v := 0) hx hb dX9_go_233 (by decide) ?_
                    exact J234 0 (by rw [gdM_s, if_pos c217])   _ _ hP hD hS ls (lv_sub hl [1, 2, 3, 4, 0] rfl)
                  · refine lv_iload hx hb dX9_go_220 (lv_at hl 0 rfl) ?_
                    refine rd_S (As := [.int (Tp ((goP Tp n S.1) + k9))]) (rest := []) (kX9_isLetter l D cI cB (Tp ((goP Tp n S.1) + k9)) ) ⟨hx, hb, hml, hown, hts⟩ (va_cwS 1 hts gX9_go_X9_isLetter rfl rfl rfl (by decide +kernel) ⟨Nat.le_of_ble_eq_true rfl, Nat.le_of_ble_eq_true rfl⟩) hK hP [] rfl rfl rfl hl.1 (Nat.le_of_ble_eq_true rfl) dX9_go_222 ⟨Nat.le_refl _, Nat.le_refl _⟩ ?_
                    refine lv_iload_n hx hb dX9_go_225 rfl (lv_at hl 3 rfl) ?_
                    refine lv_icmp_ne (tgt := 233) hx hb dX9_go_226 (by decide) (fun c226 => ?_) (fun c226 => ?_)
                    · refine lv_iconst (v := 0) hx hb dX9_go_233 (by decide) ?_
                      exact J234 0 (by rw [gdM_s, if_neg c217, if_neg c226])   _ _ hP hD hS ls (lv_sub hl [1, 2, 3, 4, 0] rfl)
                    · refine lv_iconst (v := 1) hx hb dX9_go_229 (by decide) ?_
                      refine lv_goto (tgt := 234) hx hb dX9_go_230 (by decide) ?_
                      exact J234 1 (by rw [gdM_s, if_neg c217, if_pos c226])   _ _ hP hD hS ls (lv_sub hl [1, 2, 3, 4, 0] rfl)
                · refine lv_aload_n hx hb dX9_go_191 rfl (lv_at hl 0 rfl) ?_
                  refine lv_aload_n hx hb dX9_go_192 rfl (lv_at hl 0 rfl) ?_
                  refine g_get (C := RX9) (T := TX9) (N := 20) (ci := 9) (index := 21) hx hb hts in_X9_go_9 hown hK hP 0 4 rfl rfl (by decide) (List.mem_of_getElem? (i := 1) rfl) rfl dX9_go_193 ?_
                  refine rd_V (As := [.int (nI ((goP Tp n S.1) + k9))]) (rest := []) (ci := 9) (kX9_tapeAt l D cI cB mo q1 q2 q3 q4 q5 q6 q7 q8 th tn (nI ((goP Tp n S.1) + k9)) (nI (goP Tp n S.1)) S.2.2.1 (nuM Tp (goP Tp n S.1) k9) S.2.2.2.2.1 S.2.2.2.2.2.1 (wdM Tp (goP Tp n S.1) k9) sm rm Tp Nw S.2.2.2.2.2.2.2 Sn In Pd Rt Rw n ((goP Tp n S.1) + k9) (by first | assumption | omega) (by omega)) ⟨hx, hb, hml, hown, hts⟩ (cwV 1 hts gX9_go_X9_tapeAt rfl rfl rfl (by decide +kernel) ⟨Nat.le_of_ble_eq_true rfl, Nat.le_of_ble_eq_true rfl⟩) hK hP [0, 1, 2, 3, 4, 5, 6, 7, 8] rfl 0 rfl rfl rfl rfl hl.1 (Nat.le_of_ble_eq_true rfl) dX9_go_196 ⟨Nat.le_refl _, Nat.le_refl _⟩ ?_
                  refine rd_S (As := [.int (tpA Tp n ((goP Tp n S.1) + k9))]) (rest := []) (kX9_isDigit l D cI cB (tpA Tp n ((goP Tp n S.1) + k9)) ) ⟨hx, hb, hml, hown, hts⟩ (va_cwS 1 hts gX9_go_X9_isDigit rfl rfl rfl (by decide +kernel) ⟨Nat.le_of_ble_eq_true rfl, Nat.le_of_ble_eq_true rfl⟩) hK hP [] rfl rfl rfl hl.1 (Nat.le_of_ble_eq_true rfl) dX9_go_199 ⟨Nat.le_refl _, Nat.le_refl _⟩ ?_
                  refine lv_if_eq (tgt := 312) hx hb dX9_go_202 (by decide) (fun c202 => ?_) (fun c202 => ?_)
                  · have hE : (goP Tp n S.1) + k9 = goE Tp n (goP Tp n S.1) := by rw [← hinv9]; exact (bl_F (isaM_F c188 c202)).symm
                    have hk : k9 = goE Tp n (goP Tp n S.1) - (goP Tp n S.1) := by omega
                    refine lv_aload_n hx hb dX9_go_312 rfl (lv_at hl 0 rfl) ?_
                    refine lv_iload_n hx hb dX9_go_313 rfl (lv_at hl 3 rfl) ?_
                    refine lv_if_eq (tgt := 334) hx hb dX9_go_314 (by decide) (fun c314 => ?_) (fun c314 => ?_)
                    · refine lv_iconst (v := 1) hx hb dX9_go_334 (by decide) ?_
                      refine lv_goto (tgt := 347) hx hb dX9_go_335 (by decide) ?_
                      refine g_put (C := RX9) (T := TX9) (N := 20) (ci := 9) (index := 27) (v := .int 1) (ws' := [(mo, .inr (9, [.int th, .ref q1, .int tn, .int (nI n), .int (nI ((goP Tp n S.1) + k9)), .int (nI (goP Tp n S.1)), .int 1, .int (nuM Tp (goP Tp n S.1) k9), .int S.2.2.2.2.1, .int S.2.2.2.2.2.1, .long (wdM Tp (goP Tp n S.1) k9), .ref q2, .ref q3, .ref q4, .int sm, .ref q5, .ref q6, .ref q7, .ref q8, .int rm])), (q1, .inl (cI, 840, .inl Tp)), (q2, .inl (cI, 240, .inl Nw)), (q3, .inl (cI, 240, .inl S.2.2.2.2.2.2.2)), (q4, .inl (cI, 2880, .inl Sn)), (q5, .inl (cI, 4, .inl In)), (q6, .inl (cI, 500, .inl Pd)), (q7, .inl (cI, 500, .inl Rt)), (q8, .inl (cI, 10000, .inl Rw))]) hx hb hts in_X9_go_9 tyX9 tyX9_ok nmX9 hown hK hP hD hS 0 6 rfl rfl (by decide) (List.mem_of_getElem? (i := 5) rfl) rfl rfl rfl (Nat.le_of_ble_eq_true rfl) dX9_go_347 rfl (fun H_ lc_ hP hD hS => ?_)
                      exact hret _ _ _ ls hS (by unfold goM; rw [if_neg hA, if_neg hB, if_neg (fun z => by first | exact c124 z.1 | exact c131 z.2)]; rw [← hk, ← hE]; unfold soM; rw [if_pos c314]; exact hP) dX9_go_350
                    · refine lv_iload_n hx hb dX9_go_317 rfl (lv_at hl 2 rfl) ?_
                      refine lv_if_ne (tgt := 338) hx hb dX9_go_318 (by decide) (fun c318 => ?_) (fun c318 => ?_)
                      · refine lv_iload_n hx hb dX9_go_338 rfl (lv_at hl 2 rfl) ?_
                        refine lv_if_eq (tgt := 346) hx hb dX9_go_339 (by decide) (fun c339 => absurd c339 (c318)) (fun c339 => ?_)
                        refine lv_iconst (v := 2) hx hb dX9_go_342 (by decide) ?_
                        refine lv_goto (tgt := 347) hx hb dX9_go_343 (by decide) ?_
                        refine g_put (C := RX9) (T := TX9) (N := 20) (ci := 9) (index := 27) (v := .int 2) (ws' := [(mo, .inr (9, [.int th, .ref q1, .int tn, .int (nI n), .int (nI ((goP Tp n S.1) + k9)), .int (nI (goP Tp n S.1)), .int 2, .int (nuM Tp (goP Tp n S.1) k9), .int S.2.2.2.2.1, .int S.2.2.2.2.2.1, .long (wdM Tp (goP Tp n S.1) k9), .ref q2, .ref q3, .ref q4, .int sm, .ref q5, .ref q6, .ref q7, .ref q8, .int rm])), (q1, .inl (cI, 840, .inl Tp)), (q2, .inl (cI, 240, .inl Nw)), (q3, .inl (cI, 240, .inl S.2.2.2.2.2.2.2)), (q4, .inl (cI, 2880, .inl Sn)), (q5, .inl (cI, 4, .inl In)), (q6, .inl (cI, 500, .inl Pd)), (q7, .inl (cI, 500, .inl Rt)), (q8, .inl (cI, 10000, .inl Rw))]) hx hb hts in_X9_go_9 tyX9 tyX9_ok nmX9 hown hK hP hD hS 0 6 rfl rfl (by decide) (List.mem_of_getElem? (i := 5) rfl) rfl rfl rfl (Nat.le_of_ble_eq_true rfl) dX9_go_347 rfl (fun H_ lc_ hP hD hS => ?_)
                        exact hret _ _ _ ls hS (by unfold goM; rw [if_neg hA, if_neg hB, if_neg (fun z => by first | exact c124 z.1 | exact c131 z.2)]; rw [← hk, ← hE]; unfold soM; rw [if_neg c314, if_neg c318]; exact hP) dX9_go_350
                      · refine lv_aload_n hx hb dX9_go_321 rfl (lv_at hl 0 rfl) ?_
                        refine g_get (C := RX9) (T := TX9) (N := 20) (ci := 9) (index := 21) hx hb hts in_X9_go_9 hown hK hP 0 4 rfl rfl (by decide) (List.mem_of_getElem? (i := 1) rfl) rfl dX9_go_322 ?_
                        refine lv_aload_n hx hb dX9_go_325 rfl (lv_at hl 0 rfl) ?_
                        refine g_get (C := RX9) (T := TX9) (N := 20) (ci := 9) (index := 24) hx hb hts in_X9_go_9 hown hK hP 0 5 rfl rfl (by decide) (List.mem_of_getElem? (i := 4) rfl) rfl dX9_go_326 ?_
                        refine lv_isub hx hb dX9_go_329 ?_
                        rw [show ((nI ((goP Tp n S.1) + k9)) - (nI (goP Tp n S.1)) : Int32) = nI k9 from by rw [pk_sub (by omega), show (goP Tp n S.1) + k9 - (goP Tp n S.1) = k9 by omega]]
                        refine lv_iconst (v := 5) hx hb dX9_go_330 (by decide) ?_
                        refine lv_icmp_le (tgt := 338) hx hb dX9_go_331 (by decide) (fun c331 => ?_) (fun c331 => ?_)
                        · refine lv_iload_n hx hb dX9_go_338 rfl (lv_at hl 2 rfl) ?_
                          refine lv_if_eq (tgt := 346) hx hb dX9_go_339 (by decide) (fun c339 => ?_) (fun c339 => absurd (c318) c339)
                          refine lv_iconst (v := 3) hx hb dX9_go_346 (by decide) ?_
                          refine g_put (C := RX9) (T := TX9) (N := 20) (ci := 9) (index := 27) (v := .int 3) (ws' := [(mo, .inr (9, [.int th, .ref q1, .int tn, .int (nI n), .int (nI ((goP Tp n S.1) + k9)), .int (nI (goP Tp n S.1)), .int 3, .int (nuM Tp (goP Tp n S.1) k9), .int S.2.2.2.2.1, .int S.2.2.2.2.2.1, .long (wdM Tp (goP Tp n S.1) k9), .ref q2, .ref q3, .ref q4, .int sm, .ref q5, .ref q6, .ref q7, .ref q8, .int rm])), (q1, .inl (cI, 840, .inl Tp)), (q2, .inl (cI, 240, .inl Nw)), (q3, .inl (cI, 240, .inl S.2.2.2.2.2.2.2)), (q4, .inl (cI, 2880, .inl Sn)), (q5, .inl (cI, 4, .inl In)), (q6, .inl (cI, 500, .inl Pd)), (q7, .inl (cI, 500, .inl Rt)), (q8, .inl (cI, 10000, .inl Rw))]) hx hb hts in_X9_go_9 tyX9 tyX9_ok nmX9 hown hK hP hD hS 0 6 rfl rfl (by decide) (List.mem_of_getElem? (i := 5) rfl) rfl rfl rfl (Nat.le_of_ble_eq_true rfl) dX9_go_347 rfl (fun H_ lc_ hP hD hS => ?_)
                          exact hret _ _ _ ls hS (by unfold goM; rw [if_neg hA, if_neg hB, if_neg (fun z => by first | exact c124 z.1 | exact c131 z.2)]; rw [← hk, ← hE]; unfold soM; rw [if_neg c314, if_pos c318, if_pos c331]; exact hP) dX9_go_350
                        · refine lv_iconst (v := 1) hx hb dX9_go_334 (by decide) ?_
                          refine lv_goto (tgt := 347) hx hb dX9_go_335 (by decide) ?_
                          refine g_put (C := RX9) (T := TX9) (N := 20) (ci := 9) (index := 27) (v := .int 1) (ws' := [(mo, .inr (9, [.int th, .ref q1, .int tn, .int (nI n), .int (nI ((goP Tp n S.1) + k9)), .int (nI (goP Tp n S.1)), .int 1, .int (nuM Tp (goP Tp n S.1) k9), .int S.2.2.2.2.1, .int S.2.2.2.2.2.1, .long (wdM Tp (goP Tp n S.1) k9), .ref q2, .ref q3, .ref q4, .int sm, .ref q5, .ref q6, .ref q7, .ref q8, .int rm])), (q1, .inl (cI, 840, .inl Tp)), (q2, .inl (cI, 240, .inl Nw)), (q3, .inl (cI, 240, .inl S.2.2.2.2.2.2.2)), (q4, .inl (cI, 2880, .inl Sn)), (q5, .inl (cI, 4, .inl In)), (q6, .inl (cI, 500, .inl Pd)), (q7, .inl (cI, 500, .inl Rt)), (q8, .inl (cI, 10000, .inl Rw))]) hx hb hts in_X9_go_9 tyX9 tyX9_ok nmX9 hown hK hP hD hS 0 6 rfl rfl (by decide) (List.mem_of_getElem? (i := 5) rfl) rfl rfl rfl (Nat.le_of_ble_eq_true rfl) dX9_go_347 rfl (fun H_ lc_ hP hD hS => ?_)
                          exact hret _ _ _ ls hS (by unfold goM; rw [if_neg hA, if_neg hB, if_neg (fun z => by first | exact c124 z.1 | exact c131 z.2)]; rw [← hk, ← hE]; unfold soM; rw [if_neg c314, if_pos c318, if_neg c331]; exact hP) dX9_go_350
                  · have hal : ¬ isInM (tpA Tp n ((goP Tp n S.1) + k9)) 97 122 = 0 ∨ ¬ isInM (tpA Tp n ((goP Tp n S.1) + k9)) 48 57 = 0 := by first | exact Or.inl c188 | exact Or.inr c202
                    have ha := isaM_lt hn (by omega) hal
                    refine lv_aload_n hx hb dX9_go_205 rfl (lv_at hl 0 rfl) ?_
                    refine g_get (C := RX9) (T := TX9) (N := 20) (ci := 9) (index := 7) hx hb hts in_X9_go_9 hown hK hP 0 1 rfl rfl (by decide) (List.mem_of_getElem? (i := 3) rfl) rfl dX9_go_206 ?_
                    refine lv_aload_n hx hb dX9_go_209 rfl (lv_at hl 0 rfl) ?_
                    refine g_get (C := RX9) (T := TX9) (N := 20) (ci := 9) (index := 21) hx hb hts in_X9_go_9 hown hK hP 0 4 rfl rfl (by decide) (List.mem_of_getElem? (i := 1) rfl) rfl dX9_go_210 ?_
                    refine g_iald hx hb hK hP 1 0 rfl rfl ((goP Tp n S.1) + k9) (rfl) (by omega) (by omega) dX9_go_213 ?_
                    refine lv_istore (lv' := [(4, .int (Tp ((goP Tp n S.1) + k9))), (0, .ref mo), (1, .int (Tp (goP Tp n S.1))), (2, .int (isInM (Tp (goP Tp n S.1)) 97 122)), (3, .int (gdM Tp (goP Tp n S.1) (isInM (Tp (goP Tp n S.1)) 97 122) k9))]) hx hb dX9_go_214 hl (by decide) rfl (fun ls hl => ?_)
                    have J234 : ∀ (g9 : Int32) (hg : g9 = gdM Tp (goP Tp n S.1) (isInM (Tp (goP Tp n S.1)) 97 122) (k9 + 1)) , ∀ (H_ : Heap) (lc_ : List Loc), va_P D vwCl [(mo, .inr (9, [.int th, .ref q1, .int tn, .int (nI n), .int (nI ((goP Tp n S.1) + k9)), .int (nI (goP Tp n S.1)), .int S.2.2.1, .int (nuM Tp (goP Tp n S.1) k9), .int S.2.2.2.2.1, .int S.2.2.2.2.2.1, .long (wdM Tp (goP Tp n S.1) k9), .ref q2, .ref q3, .ref q4, .int sm, .ref q5, .ref q6, .ref q7, .ref q8, .int rm])), (q1, .inl (cI, 840, .inl Tp)), (q2, .inl (cI, 240, .inl Nw)), (q3, .inl (cI, 240, .inl S.2.2.2.2.2.2.2)), (q4, .inl (cI, 2880, .inl Sn)), (q5, .inl (cI, 4, .inl In)), (q6, .inl (cI, 500, .inl Pd)), (q7, .inl (cI, 500, .inl Rt)), (q8, .inl (cI, 10000, .inl Rw))] H_ → va_D A_ [(mo, .inr (9, [.int th, .ref q1, .int tn, .int (nI n), .int (nI ((goP Tp n S.1) + k9)), .int (nI (goP Tp n S.1)), .int S.2.2.1, .int (nuM Tp (goP Tp n S.1) k9), .int S.2.2.2.2.1, .int S.2.2.2.2.2.1, .long (wdM Tp (goP Tp n S.1) k9), .ref q2, .ref q3, .ref q4, .int sm, .ref q5, .ref q6, .ref q7, .ref q8, .int rm])), (q1, .inl (cI, 840, .inl Tp)), (q2, .inl (cI, 240, .inl Nw)), (q3, .inl (cI, 240, .inl S.2.2.2.2.2.2.2)), (q4, .inl (cI, 2880, .inl Sn)), (q5, .inl (cI, 4, .inl In)), (q6, .inl (cI, 500, .inl Pd)), (q7, .inl (cI, 500, .inl Rt)), (q8, .inl (cI, 10000, .inl Rw))] → va_S A_ s_.heap H_ lc_ → ∀ (ls : Array Slot), lv_has ls 5 [(0, .ref mo), (1, .int (Tp (goP Tp n S.1))), (2, .int (isInM (Tp (goP Tp n S.1)) 97 122)), (3, .int (gdM Tp (goP Tp n S.1) (isInM (Tp (goP Tp n S.1)) 97 122) k9)), (4, .int (Tp ((goP Tp n S.1) + k9)))] → W p_ l e_ (RM 1 21) s_ m_ ar_ be_ me_ co_ H_ lc_ 0 0 Q_ (F0 m_ 234 ls [.int g9]) := by
                      intro g9 hg  H_ lc_ hP hD hS ls hl
                      refine lv_istore_n (lv' := [(3, .int g9), (0, .ref mo), (1, .int (Tp (goP Tp n S.1))), (2, .int (isInM (Tp (goP Tp n S.1)) 97 122)), (4, .int (Tp ((goP Tp n S.1) + k9)))]) hx hb dX9_go_234 rfl hl (by decide) rfl (fun ls hl => ?_)
                      refine lv_aload_n hx hb dX9_go_235 rfl (lv_at hl 1 rfl) ?_
                      refine g_get (C := RX9) (T := TX9) (N := 20) (ci := 9) (index := 21) hx hb hts in_X9_go_9 hown hK hP 0 4 rfl rfl (by decide) (List.mem_of_getElem? (i := 1) rfl) rfl dX9_go_236 ?_
                      refine lv_aload_n hx hb dX9_go_239 rfl (lv_at hl 1 rfl) ?_
                      refine g_get (C := RX9) (T := TX9) (N := 20) (ci := 9) (index := 24) hx hb hts in_X9_go_9 hown hK hP 0 5 rfl rfl (by decide) (List.mem_of_getElem? (i := 4) rfl) rfl dX9_go_240 ?_
                      refine lv_isub hx hb dX9_go_243 ?_
                      rw [show ((nI ((goP Tp n S.1) + k9)) - (nI (goP Tp n S.1)) : Int32) = nI k9 from by rw [pk_sub (by omega), show (goP Tp n S.1) + k9 - (goP Tp n S.1) = k9 by omega]]
                      refine lv_bipush (v := 7) hx hb dX9_go_244 (by decide) ?_
                      refine lv_icmp_ge (tgt := 269) hx hb dX9_go_246 (by decide) (fun c246 => ?_) (fun c246 => ?_)
                      · refine lv_aload_n hx hb dX9_go_269 rfl (lv_at hl 1 rfl) ?_
                        refine g_get (C := RX9) (T := TX9) (N := 20) (ci := 9) (index := 21) hx hb hts in_X9_go_9 hown hK hP 0 4 rfl rfl (by decide) (List.mem_of_getElem? (i := 1) rfl) rfl dX9_go_270 ?_
                        refine lv_aload_n hx hb dX9_go_273 rfl (lv_at hl 1 rfl) ?_
                        refine g_get (C := RX9) (T := TX9) (N := 20) (ci := 9) (index := 24) hx hb hts in_X9_go_9 hown hK hP 0 5 rfl rfl (by decide) (List.mem_of_getElem? (i := 4) rfl) rfl dX9_go_274 ?_
                        refine lv_isub hx hb dX9_go_277 ?_
                        rw [show ((nI ((goP Tp n S.1) + k9)) - (nI (goP Tp n S.1)) : Int32) = nI k9 from by rw [pk_sub (by omega), show (goP Tp n S.1) + k9 - (goP Tp n S.1) = k9 by omega]]
                        refine lv_iconst (v := 5) hx hb dX9_go_278 (by decide) ?_
                        refine lv_icmp_ge (tgt := 299) hx hb dX9_go_279 (by decide) (fun c279 => ?_) (fun c279 => ?_)
                        · refine lv_aload_n hx hb dX9_go_299 rfl (lv_at hl 1 rfl) ?_
                          refine lv_dup hx hb dX9_go_300 rfl ?_
                          refine g_get (C := RX9) (T := TX9) (N := 20) (ci := 9) (index := 21) hx hb hts in_X9_go_9 hown hK hP 0 4 rfl rfl (by decide) (List.mem_of_getElem? (i := 1) rfl) rfl dX9_go_301 ?_
                          refine lv_iconst (v := 1) hx hb dX9_go_304 (by decide) ?_
                          refine lv_iadd hx hb dX9_go_305 ?_
                          rw [show ((nI ((goP Tp n S.1) + k9)) + 1 : Int32) = nI ((goP Tp n S.1) + (k9 + 1)) from nI_1 _]
                          refine g_put (C := RX9) (T := TX9) (N := 20) (ci := 9) (index := 21) (v := .int (nI ((goP Tp n S.1) + (k9 + 1)))) (ws' := [(mo, .inr (9, [.int th, .ref q1, .int tn, .int (nI n), .int (nI ((goP Tp n S.1) + (k9 + 1))), .int (nI (goP Tp n S.1)), .int S.2.2.1, .int (nuM Tp (goP Tp n S.1) k9), .int S.2.2.2.2.1, .int S.2.2.2.2.2.1, .long (wdM Tp (goP Tp n S.1) k9), .ref q2, .ref q3, .ref q4, .int sm, .ref q5, .ref q6, .ref q7, .ref q8, .int rm])), (q1, .inl (cI, 840, .inl Tp)), (q2, .inl (cI, 240, .inl Nw)), (q3, .inl (cI, 240, .inl S.2.2.2.2.2.2.2)), (q4, .inl (cI, 2880, .inl Sn)), (q5, .inl (cI, 4, .inl In)), (q6, .inl (cI, 500, .inl Pd)), (q7, .inl (cI, 500, .inl Rt)), (q8, .inl (cI, 10000, .inl Rw))]) hx hb hts in_X9_go_9 tyX9 tyX9_ok nmX9 hown hK hP hD hS 0 4 rfl rfl (by decide) (List.mem_of_getElem? (i := 1) rfl) rfl rfl rfl (Nat.le_of_ble_eq_true rfl) dX9_go_306 rfl (fun H_ lc_ hP hD hS => ?_)
                          refine lv_goto (tgt := 177) hx hb dX9_go_309 (by decide) ?_
                          exact ih177 (k9 + 1) (by omega) (by rw [← hinv9]; exact (bl_T (isaM_T hal) ha.1).symm) _ _ _ _ (by omega) (hg) (rfl) (by rw [wdM_s, if_pos c246]) (by rw [nuM_s, if_pos c279]) _ _ hP hD hS ls (lv_sub hl [1, 2, 3, 0] rfl)
                        · refine lv_aload_n hx hb dX9_go_282 rfl (lv_at hl 1 rfl) ?_
                          refine lv_bipush (v := 10) hx hb dX9_go_283 (by decide) ?_
                          refine lv_aload_n hx hb dX9_go_285 rfl (lv_at hl 1 rfl) ?_
                          refine g_get (C := RX9) (T := TX9) (N := 20) (ci := 9) (index := 41) hx hb hts in_X9_go_9 hown hK hP 0 7 rfl rfl (by decide) (List.mem_of_getElem? (i := 7) rfl) rfl dX9_go_286 ?_
                          refine lv_imul hx hb dX9_go_289 ?_
                          refine lv_iload hx hb dX9_go_290 (lv_at hl 4 rfl) ?_
                          refine lv_iadd hx hb dX9_go_292 ?_
                          refine lv_bipush (v := 48) hx hb dX9_go_293 (by decide) ?_
                          refine lv_isub hx hb dX9_go_295 ?_
                          refine g_put (C := RX9) (T := TX9) (N := 20) (ci := 9) (index := 41) (v := .int (((10 * (nuM Tp (goP Tp n S.1) k9)) + (Tp ((goP Tp n S.1) + k9))) - 48)) (ws' := [(mo, .inr (9, [.int th, .ref q1, .int tn, .int (nI n), .int (nI ((goP Tp n S.1) + k9)), .int (nI (goP Tp n S.1)), .int S.2.2.1, .int (((10 * (nuM Tp (goP Tp n S.1) k9)) + (Tp ((goP Tp n S.1) + k9))) - 48), .int S.2.2.2.2.1, .int S.2.2.2.2.2.1, .long (wdM Tp (goP Tp n S.1) k9), .ref q2, .ref q3, .ref q4, .int sm, .ref q5, .ref q6, .ref q7, .ref q8, .int rm])), (q1, .inl (cI, 840, .inl Tp)), (q2, .inl (cI, 240, .inl Nw)), (q3, .inl (cI, 240, .inl S.2.2.2.2.2.2.2)), (q4, .inl (cI, 2880, .inl Sn)), (q5, .inl (cI, 4, .inl In)), (q6, .inl (cI, 500, .inl Pd)), (q7, .inl (cI, 500, .inl Rt)), (q8, .inl (cI, 10000, .inl Rw))]) hx hb hts in_X9_go_9 tyX9 tyX9_ok nmX9 hown hK hP hD hS 0 7 rfl rfl (by decide) (List.mem_of_getElem? (i := 7) rfl) rfl rfl rfl (Nat.le_of_ble_eq_true rfl) dX9_go_296 rfl (fun H_ lc_ hP hD hS => ?_)
                          refine lv_aload_n hx hb dX9_go_299 rfl (lv_at hl 1 rfl) ?_
                          refine lv_dup hx hb dX9_go_300 rfl ?_
                          refine g_get (C := RX9) (T := TX9) (N := 20) (ci := 9) (index := 21) hx hb hts in_X9_go_9 hown hK hP 0 4 rfl rfl (by decide) (List.mem_of_getElem? (i := 1) rfl) rfl dX9_go_301 ?_
                          refine lv_iconst (v := 1) hx hb dX9_go_304 (by decide) ?_
                          refine lv_iadd hx hb dX9_go_305 ?_
                          rw [show ((nI ((goP Tp n S.1) + k9)) + 1 : Int32) = nI ((goP Tp n S.1) + (k9 + 1)) from nI_1 _]
                          refine g_put (C := RX9) (T := TX9) (N := 20) (ci := 9) (index := 21) (v := .int (nI ((goP Tp n S.1) + (k9 + 1)))) (ws' := [(mo, .inr (9, [.int th, .ref q1, .int tn, .int (nI n), .int (nI ((goP Tp n S.1) + (k9 + 1))), .int (nI (goP Tp n S.1)), .int S.2.2.1, .int (((10 * (nuM Tp (goP Tp n S.1) k9)) + (Tp ((goP Tp n S.1) + k9))) - 48), .int S.2.2.2.2.1, .int S.2.2.2.2.2.1, .long (wdM Tp (goP Tp n S.1) k9), .ref q2, .ref q3, .ref q4, .int sm, .ref q5, .ref q6, .ref q7, .ref q8, .int rm])), (q1, .inl (cI, 840, .inl Tp)), (q2, .inl (cI, 240, .inl Nw)), (q3, .inl (cI, 240, .inl S.2.2.2.2.2.2.2)), (q4, .inl (cI, 2880, .inl Sn)), (q5, .inl (cI, 4, .inl In)), (q6, .inl (cI, 500, .inl Pd)), (q7, .inl (cI, 500, .inl Rt)), (q8, .inl (cI, 10000, .inl Rw))]) hx hb hts in_X9_go_9 tyX9 tyX9_ok nmX9 hown hK hP hD hS 0 4 rfl rfl (by decide) (List.mem_of_getElem? (i := 1) rfl) rfl rfl rfl (Nat.le_of_ble_eq_true rfl) dX9_go_306 rfl (fun H_ lc_ hP hD hS => ?_)
                          refine lv_goto (tgt := 177) hx hb dX9_go_309 (by decide) ?_
                          exact ih177 (k9 + 1) (by omega) (by rw [← hinv9]; exact (bl_T (isaM_T hal) ha.1).symm) _ _ _ _ (by omega) (hg) (rfl) (by rw [wdM_s, if_pos c246]) (by rw [nuM_s, if_neg c279]) _ _ hP hD hS ls (lv_sub hl [1, 2, 3, 0] rfl)
                      · refine lv_aload_n hx hb dX9_go_249 rfl (lv_at hl 1 rfl) ?_
                        refine lv_ldc2 (v := 27) hx hb hown (hts (.constantLong RX9 48 (27)) (List.mem_of_getElem? (i := 8) rfl)) dX9_go_250 ?_
                        refine lv_aload_n hx hb dX9_go_253 rfl (lv_at hl 1 rfl) ?_
                        refine g_get (C := RX9) (T := TX9) (N := 20) (ci := 9) (index := 37) hx hb hts in_X9_go_9 hown hK hP 0 10 rfl rfl (by decide) (List.mem_of_getElem? (i := 6) rfl) rfl dX9_go_254 ?_
                        refine lv_lmul hx hb dX9_go_257 ?_
                        refine lv_iload hx hb dX9_go_258 (lv_at hl 4 rfl) ?_
                        refine lv_i2l (v := (Tp ((goP Tp n S.1) + k9)).toInt64) hx hb dX9_go_260 rfl ?_
                        refine lv_ladd hx hb dX9_go_261 ?_
                        refine lv_ldc2 (v := 96) hx hb hown (hts (.constantLong RX9 50 (96)) (List.mem_of_getElem? (i := 9) rfl)) dX9_go_262 ?_
                        refine lv_lsub hx hb dX9_go_265 ?_
                        refine g_put (C := RX9) (T := TX9) (N := 20) (ci := 9) (index := 37) (v := .long (((27 * (wdM Tp (goP Tp n S.1) k9)) + ((Tp ((goP Tp n S.1) + k9)).toInt64)) - 96)) (ws' := [(mo, .inr (9, [.int th, .ref q1, .int tn, .int (nI n), .int (nI ((goP Tp n S.1) + k9)), .int (nI (goP Tp n S.1)), .int S.2.2.1, .int (nuM Tp (goP Tp n S.1) k9), .int S.2.2.2.2.1, .int S.2.2.2.2.2.1, .long (((27 * (wdM Tp (goP Tp n S.1) k9)) + ((Tp ((goP Tp n S.1) + k9)).toInt64)) - 96), .ref q2, .ref q3, .ref q4, .int sm, .ref q5, .ref q6, .ref q7, .ref q8, .int rm])), (q1, .inl (cI, 840, .inl Tp)), (q2, .inl (cI, 240, .inl Nw)), (q3, .inl (cI, 240, .inl S.2.2.2.2.2.2.2)), (q4, .inl (cI, 2880, .inl Sn)), (q5, .inl (cI, 4, .inl In)), (q6, .inl (cI, 500, .inl Pd)), (q7, .inl (cI, 500, .inl Rt)), (q8, .inl (cI, 10000, .inl Rw))]) hx hb hts in_X9_go_9 tyX9 tyX9_ok nmX9 hown hK hP hD hS 0 10 rfl rfl (by decide) (List.mem_of_getElem? (i := 6) rfl) rfl rfl rfl (Nat.le_of_ble_eq_true rfl) dX9_go_266 rfl (fun H_ lc_ hP hD hS => ?_)
                        refine lv_aload_n hx hb dX9_go_269 rfl (lv_at hl 1 rfl) ?_
                        refine g_get (C := RX9) (T := TX9) (N := 20) (ci := 9) (index := 21) hx hb hts in_X9_go_9 hown hK hP 0 4 rfl rfl (by decide) (List.mem_of_getElem? (i := 1) rfl) rfl dX9_go_270 ?_
                        refine lv_aload_n hx hb dX9_go_273 rfl (lv_at hl 1 rfl) ?_
                        refine g_get (C := RX9) (T := TX9) (N := 20) (ci := 9) (index := 24) hx hb hts in_X9_go_9 hown hK hP 0 5 rfl rfl (by decide) (List.mem_of_getElem? (i := 4) rfl) rfl dX9_go_274 ?_
                        refine lv_isub hx hb dX9_go_277 ?_
                        rw [show ((nI ((goP Tp n S.1) + k9)) - (nI (goP Tp n S.1)) : Int32) = nI k9 from by rw [pk_sub (by omega), show (goP Tp n S.1) + k9 - (goP Tp n S.1) = k9 by omega]]
                        refine lv_iconst (v := 5) hx hb dX9_go_278 (by decide) ?_
                        refine lv_icmp_ge (tgt := 299) hx hb dX9_go_279 (by decide) (fun c279 => ?_) (fun c279 => ?_)
                        · refine lv_aload_n hx hb dX9_go_299 rfl (lv_at hl 1 rfl) ?_
                          refine lv_dup hx hb dX9_go_300 rfl ?_
                          refine g_get (C := RX9) (T := TX9) (N := 20) (ci := 9) (index := 21) hx hb hts in_X9_go_9 hown hK hP 0 4 rfl rfl (by decide) (List.mem_of_getElem? (i := 1) rfl) rfl dX9_go_301 ?_
                          refine lv_iconst (v := 1) hx hb dX9_go_304 (by decide) ?_
                          refine lv_iadd hx hb dX9_go_305 ?_
                          rw [show ((nI ((goP Tp n S.1) + k9)) + 1 : Int32) = nI ((goP Tp n S.1) + (k9 + 1)) from nI_1 _]
                          refine g_put (C := RX9) (T := TX9) (N := 20) (ci := 9) (index := 21) (v := .int (nI ((goP Tp n S.1) + (k9 + 1)))) (ws' := [(mo, .inr (9, [.int th, .ref q1, .int tn, .int (nI n), .int (nI ((goP Tp n S.1) + (k9 + 1))), .int (nI (goP Tp n S.1)), .int S.2.2.1, .int (nuM Tp (goP Tp n S.1) k9), .int S.2.2.2.2.1, .int S.2.2.2.2.2.1, .long (((27 * (wdM Tp (goP Tp n S.1) k9)) + ((Tp ((goP Tp n S.1) + k9)).toInt64)) - 96), .ref q2, .ref q3, .ref q4, .int sm, .ref q5, .ref q6, .ref q7, .ref q8, .int rm])), (q1, .inl (cI, 840, .inl Tp)), (q2, .inl (cI, 240, .inl Nw)), (q3, .inl (cI, 240, .inl S.2.2.2.2.2.2.2)), (q4, .inl (cI, 2880, .inl Sn)), (q5, .inl (cI, 4, .inl In)), (q6, .inl (cI, 500, .inl Pd)), (q7, .inl (cI, 500, .inl Rt)), (q8, .inl (cI, 10000, .inl Rw))]) hx hb hts in_X9_go_9 tyX9 tyX9_ok nmX9 hown hK hP hD hS 0 4 rfl rfl (by decide) (List.mem_of_getElem? (i := 1) rfl) rfl rfl rfl (Nat.le_of_ble_eq_true rfl) dX9_go_306 rfl (fun H_ lc_ hP hD hS => ?_)
                          refine lv_goto (tgt := 177) hx hb dX9_go_309 (by decide) ?_
                          exact ih177 (k9 + 1) (by omega) (by rw [← hinv9]; exact (bl_T (isaM_T hal) ha.1).symm) _ _ _ _ (by omega) (hg) (rfl) (by rw [wdM_s, if_neg c246]) (by rw [nuM_s, if_pos c279]) _ _ hP hD hS ls (lv_sub hl [1, 2, 3, 0] rfl)
                        · refine lv_aload_n hx hb dX9_go_282 rfl (lv_at hl 1 rfl) ?_
                          refine lv_bipush (v := 10) hx hb dX9_go_283 (by decide) ?_
                          refine lv_aload_n hx hb dX9_go_285 rfl (lv_at hl 1 rfl) ?_
                          refine g_get (C := RX9) (T := TX9) (N := 20) (ci := 9) (index := 41) hx hb hts in_X9_go_9 hown hK hP 0 7 rfl rfl (by decide) (List.mem_of_getElem? (i := 7) rfl) rfl dX9_go_286 ?_
                          refine lv_imul hx hb dX9_go_289 ?_
                          refine lv_iload hx hb dX9_go_290 (lv_at hl 4 rfl) ?_
                          refine lv_iadd hx hb dX9_go_292 ?_
                          refine lv_bipush (v := 48) hx hb dX9_go_293 (by decide) ?_
                          refine lv_isub hx hb dX9_go_295 ?_
                          refine g_put (C := RX9) (T := TX9) (N := 20) (ci := 9) (index := 41) (v := .int (((10 * (nuM Tp (goP Tp n S.1) k9)) + (Tp ((goP Tp n S.1) + k9))) - 48)) (ws' := [(mo, .inr (9, [.int th, .ref q1, .int tn, .int (nI n), .int (nI ((goP Tp n S.1) + k9)), .int (nI (goP Tp n S.1)), .int S.2.2.1, .int (((10 * (nuM Tp (goP Tp n S.1) k9)) + (Tp ((goP Tp n S.1) + k9))) - 48), .int S.2.2.2.2.1, .int S.2.2.2.2.2.1, .long (((27 * (wdM Tp (goP Tp n S.1) k9)) + ((Tp ((goP Tp n S.1) + k9)).toInt64)) - 96), .ref q2, .ref q3, .ref q4, .int sm, .ref q5, .ref q6, .ref q7, .ref q8, .int rm])), (q1, .inl (cI, 840, .inl Tp)), (q2, .inl (cI, 240, .inl Nw)), (q3, .inl (cI, 240, .inl S.2.2.2.2.2.2.2)), (q4, .inl (cI, 2880, .inl Sn)), (q5, .inl (cI, 4, .inl In)), (q6, .inl (cI, 500, .inl Pd)), (q7, .inl (cI, 500, .inl Rt)), (q8, .inl (cI, 10000, .inl Rw))]) hx hb hts in_X9_go_9 tyX9 tyX9_ok nmX9 hown hK hP hD hS 0 7 rfl rfl (by decide) (List.mem_of_getElem? (i := 7) rfl) rfl rfl rfl (Nat.le_of_ble_eq_true rfl) dX9_go_296 rfl (fun H_ lc_ hP hD hS => ?_)
                          refine lv_aload_n hx hb dX9_go_299 rfl (lv_at hl 1 rfl) ?_
                          refine lv_dup hx hb dX9_go_300 rfl ?_
                          refine g_get (C := RX9) (T := TX9) (N := 20) (ci := 9) (index := 21) hx hb hts in_X9_go_9 hown hK hP 0 4 rfl rfl (by decide) (List.mem_of_getElem? (i := 1) rfl) rfl dX9_go_301 ?_
                          refine lv_iconst (v := 1) hx hb dX9_go_304 (by decide) ?_
                          refine lv_iadd hx hb dX9_go_305 ?_
                          rw [show ((nI ((goP Tp n S.1) + k9)) + 1 : Int32) = nI ((goP Tp n S.1) + (k9 + 1)) from nI_1 _]
                          refine g_put (C := RX9) (T := TX9) (N := 20) (ci := 9) (index := 21) (v := .int (nI ((goP Tp n S.1) + (k9 + 1)))) (ws' := [(mo, .inr (9, [.int th, .ref q1, .int tn, .int (nI n), .int (nI ((goP Tp n S.1) + (k9 + 1))), .int (nI (goP Tp n S.1)), .int S.2.2.1, .int (((10 * (nuM Tp (goP Tp n S.1) k9)) + (Tp ((goP Tp n S.1) + k9))) - 48), .int S.2.2.2.2.1, .int S.2.2.2.2.2.1, .long (((27 * (wdM Tp (goP Tp n S.1) k9)) + ((Tp ((goP Tp n S.1) + k9)).toInt64)) - 96), .ref q2, .ref q3, .ref q4, .int sm, .ref q5, .ref q6, .ref q7, .ref q8, .int rm])), (q1, .inl (cI, 840, .inl Tp)), (q2, .inl (cI, 240, .inl Nw)), (q3, .inl (cI, 240, .inl S.2.2.2.2.2.2.2)), (q4, .inl (cI, 2880, .inl Sn)), (q5, .inl (cI, 4, .inl In)), (q6, .inl (cI, 500, .inl Pd)), (q7, .inl (cI, 500, .inl Rt)), (q8, .inl (cI, 10000, .inl Rw))]) hx hb hts in_X9_go_9 tyX9 tyX9_ok nmX9 hown hK hP hD hS 0 4 rfl rfl (by decide) (List.mem_of_getElem? (i := 1) rfl) rfl rfl rfl (Nat.le_of_ble_eq_true rfl) dX9_go_306 rfl (fun H_ lc_ hP hD hS => ?_)
                          refine lv_goto (tgt := 177) hx hb dX9_go_309 (by decide) ?_
                          exact ih177 (k9 + 1) (by omega) (by rw [← hinv9]; exact (bl_T (isaM_T hal) ha.1).symm) _ _ _ _ (by omega) (hg) (rfl) (by rw [wdM_s, if_neg c246]) (by rw [nuM_s, if_neg c279]) _ _ hP hD hS ls (lv_sub hl [1, 2, 3, 0] rfl)
                    refine lv_iload_n hx hb dX9_go_216 rfl (lv_at hl 4 rfl) ?_
                    refine lv_if_eq (tgt := 233) hx hb dX9_go_217 (by decide) (fun c217 => ?_) (fun c217 => ?_)
                    · refine lv_iconst (v := 0) hx hb dX9_go_233 (by decide) ?_
                      exact J234 0 (by rw [gdM_s, if_pos c217])   _ _ hP hD hS ls (lv_sub hl [1, 2, 3, 4, 0] rfl)
                    · refine lv_iload hx hb dX9_go_220 (lv_at hl 0 rfl) ?_
                      refine rd_S (As := [.int (Tp ((goP Tp n S.1) + k9))]) (rest := []) (kX9_isLetter l D cI cB (Tp ((goP Tp n S.1) + k9)) ) ⟨hx, hb, hml, hown, hts⟩ (va_cwS 1 hts gX9_go_X9_isLetter rfl rfl rfl (by decide +kernel) ⟨Nat.le_of_ble_eq_true rfl, Nat.le_of_ble_eq_true rfl⟩) hK hP [] rfl rfl rfl hl.1 (Nat.le_of_ble_eq_true rfl) dX9_go_222 ⟨Nat.le_refl _, Nat.le_refl _⟩ ?_
                      refine lv_iload_n hx hb dX9_go_225 rfl (lv_at hl 3 rfl) ?_
                      refine lv_icmp_ne (tgt := 233) hx hb dX9_go_226 (by decide) (fun c226 => ?_) (fun c226 => ?_)
                      · refine lv_iconst (v := 0) hx hb dX9_go_233 (by decide) ?_
                        exact J234 0 (by rw [gdM_s, if_neg c217, if_neg c226])   _ _ hP hD hS ls (lv_sub hl [1, 2, 3, 4, 0] rfl)
                      · refine lv_iconst (v := 1) hx hb dX9_go_229 (by decide) ?_
                        refine lv_goto (tgt := 234) hx hb dX9_go_230 (by decide) ?_
                        exact J234 1 (by rw [gdM_s, if_neg c217, if_pos c226])   _ _ hP hD hS ls (lv_sub hl [1, 2, 3, 4, 0] rfl)
            exact L177 (n - ((goP Tp n S.1) + 0) + 1) 0 (by omega) (rfl) _ _ _ _ (Nat.lt_succ_self _) (rfl) (rfl) (rfl) (rfl) _ _ hP hD hS ls (lv_sub hl [3, 2, 1, 0] rfl)
          · refine lv_iload_n hx hb dX9_go_127 rfl (lv_at hl 0 rfl) ?_
            refine rd_S (As := [.int (Tp (goP Tp n S.1))]) (rest := []) (kX9_isDigit l D cI cB (Tp (goP Tp n S.1)) ) ⟨hx, hb, hml, hown, hts⟩ (va_cwS 1 hts gX9_go_X9_isDigit rfl rfl rfl (by decide +kernel) ⟨Nat.le_of_ble_eq_true rfl, Nat.le_of_ble_eq_true rfl⟩) hK hP [] rfl rfl rfl hl.1 (Nat.le_of_ble_eq_true rfl) dX9_go_128 ⟨Nat.le_refl _, Nat.le_refl _⟩ ?_
            refine lv_if_ne (tgt := 160) hx hb dX9_go_131 (by decide) (fun c131 => ?_) (fun c131 => ?_)
            · refine lv_iload_n hx hb dX9_go_160 rfl (lv_at hl 0 rfl) ?_
              refine rd_S (As := [.int (Tp (goP Tp n S.1))]) (rest := []) (kX9_isLetter l D cI cB (Tp (goP Tp n S.1)) ) ⟨hx, hb, hml, hown, hts⟩ (va_cwS 1 hts gX9_go_X9_isLetter rfl rfl rfl (by decide +kernel) ⟨Nat.le_of_ble_eq_true rfl, Nat.le_of_ble_eq_true rfl⟩) hK hP [] rfl rfl rfl hl.1 (Nat.le_of_ble_eq_true rfl) dX9_go_161 ⟨Nat.le_refl _, Nat.le_refl _⟩ ?_
              refine lv_istore_n (lv' := [(2, .int (isInM (Tp (goP Tp n S.1)) 97 122)), (1, .int (Tp (goP Tp n S.1))), (0, .ref mo)]) hx hb dX9_go_164 rfl hl (by decide) rfl (fun ls hl => ?_)
              refine lv_iconst (v := 1) hx hb dX9_go_165 (by decide) ?_
              refine lv_istore_n (lv' := [(3, .int 1), (2, .int (isInM (Tp (goP Tp n S.1)) 97 122)), (1, .int (Tp (goP Tp n S.1))), (0, .ref mo)]) hx hb dX9_go_166 rfl hl (by decide) rfl (fun ls hl => ?_)
              refine lv_aload_n hx hb dX9_go_167 rfl (lv_at hl 3 rfl) ?_
              refine lv_lconst (v := 0) hx hb dX9_go_168 (by decide) ?_
              refine g_put (C := RX9) (T := TX9) (N := 20) (ci := 9) (index := 37) (v := .long 0) (ws' := [(mo, .inr (9, [.int th, .ref q1, .int tn, .int (nI n), .int (nI (goP Tp n S.1)), .int (nI (goP Tp n S.1)), .int S.2.2.1, .int S.2.2.2.1, .int S.2.2.2.2.1, .int S.2.2.2.2.2.1, .long 0, .ref q2, .ref q3, .ref q4, .int sm, .ref q5, .ref q6, .ref q7, .ref q8, .int rm])), (q1, .inl (cI, 840, .inl Tp)), (q2, .inl (cI, 240, .inl Nw)), (q3, .inl (cI, 240, .inl S.2.2.2.2.2.2.2)), (q4, .inl (cI, 2880, .inl Sn)), (q5, .inl (cI, 4, .inl In)), (q6, .inl (cI, 500, .inl Pd)), (q7, .inl (cI, 500, .inl Rt)), (q8, .inl (cI, 10000, .inl Rw))]) hx hb hts in_X9_go_9 tyX9 tyX9_ok nmX9 hown hK hP hD hS 0 10 rfl rfl (by decide) (List.mem_of_getElem? (i := 6) rfl) rfl rfl rfl (Nat.le_of_ble_eq_true rfl) dX9_go_169 rfl (fun H_ lc_ hP hD hS => ?_)
              refine lv_aload_n hx hb dX9_go_172 rfl (lv_at hl 3 rfl) ?_
              refine lv_iconst (v := 0) hx hb dX9_go_173 (by decide) ?_
              refine g_put (C := RX9) (T := TX9) (N := 20) (ci := 9) (index := 41) (v := .int 0) (ws' := [(mo, .inr (9, [.int th, .ref q1, .int tn, .int (nI n), .int (nI (goP Tp n S.1)), .int (nI (goP Tp n S.1)), .int S.2.2.1, .int 0, .int S.2.2.2.2.1, .int S.2.2.2.2.2.1, .long 0, .ref q2, .ref q3, .ref q4, .int sm, .ref q5, .ref q6, .ref q7, .ref q8, .int rm])), (q1, .inl (cI, 840, .inl Tp)), (q2, .inl (cI, 240, .inl Nw)), (q3, .inl (cI, 240, .inl S.2.2.2.2.2.2.2)), (q4, .inl (cI, 2880, .inl Sn)), (q5, .inl (cI, 4, .inl In)), (q6, .inl (cI, 500, .inl Pd)), (q7, .inl (cI, 500, .inl Rt)), (q8, .inl (cI, 10000, .inl Rw))]) hx hb hts in_X9_go_9 tyX9 tyX9_ok nmX9 hown hK hP hD hS 0 7 rfl rfl (by decide) (List.mem_of_getElem? (i := 7) rfl) rfl rfl rfl (Nat.le_of_ble_eq_true rfl) dX9_go_174 rfl (fun H_ lc_ hP hD hS => ?_)
              have L177 : ∀ (nn_ : Nat) (k9 : Nat) (hk9 : (goP Tp n S.1) + k9 ≤ n) (hinv9 : bl (isaM Tp n) (n - ((goP Tp n S.1) + k9)) ((goP Tp n S.1) + k9) = goE Tp n (goP Tp n S.1)) (xx_v3 : Int32) (xx_u0_4 : Int32) (xx_u0_10 : Int64) (xx_u0_7 : Int32), (n - ((goP Tp n S.1) + k9)) < nn_ → xx_v3 = gdM Tp (goP Tp n S.1) (isInM (Tp (goP Tp n S.1)) 97 122) k9 → xx_u0_4 = nI ((goP Tp n S.1) + k9) → xx_u0_10 = wdM Tp (goP Tp n S.1) k9 → xx_u0_7 = nuM Tp (goP Tp n S.1) k9 → ∀ (H_ : Heap) (lc_ : List Loc), va_P D vwCl [(mo, .inr (9, [.int th, .ref q1, .int tn, .int (nI n), .int xx_u0_4, .int (nI (goP Tp n S.1)), .int S.2.2.1, .int xx_u0_7, .int S.2.2.2.2.1, .int S.2.2.2.2.2.1, .long xx_u0_10, .ref q2, .ref q3, .ref q4, .int sm, .ref q5, .ref q6, .ref q7, .ref q8, .int rm])), (q1, .inl (cI, 840, .inl Tp)), (q2, .inl (cI, 240, .inl Nw)), (q3, .inl (cI, 240, .inl S.2.2.2.2.2.2.2)), (q4, .inl (cI, 2880, .inl Sn)), (q5, .inl (cI, 4, .inl In)), (q6, .inl (cI, 500, .inl Pd)), (q7, .inl (cI, 500, .inl Rt)), (q8, .inl (cI, 10000, .inl Rw))] H_ → va_D A_ [(mo, .inr (9, [.int th, .ref q1, .int tn, .int (nI n), .int xx_u0_4, .int (nI (goP Tp n S.1)), .int S.2.2.1, .int xx_u0_7, .int S.2.2.2.2.1, .int S.2.2.2.2.2.1, .long xx_u0_10, .ref q2, .ref q3, .ref q4, .int sm, .ref q5, .ref q6, .ref q7, .ref q8, .int rm])), (q1, .inl (cI, 840, .inl Tp)), (q2, .inl (cI, 240, .inl Nw)), (q3, .inl (cI, 240, .inl S.2.2.2.2.2.2.2)), (q4, .inl (cI, 2880, .inl Sn)), (q5, .inl (cI, 4, .inl In)), (q6, .inl (cI, 500, .inl Pd)), (q7, .inl (cI, 500, .inl Rt)), (q8, .inl (cI, 10000, .inl Rw))] → va_S A_ s_.heap H_ lc_ → ∀ (ls : Array Slot), lv_has ls 5 [(0, .ref mo), (1, .int (Tp (goP Tp n S.1))), (2, .int (isInM (Tp (goP Tp n S.1)) 97 122)), (3, .int xx_v3)] → W p_ l e_ (RM 1 21) s_ m_ ar_ be_ me_ co_ H_ lc_ 0 0 Q_ (F0 m_ 177 ls []) := by
                intro nn_
                induction nn_ with
                | zero => intro k9 hk9 hinv9 xx_v3 xx_u0_4 xx_u0_10 xx_u0_7 hn_; exact absurd hn_ (Nat.not_lt_zero _)
                | succ nn_ ih177 =>
                  intro k9 hk9 hinv9 xx_v3 xx_u0_4 xx_u0_10 xx_u0_7 hn_ e_xx_v3 e_xx_u0_4 e_xx_u0_10 e_xx_u0_7 H_ lc_ hP hD hS ls hl
                  subst e_xx_v3 e_xx_u0_4 e_xx_u0_10 e_xx_u0_7
                  refine lv_aload_n hx hb dX9_go_177 rfl (lv_at hl 0 rfl) ?_
                  refine lv_aload_n hx hb dX9_go_178 rfl (lv_at hl 0 rfl) ?_
                  refine g_get (C := RX9) (T := TX9) (N := 20) (ci := 9) (index := 21) hx hb hts in_X9_go_9 hown hK hP 0 4 rfl rfl (by decide) (List.mem_of_getElem? (i := 1) rfl) rfl dX9_go_179 ?_
                  refine rd_V (As := [.int (nI ((goP Tp n S.1) + k9))]) (rest := []) (ci := 9) (kX9_tapeAt l D cI cB mo q1 q2 q3 q4 q5 q6 q7 q8 th tn (nI ((goP Tp n S.1) + k9)) (nI (goP Tp n S.1)) S.2.2.1 (nuM Tp (goP Tp n S.1) k9) S.2.2.2.2.1 S.2.2.2.2.2.1 (wdM Tp (goP Tp n S.1) k9) sm rm Tp Nw S.2.2.2.2.2.2.2 Sn In Pd Rt Rw n ((goP Tp n S.1) + k9) (by first | assumption | omega) (by omega)) ⟨hx, hb, hml, hown, hts⟩ (cwV 1 hts gX9_go_X9_tapeAt rfl rfl rfl (by decide +kernel) ⟨Nat.le_of_ble_eq_true rfl, Nat.le_of_ble_eq_true rfl⟩) hK hP [0, 1, 2, 3, 4, 5, 6, 7, 8] rfl 0 rfl rfl rfl rfl hl.1 (Nat.le_of_ble_eq_true rfl) dX9_go_182 ⟨Nat.le_refl _, Nat.le_refl _⟩ ?_
                  refine rd_S (As := [.int (tpA Tp n ((goP Tp n S.1) + k9))]) (rest := []) (kX9_isLetter l D cI cB (tpA Tp n ((goP Tp n S.1) + k9)) ) ⟨hx, hb, hml, hown, hts⟩ (va_cwS 1 hts gX9_go_X9_isLetter rfl rfl rfl (by decide +kernel) ⟨Nat.le_of_ble_eq_true rfl, Nat.le_of_ble_eq_true rfl⟩) hK hP [] rfl rfl rfl hl.1 (Nat.le_of_ble_eq_true rfl) dX9_go_185 ⟨Nat.le_refl _, Nat.le_refl _⟩ ?_
                  refine lv_if_ne (tgt := 205) hx hb dX9_go_188 (by decide) (fun c188 => ?_) (fun c188 => ?_)
                  · have hal : ¬ isInM (tpA Tp n ((goP Tp n S.1) + k9)) 97 122 = 0 ∨ ¬ isInM (tpA Tp n ((goP Tp n S.1) + k9)) 48 57 = 0 := by first | exact Or.inl c188 | exact Or.inr c202
                    have ha := isaM_lt hn (by omega) hal
                    refine lv_aload_n hx hb dX9_go_205 rfl (lv_at hl 0 rfl) ?_
                    refine g_get (C := RX9) (T := TX9) (N := 20) (ci := 9) (index := 7) hx hb hts in_X9_go_9 hown hK hP 0 1 rfl rfl (by decide) (List.mem_of_getElem? (i := 3) rfl) rfl dX9_go_206 ?_
                    refine lv_aload_n hx hb dX9_go_209 rfl (lv_at hl 0 rfl) ?_
                    refine g_get (C := RX9) (T := TX9) (N := 20) (ci := 9) (index := 21) hx hb hts in_X9_go_9 hown hK hP 0 4 rfl rfl (by decide) (List.mem_of_getElem? (i := 1) rfl) rfl dX9_go_210 ?_
                    refine g_iald hx hb hK hP 1 0 rfl rfl ((goP Tp n S.1) + k9) (rfl) (by omega) (by omega) dX9_go_213 ?_
                    refine lv_istore (lv' := [(4, .int (Tp ((goP Tp n S.1) + k9))), (0, .ref mo), (1, .int (Tp (goP Tp n S.1))), (2, .int (isInM (Tp (goP Tp n S.1)) 97 122)), (3, .int (gdM Tp (goP Tp n S.1) (isInM (Tp (goP Tp n S.1)) 97 122) k9))]) hx hb dX9_go_214 hl (by decide) rfl (fun ls hl => ?_)
                    have J234 : ∀ (g9 : Int32) (hg : g9 = gdM Tp (goP Tp n S.1) (isInM (Tp (goP Tp n S.1)) 97 122) (k9 + 1)) , ∀ (H_ : Heap) (lc_ : List Loc), va_P D vwCl [(mo, .inr (9, [.int th, .ref q1, .int tn, .int (nI n), .int (nI ((goP Tp n S.1) + k9)), .int (nI (goP Tp n S.1)), .int S.2.2.1, .int (nuM Tp (goP Tp n S.1) k9), .int S.2.2.2.2.1, .int S.2.2.2.2.2.1, .long (wdM Tp (goP Tp n S.1) k9), .ref q2, .ref q3, .ref q4, .int sm, .ref q5, .ref q6, .ref q7, .ref q8, .int rm])), (q1, .inl (cI, 840, .inl Tp)), (q2, .inl (cI, 240, .inl Nw)), (q3, .inl (cI, 240, .inl S.2.2.2.2.2.2.2)), (q4, .inl (cI, 2880, .inl Sn)), (q5, .inl (cI, 4, .inl In)), (q6, .inl (cI, 500, .inl Pd)), (q7, .inl (cI, 500, .inl Rt)), (q8, .inl (cI, 10000, .inl Rw))] H_ → va_D A_ [(mo, .inr (9, [.int th, .ref q1, .int tn, .int (nI n), .int (nI ((goP Tp n S.1) + k9)), .int (nI (goP Tp n S.1)), .int S.2.2.1, .int (nuM Tp (goP Tp n S.1) k9), .int S.2.2.2.2.1, .int S.2.2.2.2.2.1, .long (wdM Tp (goP Tp n S.1) k9), .ref q2, .ref q3, .ref q4, .int sm, .ref q5, .ref q6, .ref q7, .ref q8, .int rm])), (q1, .inl (cI, 840, .inl Tp)), (q2, .inl (cI, 240, .inl Nw)), (q3, .inl (cI, 240, .inl S.2.2.2.2.2.2.2)), (q4, .inl (cI, 2880, .inl Sn)), (q5, .inl (cI, 4, .inl In)), (q6, .inl (cI, 500, .inl Pd)), (q7, .inl (cI, 500, .inl Rt)), (q8, .inl (cI, 10000, .inl Rw))] → va_S A_ s_.heap H_ lc_ → ∀ (ls : Array Slot), lv_has ls 5 [(0, .ref mo), (1, .int (Tp (goP Tp n S.1))), (2, .int (isInM (Tp (goP Tp n S.1)) 97 122)), (3, .int (gdM Tp (goP Tp n S.1) (isInM (Tp (goP Tp n S.1)) 97 122) k9)), (4, .int (Tp ((goP Tp n S.1) + k9)))] → W p_ l e_ (RM 1 21) s_ m_ ar_ be_ me_ co_ H_ lc_ 0 0 Q_ (F0 m_ 234 ls [.int g9]) := by
                      intro g9 hg  H_ lc_ hP hD hS ls hl
                      refine lv_istore_n (lv' := [(3, .int g9), (0, .ref mo), (1, .int (Tp (goP Tp n S.1))), (2, .int (isInM (Tp (goP Tp n S.1)) 97 122)), (4, .int (Tp ((goP Tp n S.1) + k9)))]) hx hb dX9_go_234 rfl hl (by decide) rfl (fun ls hl => ?_)
                      refine lv_aload_n hx hb dX9_go_235 rfl (lv_at hl 1 rfl) ?_
                      refine g_get (C := RX9) (T := TX9) (N := 20) (ci := 9) (index := 21) hx hb hts in_X9_go_9 hown hK hP 0 4 rfl rfl (by decide) (List.mem_of_getElem? (i := 1) rfl) rfl dX9_go_236 ?_
                      refine lv_aload_n hx hb dX9_go_239 rfl (lv_at hl 1 rfl) ?_
                      refine g_get (C := RX9) (T := TX9) (N := 20) (ci := 9) (index := 24) hx hb hts in_X9_go_9 hown hK hP 0 5 rfl rfl (by decide) (List.mem_of_getElem? (i := 4) rfl) rfl dX9_go_240 ?_
                      refine lv_isub hx hb dX9_go_243 ?_
                      rw [show ((nI ((goP Tp n S.1) + k9)) - (nI (goP Tp n S.1)) : Int32) = nI k9 from by rw [pk_sub (by omega), show (goP Tp n S.1) + k9 - (goP Tp n S.1) = k9 by omega]]
                      refine lv_bipush (v := 7) hx hb dX9_go_244 (by decide) ?_
                      refine lv_icmp_ge (tgt := 269) hx hb dX9_go_246 (by decide) (fun c246 => ?_) (fun c246 => ?_)
                      · refine lv_aload_n hx hb dX9_go_269 rfl (lv_at hl 1 rfl) ?_
                        refine g_get (C := RX9) (T := TX9) (N := 20) (ci := 9) (index := 21) hx hb hts in_X9_go_9 hown hK hP 0 4 rfl rfl (by decide) (List.mem_of_getElem? (i := 1) rfl) rfl dX9_go_270 ?_
                        refine lv_aload_n hx hb dX9_go_273 rfl (lv_at hl 1 rfl) ?_
                        refine g_get (C := RX9) (T := TX9) (N := 20) (ci := 9) (index := 24) hx hb hts in_X9_go_9 hown hK hP 0 5 rfl rfl (by decide) (List.mem_of_getElem? (i := 4) rfl) rfl dX9_go_274 ?_
                        refine lv_isub hx hb dX9_go_277 ?_
                        rw [show ((nI ((goP Tp n S.1) + k9)) - (nI (goP Tp n S.1)) : Int32) = nI k9 from by rw [pk_sub (by omega), show (goP Tp n S.1) + k9 - (goP Tp n S.1) = k9 by omega]]
                        refine lv_iconst (v := 5) hx hb dX9_go_278 (by decide) ?_
                        refine lv_icmp_ge (tgt := 299) hx hb dX9_go_279 (by decide) (fun c279 => ?_) (fun c279 => ?_)
                        · refine lv_aload_n hx hb dX9_go_299 rfl (lv_at hl 1 rfl) ?_
                          refine lv_dup hx hb dX9_go_300 rfl ?_
                          refine g_get (C := RX9) (T := TX9) (N := 20) (ci := 9) (index := 21) hx hb hts in_X9_go_9 hown hK hP 0 4 rfl rfl (by decide) (List.mem_of_getElem? (i := 1) rfl) rfl dX9_go_301 ?_
                          refine lv_iconst (v := 1) hx hb dX9_go_304 (by decide) ?_
                          refine lv_iadd hx hb dX9_go_305 ?_
                          rw [show ((nI ((goP Tp n S.1) + k9)) + 1 : Int32) = nI ((goP Tp n S.1) + (k9 + 1)) from nI_1 _]
                          refine g_put (C := RX9) (T := TX9) (N := 20) (ci := 9) (index := 21) (v := .int (nI ((goP Tp n S.1) + (k9 + 1)))) (ws' := [(mo, .inr (9, [.int th, .ref q1, .int tn, .int (nI n), .int (nI ((goP Tp n S.1) + (k9 + 1))), .int (nI (goP Tp n S.1)), .int S.2.2.1, .int (nuM Tp (goP Tp n S.1) k9), .int S.2.2.2.2.1, .int S.2.2.2.2.2.1, .long (wdM Tp (goP Tp n S.1) k9), .ref q2, .ref q3, .ref q4, .int sm, .ref q5, .ref q6, .ref q7, .ref q8, .int rm])), (q1, .inl (cI, 840, .inl Tp)), (q2, .inl (cI, 240, .inl Nw)), (q3, .inl (cI, 240, .inl S.2.2.2.2.2.2.2)), (q4, .inl (cI, 2880, .inl Sn)), (q5, .inl (cI, 4, .inl In)), (q6, .inl (cI, 500, .inl Pd)), (q7, .inl (cI, 500, .inl Rt)), (q8, .inl (cI, 10000, .inl Rw))]) hx hb hts in_X9_go_9 tyX9 tyX9_ok nmX9 hown hK hP hD hS 0 4 rfl rfl (by decide) (List.mem_of_getElem? (i := 1) rfl) rfl rfl rfl (Nat.le_of_ble_eq_true rfl) dX9_go_306 rfl (fun H_ lc_ hP hD hS => ?_)
                          refine lv_goto (tgt := 177) hx hb dX9_go_309 (by decide) ?_
                          exact ih177 (k9 + 1) (by omega) (by rw [← hinv9]; exact (bl_T (isaM_T hal) ha.1).symm) _ _ _ _ (by omega) (hg) (rfl) (by rw [wdM_s, if_pos c246]) (by rw [nuM_s, if_pos c279]) _ _ hP hD hS ls (lv_sub hl [1, 2, 3, 0] rfl)
                        · refine lv_aload_n hx hb dX9_go_282 rfl (lv_at hl 1 rfl) ?_
                          refine lv_bipush (v := 10) hx hb dX9_go_283 (by decide) ?_
                          refine lv_aload_n hx hb dX9_go_285 rfl (lv_at hl 1 rfl) ?_
                          refine g_get (C := RX9) (T := TX9) (N := 20) (ci := 9) (index := 41) hx hb hts in_X9_go_9 hown hK hP 0 7 rfl rfl (by decide) (List.mem_of_getElem? (i := 7) rfl) rfl dX9_go_286 ?_
                          refine lv_imul hx hb dX9_go_289 ?_
                          refine lv_iload hx hb dX9_go_290 (lv_at hl 4 rfl) ?_
                          refine lv_iadd hx hb dX9_go_292 ?_
                          refine lv_bipush (v := 48) hx hb dX9_go_293 (by decide) ?_
                          refine lv_isub hx hb dX9_go_295 ?_
                          refine g_put (C := RX9) (T := TX9) (N := 20) (ci := 9) (index := 41) (v := .int (((10 * (nuM Tp (goP Tp n S.1) k9)) + (Tp ((goP Tp n S.1) + k9))) - 48)) (ws' := [(mo, .inr (9, [.int th, .ref q1, .int tn, .int (nI n), .int (nI ((goP Tp n S.1) + k9)), .int (nI (goP Tp n S.1)), .int S.2.2.1, .int (((10 * (nuM Tp (goP Tp n S.1) k9)) + (Tp ((goP Tp n S.1) + k9))) - 48), .int S.2.2.2.2.1, .int S.2.2.2.2.2.1, .long (wdM Tp (goP Tp n S.1) k9), .ref q2, .ref q3, .ref q4, .int sm, .ref q5, .ref q6, .ref q7, .ref q8, .int rm])), (q1, .inl (cI, 840, .inl Tp)), (q2, .inl (cI, 240, .inl Nw)), (q3, .inl (cI, 240, .inl S.2.2.2.2.2.2.2)), (q4, .inl (cI, 2880, .inl Sn)), (q5, .inl (cI, 4, .inl In)), (q6, .inl (cI, 500, .inl Pd)), (q7, .inl (cI, 500, .inl Rt)), (q8, .inl (cI, 10000, .inl Rw))]) hx hb hts in_X9_go_9 tyX9 tyX9_ok nmX9 hown hK hP hD hS 0 7 rfl rfl (by decide) (List.mem_of_getElem? (i := 7) rfl) rfl rfl rfl (Nat.le_of_ble_eq_true rfl) dX9_go_296 rfl (fun H_ lc_ hP hD hS => ?_)
                          refine lv_aload_n hx hb dX9_go_299 rfl (lv_at hl 1 rfl) ?_
                          refine lv_dup hx hb dX9_go_300 rfl ?_
                          refine g_get (C := RX9) (T := TX9) (N := 20) (ci := 9) (index := 21) hx hb hts in_X9_go_9 hown hK hP 0 4 rfl rfl (by decide) (List.mem_of_getElem? (i := 1) rfl) rfl dX9_go_301 ?_
                          refine lv_iconst (v := 1) hx hb dX9_go_304 (by decide) ?_
                          refine lv_iadd hx hb dX9_go_305 ?_
                          rw [show ((nI ((goP Tp n S.1) + k9)) + 1 : Int32) = nI ((goP Tp n S.1) + (k9 + 1)) from nI_1 _]
                          refine g_put (C := RX9) (T := TX9) (N := 20) (ci := 9) (index := 21) (v := .int (nI ((goP Tp n S.1) + (k9 + 1)))) (ws' := [(mo, .inr (9, [.int th, .ref q1, .int tn, .int (nI n), .int (nI ((goP Tp n S.1) + (k9 + 1))), .int (nI (goP Tp n S.1)), .int S.2.2.1, .int (((10 * (nuM Tp (goP Tp n S.1) k9)) + (Tp ((goP Tp n S.1) + k9))) - 48), .int S.2.2.2.2.1, .int S.2.2.2.2.2.1, .long (wdM Tp (goP Tp n S.1) k9), .ref q2, .ref q3, .ref q4, .int sm, .ref q5, .ref q6, .ref q7, .ref q8, .int rm])), (q1, .inl (cI, 840, .inl Tp)), (q2, .inl (cI, 240, .inl Nw)), (q3, .inl (cI, 240, .inl S.2.2.2.2.2.2.2)), (q4, .inl (cI, 2880, .inl Sn)), (q5, .inl (cI, 4, .inl In)), (q6, .inl (cI, 500, .inl Pd)), (q7, .inl (cI, 500, .inl Rt)), (q8, .inl (cI, 10000, .inl Rw))]) hx hb hts in_X9_go_9 tyX9 tyX9_ok nmX9 hown hK hP hD hS 0 4 rfl rfl (by decide) (List.mem_of_getElem? (i := 1) rfl) rfl rfl rfl (Nat.le_of_ble_eq_true rfl) dX9_go_306 rfl (fun H_ lc_ hP hD hS => ?_)
                          refine lv_goto (tgt := 177) hx hb dX9_go_309 (by decide) ?_
                          exact ih177 (k9 + 1) (by omega) (by rw [← hinv9]; exact (bl_T (isaM_T hal) ha.1).symm) _ _ _ _ (by omega) (hg) (rfl) (by rw [wdM_s, if_pos c246]) (by rw [nuM_s, if_neg c279]) _ _ hP hD hS ls (lv_sub hl [1, 2, 3, 0] rfl)
                      · refine lv_aload_n hx hb dX9_go_249 rfl (lv_at hl 1 rfl) ?_
                        refine lv_ldc2 (v := 27) hx hb hown (hts (.constantLong RX9 48 (27)) (List.mem_of_getElem? (i := 8) rfl)) dX9_go_250 ?_
                        refine lv_aload_n hx hb dX9_go_253 rfl (lv_at hl 1 rfl) ?_
                        refine g_get (C := RX9) (T := TX9) (N := 20) (ci := 9) (index := 37) hx hb hts in_X9_go_9 hown hK hP 0 10 rfl rfl (by decide) (List.mem_of_getElem? (i := 6) rfl) rfl dX9_go_254 ?_
                        refine lv_lmul hx hb dX9_go_257 ?_
                        refine lv_iload hx hb dX9_go_258 (lv_at hl 4 rfl) ?_
                        refine lv_i2l (v := (Tp ((goP Tp n S.1) + k9)).toInt64) hx hb dX9_go_260 rfl ?_
                        refine lv_ladd hx hb dX9_go_261 ?_
                        refine lv_ldc2 (v := 96) hx hb hown (hts (.constantLong RX9 50 (96)) (List.mem_of_getElem? (i := 9) rfl)) dX9_go_262 ?_
                        refine lv_lsub hx hb dX9_go_265 ?_
                        refine g_put (C := RX9) (T := TX9) (N := 20) (ci := 9) (index := 37) (v := .long (((27 * (wdM Tp (goP Tp n S.1) k9)) + ((Tp ((goP Tp n S.1) + k9)).toInt64)) - 96)) (ws' := [(mo, .inr (9, [.int th, .ref q1, .int tn, .int (nI n), .int (nI ((goP Tp n S.1) + k9)), .int (nI (goP Tp n S.1)), .int S.2.2.1, .int (nuM Tp (goP Tp n S.1) k9), .int S.2.2.2.2.1, .int S.2.2.2.2.2.1, .long (((27 * (wdM Tp (goP Tp n S.1) k9)) + ((Tp ((goP Tp n S.1) + k9)).toInt64)) - 96), .ref q2, .ref q3, .ref q4, .int sm, .ref q5, .ref q6, .ref q7, .ref q8, .int rm])), (q1, .inl (cI, 840, .inl Tp)), (q2, .inl (cI, 240, .inl Nw)), (q3, .inl (cI, 240, .inl S.2.2.2.2.2.2.2)), (q4, .inl (cI, 2880, .inl Sn)), (q5, .inl (cI, 4, .inl In)), (q6, .inl (cI, 500, .inl Pd)), (q7, .inl (cI, 500, .inl Rt)), (q8, .inl (cI, 10000, .inl Rw))]) hx hb hts in_X9_go_9 tyX9 tyX9_ok nmX9 hown hK hP hD hS 0 10 rfl rfl (by decide) (List.mem_of_getElem? (i := 6) rfl) rfl rfl rfl (Nat.le_of_ble_eq_true rfl) dX9_go_266 rfl (fun H_ lc_ hP hD hS => ?_)
                        refine lv_aload_n hx hb dX9_go_269 rfl (lv_at hl 1 rfl) ?_
                        refine g_get (C := RX9) (T := TX9) (N := 20) (ci := 9) (index := 21) hx hb hts in_X9_go_9 hown hK hP 0 4 rfl rfl (by decide) (List.mem_of_getElem? (i := 1) rfl) rfl dX9_go_270 ?_
                        refine lv_aload_n hx hb dX9_go_273 rfl (lv_at hl 1 rfl) ?_
                        refine g_get (C := RX9) (T := TX9) (N := 20) (ci := 9) (index := 24) hx hb hts in_X9_go_9 hown hK hP 0 5 rfl rfl (by decide) (List.mem_of_getElem? (i := 4) rfl) rfl dX9_go_274 ?_
                        refine lv_isub hx hb dX9_go_277 ?_
                        rw [show ((nI ((goP Tp n S.1) + k9)) - (nI (goP Tp n S.1)) : Int32) = nI k9 from by rw [pk_sub (by omega), show (goP Tp n S.1) + k9 - (goP Tp n S.1) = k9 by omega]]
                        refine lv_iconst (v := 5) hx hb dX9_go_278 (by decide) ?_
                        refine lv_icmp_ge (tgt := 299) hx hb dX9_go_279 (by decide) (fun c279 => ?_) (fun c279 => ?_)
                        · refine lv_aload_n hx hb dX9_go_299 rfl (lv_at hl 1 rfl) ?_
                          refine lv_dup hx hb dX9_go_300 rfl ?_
                          refine g_get (C := RX9) (T := TX9) (N := 20) (ci := 9) (index := 21) hx hb hts in_X9_go_9 hown hK hP 0 4 rfl rfl (by decide) (List.mem_of_getElem? (i := 1) rfl) rfl dX9_go_301 ?_
                          refine lv_iconst (v := 1) hx hb dX9_go_304 (by decide) ?_
                          refine lv_iadd hx hb dX9_go_305 ?_
                          rw [show ((nI ((goP Tp n S.1) + k9)) + 1 : Int32) = nI ((goP Tp n S.1) + (k9 + 1)) from nI_1 _]
                          refine g_put (C := RX9) (T := TX9) (N := 20) (ci := 9) (index := 21) (v := .int (nI ((goP Tp n S.1) + (k9 + 1)))) (ws' := [(mo, .inr (9, [.int th, .ref q1, .int tn, .int (nI n), .int (nI ((goP Tp n S.1) + (k9 + 1))), .int (nI (goP Tp n S.1)), .int S.2.2.1, .int (nuM Tp (goP Tp n S.1) k9), .int S.2.2.2.2.1, .int S.2.2.2.2.2.1, .long (((27 * (wdM Tp (goP Tp n S.1) k9)) + ((Tp ((goP Tp n S.1) + k9)).toInt64)) - 96), .ref q2, .ref q3, .ref q4, .int sm, .ref q5, .ref q6, .ref q7, .ref q8, .int rm])), (q1, .inl (cI, 840, .inl Tp)), (q2, .inl (cI, 240, .inl Nw)), (q3, .inl (cI, 240, .inl S.2.2.2.2.2.2.2)), (q4, .inl (cI, 2880, .inl Sn)), (q5, .inl (cI, 4, .inl In)), (q6, .inl (cI, 500, .inl Pd)), (q7, .inl (cI, 500, .inl Rt)), (q8, .inl (cI, 10000, .inl Rw))]) hx hb hts in_X9_go_9 tyX9 tyX9_ok nmX9 hown hK hP hD hS 0 4 rfl rfl (by decide) (List.mem_of_getElem? (i := 1) rfl) rfl rfl rfl (Nat.le_of_ble_eq_true rfl) dX9_go_306 rfl (fun H_ lc_ hP hD hS => ?_)
                          refine lv_goto (tgt := 177) hx hb dX9_go_309 (by decide) ?_
                          exact ih177 (k9 + 1) (by omega) (by rw [← hinv9]; exact (bl_T (isaM_T hal) ha.1).symm) _ _ _ _ (by omega) (hg) (rfl) (by rw [wdM_s, if_neg c246]) (by rw [nuM_s, if_pos c279]) _ _ hP hD hS ls (lv_sub hl [1, 2, 3, 0] rfl)
                        · refine lv_aload_n hx hb dX9_go_282 rfl (lv_at hl 1 rfl) ?_
                          refine lv_bipush (v := 10) hx hb dX9_go_283 (by decide) ?_
                          refine lv_aload_n hx hb dX9_go_285 rfl (lv_at hl 1 rfl) ?_
                          refine g_get (C := RX9) (T := TX9) (N := 20) (ci := 9) (index := 41) hx hb hts in_X9_go_9 hown hK hP 0 7 rfl rfl (by decide) (List.mem_of_getElem? (i := 7) rfl) rfl dX9_go_286 ?_
                          refine lv_imul hx hb dX9_go_289 ?_
                          refine lv_iload hx hb dX9_go_290 (lv_at hl 4 rfl) ?_
                          refine lv_iadd hx hb dX9_go_292 ?_
                          refine lv_bipush (v := 48) hx hb dX9_go_293 (by decide) ?_
                          refine lv_isub hx hb dX9_go_295 ?_
                          refine g_put (C := RX9) (T := TX9) (N := 20) (ci := 9) (index := 41) (v := .int (((10 * (nuM Tp (goP Tp n S.1) k9)) + (Tp ((goP Tp n S.1) + k9))) - 48)) (ws' := [(mo, .inr (9, [.int th, .ref q1, .int tn, .int (nI n), .int (nI ((goP Tp n S.1) + k9)), .int (nI (goP Tp n S.1)), .int S.2.2.1, .int (((10 * (nuM Tp (goP Tp n S.1) k9)) + (Tp ((goP Tp n S.1) + k9))) - 48), .int S.2.2.2.2.1, .int S.2.2.2.2.2.1, .long (((27 * (wdM Tp (goP Tp n S.1) k9)) + ((Tp ((goP Tp n S.1) + k9)).toInt64)) - 96), .ref q2, .ref q3, .ref q4, .int sm, .ref q5, .ref q6, .ref q7, .ref q8, .int rm])), (q1, .inl (cI, 840, .inl Tp)), (q2, .inl (cI, 240, .inl Nw)), (q3, .inl (cI, 240, .inl S.2.2.2.2.2.2.2)), (q4, .inl (cI, 2880, .inl Sn)), (q5, .inl (cI, 4, .inl In)), (q6, .inl (cI, 500, .inl Pd)), (q7, .inl (cI, 500, .inl Rt)), (q8, .inl (cI, 10000, .inl Rw))]) hx hb hts in_X9_go_9 tyX9 tyX9_ok nmX9 hown hK hP hD hS 0 7 rfl rfl (by decide) (List.mem_of_getElem? (i := 7) rfl) rfl rfl rfl (Nat.le_of_ble_eq_true rfl) dX9_go_296 rfl (fun H_ lc_ hP hD hS => ?_)
                          refine lv_aload_n hx hb dX9_go_299 rfl (lv_at hl 1 rfl) ?_
                          refine lv_dup hx hb dX9_go_300 rfl ?_
                          refine g_get (C := RX9) (T := TX9) (N := 20) (ci := 9) (index := 21) hx hb hts in_X9_go_9 hown hK hP 0 4 rfl rfl (by decide) (List.mem_of_getElem? (i := 1) rfl) rfl dX9_go_301 ?_
                          refine lv_iconst (v := 1) hx hb dX9_go_304 (by decide) ?_
                          refine lv_iadd hx hb dX9_go_305 ?_
                          rw [show ((nI ((goP Tp n S.1) + k9)) + 1 : Int32) = nI ((goP Tp n S.1) + (k9 + 1)) from nI_1 _]
                          refine g_put (C := RX9) (T := TX9) (N := 20) (ci := 9) (index := 21) (v := .int (nI ((goP Tp n S.1) + (k9 + 1)))) (ws' := [(mo, .inr (9, [.int th, .ref q1, .int tn, .int (nI n), .int (nI ((goP Tp n S.1) + (k9 + 1))), .int (nI (goP Tp n S.1)), .int S.2.2.1, .int (((10 * (nuM Tp (goP Tp n S.1) k9)) + (Tp ((goP Tp n S.1) + k9))) - 48), .int S.2.2.2.2.1, .int S.2.2.2.2.2.1, .long (((27 * (wdM Tp (goP Tp n S.1) k9)) + ((Tp ((goP Tp n S.1) + k9)).toInt64)) - 96), .ref q2, .ref q3, .ref q4, .int sm, .ref q5, .ref q6, .ref q7, .ref q8, .int rm])), (q1, .inl (cI, 840, .inl Tp)), (q2, .inl (cI, 240, .inl Nw)), (q3, .inl (cI, 240, .inl S.2.2.2.2.2.2.2)), (q4, .inl (cI, 2880, .inl Sn)), (q5, .inl (cI, 4, .inl In)), (q6, .inl (cI, 500, .inl Pd)), (q7, .inl (cI, 500, .inl Rt)), (q8, .inl (cI, 10000, .inl Rw))]) hx hb hts in_X9_go_9 tyX9 tyX9_ok nmX9 hown hK hP hD hS 0 4 rfl rfl (by decide) (List.mem_of_getElem? (i := 1) rfl) rfl rfl rfl (Nat.le_of_ble_eq_true rfl) dX9_go_306 rfl (fun H_ lc_ hP hD hS => ?_)
                          refine lv_goto (tgt := 177) hx hb dX9_go_309 (by decide) ?_
                          exact ih177 (k9 + 1) (by omega) (by rw [← hinv9]; exact (bl_T (isaM_T hal) ha.1).symm) _ _ _ _ (by omega) (hg) (rfl) (by rw [wdM_s, if_neg c246]) (by rw [nuM_s, if_neg c279]) _ _ hP hD hS ls (lv_sub hl [1, 2, 3, 0] rfl)
                    refine lv_iload_n hx hb dX9_go_216 rfl (lv_at hl 4 rfl) ?_
                    refine lv_if_eq (tgt := 233) hx hb dX9_go_217 (by decide) (fun c217 => ?_) (fun c217 => ?_)
                    · refine lv_iconst (v := 0) hx hb dX9_go_233 (by decide) ?_
                      exact J234 0 (by rw [gdM_s, if_pos c217])   _ _ hP hD hS ls (lv_sub hl [1, 2, 3, 4, 0] rfl)
                    · refine lv_iload hx hb dX9_go_220 (lv_at hl 0 rfl) ?_
                      refine rd_S (As := [.int (Tp ((goP Tp n S.1) + k9))]) (rest := []) (kX9_isLetter l D cI cB (Tp ((goP Tp n S.1) + k9)) ) ⟨hx, hb, hml, hown, hts⟩ (va_cwS 1 hts gX9_go_X9_isLetter rfl rfl rfl (by decide +kernel) ⟨Nat.le_of_ble_eq_true rfl, Nat.le_of_ble_eq_true rfl⟩) hK hP [] rfl rfl rfl hl.1 (Nat.le_of_ble_eq_true rfl) dX9_go_222 ⟨Nat.le_refl _, Nat.le_refl _⟩ ?_
                      refine lv_iload_n hx hb dX9_go_225 rfl (lv_at hl 3 rfl) ?_
                      refine lv_icmp_ne (tgt := 233) hx hb dX9_go_226 (by decide) (fun c226 => ?_) (fun c226 => ?_)
                      · refine lv_iconst (v := 0) hx hb dX9_go_233 (by decide) ?_
                        exact J234 0 (by rw [gdM_s, if_neg c217, if_neg c226])   _ _ hP hD hS ls (lv_sub hl [1, 2, 3, 4, 0] rfl)
                      · refine lv_iconst (v := 1) hx hb dX9_go_229 (by decide) ?_
                        refine lv_goto (tgt := 234) hx hb dX9_go_230 (by decide) ?_
                        exact J234 1 (by rw [gdM_s, if_neg c217, if_pos c226])   _ _ hP hD hS ls (lv_sub hl [1, 2, 3, 4, 0] rfl)
                  · refine lv_aload_n hx hb dX9_go_191 rfl (lv_at hl 0 rfl) ?_
                    refine lv_aload_n hx hb dX9_go_192 rfl (lv_at hl 0 rfl) ?_
                    refine g_get (C := RX9) (T := TX9) (N := 20) (ci := 9) (index := 21) hx hb hts in_X9_go_9 hown hK hP 0 4 rfl rfl (by decide) (List.mem_of_getElem? (i := 1) rfl) rfl dX9_go_193 ?_
                    refine rd_V (As := [.int (nI ((goP Tp n S.1) + k9))]) (rest := []) (ci := 9) (kX9_tapeAt l D cI cB mo q1 q2 q3 q4 q5 q6 q7 q8 th tn (nI ((goP Tp n S.1) + k9)) (nI (goP Tp n S.1)) S.2.2.1 (nuM Tp (goP Tp n S.1) k9) S.2.2.2.2.1 S.2.2.2.2.2.1 (wdM Tp (goP Tp n S.1) k9) sm rm Tp Nw S.2.2.2.2.2.2.2 Sn In Pd Rt Rw n ((goP Tp n S.1) + k9) (by first | assumption | omega) (by omega)) ⟨hx, hb, hml, hown, hts⟩ (cwV 1 hts gX9_go_X9_tapeAt rfl rfl rfl (by decide +kernel) ⟨Nat.le_of_ble_eq_true rfl, Nat.le_of_ble_eq_true rfl⟩) hK hP [0, 1, 2, 3, 4, 5, 6, 7, 8] rfl 0 rfl rfl rfl rfl hl.1 (Nat.le_of_ble_eq_true rfl) dX9_go_196 ⟨Nat.le_refl _, Nat.le_refl _⟩ ?_
                    refine rd_S (As := [.int (tpA Tp n ((goP Tp n S.1) + k9))]) (rest := []) (kX9_isDigit l D cI cB (tpA Tp n ((goP Tp n S.1) + k9)) ) ⟨hx, hb, hml, hown, hts⟩ (va_cwS 1 hts gX9_go_X9_isDigit rfl rfl rfl (by decide +kernel) ⟨Nat.le_of_ble_eq_true rfl, Nat.le_of_ble_eq_true rfl⟩) hK hP [] rfl rfl rfl hl.1 (Nat.le_of_ble_eq_true rfl) dX9_go_199 ⟨Nat.le_refl _, Nat.le_refl _⟩ ?_
                    refine lv_if_eq (tgt := 312) hx hb dX9_go_202 (by decide) (fun c202 => ?_) (fun c202 => ?_)
                    · have hE : (goP Tp n S.1) + k9 = goE Tp n (goP Tp n S.1) := by rw [← hinv9]; exact (bl_F (isaM_F c188 c202)).symm
                      have hk : k9 = goE Tp n (goP Tp n S.1) - (goP Tp n S.1) := by omega
                      refine lv_aload_n hx hb dX9_go_312 rfl (lv_at hl 0 rfl) ?_
                      refine lv_iload_n hx hb dX9_go_313 rfl (lv_at hl 3 rfl) ?_
                      refine lv_if_eq (tgt := 334) hx hb dX9_go_314 (by decide) (fun c314 => ?_) (fun c314 => ?_)
                      · refine lv_iconst (v := 1) hx hb dX9_go_334 (by decide) ?_
                        refine lv_goto (tgt := 347) hx hb dX9_go_335 (by decide) ?_
                        refine g_put (C := RX9) (T := TX9) (N := 20) (ci := 9) (index := 27) (v := .int 1) (ws' := [(mo, .inr (9, [.int th, .ref q1, .int tn, .int (nI n), .int (nI ((goP Tp n S.1) + k9)), .int (nI (goP Tp n S.1)), .int 1, .int (nuM Tp (goP Tp n S.1) k9), .int S.2.2.2.2.1, .int S.2.2.2.2.2.1, .long (wdM Tp (goP Tp n S.1) k9), .ref q2, .ref q3, .ref q4, .int sm, .ref q5, .ref q6, .ref q7, .ref q8, .int rm])), (q1, .inl (cI, 840, .inl Tp)), (q2, .inl (cI, 240, .inl Nw)), (q3, .inl (cI, 240, .inl S.2.2.2.2.2.2.2)), (q4, .inl (cI, 2880, .inl Sn)), (q5, .inl (cI, 4, .inl In)), (q6, .inl (cI, 500, .inl Pd)), (q7, .inl (cI, 500, .inl Rt)), (q8, .inl (cI, 10000, .inl Rw))]) hx hb hts in_X9_go_9 tyX9 tyX9_ok nmX9 hown hK hP hD hS 0 6 rfl rfl (by decide) (List.mem_of_getElem? (i := 5) rfl) rfl rfl rfl (Nat.le_of_ble_eq_true rfl) dX9_go_347 rfl (fun H_ lc_ hP hD hS => ?_)
                        exact hret _ _ _ ls hS (by unfold goM; rw [if_neg hA, if_neg hB, if_neg (fun z => by first | exact c124 z.1 | exact c131 z.2)]; rw [← hk, ← hE]; unfold soM; rw [if_pos c314]; exact hP) dX9_go_350
                      · refine lv_iload_n hx hb dX9_go_317 rfl (lv_at hl 2 rfl) ?_
                        refine lv_if_ne (tgt := 338) hx hb dX9_go_318 (by decide) (fun c318 => ?_) (fun c318 => ?_)
                        · refine lv_iload_n hx hb dX9_go_338 rfl (lv_at hl 2 rfl) ?_
                          refine lv_if_eq (tgt := 346) hx hb dX9_go_339 (by decide) (fun c339 => absurd c339 (c318)) (fun c339 => ?_)
                          refine lv_iconst (v := 2) hx hb dX9_go_342 (by decide) ?_
                          refine lv_goto (tgt := 347) hx hb dX9_go_343 (by decide) ?_
                          refine g_put (C := RX9) (T := TX9) (N := 20) (ci := 9) (index := 27) (v := .int 2) (ws' := [(mo, .inr (9, [.int th, .ref q1, .int tn, .int (nI n), .int (nI ((goP Tp n S.1) + k9)), .int (nI (goP Tp n S.1)), .int 2, .int (nuM Tp (goP Tp n S.1) k9), .int S.2.2.2.2.1, .int S.2.2.2.2.2.1, .long (wdM Tp (goP Tp n S.1) k9), .ref q2, .ref q3, .ref q4, .int sm, .ref q5, .ref q6, .ref q7, .ref q8, .int rm])), (q1, .inl (cI, 840, .inl Tp)), (q2, .inl (cI, 240, .inl Nw)), (q3, .inl (cI, 240, .inl S.2.2.2.2.2.2.2)), (q4, .inl (cI, 2880, .inl Sn)), (q5, .inl (cI, 4, .inl In)), (q6, .inl (cI, 500, .inl Pd)), (q7, .inl (cI, 500, .inl Rt)), (q8, .inl (cI, 10000, .inl Rw))]) hx hb hts in_X9_go_9 tyX9 tyX9_ok nmX9 hown hK hP hD hS 0 6 rfl rfl (by decide) (List.mem_of_getElem? (i := 5) rfl) rfl rfl rfl (Nat.le_of_ble_eq_true rfl) dX9_go_347 rfl (fun H_ lc_ hP hD hS => ?_)
                          exact hret _ _ _ ls hS (by unfold goM; rw [if_neg hA, if_neg hB, if_neg (fun z => by first | exact c124 z.1 | exact c131 z.2)]; rw [← hk, ← hE]; unfold soM; rw [if_neg c314, if_neg c318]; exact hP) dX9_go_350
                        · refine lv_aload_n hx hb dX9_go_321 rfl (lv_at hl 0 rfl) ?_
                          refine g_get (C := RX9) (T := TX9) (N := 20) (ci := 9) (index := 21) hx hb hts in_X9_go_9 hown hK hP 0 4 rfl rfl (by decide) (List.mem_of_getElem? (i := 1) rfl) rfl dX9_go_322 ?_
                          refine lv_aload_n hx hb dX9_go_325 rfl (lv_at hl 0 rfl) ?_
                          refine g_get (C := RX9) (T := TX9) (N := 20) (ci := 9) (index := 24) hx hb hts in_X9_go_9 hown hK hP 0 5 rfl rfl (by decide) (List.mem_of_getElem? (i := 4) rfl) rfl dX9_go_326 ?_
                          refine lv_isub hx hb dX9_go_329 ?_
                          rw [show ((nI ((goP Tp n S.1) + k9)) - (nI (goP Tp n S.1)) : Int32) = nI k9 from by rw [pk_sub (by omega), show (goP Tp n S.1) + k9 - (goP Tp n S.1) = k9 by omega]]
                          refine lv_iconst (v := 5) hx hb dX9_go_330 (by decide) ?_
                          refine lv_icmp_le (tgt := 338) hx hb dX9_go_331 (by decide) (fun c331 => ?_) (fun c331 => ?_)
                          · refine lv_iload_n hx hb dX9_go_338 rfl (lv_at hl 2 rfl) ?_
                            refine lv_if_eq (tgt := 346) hx hb dX9_go_339 (by decide) (fun c339 => ?_) (fun c339 => absurd (c318) c339)
                            refine lv_iconst (v := 3) hx hb dX9_go_346 (by decide) ?_
                            refine g_put (C := RX9) (T := TX9) (N := 20) (ci := 9) (index := 27) (v := .int 3) (ws' := [(mo, .inr (9, [.int th, .ref q1, .int tn, .int (nI n), .int (nI ((goP Tp n S.1) + k9)), .int (nI (goP Tp n S.1)), .int 3, .int (nuM Tp (goP Tp n S.1) k9), .int S.2.2.2.2.1, .int S.2.2.2.2.2.1, .long (wdM Tp (goP Tp n S.1) k9), .ref q2, .ref q3, .ref q4, .int sm, .ref q5, .ref q6, .ref q7, .ref q8, .int rm])), (q1, .inl (cI, 840, .inl Tp)), (q2, .inl (cI, 240, .inl Nw)), (q3, .inl (cI, 240, .inl S.2.2.2.2.2.2.2)), (q4, .inl (cI, 2880, .inl Sn)), (q5, .inl (cI, 4, .inl In)), (q6, .inl (cI, 500, .inl Pd)), (q7, .inl (cI, 500, .inl Rt)), (q8, .inl (cI, 10000, .inl Rw))]) hx hb hts in_X9_go_9 tyX9 tyX9_ok nmX9 hown hK hP hD hS 0 6 rfl rfl (by decide) (List.mem_of_getElem? (i := 5) rfl) rfl rfl rfl (Nat.le_of_ble_eq_true rfl) dX9_go_347 rfl (fun H_ lc_ hP hD hS => ?_)
                            exact hret _ _ _ ls hS (by unfold goM; rw [if_neg hA, if_neg hB, if_neg (fun z => by first | exact c124 z.1 | exact c131 z.2)]; rw [← hk, ← hE]; unfold soM; rw [if_neg c314, if_pos c318, if_pos c331]; exact hP) dX9_go_350
                          · refine lv_iconst (v := 1) hx hb dX9_go_334 (by decide) ?_
                            refine lv_goto (tgt := 347) hx hb dX9_go_335 (by decide) ?_
                            refine g_put (C := RX9) (T := TX9) (N := 20) (ci := 9) (index := 27) (v := .int 1) (ws' := [(mo, .inr (9, [.int th, .ref q1, .int tn, .int (nI n), .int (nI ((goP Tp n S.1) + k9)), .int (nI (goP Tp n S.1)), .int 1, .int (nuM Tp (goP Tp n S.1) k9), .int S.2.2.2.2.1, .int S.2.2.2.2.2.1, .long (wdM Tp (goP Tp n S.1) k9), .ref q2, .ref q3, .ref q4, .int sm, .ref q5, .ref q6, .ref q7, .ref q8, .int rm])), (q1, .inl (cI, 840, .inl Tp)), (q2, .inl (cI, 240, .inl Nw)), (q3, .inl (cI, 240, .inl S.2.2.2.2.2.2.2)), (q4, .inl (cI, 2880, .inl Sn)), (q5, .inl (cI, 4, .inl In)), (q6, .inl (cI, 500, .inl Pd)), (q7, .inl (cI, 500, .inl Rt)), (q8, .inl (cI, 10000, .inl Rw))]) hx hb hts in_X9_go_9 tyX9 tyX9_ok nmX9 hown hK hP hD hS 0 6 rfl rfl (by decide) (List.mem_of_getElem? (i := 5) rfl) rfl rfl rfl (Nat.le_of_ble_eq_true rfl) dX9_go_347 rfl (fun H_ lc_ hP hD hS => ?_)
                            exact hret _ _ _ ls hS (by unfold goM; rw [if_neg hA, if_neg hB, if_neg (fun z => by first | exact c124 z.1 | exact c131 z.2)]; rw [← hk, ← hE]; unfold soM; rw [if_neg c314, if_pos c318, if_neg c331]; exact hP) dX9_go_350
                    · have hal : ¬ isInM (tpA Tp n ((goP Tp n S.1) + k9)) 97 122 = 0 ∨ ¬ isInM (tpA Tp n ((goP Tp n S.1) + k9)) 48 57 = 0 := by first | exact Or.inl c188 | exact Or.inr c202
                      have ha := isaM_lt hn (by omega) hal
                      refine lv_aload_n hx hb dX9_go_205 rfl (lv_at hl 0 rfl) ?_
                      refine g_get (C := RX9) (T := TX9) (N := 20) (ci := 9) (index := 7) hx hb hts in_X9_go_9 hown hK hP 0 1 rfl rfl (by decide) (List.mem_of_getElem? (i := 3) rfl) rfl dX9_go_206 ?_
                      refine lv_aload_n hx hb dX9_go_209 rfl (lv_at hl 0 rfl) ?_
                      refine g_get (C := RX9) (T := TX9) (N := 20) (ci := 9) (index := 21) hx hb hts in_X9_go_9 hown hK hP 0 4 rfl rfl (by decide) (List.mem_of_getElem? (i := 1) rfl) rfl dX9_go_210 ?_
                      refine g_iald hx hb hK hP 1 0 rfl rfl ((goP Tp n S.1) + k9) (rfl) (by omega) (by omega) dX9_go_213 ?_
                      refine lv_istore (lv' := [(4, .int (Tp ((goP Tp n S.1) + k9))), (0, .ref mo), (1, .int (Tp (goP Tp n S.1))), (2, .int (isInM (Tp (goP Tp n S.1)) 97 122)), (3, .int (gdM Tp (goP Tp n S.1) (isInM (Tp (goP Tp n S.1)) 97 122) k9))]) hx hb dX9_go_214 hl (by decide) rfl (fun ls hl => ?_)
                      have J234 : ∀ (g9 : Int32) (hg : g9 = gdM Tp (goP Tp n S.1) (isInM (Tp (goP Tp n S.1)) 97 122) (k9 + 1)) , ∀ (H_ : Heap) (lc_ : List Loc), va_P D vwCl [(mo, .inr (9, [.int th, .ref q1, .int tn, .int (nI n), .int (nI ((goP Tp n S.1) + k9)), .int (nI (goP Tp n S.1)), .int S.2.2.1, .int (nuM Tp (goP Tp n S.1) k9), .int S.2.2.2.2.1, .int S.2.2.2.2.2.1, .long (wdM Tp (goP Tp n S.1) k9), .ref q2, .ref q3, .ref q4, .int sm, .ref q5, .ref q6, .ref q7, .ref q8, .int rm])), (q1, .inl (cI, 840, .inl Tp)), (q2, .inl (cI, 240, .inl Nw)), (q3, .inl (cI, 240, .inl S.2.2.2.2.2.2.2)), (q4, .inl (cI, 2880, .inl Sn)), (q5, .inl (cI, 4, .inl In)), (q6, .inl (cI, 500, .inl Pd)), (q7, .inl (cI, 500, .inl Rt)), (q8, .inl (cI, 10000, .inl Rw))] H_ → va_D A_ [(mo, .inr (9, [.int th, .ref q1, .int tn, .int (nI n), .int (nI ((goP Tp n S.1) + k9)), .int (nI (goP Tp n S.1)), .int S.2.2.1, .int (nuM Tp (goP Tp n S.1) k9), .int S.2.2.2.2.1, .int S.2.2.2.2.2.1, .long (wdM Tp (goP Tp n S.1) k9), .ref q2, .ref q3, .ref q4, .int sm, .ref q5, .ref q6, .ref q7, .ref q8, .int rm])), (q1, .inl (cI, 840, .inl Tp)), (q2, .inl (cI, 240, .inl Nw)), (q3, .inl (cI, 240, .inl S.2.2.2.2.2.2.2)), (q4, .inl (cI, 2880, .inl Sn)), (q5, .inl (cI, 4, .inl In)), (q6, .inl (cI, 500, .inl Pd)), (q7, .inl (cI, 500, .inl Rt)), (q8, .inl (cI, 10000, .inl Rw))] → va_S A_ s_.heap H_ lc_ → ∀ (ls : Array Slot), lv_has ls 5 [(0, .ref mo), (1, .int (Tp (goP Tp n S.1))), (2, .int (isInM (Tp (goP Tp n S.1)) 97 122)), (3, .int (gdM Tp (goP Tp n S.1) (isInM (Tp (goP Tp n S.1)) 97 122) k9)), (4, .int (Tp ((goP Tp n S.1) + k9)))] → W p_ l e_ (RM 1 21) s_ m_ ar_ be_ me_ co_ H_ lc_ 0 0 Q_ (F0 m_ 234 ls [.int g9]) := by
                        intro g9 hg  H_ lc_ hP hD hS ls hl
                        refine lv_istore_n (lv' := [(3, .int g9), (0, .ref mo), (1, .int (Tp (goP Tp n S.1))), (2, .int (isInM (Tp (goP Tp n S.1)) 97 122)), (4, .int (Tp ((goP Tp n S.1) + k9)))]) hx hb dX9_go_234 rfl hl (by decide) rfl (fun ls hl => ?_)
                        refine lv_aload_n hx hb dX9_go_235 rfl (lv_at hl 1 rfl) ?_
                        refine g_get (C := RX9) (T := TX9) (N := 20) (ci := 9) (index := 21) hx hb hts in_X9_go_9 hown hK hP 0 4 rfl rfl (by decide) (List.mem_of_getElem? (i := 1) rfl) rfl dX9_go_236 ?_
                        refine lv_aload_n hx hb dX9_go_239 rfl (lv_at hl 1 rfl) ?_
                        refine g_get (C := RX9) (T := TX9) (N := 20) (ci := 9) (index := 24) hx hb hts in_X9_go_9 hown hK hP 0 5 rfl rfl (by decide) (List.mem_of_getElem? (i := 4) rfl) rfl dX9_go_240 ?_
                        refine lv_isub hx hb dX9_go_243 ?_
                        rw [show ((nI ((goP Tp n S.1) + k9)) - (nI (goP Tp n S.1)) : Int32) = nI k9 from by rw [pk_sub (by omega), show (goP Tp n S.1) + k9 - (goP Tp n S.1) = k9 by omega]]
                        refine lv_bipush (v := 7) hx hb dX9_go_244 (by decide) ?_
                        refine lv_icmp_ge (tgt := 269) hx hb dX9_go_246 (by decide) (fun c246 => ?_) (fun c246 => ?_)
                        · refine lv_aload_n hx hb dX9_go_269 rfl (lv_at hl 1 rfl) ?_
                          refine g_get (C := RX9) (T := TX9) (N := 20) (ci := 9) (index := 21) hx hb hts in_X9_go_9 hown hK hP 0 4 rfl rfl (by decide) (List.mem_of_getElem? (i := 1) rfl) rfl dX9_go_270 ?_
                          refine lv_aload_n hx hb dX9_go_273 rfl (lv_at hl 1 rfl) ?_
                          refine g_get (C := RX9) (T := TX9) (N := 20) (ci := 9) (index := 24) hx hb hts in_X9_go_9 hown hK hP 0 5 rfl rfl (by decide) (List.mem_of_getElem? (i := 4) rfl) rfl dX9_go_274 ?_
                          refine lv_isub hx hb dX9_go_277 ?_
                          rw [show ((nI ((goP Tp n S.1) + k9)) - (nI (goP Tp n S.1)) : Int32) = nI k9 from by rw [pk_sub (by omega), show (goP Tp n S.1) + k9 - (goP Tp n S.1) = k9 by omega]]
                          refine lv_iconst (v := 5) hx hb dX9_go_278 (by decide) ?_
                          refine lv_icmp_ge (tgt := 299) hx hb dX9_go_279 (by decide) (fun c279 => ?_) (fun c279 => ?_)
                          · refine lv_aload_n hx hb dX9_go_299 rfl (lv_at hl 1 rfl) ?_
                            refine lv_dup hx hb dX9_go_300 rfl ?_
                            refine g_get (C := RX9) (T := TX9) (N := 20) (ci := 9) (index := 21) hx hb hts in_X9_go_9 hown hK hP 0 4 rfl rfl (by decide) (List.mem_of_getElem? (i := 1) rfl) rfl dX9_go_301 ?_
                            refine lv_iconst (v := 1) hx hb dX9_go_304 (by decide) ?_
                            refine lv_iadd hx hb dX9_go_305 ?_
                            rw [show ((nI ((goP Tp n S.1) + k9)) + 1 : Int32) = nI ((goP Tp n S.1) + (k9 + 1)) from nI_1 _]
                            refine g_put (C := RX9) (T := TX9) (N := 20) (ci := 9) (index := 21) (v := .int (nI ((goP Tp n S.1) + (k9 + 1)))) (ws' := [(mo, .inr (9, [.int th, .ref q1, .int tn, .int (nI n), .int (nI ((goP Tp n S.1) + (k9 + 1))), .int (nI (goP Tp n S.1)), .int S.2.2.1, .int (nuM Tp (goP Tp n S.1) k9), .int S.2.2.2.2.1, .int S.2.2.2.2.2.1, .long (wdM Tp (goP Tp n S.1) k9), .ref q2, .ref q3, .ref q4, .int sm, .ref q5, .ref q6, .ref q7, .ref q8, .int rm])), (q1, .inl (cI, 840, .inl Tp)), (q2, .inl (cI, 240, .inl Nw)), (q3, .inl (cI, 240, .inl S.2.2.2.2.2.2.2)), (q4, .inl (cI, 2880, .inl Sn)), (q5, .inl (cI, 4, .inl In)), (q6, .inl (cI, 500, .inl Pd)), (q7, .inl (cI, 500, .inl Rt)), (q8, .inl (cI, 10000, .inl Rw))]) hx hb hts in_X9_go_9 tyX9 tyX9_ok nmX9 hown hK hP hD hS 0 4 rfl rfl (by decide) (List.mem_of_getElem? (i := 1) rfl) rfl rfl rfl (Nat.le_of_ble_eq_true rfl) dX9_go_306 rfl (fun H_ lc_ hP hD hS => ?_)
                            refine lv_goto (tgt := 177) hx hb dX9_go_309 (by decide) ?_
                            exact ih177 (k9 + 1) (by omega) (by rw [← hinv9]; exact (bl_T (isaM_T hal) ha.1).symm) _ _ _ _ (by omega) (hg) (rfl) (by rw [wdM_s, if_pos c246]) (by rw [nuM_s, if_pos c279]) _ _ hP hD hS ls (lv_sub hl [1, 2, 3, 0] rfl)
                          · refine lv_aload_n hx hb dX9_go_282 rfl (lv_at hl 1 rfl) ?_
                            refine lv_bipush (v := 10) hx hb dX9_go_283 (by decide) ?_
                            refine lv_aload_n hx hb dX9_go_285 rfl (lv_at hl 1 rfl) ?_
                            refine g_get (C := RX9) (T := TX9) (N := 20) (ci := 9) (index := 41) hx hb hts in_X9_go_9 hown hK hP 0 7 rfl rfl (by decide) (List.mem_of_getElem? (i := 7) rfl) rfl dX9_go_286 ?_
                            refine lv_imul hx hb dX9_go_289 ?_
                            refine lv_iload hx hb dX9_go_290 (lv_at hl 4 rfl) ?_
                            refine lv_iadd hx hb dX9_go_292 ?_
                            refine lv_bipush (v := 48) hx hb dX9_go_293 (by decide) ?_
                            refine lv_isub hx hb dX9_go_295 ?_
                            refine g_put (C := RX9) (T := TX9) (N := 20) (ci := 9) (index := 41) (v := .int (((10 * (nuM Tp (goP Tp n S.1) k9)) + (Tp ((goP Tp n S.1) + k9))) - 48)) (ws' := [(mo, .inr (9, [.int th, .ref q1, .int tn, .int (nI n), .int (nI ((goP Tp n S.1) + k9)), .int (nI (goP Tp n S.1)), .int S.2.2.1, .int (((10 * (nuM Tp (goP Tp n S.1) k9)) + (Tp ((goP Tp n S.1) + k9))) - 48), .int S.2.2.2.2.1, .int S.2.2.2.2.2.1, .long (wdM Tp (goP Tp n S.1) k9), .ref q2, .ref q3, .ref q4, .int sm, .ref q5, .ref q6, .ref q7, .ref q8, .int rm])), (q1, .inl (cI, 840, .inl Tp)), (q2, .inl (cI, 240, .inl Nw)), (q3, .inl (cI, 240, .inl S.2.2.2.2.2.2.2)), (q4, .inl (cI, 2880, .inl Sn)), (q5, .inl (cI, 4, .inl In)), (q6, .inl (cI, 500, .inl Pd)), (q7, .inl (cI, 500, .inl Rt)), (q8, .inl (cI, 10000, .inl Rw))]) hx hb hts in_X9_go_9 tyX9 tyX9_ok nmX9 hown hK hP hD hS 0 7 rfl rfl (by decide) (List.mem_of_getElem? (i := 7) rfl) rfl rfl rfl (Nat.le_of_ble_eq_true rfl) dX9_go_296 rfl (fun H_ lc_ hP hD hS => ?_)
                            refine lv_aload_n hx hb dX9_go_299 rfl (lv_at hl 1 rfl) ?_
                            refine lv_dup hx hb dX9_go_300 rfl ?_
                            refine g_get (C := RX9) (T := TX9) (N := 20) (ci := 9) (index := 21) hx hb hts in_X9_go_9 hown hK hP 0 4 rfl rfl (by decide) (List.mem_of_getElem? (i := 1) rfl) rfl dX9_go_301 ?_
                            refine lv_iconst (v := 1) hx hb dX9_go_304 (by decide) ?_
                            refine lv_iadd hx hb dX9_go_305 ?_
                            rw [show ((nI ((goP Tp n S.1) + k9)) + 1 : Int32) = nI ((goP Tp n S.1) + (k9 + 1)) from nI_1 _]
                            refine g_put (C := RX9) (T := TX9) (N := 20) (ci := 9) (index := 21) (v := .int (nI ((goP Tp n S.1) + (k9 + 1)))) (ws' := [(mo, .inr (9, [.int th, .ref q1, .int tn, .int (nI n), .int (nI ((goP Tp n S.1) + (k9 + 1))), .int (nI (goP Tp n S.1)), .int S.2.2.1, .int (((10 * (nuM Tp (goP Tp n S.1) k9)) + (Tp ((goP Tp n S.1) + k9))) - 48), .int S.2.2.2.2.1, .int S.2.2.2.2.2.1, .long (wdM Tp (goP Tp n S.1) k9), .ref q2, .ref q3, .ref q4, .int sm, .ref q5, .ref q6, .ref q7, .ref q8, .int rm])), (q1, .inl (cI, 840, .inl Tp)), (q2, .inl (cI, 240, .inl Nw)), (q3, .inl (cI, 240, .inl S.2.2.2.2.2.2.2)), (q4, .inl (cI, 2880, .inl Sn)), (q5, .inl (cI, 4, .inl In)), (q6, .inl (cI, 500, .inl Pd)), (q7, .inl (cI, 500, .inl Rt)), (q8, .inl (cI, 10000, .inl Rw))]) hx hb hts in_X9_go_9 tyX9 tyX9_ok nmX9 hown hK hP hD hS 0 4 rfl rfl (by decide) (List.mem_of_getElem? (i := 1) rfl) rfl rfl rfl (Nat.le_of_ble_eq_true rfl) dX9_go_306 rfl (fun H_ lc_ hP hD hS => ?_)
                            refine lv_goto (tgt := 177) hx hb dX9_go_309 (by decide) ?_
                            exact ih177 (k9 + 1) (by omega) (by rw [← hinv9]; exact (bl_T (isaM_T hal) ha.1).symm) _ _ _ _ (by omega) (hg) (rfl) (by rw [wdM_s, if_pos c246]) (by rw [nuM_s, if_neg c279]) _ _ hP hD hS ls (lv_sub hl [1, 2, 3, 0] rfl)
                        · refine lv_aload_n hx hb dX9_go_249 rfl (lv_at hl 1 rfl) ?_
                          refine lv_ldc2 (v := 27) hx hb hown (hts (.constantLong RX9 48 (27)) (List.mem_of_getElem? (i := 8) rfl)) dX9_go_250 ?_
                          refine lv_aload_n hx hb dX9_go_253 rfl (lv_at hl 1 rfl) ?_
                          refine g_get (C := RX9) (T := TX9) (N := 20) (ci := 9) (index := 37) hx hb hts in_X9_go_9 hown hK hP 0 10 rfl rfl (by decide) (List.mem_of_getElem? (i := 6) rfl) rfl dX9_go_254 ?_
                          refine lv_lmul hx hb dX9_go_257 ?_
                          refine lv_iload hx hb dX9_go_258 (lv_at hl 4 rfl) ?_
                          refine lv_i2l (v := (Tp ((goP Tp n S.1) + k9)).toInt64) hx hb dX9_go_260 rfl ?_
                          refine lv_ladd hx hb dX9_go_261 ?_
                          refine lv_ldc2 (v := 96) hx hb hown (hts (.constantLong RX9 50 (96)) (List.mem_of_getElem? (i := 9) rfl)) dX9_go_262 ?_
                          refine lv_lsub hx hb dX9_go_265 ?_
                          refine g_put (C := RX9) (T := TX9) (N := 20) (ci := 9) (index := 37) (v := .long (((27 * (wdM Tp (goP Tp n S.1) k9)) + ((Tp ((goP Tp n S.1) + k9)).toInt64)) - 96)) (ws' := [(mo, .inr (9, [.int th, .ref q1, .int tn, .int (nI n), .int (nI ((goP Tp n S.1) + k9)), .int (nI (goP Tp n S.1)), .int S.2.2.1, .int (nuM Tp (goP Tp n S.1) k9), .int S.2.2.2.2.1, .int S.2.2.2.2.2.1, .long (((27 * (wdM Tp (goP Tp n S.1) k9)) + ((Tp ((goP Tp n S.1) + k9)).toInt64)) - 96), .ref q2, .ref q3, .ref q4, .int sm, .ref q5, .ref q6, .ref q7, .ref q8, .int rm])), (q1, .inl (cI, 840, .inl Tp)), (q2, .inl (cI, 240, .inl Nw)), (q3, .inl (cI, 240, .inl S.2.2.2.2.2.2.2)), (q4, .inl (cI, 2880, .inl Sn)), (q5, .inl (cI, 4, .inl In)), (q6, .inl (cI, 500, .inl Pd)), (q7, .inl (cI, 500, .inl Rt)), (q8, .inl (cI, 10000, .inl Rw))]) hx hb hts in_X9_go_9 tyX9 tyX9_ok nmX9 hown hK hP hD hS 0 10 rfl rfl (by decide) (List.mem_of_getElem? (i := 6) rfl) rfl rfl rfl (Nat.le_of_ble_eq_true rfl) dX9_go_266 rfl (fun H_ lc_ hP hD hS => ?_)
                          refine lv_aload_n hx hb dX9_go_269 rfl (lv_at hl 1 rfl) ?_
                          refine g_get (C := RX9) (T := TX9) (N := 20) (ci := 9) (index := 21) hx hb hts in_X9_go_9 hown hK hP 0 4 rfl rfl (by decide) (List.mem_of_getElem? (i := 1) rfl) rfl dX9_go_270 ?_
                          refine lv_aload_n hx hb dX9_go_273 rfl (lv_at hl 1 rfl) ?_
                          refine g_get (C := RX9) (T := TX9) (N := 20) (ci := 9) (index := 24) hx hb hts in_X9_go_9 hown hK hP 0 5 rfl rfl (by decide) (List.mem_of_getElem? (i := 4) rfl) rfl dX9_go_274 ?_
                          refine lv_isub hx hb dX9_go_277 ?_
                          rw [show ((nI ((goP Tp n S.1) + k9)) - (nI (goP Tp n S.1)) : Int32) = nI k9 from by rw [pk_sub (by omega), show (goP Tp n S.1) + k9 - (goP Tp n S.1) = k9 by omega]]
                          refine lv_iconst (v := 5) hx hb dX9_go_278 (by decide) ?_
                          refine lv_icmp_ge (tgt := 299) hx hb dX9_go_279 (by decide) (fun c279 => ?_) (fun c279 => ?_)
                          · refine lv_aload_n hx hb dX9_go_299 rfl (lv_at hl 1 rfl) ?_
                            refine lv_dup hx hb dX9_go_300 rfl ?_
                            refine g_get (C := RX9) (T := TX9) (N := 20) (ci := 9) (index := 21) hx hb hts in_X9_go_9 hown hK hP 0 4 rfl rfl (by decide) (List.mem_of_getElem? (i := 1) rfl) rfl dX9_go_301 ?_
                            refine lv_iconst (v := 1) hx hb dX9_go_304 (by decide) ?_
                            refine lv_iadd hx hb dX9_go_305 ?_
                            rw [show ((nI ((goP Tp n S.1) + k9)) + 1 : Int32) = nI ((goP Tp n S.1) + (k9 + 1)) from nI_1 _]
                            refine g_put (C := RX9) (T := TX9) (N := 20) (ci := 9) (index := 21) (v := .int (nI ((goP Tp n S.1) + (k9 + 1)))) (ws' := [(mo, .inr (9, [.int th, .ref q1, .int tn, .int (nI n), .int (nI ((goP Tp n S.1) + (k9 + 1))), .int (nI (goP Tp n S.1)), .int S.2.2.1, .int (nuM Tp (goP Tp n S.1) k9), .int S.2.2.2.2.1, .int S.2.2.2.2.2.1, .long (((27 * (wdM Tp (goP Tp n S.1) k9)) + ((Tp ((goP Tp n S.1) + k9)).toInt64)) - 96), .ref q2, .ref q3, .ref q4, .int sm, .ref q5, .ref q6, .ref q7, .ref q8, .int rm])), (q1, .inl (cI, 840, .inl Tp)), (q2, .inl (cI, 240, .inl Nw)), (q3, .inl (cI, 240, .inl S.2.2.2.2.2.2.2)), (q4, .inl (cI, 2880, .inl Sn)), (q5, .inl (cI, 4, .inl In)), (q6, .inl (cI, 500, .inl Pd)), (q7, .inl (cI, 500, .inl Rt)), (q8, .inl (cI, 10000, .inl Rw))]) hx hb hts in_X9_go_9 tyX9 tyX9_ok nmX9 hown hK hP hD hS 0 4 rfl rfl (by decide) (List.mem_of_getElem? (i := 1) rfl) rfl rfl rfl (Nat.le_of_ble_eq_true rfl) dX9_go_306 rfl (fun H_ lc_ hP hD hS => ?_)
                            refine lv_goto (tgt := 177) hx hb dX9_go_309 (by decide) ?_
                            exact ih177 (k9 + 1) (by omega) (by rw [← hinv9]; exact (bl_T (isaM_T hal) ha.1).symm) _ _ _ _ (by omega) (hg) (rfl) (by rw [wdM_s, if_neg c246]) (by rw [nuM_s, if_pos c279]) _ _ hP hD hS ls (lv_sub hl [1, 2, 3, 0] rfl)
                          · refine lv_aload_n hx hb dX9_go_282 rfl (lv_at hl 1 rfl) ?_
                            refine lv_bipush (v := 10) hx hb dX9_go_283 (by decide) ?_
                            refine lv_aload_n hx hb dX9_go_285 rfl (lv_at hl 1 rfl) ?_
                            refine g_get (C := RX9) (T := TX9) (N := 20) (ci := 9) (index := 41) hx hb hts in_X9_go_9 hown hK hP 0 7 rfl rfl (by decide) (List.mem_of_getElem? (i := 7) rfl) rfl dX9_go_286 ?_
                            refine lv_imul hx hb dX9_go_289 ?_
                            refine lv_iload hx hb dX9_go_290 (lv_at hl 4 rfl) ?_
                            refine lv_iadd hx hb dX9_go_292 ?_
                            refine lv_bipush (v := 48) hx hb dX9_go_293 (by decide) ?_
                            refine lv_isub hx hb dX9_go_295 ?_
                            refine g_put (C := RX9) (T := TX9) (N := 20) (ci := 9) (index := 41) (v := .int (((10 * (nuM Tp (goP Tp n S.1) k9)) + (Tp ((goP Tp n S.1) + k9))) - 48)) (ws' := [(mo, .inr (9, [.int th, .ref q1, .int tn, .int (nI n), .int (nI ((goP Tp n S.1) + k9)), .int (nI (goP Tp n S.1)), .int S.2.2.1, .int (((10 * (nuM Tp (goP Tp n S.1) k9)) + (Tp ((goP Tp n S.1) + k9))) - 48), .int S.2.2.2.2.1, .int S.2.2.2.2.2.1, .long (((27 * (wdM Tp (goP Tp n S.1) k9)) + ((Tp ((goP Tp n S.1) + k9)).toInt64)) - 96), .ref q2, .ref q3, .ref q4, .int sm, .ref q5, .ref q6, .ref q7, .ref q8, .int rm])), (q1, .inl (cI, 840, .inl Tp)), (q2, .inl (cI, 240, .inl Nw)), (q3, .inl (cI, 240, .inl S.2.2.2.2.2.2.2)), (q4, .inl (cI, 2880, .inl Sn)), (q5, .inl (cI, 4, .inl In)), (q6, .inl (cI, 500, .inl Pd)), (q7, .inl (cI, 500, .inl Rt)), (q8, .inl (cI, 10000, .inl Rw))]) hx hb hts in_X9_go_9 tyX9 tyX9_ok nmX9 hown hK hP hD hS 0 7 rfl rfl (by decide) (List.mem_of_getElem? (i := 7) rfl) rfl rfl rfl (Nat.le_of_ble_eq_true rfl) dX9_go_296 rfl (fun H_ lc_ hP hD hS => ?_)
                            refine lv_aload_n hx hb dX9_go_299 rfl (lv_at hl 1 rfl) ?_
                            refine lv_dup hx hb dX9_go_300 rfl ?_
                            refine g_get (C := RX9) (T := TX9) (N := 20) (ci := 9) (index := 21) hx hb hts in_X9_go_9 hown hK hP 0 4 rfl rfl (by decide) (List.mem_of_getElem? (i := 1) rfl) rfl dX9_go_301 ?_
                            refine lv_iconst (v := 1) hx hb dX9_go_304 (by decide) ?_
                            refine lv_iadd hx hb dX9_go_305 ?_
                            rw [show ((nI ((goP Tp n S.1) + k9)) + 1 : Int32) = nI ((goP Tp n S.1) + (k9 + 1)) from nI_1 _]
                            refine g_put (C := RX9) (T := TX9) (N := 20) (ci := 9) (index := 21) (v := .int (nI ((goP Tp n S.1) + (k9 + 1)))) (ws' := [(mo, .inr (9, [.int th, .ref q1, .int tn, .int (nI n), .int (nI ((goP Tp n S.1) + (k9 + 1))), .int (nI (goP Tp n S.1)), .int S.2.2.1, .int (((10 * (nuM Tp (goP Tp n S.1) k9)) + (Tp ((goP Tp n S.1) + k9))) - 48), .int S.2.2.2.2.1, .int S.2.2.2.2.2.1, .long (((27 * (wdM Tp (goP Tp n S.1) k9)) + ((Tp ((goP Tp n S.1) + k9)).toInt64)) - 96), .ref q2, .ref q3, .ref q4, .int sm, .ref q5, .ref q6, .ref q7, .ref q8, .int rm])), (q1, .inl (cI, 840, .inl Tp)), (q2, .inl (cI, 240, .inl Nw)), (q3, .inl (cI, 240, .inl S.2.2.2.2.2.2.2)), (q4, .inl (cI, 2880, .inl Sn)), (q5, .inl (cI, 4, .inl In)), (q6, .inl (cI, 500, .inl Pd)), (q7, .inl (cI, 500, .inl Rt)), (q8, .inl (cI, 10000, .inl Rw))]) hx hb hts in_X9_go_9 tyX9 tyX9_ok nmX9 hown hK hP hD hS 0 4 rfl rfl (by decide) (List.mem_of_getElem? (i := 1) rfl) rfl rfl rfl (Nat.le_of_ble_eq_true rfl) dX9_go_306 rfl (fun H_ lc_ hP hD hS => ?_)
                            refine lv_goto (tgt := 177) hx hb dX9_go_309 (by decide) ?_
                            exact ih177 (k9 + 1) (by omega) (by rw [← hinv9]; exact (bl_T (isaM_T hal) ha.1).symm) _ _ _ _ (by omega) (hg) (rfl) (by rw [wdM_s, if_neg c246]) (by rw [nuM_s, if_neg c279]) _ _ hP hD hS ls (lv_sub hl [1, 2, 3, 0] rfl)
                      refine lv_iload_n hx hb dX9_go_216 rfl (lv_at hl 4 rfl) ?_
                      refine lv_if_eq (tgt := 233) hx hb dX9_go_217 (by decide) (fun c217 => ?_) (fun c217 => ?_)
                      · refine lv_iconst (v := 0) hx hb dX9_go_233 (by decide) ?_
                        exact J234 0 (by rw [gdM_s, if_pos c217])   _ _ hP hD hS ls (lv_sub hl [1, 2, 3, 4, 0] rfl)
                      · refine lv_iload hx hb dX9_go_220 (lv_at hl 0 rfl) ?_
                        refine rd_S (As := [.int (Tp ((goP Tp n S.1) + k9))]) (rest := []) (kX9_isLetter l D cI cB (Tp ((goP Tp n S.1) + k9)) ) ⟨hx, hb, hml, hown, hts⟩ (va_cwS 1 hts gX9_go_X9_isLetter rfl rfl rfl (by decide +kernel) ⟨Nat.le_of_ble_eq_true rfl, Nat.le_of_ble_eq_true rfl⟩) hK hP [] rfl rfl rfl hl.1 (Nat.le_of_ble_eq_true rfl) dX9_go_222 ⟨Nat.le_refl _, Nat.le_refl _⟩ ?_
                        refine lv_iload_n hx hb dX9_go_225 rfl (lv_at hl 3 rfl) ?_
                        refine lv_icmp_ne (tgt := 233) hx hb dX9_go_226 (by decide) (fun c226 => ?_) (fun c226 => ?_)
                        · refine lv_iconst (v := 0) hx hb dX9_go_233 (by decide) ?_
                          exact J234 0 (by rw [gdM_s, if_neg c217, if_neg c226])   _ _ hP hD hS ls (lv_sub hl [1, 2, 3, 4, 0] rfl)
                        · refine lv_iconst (v := 1) hx hb dX9_go_229 (by decide) ?_
                          refine lv_goto (tgt := 234) hx hb dX9_go_230 (by decide) ?_
                          exact J234 1 (by rw [gdM_s, if_neg c217, if_pos c226])   _ _ hP hD hS ls (lv_sub hl [1, 2, 3, 4, 0] rfl)
              exact L177 (n - ((goP Tp n S.1) + 0) + 1) 0 (by omega) (rfl) _ _ _ _ (Nat.lt_succ_self _) (rfl) (rfl) (rfl) (rfl) _ _ hP hD hS ls (lv_sub hl [3, 2, 1, 0] rfl)
            · refine lv_aload_n hx hb dX9_go_134 rfl (lv_at hl 1 rfl) ?_
              refine lv_iload_n hx hb dX9_go_135 rfl (lv_at hl 0 rfl) ?_
              refine lv_bipush (v := 59) hx hb dX9_go_136 (by decide) ?_
              refine lv_icmp_ne (tgt := 145) hx hb dX9_go_138 (by decide) (fun c138 => ?_) (fun c138 => ?_)
              · refine lv_iconst (v := 1) hx hb dX9_go_145 (by decide) ?_
                refine g_put (C := RX9) (T := TX9) (N := 20) (ci := 9) (index := 27) (v := .int 1) (ws' := [(mo, .inr (9, [.int th, .ref q1, .int tn, .int (nI n), .int (nI (goP Tp n S.1)), .int (nI (goP Tp n S.1)), .int 1, .int S.2.2.2.1, .int S.2.2.2.2.1, .int S.2.2.2.2.2.1, .long S.2.2.2.2.2.2.1, .ref q2, .ref q3, .ref q4, .int sm, .ref q5, .ref q6, .ref q7, .ref q8, .int rm])), (q1, .inl (cI, 840, .inl Tp)), (q2, .inl (cI, 240, .inl Nw)), (q3, .inl (cI, 240, .inl S.2.2.2.2.2.2.2)), (q4, .inl (cI, 2880, .inl Sn)), (q5, .inl (cI, 4, .inl In)), (q6, .inl (cI, 500, .inl Pd)), (q7, .inl (cI, 500, .inl Rt)), (q8, .inl (cI, 10000, .inl Rw))]) hx hb hts in_X9_go_9 tyX9 tyX9_ok nmX9 hown hK hP hD hS 0 6 rfl rfl (by decide) (List.mem_of_getElem? (i := 5) rfl) rfl rfl rfl (Nat.le_of_ble_eq_true rfl) dX9_go_146 rfl (fun H_ lc_ hP hD hS => ?_)
                refine lv_aload_n hx hb dX9_go_149 rfl (lv_at hl 1 rfl) ?_
                refine lv_dup hx hb dX9_go_150 rfl ?_
                refine g_get (C := RX9) (T := TX9) (N := 20) (ci := 9) (index := 21) hx hb hts in_X9_go_9 hown hK hP 0 4 rfl rfl (by decide) (List.mem_of_getElem? (i := 1) rfl) rfl dX9_go_151 ?_
                refine lv_iconst (v := 1) hx hb dX9_go_154 (by decide) ?_
                refine lv_iadd hx hb dX9_go_155 ?_
                rw [show ((nI (goP Tp n S.1)) + 1 : Int32) = nI ((goP Tp n S.1) + 1) from nI_1 _]
                refine g_put (C := RX9) (T := TX9) (N := 20) (ci := 9) (index := 21) (v := .int (nI ((goP Tp n S.1) + 1))) (ws' := [(mo, .inr (9, [.int th, .ref q1, .int tn, .int (nI n), .int (nI ((goP Tp n S.1) + 1)), .int (nI (goP Tp n S.1)), .int 1, .int S.2.2.2.1, .int S.2.2.2.2.1, .int S.2.2.2.2.2.1, .long S.2.2.2.2.2.2.1, .ref q2, .ref q3, .ref q4, .int sm, .ref q5, .ref q6, .ref q7, .ref q8, .int rm])), (q1, .inl (cI, 840, .inl Tp)), (q2, .inl (cI, 240, .inl Nw)), (q3, .inl (cI, 240, .inl S.2.2.2.2.2.2.2)), (q4, .inl (cI, 2880, .inl Sn)), (q5, .inl (cI, 4, .inl In)), (q6, .inl (cI, 500, .inl Pd)), (q7, .inl (cI, 500, .inl Rt)), (q8, .inl (cI, 10000, .inl Rw))]) hx hb hts in_X9_go_9 tyX9 tyX9_ok nmX9 hown hK hP hD hS 0 4 rfl rfl (by decide) (List.mem_of_getElem? (i := 1) rfl) rfl rfl rfl (Nat.le_of_ble_eq_true rfl) dX9_go_156 rfl (fun H_ lc_ hP hD hS => ?_)
                exact hret _ _ _ ls hS (by unfold goM; rw [if_neg hA, if_neg hB, if_pos ⟨c124, c131⟩, if_neg c138]; exact hP) dX9_go_159
              · refine lv_iconst (v := 4) hx hb dX9_go_141 (by decide) ?_
                refine lv_goto (tgt := 146) hx hb dX9_go_142 (by decide) ?_
                refine g_put (C := RX9) (T := TX9) (N := 20) (ci := 9) (index := 27) (v := .int 4) (ws' := [(mo, .inr (9, [.int th, .ref q1, .int tn, .int (nI n), .int (nI (goP Tp n S.1)), .int (nI (goP Tp n S.1)), .int 4, .int S.2.2.2.1, .int S.2.2.2.2.1, .int S.2.2.2.2.2.1, .long S.2.2.2.2.2.2.1, .ref q2, .ref q3, .ref q4, .int sm, .ref q5, .ref q6, .ref q7, .ref q8, .int rm])), (q1, .inl (cI, 840, .inl Tp)), (q2, .inl (cI, 240, .inl Nw)), (q3, .inl (cI, 240, .inl S.2.2.2.2.2.2.2)), (q4, .inl (cI, 2880, .inl Sn)), (q5, .inl (cI, 4, .inl In)), (q6, .inl (cI, 500, .inl Pd)), (q7, .inl (cI, 500, .inl Rt)), (q8, .inl (cI, 10000, .inl Rw))]) hx hb hts in_X9_go_9 tyX9 tyX9_ok nmX9 hown hK hP hD hS 0 6 rfl rfl (by decide) (List.mem_of_getElem? (i := 5) rfl) rfl rfl rfl (Nat.le_of_ble_eq_true rfl) dX9_go_146 rfl (fun H_ lc_ hP hD hS => ?_)
                refine lv_aload_n hx hb dX9_go_149 rfl (lv_at hl 1 rfl) ?_
                refine lv_dup hx hb dX9_go_150 rfl ?_
                refine g_get (C := RX9) (T := TX9) (N := 20) (ci := 9) (index := 21) hx hb hts in_X9_go_9 hown hK hP 0 4 rfl rfl (by decide) (List.mem_of_getElem? (i := 1) rfl) rfl dX9_go_151 ?_
                refine lv_iconst (v := 1) hx hb dX9_go_154 (by decide) ?_
                refine lv_iadd hx hb dX9_go_155 ?_
                rw [show ((nI (goP Tp n S.1)) + 1 : Int32) = nI ((goP Tp n S.1) + 1) from nI_1 _]
                refine g_put (C := RX9) (T := TX9) (N := 20) (ci := 9) (index := 21) (v := .int (nI ((goP Tp n S.1) + 1))) (ws' := [(mo, .inr (9, [.int th, .ref q1, .int tn, .int (nI n), .int (nI ((goP Tp n S.1) + 1)), .int (nI (goP Tp n S.1)), .int 4, .int S.2.2.2.1, .int S.2.2.2.2.1, .int S.2.2.2.2.2.1, .long S.2.2.2.2.2.2.1, .ref q2, .ref q3, .ref q4, .int sm, .ref q5, .ref q6, .ref q7, .ref q8, .int rm])), (q1, .inl (cI, 840, .inl Tp)), (q2, .inl (cI, 240, .inl Nw)), (q3, .inl (cI, 240, .inl S.2.2.2.2.2.2.2)), (q4, .inl (cI, 2880, .inl Sn)), (q5, .inl (cI, 4, .inl In)), (q6, .inl (cI, 500, .inl Pd)), (q7, .inl (cI, 500, .inl Rt)), (q8, .inl (cI, 10000, .inl Rw))]) hx hb hts in_X9_go_9 tyX9 tyX9_ok nmX9 hown hK hP hD hS 0 4 rfl rfl (by decide) (List.mem_of_getElem? (i := 1) rfl) rfl rfl rfl (Nat.le_of_ble_eq_true rfl) dX9_go_156 rfl (fun H_ lc_ hP hD hS => ?_)
                exact hret _ _ _ ls hS (by unfold goM; rw [if_neg hA, if_neg hB, if_pos ⟨c124, c131⟩, if_pos c138]; exact hP) dX9_go_159
        · refine lv_aload_n hx hb dX9_go_104 rfl (lv_at hl 0 rfl) ?_
          refine lv_iconst (v := 0) hx hb dX9_go_105 (by decide) ?_
          refine g_put (C := RX9) (T := TX9) (N := 20) (ci := 9) (index := 27) (v := .int 0) (ws' := [(mo, .inr (9, [.int th, .ref q1, .int tn, .int (nI n), .int (nI (goP Tp n S.1)), .int (nI (goP Tp n S.1)), .int 0, .int S.2.2.2.1, .int S.2.2.2.2.1, .int S.2.2.2.2.2.1, .long S.2.2.2.2.2.2.1, .ref q2, .ref q3, .ref q4, .int sm, .ref q5, .ref q6, .ref q7, .ref q8, .int rm])), (q1, .inl (cI, 840, .inl Tp)), (q2, .inl (cI, 240, .inl Nw)), (q3, .inl (cI, 240, .inl S.2.2.2.2.2.2.2)), (q4, .inl (cI, 2880, .inl Sn)), (q5, .inl (cI, 4, .inl In)), (q6, .inl (cI, 500, .inl Pd)), (q7, .inl (cI, 500, .inl Rt)), (q8, .inl (cI, 10000, .inl Rw))]) hx hb hts in_X9_go_9 tyX9 tyX9_ok nmX9 hown hK hP hD hS 0 6 rfl rfl (by decide) (List.mem_of_getElem? (i := 5) rfl) rfl rfl rfl (Nat.le_of_ble_eq_true rfl) dX9_go_106 rfl (fun H_ lc_ hP hD hS => ?_)
          exact hret _ _ _ ls hS (by unfold goM; rw [if_neg hA, if_pos (by have z : ¬ (goP Tp n S.1) < n := fun z => c101 ((nI_ltI (by omega) (by omega)).mpr z); omega)]; exact hP) dX9_go_109
      · refine lv_aload_n hx hb dX9_go_80 rfl (lv_at hl 0 rfl) ?_
        refine lv_sipush (v := 800) hx hb dX9_go_81 (by decide) ?_
        refine g_put (C := RX9) (T := TX9) (N := 20) (ci := 9) (index := 24) (v := .int 800) (ws' := [(mo, .inr (9, [.int th, .ref q1, .int tn, .int (nI n), .int (nI (goP Tp n S.1)), .int 800, .int S.2.2.1, .int S.2.2.2.1, .int S.2.2.2.2.1, .int S.2.2.2.2.2.1, .long S.2.2.2.2.2.2.1, .ref q2, .ref q3, .ref q4, .int sm, .ref q5, .ref q6, .ref q7, .ref q8, .int rm])), (q1, .inl (cI, 840, .inl Tp)), (q2, .inl (cI, 240, .inl Nw)), (q3, .inl (cI, 240, .inl S.2.2.2.2.2.2.2)), (q4, .inl (cI, 2880, .inl Sn)), (q5, .inl (cI, 4, .inl In)), (q6, .inl (cI, 500, .inl Pd)), (q7, .inl (cI, 500, .inl Rt)), (q8, .inl (cI, 10000, .inl Rw))]) hx hb hts in_X9_go_9 tyX9 tyX9_ok nmX9 hown hK hP hD hS 0 5 rfl rfl (by decide) (List.mem_of_getElem? (i := 4) rfl) rfl rfl rfl (Nat.le_of_ble_eq_true rfl) dX9_go_84 rfl (fun H_ lc_ hP hD hS => ?_)
        refine lv_aload_n hx hb dX9_go_87 rfl (lv_at hl 0 rfl) ?_
        refine lv_iconst (v := 1) hx hb dX9_go_88 (by decide) ?_
        refine g_put (C := RX9) (T := TX9) (N := 20) (ci := 9) (index := 27) (v := .int 1) (ws' := [(mo, .inr (9, [.int th, .ref q1, .int tn, .int (nI n), .int (nI (goP Tp n S.1)), .int 800, .int 1, .int S.2.2.2.1, .int S.2.2.2.2.1, .int S.2.2.2.2.2.1, .long S.2.2.2.2.2.2.1, .ref q2, .ref q3, .ref q4, .int sm, .ref q5, .ref q6, .ref q7, .ref q8, .int rm])), (q1, .inl (cI, 840, .inl Tp)), (q2, .inl (cI, 240, .inl Nw)), (q3, .inl (cI, 240, .inl S.2.2.2.2.2.2.2)), (q4, .inl (cI, 2880, .inl Sn)), (q5, .inl (cI, 4, .inl In)), (q6, .inl (cI, 500, .inl Pd)), (q7, .inl (cI, 500, .inl Rt)), (q8, .inl (cI, 10000, .inl Rw))]) hx hb hts in_X9_go_9 tyX9 tyX9_ok nmX9 hown hK hP hD hS 0 6 rfl rfl (by decide) (List.mem_of_getElem? (i := 5) rfl) rfl rfl rfl (Nat.le_of_ble_eq_true rfl) dX9_go_89 rfl (fun H_ lc_ hP hD hS => ?_)
        exact hret _ _ _ ls hS (by unfold goM; rw [if_pos ⟨by have z : ¬ n ≤ 800 := fun z => c67 ((nI_leI (b := 800) (by omega) (by omega)).mpr z); omega, ge_nI' (a := goP Tp n S.1) (b := 800) c77 (by omega) (by omega)⟩]; exact hP) dX9_go_92
  have L0 : ∀ (nn_ : Nat) (q : Nat) (hq : q ≤ n) (hinv : bl (isbM Tp n) (n - q) q = goP Tp n S.1) (xx_u0_4 : Int32), (n - q) < nn_ → xx_u0_4 = nI q → ∀ (H_ : Heap) (lc_ : List Loc), va_P D vwCl [(mo, .inr (9, [.int th, .ref q1, .int tn, .int (nI n), .int xx_u0_4, .int (nI S.2.1), .int S.2.2.1, .int S.2.2.2.1, .int S.2.2.2.2.1, .int S.2.2.2.2.2.1, .long S.2.2.2.2.2.2.1, .ref q2, .ref q3, .ref q4, .int sm, .ref q5, .ref q6, .ref q7, .ref q8, .int rm])), (q1, .inl (cI, 840, .inl Tp)), (q2, .inl (cI, 240, .inl Nw)), (q3, .inl (cI, 240, .inl S.2.2.2.2.2.2.2)), (q4, .inl (cI, 2880, .inl Sn)), (q5, .inl (cI, 4, .inl In)), (q6, .inl (cI, 500, .inl Pd)), (q7, .inl (cI, 500, .inl Rt)), (q8, .inl (cI, 10000, .inl Rw))] H_ → va_D A_ [(mo, .inr (9, [.int th, .ref q1, .int tn, .int (nI n), .int xx_u0_4, .int (nI S.2.1), .int S.2.2.1, .int S.2.2.2.1, .int S.2.2.2.2.1, .int S.2.2.2.2.2.1, .long S.2.2.2.2.2.2.1, .ref q2, .ref q3, .ref q4, .int sm, .ref q5, .ref q6, .ref q7, .ref q8, .int rm])), (q1, .inl (cI, 840, .inl Tp)), (q2, .inl (cI, 240, .inl Nw)), (q3, .inl (cI, 240, .inl S.2.2.2.2.2.2.2)), (q4, .inl (cI, 2880, .inl Sn)), (q5, .inl (cI, 4, .inl In)), (q6, .inl (cI, 500, .inl Pd)), (q7, .inl (cI, 500, .inl Rt)), (q8, .inl (cI, 10000, .inl Rw))] → va_S A_ s_.heap H_ lc_ → ∀ (ls : Array Slot), lv_has ls 5 [(0, .ref mo)] → W p_ l e_ (RM 1 21) s_ m_ ar_ be_ me_ co_ H_ lc_ 0 0 Q_ (F0 m_ 0 ls []) := by
    intro nn_
    induction nn_ with
    | zero => intro q hq hinv xx_u0_4 hn_; exact absurd hn_ (Nat.not_lt_zero _)
    | succ nn_ ih0 =>
      intro q hq hinv xx_u0_4 hn_ e_xx_u0_4 H_ lc_ hP hD hS ls hl
      subst e_xx_u0_4
      refine lv_aload_n hx hb dX9_go_0 rfl (lv_at hl 0 rfl) ?_
      refine g_get (C := RX9) (T := TX9) (N := 20) (ci := 9) (index := 21) hx hb hts in_X9_go_9 hown hK hP 0 4 rfl rfl (by decide) (List.mem_of_getElem? (i := 1) rfl) rfl dX9_go_1 ?_
      refine lv_aload_n hx hb dX9_go_4 rfl (lv_at hl 0 rfl) ?_
      refine g_get (C := RX9) (T := TX9) (N := 20) (ci := 9) (index := 18) hx hb hts in_X9_go_9 hown hK hP 0 3 rfl rfl (by decide) (List.mem_of_getElem? (i := 2) rfl) rfl dX9_go_5 ?_
      refine lv_icmp_ge (tgt := 52) hx hb dX9_go_8 (by decide) (fun c8 => ?_) (fun c8 => ?_)
      · exact J52   _ (congrArg nI (by rw [← hinv]; exact (bl_F (isbM_F (Or.inl (ge_nI c8 (by omega) (by omega))))).symm)) _ _ hP hD hS ls (lv_sub hl [0] rfl)
      · have hlt : q < n := lt_nI c8 (by omega) (by omega)
        refine lv_aload_n hx hb dX9_go_11 rfl (lv_at hl 0 rfl) ?_
        refine g_get (C := RX9) (T := TX9) (N := 20) (ci := 9) (index := 7) hx hb hts in_X9_go_9 hown hK hP 0 1 rfl rfl (by decide) (List.mem_of_getElem? (i := 3) rfl) rfl dX9_go_12 ?_
        refine lv_aload_n hx hb dX9_go_15 rfl (lv_at hl 0 rfl) ?_
        refine g_get (C := RX9) (T := TX9) (N := 20) (ci := 9) (index := 21) hx hb hts in_X9_go_9 hown hK hP 0 4 rfl rfl (by decide) (List.mem_of_getElem? (i := 1) rfl) rfl dX9_go_16 ?_
        refine g_iald hx hb hK hP 1 0 rfl rfl q (rfl) (by omega) (by omega) dX9_go_19 ?_
        refine lv_bipush (v := 32) hx hb dX9_go_20 (by decide) ?_
        refine lv_icmp_eq (tgt := 39) hx hb dX9_go_22 (by decide) (fun c22 => ?_) (fun c22 => ?_)
        · refine lv_aload_n hx hb dX9_go_39 rfl (lv_at hl 0 rfl) ?_
          refine lv_dup hx hb dX9_go_40 rfl ?_
          refine g_get (C := RX9) (T := TX9) (N := 20) (ci := 9) (index := 21) hx hb hts in_X9_go_9 hown hK hP 0 4 rfl rfl (by decide) (List.mem_of_getElem? (i := 1) rfl) rfl dX9_go_41 ?_
          refine lv_iconst (v := 1) hx hb dX9_go_44 (by decide) ?_
          refine lv_iadd hx hb dX9_go_45 ?_
          rw [show ((nI q) + 1 : Int32) = nI (q + 1) from nI_1 q]
          refine g_put (C := RX9) (T := TX9) (N := 20) (ci := 9) (index := 21) (v := .int (nI (q + 1))) (ws' := [(mo, .inr (9, [.int th, .ref q1, .int tn, .int (nI n), .int (nI (q + 1)), .int (nI S.2.1), .int S.2.2.1, .int S.2.2.2.1, .int S.2.2.2.2.1, .int S.2.2.2.2.2.1, .long S.2.2.2.2.2.2.1, .ref q2, .ref q3, .ref q4, .int sm, .ref q5, .ref q6, .ref q7, .ref q8, .int rm])), (q1, .inl (cI, 840, .inl Tp)), (q2, .inl (cI, 240, .inl Nw)), (q3, .inl (cI, 240, .inl S.2.2.2.2.2.2.2)), (q4, .inl (cI, 2880, .inl Sn)), (q5, .inl (cI, 4, .inl In)), (q6, .inl (cI, 500, .inl Pd)), (q7, .inl (cI, 500, .inl Rt)), (q8, .inl (cI, 10000, .inl Rw))]) hx hb hts in_X9_go_9 tyX9 tyX9_ok nmX9 hown hK hP hD hS 0 4 rfl rfl (by decide) (List.mem_of_getElem? (i := 1) rfl) rfl rfl rfl (Nat.le_of_ble_eq_true rfl) dX9_go_46 rfl (fun H_ lc_ hP hD hS => ?_)
          refine lv_goto (tgt := 0) hx hb dX9_go_49 (by decide) ?_
          exact ih0 (q + 1) (by omega) (by rw [← hinv]; exact (bl_T (isbM_T hlt (Or.inl c22)) hlt).symm) _ (by omega) (rfl) _ _ hP hD hS ls (lv_sub hl [0] rfl)
        · refine lv_aload_n hx hb dX9_go_25 rfl (lv_at hl 0 rfl) ?_
          refine g_get (C := RX9) (T := TX9) (N := 20) (ci := 9) (index := 7) hx hb hts in_X9_go_9 hown hK hP 0 1 rfl rfl (by decide) (List.mem_of_getElem? (i := 3) rfl) rfl dX9_go_26 ?_
          refine lv_aload_n hx hb dX9_go_29 rfl (lv_at hl 0 rfl) ?_
          refine g_get (C := RX9) (T := TX9) (N := 20) (ci := 9) (index := 21) hx hb hts in_X9_go_9 hown hK hP 0 4 rfl rfl (by decide) (List.mem_of_getElem? (i := 1) rfl) rfl dX9_go_30 ?_
          refine g_iald hx hb hK hP 1 0 rfl rfl q (rfl) (by omega) (by omega) dX9_go_33 ?_
          refine lv_bipush (v := 10) hx hb dX9_go_34 (by decide) ?_
          refine lv_icmp_ne (tgt := 52) hx hb dX9_go_36 (by decide) (fun c36 => ?_) (fun c36 => ?_)
          · exact J52   _ (congrArg nI (by rw [← hinv]; exact (bl_F (isbM_F (Or.inr ⟨c22, c36⟩))).symm)) _ _ hP hD hS ls (lv_sub hl [0] rfl)
          · refine lv_aload_n hx hb dX9_go_39 rfl (lv_at hl 0 rfl) ?_
            refine lv_dup hx hb dX9_go_40 rfl ?_
            refine g_get (C := RX9) (T := TX9) (N := 20) (ci := 9) (index := 21) hx hb hts in_X9_go_9 hown hK hP 0 4 rfl rfl (by decide) (List.mem_of_getElem? (i := 1) rfl) rfl dX9_go_41 ?_
            refine lv_iconst (v := 1) hx hb dX9_go_44 (by decide) ?_
            refine lv_iadd hx hb dX9_go_45 ?_
            rw [show ((nI q) + 1 : Int32) = nI (q + 1) from nI_1 q]
            refine g_put (C := RX9) (T := TX9) (N := 20) (ci := 9) (index := 21) (v := .int (nI (q + 1))) (ws' := [(mo, .inr (9, [.int th, .ref q1, .int tn, .int (nI n), .int (nI (q + 1)), .int (nI S.2.1), .int S.2.2.1, .int S.2.2.2.1, .int S.2.2.2.2.1, .int S.2.2.2.2.2.1, .long S.2.2.2.2.2.2.1, .ref q2, .ref q3, .ref q4, .int sm, .ref q5, .ref q6, .ref q7, .ref q8, .int rm])), (q1, .inl (cI, 840, .inl Tp)), (q2, .inl (cI, 240, .inl Nw)), (q3, .inl (cI, 240, .inl S.2.2.2.2.2.2.2)), (q4, .inl (cI, 2880, .inl Sn)), (q5, .inl (cI, 4, .inl In)), (q6, .inl (cI, 500, .inl Pd)), (q7, .inl (cI, 500, .inl Rt)), (q8, .inl (cI, 10000, .inl Rw))]) hx hb hts in_X9_go_9 tyX9 tyX9_ok nmX9 hown hK hP hD hS 0 4 rfl rfl (by decide) (List.mem_of_getElem? (i := 1) rfl) rfl rfl rfl (Nat.le_of_ble_eq_true rfl) dX9_go_46 rfl (fun H_ lc_ hP hD hS => ?_)
            refine lv_goto (tgt := 0) hx hb dX9_go_49 (by decide) ?_
            exact ih0 (q + 1) (by omega) (by rw [← hinv]; exact (bl_T (isbM_T hlt (Or.inr c36)) hlt).symm) _ (by omega) (rfl) _ _ hP hD hS ls (lv_sub hl [0] rfl)
  exact L0 (n - S.1 + 1) S.1 (hSn) (rfl) _ (Nat.lt_succ_self _) (rfl) _ _ hP hD hS ls (lv_sub hl [0] rfl)

