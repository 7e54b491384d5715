def shS (S : Nat → Int32) (i : Nat) : Nat → Int32 := fun j => if j < i then S (j + 240) else S j
theorem shS_0 (S : Nat → Int32) : shS S 0 = S := by funext j; simp [shS]
theorem shS_at (S : Nat → Int32) (i : Nat) : shS S i (i + 240) = S (i + 240) := by unfold shS; rw [if_neg (by omega)]
theorem shS_s (S : Nat → Int32) (i : Nat) : upd (shS S i) i (S (i + 240)) = shS S (i + 1) := by
  funext q
  unfold upd shS
  by_cases h : q = i
  · subst h; simp
  · by_cases h2 : q < i
    · simp [h, h2, show q < i + 1 by omega]
    · simp [h, h2, show ¬ q < i + 1 by omega]
def cpS (S N : Nat → Int32) (b i : Nat) : Nat → Int32 := fun j => if b ≤ j ∧ j < b + i then N (j - b) else S j
theorem cpS_0 (S N : Nat → Int32) (b : Nat) : cpS S N b 0 = S := by funext j; unfold cpS; rw [if_neg (by omega)]
theorem cpS_s (S N : Nat → Int32) (b i : Nat) : upd (cpS S N b i) (b + i) (N i) = cpS S N b (i + 1) := by
  funext q
  unfold upd cpS
  by_cases h : q = b + i
  · subst h
    rw [if_pos rfl, if_pos ⟨by omega, by omega⟩, show b + i - b = i by omega]
  · rw [if_neg h]
    by_cases h2 : b ≤ q ∧ q < b + i
    · rw [if_pos h2, if_pos ⟨h2.1, by omega⟩]
    · rw [if_neg h2, if_neg (fun z => h2 ⟨z.1, by omega⟩)]
def snS (S : Nat → Int32) (n : Nat) : Nat → Int32 := if n < 12 then S else shS S 2640
def snP (S N : Nat → Int32) (n : Nat) : Nat → Int32 := cpS (snS S n) N (240 * (kpN n - 1)) 240
def adN (N : Nat → Int32) (C n : Nat) (d a : Int32) : Nat → Int32 := upd (upd (upd N (C + 1 + 2 * n) d) (C + 2 + 2 * n) a) C (nI (n + 1))
theorem adN_ne {N : Nat → Int32} {C n j : Nat} {d a : Int32} (h1 : j ≠ C) (h2 : j ≠ C + 1 + 2 * n) (h3 : j ≠ C + 2 + 2 * n) : adN N C n d a j = N j := by unfold adN; rw [upd_ne h1, upd_ne h3, upd_ne h2]
theorem adN_at {N : Nat → Int32} {C n : Nat} {d a : Int32} : adN N C n d a C = nI (n + 1) := upd_self _ _ _
theorem cnt_36 {N : Nat → Int32} {ns nr ni np nb : Nat} {d a : Int32} (h : cnt N ns nr ni np nb) (hi : ni < 40) : cnt (adN N 36 ni d a) ns nr (ni + 1) np nb := by
  obtain ⟨h1, h2, h3, h4, h5⟩ := h
  exact ⟨⟨(adN_ne (by omega) (by omega) (by omega)).trans h1.1, h1.2⟩, ⟨(adN_ne (by omega) (by omega) (by omega)).trans h2.1, h2.2⟩, ⟨adN_at, by omega⟩, ⟨(adN_ne (by omega) (by omega) (by omega)).trans h4.1, h4.2⟩, ⟨(adN_ne (by omega) (by omega) (by omega)).trans h5.1, h5.2⟩⟩
theorem cnt_198 {N : Nat → Int32} {ns nr ni np nb : Nat} {d a : Int32} (h : cnt N ns nr ni np nb) (hi : nb < 20) : cnt (adN N 198 nb d a) ns nr ni np (nb + 1) := by
  obtain ⟨h1, h2, h3, h4, h5⟩ := h
  exact ⟨⟨(adN_ne (by omega) (by omega) (by omega)).trans h1.1, h1.2⟩, ⟨(adN_ne (by omega) (by omega) (by omega)).trans h2.1, h2.2⟩, ⟨(adN_ne (by omega) (by omega) (by omega)).trans h3.1, h3.2⟩, ⟨(adN_ne (by omega) (by omega) (by omega)).trans h4.1, h4.2⟩, ⟨adN_at, by omega⟩⟩
theorem kpN_lt {n : Nat} (h : n < 12) : kpN n = n + 1 := by unfold kpN; rw [if_pos h]
theorem snS_lt {S : Nat → Int32} {n : Nat} (h : n < 12) : snS S n = S := by unfold snS; rw [if_pos h]
theorem in_X9_snap_9 : ∀ w ∈ wsX90, w ∈ wsX9_snap := fun _ h => List.mem_cons_of_mem _ (List.mem_append_right _ (h))
set_option maxHeartbeats 4000000 in
set_option maxRecDepth 100000 in
theorem kX9_snap (l : Launch) (D : va_G) (cI cB : ClassId) (mo q1 q2 q3 q4 q5 q6 q7 q8 : Nat) (th tn sz tt fm so nu fau plc : Int32) (wd : Int64) (rm : Int32) (Tp Nw Rr Sn In Pd Rt Rw : Nat → Int32) (n : Nat) (hn : n ≤ 12) : Wr l D (TY cI cB) yX9_snap wsX9_snap 0 0 [.ref mo] [(mo, .inr (9, [.int th, .ref q1, .int tn, .int sz, .int tt, .int fm, .int so, .int nu, .int fau, .int plc, .long wd, .ref q2, .ref q3, .ref q4, .int (nI n), .ref q5, .ref q6, .ref q7, .ref q8, .int rm])), (q1, .inl (cI, 840, .inl Tp)), (q2, .inl (cI, 240, .inl Nw)), (q3, .inl (cI, 240, .inl Rr)), (q4, .inl (cI, 2880, .inl Sn)), (q5, .inl (cI, 4, .inl In)), (q6, .inl (cI, 500, .inl Pd)), (q7, .inl (cI, 500, .inl Rt)), (q8, .inl (cI, 10000, .inl Rw))] [(mo, .inr (9, [.int th, .ref q1, .int tn, .int sz, .int tt, .int fm, .int so, .int nu, .int fau, .int plc, .long wd, .ref q2, .ref q3, .ref q4, .int (nI (kpN n)), .ref q5, .ref q6, .ref q7, .ref q8, .int rm])), (q1, .inl (cI, 840, .inl Tp)), (q2, .inl (cI, 240, .inl Nw)), (q3, .inl (cI, 240, .inl Rr)), (q4, .inl (cI, 2880, .inl (snP Sn Nw n))), (q5, .inl (cI, 4, .inl In)), (q6, .inl (cI, 500, .inl Pd)), (q7, .inl (cI, 500, .inl Rt)), (q8, .inl (cI, 10000, .inl Rw))] none := by
  refine wr_v (cc := cX9_snap) (maxL := 2) (by decide) rfl (Nat.le_of_ble_eq_true rfl) ?_
  intro p_ e_ s_ m_ ar_ be_ me_ co_ ls Q_ A_ hx hb hml hown hts hP hK hD hS hl hret
  have hown : s_.vm.findClass RX9 = some m_.cls := hown
  have hl : lv_has ls 2 [(0, .ref mo)] := hl
  have J50 : ∀ (n1 : Nat) (S1 : Nat → Int32) (hn1 : n1 ≤ 11) (hk1 : kpN n = n1 + 1) (hs1 : snS Sn n = S1) (xx_u0_14 : Int32), xx_u0_14 = nI n1 → ∀ (H_ : Heap) (lc_ : List Loc), va_P D vwCl [(mo, .inr (9, [.int th, .ref q1, .int tn, .int sz, .int tt, .int fm, .int so, .int nu, .int fau, .int plc, .long wd, .ref q2, .ref q3, .ref q4, .int xx_u0_14, .ref q5, .ref q6, .ref q7, .ref q8, .int rm])), (q1, .inl (cI, 840, .inl Tp)), (q2, .inl (cI, 240, .inl Nw)), (q3, .inl (cI, 240, .inl Rr)), (q4, .inl (cI, 2880, .inl S1)), (q5, .inl (cI, 4, .inl In)), (q6, .inl (cI, 500, .inl Pd)), (q7, .inl (cI, 500, .inl Rt)), (q8, .inl (cI, 10000, .inl Rw))] H_ → va_D A_ [(mo, .inr (9, [.int th, .ref q1, .int tn, .int sz, .int tt, .int fm, .int so, .int nu, .int fau, .int plc, .long wd, .ref q2, .ref q3, .ref q4, .int xx_u0_14, .ref q5, .ref q6, .ref q7, .ref q8, .int rm])), (q1, .inl (cI, 840, .inl Tp)), (q2, .inl (cI, 240, .inl Nw)), (q3, .inl (cI, 240, .inl Rr)), (q4, .inl (cI, 2880, .inl S1)), (q5, .inl (cI, 4, .inl In)), (q6, .inl (cI, 500, .inl Pd)), (q7, .inl (cI, 500, .inl Rt)), (q8, .inl (cI, 10000, .inl Rw))] → va_S A_ s_.heap H_ lc_ → ∀ (ls : Array Slot), lv_has ls 2 [(0, .ref mo)] → W p_ l e_ (RM 0 0) s_ m_ ar_ be_ me_ co_ H_ lc_ 0 0 Q_ (F0 m_ 50 ls []) := by
    intro n1 S1 hn1 hk1 hs1 xx_u0_14 e_xx_u0_14 H_ lc_ hP hD hS ls hl
    subst e_xx_u0_14
    refine lv_iconst (v := 0) hx hb dX9_snap_50 (by decide) ?_
    refine lv_istore_n (lv' := [(1, .int 0), (0, .ref mo)]) hx hb dX9_snap_51 rfl hl (by decide) rfl (fun ls hl => ?_)
    have L52 : ∀ (nn_ : Nat) (i : Nat) (hi : i ≤ 240) (xx_v1 : Int32) (xx_g4 : Nat → Int32), (240 - i) < nn_ → xx_v1 = nI i → xx_g4 = cpS S1 Nw (240 * n1) i → ∀ (H_ : Heap) (lc_ : List Loc), va_P D vwCl [(mo, .inr (9, [.int th, .ref q1, .int tn, .int sz, .int tt, .int fm, .int so, .int nu, .int fau, .int plc, .long wd, .ref q2, .ref q3, .ref q4, .int (nI n1), .ref q5, .ref q6, .ref q7, .ref q8, .int rm])), (q1, .inl (cI, 840, .inl Tp)), (q2, .inl (cI, 240, .inl Nw)), (q3, .inl (cI, 240, .inl Rr)), (q4, .inl (cI, 2880, .inl xx_g4)), (q5, .inl (cI, 4, .inl In)), (q6, .inl (cI, 500, .inl Pd)), (q7, .inl (cI, 500, .inl Rt)), (q8, .inl (cI, 10000, .inl Rw))] H_ → va_D A_ [(mo, .inr (9, [.int th, .ref q1, .int tn, .int sz, .int tt, .int fm, .int so, .int nu, .int fau, .int plc, .long wd, .ref q2, .ref q3, .ref q4, .int (nI n1), .ref q5, .ref q6, .ref q7, .ref q8, .int rm])), (q1, .inl (cI, 840, .inl Tp)), (q2, .inl (cI, 240, .inl Nw)), (q3, .inl (cI, 240, .inl Rr)), (q4, .inl (cI, 2880, .inl xx_g4)), (q5, .inl (cI, 4, .inl In)), (q6, .inl (cI, 500, .inl Pd)), (q7, .inl (cI, 500, .inl Rt)), (q8, .inl (cI, 10000, .inl Rw))] → va_S A_ s_.heap H_ lc_ → ∀ (ls : Array Slot), lv_has ls 2 [(0, .ref mo), (1, .int xx_v1)] → W p_ l e_ (RM 0 0) s_ m_ ar_ be_ me_ co_ H_ lc_ 0 0 Q_ (F0 m_ 52 ls []) := by
      intro nn_
      induction nn_ with
      | zero => intro i hi xx_v1 xx_g4 hn_; exact absurd hn_ (Nat.not_lt_zero _)
      | succ nn_ ih52 =>
        intro i hi xx_v1 xx_g4 hn_ e_xx_v1 e_xx_g4 H_ lc_ hP hD hS ls hl
        subst e_xx_v1 e_xx_g4
        refine lv_iload_n hx hb dX9_snap_52 rfl (lv_at hl 1 rfl) ?_
        refine lv_sipush (v := 240) hx hb dX9_snap_53 (by decide) ?_
        refine lv_icmp_ge (tgt := 86) hx hb dX9_snap_56 (by decide) (fun c56 => ?_) (fun c56 => ?_)
        · refine lv_aload_n hx hb dX9_snap_86 rfl (lv_at hl 0 rfl) ?_
          refine lv_dup hx hb dX9_snap_87 rfl ?_
          refine g_get (C := RX9) (T := TX9) (N := 20) (ci := 9) (index := 125) hx hb hts in_X9_snap_9 hown hK hP 0 14 rfl rfl (by decide) (List.mem_of_getElem? (i := 1) rfl) rfl dX9_snap_88 ?_
          refine lv_iconst (v := 1) hx hb dX9_snap_91 (by decide) ?_
          refine lv_iadd hx hb dX9_snap_92 ?_
          rw [show ((nI n1) + 1 : Int32) = nI (kpN n) from by rw [hk1]; exact nI_1 n1]
          refine g_put (C := RX9) (T := TX9) (N := 20) (ci := 9) (index := 125) (v := .int (nI (kpN n))) (ws' := [(mo, .inr (9, [.int th, .ref q1, .int tn, .int sz, .int tt, .int fm, .int so, .int nu, .int fau, .int plc, .long wd, .ref q2, .ref q3, .ref q4, .int (nI (kpN n)), .ref q5, .ref q6, .ref q7, .ref q8, .int rm])), (q1, .inl (cI, 840, .inl Tp)), (q2, .inl (cI, 240, .inl Nw)), (q3, .inl (cI, 240, .inl Rr)), (q4, .inl (cI, 2880, .inl (cpS S1 Nw (240 * n1) i))), (q5, .inl (cI, 4, .inl In)), (q6, .inl (cI, 500, .inl Pd)), (q7, .inl (cI, 500, .inl Rt)), (q8, .inl (cI, 10000, .inl Rw))]) hx hb hts in_X9_snap_9 tyX9 tyX9_ok nmX9 hown hK hP hD hS 0 14 rfl rfl (by decide) (List.mem_of_getElem? (i := 1) rfl) rfl rfl rfl (Nat.le_of_ble_eq_true rfl) dX9_snap_93 rfl (fun H_ lc_ hP hD hS => ?_)
          exact hret _ _ _ ls hS (by have q := ge_nI (b := 240) c56 (by omega) (by omega); rw [show i = 240 by omega] at hP; unfold snP; rw [hs1, hk1, show n1 + 1 - 1 = n1 by omega]; rw [hk1] at hP; exact hP) dX9_snap_96
        · have hlt : i < 240 := lt_nI (b := 240) c56 (by omega) (by omega)
          refine lv_aload_n hx hb dX9_snap_59 rfl (lv_at hl 0 rfl) ?_
          refine g_get (C := RX9) (T := TX9) (N := 20) (ci := 9) (index := 70) hx hb hts in_X9_snap_9 hown hK hP 0 13 rfl rfl (by decide) (List.mem_of_getElem? (i := 2) rfl) rfl dX9_snap_60 ?_
          refine lv_sipush (v := 240) hx hb dX9_snap_63 (by decide) ?_
          refine lv_aload_n hx hb dX9_snap_66 rfl (lv_at hl 0 rfl) ?_
          refine g_get (C := RX9) (T := TX9) (N := 20) (ci := 9) (index := 125) hx hb hts in_X9_snap_9 hown hK hP 0 14 rfl rfl (by decide) (List.mem_of_getElem? (i := 1) rfl) rfl dX9_snap_67 ?_
          refine lv_imul hx hb dX9_snap_70 ?_
          refine lv_iload_n hx hb dX9_snap_71 rfl (lv_at hl 1 rfl) ?_
          refine lv_iadd hx hb dX9_snap_72 ?_
          refine lv_aload_n hx hb dX9_snap_73 rfl (lv_at hl 0 rfl) ?_
          refine g_get (C := RX9) (T := TX9) (N := 20) (ci := 9) (index := 64) hx hb hts in_X9_snap_9 hown hK hP 0 11 rfl rfl (by decide) (List.mem_of_getElem? (i := 3) rfl) rfl dX9_snap_74 ?_
          refine lv_iload_n hx hb dX9_snap_77 rfl (lv_at hl 1 rfl) ?_
          refine g_iald hx hb hK hP 2 0 rfl rfl i (rfl) (by omega) (by omega) dX9_snap_78 ?_
          refine g_iast hx hb hK hP hD hS 4 0 rfl rfl ((240 * n1) + i) (nx_a (nx_m (rfl) (rfl)) (rfl)) (by omega) (by omega) dX9_snap_79 (fun H_ lc_ hP hD hS => ?_)
          have hP : va_P D vwCl [(mo, .inr (9, [.int th, .ref q1, .int tn, .int sz, .int tt, .int fm, .int so, .int nu, .int fau, .int plc, .long wd, .ref q2, .ref q3, .ref q4, .int (nI n1), .ref q5, .ref q6, .ref q7, .ref q8, .int rm])), (q1, .inl (cI, 840, .inl Tp)), (q2, .inl (cI, 240, .inl Nw)), (q3, .inl (cI, 240, .inl Rr)), (q4, .inl (cI, 2880, .inl (upd (cpS S1 Nw (240 * n1) i) ((240 * n1) + i) (Nw i)))), (q5, .inl (cI, 4, .inl In)), (q6, .inl (cI, 500, .inl Pd)), (q7, .inl (cI, 500, .inl Rt)), (q8, .inl (cI, 10000, .inl Rw))] H_ := hP
          have hD : va_D A_ [(mo, .inr (9, [.int th, .ref q1, .int tn, .int sz, .int tt, .int fm, .int so, .int nu, .int fau, .int plc, .long wd, .ref q2, .ref q3, .ref q4, .int (nI n1), .ref q5, .ref q6, .ref q7, .ref q8, .int rm])), (q1, .inl (cI, 840, .inl Tp)), (q2, .inl (cI, 240, .inl Nw)), (q3, .inl (cI, 240, .inl Rr)), (q4, .inl (cI, 2880, .inl (upd (cpS S1 Nw (240 * n1) i) ((240 * n1) + i) (Nw i)))), (q5, .inl (cI, 4, .inl In)), (q6, .inl (cI, 500, .inl Pd)), (q7, .inl (cI, 500, .inl Rt)), (q8, .inl (cI, 10000, .inl Rw))] := hD
          refine lv_iinc (v := nI (i + 1)) (lv' := [(1, .int (nI (i + 1))), (0, .ref mo)]) hx hb dX9_snap_80 hl (k := 1) rfl (nI_add _ 1) (by decide) rfl (fun ls hl => ?_)
          refine lv_goto (tgt := 52) hx hb dX9_snap_83 (by decide) ?_
          exact ih52 (i + 1) (by omega) _ _ (by omega) (rfl) (cpS_s S1 Nw (240 * n1) i) _ _ hP hD hS ls (lv_sub hl [1, 0] rfl)
    exact L52 (240 - 0 + 1) 0 (by omega) _ _ (Nat.lt_succ_self _) (nI_0.symm) ((cpS_0 _ _ _).symm) _ _ hP hD hS ls (lv_sub hl [1, 0] rfl)
  refine lv_aload_n hx hb dX9_snap_0 rfl (lv_at hl 0 rfl) ?_
  refine g_get (C := RX9) (T := TX9) (N := 20) (ci := 9) (index := 125) hx hb hts in_X9_snap_9 hown hK hP 0 14 rfl rfl (by decide) (List.mem_of_getElem? (i := 1) rfl) rfl dX9_snap_1 ?_
  refine lv_bipush (v := 12) hx hb dX9_snap_4 (by decide) ?_
  refine lv_icmp_ne (tgt := 50) hx hb dX9_snap_6 (by decide) (fun c6 => ?_) (fun c6 => ?_)
  · exact J50 n Sn (by first | omega | exact Nat.le_of_lt_succ (by have q : ¬ n = 12 := fun z => c6 ((nI_eq (b := 12) (by omega) (by omega)).mpr z); omega)) (by first | exact kpN_lt (by have q : ¬ n = 12 := fun z => c6 ((nI_eq (b := 12) (by omega) (by omega)).mpr z); omega) | (rw [hn12]; rfl)) (by first | exact snS_lt (by have q : ¬ n = 12 := fun z => c6 ((nI_eq (b := 12) (by omega) (by omega)).mpr z); omega) | (rw [hn12]; rfl)) _ (rfl) _ _ hP hD hS ls (lv_sub hl [0] rfl)
  · have hn12 : n = 12 := (nI_eq (b := 12) (by omega) (by omega)).mp c6
    refine lv_iconst (v := 0) hx hb dX9_snap_9 (by decide) ?_
    refine lv_istore_n (lv' := [(1, .int 0), (0, .ref mo)]) hx hb dX9_snap_10 rfl hl (by decide) rfl (fun ls hl => ?_)
    have L11 : ∀ (nn_ : Nat) (i : Nat) (hi : i ≤ 2640) (xx_v1 : Int32) (xx_g4 : Nat → Int32), (2640 - i) < nn_ → xx_v1 = nI i → xx_g4 = shS Sn i → ∀ (H_ : Heap) (lc_ : List Loc), va_P D vwCl [(mo, .inr (9, [.int th, .ref q1, .int tn, .int sz, .int tt, .int fm, .int so, .int nu, .int fau, .int plc, .long wd, .ref q2, .ref q3, .ref q4, .int (nI n), .ref q5, .ref q6, .ref q7, .ref q8, .int rm])), (q1, .inl (cI, 840, .inl Tp)), (q2, .inl (cI, 240, .inl Nw)), (q3, .inl (cI, 240, .inl Rr)), (q4, .inl (cI, 2880, .inl xx_g4)), (q5, .inl (cI, 4, .inl In)), (q6, .inl (cI, 500, .inl Pd)), (q7, .inl (cI, 500, .inl Rt)), (q8, .inl (cI, 10000, .inl Rw))] H_ → va_D A_ [(mo, .inr (9, [.int th, .ref q1, .int tn, .int sz, .int tt, .int fm, .int so, .int nu, .int fau, .int plc, .long wd, .ref q2, .ref q3, .ref q4, .int (nI n), .ref q5, .ref q6, .ref q7, .ref q8, .int rm])), (q1, .inl (cI, 840, .inl Tp)), (q2, .inl (cI, 240, .inl Nw)), (q3, .inl (cI, 240, .inl Rr)), (q4, .inl (cI, 2880, .inl xx_g4)), (q5, .inl (cI, 4, .inl In)), (q6, .inl (cI, 500, .inl Pd)), (q7, .inl (cI, 500, .inl Rt)), (q8, .inl (cI, 10000, .inl Rw))] → va_S A_ s_.heap H_ lc_ → ∀ (ls : Array Slot), lv_has ls 2 [(0, .ref mo), (1, .int xx_v1)] → W p_ l e_ (RM 0 0) s_ m_ ar_ be_ me_ co_ H_ lc_ 0 0 Q_ (F0 m_ 11 ls []) := by
      intro nn_
      induction nn_ with
      | zero => intro i hi xx_v1 xx_g4 hn_; exact absurd hn_ (Nat.not_lt_zero _)
      | succ nn_ ih11 =>
        intro i hi xx_v1 xx_g4 hn_ e_xx_v1 e_xx_g4 H_ lc_ hP hD hS ls hl
        subst e_xx_v1 e_xx_g4
        refine lv_iload_n hx hb dX9_snap_11 rfl (lv_at hl 1 rfl) ?_
        refine lv_sipush (v := 2640) hx hb dX9_snap_12 (by decide) ?_
        refine lv_icmp_ge (tgt := 40) hx hb dX9_snap_15 (by decide) (fun c15 => ?_) (fun c15 => ?_)
        · obtain rfl : i = 2640 := by have q := ge_nI (b := 2640) c15 (by omega) (by omega); omega
          refine lv_aload_n hx hb dX9_snap_40 rfl (lv_at hl 0 rfl) ?_
          refine lv_dup hx hb dX9_snap_41 rfl ?_
          refine g_get (C := RX9) (T := TX9) (N := 20) (ci := 9) (index := 125) hx hb hts in_X9_snap_9 hown hK hP 0 14 rfl rfl (by decide) (List.mem_of_getElem? (i := 1) rfl) rfl dX9_snap_42 ?_
          refine lv_iconst (v := 1) hx hb dX9_snap_45 (by decide) ?_
          refine lv_isub hx hb dX9_snap_46 ?_
          rw [show ((nI n) - 1 : Int32) = nI 11 from by rw [hn12]; decide]
          refine g_put (C := RX9) (T := TX9) (N := 20) (ci := 9) (index := 125) (v := .int (nI 11)) (ws' := [(mo, .inr (9, [.int th, .ref q1, .int tn, .int sz, .int tt, .int fm, .int so, .int nu, .int fau, .int plc, .long wd, .ref q2, .ref q3, .ref q4, .int (nI 11), .ref q5, .ref q6, .ref q7, .ref q8, .int rm])), (q1, .inl (cI, 840, .inl Tp)), (q2, .inl (cI, 240, .inl Nw)), (q3, .inl (cI, 240, .inl Rr)), (q4, .inl (cI, 2880, .inl (shS Sn 2640))), (q5, .inl (cI, 4, .inl In)), (q6, .inl (cI, 500, .inl Pd)), (q7, .inl (cI, 500, .inl Rt)), (q8, .inl (cI, 10000, .inl Rw))]) hx hb hts in_X9_snap_9 tyX9 tyX9_ok nmX9 hown hK hP hD hS 0 14 rfl rfl (by decide) (List.mem_of_getElem? (i := 1) rfl) rfl rfl rfl (Nat.le_of_ble_eq_true rfl) dX9_snap_47 rfl (fun H_ lc_ hP hD hS => ?_)
          exact J50 11 (shS Sn 2640) (by first | omega | exact Nat.le_of_lt_succ (by have q : ¬ n = 12 := fun z => c6 ((nI_eq (b := 12) (by omega) (by omega)).mpr z); omega)) (by first | exact kpN_lt (by have q : ¬ n = 12 := fun z => c6 ((nI_eq (b := 12) (by omega) (by omega)).mpr z); omega) | (rw [hn12]; rfl)) (by first | exact snS_lt (by have q : ¬ n = 12 := fun z => c6 ((nI_eq (b := 12) (by omega) (by omega)).mpr z); omega) | (rw [hn12]; rfl)) _ (rfl) _ _ hP hD hS ls (lv_sub hl [0] rfl)
        · have hlt : i < 2640 := lt_nI (b := 2640) c15 (by omega) (by omega)
          refine lv_aload_n hx hb dX9_snap_18 rfl (lv_at hl 0 rfl) ?_
          refine g_get (C := RX9) (T := TX9) (N := 20) (ci := 9) (index := 70) hx hb hts in_X9_snap_9 hown hK hP 0 13 rfl rfl (by decide) (List.mem_of_getElem? (i := 2) rfl) rfl dX9_snap_19 ?_
          refine lv_iload_n hx hb dX9_snap_22 rfl (lv_at hl 1 rfl) ?_
          refine lv_aload_n hx hb dX9_snap_23 rfl (lv_at hl 0 rfl) ?_
          refine g_get (C := RX9) (T := TX9) (N := 20) (ci := 9) (index := 70) hx hb hts in_X9_snap_9 hown hK hP 0 13 rfl rfl (by decide) (List.mem_of_getElem? (i := 2) rfl) rfl dX9_snap_24 ?_
          refine lv_iload_n hx hb dX9_snap_27 rfl (lv_at hl 1 rfl) ?_
          refine lv_sipush (v := 240) hx hb dX9_snap_28 (by decide) ?_
          refine lv_iadd hx hb dX9_snap_31 ?_
          refine g_iald hx hb hK hP 4 0 rfl rfl (i + 240) (nx_a (rfl) (rfl)) (by omega) (by omega) dX9_snap_32 ?_
          rw [show ((shS Sn i) (i + 240) : Int32) = Sn (i + 240) from shS_at Sn i]
          refine g_iast hx hb hK hP hD hS 4 0 rfl rfl i (rfl) (by omega) (by omega) dX9_snap_33 (fun H_ lc_ hP hD hS => ?_)
          have hP : va_P D vwCl [(mo, .inr (9, [.int th, .ref q1, .int tn, .int sz, .int tt, .int fm, .int so, .int nu, .int fau, .int plc, .long wd, .ref q2, .ref q3, .ref q4, .int (nI n), .ref q5, .ref q6, .ref q7, .ref q8, .int rm])), (q1, .inl (cI, 840, .inl Tp)), (q2, .inl (cI, 240, .inl Nw)), (q3, .inl (cI, 240, .inl Rr)), (q4, .inl (cI, 2880, .inl (upd (shS Sn i) i (Sn (i + 240))))), (q5, .inl (cI, 4, .inl In)), (q6, .inl (cI, 500, .inl Pd)), (q7, .inl (cI, 500, .inl Rt)), (q8, .inl (cI, 10000, .inl Rw))] H_ := hP
          have hD : va_D A_ [(mo, .inr (9, [.int th, .ref q1, .int tn, .int sz, .int tt, .int fm, .int so, .int nu, .int fau, .int plc, .long wd, .ref q2, .ref q3, .ref q4, .int (nI n), .ref q5, .ref q6, .ref q7, .ref q8, .int rm])), (q1, .inl (cI, 840, .inl Tp)), (q2, .inl (cI, 240, .inl Nw)), (q3, .inl (cI, 240, .inl Rr)), (q4, .inl (cI, 2880, .inl (upd (shS Sn i) i (Sn (i + 240))))), (q5, .inl (cI, 4, .inl In)), (q6, .inl (cI, 500, .inl Pd)), (q7, .inl (cI, 500, .inl Rt)), (q8, .inl (cI, 10000, .inl Rw))] := hD
          refine lv_iinc (v := nI (i + 1)) (lv' := [(1, .int (nI (i + 1))), (0, .ref mo)]) hx hb dX9_snap_34 hl (k := 1) rfl (nI_add _ 1) (by decide) rfl (fun ls hl => ?_)
          refine lv_goto (tgt := 11) hx hb dX9_snap_37 (by decide) ?_
          exact ih11 (i + 1) (by omega) _ _ (by omega) (rfl) (shS_s Sn i) _ _ hP hD hS ls (lv_sub hl [1, 0] rfl)
    exact L11 (2640 - 0 + 1) 0 (by omega) _ _ (Nat.lt_succ_self _) (nI_0.symm) ((shS_0 Sn).symm) _ _ hP hD hS ls (lv_sub hl [1, 0] rfl)

theorem in_X9_adds_9 : ∀ w ∈ wsX90, w ∈ wsX9_adds := fun _ h => List.mem_cons_of_mem _ (List.mem_append_right _ (h))
set_option maxHeartbeats 4000000 in
set_option maxRecDepth 100000 in
theorem kX9_adds (l : Launch) (D : va_G) (cI cB : ClassId) (mo q1 q2 q3 q4 q5 q6 q7 q8 : Nat) (th tn sz tt fm so nu fau plc : Int32) (wd : Int64) (rm : Int32) (Tp Nw Rr Sn In Pd Rt Rw : Nat → Int32) (n C n0 : Nat) (d a : Int32) (hn : n ≤ 12) (hn0 : Nw C = nI n0) (hC : C + 2 + 2 * n0 < 240) : Wr l D (TY cI cB) yX9_adds wsX9_adds 1 21 [.ref mo, .int (nI C), .int d, .int a] [(mo, .inr (9, [.int th, .ref q1, .int tn, .int sz, .int tt, .int fm, .int so, .int nu, .int fau, .int plc, .long wd, .ref q2, .ref q3, .ref q4, .int (nI n), .ref q5, .ref q6, .ref q7, .ref q8, .int rm])), (q1, .inl (cI, 840, .inl Tp)), (q2, .inl (cI, 240, .inl Nw)), (q3, .inl (cI, 240, .inl Rr)), (q4, .inl (cI, 2880, .inl Sn)), (q5, .inl (cI, 4, .inl In)), (q6, .inl (cI, 500, .inl Pd)), (q7, .inl (cI, 500, .inl Rt)), (q8, .inl (cI, 10000, .inl Rw))] [(mo, .inr (9, [.int th, .ref q1, .int tn, .int sz, .int tt, .int fm, .int so, .int nu, .int fau, .int plc, .long wd, .ref q2, .ref q3, .ref q4, .int (nI (kpN n)), .ref q5, .ref q6, .ref q7, .ref q8, .int rm])), (q1, .inl (cI, 840, .inl Tp)), (q2, .inl (cI, 240, .inl (adN Nw C n0 d a))), (q3, .inl (cI, 240, .inl Rr)), (q4, .inl (cI, 2880, .inl (snP Sn Nw n))), (q5, .inl (cI, 4, .inl In)), (q6, .inl (cI, 500, .inl Pd)), (q7, .inl (cI, 500, .inl Rt)), (q8, .inl (cI, 10000, .inl Rw))] none := by
  refine wr_v (cc := cX9_adds) (maxL := 4) (by decide) rfl (Nat.le_of_ble_eq_true rfl) ?_
  intro p_ e_ s_ m_ ar_ be_ me_ co_ ls Q_ A_ hx hb hml hown hts hP hK hD hS hl hret
  have hown : s_.vm.findClass RX9 = some m_.cls := hown
  have hl : lv_has ls 4 [(0, .ref mo), (1, .int (nI C)), (2, .int d), (3, .int a)] := hl
  refine lv_aload_n hx hb dX9_adds_0 rfl (lv_at hl 0 rfl) ?_
  refine wp_V (As := []) (rest := []) (ci := 9) (ws' := [(mo, .inr (9, [.int th, .ref q1, .int tn, .int sz, .int tt, .int fm, .int so, .int nu, .int fau, .int plc, .long wd, .ref q2, .ref q3, .ref q4, .int (nI (kpN n)), .ref q5, .ref q6, .ref q7, .ref q8, .int rm])), (q1, .inl (cI, 840, .inl Tp)), (q2, .inl (cI, 240, .inl Nw)), (q3, .inl (cI, 240, .inl Rr)), (q4, .inl (cI, 2880, .inl (snP Sn Nw n))), (q5, .inl (cI, 4, .inl In)), (q6, .inl (cI, 500, .inl Pd)), (q7, .inl (cI, 500, .inl Rt)), (q8, .inl (cI, 10000, .inl Rw))]) (kX9_snap l D cI cB mo q1 q2 q3 q4 q5 q6 q7 q8 th tn sz tt fm so nu fau plc wd rm Tp Nw Rr Sn In Pd Rt Rw n (by omega)) ⟨hx, hb, hml, hown, hts⟩ (cwV 0 hts gX9_adds_X9_snap rfl rfl rfl (by decide +kernel) ⟨Nat.le_of_ble_eq_true rfl, Nat.le_of_ble_eq_true rfl⟩) hK hP hD hS [0, 1, 2, 3, 4, 5, 6, 7, 8] [] rfl rfl (two_eq [] rfl rfl) 9 rfl (by decide +kernel) (by decide +kernel) (two_eq [mo, q1, q2, q3, q4, q5, q6, q7, q8] rfl rfl) (by decide +kernel) 0 rfl rfl rfl rfl hl.1 (Nat.le_of_ble_eq_true rfl) dX9_adds_1 ⟨Nat.le_refl _, Nat.le_refl _⟩ (fun H_ lc_ hP hD hS => ?_)
  show W p_ l e_ (RM 1 21) s_ m_ ar_ be_ me_ co_ H_ lc_ 0 0 Q_ (F0 m_ 4 ls [])
  refine lv_aload_n hx hb dX9_adds_4 rfl (lv_at hl 0 rfl) ?_
  refine g_get (C := RX9) (T := TX9) (N := 20) (ci := 9) (index := 64) hx hb hts in_X9_adds_9 hown hK hP 0 11 rfl rfl (by decide) (List.mem_of_getElem? (i := 1) rfl) rfl dX9_adds_5 ?_
  refine lv_iload_n hx hb dX9_adds_8 rfl (lv_at hl 1 rfl) ?_
  refine lv_iconst (v := 1) hx hb dX9_adds_9 (by decide) ?_
  refine lv_iadd hx hb dX9_adds_10 ?_
  refine lv_iconst (v := 2) hx hb dX9_adds_11 (by decide) ?_
  refine lv_aload_n hx hb dX9_adds_12 rfl (lv_at hl 0 rfl) ?_
  refine g_get (C := RX9) (T := TX9) (N := 20) (ci := 9) (index := 64) hx hb hts in_X9_adds_9 hown hK hP 0 11 rfl rfl (by decide) (List.mem_of_getElem? (i := 1) rfl) rfl dX9_adds_13 ?_
  refine lv_iload_n hx hb dX9_adds_16 rfl (lv_at hl 1 rfl) ?_
  refine g_iald hx hb hK hP 2 0 rfl rfl C (rfl) (by omega) (by omega) dX9_adds_17 ?_
  rw [show (Nw C : Int32) = nI n0 from hn0]
  refine lv_imul hx hb dX9_adds_18 ?_
  refine lv_iadd hx hb dX9_adds_19 ?_
  refine lv_iload_n hx hb dX9_adds_20 rfl (lv_at hl 2 rfl) ?_
  refine g_iast hx hb hK hP hD hS 2 0 rfl rfl ((C + 1) + (2 * n0)) (nx_a (nx_a (rfl) (rfl)) (nx_m (rfl) (rfl))) (by omega) (by omega) dX9_adds_21 (fun H_ lc_ hP hD hS => ?_)
  have hP : va_P D vwCl [(mo, .inr (9, [.int th, .ref q1, .int tn, .int sz, .int tt, .int fm, .int so, .int nu, .int fau, .int plc, .long wd, .ref q2, .ref q3, .ref q4, .int (nI (kpN n)), .ref q5, .ref q6, .ref q7, .ref q8, .int rm])), (q1, .inl (cI, 840, .inl Tp)), (q2, .inl (cI, 240, .inl (upd Nw ((C + 1) + (2 * n0)) d))), (q3, .inl (cI, 240, .inl Rr)), (q4, .inl (cI, 2880, .inl (snP Sn Nw n))), (q5, .inl (cI, 4, .inl In)), (q6, .inl (cI, 500, .inl Pd)), (q7, .inl (cI, 500, .inl Rt)), (q8, .inl (cI, 10000, .inl Rw))] H_ := hP
  have hD : va_D A_ [(mo, .inr (9, [.int th, .ref q1, .int tn, .int sz, .int tt, .int fm, .int so, .int nu, .int fau, .int plc, .long wd, .ref q2, .ref q3, .ref q4, .int (nI (kpN n)), .ref q5, .ref q6, .ref q7, .ref q8, .int rm])), (q1, .inl (cI, 840, .inl Tp)), (q2, .inl (cI, 240, .inl (upd Nw ((C + 1) + (2 * n0)) d))), (q3, .inl (cI, 240, .inl Rr)), (q4, .inl (cI, 2880, .inl (snP Sn Nw n))), (q5, .inl (cI, 4, .inl In)), (q6, .inl (cI, 500, .inl Pd)), (q7, .inl (cI, 500, .inl Rt)), (q8, .inl (cI, 10000, .inl Rw))] := hD
  refine lv_aload_n hx hb dX9_adds_22 rfl (lv_at hl 0 rfl) ?_
  refine g_get (C := RX9) (T := TX9) (N := 20) (ci := 9) (index := 64) hx hb hts in_X9_adds_9 hown hK hP 0 11 rfl rfl (by decide) (List.mem_of_getElem? (i := 1) rfl) rfl dX9_adds_23 ?_
  refine lv_iload_n hx hb dX9_adds_26 rfl (lv_at hl 1 rfl) ?_
  refine lv_iconst (v := 2) hx hb dX9_adds_27 (by decide) ?_
  refine lv_iadd hx hb dX9_adds_28 ?_
  refine lv_iconst (v := 2) hx hb dX9_adds_29 (by decide) ?_
  refine lv_aload_n hx hb dX9_adds_30 rfl (lv_at hl 0 rfl) ?_
  refine g_get (C := RX9) (T := TX9) (N := 20) (ci := 9) (index := 64) hx hb hts in_X9_adds_9 hown hK hP 0 11 rfl rfl (by decide) (List.mem_of_getElem? (i := 1) rfl) rfl dX9_adds_31 ?_
  refine lv_iload_n hx hb dX9_adds_34 rfl (lv_at hl 1 rfl) ?_
  refine g_iald hx hb hK hP 2 0 rfl rfl C (rfl) (by omega) (by omega) dX9_adds_35 ?_
  rw [show ((upd Nw ((C + 1) + (2 * n0)) d) C : Int32) = nI n0 from by rw [upd_ne (by omega)]; exact hn0]
  refine lv_imul hx hb dX9_adds_36 ?_
  refine lv_iadd hx hb dX9_adds_37 ?_
  refine lv_iload_n hx hb dX9_adds_38 rfl (lv_at hl 3 rfl) ?_
  refine g_iast hx hb hK hP hD hS 2 0 rfl rfl ((C + 2) + (2 * n0)) (nx_a (nx_a (rfl) (rfl)) (nx_m (rfl) (rfl))) (by omega) (by omega) dX9_adds_39 (fun H_ lc_ hP hD hS => ?_)
  have hP : va_P D vwCl [(mo, .inr (9, [.int th, .ref q1, .int tn, .int sz, .int tt, .int fm, .int so, .int nu, .int fau, .int plc, .long wd, .ref q2, .ref q3, .ref q4, .int (nI (kpN n)), .ref q5, .ref q6, .ref q7, .ref q8, .int rm])), (q1, .inl (cI, 840, .inl Tp)), (q2, .inl (cI, 240, .inl (upd (upd Nw ((C + 1) + (2 * n0)) d) ((C + 2) + (2 * n0)) a))), (q3, .inl (cI, 240, .inl Rr)), (q4, .inl (cI, 2880, .inl (snP Sn Nw n))), (q5, .inl (cI, 4, .inl In)), (q6, .inl (cI, 500, .inl Pd)), (q7, .inl (cI, 500, .inl Rt)), (q8, .inl (cI, 10000, .inl Rw))] H_ := hP
  have hD : va_D A_ [(mo, .inr (9, [.int th, .ref q1, .int tn, .int sz, .int tt, .int fm, .int so, .int nu, .int fau, .int plc, .long wd, .ref q2, .ref q3, .ref q4, .int (nI (kpN n)), .ref q5, .ref q6, .ref q7, .ref q8, .int rm])), (q1, .inl (cI, 840, .inl Tp)), (q2, .inl (cI, 240, .inl (upd (upd Nw ((C + 1) + (2 * n0)) d) ((C + 2) + (2 * n0)) a))), (q3, .inl (cI, 240, .inl Rr)), (q4, .inl (cI, 2880, .inl (snP Sn Nw n))), (q5, .inl (cI, 4, .inl In)), (q6, .inl (cI, 500, .inl Pd)), (q7, .inl (cI, 500, .inl Rt)), (q8, .inl (cI, 10000, .inl Rw))] := hD
  refine lv_aload_n hx hb dX9_adds_40 rfl (lv_at hl 0 rfl) ?_
  refine g_get (C := RX9) (T := TX9) (N := 20) (ci := 9) (index := 64) hx hb hts in_X9_adds_9 hown hK hP 0 11 rfl rfl (by decide) (List.mem_of_getElem? (i := 1) rfl) rfl dX9_adds_41 ?_
  refine lv_iload_n hx hb dX9_adds_44 rfl (lv_at hl 1 rfl) ?_
  refine lv_dup2_11 hx hb dX9_adds_45 rfl rfl ?_
  refine g_iald hx hb hK hP 2 0 rfl rfl C (rfl) (by omega) (by omega) dX9_adds_46 ?_
  rw [show ((upd (upd Nw ((C + 1) + (2 * n0)) d) ((C + 2) + (2 * n0)) a) C : Int32) = nI n0 from by rw [upd_ne (by omega), upd_ne (by omega)]; exact hn0]
  refine lv_iconst (v := 1) hx hb dX9_adds_47 (by decide) ?_
  refine lv_iadd hx hb dX9_adds_48 ?_
  rw [show ((nI n0) + 1 : Int32) = nI (n0 + 1) from nI_1 n0]
  refine g_iast hx hb hK hP hD hS 2 0 rfl rfl C (rfl) (by omega) (by omega) dX9_adds_49 (fun H_ lc_ hP hD hS => ?_)
  have hP : va_P D vwCl [(mo, .inr (9, [.int th, .ref q1, .int tn, .int sz, .int tt, .int fm, .int so, .int nu, .int fau, .int plc, .long wd, .ref q2, .ref q3, .ref q4, .int (nI (kpN n)), .ref q5, .ref q6, .ref q7, .ref q8, .int rm])), (q1, .inl (cI, 840, .inl Tp)), (q2, .inl (cI, 240, .inl (upd (upd (upd Nw ((C + 1) + (2 * n0)) d) ((C + 2) + (2 * n0)) a) C (nI (n0 + 1))))), (q3, .inl (cI, 240, .inl Rr)), (q4, .inl (cI, 2880, .inl (snP Sn Nw n))), (q5, .inl (cI, 4, .inl In)), (q6, .inl (cI, 500, .inl Pd)), (q7, .inl (cI, 500, .inl Rt)), (q8, .inl (cI, 10000, .inl Rw))] H_ := hP
  have hD : va_D A_ [(mo, .inr (9, [.int th, .ref q1, .int tn, .int sz, .int tt, .int fm, .int so, .int nu, .int fau, .int plc, .long wd, .ref q2, .ref q3, .ref q4, .int (nI (kpN n)), .ref q5, .ref q6, .ref q7, .ref q8, .int rm])), (q1, .inl (cI, 840, .inl Tp)), (q2, .inl (cI, 240, .inl (upd (upd (upd Nw ((C + 1) + (2 * n0)) d) ((C + 2) + (2 * n0)) a) C (nI (n0 + 1))))), (q3, .inl (cI, 240, .inl Rr)), (q4, .inl (cI, 2880, .inl (snP Sn Nw n))), (q5, .inl (cI, 4, .inl In)), (q6, .inl (cI, 500, .inl Pd)), (q7, .inl (cI, 500, .inl Rt)), (q8, .inl (cI, 10000, .inl Rw))] := hD
  exact hret _ _ _ ls hS (hP) dX9_adds_50

abbrev okE (d a : Int32) (n : Nat) : Prop := ¬ isInM d 0 364 = 0 ∧ ¬ isInM a 1 99999 = 0 ∧ n < 40
abbrev okP (d a : Int32) (n : Nat) : Prop := ¬ isInM d 0 499 = 0 ∧ ¬ isInM a 1 99999 = 0 ∧ n < 40
theorem in_X9_earn_9 : ∀ w ∈ wsX90, w ∈ wsX9_earn := fun _ h => List.mem_cons_of_mem _ (List.mem_append_right _ (h))
set_option maxHeartbeats 4000000 in
set_option maxRecDepth 100000 in
theorem kX9_earn (l : Launch) (D : va_G) (cI cB : ClassId) (mo q1 q2 q3 q4 q5 q6 q7 q8 : Nat) (th tn sz tt fm so nu fau plc : Int32) (wd : Int64) (rm : Int32) (Tp Nw Rr Sn In Pd Rt Rw : Nat → Int32) (ns nr ni np nb : Nat) (n : Nat) (d a : Int32) (hcn : cnt Nw ns nr ni np nb) (hn : n ≤ 12) : Wr l D (TY cI cB) yX9_earn wsX9_earn 2 44 [.ref mo, .int d, .int a] [(mo, .inr (9, [.int th, .ref q1, .int tn, .int sz, .int tt, .int fm, .int so, .int nu, .int fau, .int plc, .long wd, .ref q2, .ref q3, .ref q4, .int (nI n), .ref q5, .ref q6, .ref q7, .ref q8, .int rm])), (q1, .inl (cI, 840, .inl Tp)), (q2, .inl (cI, 240, .inl Nw)), (q3, .inl (cI, 240, .inl Rr)), (q4, .inl (cI, 2880, .inl Sn)), (q5, .inl (cI, 4, .inl In)), (q6, .inl (cI, 500, .inl Pd)), (q7, .inl (cI, 500, .inl Rt)), (q8, .inl (cI, 10000, .inl Rw))] [(mo, .inr (9, [.int 0, .ref q1, .int tn, .int sz, .int tt, .int fm, .int so, .int nu, .int fau, .int plc, .long wd, .ref q2, .ref q3, .ref q4, .int (nI (if okE d a ni then kpN n else n)), .ref q5, .ref q6, .ref q7, .ref q8, .int rm])), (q1, .inl (cI, 840, .inl Tp)), (q2, .inl (cI, 240, .inl (if okE d a ni then adN Nw 36 ni d a else Nw))), (q3, .inl (cI, 240, .inl Rr)), (q4, .inl (cI, 2880, .inl (if okE d a ni then snP Sn Nw n else Sn))), (q5, .inl (cI, 4, .inl In)), (q6, .inl (cI, 500, .inl Pd)), (q7, .inl (cI, 500, .inl Rt)), (q8, .inl (cI, 10000, .inl Rw))] (some (.int (if isInM d 0 364 = 0 then -1 else if isInM a 1 99999 = 0 then -1 else if ni < 40 then upM (adN Nw 36 ni d a) 36 500 (ni + 1) else -2))) := by
  refine wr_i (cc := cX9_earn) (maxL := 3) (by decide) rfl (Nat.le_of_ble_eq_true rfl) ?_
  intro p_ e_ s_ m_ ar_ be_ me_ co_ ls Q_ A_ hx hb hml hown hts hP hK hD hS hl hret
  have hown : s_.vm.findClass RX9 = some m_.cls := hown
  have hl : lv_has ls 3 [(0, .ref mo), (1, .int d), (2, .int a)] := hl
  have h36 := hcn.2.2.1.1
  have h36b := hcn.2.2.1.2
  refine lv_aload_n hx hb dX9_earn_0 rfl (lv_at hl 0 rfl) ?_
  refine lv_iconst (v := 0) hx hb dX9_earn_1 (by decide) ?_
  refine g_put (C := RX9) (T := TX9) (N := 20) (ci := 9) (index := 1) (v := .int 0) (ws' := [(mo, .inr (9, [.int 0, .ref q1, .int tn, .int sz, .int tt, .int fm, .int so, .int nu, .int fau, .int plc, .long wd, .ref q2, .ref q3, .ref q4, .int (nI n), .ref q5, .ref q6, .ref q7, .ref q8, .int rm])), (q1, .inl (cI, 840, .inl Tp)), (q2, .inl (cI, 240, .inl Nw)), (q3, .inl (cI, 240, .inl Rr)), (q4, .inl (cI, 2880, .inl Sn)), (q5, .inl (cI, 4, .inl In)), (q6, .inl (cI, 500, .inl Pd)), (q7, .inl (cI, 500, .inl Rt)), (q8, .inl (cI, 10000, .inl Rw))]) hx hb hts in_X9_earn_9 tyX9 tyX9_ok nmX9 hown hK hP hD hS 0 0 rfl rfl (by decide) (List.mem_of_getElem? (i := 1) rfl) rfl rfl rfl (Nat.le_of_ble_eq_true rfl) dX9_earn_2 rfl (fun H_ lc_ hP hD hS => ?_)
  refine lv_iload_n hx hb dX9_earn_5 rfl (lv_at hl 1 rfl) ?_
  refine lv_iconst (v := 0) hx hb dX9_earn_6 (by decide) ?_
  refine lv_sipush (v := 364) hx hb dX9_earn_7 (by decide) ?_
  refine rd_S (As := [.int d, .int 0, .int 364]) (rest := []) (kX9_isIn l D cI cB d 0 364 ) ⟨hx, hb, hml, hown, hts⟩ (va_cwS 3 hts gX9_earn_X9_isIn rfl rfl rfl (by decide +kernel) ⟨Nat.le_of_ble_eq_true rfl, Nat.le_of_ble_eq_true rfl⟩) hK hP [] rfl rfl rfl hl.1 (Nat.le_of_ble_eq_true rfl) dX9_earn_10 ⟨Nat.le_refl _, Nat.le_refl _⟩ ?_
  refine lv_if_eq (tgt := 26) hx hb dX9_earn_13 (by decide) (fun c13 => ?_) (fun c13 => ?_)
  · have hno : ¬ okE d a ni := fun q => by first | exact q.1 c13 | exact q.2.1 c23
    refine lv_iconst (v := -1) hx hb dX9_earn_26 (by decide) ?_
    exact hret _ _ _ _ ls hS (by simpa only [if_neg hno] using hP) (by rw [if_pos c13]) dX9_earn_27
  · refine lv_iload_n hx hb dX9_earn_16 rfl (lv_at hl 2 rfl) ?_
    refine lv_iconst (v := 1) hx hb dX9_earn_17 (by decide) ?_
    refine lv_ldc (v := 99999) hx hb hown (hts (.constant RX9 99 (99999)) (List.mem_of_getElem? (i := 2) rfl)) dX9_earn_18 ?_
    refine rd_S (As := [.int a, .int 1, .int 99999]) (rest := []) (kX9_isIn l D cI cB a 1 99999 ) ⟨hx, hb, hml, hown, hts⟩ (va_cwS 3 hts gX9_earn_X9_isIn rfl rfl rfl (by decide +kernel) ⟨Nat.le_of_ble_eq_true rfl, Nat.le_of_ble_eq_true rfl⟩) hK hP [] rfl rfl rfl hl.1 (Nat.le_of_ble_eq_true rfl) dX9_earn_20 ⟨Nat.le_refl _, Nat.le_refl _⟩ ?_
    refine lv_if_ne (tgt := 28) hx hb dX9_earn_23 (by decide) (fun c23 => ?_) (fun c23 => ?_)
    · refine lv_aload_n hx hb dX9_earn_28 rfl (lv_at hl 0 rfl) ?_
      refine g_get (C := RX9) (T := TX9) (N := 20) (ci := 9) (index := 64) hx hb hts in_X9_earn_9 hown hK hP 0 11 rfl rfl (by decide) (List.mem_of_getElem? (i := 3) rfl) rfl dX9_earn_29 ?_
      refine lv_bipush (v := 36) hx hb dX9_earn_32 (by decide) ?_
      refine g_iald hx hb hK hP 2 0 rfl rfl 36 (rfl) (by omega) (by omega) dX9_earn_34 ?_
      rw [show (Nw 36 : Int32) = nI ni from h36]
      refine lv_bipush (v := 40) hx hb dX9_earn_35 (by decide) ?_
      refine lv_icmp_ne (tgt := 43) hx hb dX9_earn_37 (by decide) (fun c37 => ?_) (fun c37 => ?_)
      · have h40 : ni < 40 := by have q : ¬ ni = 40 := fun z => c37 ((nI_eq (b := 40) (by omega) (by omega)).mpr z); omega
        have hyes : okE d a ni := ⟨c13, c23, h40⟩
        refine lv_aload_n hx hb dX9_earn_43 rfl (lv_at hl 0 rfl) ?_
        refine lv_bipush (v := 36) hx hb dX9_earn_44 (by decide) ?_
        refine lv_iload_n hx hb dX9_earn_46 rfl (lv_at hl 1 rfl) ?_
        refine lv_iload_n hx hb dX9_earn_47 rfl (lv_at hl 2 rfl) ?_
        refine wp_V (As := [.int 36, .int d, .int a]) (rest := []) (ci := 9) (ws' := [(mo, .inr (9, [.int 0, .ref q1, .int tn, .int sz, .int tt, .int fm, .int so, .int nu, .int fau, .int plc, .long wd, .ref q2, .ref q3, .ref q4, .int (nI (kpN n)), .ref q5, .ref q6, .ref q7, .ref q8, .int rm])), (q1, .inl (cI, 840, .inl Tp)), (q2, .inl (cI, 240, .inl (adN Nw 36 ni d a))), (q3, .inl (cI, 240, .inl Rr)), (q4, .inl (cI, 2880, .inl (snP Sn Nw n))), (q5, .inl (cI, 4, .inl In)), (q6, .inl (cI, 500, .inl Pd)), (q7, .inl (cI, 500, .inl Rt)), (q8, .inl (cI, 10000, .inl Rw))]) (kX9_adds l D cI cB mo q1 q2 q3 q4 q5 q6 q7 q8 0 tn sz tt fm so nu fau plc wd rm Tp Nw Rr Sn In Pd Rt Rw n 36 ni d a (hn) (h36) (by omega)) ⟨hx, hb, hml, hown, hts⟩ (cwV 3 hts gX9_earn_X9_adds rfl rfl rfl (by decide +kernel) ⟨Nat.le_of_ble_eq_true rfl, Nat.le_of_ble_eq_true rfl⟩) hK hP hD hS [0, 1, 2, 3, 4, 5, 6, 7, 8] [] rfl rfl (two_eq [] rfl rfl) 9 rfl (by decide +kernel) (by decide +kernel) (two_eq [mo, q1, q2, q3, q4, q5, q6, q7, q8] rfl rfl) (by decide +kernel) 0 rfl rfl rfl rfl hl.1 (Nat.le_of_ble_eq_true rfl) dX9_earn_48 ⟨Nat.le_refl _, Nat.le_refl _⟩ (fun H_ lc_ hP hD hS => ?_)
        show W p_ l e_ (RM 2 44) s_ m_ ar_ be_ me_ co_ H_ lc_ 0 0 Q_ (F0 m_ 51 ls [])
        refine lv_aload_n hx hb dX9_earn_51 rfl (lv_at hl 0 rfl) ?_
        refine rd_V (As := []) (rest := []) (ci := 9) (kX9_allIncome l D cI cB mo q1 q2 q3 q4 q5 q6 q7 q8 0 tn sz tt fm so nu fau plc wd (nI (kpN n)) rm Tp (adN Nw 36 ni d a) Rr (snP Sn Nw n) In Pd Rt Rw ns nr (ni + 1) np nb (cnt_36 hcn h40)) ⟨hx, hb, hml, hown, hts⟩ (cwV 0 hts gX9_earn_X9_allIncome rfl rfl rfl (by decide +kernel) ⟨Nat.le_of_ble_eq_true rfl, Nat.le_of_ble_eq_true rfl⟩) hK hP [0, 1, 2, 3, 4, 5, 6, 7, 8] rfl 0 rfl rfl rfl rfl hl.1 (Nat.le_of_ble_eq_true rfl) dX9_earn_52 ⟨Nat.le_refl _, Nat.le_refl _⟩ ?_
        exact hret _ _ _ _ ls hS (by simpa only [if_pos hyes] using hP) (by rw [if_neg c13, if_neg c23, if_pos h40]) dX9_earn_55
      · have h40 : ¬ ni < 40 := by have q := (nI_eq (b := 40) (by omega) (by omega)).mp c37; omega
        have hno : ¬ okE d a ni := fun q => h40 q.2.2
        refine lv_bipush (v := -2) hx hb dX9_earn_40 (by decide) ?_
        exact hret _ _ _ _ ls hS (by simpa only [if_neg hno] using hP) (by rw [if_neg c13, if_neg c23, if_neg h40]) dX9_earn_42
    · have hno : ¬ okE d a ni := fun q => by first | exact q.1 c13 | exact q.2.1 c23
      refine lv_iconst (v := -1) hx hb dX9_earn_26 (by decide) ?_
      exact hret _ _ _ _ ls hS (by simpa only [if_neg hno] using hP) (by rw [if_neg c13, if_pos c23]) dX9_earn_27

theorem in_X9_pay_9 : ∀ w ∈ wsX90, w ∈ wsX9_pay := fun _ h => List.mem_cons_of_mem _ (List.mem_append_right _ (h))
set_option maxHeartbeats 4000000 in
set_option maxRecDepth 100000 in
theorem kX9_pay (l : Launch) (D : va_G) (cI cB : ClassId) (mo q1 q2 q3 q4 q5 q6 q7 q8 : Nat) (th tn sz tt fm so nu fau plc : Int32) (wd : Int64) (rm : Int32) (Tp Nw Rr Sn In Pd Rt Rw : Nat → Int32) (ns nr ni np nb : Nat) (n : Nat) (d a : Int32) (hcn : cnt Nw ns nr ni np nb) (hn : n ≤ 12) : Wr l D (TY cI cB) yX9_pay wsX9_pay 2 44 [.ref mo, .int d, .int a] [(mo, .inr (9, [.int th, .ref q1, .int tn, .int sz, .int tt, .int fm, .int so, .int nu, .int fau, .int plc, .long wd, .ref q2, .ref q3, .ref q4, .int (nI n), .ref q5, .ref q6, .ref q7, .ref q8, .int rm])), (q1, .inl (cI, 840, .inl Tp)), (q2, .inl (cI, 240, .inl Nw)), (q3, .inl (cI, 240, .inl Rr)), (q4, .inl (cI, 2880, .inl Sn)), (q5, .inl (cI, 4, .inl In)), (q6, .inl (cI, 500, .inl Pd)), (q7, .inl (cI, 500, .inl Rt)), (q8, .inl (cI, 10000, .inl Rw))] [(mo, .inr (9, [.int 0, .ref q1, .int tn, .int sz, .int tt, .int fm, .int so, .int nu, .int fau, .int plc, .long wd, .ref q2, .ref q3, .ref q4, .int (nI (if okP d a np then kpN n else n)), .ref q5, .ref q6, .ref q7, .ref q8, .int rm])), (q1, .inl (cI, 840, .inl Tp)), (q2, .inl (cI, 240, .inl (if okP d a np then adN Nw 117 np d a else Nw))), (q3, .inl (cI, 240, .inl Rr)), (q4, .inl (cI, 2880, .inl (if okP d a np then snP Sn Nw n else Sn))), (q5, .inl (cI, 4, .inl In)), (q6, .inl (cI, 500, .inl Pd)), (q7, .inl (cI, 500, .inl Rt)), (q8, .inl (cI, 10000, .inl Rw))] (some (.int (if isInM d 0 499 = 0 then -1 else if isInM a 1 99999 = 0 then -1 else if np < 40 then nI np else -2))) := by
  refine wr_i (cc := cX9_pay) (maxL := 3) (by decide) rfl (Nat.le_of_ble_eq_true rfl) ?_
  intro p_ e_ s_ m_ ar_ be_ me_ co_ ls Q_ A_ hx hb hml hown hts hP hK hD hS hl hret
  have hown : s_.vm.findClass RX9 = some m_.cls := hown
  have hl : lv_has ls 3 [(0, .ref mo), (1, .int d), (2, .int a)] := hl
  have h36 := hcn.2.2.2.1.1
  have h36b := hcn.2.2.2.1.2
  refine lv_aload_n hx hb dX9_pay_0 rfl (lv_at hl 0 rfl) ?_
  refine lv_iconst (v := 0) hx hb dX9_pay_1 (by decide) ?_
  refine g_put (C := RX9) (T := TX9) (N := 20) (ci := 9) (index := 1) (v := .int 0) (ws' := [(mo, .inr (9, [.int 0, .ref q1, .int tn, .int sz, .int tt, .int fm, .int so, .int nu, .int fau, .int plc, .long wd, .ref q2, .ref q3, .ref q4, .int (nI n), .ref q5, .ref q6, .ref q7, .ref q8, .int rm])), (q1, .inl (cI, 840, .inl Tp)), (q2, .inl (cI, 240, .inl Nw)), (q3, .inl (cI, 240, .inl Rr)), (q4, .inl (cI, 2880, .inl Sn)), (q5, .inl (cI, 4, .inl In)), (q6, .inl (cI, 500, .inl Pd)), (q7, .inl (cI, 500, .inl Rt)), (q8, .inl (cI, 10000, .inl Rw))]) hx hb hts in_X9_pay_9 tyX9 tyX9_ok nmX9 hown hK hP hD hS 0 0 rfl rfl (by decide) (List.mem_of_getElem? (i := 1) rfl) rfl rfl rfl (Nat.le_of_ble_eq_true rfl) dX9_pay_2 rfl (fun H_ lc_ hP hD hS => ?_)
  refine lv_iload_n hx hb dX9_pay_5 rfl (lv_at hl 1 rfl) ?_
  refine rd_S (As := [.int d]) (rest := []) (kX9_isDay l D cI cB d ) ⟨hx, hb, hml, hown, hts⟩ (va_cwS 1 hts gX9_pay_X9_isDay rfl rfl rfl (by decide +kernel) ⟨Nat.le_of_ble_eq_true rfl, Nat.le_of_ble_eq_true rfl⟩) hK hP [] rfl rfl rfl hl.1 (Nat.le_of_ble_eq_true rfl) dX9_pay_6 ⟨Nat.le_refl _, Nat.le_refl _⟩ ?_
  refine lv_if_eq (tgt := 22) hx hb dX9_pay_9 (by decide) (fun c9 => ?_) (fun c9 => ?_)
  · have hno : ¬ okP d a np := fun q => by first | exact q.1 c9 | exact q.2.1 c19
    refine lv_iconst (v := -1) hx hb dX9_pay_22 (by decide) ?_
    exact hret _ _ _ _ ls hS (by simpa only [if_neg hno] using hP) (by rw [if_pos c9]) dX9_pay_23
  · refine lv_iload_n hx hb dX9_pay_12 rfl (lv_at hl 2 rfl) ?_
    refine lv_iconst (v := 1) hx hb dX9_pay_13 (by decide) ?_
    refine lv_ldc (v := 99999) hx hb hown (hts (.constant RX9 99 (99999)) (List.mem_of_getElem? (i := 2) rfl)) dX9_pay_14 ?_
    refine rd_S (As := [.int a, .int 1, .int 99999]) (rest := []) (kX9_isIn l D cI cB a 1 99999 ) ⟨hx, hb, hml, hown, hts⟩ (va_cwS 3 hts gX9_pay_X9_isIn rfl rfl rfl (by decide +kernel) ⟨Nat.le_of_ble_eq_true rfl, Nat.le_of_ble_eq_true rfl⟩) hK hP [] rfl rfl rfl hl.1 (Nat.le_of_ble_eq_true rfl) dX9_pay_16 ⟨Nat.le_refl _, Nat.le_refl _⟩ ?_
    refine lv_if_ne (tgt := 24) hx hb dX9_pay_19 (by decide) (fun c19 => ?_) (fun c19 => ?_)
    · refine lv_aload_n hx hb dX9_pay_24 rfl (lv_at hl 0 rfl) ?_
      refine g_get (C := RX9) (T := TX9) (N := 20) (ci := 9) (index := 64) hx hb hts in_X9_pay_9 hown hK hP 0 11 rfl rfl (by decide) (List.mem_of_getElem? (i := 3) rfl) rfl dX9_pay_25 ?_
      refine lv_bipush (v := 117) hx hb dX9_pay_28 (by decide) ?_
      refine g_iald hx hb hK hP 2 0 rfl rfl 117 (rfl) (by omega) (by omega) dX9_pay_30 ?_
      rw [show (Nw 117 : Int32) = nI np from h36]
      refine lv_bipush (v := 40) hx hb dX9_pay_31 (by decide) ?_
      refine lv_icmp_ne (tgt := 39) hx hb dX9_pay_33 (by decide) (fun c33 => ?_) (fun c33 => ?_)
      · have h40 : np < 40 := by have q : ¬ np = 40 := fun z => c33 ((nI_eq (b := 40) (by omega) (by omega)).mpr z); omega
        have hyes : okP d a np := ⟨c9, c19, h40⟩
        refine lv_aload_n hx hb dX9_pay_39 rfl (lv_at hl 0 rfl) ?_
        refine lv_bipush (v := 117) hx hb dX9_pay_40 (by decide) ?_
        refine lv_iload_n hx hb dX9_pay_42 rfl (lv_at hl 1 rfl) ?_
        refine lv_iload_n hx hb dX9_pay_43 rfl (lv_at hl 2 rfl) ?_
        refine wp_V (As := [.int 117, .int d, .int a]) (rest := []) (ci := 9) (ws' := [(mo, .inr (9, [.int 0, .ref q1, .int tn, .int sz, .int tt, .int fm, .int so, .int nu, .int fau, .int plc, .long wd, .ref q2, .ref q3, .ref q4, .int (nI (kpN n)), .ref q5, .ref q6, .ref q7, .ref q8, .int rm])), (q1, .inl (cI, 840, .inl Tp)), (q2, .inl (cI, 240, .inl (adN Nw 117 np d a))), (q3, .inl (cI, 240, .inl Rr)), (q4, .inl (cI, 2880, .inl (snP Sn Nw n))), (q5, .inl (cI, 4, .inl In)), (q6, .inl (cI, 500, .inl Pd)), (q7, .inl (cI, 500, .inl Rt)), (q8, .inl (cI, 10000, .inl Rw))]) (kX9_adds l D cI cB mo q1 q2 q3 q4 q5 q6 q7 q8 0 tn sz tt fm so nu fau plc wd rm Tp Nw Rr Sn In Pd Rt Rw n 117 np d a (hn) (h36) (by omega)) ⟨hx, hb, hml, hown, hts⟩ (cwV 3 hts gX9_pay_X9_adds rfl rfl rfl (by decide +kernel) ⟨Nat.le_of_ble_eq_true rfl, Nat.le_of_ble_eq_true rfl⟩) hK hP hD hS [0, 1, 2, 3, 4, 5, 6, 7, 8] [] rfl rfl (two_eq [] rfl rfl) 9 rfl (by decide +kernel) (by decide +kernel) (two_eq [mo, q1, q2, q3, q4, q5, q6, q7, q8] rfl rfl) (by decide +kernel) 0 rfl rfl rfl rfl hl.1 (Nat.le_of_ble_eq_true rfl) dX9_pay_44 ⟨Nat.le_refl _, Nat.le_refl _⟩ (fun H_ lc_ hP hD hS => ?_)
        show W p_ l e_ (RM 2 44) s_ m_ ar_ be_ me_ co_ H_ lc_ 0 0 Q_ (F0 m_ 47 ls [])
        refine lv_aload_n hx hb dX9_pay_47 rfl (lv_at hl 0 rfl) ?_
        refine g_get (C := RX9) (T := TX9) (N := 20) (ci := 9) (index := 64) hx hb hts in_X9_pay_9 hown hK hP 0 11 rfl rfl (by decide) (List.mem_of_getElem? (i := 3) rfl) rfl dX9_pay_48 ?_
        refine lv_bipush (v := 117) hx hb dX9_pay_51 (by decide) ?_
        refine g_iald hx hb hK hP 2 0 rfl rfl 117 (rfl) (by omega) (by omega) dX9_pay_53 ?_
        rw [show ((adN Nw 117 np d a) 117 : Int32) = nI (np + 1) from adN_at]
        refine lv_iconst (v := 1) hx hb dX9_pay_54 (by decide) ?_
        refine lv_isub hx hb dX9_pay_55 ?_
        rw [show ((nI (np + 1)) - 1 : Int32) = nI np from nI_pred np]
        exact hret _ _ _ _ ls hS (by simpa only [if_pos hyes] using hP) (by rw [if_neg c9, if_neg c19, if_pos h40]) dX9_pay_56
      · have h40 : ¬ np < 40 := by have q := (nI_eq (b := 40) (by omega) (by omega)).mp c33; omega
        have hno : ¬ okP d a np := fun q => h40 q.2.2
        refine lv_bipush (v := -2) hx hb dX9_pay_36 (by decide) ?_
        exact hret _ _ _ _ ls hS (by simpa only [if_neg hno] using hP) (by rw [if_neg c9, if_neg c19, if_neg h40]) dX9_pay_38
    · have hno : ¬ okP d a np := fun q => by first | exact q.1 c9 | exact q.2.1 c19
      refine lv_iconst (v := -1) hx hb dX9_pay_22 (by decide) ?_
      exact hret _ _ _ _ ls hS (by simpa only [if_neg hno] using hP) (by rw [if_neg c9, if_pos c19]) dX9_pay_23

theorem in_X9_bar_9 : ∀ w ∈ wsX90, w ∈ wsX9_bar := fun _ h => List.mem_cons_of_mem _ (List.mem_append_right _ (h))
set_option maxHeartbeats 4000000 in
set_option maxRecDepth 100000 in
theorem kX9_bar (l : Launch) (D : va_G) (cI cB : ClassId) (mo q1 q2 q3 q4 q5 q6 q7 q8 : Nat) (th tn sz tt fm so nu fau plc : Int32) (wd : Int64) (rm : Int32) (Tp Nw Rr Sn In Pd Rt Rw : Nat → Int32) (n : Nat) (r : Int32) (hn : n ≤ 12) : Wr l D (TY cI cB) yX9_bar wsX9_bar 2 44 [.ref mo, .int r] [(mo, .inr (9, [.int th, .ref q1, .int tn, .int sz, .int tt, .int fm, .int so, .int nu, .int fau, .int plc, .long wd, .ref q2, .ref q3, .ref q4, .int (nI n), .ref q5, .ref q6, .ref q7, .ref q8, .int rm])), (q1, .inl (cI, 840, .inl Tp)), (q2, .inl (cI, 240, .inl Nw)), (q3, .inl (cI, 240, .inl Rr)), (q4, .inl (cI, 2880, .inl Sn)), (q5, .inl (cI, 4, .inl In)), (q6, .inl (cI, 500, .inl Pd)), (q7, .inl (cI, 500, .inl Rt)), (q8, .inl (cI, 10000, .inl Rw))] [(mo, .inr (9, [.int 0, .ref q1, .int tn, .int sz, .int tt, .int fm, .int so, .int nu, .int fau, .int plc, .long wd, .ref q2, .ref q3, .ref q4, .int (nI (if bbM (Nw 239) r = -1 then n else kpN n)), .ref q5, .ref q6, .ref q7, .ref q8, .int rm])), (q1, .inl (cI, 840, .inl Tp)), (q2, .inl (cI, 240, .inl (if bbM (Nw 239) r = -1 then Nw else upd Nw 239 (bbM (Nw 239) r)))), (q3, .inl (cI, 240, .inl Rr)), (q4, .inl (cI, 2880, .inl (if bbM (Nw 239) r = -1 then Sn else snP Sn Nw n))), (q5, .inl (cI, 4, .inl In)), (q6, .inl (cI, 500, .inl Pd)), (q7, .inl (cI, 500, .inl Rt)), (q8, .inl (cI, 10000, .inl Rw))] (some (.int (bbM (Nw 239) r))) := by
  refine wr_i (cc := cX9_bar) (maxL := 3) (by decide) rfl (Nat.le_of_ble_eq_true rfl) ?_
  intro p_ e_ s_ m_ ar_ be_ me_ co_ ls Q_ A_ hx hb hml hown hts hP hK hD hS hl hret
  have hown : s_.vm.findClass RX9 = some m_.cls := hown
  have hl : lv_has ls 3 [(0, .ref mo), (1, .int r)] := hl
  refine lv_aload_n hx hb dX9_bar_0 rfl (lv_at hl 0 rfl) ?_
  refine lv_iconst (v := 0) hx hb dX9_bar_1 (by decide) ?_
  refine g_put (C := RX9) (T := TX9) (N := 20) (ci := 9) (index := 1) (v := .int 0) (ws' := [(mo, .inr (9, [.int 0, .ref q1, .int tn, .int sz, .int tt, .int fm, .int so, .int nu, .int fau, .int plc, .long wd, .ref q2, .ref q3, .ref q4, .int (nI n), .ref q5, .ref q6, .ref q7, .ref q8, .int rm])), (q1, .inl (cI, 840, .inl Tp)), (q2, .inl (cI, 240, .inl Nw)), (q3, .inl (cI, 240, .inl Rr)), (q4, .inl (cI, 2880, .inl Sn)), (q5, .inl (cI, 4, .inl In)), (q6, .inl (cI, 500, .inl Pd)), (q7, .inl (cI, 500, .inl Rt)), (q8, .inl (cI, 10000, .inl Rw))]) hx hb hts in_X9_bar_9 tyX9 tyX9_ok nmX9 hown hK hP hD hS 0 0 rfl rfl (by decide) (List.mem_of_getElem? (i := 1) rfl) rfl rfl rfl (Nat.le_of_ble_eq_true rfl) dX9_bar_2 rfl (fun H_ lc_ hP hD hS => ?_)
  refine lv_aload_n hx hb dX9_bar_5 rfl (lv_at hl 0 rfl) ?_
  refine lv_iload_n hx hb dX9_bar_6 rfl (lv_at hl 1 rfl) ?_
  refine rd_V (As := [.int r]) (rest := []) (ci := 9) (kX9_barredBy l D cI cB mo q1 q2 q3 q4 q5 q6 q7 q8 0 tn sz tt fm so nu fau plc wd (nI n) rm Tp Nw Rr Sn In Pd Rt Rw r ) ⟨hx, hb, hml, hown, hts⟩ (cwV 1 hts gX9_bar_X9_barredBy rfl rfl rfl (by decide +kernel) ⟨Nat.le_of_ble_eq_true rfl, Nat.le_of_ble_eq_true rfl⟩) hK hP [0, 1, 2, 3, 4, 5, 6, 7, 8] rfl 0 rfl rfl rfl rfl hl.1 (Nat.le_of_ble_eq_true rfl) dX9_bar_7 ⟨Nat.le_refl _, Nat.le_refl _⟩ ?_
  refine lv_istore_n (lv' := [(2, .int (bbM (Nw 239) r)), (0, .ref mo), (1, .int r)]) hx hb dX9_bar_10 rfl hl (by decide) rfl (fun ls hl => ?_)
  refine lv_iload_n hx hb dX9_bar_11 rfl (lv_at hl 0 rfl) ?_
  refine lv_iconst (v := -1) hx hb dX9_bar_12 (by decide) ?_
  refine lv_icmp_ne (tgt := 18) hx hb dX9_bar_13 (by decide) (fun c13 => ?_) (fun c13 => ?_)
  · refine lv_aload_n hx hb dX9_bar_18 rfl (lv_at hl 1 rfl) ?_
    refine wp_V (As := []) (rest := []) (ci := 9) (ws' := [(mo, .inr (9, [.int 0, .ref q1, .int tn, .int sz, .int tt, .int fm, .int so, .int nu, .int fau, .int plc, .long wd, .ref q2, .ref q3, .ref q4, .int (nI (kpN n)), .ref q5, .ref q6, .ref q7, .ref q8, .int rm])), (q1, .inl (cI, 840, .inl Tp)), (q2, .inl (cI, 240, .inl Nw)), (q3, .inl (cI, 240, .inl Rr)), (q4, .inl (cI, 2880, .inl (snP Sn Nw n))), (q5, .inl (cI, 4, .inl In)), (q6, .inl (cI, 500, .inl Pd)), (q7, .inl (cI, 500, .inl Rt)), (q8, .inl (cI, 10000, .inl Rw))]) (kX9_snap l D cI cB mo q1 q2 q3 q4 q5 q6 q7 q8 0 tn sz tt fm so nu fau plc wd rm Tp Nw Rr Sn In Pd Rt Rw n (by omega)) ⟨hx, hb, hml, hown, hts⟩ (cwV 0 hts gX9_bar_X9_snap rfl rfl rfl (by decide +kernel) ⟨Nat.le_of_ble_eq_true rfl, Nat.le_of_ble_eq_true rfl⟩) hK hP hD hS [0, 1, 2, 3, 4, 5, 6, 7, 8] [] rfl rfl (two_eq [] rfl rfl) 9 rfl (by decide +kernel) (by decide +kernel) (two_eq [mo, q1, q2, q3, q4, q5, q6, q7, q8] rfl rfl) (by decide +kernel) 0 rfl rfl rfl rfl hl.1 (Nat.le_of_ble_eq_true rfl) dX9_bar_19 ⟨Nat.le_refl _, Nat.le_refl _⟩ (fun H_ lc_ hP hD hS => ?_)
    show W p_ l e_ (RM 2 44) s_ m_ ar_ be_ me_ co_ H_ lc_ 0 0 Q_ (F0 m_ 22 ls [])
    refine lv_aload_n hx hb dX9_bar_22 rfl (lv_at hl 1 rfl) ?_
    refine g_get (C := RX9) (T := TX9) (N := 20) (ci := 9) (index := 64) hx hb hts in_X9_bar_9 hown hK hP 0 11 rfl rfl (by decide) (List.mem_of_getElem? (i := 2) rfl) rfl dX9_bar_23 ?_
    refine lv_sipush (v := 239) hx hb dX9_bar_26 (by decide) ?_
    refine lv_iload_n hx hb dX9_bar_29 rfl (lv_at hl 0 rfl) ?_
    refine g_iast hx hb hK hP hD hS 2 0 rfl rfl 239 (rfl) (by omega) (by omega) dX9_bar_30 (fun H_ lc_ hP hD hS => ?_)
    have hP : va_P D vwCl [(mo, .inr (9, [.int 0, .ref q1, .int tn, .int sz, .int tt, .int fm, .int so, .int nu, .int fau, .int plc, .long wd, .ref q2, .ref q3, .ref q4, .int (nI (kpN n)), .ref q5, .ref q6, .ref q7, .ref q8, .int rm])), (q1, .inl (cI, 840, .inl Tp)), (q2, .inl (cI, 240, .inl (upd Nw 239 (bbM (Nw 239) r)))), (q3, .inl (cI, 240, .inl Rr)), (q4, .inl (cI, 2880, .inl (snP Sn Nw n))), (q5, .inl (cI, 4, .inl In)), (q6, .inl (cI, 500, .inl Pd)), (q7, .inl (cI, 500, .inl Rt)), (q8, .inl (cI, 10000, .inl Rw))] H_ := hP
    have hD : va_D A_ [(mo, .inr (9, [.int 0, .ref q1, .int tn, .int sz, .int tt, .int fm, .int so, .int nu, .int fau, .int plc, .long wd, .ref q2, .ref q3, .ref q4, .int (nI (kpN n)), .ref q5, .ref q6, .ref q7, .ref q8, .int rm])), (q1, .inl (cI, 840, .inl Tp)), (q2, .inl (cI, 240, .inl (upd Nw 239 (bbM (Nw 239) r)))), (q3, .inl (cI, 240, .inl Rr)), (q4, .inl (cI, 2880, .inl (snP Sn Nw n))), (q5, .inl (cI, 4, .inl In)), (q6, .inl (cI, 500, .inl Pd)), (q7, .inl (cI, 500, .inl Rt)), (q8, .inl (cI, 10000, .inl Rw))] := hD
    refine lv_iload_n hx hb dX9_bar_31 rfl (lv_at hl 0 rfl) ?_
    exact hret _ _ _ _ ls hS (by simpa only [if_neg c13] using hP) (rfl) dX9_bar_32
  · refine lv_iconst (v := -1) hx hb dX9_bar_16 (by decide) ?_
    exact hret _ _ _ _ ls hS (by simpa only [if_pos c13] using hP) (c13.symm) dX9_bar_17

theorem in_X9_undo_9 : ∀ w ∈ wsX90, w ∈ wsX9_undo := fun _ h => List.mem_cons_of_mem _ (List.mem_append_right _ (h))
set_option maxHeartbeats 4000000 in
set_option maxRecDepth 100000 in
theorem kX9_undo (l : Launch) (D : va_G) (cI cB : ClassId) (mo q1 q2 q3 q4 q5 q6 q7 q8 : Nat) (th tn sz tt fm so nu fau plc : Int32) (wd : Int64) (rm : Int32) (Tp Nw Rr Sn In Pd Rt Rw : Nat → Int32) (n : Nat) (hn : n ≤ 12) : Wr l D (TY cI cB) yX9_undo wsX9_undo 0 0 [.ref mo] [(mo, .inr (9, [.int th, .ref q1, .int tn, .int sz, .int tt, .int fm, .int so, .int nu, .int fau, .int plc, .long wd, .ref q2, .ref q3, .ref q4, .int (nI n), .ref q5, .ref q6, .ref q7, .ref q8, .int rm])), (q1, .inl (cI, 840, .inl Tp)), (q2, .inl (cI, 240, .inl Nw)), (q3, .inl (cI, 240, .inl Rr)), (q4, .inl (cI, 2880, .inl Sn)), (q5, .inl (cI, 4, .inl In)), (q6, .inl (cI, 500, .inl Pd)), (q7, .inl (cI, 500, .inl Rt)), (q8, .inl (cI, 10000, .inl Rw))] [(mo, .inr (9, [.int 0, .ref q1, .int tn, .int sz, .int tt, .int fm, .int so, .int nu, .int fau, .int plc, .long wd, .ref q2, .ref q3, .ref q4, .int (nI (n - 1)), .ref q5, .ref q6, .ref q7, .ref q8, .int rm])), (q1, .inl (cI, 840, .inl Tp)), (q2, .inl (cI, 240, .inl (if n = 0 then Nw else ov (fun j => Sn (240 * (n - 1) + j)) Nw 240))), (q3, .inl (cI, 240, .inl Rr)), (q4, .inl (cI, 2880, .inl Sn)), (q5, .inl (cI, 4, .inl In)), (q6, .inl (cI, 500, .inl Pd)), (q7, .inl (cI, 500, .inl Rt)), (q8, .inl (cI, 10000, .inl Rw))] (some (.int (if n = 0 then -1 else nI (n - 1)))) := by
  refine wr_i (cc := cX9_undo) (maxL := 2) (by decide) rfl (Nat.le_of_ble_eq_true rfl) ?_
  intro p_ e_ s_ m_ ar_ be_ me_ co_ ls Q_ A_ hx hb hml hown hts hP hK hD hS hl hret
  have hown : s_.vm.findClass RX9 = some m_.cls := hown
  have hl : lv_has ls 2 [(0, .ref mo)] := hl
  refine lv_aload_n hx hb dX9_undo_0 rfl (lv_at hl 0 rfl) ?_
  refine lv_iconst (v := 0) hx hb dX9_undo_1 (by decide) ?_
  refine g_put (C := RX9) (T := TX9) (N := 20) (ci := 9) (index := 1) (v := .int 0) (ws' := [(mo, .inr (9, [.int 0, .ref q1, .int tn, .int sz, .int tt, .int fm, .int so, .int nu, .int fau, .int plc, .long wd, .ref q2, .ref q3, .ref q4, .int (nI n), .ref q5, .ref q6, .ref q7, .ref q8, .int rm])), (q1, .inl (cI, 840, .inl Tp)), (q2, .inl (cI, 240, .inl Nw)), (q3, .inl (cI, 240, .inl Rr)), (q4, .inl (cI, 2880, .inl Sn)), (q5, .inl (cI, 4, .inl In)), (q6, .inl (cI, 500, .inl Pd)), (q7, .inl (cI, 500, .inl Rt)), (q8, .inl (cI, 10000, .inl Rw))]) hx hb hts in_X9_undo_9 tyX9 tyX9_ok nmX9 hown hK hP hD hS 0 0 rfl rfl (by decide) (List.mem_of_getElem? (i := 1) rfl) rfl rfl rfl (Nat.le_of_ble_eq_true rfl) dX9_undo_2 rfl (fun H_ lc_ hP hD hS => ?_)
  refine lv_aload_n hx hb dX9_undo_5 rfl (lv_at hl 0 rfl) ?_
  refine g_get (C := RX9) (T := TX9) (N := 20) (ci := 9) (index := 125) hx hb hts in_X9_undo_9 hown hK hP 0 14 rfl rfl (by decide) (List.mem_of_getElem? (i := 2) rfl) rfl dX9_undo_6 ?_
  refine lv_if_ne (tgt := 14) hx hb dX9_undo_9 (by decide) (fun c9 => ?_) (fun c9 => ?_)
  · have h1 : ¬ n = 0 := fun z => c9 (by rw [z]; rfl)
    refine lv_aload_n hx hb dX9_undo_14 rfl (lv_at hl 0 rfl) ?_
    refine lv_dup hx hb dX9_undo_15 rfl ?_
    refine g_get (C := RX9) (T := TX9) (N := 20) (ci := 9) (index := 125) hx hb hts in_X9_undo_9 hown hK hP 0 14 rfl rfl (by decide) (List.mem_of_getElem? (i := 2) rfl) rfl dX9_undo_16 ?_
    refine lv_iconst (v := 1) hx hb dX9_undo_19 (by decide) ?_
    refine lv_isub hx hb dX9_undo_20 ?_
    rw [show ((nI n) - 1 : Int32) = nI (n - 1) from pk_sub (a := n) (b := 1) (by omega)]
    refine g_put (C := RX9) (T := TX9) (N := 20) (ci := 9) (index := 125) (v := .int (nI (n - 1))) (ws' := [(mo, .inr (9, [.int 0, .ref q1, .int tn, .int sz, .int tt, .int fm, .int so, .int nu, .int fau, .int plc, .long wd, .ref q2, .ref q3, .ref q4, .int (nI (n - 1)), .ref q5, .ref q6, .ref q7, .ref q8, .int rm])), (q1, .inl (cI, 840, .inl Tp)), (q2, .inl (cI, 240, .inl Nw)), (q3, .inl (cI, 240, .inl Rr)), (q4, .inl (cI, 2880, .inl Sn)), (q5, .inl (cI, 4, .inl In)), (q6, .inl (cI, 500, .inl Pd)), (q7, .inl (cI, 500, .inl Rt)), (q8, .inl (cI, 10000, .inl Rw))]) hx hb hts in_X9_undo_9 tyX9 tyX9_ok nmX9 hown hK hP hD hS 0 14 rfl rfl (by decide) (List.mem_of_getElem? (i := 2) rfl) rfl rfl rfl (Nat.le_of_ble_eq_true rfl) dX9_undo_21 rfl (fun H_ lc_ hP hD hS => ?_)
    refine lv_iconst (v := 0) hx hb dX9_undo_24 (by decide) ?_
    refine lv_istore_n (lv' := [(1, .int 0), (0, .ref mo)]) hx hb dX9_undo_25 rfl hl (by decide) rfl (fun ls hl => ?_)
    have L26 : ∀ (nn_ : Nat) (i : Nat) (hi : i ≤ 240) (xx_v1 : Int32) (xx_g2 : Nat → Int32), (240 - i) < nn_ → xx_v1 = nI i → xx_g2 = ov (fun j => Sn (240 * (n - 1) + j)) Nw i → ∀ (H_ : Heap) (lc_ : List Loc), va_P D vwCl [(mo, .inr (9, [.int 0, .ref q1, .int tn, .int sz, .int tt, .int fm, .int so, .int nu, .int fau, .int plc, .long wd, .ref q2, .ref q3, .ref q4, .int (nI (n - 1)), .ref q5, .ref q6, .ref q7, .ref q8, .int rm])), (q1, .inl (cI, 840, .inl Tp)), (q2, .inl (cI, 240, .inl xx_g2)), (q3, .inl (cI, 240, .inl Rr)), (q4, .inl (cI, 2880, .inl Sn)), (q5, .inl (cI, 4, .inl In)), (q6, .inl (cI, 500, .inl Pd)), (q7, .inl (cI, 500, .inl Rt)), (q8, .inl (cI, 10000, .inl Rw))] H_ → va_D A_ [(mo, .inr (9, [.int 0, .ref q1, .int tn, .int sz, .int tt, .int fm, .int so, .int nu, .int fau, .int plc, .long wd, .ref q2, .ref q3, .ref q4, .int (nI (n - 1)), .ref q5, .ref q6, .ref q7, .ref q8, .int rm])), (q1, .inl (cI, 840, .inl Tp)), (q2, .inl (cI, 240, .inl xx_g2)), (q3, .inl (cI, 240, .inl Rr)), (q4, .inl (cI, 2880, .inl Sn)), (q5, .inl (cI, 4, .inl In)), (q6, .inl (cI, 500, .inl Pd)), (q7, .inl (cI, 500, .inl Rt)), (q8, .inl (cI, 10000, .inl Rw))] → va_S A_ s_.heap H_ lc_ → ∀ (ls : Array Slot), lv_has ls 2 [(0, .ref mo), (1, .int xx_v1)] → W p_ l e_ (RM 0 0) s_ m_ ar_ be_ me_ co_ H_ lc_ 0 0 Q_ (F0 m_ 26 ls []) := by
      intro nn_
      induction nn_ with
      | zero => intro i hi xx_v1 xx_g2 hn_; exact absurd hn_ (Nat.not_lt_zero _)
      | succ nn_ ih26 =>
        intro i hi xx_v1 xx_g2 hn_ e_xx_v1 e_xx_g2 H_ lc_ hP hD hS ls hl
        subst e_xx_v1 e_xx_g2
        refine lv_iload_n hx hb dX9_undo_26 rfl (lv_at hl 1 rfl) ?_
        refine lv_sipush (v := 240) hx hb dX9_undo_27 (by decide) ?_
        refine lv_icmp_ge (tgt := 60) hx hb dX9_undo_30 (by decide) (fun c30 => ?_) (fun c30 => ?_)
        · have hie : i = 240 := by have q := ge_nI (b := 240) c30 (by omega) (by omega); omega
          refine lv_aload_n hx hb dX9_undo_60 rfl (lv_at hl 0 rfl) ?_
          refine g_get (C := RX9) (T := TX9) (N := 20) (ci := 9) (index := 125) hx hb hts in_X9_undo_9 hown hK hP 0 14 rfl rfl (by decide) (List.mem_of_getElem? (i := 2) rfl) rfl dX9_undo_61 ?_
          exact hret _ _ _ _ ls hS (by rw [if_neg h1]; rw [hie] at hP; exact hP) (by rw [if_neg h1]) dX9_undo_64
        · have hlt : i < 240 := lt_nI (b := 240) c30 (by omega) (by omega)
          refine lv_aload_n hx hb dX9_undo_33 rfl (lv_at hl 0 rfl) ?_
          refine g_get (C := RX9) (T := TX9) (N := 20) (ci := 9) (index := 64) hx hb hts in_X9_undo_9 hown hK hP 0 11 rfl rfl (by decide) (List.mem_of_getElem? (i := 3) rfl) rfl dX9_undo_34 ?_
          refine lv_iload_n hx hb dX9_undo_37 rfl (lv_at hl 1 rfl) ?_
          refine lv_aload_n hx hb dX9_undo_38 rfl (lv_at hl 0 rfl) ?_
          refine g_get (C := RX9) (T := TX9) (N := 20) (ci := 9) (index := 70) hx hb hts in_X9_undo_9 hown hK hP 0 13 rfl rfl (by decide) (List.mem_of_getElem? (i := 4) rfl) rfl dX9_undo_39 ?_
          refine lv_sipush (v := 240) hx hb dX9_undo_42 (by decide) ?_
          refine lv_aload_n hx hb dX9_undo_45 rfl (lv_at hl 0 rfl) ?_
          refine g_get (C := RX9) (T := TX9) (N := 20) (ci := 9) (index := 125) hx hb hts in_X9_undo_9 hown hK hP 0 14 rfl rfl (by decide) (List.mem_of_getElem? (i := 2) rfl) rfl dX9_undo_46 ?_
          refine lv_imul hx hb dX9_undo_49 ?_
          refine lv_iload_n hx hb dX9_undo_50 rfl (lv_at hl 1 rfl) ?_
          refine lv_iadd hx hb dX9_undo_51 ?_
          refine g_iald hx hb hK hP 4 0 rfl rfl ((240 * (n - 1)) + i) (nx_a (nx_m (rfl) (rfl)) (rfl)) (by omega) (by omega) dX9_undo_52 ?_
          refine g_iast hx hb hK hP hD hS 2 0 rfl rfl i (rfl) (by omega) (by omega) dX9_undo_53 (fun H_ lc_ hP hD hS => ?_)
          have hP : va_P D vwCl [(mo, .inr (9, [.int 0, .ref q1, .int tn, .int sz, .int tt, .int fm, .int so, .int nu, .int fau, .int plc, .long wd, .ref q2, .ref q3, .ref q4, .int (nI (n - 1)), .ref q5, .ref q6, .ref q7, .ref q8, .int rm])), (q1, .inl (cI, 840, .inl Tp)), (q2, .inl (cI, 240, .inl (upd (ov (fun j => Sn (240 * (n - 1) + j)) Nw i) i (Sn ((240 * (n - 1)) + i))))), (q3, .inl (cI, 240, .inl Rr)), (q4, .inl (cI, 2880, .inl Sn)), (q5, .inl (cI, 4, .inl In)), (q6, .inl (cI, 500, .inl Pd)), (q7, .inl (cI, 500, .inl Rt)), (q8, .inl (cI, 10000, .inl Rw))] H_ := hP
          have hD : va_D A_ [(mo, .inr (9, [.int 0, .ref q1, .int tn, .int sz, .int tt, .int fm, .int so, .int nu, .int fau, .int plc, .long wd, .ref q2, .ref q3, .ref q4, .int (nI (n - 1)), .ref q5, .ref q6, .ref q7, .ref q8, .int rm])), (q1, .inl (cI, 840, .inl Tp)), (q2, .inl (cI, 240, .inl (upd (ov (fun j => Sn (240 * (n - 1) + j)) Nw i) i (Sn ((240 * (n - 1)) + i))))), (q3, .inl (cI, 240, .inl Rr)), (q4, .inl (cI, 2880, .inl Sn)), (q5, .inl (cI, 4, .inl In)), (q6, .inl (cI, 500, .inl Pd)), (q7, .inl (cI, 500, .inl Rt)), (q8, .inl (cI, 10000, .inl Rw))] := hD
          refine lv_iinc (v := nI (i + 1)) (lv' := [(1, .int (nI (i + 1))), (0, .ref mo)]) hx hb dX9_undo_54 hl (k := 1) rfl (nI_add _ 1) (by decide) rfl (fun ls hl => ?_)
          refine lv_goto (tgt := 26) hx hb dX9_undo_57 (by decide) ?_
          exact ih26 (i + 1) (by omega) _ _ (by omega) (rfl) (ov_s (fun j => Sn (240 * (n - 1) + j)) Nw i) _ _ hP hD hS ls (lv_sub hl [1, 0] rfl)
    exact L26 (240 - 0 + 1) 0 (by omega) _ _ (Nat.lt_succ_self _) (nI_0.symm) ((ov_0 _ _).symm) _ _ hP hD hS ls (lv_sub hl [1, 0] rfl)
  · have h0 : n = 0 := (nI_eq (b := 0) (by omega) (by omega)).mp c9
    refine lv_iconst (v := -1) hx hb dX9_undo_12 (by decide) ?_
    exact hret _ _ _ _ ls hS (by rw [if_pos h0, show n - 1 = n by omega]; exact hP) (by rw [if_pos h0]) dX9_undo_13

