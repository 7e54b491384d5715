def mkX (f g : Nat → Int32) (sg : Int32) (P : Nat → Int32) : Nat → Nat → Int32
  | 0 => P
  | k + 1 => if f k < 0 then mkX f g sg P k else if nI 500 ≤ f k then mkX f g sg P k else upd (mkX f g sg P k) (f k).toNatClampNeg (mkX f g sg P k (f k).toNatClampNeg + sg * g k)
def psX (P : Nat → Int32) (c : Int32) : Nat → Int32
  | 0 => c
  | k + 1 => psX P c k + P k
/-- the next rate's number and the rate of the day before, day by day -/
def lrX (f g : Nat → Int32) (c : Nat) : Nat → Int32 × Int32
  | 0 => (0, 0)
  | d + 1 => if (if (lrX f g c d).1 < 0 then 0 else if nI c ≤ (lrX f g c d).1 then 0 else 1 : Int32) = 0 then lrX f g c d else if rowAt f c (lrX f g c d).1 = nI d then ((lrX f g c d).1 + 1, rowAt g c (lrX f g c d).1) else lrX f g c d
def lrF (f g : Nat → Int32) (c d : Nat) : Int32 := (lrX f g c (d + 1)).2
def adF (P : Nat → Int32) (x : Int32) (a i : Nat) : Nat → Int32 := fun j => if a ≤ j ∧ j < i then P j + x else P j
theorem adF_0 (P : Nat → Int32) (x : Int32) (a : Nat) : adF P x a a = P := by funext j; simp [adF]; omega
theorem adF_at (P : Nat → Int32) (x : Int32) (a i : Nat) : adF P x a i i = P i := by simp [adF]
theorem adF_s (P : Nat → Int32) (x : Int32) (a i : Nat) (h : a ≤ i) : upd (adF P x a i) i (P i + x) = adF P x a (i + 1) := by
  funext j
  unfold upd adF
  by_cases h1 : j = i
  · subst h1; simp [h]
  · rw [if_neg h1]
    by_cases h2 : a ≤ j ∧ j < i
    · rw [if_pos h2, if_pos ⟨h2.1, by omega⟩]
    · rw [if_neg h2, if_neg (fun q => h2 ⟨q.1, by omega⟩)]
theorem ov_at (f g : Nat → Int32) (d : Nat) : ov f g d d = g d := by simp [ov]
def psF (P : Nat → Int32) (c : Int32) (j : Nat) : Int32 := psX P c (j + 1)
/-- what a year's account is by days: paid, rates -/
def pdF (Yf Yg : Nat → Nat → Int32) (Yc : Nat → Nat) (Yv : Nat → Int32) (P : Nat → Int32) : Nat → Int32 := ov (psF (mkX (Yf 5) (Yg 5) (-1) (mkX (Yf 4) (Yg 4) 1 (ov (fun _ => 0) P 500) (Yc 4)) (Yc 5)) (Yv 7)) (mkX (Yf 5) (Yg 5) (-1) (mkX (Yf 4) (Yg 4) 1 (ov (fun _ => 0) P 500) (Yc 4)) (Yc 5)) 500
def csX (P R : Nat → Int32) (own thr : Int32) (a : Nat) : Nat → Int64
  | 0 => 0
  | k + 1 => csX P R own thr a k + (max32 0 (min32 own (thr - P (a + k)))).toInt64 * (R (a + k)).toInt64
def coX (P R Th : Nat → Int32) (due ed : Nat) (p : Int32) : Int32 := (csX P R (insX Th p) (rowAt Th 4 p) due (ed - due) / 100000).toInt32
def cssX (P R Th : Nat → Int32) (due : Nat → Nat) (ed : Nat) : Nat → Int32
  | 0 => 0
  | k + 1 => cssX P R Th due ed k + coX P R Th (due k) ed (nI k)
set_option maxHeartbeats 4000000 in
set_option maxRecDepth 100000 in
theorem kJ7_fill_53178 (l : Launch) (D : va_G) (cI cB : ClassId) (q N : Nat) (f : Nat → Int32) (x : Int32) (hN : N ≤ 1000) : Wr l D (TY cI cB) yJ7_fill_53178 wsJ7_fill_53178 0 0 [.ref q, .int x] [(q, .inl (cI, N, .inl f))] [(q, .inl (cI, N, .inl (ov (fun _ => x) f N)))] none := by
  refine wr_v (cc := cJ7_fill_53178) (maxL := 4) (by decide) rfl (Nat.le_of_ble_eq_true rfl) ?_
  intro p_ e_ s_ m_ ar_ be_ me_ co_ ls Q_ A_ hx hb hml hown hts hP hK hD hS hl hret
  have hown : s_.vm.findClass RJ7 = some m_.cls := hown
  have hl : lv_has ls 4 [(0, .ref q), (1, .int x)] := hl
  refine lv_iconst (v := 0) hx hb dJ7_fill_53178_0 (by decide) ?_
  refine lv_istore_n (lv' := [(2, .int 0), (0, .ref q), (1, .int x)]) hx hb dJ7_fill_53178_1 rfl hl (by decide) rfl (fun ls hl => ?_)
  refine lv_aload_n hx hb dJ7_fill_53178_2 rfl (lv_at hl 1 rfl) ?_
  refine va_alen (v := nI N) hx hb hK hP 0 0 rfl rfl rfl dJ7_fill_53178_3 ?_
  refine lv_istore_n (lv' := [(3, .int (nI N)), (2, .int 0), (0, .ref q), (1, .int x)]) hx hb dJ7_fill_53178_4 rfl hl (by decide) rfl (fun ls hl => ?_)
  have L5 : ∀ (nn_ : Nat) (i : Nat) (hi : i ≤ N) (xx_v2 : Int32) (xx_g0 : Nat → Int32), (N - i) < nn_ → xx_v2 = nI i → xx_g0 = ov (fun _ => x) f i → ∀ (H_ : Heap) (lc_ : List Loc), va_P D vwCl [(q, .inl (cI, N, .inl xx_g0))] H_ → va_D A_ [(q, .inl (cI, N, .inl xx_g0))] → va_S A_ s_.heap H_ lc_ → ∀ (ls : Array Slot), lv_has ls 4 [(0, .ref q), (1, .int x), (2, .int xx_v2), (3, .int (nI N))] → W p_ l e_ (RM 0 0) s_ m_ ar_ be_ me_ co_ H_ lc_ 0 0 Q_ (F0 m_ 5 ls []) := by
    intro nn_
    induction nn_ with
    | zero => intro i hi xx_v2 xx_g0 hn_; exact absurd hn_ (Nat.not_lt_zero _)
    | succ nn_ ih5 =>
      intro i hi xx_v2 xx_g0 hn_ e_xx_v2 e_xx_g0 H_ lc_ hP hD hS ls hl
      subst e_xx_v2 e_xx_g0
      refine lv_iload_n hx hb dJ7_fill_53178_5 rfl (lv_at hl 2 rfl) ?_
      refine lv_iload_n hx hb dJ7_fill_53178_6 rfl (lv_at hl 3 rfl) ?_
      refine lv_icmp_ge (tgt := 20) hx hb dJ7_fill_53178_7 (by decide) (fun c7 => ?_) (fun c7 => ?_)
      · exact hret _ _ _ ls hS (by have q := ge_nI c7 (by omega) (by omega); rw [show i = N by omega] at hP; exact hP) dJ7_fill_53178_20
      · have hlt : i < N := lt_nI c7 (by omega) (by omega)
        refine lv_aload_n hx hb dJ7_fill_53178_10 rfl (lv_at hl 0 rfl) ?_
        refine lv_iload_n hx hb dJ7_fill_53178_11 rfl (lv_at hl 2 rfl) ?_
        refine lv_iload_n hx hb dJ7_fill_53178_12 rfl (lv_at hl 1 rfl) ?_
        refine g_iast hx hb hK hP hD hS 0 0 rfl rfl i (rfl) (by omega) (by omega) dJ7_fill_53178_13 (fun H_ lc_ hP hD hS => ?_)
        have hP : va_P D vwCl [(q, .inl (cI, N, .inl (upd (ov (fun _ => x) f i) i x)))] H_ := hP
        have hD : va_D A_ [(q, .inl (cI, N, .inl (upd (ov (fun _ => x) f i) i x)))] := hD
        refine lv_iinc (v := nI (i + 1)) (lv' := [(2, .int (nI (i + 1))), (0, .ref q), (1, .int x), (3, .int (nI N))]) hx hb dJ7_fill_53178_14 hl (k := 2) rfl (nI_add _ 1) (by decide) rfl (fun ls hl => ?_)
        refine lv_goto (tgt := 5) hx hb dJ7_fill_53178_17 (by decide) ?_
        exact ih5 (i + 1) (by omega) _ _ (by omega) (rfl) (ov_s (fun _ => x) f i) _ _ hP hD hS ls (lv_sub hl [1, 2, 0, 3] rfl)
  exact L5 (N - 0 + 1) 0 (by omega) _ _ (Nat.lt_succ_self _) (nI_0.symm) ((ov_0 _ _).symm) _ _ hP hD hS ls (lv_sub hl [2, 3, 1, 0] rfl)

theorem in_X0_mark_5 : ∀ w ∈ wsX50, w ∈ wsX0_mark := fun _ h => List.mem_cons_of_mem _ (List.mem_append_left _ (List.mem_append_right _ (h)))
theorem in_X0_mark_0 : ∀ w ∈ wsX00, w ∈ wsX0_mark := fun _ h => List.mem_cons_of_mem _ (List.mem_append_right _ (h))
set_option maxHeartbeats 4000000 in
set_option maxRecDepth 100000 in
theorem kX0_mark (l : Launch) (D : va_G) (cI cB : ClassId) (ac pa dr : Nat) (P R : Nat → Int32) (a fa sa N c : Nat) (f g : Nat → Int32) (sg : Int32) (hc : c ≤ N) (hN : N ≤ 1000) : Wr l D (TY cI cB) yX0_mark wsX0_mark 1 21 [.ref ac, .ref a, .int sg] [(ac, .inr (0, [.ref pa, .ref dr])), (pa, .inl (cI, 500, .inl P)), (dr, .inl (cI, 500, .inl R)), (a, .inr (5, [.ref fa, .ref sa, .int (nI c)])), (fa, .inl (cI, N, .inl f)), (sa, .inl (cI, N, .inl g))] [(ac, .inr (0, [.ref pa, .ref dr])), (pa, .inl (cI, 500, .inl (mkX f g sg P c))), (dr, .inl (cI, 500, .inl R)), (a, .inr (5, [.ref fa, .ref sa, .int (nI c)])), (fa, .inl (cI, N, .inl f)), (sa, .inl (cI, N, .inl g))] none := by
  refine wr_v (cc := cX0_mark) (maxL := 5) (by decide) rfl (Nat.le_of_ble_eq_true rfl) ?_
  intro p_ e_ s_ m_ ar_ be_ me_ co_ ls Q_ A_ hx hb hml hown hts hP hK hD hS hl hret
  have hown : s_.vm.findClass RX0 = some m_.cls := hown
  have hl : lv_has ls 5 [(0, .ref ac), (1, .ref a), (2, .int sg)] := hl
  refine lv_iconst (v := 0) hx hb dX0_mark_0 (by decide) ?_
  refine lv_istore_n (lv' := [(3, .int 0), (0, .ref ac), (1, .ref a), (2, .int sg)]) hx hb dX0_mark_1 rfl hl (by decide) rfl (fun ls hl => ?_)
  have L2 : ∀ (nn_ : Nat) (i : Nat) (hi : i ≤ c) (xx_v3 : Int32) (xx_g1 : Nat → Int32), (c - i) < nn_ → xx_v3 = nI i → xx_g1 = mkX f g sg P i → ∀ (H_ : Heap) (lc_ : List Loc), va_P D vwCl [(ac, .inr (0, [.ref pa, .ref dr])), (pa, .inl (cI, 500, .inl xx_g1)), (dr, .inl (cI, 500, .inl R)), (a, .inr (5, [.ref fa, .ref sa, .int (nI c)])), (fa, .inl (cI, N, .inl f)), (sa, .inl (cI, N, .inl g))] H_ → va_D A_ [(ac, .inr (0, [.ref pa, .ref dr])), (pa, .inl (cI, 500, .inl xx_g1)), (dr, .inl (cI, 500, .inl R)), (a, .inr (5, [.ref fa, .ref sa, .int (nI c)])), (fa, .inl (cI, N, .inl f)), (sa, .inl (cI, N, .inl g))] → va_S A_ s_.heap H_ lc_ → ∀ (ls : Array Slot), lv_has ls 5 [(0, .ref ac), (1, .ref a), (2, .int sg), (3, .int xx_v3)] → W p_ l e_ (RM 1 21) s_ m_ ar_ be_ me_ co_ H_ lc_ 0 0 Q_ (F0 m_ 2 ls []) := by
    intro nn_
    induction nn_ with
    | zero => intro i hi xx_v3 xx_g1 hn_; exact absurd hn_ (Nat.not_lt_zero _)
    | succ nn_ ih2 =>
      intro i hi xx_v3 xx_g1 hn_ e_xx_v3 e_xx_g1 H_ lc_ hP hD hS ls hl
      subst e_xx_v3 e_xx_g1
      refine lv_iload_n hx hb dX0_mark_2 rfl (lv_at hl 3 rfl) ?_
      refine lv_aload_n hx hb dX0_mark_3 rfl (lv_at hl 1 rfl) ?_
      refine g_get (C := RX5) (T := TX5) (N := 3) (ci := 5) (index := 48) hx hb hts in_X0_mark_5 hown hK hP 3 2 rfl rfl (by decide) (List.mem_of_getElem? (i := 1) rfl) rfl dX0_mark_4 ?_
      refine lv_icmp_ge (tgt := 55) hx hb dX0_mark_7 (by decide) (fun c7 => ?_) (fun c7 => ?_)
      · exact hret _ _ _ ls hS (by have q := ge_nI c7 (by omega) (by omega); rw [show i = c by omega] at hP; exact hP) dX0_mark_55
      · have hlt : i < c := lt_nI c7 (by omega) (by omega)
        refine lv_aload_n hx hb dX0_mark_10 rfl (lv_at hl 1 rfl) ?_
        refine lv_iload_n hx hb dX0_mark_11 rfl (lv_at hl 3 rfl) ?_
        refine rd_V (As := [.int (nI i)]) (rest := []) (ci := 5) (kX5_first l D cI cB a fa sa N c f g (nI i) (by omega) (by omega)) ⟨hx, hb, hml, hown, hts⟩ (cwV 1 hts gX0_mark_X5_first rfl rfl rfl (by decide +kernel) ⟨Nat.le_of_ble_eq_true rfl, Nat.le_of_ble_eq_true rfl⟩) hK hP [3, 4, 5] rfl 3 rfl rfl rfl rfl hl.1 (Nat.le_of_ble_eq_true rfl) dX0_mark_12 ⟨Nat.le_refl _, Nat.le_refl _⟩ ?_
        rw [show (rowAt f c (nI i) : Int32) = f i from rowAt_nI hlt (by omega)]
        refine lv_istore (lv' := [(4, .int (f i)), (0, .ref ac), (1, .ref a), (2, .int sg), (3, .int (nI i))]) hx hb dX0_mark_15 hl (by decide) rfl (fun ls hl => ?_)
        refine lv_iload hx hb dX0_mark_17 (lv_at hl 0 rfl) ?_
        refine lv_if_lt (tgt := 49) hx hb dX0_mark_19 (by decide) (fun c19 => ?_) (fun c19 => ?_)
        · refine lv_iinc (v := nI (i + 1)) (lv' := [(3, .int (nI (i + 1))), (4, .int (f i)), (0, .ref ac), (1, .ref a), (2, .int sg)]) hx hb dX0_mark_49 hl (k := 4) rfl (nI_add _ 1) (by decide) rfl (fun ls hl => ?_)
          refine lv_goto (tgt := 2) hx hb dX0_mark_52 (by decide) ?_
          exact ih2 (i + 1) (by omega) _ _ (by omega) (rfl) (by simp [mkX, c7, c19]) _ _ hP hD hS ls (lv_sub hl [2, 3, 4, 0] rfl)
        · refine lv_iload hx hb dX0_mark_22 (lv_at hl 0 rfl) ?_
          refine lv_aload_n hx hb dX0_mark_24 rfl (lv_at hl 1 rfl) ?_
          refine g_get (C := RX0) (T := TX0) (N := 2) (ci := 0) (index := 9) hx hb hts in_X0_mark_0 hown hK hP 0 0 rfl rfl (by decide) (List.mem_of_getElem? (i := 2) rfl) rfl dX0_mark_25 ?_
          refine va_alen (v := nI 500) hx hb hK hP 1 0 rfl rfl rfl dX0_mark_28 ?_
          refine lv_icmp_ge (tgt := 49) hx hb dX0_mark_29 (by decide) (fun c29 => ?_) (fun c29 => ?_)
          · refine lv_iinc (v := nI (i + 1)) (lv' := [(3, .int (nI (i + 1))), (4, .int (f i)), (0, .ref ac), (1, .ref a), (2, .int sg)]) hx hb dX0_mark_49 hl (k := 4) rfl (nI_add _ 1) (by decide) rfl (fun ls hl => ?_)
            refine lv_goto (tgt := 2) hx hb dX0_mark_52 (by decide) ?_
            exact ih2 (i + 1) (by omega) _ _ (by omega) (rfl) (by simp [mkX, c7, c19, c29]) _ _ hP hD hS ls (lv_sub hl [2, 3, 4, 0] rfl)
          · refine lv_aload_n hx hb dX0_mark_32 rfl (lv_at hl 1 rfl) ?_
            refine g_get (C := RX0) (T := TX0) (N := 2) (ci := 0) (index := 9) hx hb hts in_X0_mark_0 hown hK hP 0 0 rfl rfl (by decide) (List.mem_of_getElem? (i := 2) rfl) rfl dX0_mark_33 ?_
            refine lv_iload hx hb dX0_mark_36 (lv_at hl 0 rfl) ?_
            refine lv_dup2_11 hx hb dX0_mark_38 rfl rfl ?_
            refine va_iald hx hb hK hP 1 0 rfl rfl (in_nI c19 c29 (by omega)) dX0_mark_39 ?_
            refine lv_iload_n hx hb dX0_mark_40 rfl (lv_at hl 3 rfl) ?_
            refine lv_aload_n hx hb dX0_mark_41 rfl (lv_at hl 2 rfl) ?_
            refine lv_iload_n hx hb dX0_mark_42 rfl (lv_at hl 4 rfl) ?_
            refine rd_V (As := [.int (nI i)]) (rest := [.int sg, .int ((mkX f g sg P i) (f i).toNatClampNeg), .int (f i), .ref pa]) (ci := 5) (kX5_second l D cI cB a fa sa N c f g (nI i) (by omega) (by omega)) ⟨hx, hb, hml, hown, hts⟩ (cwV 1 hts gX0_mark_X5_second rfl rfl rfl (by decide +kernel) ⟨Nat.le_of_ble_eq_true rfl, Nat.le_of_ble_eq_true rfl⟩) hK hP [3, 4, 5] rfl 3 rfl rfl rfl rfl hl.1 (Nat.le_of_ble_eq_true rfl) dX0_mark_43 ⟨Nat.le_refl _, Nat.le_refl _⟩ ?_
            rw [show (rowAt g c (nI i) : Int32) = g i from rowAt_nI hlt (by omega)]
            refine lv_imul hx hb dX0_mark_46 ?_
            refine lv_iadd hx hb dX0_mark_47 ?_
            refine va_iast hx hb hK hP hD hS 1 0 rfl rfl (in_nI c19 c29 (by omega)) dX0_mark_48 (fun H_ lc_ hP hD hS => ?_)
            have hP : va_P D vwCl [(ac, .inr (0, [.ref pa, .ref dr])), (pa, .inl (cI, 500, .inl (upd (mkX f g sg P i) (f i).toNatClampNeg (((mkX f g sg P i) (f i).toNatClampNeg) + (sg * (g i)))))), (dr, .inl (cI, 500, .inl R)), (a, .inr (5, [.ref fa, .ref sa, .int (nI c)])), (fa, .inl (cI, N, .inl f)), (sa, .inl (cI, N, .inl g))] H_ := hP
            have hD : va_D A_ [(ac, .inr (0, [.ref pa, .ref dr])), (pa, .inl (cI, 500, .inl (upd (mkX f g sg P i) (f i).toNatClampNeg (((mkX f g sg P i) (f i).toNatClampNeg) + (sg * (g i)))))), (dr, .inl (cI, 500, .inl R)), (a, .inr (5, [.ref fa, .ref sa, .int (nI c)])), (fa, .inl (cI, N, .inl f)), (sa, .inl (cI, N, .inl g))] := hD
            refine lv_iinc (v := nI (i + 1)) (lv' := [(3, .int (nI (i + 1))), (4, .int (f i)), (0, .ref ac), (1, .ref a), (2, .int sg)]) hx hb dX0_mark_49 hl (k := 4) rfl (nI_add _ 1) (by decide) rfl (fun ls hl => ?_)
            refine lv_goto (tgt := 2) hx hb dX0_mark_52 (by decide) ?_
            exact ih2 (i + 1) (by omega) _ _ (by omega) (rfl) (by simp [mkX, c7, c19, c29]) _ _ hP hD hS ls (lv_sub hl [2, 3, 4, 0] rfl)
  exact L2 (c - 0 + 1) 0 (by omega) _ _ (Nat.lt_succ_self _) (nI_0.symm) (rfl) _ _ hP hD hS ls (lv_sub hl [1, 2, 3, 0] rfl)

theorem in_X0_layRates_0 : ∀ w ∈ wsX00, w ∈ wsX0_layRates := fun _ h => List.mem_cons_of_mem _ (List.mem_append_left _ (List.mem_append_right _ (h)))
set_option maxHeartbeats 4000000 in
set_option maxRecDepth 100000 in
theorem kX0_layRates (l : Launch) (D : va_G) (cI cB : ClassId) (ac pa dr : Nat) (P R : Nat → Int32) (a fa sa N c : Nat) (f g : Nat → Int32) (hc : c ≤ N) (hN : N ≤ 1000) : Wr l D (TY cI cB) yX0_layRates wsX0_layRates 1 21 [.ref ac, .ref a] [(ac, .inr (0, [.ref pa, .ref dr])), (pa, .inl (cI, 500, .inl P)), (dr, .inl (cI, 500, .inl R)), (a, .inr (5, [.ref fa, .ref sa, .int (nI c)])), (fa, .inl (cI, N, .inl f)), (sa, .inl (cI, N, .inl g))] [(ac, .inr (0, [.ref pa, .ref dr])), (pa, .inl (cI, 500, .inl P)), (dr, .inl (cI, 500, .inl (ov (lrF f g c) R 500))), (a, .inr (5, [.ref fa, .ref sa, .int (nI c)])), (fa, .inl (cI, N, .inl f)), (sa, .inl (cI, N, .inl g))] none := by
  refine wr_v (cc := cX0_layRates) (maxL := 5) (by decide) rfl (Nat.le_of_ble_eq_true rfl) ?_
  intro p_ e_ s_ m_ ar_ be_ me_ co_ ls Q_ A_ hx hb hml hown hts hP hK hD hS hl hret
  have hown : s_.vm.findClass RX0 = some m_.cls := hown
  have hl : lv_has ls 5 [(0, .ref ac), (1, .ref a)] := hl
  refine lv_iconst (v := 0) hx hb dX0_layRates_0 (by decide) ?_
  refine lv_istore_n (lv' := [(2, .int 0), (0, .ref ac), (1, .ref a)]) hx hb dX0_layRates_1 rfl hl (by decide) rfl (fun ls hl => ?_)
  refine lv_iconst (v := 0) hx hb dX0_layRates_2 (by decide) ?_
  refine lv_istore_n (lv' := [(3, .int 0), (2, .int 0), (0, .ref ac), (1, .ref a)]) hx hb dX0_layRates_3 rfl hl (by decide) rfl (fun ls hl => ?_)
  refine lv_iconst (v := 0) hx hb dX0_layRates_4 (by decide) ?_
  refine lv_istore (lv' := [(4, .int 0), (3, .int 0), (2, .int 0), (0, .ref ac), (1, .ref a)]) hx hb dX0_layRates_5 hl (by decide) rfl (fun ls hl => ?_)
  have L7 : ∀ (nn_ : Nat) (i : Nat) (hi : i ≤ 500) (xx_v2 : Int32) (xx_v3 : Int32) (xx_v4 : Int32) (xx_g2 : Nat → Int32), (500 - i) < nn_ → xx_v2 = (lrX f g c i).1 → xx_v3 = (lrX f g c i).2 → xx_v4 = nI i → xx_g2 = ov (lrF f g c) R i → ∀ (H_ : Heap) (lc_ : List Loc), va_P D vwCl [(ac, .inr (0, [.ref pa, .ref dr])), (pa, .inl (cI, 500, .inl P)), (dr, .inl (cI, 500, .inl xx_g2)), (a, .inr (5, [.ref fa, .ref sa, .int (nI c)])), (fa, .inl (cI, N, .inl f)), (sa, .inl (cI, N, .inl g))] H_ → va_D A_ [(ac, .inr (0, [.ref pa, .ref dr])), (pa, .inl (cI, 500, .inl P)), (dr, .inl (cI, 500, .inl xx_g2)), (a, .inr (5, [.ref fa, .ref sa, .int (nI c)])), (fa, .inl (cI, N, .inl f)), (sa, .inl (cI, N, .inl g))] → va_S A_ s_.heap H_ lc_ → ∀ (ls : Array Slot), lv_has ls 5 [(0, .ref ac), (1, .ref a), (2, .int xx_v2), (3, .int xx_v3), (4, .int xx_v4)] → W p_ l e_ (RM 1 21) s_ m_ ar_ be_ me_ co_ H_ lc_ 0 0 Q_ (F0 m_ 7 ls []) := by
    intro nn_
    induction nn_ with
    | zero => intro i hi xx_v2 xx_v3 xx_v4 xx_g2 hn_; exact absurd hn_ (Nat.not_lt_zero _)
    | succ nn_ ih7 =>
      intro i hi xx_v2 xx_v3 xx_v4 xx_g2 hn_ e_xx_v2 e_xx_v3 e_xx_v4 e_xx_g2 H_ lc_ hP hD hS ls hl
      subst e_xx_v2 e_xx_v3 e_xx_v4 e_xx_g2
      refine lv_iload hx hb dX0_layRates_7 (lv_at hl 4 rfl) ?_
      refine lv_aload_n hx hb dX0_layRates_9 rfl (lv_at hl 0 rfl) ?_
      refine g_get (C := RX0) (T := TX0) (N := 2) (ci := 0) (index := 15) hx hb hts in_X0_layRates_0 hown hK hP 0 1 rfl rfl (by decide) (List.mem_of_getElem? (i := 1) rfl) rfl dX0_layRates_10 ?_
      refine va_alen (v := nI 500) hx hb hK hP 2 0 rfl rfl rfl dX0_layRates_13 ?_
      refine lv_icmp_ge (tgt := 58) hx hb dX0_layRates_14 (by decide) (fun c14 => ?_) (fun c14 => ?_)
      · exact hret _ _ _ ls hS (by have q := ge_nI c14 (by omega) (by omega); rw [show i = 500 by omega] at hP; exact hP) dX0_layRates_58
      · have hlt : i < 500 := lt_nI c14 (by omega) (by omega)
        refine lv_aload_n hx hb dX0_layRates_17 rfl (lv_at hl 1 rfl) ?_
        refine lv_iload_n hx hb dX0_layRates_18 rfl (lv_at hl 2 rfl) ?_
        refine rd_V (As := [.int (lrX f g c i).1]) (rest := []) (ci := 5) (kX5_has l D cI cB a fa sa N c f g (lrX f g c i).1 (by omega) (by omega)) ⟨hx, hb, hml, hown, hts⟩ (cwV 1 hts gX0_layRates_X5_has rfl rfl rfl (by decide +kernel) ⟨Nat.le_of_ble_eq_true rfl, Nat.le_of_ble_eq_true rfl⟩) hK hP [3, 4, 5] rfl 3 rfl rfl rfl rfl hl.1 (Nat.le_of_ble_eq_true rfl) dX0_layRates_19 ⟨Nat.le_refl _, Nat.le_refl _⟩ ?_
        refine lv_if_eq (tgt := 44) hx hb dX0_layRates_22 (by decide) (fun c22 => ?_) (fun c22 => ?_)
        · refine lv_aload_n hx hb dX0_layRates_44 rfl (lv_at hl 0 rfl) ?_
          refine g_get (C := RX0) (T := TX0) (N := 2) (ci := 0) (index := 15) hx hb hts in_X0_layRates_0 hown hK hP 0 1 rfl rfl (by decide) (List.mem_of_getElem? (i := 1) rfl) rfl dX0_layRates_45 ?_
          refine lv_iload hx hb dX0_layRates_48 (lv_at hl 4 rfl) ?_
          refine lv_iload_n hx hb dX0_layRates_50 rfl (lv_at hl 3 rfl) ?_
          refine g_iast hx hb hK hP hD hS 2 0 rfl rfl i (rfl) (by omega) (by omega) dX0_layRates_51 (fun H_ lc_ hP hD hS => ?_)
          have hP : va_P D vwCl [(ac, .inr (0, [.ref pa, .ref dr])), (pa, .inl (cI, 500, .inl P)), (dr, .inl (cI, 500, .inl (upd (ov (lrF f g c) R i) i (lrX f g c i).2))), (a, .inr (5, [.ref fa, .ref sa, .int (nI c)])), (fa, .inl (cI, N, .inl f)), (sa, .inl (cI, N, .inl g))] H_ := hP
          have hD : va_D A_ [(ac, .inr (0, [.ref pa, .ref dr])), (pa, .inl (cI, 500, .inl P)), (dr, .inl (cI, 500, .inl (upd (ov (lrF f g c) R i) i (lrX f g c i).2))), (a, .inr (5, [.ref fa, .ref sa, .int (nI c)])), (fa, .inl (cI, N, .inl f)), (sa, .inl (cI, N, .inl g))] := hD
          refine lv_iinc (v := nI (i + 1)) (lv' := [(4, .int (nI (i + 1))), (0, .ref ac), (1, .ref a), (2, .int (lrX f g c i).1), (3, .int (lrX f g c i).2)]) hx hb dX0_layRates_52 hl (k := 4) rfl (nI_add _ 1) (by decide) rfl (fun ls hl => ?_)
          refine lv_goto (tgt := 7) hx hb dX0_layRates_55 (by decide) ?_
          exact ih7 (i + 1) (by omega) _ _ _ _ (by omega) (by simp [lrX, c14, c22]) (by simp [lrX, c14, c22]) (rfl) (by rw [← ov_s]; simp [lrF, lrX, c14, c22]) _ _ hP hD hS ls (lv_sub hl [1, 2, 3, 4, 0] rfl)
        · refine lv_aload_n hx hb dX0_layRates_25 rfl (lv_at hl 1 rfl) ?_
          refine lv_iload_n hx hb dX0_layRates_26 rfl (lv_at hl 2 rfl) ?_
          refine rd_V (As := [.int (lrX f g c i).1]) (rest := []) (ci := 5) (kX5_first l D cI cB a fa sa N c f g (lrX f g c i).1 (by omega) (by omega)) ⟨hx, hb, hml, hown, hts⟩ (cwV 1 hts gX0_layRates_X5_first rfl rfl rfl (by decide +kernel) ⟨Nat.le_of_ble_eq_true rfl, Nat.le_of_ble_eq_true rfl⟩) hK hP [3, 4, 5] rfl 3 rfl rfl rfl rfl hl.1 (Nat.le_of_ble_eq_true rfl) dX0_layRates_27 ⟨Nat.le_refl _, Nat.le_refl _⟩ ?_
          refine lv_iload hx hb dX0_layRates_30 (lv_at hl 4 rfl) ?_
          refine lv_icmp_ne (tgt := 44) hx hb dX0_layRates_32 (by decide) (fun c32 => ?_) (fun c32 => ?_)
          · refine lv_aload_n hx hb dX0_layRates_44 rfl (lv_at hl 0 rfl) ?_
            refine g_get (C := RX0) (T := TX0) (N := 2) (ci := 0) (index := 15) hx hb hts in_X0_layRates_0 hown hK hP 0 1 rfl rfl (by decide) (List.mem_of_getElem? (i := 1) rfl) rfl dX0_layRates_45 ?_
            refine lv_iload hx hb dX0_layRates_48 (lv_at hl 4 rfl) ?_
            refine lv_iload_n hx hb dX0_layRates_50 rfl (lv_at hl 3 rfl) ?_
            refine g_iast hx hb hK hP hD hS 2 0 rfl rfl i (rfl) (by omega) (by omega) dX0_layRates_51 (fun H_ lc_ hP hD hS => ?_)
            have hP : va_P D vwCl [(ac, .inr (0, [.ref pa, .ref dr])), (pa, .inl (cI, 500, .inl P)), (dr, .inl (cI, 500, .inl (upd (ov (lrF f g c) R i) i (lrX f g c i).2))), (a, .inr (5, [.ref fa, .ref sa, .int (nI c)])), (fa, .inl (cI, N, .inl f)), (sa, .inl (cI, N, .inl g))] H_ := hP
            have hD : va_D A_ [(ac, .inr (0, [.ref pa, .ref dr])), (pa, .inl (cI, 500, .inl P)), (dr, .inl (cI, 500, .inl (upd (ov (lrF f g c) R i) i (lrX f g c i).2))), (a, .inr (5, [.ref fa, .ref sa, .int (nI c)])), (fa, .inl (cI, N, .inl f)), (sa, .inl (cI, N, .inl g))] := hD
            refine lv_iinc (v := nI (i + 1)) (lv' := [(4, .int (nI (i + 1))), (0, .ref ac), (1, .ref a), (2, .int (lrX f g c i).1), (3, .int (lrX f g c i).2)]) hx hb dX0_layRates_52 hl (k := 4) rfl (nI_add _ 1) (by decide) rfl (fun ls hl => ?_)
            refine lv_goto (tgt := 7) hx hb dX0_layRates_55 (by decide) ?_
            exact ih7 (i + 1) (by omega) _ _ _ _ (by omega) (by simp [lrX, c14, c22, c32]) (by simp [lrX, c14, c22, c32]) (rfl) (by rw [← ov_s]; simp [lrF, lrX, c14, c22, c32]) _ _ hP hD hS ls (lv_sub hl [1, 2, 3, 4, 0] rfl)
          · refine lv_aload_n hx hb dX0_layRates_35 rfl (lv_at hl 1 rfl) ?_
            refine lv_iload_n hx hb dX0_layRates_36 rfl (lv_at hl 2 rfl) ?_
            refine rd_V (As := [.int (lrX f g c i).1]) (rest := []) (ci := 5) (kX5_second l D cI cB a fa sa N c f g (lrX f g c i).1 (by omega) (by omega)) ⟨hx, hb, hml, hown, hts⟩ (cwV 1 hts gX0_layRates_X5_second rfl rfl rfl (by decide +kernel) ⟨Nat.le_of_ble_eq_true rfl, Nat.le_of_ble_eq_true rfl⟩) hK hP [3, 4, 5] rfl 3 rfl rfl rfl rfl hl.1 (Nat.le_of_ble_eq_true rfl) dX0_layRates_37 ⟨Nat.le_refl _, Nat.le_refl _⟩ ?_
            refine lv_istore_n (lv' := [(3, .int (rowAt g c (lrX f g c i).1)), (0, .ref ac), (1, .ref a), (2, .int (lrX f g c i).1), (4, .int (nI i))]) hx hb dX0_layRates_40 rfl hl (by decide) rfl (fun ls hl => ?_)
            refine lv_iinc (v := (lrX f g c i).1 + 1) (lv' := [(2, .int ((lrX f g c i).1 + 1)), (3, .int (rowAt g c (lrX f g c i).1)), (0, .ref ac), (1, .ref a), (4, .int (nI i))]) hx hb dX0_layRates_41 hl (k := 3) rfl (rfl) (by decide) rfl (fun ls hl => ?_)
            refine lv_aload_n hx hb dX0_layRates_44 rfl (lv_at hl 2 rfl) ?_
            refine g_get (C := RX0) (T := TX0) (N := 2) (ci := 0) (index := 15) hx hb hts in_X0_layRates_0 hown hK hP 0 1 rfl rfl (by decide) (List.mem_of_getElem? (i := 1) rfl) rfl dX0_layRates_45 ?_
            refine lv_iload hx hb dX0_layRates_48 (lv_at hl 4 rfl) ?_
            refine lv_iload_n hx hb dX0_layRates_50 rfl (lv_at hl 1 rfl) ?_
            refine g_iast hx hb hK hP hD hS 2 0 rfl rfl i (rfl) (by omega) (by omega) dX0_layRates_51 (fun H_ lc_ hP hD hS => ?_)
            have hP : va_P D vwCl [(ac, .inr (0, [.ref pa, .ref dr])), (pa, .inl (cI, 500, .inl P)), (dr, .inl (cI, 500, .inl (upd (ov (lrF f g c) R i) i (rowAt g c (lrX f g c i).1)))), (a, .inr (5, [.ref fa, .ref sa, .int (nI c)])), (fa, .inl (cI, N, .inl f)), (sa, .inl (cI, N, .inl g))] H_ := hP
            have hD : va_D A_ [(ac, .inr (0, [.ref pa, .ref dr])), (pa, .inl (cI, 500, .inl P)), (dr, .inl (cI, 500, .inl (upd (ov (lrF f g c) R i) i (rowAt g c (lrX f g c i).1)))), (a, .inr (5, [.ref fa, .ref sa, .int (nI c)])), (fa, .inl (cI, N, .inl f)), (sa, .inl (cI, N, .inl g))] := hD
            refine lv_iinc (v := nI (i + 1)) (lv' := [(4, .int (nI (i + 1))), (2, .int ((lrX f g c i).1 + 1)), (3, .int (rowAt g c (lrX f g c i).1)), (0, .ref ac), (1, .ref a)]) hx hb dX0_layRates_52 hl (k := 4) rfl (nI_add _ 1) (by decide) rfl (fun ls hl => ?_)
            refine lv_goto (tgt := 7) hx hb dX0_layRates_55 (by decide) ?_
            exact ih7 (i + 1) (by omega) _ _ _ _ (by omega) (by simp [lrX, c14, c22, c32]) (by simp [lrX, c14, c22, c32]) (rfl) (by rw [← ov_s]; simp [lrF, lrX, c14, c22, c32]) _ _ hP hD hS ls (lv_sub hl [3, 4, 1, 2, 0] rfl)
  exact L7 (500 - 0 + 1) 0 (by omega) _ _ _ _ (Nat.lt_succ_self _) (rfl) (rfl) (nI_0.symm) ((ov_0 _ _).symm) _ _ hP hD hS ls (lv_sub hl [3, 4, 2, 1, 0] rfl)

theorem in_X0_lay_0 : ∀ w ∈ wsX00, w ∈ wsX0_lay := fun _ h => List.mem_cons_of_mem _ (List.mem_append_left _ (List.mem_append_left _ (List.mem_append_right _ (h))))
theorem in_X0_lay_7 : ∀ w ∈ wsX70, w ∈ wsX0_lay := fun _ h => List.mem_cons_of_mem _ (List.mem_append_left _ (List.mem_append_right _ (h)))
set_option maxHeartbeats 4000000 in
set_option maxRecDepth 100000 in
theorem kX0_lay (l : Launch) (D : va_G) (cI cB : ClassId) (ac pa dr : Nat) (P R : Nat → Int32) (yr : Nat) (Ya Yfa Ysa : Nat → Nat) (Yf Yg : Nat → Nat → Int32) (Yc : Nat → Nat) (Yv : Nat → Int32) (hc2 : Yc 2 ≤ 6) (hc4 : Yc 4 ≤ 40) (hc5 : Yc 5 ≤ 20) : Wr l D (TY cI cB) yX0_lay wsX0_lay 2 45 [.ref ac, .ref yr] [(ac, .inr (0, [.ref pa, .ref dr])), (pa, .inl (cI, 500, .inl P)), (dr, .inl (cI, 500, .inl R)), (yr, .inr (7, [.ref (Ya 0), .ref (Ya 1), .ref (Ya 2), .ref (Ya 3), .ref (Ya 4), .ref (Ya 5), .int (Yv 6), .int (Yv 7), .int (Yv 8), .int (Yv 9), .int (Yv 10), .int (Yv 11), .int (Yv 12), .int (Yv 13)])), (Ya 2, .inr (5, [.ref (Yfa 2), .ref (Ysa 2), .int (nI (Yc 2))])), (Yfa 2, .inl (cI, 6, .inl (Yf 2))), (Ysa 2, .inl (cI, 6, .inl (Yg 2))), (Ya 4, .inr (5, [.ref (Yfa 4), .ref (Ysa 4), .int (nI (Yc 4))])), (Yfa 4, .inl (cI, 40, .inl (Yf 4))), (Ysa 4, .inl (cI, 40, .inl (Yg 4))), (Ya 5, .inr (5, [.ref (Yfa 5), .ref (Ysa 5), .int (nI (Yc 5))])), (Yfa 5, .inl (cI, 20, .inl (Yf 5))), (Ysa 5, .inl (cI, 20, .inl (Yg 5)))] [(ac, .inr (0, [.ref pa, .ref dr])), (pa, .inl (cI, 500, .inl (pdF Yf Yg Yc Yv P))), (dr, .inl (cI, 500, .inl (ov (lrF (Yf 2) (Yg 2) (Yc 2)) R 500))), (yr, .inr (7, [.ref (Ya 0), .ref (Ya 1), .ref (Ya 2), .ref (Ya 3), .ref (Ya 4), .ref (Ya 5), .int (Yv 6), .int (Yv 7), .int (Yv 8), .int (Yv 9), .int (Yv 10), .int (Yv 11), .int (Yv 12), .int (Yv 13)])), (Ya 2, .inr (5, [.ref (Yfa 2), .ref (Ysa 2), .int (nI (Yc 2))])), (Yfa 2, .inl (cI, 6, .inl (Yf 2))), (Ysa 2, .inl (cI, 6, .inl (Yg 2))), (Ya 4, .inr (5, [.ref (Yfa 4), .ref (Ysa 4), .int (nI (Yc 4))])), (Yfa 4, .inl (cI, 40, .inl (Yf 4))), (Ysa 4, .inl (cI, 40, .inl (Yg 4))), (Ya 5, .inr (5, [.ref (Yfa 5), .ref (Ysa 5), .int (nI (Yc 5))])), (Yfa 5, .inl (cI, 20, .inl (Yf 5))), (Ysa 5, .inl (cI, 20, .inl (Yg 5)))] none := by
  refine wr_v (cc := cX0_lay) (maxL := 4) (by decide) rfl (Nat.le_of_ble_eq_true rfl) ?_
  intro p_ e_ s_ m_ ar_ be_ me_ co_ ls Q_ A_ hx hb hml hown hts hP hK hD hS hl hret
  have hown : s_.vm.findClass RX0 = some m_.cls := hown
  have hl : lv_has ls 4 [(0, .ref ac), (1, .ref yr)] := hl
  refine lv_aload_n hx hb dX0_lay_0 rfl (lv_at hl 0 rfl) ?_
  refine g_get (C := RX0) (T := TX0) (N := 2) (ci := 0) (index := 9) hx hb hts in_X0_lay_0 hown hK hP 0 0 rfl rfl (by decide) (List.mem_of_getElem? (i := 1) rfl) rfl dX0_lay_1 ?_
  refine lv_iconst (v := 0) hx hb dX0_lay_4 (by decide) ?_
  refine wr_S (As := [.ref pa, .int 0]) (rest := []) (ws' := [(ac, .inr (0, [.ref pa, .ref dr])), (pa, .inl (cI, 500, .inl (ov (fun _ => 0) P 500))), (dr, .inl (cI, 500, .inl R)), (yr, .inr (7, [.ref (Ya 0), .ref (Ya 1), .ref (Ya 2), .ref (Ya 3), .ref (Ya 4), .ref (Ya 5), .int (Yv 6), .int (Yv 7), .int (Yv 8), .int (Yv 9), .int (Yv 10), .int (Yv 11), .int (Yv 12), .int (Yv 13)])), (Ya 2, .inr (5, [.ref (Yfa 2), .ref (Ysa 2), .int (nI (Yc 2))])), (Yfa 2, .inl (cI, 6, .inl (Yf 2))), (Ysa 2, .inl (cI, 6, .inl (Yg 2))), (Ya 4, .inr (5, [.ref (Yfa 4), .ref (Ysa 4), .int (nI (Yc 4))])), (Yfa 4, .inl (cI, 40, .inl (Yf 4))), (Ysa 4, .inl (cI, 40, .inl (Yg 4))), (Ya 5, .inr (5, [.ref (Yfa 5), .ref (Ysa 5), .int (nI (Yc 5))])), (Yfa 5, .inl (cI, 20, .inl (Yf 5))), (Ysa 5, .inl (cI, 20, .inl (Yg 5)))]) (kJ7_fill_53178 l D cI cB pa 500 P 0 (by omega)) ⟨hx, hb, hml, hown, hts⟩ (va_cwS 2 hts gX0_lay_J7_fill_53178 rfl rfl rfl (by decide +kernel) ⟨Nat.le_of_ble_eq_true rfl, Nat.le_of_ble_eq_true rfl⟩) hK hP hD hS [1] rfl (by decide +kernel) rfl rfl rfl rfl hl.1 (Nat.le_of_ble_eq_true rfl) dX0_lay_5 ⟨Nat.le_refl _, Nat.le_refl _⟩ (fun H_ lc_ hP hD hS => ?_)
  show W p_ l e_ (RM 2 45) s_ m_ ar_ be_ me_ co_ H_ lc_ 0 0 Q_ (F0 m_ 8 ls [])
  refine lv_aload_n hx hb dX0_lay_8 rfl (lv_at hl 0 rfl) ?_
  refine lv_aload_n hx hb dX0_lay_9 rfl (lv_at hl 1 rfl) ?_
  refine g_get (C := RX7) (T := TX7) (N := 14) (ci := 7) (index := 24) hx hb hts in_X0_lay_7 hown hK hP 3 4 rfl rfl (by decide) (List.mem_of_getElem? (i := 2) rfl) rfl dX0_lay_10 ?_
  refine lv_iconst (v := 1) hx hb dX0_lay_13 (by decide) ?_
  refine wp_V (As := [.ref (Ya 4), .int 1]) (rest := []) (ci := 0) (ws' := [(ac, .inr (0, [.ref pa, .ref dr])), (pa, .inl (cI, 500, .inl (mkX (Yf 4) (Yg 4) 1 (ov (fun _ => 0) P 500) (Yc 4)))), (dr, .inl (cI, 500, .inl R)), (yr, .inr (7, [.ref (Ya 0), .ref (Ya 1), .ref (Ya 2), .ref (Ya 3), .ref (Ya 4), .ref (Ya 5), .int (Yv 6), .int (Yv 7), .int (Yv 8), .int (Yv 9), .int (Yv 10), .int (Yv 11), .int (Yv 12), .int (Yv 13)])), (Ya 2, .inr (5, [.ref (Yfa 2), .ref (Ysa 2), .int (nI (Yc 2))])), (Yfa 2, .inl (cI, 6, .inl (Yf 2))), (Ysa 2, .inl (cI, 6, .inl (Yg 2))), (Ya 4, .inr (5, [.ref (Yfa 4), .ref (Ysa 4), .int (nI (Yc 4))])), (Yfa 4, .inl (cI, 40, .inl (Yf 4))), (Ysa 4, .inl (cI, 40, .inl (Yg 4))), (Ya 5, .inr (5, [.ref (Yfa 5), .ref (Ysa 5), .int (nI (Yc 5))])), (Yfa 5, .inl (cI, 20, .inl (Yf 5))), (Ysa 5, .inl (cI, 20, .inl (Yg 5)))]) (kX0_mark l D cI cB ac pa dr (ov (fun _ => 0) P 500) R (Ya 4) (Yfa 4) (Ysa 4) 40 (Yc 4) (Yf 4) (Yg 4) 1 (by omega) (by omega)) ⟨hx, hb, hml, hown, hts⟩ (cwV 2 hts gX0_lay_X0_mark rfl rfl rfl (by decide +kernel) ⟨Nat.le_of_ble_eq_true rfl, Nat.le_of_ble_eq_true rfl⟩) hK hP hD hS [0, 1, 2, 7, 8, 9] [3, 4, 5, 6, 10, 11, 12] rfl rfl rfl 13 rfl (by decide +kernel) (by decide +kernel) rfl (by decide +kernel) 0 rfl rfl rfl rfl hl.1 (Nat.le_of_ble_eq_true rfl) dX0_lay_14 ⟨Nat.le_refl _, Nat.le_refl _⟩ (fun H_ lc_ hP hD hS => ?_)
  show W p_ l e_ (RM 2 45) s_ m_ ar_ be_ me_ co_ H_ lc_ 0 0 Q_ (F0 m_ 17 ls [])
  refine lv_aload_n hx hb dX0_lay_17 rfl (lv_at hl 0 rfl) ?_
  refine lv_aload_n hx hb dX0_lay_18 rfl (lv_at hl 1 rfl) ?_
  refine g_get (C := RX7) (T := TX7) (N := 14) (ci := 7) (index := 34) hx hb hts in_X0_lay_7 hown hK hP 3 5 rfl rfl (by decide) (List.mem_of_getElem? (i := 3) rfl) rfl dX0_lay_19 ?_
  refine lv_iconst (v := -1) hx hb dX0_lay_22 (by decide) ?_
  refine wp_V (As := [.ref (Ya 5), .int (-1)]) (rest := []) (ci := 0) (ws' := [(ac, .inr (0, [.ref pa, .ref dr])), (pa, .inl (cI, 500, .inl (mkX (Yf 5) (Yg 5) (-1) (mkX (Yf 4) (Yg 4) 1 (ov (fun _ => 0) P 500) (Yc 4)) (Yc 5)))), (dr, .inl (cI, 500, .inl R)), (yr, .inr (7, [.ref (Ya 0), .ref (Ya 1), .ref (Ya 2), .ref (Ya 3), .ref (Ya 4), .ref (Ya 5), .int (Yv 6), .int (Yv 7), .int (Yv 8), .int (Yv 9), .int (Yv 10), .int (Yv 11), .int (Yv 12), .int (Yv 13)])), (Ya 2, .inr (5, [.ref (Yfa 2), .ref (Ysa 2), .int (nI (Yc 2))])), (Yfa 2, .inl (cI, 6, .inl (Yf 2))), (Ysa 2, .inl (cI, 6, .inl (Yg 2))), (Ya 4, .inr (5, [.ref (Yfa 4), .ref (Ysa 4), .int (nI (Yc 4))])), (Yfa 4, .inl (cI, 40, .inl (Yf 4))), (Ysa 4, .inl (cI, 40, .inl (Yg 4))), (Ya 5, .inr (5, [.ref (Yfa 5), .ref (Ysa 5), .int (nI (Yc 5))])), (Yfa 5, .inl (cI, 20, .inl (Yf 5))), (Ysa 5, .inl (cI, 20, .inl (Yg 5)))]) (kX0_mark l D cI cB ac pa dr (mkX (Yf 4) (Yg 4) 1 (ov (fun _ => 0) P 500) (Yc 4)) R (Ya 5) (Yfa 5) (Ysa 5) 20 (Yc 5) (Yf 5) (Yg 5) (-1) (by omega) (by omega)) ⟨hx, hb, hml, hown, hts⟩ (cwV 2 hts gX0_lay_X0_mark rfl rfl rfl (by decide +kernel) ⟨Nat.le_of_ble_eq_true rfl, Nat.le_of_ble_eq_true rfl⟩) hK hP hD hS [0, 1, 2, 10, 11, 12] [3, 4, 5, 6, 7, 8, 9] rfl rfl rfl 13 rfl (by decide +kernel) (by decide +kernel) rfl (by decide +kernel) 0 rfl rfl rfl rfl hl.1 (Nat.le_of_ble_eq_true rfl) dX0_lay_23 ⟨Nat.le_refl _, Nat.le_refl _⟩ (fun H_ lc_ hP hD hS => ?_)
  show W p_ l e_ (RM 2 45) s_ m_ ar_ be_ me_ co_ H_ lc_ 0 0 Q_ (F0 m_ 26 ls [])
  refine lv_aload_n hx hb dX0_lay_26 rfl (lv_at hl 1 rfl) ?_
  refine g_get (C := RX7) (T := TX7) (N := 14) (ci := 7) (index := 37) hx hb hts in_X0_lay_7 hown hK hP 3 7 rfl rfl (by decide) (List.mem_of_getElem? (i := 4) rfl) rfl dX0_lay_27 ?_
  refine lv_istore_n (lv' := [(2, .int (Yv 7)), (0, .ref ac), (1, .ref yr)]) hx hb dX0_lay_30 rfl hl (by decide) rfl (fun ls hl => ?_)
  refine lv_iconst (v := 0) hx hb dX0_lay_31 (by decide) ?_
  refine lv_istore_n (lv' := [(3, .int 0), (2, .int (Yv 7)), (0, .ref ac), (1, .ref yr)]) hx hb dX0_lay_32 rfl hl (by decide) rfl (fun ls hl => ?_)
  have L33 : ∀ (nn_ : Nat) (i : Nat) (hi : i ≤ 500) (xx_v2 : Int32) (xx_v3 : Int32) (xx_g1 : Nat → Int32), (500 - i) < nn_ → xx_v2 = psX (mkX (Yf 5) (Yg 5) (-1) (mkX (Yf 4) (Yg 4) 1 (ov (fun _ => 0) P 500) (Yc 4)) (Yc 5)) (Yv 7) i → xx_v3 = nI i → xx_g1 = ov (psF (mkX (Yf 5) (Yg 5) (-1) (mkX (Yf 4) (Yg 4) 1 (ov (fun _ => 0) P 500) (Yc 4)) (Yc 5)) (Yv 7)) (mkX (Yf 5) (Yg 5) (-1) (mkX (Yf 4) (Yg 4) 1 (ov (fun _ => 0) P 500) (Yc 4)) (Yc 5)) i → ∀ (H_ : Heap) (lc_ : List Loc), va_P D vwCl [(ac, .inr (0, [.ref pa, .ref dr])), (pa, .inl (cI, 500, .inl xx_g1)), (dr, .inl (cI, 500, .inl R)), (yr, .inr (7, [.ref (Ya 0), .ref (Ya 1), .ref (Ya 2), .ref (Ya 3), .ref (Ya 4), .ref (Ya 5), .int (Yv 6), .int (Yv 7), .int (Yv 8), .int (Yv 9), .int (Yv 10), .int (Yv 11), .int (Yv 12), .int (Yv 13)])), (Ya 2, .inr (5, [.ref (Yfa 2), .ref (Ysa 2), .int (nI (Yc 2))])), (Yfa 2, .inl (cI, 6, .inl (Yf 2))), (Ysa 2, .inl (cI, 6, .inl (Yg 2))), (Ya 4, .inr (5, [.ref (Yfa 4), .ref (Ysa 4), .int (nI (Yc 4))])), (Yfa 4, .inl (cI, 40, .inl (Yf 4))), (Ysa 4, .inl (cI, 40, .inl (Yg 4))), (Ya 5, .inr (5, [.ref (Yfa 5), .ref (Ysa 5), .int (nI (Yc 5))])), (Yfa 5, .inl (cI, 20, .inl (Yf 5))), (Ysa 5, .inl (cI, 20, .inl (Yg 5)))] H_ → va_D A_ [(ac, .inr (0, [.ref pa, .ref dr])), (pa, .inl (cI, 500, .inl xx_g1)), (dr, .inl (cI, 500, .inl R)), (yr, .inr (7, [.ref (Ya 0), .ref (Ya 1), .ref (Ya 2), .ref (Ya 3), .ref (Ya 4), .ref (Ya 5), .int (Yv 6), .int (Yv 7), .int (Yv 8), .int (Yv 9), .int (Yv 10), .int (Yv 11), .int (Yv 12), .int (Yv 13)])), (Ya 2, .inr (5, [.ref (Yfa 2), .ref (Ysa 2), .int (nI (Yc 2))])), (Yfa 2, .inl (cI, 6, .inl (Yf 2))), (Ysa 2, .inl (cI, 6, .inl (Yg 2))), (Ya 4, .inr (5, [.ref (Yfa 4), .ref (Ysa 4), .int (nI (Yc 4))])), (Yfa 4, .inl (cI, 40, .inl (Yf 4))), (Ysa 4, .inl (cI, 40, .inl (Yg 4))), (Ya 5, .inr (5, [.ref (Yfa 5), .ref (Ysa 5), .int (nI (Yc 5))])), (Yfa 5, .inl (cI, 20, .inl (Yf 5))), (Ysa 5, .inl (cI, 20, .inl (Yg 5)))] → va_S A_ s_.heap H_ lc_ → ∀ (ls : Array Slot), lv_has ls 4 [(0, .ref ac), (1, .ref yr), (2, .int xx_v2), (3, .int xx_v3)] → W p_ l e_ (RM 2 45) s_ m_ ar_ be_ me_ co_ H_ lc_ 0 0 Q_ (F0 m_ 33 ls []) := by
    intro nn_
    induction nn_ with
    | zero => intro i hi xx_v2 xx_v3 xx_g1 hn_; exact absurd hn_ (Nat.not_lt_zero _)
    | succ nn_ ih33 =>
      intro i hi xx_v2 xx_v3 xx_g1 hn_ e_xx_v2 e_xx_v3 e_xx_g1 H_ lc_ hP hD hS ls hl
      subst e_xx_v2 e_xx_v3 e_xx_g1
      refine lv_iload_n hx hb dX0_lay_33 rfl (lv_at hl 3 rfl) ?_
      refine lv_aload_n hx hb dX0_lay_34 rfl (lv_at hl 0 rfl) ?_
      refine g_get (C := RX0) (T := TX0) (N := 2) (ci := 0) (index := 9) hx hb hts in_X0_lay_0 hown hK hP 0 0 rfl rfl (by decide) (List.mem_of_getElem? (i := 1) rfl) rfl dX0_lay_35 ?_
      refine va_alen (v := nI 500) hx hb hK hP 1 0 rfl rfl rfl dX0_lay_38 ?_
      refine lv_icmp_ge (tgt := 64) hx hb dX0_lay_39 (by decide) (fun c39 => ?_) (fun c39 => ?_)
      · obtain rfl : i = 500 := by have q := ge_nI c39 (by omega) (by omega); omega
        refine lv_aload_n hx hb dX0_lay_64 rfl (lv_at hl 0 rfl) ?_
        refine lv_aload_n hx hb dX0_lay_65 rfl (lv_at hl 1 rfl) ?_
        refine g_get (C := RX7) (T := TX7) (N := 14) (ci := 7) (index := 41) hx hb hts in_X0_lay_7 hown hK hP 3 2 rfl rfl (by decide) (List.mem_of_getElem? (i := 5) rfl) rfl dX0_lay_66 ?_
        refine wp_V (As := [.ref (Ya 2)]) (rest := []) (ci := 0) (ws' := [(ac, .inr (0, [.ref pa, .ref dr])), (pa, .inl (cI, 500, .inl (ov (psF (mkX (Yf 5) (Yg 5) (-1) (mkX (Yf 4) (Yg 4) 1 (ov (fun _ => 0) P 500) (Yc 4)) (Yc 5)) (Yv 7)) (mkX (Yf 5) (Yg 5) (-1) (mkX (Yf 4) (Yg 4) 1 (ov (fun _ => 0) P 500) (Yc 4)) (Yc 5)) 500))), (dr, .inl (cI, 500, .inl (ov (lrF (Yf 2) (Yg 2) (Yc 2)) R 500))), (yr, .inr (7, [.ref (Ya 0), .ref (Ya 1), .ref (Ya 2), .ref (Ya 3), .ref (Ya 4), .ref (Ya 5), .int (Yv 6), .int (Yv 7), .int (Yv 8), .int (Yv 9), .int (Yv 10), .int (Yv 11), .int (Yv 12), .int (Yv 13)])), (Ya 2, .inr (5, [.ref (Yfa 2), .ref (Ysa 2), .int (nI (Yc 2))])), (Yfa 2, .inl (cI, 6, .inl (Yf 2))), (Ysa 2, .inl (cI, 6, .inl (Yg 2))), (Ya 4, .inr (5, [.ref (Yfa 4), .ref (Ysa 4), .int (nI (Yc 4))])), (Yfa 4, .inl (cI, 40, .inl (Yf 4))), (Ysa 4, .inl (cI, 40, .inl (Yg 4))), (Ya 5, .inr (5, [.ref (Yfa 5), .ref (Ysa 5), .int (nI (Yc 5))])), (Yfa 5, .inl (cI, 20, .inl (Yf 5))), (Ysa 5, .inl (cI, 20, .inl (Yg 5)))]) (kX0_layRates l D cI cB ac pa dr (ov (psF (mkX (Yf 5) (Yg 5) (-1) (mkX (Yf 4) (Yg 4) 1 (ov (fun _ => 0) P 500) (Yc 4)) (Yc 5)) (Yv 7)) (mkX (Yf 5) (Yg 5) (-1) (mkX (Yf 4) (Yg 4) 1 (ov (fun _ => 0) P 500) (Yc 4)) (Yc 5)) 500) R (Ya 2) (Yfa 2) (Ysa 2) 6 (Yc 2) (Yf 2) (Yg 2) (by omega) (by omega)) ⟨hx, hb, hml, hown, hts⟩ (cwV 1 hts gX0_lay_X0_layRates rfl rfl rfl (by decide +kernel) ⟨Nat.le_of_ble_eq_true rfl, Nat.le_of_ble_eq_true rfl⟩) hK hP hD hS [0, 1, 2, 4, 5, 6] [3, 7, 8, 9, 10, 11, 12] rfl rfl rfl 13 rfl (by decide +kernel) (by decide +kernel) rfl (by decide +kernel) 0 rfl rfl rfl rfl hl.1 (Nat.le_of_ble_eq_true rfl) dX0_lay_69 ⟨Nat.le_refl _, Nat.le_refl _⟩ (fun H_ lc_ hP hD hS => ?_)
        show W p_ l e_ (RM 2 45) s_ m_ ar_ be_ me_ co_ H_ lc_ 0 0 Q_ (F0 m_ 72 ls [])
        exact hret _ _ _ ls hS (hP) dX0_lay_72
      · have hlt : i < 500 := lt_nI c39 (by omega) (by omega)
        refine lv_iload_n hx hb dX0_lay_42 rfl (lv_at hl 2 rfl) ?_
        refine lv_aload_n hx hb dX0_lay_43 rfl (lv_at hl 0 rfl) ?_
        refine g_get (C := RX0) (T := TX0) (N := 2) (ci := 0) (index := 9) hx hb hts in_X0_lay_0 hown hK hP 0 0 rfl rfl (by decide) (List.mem_of_getElem? (i := 1) rfl) rfl dX0_lay_44 ?_
        refine lv_iload_n hx hb dX0_lay_47 rfl (lv_at hl 3 rfl) ?_
        refine g_iald hx hb hK hP 1 0 rfl rfl i (rfl) (by omega) (by omega) dX0_lay_48 ?_
        rw [show ((ov (psF (mkX (Yf 5) (Yg 5) (-1) (mkX (Yf 4) (Yg 4) 1 (ov (fun _ => 0) P 500) (Yc 4)) (Yc 5)) (Yv 7)) (mkX (Yf 5) (Yg 5) (-1) (mkX (Yf 4) (Yg 4) 1 (ov (fun _ => 0) P 500) (Yc 4)) (Yc 5)) i) i : Int32) = (mkX (Yf 5) (Yg 5) (-1) (mkX (Yf 4) (Yg 4) 1 (ov (fun _ => 0) P 500) (Yc 4)) (Yc 5)) i from ov_at _ _ _]
        refine lv_iadd hx hb dX0_lay_49 ?_
        refine lv_istore_n (lv' := [(2, .int ((psX (mkX (Yf 5) (Yg 5) (-1) (mkX (Yf 4) (Yg 4) 1 (ov (fun _ => 0) P 500) (Yc 4)) (Yc 5)) (Yv 7) i) + ((mkX (Yf 5) (Yg 5) (-1) (mkX (Yf 4) (Yg 4) 1 (ov (fun _ => 0) P 500) (Yc 4)) (Yc 5)) i))), (0, .ref ac), (1, .ref yr), (3, .int (nI i))]) hx hb dX0_lay_50 rfl hl (by decide) rfl (fun ls hl => ?_)
        refine lv_aload_n hx hb dX0_lay_51 rfl (lv_at hl 1 rfl) ?_
        refine g_get (C := RX0) (T := TX0) (N := 2) (ci := 0) (index := 9) hx hb hts in_X0_lay_0 hown hK hP 0 0 rfl rfl (by decide) (List.mem_of_getElem? (i := 1) rfl) rfl dX0_lay_52 ?_
        refine lv_iload_n hx hb dX0_lay_55 rfl (lv_at hl 3 rfl) ?_
        refine lv_iload_n hx hb dX0_lay_56 rfl (lv_at hl 0 rfl) ?_
        refine g_iast hx hb hK hP hD hS 1 0 rfl rfl i (rfl) (by omega) (by omega) dX0_lay_57 (fun H_ lc_ hP hD hS => ?_)
        have hP : va_P D vwCl [(ac, .inr (0, [.ref pa, .ref dr])), (pa, .inl (cI, 500, .inl (upd (ov (psF (mkX (Yf 5) (Yg 5) (-1) (mkX (Yf 4) (Yg 4) 1 (ov (fun _ => 0) P 500) (Yc 4)) (Yc 5)) (Yv 7)) (mkX (Yf 5) (Yg 5) (-1) (mkX (Yf 4) (Yg 4) 1 (ov (fun _ => 0) P 500) (Yc 4)) (Yc 5)) i) i ((psX (mkX (Yf 5) (Yg 5) (-1) (mkX (Yf 4) (Yg 4) 1 (ov (fun _ => 0) P 500) (Yc 4)) (Yc 5)) (Yv 7) i) + ((mkX (Yf 5) (Yg 5) (-1) (mkX (Yf 4) (Yg 4) 1 (ov (fun _ => 0) P 500) (Yc 4)) (Yc 5)) i))))), (dr, .inl (cI, 500, .inl R)), (yr, .inr (7, [.ref (Ya 0), .ref (Ya 1), .ref (Ya 2), .ref (Ya 3), .ref (Ya 4), .ref (Ya 5), .int (Yv 6), .int (Yv 7), .int (Yv 8), .int (Yv 9), .int (Yv 10), .int (Yv 11), .int (Yv 12), .int (Yv 13)])), (Ya 2, .inr (5, [.ref (Yfa 2), .ref (Ysa 2), .int (nI (Yc 2))])), (Yfa 2, .inl (cI, 6, .inl (Yf 2))), (Ysa 2, .inl (cI, 6, .inl (Yg 2))), (Ya 4, .inr (5, [.ref (Yfa 4), .ref (Ysa 4), .int (nI (Yc 4))])), (Yfa 4, .inl (cI, 40, .inl (Yf 4))), (Ysa 4, .inl (cI, 40, .inl (Yg 4))), (Ya 5, .inr (5, [.ref (Yfa 5), .ref (Ysa 5), .int (nI (Yc 5))])), (Yfa 5, .inl (cI, 20, .inl (Yf 5))), (Ysa 5, .inl (cI, 20, .inl (Yg 5)))] H_ := hP
        have hD : va_D A_ [(ac, .inr (0, [.ref pa, .ref dr])), (pa, .inl (cI, 500, .inl (upd (ov (psF (mkX (Yf 5) (Yg 5) (-1) (mkX (Yf 4) (Yg 4) 1 (ov (fun _ => 0) P 500) (Yc 4)) (Yc 5)) (Yv 7)) (mkX (Yf 5) (Yg 5) (-1) (mkX (Yf 4) (Yg 4) 1 (ov (fun _ => 0) P 500) (Yc 4)) (Yc 5)) i) i ((psX (mkX (Yf 5) (Yg 5) (-1) (mkX (Yf 4) (Yg 4) 1 (ov (fun _ => 0) P 500) (Yc 4)) (Yc 5)) (Yv 7) i) + ((mkX (Yf 5) (Yg 5) (-1) (mkX (Yf 4) (Yg 4) 1 (ov (fun _ => 0) P 500) (Yc 4)) (Yc 5)) i))))), (dr, .inl (cI, 500, .inl R)), (yr, .inr (7, [.ref (Ya 0), .ref (Ya 1), .ref (Ya 2), .ref (Ya 3), .ref (Ya 4), .ref (Ya 5), .int (Yv 6), .int (Yv 7), .int (Yv 8), .int (Yv 9), .int (Yv 10), .int (Yv 11), .int (Yv 12), .int (Yv 13)])), (Ya 2, .inr (5, [.ref (Yfa 2), .ref (Ysa 2), .int (nI (Yc 2))])), (Yfa 2, .inl (cI, 6, .inl (Yf 2))), (Ysa 2, .inl (cI, 6, .inl (Yg 2))), (Ya 4, .inr (5, [.ref (Yfa 4), .ref (Ysa 4), .int (nI (Yc 4))])), (Yfa 4, .inl (cI, 40, .inl (Yf 4))), (Ysa 4, .inl (cI, 40, .inl (Yg 4))), (Ya 5, .inr (5, [.ref (Yfa 5), .ref (Ysa 5), .int (nI (Yc 5))])), (Yfa 5, .inl (cI, 20, .inl (Yf 5))), (Ysa 5, .inl (cI, 20, .inl (Yg 5)))] := hD
        refine lv_iinc (v := nI (i + 1)) (lv' := [(3, .int (nI (i + 1))), (2, .int ((psX (mkX (Yf 5) (Yg 5) (-1) (mkX (Yf 4) (Yg 4) 1 (ov (fun _ => 0) P 500) (Yc 4)) (Yc 5)) (Yv 7) i) + ((mkX (Yf 5) (Yg 5) (-1) (mkX (Yf 4) (Yg 4) 1 (ov (fun _ => 0) P 500) (Yc 4)) (Yc 5)) i))), (0, .ref ac), (1, .ref yr)]) hx hb dX0_lay_58 hl (k := 3) rfl (nI_add _ 1) (by decide) rfl (fun ls hl => ?_)
        refine lv_goto (tgt := 33) hx hb dX0_lay_61 (by decide) ?_
        exact ih33 (i + 1) (by omega) _ _ _ (by omega) (rfl) (rfl) (ov_s _ _ _) _ _ hP hD hS ls (lv_sub hl [2, 3, 1, 0] rfl)
  exact L33 (500 - 0 + 1) 0 (by omega) _ _ _ (Nat.lt_succ_self _) (rfl) (nI_0.symm) ((ov_0 _ _).symm) _ _ hP hD hS ls (lv_sub hl [2, 3, 1, 0] rfl)

theorem in_X0_addFrom_0 : ∀ w ∈ wsX00, w ∈ wsX0_addFrom := fun _ h => List.mem_cons_of_mem _ (List.mem_append_right _ (h))
set_option maxHeartbeats 4000000 in
set_option maxRecDepth 100000 in
theorem kX0_addFrom (l : Launch) (D : va_G) (cI cB : ClassId) (ac pa dr : Nat) (P R : Nat → Int32) (d : Nat) (x : Int32) (hd : d ≤ 500) : Wr l D (TY cI cB) yX0_addFrom wsX0_addFrom 1 21 [.ref ac, .int (nI d), .int x] [(ac, .inr (0, [.ref pa, .ref dr])), (pa, .inl (cI, 500, .inl P)), (dr, .inl (cI, 500, .inl R))] [(ac, .inr (0, [.ref pa, .ref dr])), (pa, .inl (cI, 500, .inl (adF P x d 500))), (dr, .inl (cI, 500, .inl R))] none := by
  refine wr_v (cc := cX0_addFrom) (maxL := 4) (by decide) rfl (Nat.le_of_ble_eq_true rfl) ?_
  intro p_ e_ s_ m_ ar_ be_ me_ co_ ls Q_ A_ hx hb hml hown hts hP hK hD hS hl hret
  have hown : s_.vm.findClass RX0 = some m_.cls := hown
  have hl : lv_has ls 4 [(0, .ref ac), (1, .int (nI d)), (2, .int x)] := hl
  refine lv_iconst (v := 0) hx hb dX0_addFrom_0 (by decide) ?_
  refine lv_iload_n hx hb dX0_addFrom_1 rfl (lv_at hl 1 rfl) ?_
  refine va_mmax hx hb (hml.trans hl.1.symm) hown (hts (.methodLink RX0 64 Lib.Math.max.name) (List.mem_of_getElem? (i := 1) rfl)) (hts (.static Lib.Math.max.name) (List.mem_of_getElem? (i := 2) rfl)) (hts (.initialized "java/lang/Math") (List.mem_of_getElem? (i := 3) rfl)) (hts (.code Lib.Math.max.name Lib.Math.max.code 2 (some .int)) (List.mem_of_getElem? (i := 4) rfl)) (Nat.le_of_ble_eq_true rfl) (Nat.le_of_ble_eq_true rfl) (Nat.le_refl _) (Nat.le_refl _) dX0_addFrom_2 ?_
  rw [show (if 0 < (nI d) then (nI d) else 0 : Int32) = max32 0 (nI d) from rfl]
  rw [show (max32 0 (nI d) : Int32) = nI d from max0_nI d (by omega)]
  refine lv_istore_n (lv' := [(3, .int (nI d)), (0, .ref ac), (1, .int (nI d)), (2, .int x)]) hx hb dX0_addFrom_5 rfl hl (by decide) rfl (fun ls hl => ?_)
  have L6 : ∀ (nn_ : Nat) (i : Nat) (hi : i ≤ 500) (hdi : d ≤ i) (xx_v3 : Int32) (xx_g1 : Nat → Int32), (500 - i) < nn_ → xx_v3 = nI i → xx_g1 = adF P x d i → ∀ (H_ : Heap) (lc_ : List Loc), va_P D vwCl [(ac, .inr (0, [.ref pa, .ref dr])), (pa, .inl (cI, 500, .inl xx_g1)), (dr, .inl (cI, 500, .inl R))] H_ → va_D A_ [(ac, .inr (0, [.ref pa, .ref dr])), (pa, .inl (cI, 500, .inl xx_g1)), (dr, .inl (cI, 500, .inl R))] → va_S A_ s_.heap H_ lc_ → ∀ (ls : Array Slot), lv_has ls 4 [(0, .ref ac), (1, .int (nI d)), (2, .int x), (3, .int xx_v3)] → W p_ l e_ (RM 1 21) s_ m_ ar_ be_ me_ co_ H_ lc_ 0 0 Q_ (F0 m_ 6 ls []) := by
    intro nn_
    induction nn_ with
    | zero => intro i hi hdi xx_v3 xx_g1 hn_; exact absurd hn_ (Nat.not_lt_zero _)
    | succ nn_ ih6 =>
      intro i hi hdi xx_v3 xx_g1 hn_ e_xx_v3 e_xx_g1 H_ lc_ hP hD hS ls hl
      subst e_xx_v3 e_xx_g1
      refine lv_iload_n hx hb dX0_addFrom_6 rfl (lv_at hl 3 rfl) ?_
      refine lv_aload_n hx hb dX0_addFrom_7 rfl (lv_at hl 0 rfl) ?_
      refine g_get (C := RX0) (T := TX0) (N := 2) (ci := 0) (index := 9) hx hb hts in_X0_addFrom_0 hown hK hP 0 0 rfl rfl (by decide) (List.mem_of_getElem? (i := 5) rfl) rfl dX0_addFrom_8 ?_
      refine va_alen (v := nI 500) hx hb hK hP 1 0 rfl rfl rfl dX0_addFrom_11 ?_
      refine lv_icmp_ge (tgt := 31) hx hb dX0_addFrom_12 (by decide) (fun c12 => ?_) (fun c12 => ?_)
      · exact hret _ _ _ ls hS (by have q := ge_nI c12 (by omega) (by omega); rw [show i = 500 by omega] at hP; exact hP) dX0_addFrom_31
      · have hlt : i < 500 := lt_nI c12 (by omega) (by omega)
        refine lv_aload_n hx hb dX0_addFrom_15 rfl (lv_at hl 0 rfl) ?_
        refine g_get (C := RX0) (T := TX0) (N := 2) (ci := 0) (index := 9) hx hb hts in_X0_addFrom_0 hown hK hP 0 0 rfl rfl (by decide) (List.mem_of_getElem? (i := 5) rfl) rfl dX0_addFrom_16 ?_
        refine lv_iload_n hx hb dX0_addFrom_19 rfl (lv_at hl 3 rfl) ?_
        refine lv_dup2_11 hx hb dX0_addFrom_20 rfl rfl ?_
        refine g_iald hx hb hK hP 1 0 rfl rfl i (rfl) (by omega) (by omega) dX0_addFrom_21 ?_
        rw [show ((adF P x d i) i : Int32) = P i from adF_at _ _ _ _]
        refine lv_iload_n hx hb dX0_addFrom_22 rfl (lv_at hl 2 rfl) ?_
        refine lv_iadd hx hb dX0_addFrom_23 ?_
        refine g_iast hx hb hK hP hD hS 1 0 rfl rfl i (rfl) (by omega) (by omega) dX0_addFrom_24 (fun H_ lc_ hP hD hS => ?_)
        have hP : va_P D vwCl [(ac, .inr (0, [.ref pa, .ref dr])), (pa, .inl (cI, 500, .inl (upd (adF P x d i) i ((P i) + x)))), (dr, .inl (cI, 500, .inl R))] H_ := hP
        have hD : va_D A_ [(ac, .inr (0, [.ref pa, .ref dr])), (pa, .inl (cI, 500, .inl (upd (adF P x d i) i ((P i) + x)))), (dr, .inl (cI, 500, .inl R))] := hD
        refine lv_iinc (v := nI (i + 1)) (lv' := [(3, .int (nI (i + 1))), (0, .ref ac), (1, .int (nI d)), (2, .int x)]) hx hb dX0_addFrom_25 hl (k := 3) rfl (nI_add _ 1) (by decide) rfl (fun ls hl => ?_)
        refine lv_goto (tgt := 6) hx hb dX0_addFrom_28 (by decide) ?_
        exact ih6 (i + 1) (by omega) (by omega) _ _ (by omega) (rfl) (adF_s _ _ _ _ hdi) _ _ hP hD hS ls (lv_sub hl [1, 2, 3, 0] rfl)
  exact L6 (500 - d + 1) d (by omega) (by omega) _ _ (Nat.lt_succ_self _) (rfl) ((adF_0 _ _ _).symm) _ _ hP hD hS ls (lv_sub hl [1, 2, 3, 0] rfl)

theorem in_X0_paidAt_0 : ∀ w ∈ wsX00, w ∈ wsX0_paidAt := fun _ h => List.mem_cons_of_mem _ (List.mem_append_right _ (h))
set_option maxHeartbeats 4000000 in
set_option maxRecDepth 100000 in
theorem kX0_paidAt (l : Launch) (D : va_G) (cI cB : ClassId) (ac pa dr : Nat) (P R : Nat → Int32) (i : Int32)  : Rd l D (TY cI cB) yX0_paidAt wsX0_paidAt 0 0 [.ref ac, .int i] [(ac, .inr (0, [.ref pa, .ref dr])), (pa, .inl (cI, 500, .inl P)), (dr, .inl (cI, 500, .inl R))] (rowAt P 500 i) := by
  refine rd_i (cc := cX0_paidAt) (maxL := 2) (by decide) rfl (Nat.le_of_ble_eq_true rfl) ?_
  intro p_ e_ s_ m_ ar_ be_ me_ co_ ls Q_ hx hb hml hown hts hP hK hl hret
  have hown : s_.vm.findClass RX0 = some m_.cls := hown
  have hl : lv_has ls 2 [(0, .ref ac), (1, .int i)] := hl
  refine lv_iload_n hx hb dX0_paidAt_0 rfl (lv_at hl 1 rfl) ?_
  refine lv_if_lt (tgt := 22) hx hb dX0_paidAt_1 (by decide) (fun c1 => ?_) (fun c1 => ?_)
  · refine lv_iconst (v := 0) hx hb dX0_paidAt_22 (by decide) ?_
    exact hret _ _ ls (by simp [rowAt, c1]) dX0_paidAt_23
  · refine lv_iload_n hx hb dX0_paidAt_4 rfl (lv_at hl 1 rfl) ?_
    refine lv_aload_n hx hb dX0_paidAt_5 rfl (lv_at hl 0 rfl) ?_
    refine g_get (C := RX0) (T := TX0) (N := 2) (ci := 0) (index := 9) hx hb hts in_X0_paidAt_0 hown hK hP 0 0 rfl rfl (by decide) (List.mem_of_getElem? (i := 1) rfl) rfl dX0_paidAt_6 ?_
    refine va_alen (v := nI 500) hx hb hK hP 1 0 rfl rfl rfl dX0_paidAt_9 ?_
    refine lv_icmp_ge (tgt := 22) hx hb dX0_paidAt_10 (by decide) (fun c10 => ?_) (fun c10 => ?_)
    · refine lv_iconst (v := 0) hx hb dX0_paidAt_22 (by decide) ?_
      exact hret _ _ ls (by simp [rowAt, c1, c10]) dX0_paidAt_23
    · refine lv_aload_n hx hb dX0_paidAt_13 rfl (lv_at hl 0 rfl) ?_
      refine g_get (C := RX0) (T := TX0) (N := 2) (ci := 0) (index := 9) hx hb hts in_X0_paidAt_0 hown hK hP 0 0 rfl rfl (by decide) (List.mem_of_getElem? (i := 1) rfl) rfl dX0_paidAt_14 ?_
      refine lv_iload_n hx hb dX0_paidAt_17 rfl (lv_at hl 1 rfl) ?_
      refine va_iald hx hb hK hP 1 0 rfl rfl (in_nI c1 c10 (by omega)) dX0_paidAt_18 ?_
      refine lv_goto (tgt := 23) hx hb dX0_paidAt_19 (by decide) ?_
      exact hret _ _ ls (by simp [rowAt, c1, c10]) dX0_paidAt_23

theorem in_X0_rateAt_0 : ∀ w ∈ wsX00, w ∈ wsX0_rateAt := fun _ h => List.mem_cons_of_mem _ (List.mem_append_right _ (h))
set_option maxHeartbeats 4000000 in
set_option maxRecDepth 100000 in
theorem kX0_rateAt (l : Launch) (D : va_G) (cI cB : ClassId) (ac pa dr : Nat) (P R : Nat → Int32) (i : Int32)  : Rd l D (TY cI cB) yX0_rateAt wsX0_rateAt 0 0 [.ref ac, .int i] [(ac, .inr (0, [.ref pa, .ref dr])), (pa, .inl (cI, 500, .inl P)), (dr, .inl (cI, 500, .inl R))] (rowAt R 500 i) := by
  refine rd_i (cc := cX0_rateAt) (maxL := 2) (by decide) rfl (Nat.le_of_ble_eq_true rfl) ?_
  intro p_ e_ s_ m_ ar_ be_ me_ co_ ls Q_ hx hb hml hown hts hP hK hl hret
  have hown : s_.vm.findClass RX0 = some m_.cls := hown
  have hl : lv_has ls 2 [(0, .ref ac), (1, .int i)] := hl
  refine lv_iload_n hx hb dX0_rateAt_0 rfl (lv_at hl 1 rfl) ?_
  refine lv_if_lt (tgt := 22) hx hb dX0_rateAt_1 (by decide) (fun c1 => ?_) (fun c1 => ?_)
  · refine lv_iconst (v := 0) hx hb dX0_rateAt_22 (by decide) ?_
    exact hret _ _ ls (by simp [rowAt, c1]) dX0_rateAt_23
  · refine lv_iload_n hx hb dX0_rateAt_4 rfl (lv_at hl 1 rfl) ?_
    refine lv_aload_n hx hb dX0_rateAt_5 rfl (lv_at hl 0 rfl) ?_
    refine g_get (C := RX0) (T := TX0) (N := 2) (ci := 0) (index := 15) hx hb hts in_X0_rateAt_0 hown hK hP 0 1 rfl rfl (by decide) (List.mem_of_getElem? (i := 1) rfl) rfl dX0_rateAt_6 ?_
    refine va_alen (v := nI 500) hx hb hK hP 2 0 rfl rfl rfl dX0_rateAt_9 ?_
    refine lv_icmp_ge (tgt := 22) hx hb dX0_rateAt_10 (by decide) (fun c10 => ?_) (fun c10 => ?_)
    · refine lv_iconst (v := 0) hx hb dX0_rateAt_22 (by decide) ?_
      exact hret _ _ ls (by simp [rowAt, c1, c10]) dX0_rateAt_23
    · refine lv_aload_n hx hb dX0_rateAt_13 rfl (lv_at hl 0 rfl) ?_
      refine g_get (C := RX0) (T := TX0) (N := 2) (ci := 0) (index := 15) hx hb hts in_X0_rateAt_0 hown hK hP 0 1 rfl rfl (by decide) (List.mem_of_getElem? (i := 1) rfl) rfl dX0_rateAt_14 ?_
      refine lv_iload_n hx hb dX0_rateAt_17 rfl (lv_at hl 1 rfl) ?_
      refine va_iald hx hb hK hP 2 0 rfl rfl (in_nI c1 c10 (by omega)) dX0_rateAt_18 ?_
      refine lv_goto (tgt := 23) hx hb dX0_rateAt_19 (by decide) ?_
      exact hret _ _ ls (by simp [rowAt, c1, c10]) dX0_rateAt_23

theorem in_X0_costOf_7 : ∀ w ∈ wsX70, w ∈ wsX0_costOf := fun _ h => List.mem_cons_of_mem _ (List.mem_append_left _ (List.mem_append_left _ (List.mem_append_left _ (List.mem_append_right _ (h)))))
set_option maxHeartbeats 4000000 in
set_option maxRecDepth 100000 in
theorem kX0_costOf (l : Launch) (D : va_G) (cI cB : ClassId) (ac pa dr : Nat) (P R : Nat → Int32) (ak la lr lt : Nat) (L K Th : Nat → Int32) (yr : Nat) (Ya Yfa Ysa : Nat → Nat) (Yf Yg : Nat → Nat → Int32) (Yc : Nat → Nat) (Yv : Nat → Int32) (due ed : Nat) (p : Int32) (hc0 : Yc 0 ≤ 4) (hdue : rowAt (Yf 0) (Yc 0) p = nI due) (hdl : due ≤ 499) (hed : Yv 8 = nI ed) (hel : ed ≤ 499) : Rd l D (TY cI cB) yX0_costOf wsX0_costOf 2 42 [.ref ac, .int p, .ref yr, .ref ak] [(ac, .inr (0, [.ref pa, .ref dr])), (pa, .inl (cI, 500, .inl P)), (dr, .inl (cI, 500, .inl R)), (yr, .inr (7, [.ref (Ya 0), .ref (Ya 1), .ref (Ya 2), .ref (Ya 3), .ref (Ya 4), .ref (Ya 5), .int (Yv 6), .int (Yv 7), .int (Yv 8), .int (Yv 9), .int (Yv 10), .int (Yv 11), .int (Yv 12), .int (Yv 13)])), (Ya 0, .inr (5, [.ref (Yfa 0), .ref (Ysa 0), .int (nI (Yc 0))])), (Yfa 0, .inl (cI, 4, .inl (Yf 0))), (Ysa 0, .inl (cI, 4, .inl (Yg 0))), (ak, .inr (1, [.ref la, .ref lr, .ref lt])), (la, .inl (cI, 4, .inl L)), (lr, .inl (cI, 4, .inl K)), (lt, .inl (cI, 4, .inl Th))] (coX P R Th due ed p) := by
  refine rd_i (cc := cX0_costOf) (maxL := 11) (by decide) rfl (Nat.le_of_ble_eq_true rfl) ?_
  intro p_ e_ s_ m_ ar_ be_ me_ co_ ls Q_ hx hb hml hown hts hP hK hl hret
  have hown : s_.vm.findClass RX0 = some m_.cls := hown
  have hl : lv_has ls 11 [(0, .ref ac), (1, .int p), (2, .ref yr), (3, .ref ak)] := hl
  refine lv_aload_n hx hb dX0_costOf_0 rfl (lv_at hl 3 rfl) ?_
  refine lv_iload_n hx hb dX0_costOf_1 rfl (lv_at hl 1 rfl) ?_
  refine rd_V (As := [.int p]) (rest := []) (ci := 1) (kX1_instalment l D cI cB ak la lr lt L K Th p ) ⟨hx, hb, hml, hown, hts⟩ (cwV 1 hts gX0_costOf_X1_instalment rfl rfl rfl (by decide +kernel) ⟨Nat.le_of_ble_eq_true rfl, Nat.le_of_ble_eq_true rfl⟩) hK hP [7, 8, 9, 10] rfl 7 rfl rfl rfl rfl hl.1 (Nat.le_of_ble_eq_true rfl) dX0_costOf_2 ⟨Nat.le_refl _, Nat.le_refl _⟩ ?_
  refine lv_istore (lv' := [(4, .int (insX Th p)), (0, .ref ac), (1, .int p), (2, .ref yr), (3, .ref ak)]) hx hb dX0_costOf_5 hl (by decide) rfl (fun ls hl => ?_)
  refine lv_aload_n hx hb dX0_costOf_7 rfl (lv_at hl 4 rfl) ?_
  refine lv_iload_n hx hb dX0_costOf_8 rfl (lv_at hl 2 rfl) ?_
  refine rd_V (As := [.int p]) (rest := []) (ci := 1) (kX1_through l D cI cB ak la lr lt L K Th p ) ⟨hx, hb, hml, hown, hts⟩ (cwV 1 hts gX0_costOf_X1_through rfl rfl rfl (by decide +kernel) ⟨Nat.le_of_ble_eq_true rfl, Nat.le_of_ble_eq_true rfl⟩) hK hP [7, 8, 9, 10] rfl 7 rfl rfl rfl rfl hl.1 (Nat.le_of_ble_eq_true rfl) dX0_costOf_9 ⟨Nat.le_refl _, Nat.le_refl _⟩ ?_
  refine lv_istore (lv' := [(5, .int (rowAt Th 4 p)), (4, .int (insX Th p)), (0, .ref ac), (1, .int p), (2, .ref yr), (3, .ref ak)]) hx hb dX0_costOf_12 hl (by decide) rfl (fun ls hl => ?_)
  refine lv_lconst (v := 0) hx hb dX0_costOf_14 (by decide) ?_
  refine lv_lstore (lv' := [(6, .long 0), (5, .int (rowAt Th 4 p)), (4, .int (insX Th p)), (0, .ref ac), (1, .int p), (2, .ref yr), (3, .ref ak)]) hx hb dX0_costOf_15 hl (by decide) rfl (fun ls hl => ?_)
  refine lv_aload_n hx hb dX0_costOf_17 rfl (lv_at hl 5 rfl) ?_
  refine g_get (C := RX7) (T := TX7) (N := 14) (ci := 7) (index := 78) hx hb hts in_X0_costOf_7 hown hK hP 3 0 rfl rfl (by decide) (List.mem_of_getElem? (i := 1) rfl) rfl dX0_costOf_18 ?_
  refine lv_iload_n hx hb dX0_costOf_21 rfl (lv_at hl 4 rfl) ?_
  refine rd_V (As := [.int p]) (rest := []) (ci := 5) (kX5_first l D cI cB (Ya 0) (Yfa 0) (Ysa 0) 4 (Yc 0) (Yf 0) (Yg 0) p (by omega) (by omega)) ⟨hx, hb, hml, hown, hts⟩ (cwV 1 hts gX0_costOf_X5_first rfl rfl rfl (by decide +kernel) ⟨Nat.le_of_ble_eq_true rfl, Nat.le_of_ble_eq_true rfl⟩) hK hP [4, 5, 6] rfl 4 rfl rfl rfl rfl hl.1 (Nat.le_of_ble_eq_true rfl) dX0_costOf_22 ⟨Nat.le_refl _, Nat.le_refl _⟩ ?_
  rw [show (rowAt (Yf 0) (Yc 0) p : Int32) = nI due from hdue]
  refine lv_istore (lv' := [(8, .int (nI due)), (6, .long 0), (5, .int (rowAt Th 4 p)), (4, .int (insX Th p)), (0, .ref ac), (1, .int p), (2, .ref yr), (3, .ref ak)]) hx hb dX0_costOf_25 hl (by decide) rfl (fun ls hl => ?_)
  have L27 : ∀ (nn_ : Nat) (i : Nat) (hi : i ≤ ed - due ∨ i = 0) (xx_v6 : Int64) (xx_v8 : Int32), (500 - (due + i)) < nn_ → xx_v6 = csX P R (insX Th p) (rowAt Th 4 p) due i → xx_v8 = nI (due + i) → ∀ (ls : Array Slot), lv_has ls 11 [(0, .ref ac), (1, .int p), (2, .ref yr), (3, .ref ak), (4, .int (insX Th p)), (5, .int (rowAt Th 4 p)), (6, .long xx_v6), (8, .int xx_v8)] → W p_ l e_ (RM 2 42) s_ m_ ar_ be_ me_ co_ s_.heap [] 0 0 Q_ (F0 m_ 27 ls []) := by
    intro nn_
    induction nn_ with
    | zero => intro i hi xx_v6 xx_v8 hn_; exact absurd hn_ (Nat.not_lt_zero _)
    | succ nn_ ih27 =>
      intro i hi xx_v6 xx_v8 hn_ e_xx_v6 e_xx_v8 ls hl
      subst e_xx_v6 e_xx_v8
      refine lv_iload hx hb dX0_costOf_27 (lv_at hl 7 rfl) ?_
      refine lv_aload_n hx hb dX0_costOf_29 rfl (lv_at hl 2 rfl) ?_
      refine g_get (C := RX7) (T := TX7) (N := 14) (ci := 7) (index := 81) hx hb hts in_X0_costOf_7 hown hK hP 3 8 rfl rfl (by decide) (List.mem_of_getElem? (i := 2) rfl) rfl dX0_costOf_30 ?_
      rw [show (Yv 8 : Int32) = nI ed from hed]
      refine lv_icmp_ge (tgt := 86) hx hb dX0_costOf_33 (by decide) (fun c33 => ?_) (fun c33 => ?_)
      · refine lv_lload hx hb dX0_costOf_86 (lv_at hl 6 rfl) ?_
        refine lv_ldc2 (v := 100000) hx hb hown (hts (.constantLong RX0 93 (100000)) (List.mem_of_getElem? (i := 10) rfl)) dX0_costOf_88 ?_
        refine lv_ldiv hx hb dX0_costOf_91 (by decide) ?_
        refine lv_l2i (v := ((csX P R (insX Th p) (rowAt Th 4 p) due i) / 100000).toInt32) hx hb dX0_costOf_92 rfl ?_
        exact hret _ _ ls (by have q := ge_nI c33 (by omega) (by omega); unfold coX; rw [show i = ed - due by omega]) dX0_costOf_93
      · have hlt : due + i < ed := lt_nI c33 (by omega) (by omega)
        refine lv_iload hx hb dX0_costOf_36 (lv_at hl 7 rfl) ?_
        refine lv_sipush (v := 499) hx hb dX0_costOf_38 (by decide) ?_
        refine lv_icmp_gt (tgt := 86) hx hb dX0_costOf_41 (by decide) (fun c41 => absurd c41 (nI_nlt (b := due + i) (a := 499) (by omega) (by omega))) (fun c41 => ?_)
        refine lv_iconst (v := 0) hx hb dX0_costOf_44 (by decide) ?_
        refine lv_iload hx hb dX0_costOf_45 (lv_at hl 4 rfl) ?_
        refine lv_iload hx hb dX0_costOf_47 (lv_at hl 5 rfl) ?_
        refine lv_aload_n hx hb dX0_costOf_49 rfl (lv_at hl 0 rfl) ?_
        refine lv_iload hx hb dX0_costOf_50 (lv_at hl 7 rfl) ?_
        refine rd_V (As := [.int (nI (due + i))]) (rest := [.int (rowAt Th 4 p), .int (insX Th p), .int 0]) (ci := 0) (kX0_paidAt l D cI cB ac pa dr P R (nI (due + i)) ) ⟨hx, hb, hml, hown, hts⟩ (cwV 1 hts gX0_costOf_X0_paidAt rfl rfl rfl (by decide +kernel) ⟨Nat.le_of_ble_eq_true rfl, Nat.le_of_ble_eq_true rfl⟩) hK hP [0, 1, 2] rfl 0 rfl rfl rfl rfl hl.1 (Nat.le_of_ble_eq_true rfl) dX0_costOf_52 ⟨Nat.le_refl _, Nat.le_refl _⟩ ?_
        rw [show (rowAt P 500 (nI (due + i)) : Int32) = P (due + i) from rowAt_nI (by omega) (by omega)]
        refine lv_isub hx hb dX0_costOf_55 ?_
        refine va_mmin hx hb (hml.trans hl.1.symm) hown (hts (.methodLink RX0 87 Lib.Math.min.name) (List.mem_of_getElem? (i := 3) rfl)) (hts (.static Lib.Math.min.name) (List.mem_of_getElem? (i := 4) rfl)) (hts (.initialized "java/lang/Math") (List.mem_of_getElem? (i := 5) rfl)) (hts (.code Lib.Math.min.name Lib.Math.min.code 2 (some .int)) (List.mem_of_getElem? (i := 6) rfl)) (Nat.le_of_ble_eq_true rfl) (Nat.le_of_ble_eq_true rfl) (Nat.le_refl _) (Nat.le_refl _) dX0_costOf_56 ?_
        rw [show (if ((rowAt Th 4 p) - (P (due + i))) < (insX Th p) then ((rowAt Th 4 p) - (P (due + i))) else (insX Th p) : Int32) = min32 (insX Th p) ((rowAt Th 4 p) - (P (due + i))) from rfl]
        refine va_mmax hx hb (hml.trans hl.1.symm) hown (hts (.methodLink RX0 64 Lib.Math.max.name) (List.mem_of_getElem? (i := 7) rfl)) (hts (.static Lib.Math.max.name) (List.mem_of_getElem? (i := 8) rfl)) (hts (.initialized "java/lang/Math") (List.mem_of_getElem? (i := 5) rfl)) (hts (.code Lib.Math.max.name Lib.Math.max.code 2 (some .int)) (List.mem_of_getElem? (i := 9) rfl)) (Nat.le_of_ble_eq_true rfl) (Nat.le_of_ble_eq_true rfl) (Nat.le_refl _) (Nat.le_refl _) dX0_costOf_59 ?_
        rw [show (if 0 < (min32 (insX Th p) ((rowAt Th 4 p) - (P (due + i)))) then (min32 (insX Th p) ((rowAt Th 4 p) - (P (due + i)))) else 0 : Int32) = max32 0 (min32 (insX Th p) ((rowAt Th 4 p) - (P (due + i)))) from rfl]
        refine lv_i2l (v := (max32 0 (min32 (insX Th p) ((rowAt Th 4 p) - (P (due + i))))).toInt64) hx hb dX0_costOf_62 rfl ?_
        refine lv_lstore (lv' := [(9, .long ((max32 0 (min32 (insX Th p) ((rowAt Th 4 p) - (P (due + i))))).toInt64)), (0, .ref ac), (1, .int p), (2, .ref yr), (3, .ref ak), (4, .int (insX Th p)), (5, .int (rowAt Th 4 p)), (6, .long (csX P R (insX Th p) (rowAt Th 4 p) due i)), (8, .int (nI (due + i)))]) hx hb dX0_costOf_63 hl (by decide) rfl (fun ls hl => ?_)
        refine lv_lload hx hb dX0_costOf_65 (lv_at hl 7 rfl) ?_
        refine lv_lload hx hb dX0_costOf_67 (lv_at hl 0 rfl) ?_
        refine lv_aload_n hx hb dX0_costOf_69 rfl (lv_at hl 1 rfl) ?_
        refine lv_iload hx hb dX0_costOf_70 (lv_at hl 8 rfl) ?_
        refine rd_V (As := [.int (nI (due + i))]) (rest := [.long ((max32 0 (min32 (insX Th p) ((rowAt Th 4 p) - (P (due + i))))).toInt64), .long (csX P R (insX Th p) (rowAt Th 4 p) due i)]) (ci := 0) (kX0_rateAt l D cI cB ac pa dr P R (nI (due + i)) ) ⟨hx, hb, hml, hown, hts⟩ (cwV 1 hts gX0_costOf_X0_rateAt rfl rfl rfl (by decide +kernel) ⟨Nat.le_of_ble_eq_true rfl, Nat.le_of_ble_eq_true rfl⟩) hK hP [0, 1, 2] rfl 0 rfl rfl rfl rfl hl.1 (Nat.le_of_ble_eq_true rfl) dX0_costOf_72 ⟨Nat.le_refl _, Nat.le_refl _⟩ ?_
        rw [show (rowAt R 500 (nI (due + i)) : Int32) = R (due + i) from rowAt_nI (by omega) (by omega)]
        refine lv_i2l (v := (R (due + i)).toInt64) hx hb dX0_costOf_75 rfl ?_
        refine lv_lmul hx hb dX0_costOf_76 ?_
        refine lv_ladd hx hb dX0_costOf_77 ?_
        refine lv_lstore (lv' := [(6, .long ((csX P R (insX Th p) (rowAt Th 4 p) due i) + (((max32 0 (min32 (insX Th p) ((rowAt Th 4 p) - (P (due + i))))).toInt64) * ((R (due + i)).toInt64)))), (9, .long ((max32 0 (min32 (insX Th p) ((rowAt Th 4 p) - (P (due + i))))).toInt64)), (0, .ref ac), (1, .int p), (2, .ref yr), (3, .ref ak), (4, .int (insX Th p)), (5, .int (rowAt Th 4 p)), (8, .int (nI (due + i)))]) hx hb dX0_costOf_78 hl (by decide) rfl (fun ls hl => ?_)
        refine lv_iinc (v := nI ((due + i) + 1)) (lv' := [(8, .int (nI ((due + i) + 1))), (6, .long ((csX P R (insX Th p) (rowAt Th 4 p) due i) + (((max32 0 (min32 (insX Th p) ((rowAt Th 4 p) - (P (due + i))))).toInt64) * ((R (due + i)).toInt64)))), (9, .long ((max32 0 (min32 (insX Th p) ((rowAt Th 4 p) - (P (due + i))))).toInt64)), (0, .ref ac), (1, .int p), (2, .ref yr), (3, .ref ak), (4, .int (insX Th p)), (5, .int (rowAt Th 4 p))]) hx hb dX0_costOf_80 hl (k := 8) rfl (nI_add _ 1) (by decide) rfl (fun ls hl => ?_)
        refine lv_goto (tgt := 27) hx hb dX0_costOf_83 (by decide) ?_
        exact ih27 (i + 1) (Or.inl (by omega)) _ _ (by omega) (rfl) (rfl) ls (lv_sub hl [3, 4, 5, 6, 7, 8, 1, 0] rfl)
  exact L27 (500 - (due + 0) + 1) 0 (Or.inr rfl) _ _ (Nat.lt_succ_self _) (rfl) (rfl) ls (lv_sub hl [4, 5, 6, 7, 3, 2, 1, 0] rfl)

set_option maxHeartbeats 4000000 in
set_option maxRecDepth 100000 in
theorem kX0_costs (l : Launch) (D : va_G) (cI cB : ClassId) (ac pa dr : Nat) (P R : Nat → Int32) (ak la lr lt : Nat) (L K Th : Nat → Int32) (yr : Nat) (Ya Yfa Ysa : Nat → Nat) (Yf Yg : Nat → Nat → Int32) (Yc : Nat → Nat) (Yv : Nat → Int32) (due : Nat → Nat) (ed : Nat) (hc0 : Yc 0 ≤ 4) (hdue : ∀ p, p < 4 → rowAt (Yf 0) (Yc 0) (nI p) = nI (due p) ∧ due p ≤ 499) (hed : Yv 8 = nI ed) (hel : ed ≤ 499) : Rd l D (TY cI cB) yX0_costs wsX0_costs 3 72 [.ref ac, .ref yr, .ref ak] [(ac, .inr (0, [.ref pa, .ref dr])), (pa, .inl (cI, 500, .inl P)), (dr, .inl (cI, 500, .inl R)), (yr, .inr (7, [.ref (Ya 0), .ref (Ya 1), .ref (Ya 2), .ref (Ya 3), .ref (Ya 4), .ref (Ya 5), .int (Yv 6), .int (Yv 7), .int (Yv 8), .int (Yv 9), .int (Yv 10), .int (Yv 11), .int (Yv 12), .int (Yv 13)])), (Ya 0, .inr (5, [.ref (Yfa 0), .ref (Ysa 0), .int (nI (Yc 0))])), (Yfa 0, .inl (cI, 4, .inl (Yf 0))), (Ysa 0, .inl (cI, 4, .inl (Yg 0))), (ak, .inr (1, [.ref la, .ref lr, .ref lt])), (la, .inl (cI, 4, .inl L)), (lr, .inl (cI, 4, .inl K)), (lt, .inl (cI, 4, .inl Th))] (cssX P R Th due ed 4) := by
  refine rd_i (cc := cX0_costs) (maxL := 5) (by decide) rfl (Nat.le_of_ble_eq_true rfl) ?_
  intro p_ e_ s_ m_ ar_ be_ me_ co_ ls Q_ hx hb hml hown hts hP hK hl hret
  have hown : s_.vm.findClass RX0 = some m_.cls := hown
  have hl : lv_has ls 5 [(0, .ref ac), (1, .ref yr), (2, .ref ak)] := hl
  refine lv_iconst (v := 0) hx hb dX0_costs_0 (by decide) ?_
  refine lv_istore_n (lv' := [(3, .int 0), (0, .ref ac), (1, .ref yr), (2, .ref ak)]) hx hb dX0_costs_1 rfl hl (by decide) rfl (fun ls hl => ?_)
  refine lv_iconst (v := 0) hx hb dX0_costs_2 (by decide) ?_
  refine lv_istore (lv' := [(4, .int 0), (3, .int 0), (0, .ref ac), (1, .ref yr), (2, .ref ak)]) hx hb dX0_costs_3 hl (by decide) rfl (fun ls hl => ?_)
  have L5 : ∀ (nn_ : Nat) (i : Nat) (hi : i ≤ 4) (xx_v3 : Int32) (xx_v4 : Int32), (4 - i) < nn_ → xx_v3 = cssX P R Th due ed i → xx_v4 = nI i → ∀ (ls : Array Slot), lv_has ls 5 [(0, .ref ac), (1, .ref yr), (2, .ref ak), (3, .int xx_v3), (4, .int xx_v4)] → W p_ l e_ (RM 3 72) s_ m_ ar_ be_ me_ co_ s_.heap [] 0 0 Q_ (F0 m_ 5 ls []) := by
    intro nn_
    induction nn_ with
    | zero => intro i hi xx_v3 xx_v4 hn_; exact absurd hn_ (Nat.not_lt_zero _)
    | succ nn_ ih5 =>
      intro i hi xx_v3 xx_v4 hn_ e_xx_v3 e_xx_v4 ls hl
      subst e_xx_v3 e_xx_v4
      refine lv_iload hx hb dX0_costs_5 (lv_at hl 4 rfl) ?_
      refine lv_iconst (v := 4) hx hb dX0_costs_7 (by decide) ?_
      refine lv_icmp_ge (tgt := 28) hx hb dX0_costs_8 (by decide) (fun c8 => ?_) (fun c8 => ?_)
      · refine lv_iload_n hx hb dX0_costs_28 rfl (lv_at hl 3 rfl) ?_
        exact hret _ _ ls (by have q := ge_nI (b := 4) c8 (by omega) (by omega); rw [show i = 4 by omega]) dX0_costs_29
      · have hlt : i < 4 := lt_nI (b := 4) c8 (by omega) (by omega)
        refine lv_iload_n hx hb dX0_costs_11 rfl (lv_at hl 3 rfl) ?_
        refine lv_aload_n hx hb dX0_costs_12 rfl (lv_at hl 0 rfl) ?_
        refine lv_iload hx hb dX0_costs_13 (lv_at hl 4 rfl) ?_
        refine lv_aload_n hx hb dX0_costs_15 rfl (lv_at hl 1 rfl) ?_
        refine lv_aload_n hx hb dX0_costs_16 rfl (lv_at hl 2 rfl) ?_
        refine rd_V (As := [.int (nI i), .ref yr, .ref ak]) (rest := [.int (cssX P R Th due ed i)]) (ci := 0) (kX0_costOf l D cI cB ac pa dr P R ak la lr lt L K Th yr Ya Yfa Ysa Yf Yg Yc Yv (due i) ed (nI i) (by omega) ((hdue i hlt).1) ((hdue i hlt).2) (hed) (hel)) ⟨hx, hb, hml, hown, hts⟩ (cwV 3 hts gX0_costs_X0_costOf rfl rfl rfl (by decide +kernel) ⟨Nat.le_of_ble_eq_true rfl, Nat.le_of_ble_eq_true rfl⟩) hK hP [0, 1, 2, 3, 4, 5, 6, 7, 8, 9, 10] rfl 0 rfl rfl rfl rfl hl.1 (Nat.le_of_ble_eq_true rfl) dX0_costs_17 ⟨Nat.le_refl _, Nat.le_refl _⟩ ?_
        refine lv_iadd hx hb dX0_costs_20 ?_
        refine lv_istore_n (lv' := [(3, .int ((cssX P R Th due ed i) + (coX P R Th (due i) ed (nI i)))), (0, .ref ac), (1, .ref yr), (2, .ref ak), (4, .int (nI i))]) hx hb dX0_costs_21 rfl hl (by decide) rfl (fun ls hl => ?_)
        refine lv_iinc (v := nI (i + 1)) (lv' := [(4, .int (nI (i + 1))), (3, .int ((cssX P R Th due ed i) + (coX P R Th (due i) ed (nI i)))), (0, .ref ac), (1, .ref yr), (2, .ref ak)]) hx hb dX0_costs_22 hl (k := 4) rfl (nI_add _ 1) (by decide) rfl (fun ls hl => ?_)
        refine lv_goto (tgt := 5) hx hb dX0_costs_25 (by decide) ?_
        exact ih5 (i + 1) (by omega) _ _ (by omega) (rfl) (rfl) ls (lv_sub hl [2, 3, 4, 1, 0] rfl)
  exact L5 (4 - 0 + 1) 0 (by omega) _ _ (Nat.lt_succ_self _) (rfl) (nI_0.symm) ls (lv_sub hl [2, 3, 4, 1, 0] rfl)

