def ovM (T : Nat → Int32) (n : Nat) (S : MSt) : Int32 × MSt :=
  if (toldM T n (goM T n S) 22 0 99).1 = 0 then (0, (toldM T n (goM T n S) 22 0 99).2) else (1, setR (toldM T n (goM T n S) 22 0 99).2 22 ((toldM T n (goM T n S) 22 0 99).2.2.2.2.2.2.2.2 22 + 1))
def otM (T : Nat → Int32) (n : Nat) (S : MSt) (s0 r0 e0 p0 : Nat) : Int32 × MSt :=
  if isM S.2.2.1 S.2.2.2.2.2.2.1 117 112 116 111 0 0 = 0 then
    (if isM S.2.2.1 S.2.2.2.2.2.2.1 114 97 116 101 0 0 = 0 then
      (if isM S.2.2.1 S.2.2.2.2.2.2.1 105 110 99 111 109 101 = 0 then
        (if isM S.2.2.1 S.2.2.2.2.2.2.1 112 97 121 0 0 0 = 0 then
          (if isM S.2.2.1 S.2.2.2.2.2.2.1 111 118 101 114 0 0 = 0 then (0, badM S 1) else if S.2.2.2.2.2.2.2 22 ≤ 0 then ovM T n S else (0, badM S 3))
        else two2M T n S 117 p0 20 0 499 1 99999)
      else two2M T n S 36 e0 20 0 364 1 99999)
    else two2M T n S 23 r0 6 (if nI r0 = 0 then 0 else S.2.2.2.2.2.2.2 (22 + 2 * r0) + 1) 499 0 99)
  else two2M T n S 13 s0 4 (if nI s0 = 0 then 1 else S.2.2.2.2.2.2.2 (12 + 2 * s0) + 1) 99999 0 99
theorem ixs (a s : Nat) : nI (a + 2) + 2 * nI s - 2 = nI (a + 2 * s) := by
  rw [← nI_add a 2, ← nI_add a (2 * s), ← pk_mul 2 s]
  show nI a + 2 + 2 * nI s - 2 = nI a + 2 * nI s
  grind
theorem two2M_b (T : Nat → Int32) (n : Nat) (S : MSt) (C c0 : Nat) (m a b c d : Int32) : b01 (two2M T n S C c0 m a b c d).1 := by
  unfold two2M
  by_cases h : S.2.2.2.2.2.2.2 C = m
  · rw [if_pos h]; exact Or.inl rfl
  · rw [if_neg h]
    by_cases h2 : (twM T n (goM T n S) (C + 1 + 2 * c0) a b (C + 1 + 2 * c0 + 1) c d).1 = 0
    · rw [if_pos h2]; exact Or.inl rfl
    · rw [if_neg h2]; exact Or.inr rfl
theorem twM_b (T : Nat → Int32) (n : Nat) (S : MSt) (A B : Nat) (a b c d : Int32) : b01 (twM T n S A a b B c d).1 := by
  by_cases h1 : (toldM T n S A a b).1 = 0
  · rw [twM_1 h1]; exact Or.inl rfl
  · by_cases h2 : (toldM T n (toldM T n S A a b).2 B c d).1 = 0
    · rw [twM_2 h1 h2]; exact Or.inl rfl
    · rw [twM_3 h1 h2]; exact Or.inr rfl
theorem yM_b (T : Nat → Int32) (n : Nat) (S : MSt) : b01 (yM T n S).1 := by
  unfold yM; split
  · exact Or.inl rfl
  · split
    · exact Or.inl rfl
    · split
      · exact Or.inl rfl
      · split
        · exact Or.inl rfl
        · exact Or.inr rfl
theorem perM_b (T : Nat → Int32) (n : Nat) (S : MSt) (p : Nat) : b01 (perM T n S p).1 := by
  unfold perM; split
  · exact Or.inl rfl
  · exact twM_b _ _ _ _ _ _ _ _ _
theorem shM_b (T : Nat → Int32) (n : Nat) (S : MSt) : b01 (shM T n S).1 := by
  unfold shM; split
  · exact Or.inl rfl
  · exact twM_b _ _ _ _ _ _ _ _ _
theorem otM_b (T : Nat → Int32) (n : Nat) (S : MSt) (s0 r0 e0 p0 : Nat) : b01 (otM T n S s0 r0 e0 p0).1 := by
  unfold otM; split
  · split
    · split
      · split
        · split
          · exact Or.inl rfl
          · split
            · unfold ovM; split
              · exact Or.inl rfl
              · exact Or.inr rfl
            · exact Or.inl rfl
        · exact two2M_b _ _ _ _ _ _ _ _ _ _
      · exact two2M_b _ _ _ _ _ _ _ _ _ _
    · exact two2M_b _ _ _ _ _ _ _ _ _ _
  · exact two2M_b _ _ _ _ _ _ _ _ _ _
theorem in_X9_readOther_9 : ∀ w ∈ wsX90, w ∈ wsX9_readOther := fun _ h => List.mem_cons_of_mem _ (List.mem_append_right _ (h))
set_option maxHeartbeats 4000000 in
set_option maxRecDepth 100000 in
theorem kX9_readOther (l : Launch) (D : va_G) (cI cB : ClassId) (mo q1 q2 q3 q4 q5 q6 q7 q8 : Nat) (th tn : Int32) (sm rm : Int32) (Tp Nw Sn In Pd Rt Rw : Nat → Int32) (n : Nat) (S : MSt) (s0 r0 e0 p0 : Nat) (hn : n ≤ 840) (hSn : S.1 ≤ n) (hs0 : S.2.2.2.2.2.2.2 13 = nI s0) (hs1 : s0 ≤ 4) (hr0 : S.2.2.2.2.2.2.2 23 = nI r0) (hr1 : r0 ≤ 6) (he0 : S.2.2.2.2.2.2.2 36 = nI e0) (he1 : e0 ≤ 20) (hp0 : S.2.2.2.2.2.2.2 117 = nI p0) (hp1 : p0 ≤ 20) : Wr l D (TY cI cB) yX9_readOther wsX9_readOther 4 95 [.ref mo] [(mo, .inr (9, [.int th, .ref q1, .int tn, .int (nI n), .int (nI S.1), .int (nI S.2.1), .int S.2.2.1, .int S.2.2.2.1, .int S.2.2.2.2.1, .int S.2.2.2.2.2.1, .long S.2.2.2.2.2.2.1, .ref q2, .ref q3, .ref q4, .int sm, .ref q5, .ref q6, .ref q7, .ref q8, .int rm])), (q1, .inl (cI, 840, .inl Tp)), (q2, .inl (cI, 240, .inl Nw)), (q3, .inl (cI, 240, .inl S.2.2.2.2.2.2.2)), (q4, .inl (cI, 2880, .inl Sn)), (q5, .inl (cI, 4, .inl In)), (q6, .inl (cI, 500, .inl Pd)), (q7, .inl (cI, 500, .inl Rt)), (q8, .inl (cI, 10000, .inl Rw))] [(mo, .inr (9, [.int th, .ref q1, .int tn, .int (nI n), .int (nI (otM Tp n S s0 r0 e0 p0).2.1), .int (nI (otM Tp n S s0 r0 e0 p0).2.2.1), .int (otM Tp n S s0 r0 e0 p0).2.2.2.1, .int (otM Tp n S s0 r0 e0 p0).2.2.2.2.1, .int (otM Tp n S s0 r0 e0 p0).2.2.2.2.2.1, .int (otM Tp n S s0 r0 e0 p0).2.2.2.2.2.2.1, .long (otM Tp n S s0 r0 e0 p0).2.2.2.2.2.2.2.1, .ref q2, .ref q3, .ref q4, .int sm, .ref q5, .ref q6, .ref q7, .ref q8, .int rm])), (q1, .inl (cI, 840, .inl Tp)), (q2, .inl (cI, 240, .inl Nw)), (q3, .inl (cI, 240, .inl (otM Tp n S s0 r0 e0 p0).2.2.2.2.2.2.2.2)), (q4, .inl (cI, 2880, .inl Sn)), (q5, .inl (cI, 4, .inl In)), (q6, .inl (cI, 500, .inl Pd)), (q7, .inl (cI, 500, .inl Rt)), (q8, .inl (cI, 10000, .inl Rw))] (some (.int (otM Tp n S s0 r0 e0 p0).1)) := by
  refine wr_z (cc := cX9_readOther) (maxL := 3) (by decide) rfl (Nat.le_of_ble_eq_true rfl) ?_
  intro p_ e_ s_ m_ ar_ be_ me_ co_ ls Q_ A_ hx hb hml hown hts hP hK hD hS hl hret
  have hown : s_.vm.findClass RX9 = some m_.cls := hown
  have hl : lv_has ls 3 [(0, .ref mo)] := hl
  refine lv_aload_n hx hb dX9_readOther_0 rfl (lv_at hl 0 rfl) ?_
  refine g_get (C := RX9) (T := TX9) (N := 20) (ci := 9) (index := 67) hx hb hts in_X9_readOther_9 hown hK hP 0 12 rfl rfl (by decide) (List.mem_of_getElem? (i := 1) rfl) rfl dX9_readOther_1 ?_
  refine lv_bipush (v := 13) hx hb dX9_readOther_4 (by decide) ?_
  refine g_iald hx hb hK hP 3 0 rfl rfl 13 (rfl) (by omega) (by omega) dX9_readOther_6 ?_
  rw [show (S.2.2.2.2.2.2.2 13 : Int32) = nI s0 from hs0]
  refine lv_istore_n (lv' := [(1, .int (nI s0)), (0, .ref mo)]) hx hb dX9_readOther_7 rfl hl (by decide) rfl (fun ls hl => ?_)
  refine lv_aload_n hx hb dX9_readOther_8 rfl (lv_at hl 1 rfl) ?_
  refine g_get (C := RX9) (T := TX9) (N := 20) (ci := 9) (index := 67) hx hb hts in_X9_readOther_9 hown hK hP 0 12 rfl rfl (by decide) (List.mem_of_getElem? (i := 1) rfl) rfl dX9_readOther_9 ?_
  refine lv_bipush (v := 23) hx hb dX9_readOther_12 (by decide) ?_
  refine g_iald hx hb hK hP 3 0 rfl rfl 23 (rfl) (by omega) (by omega) dX9_readOther_14 ?_
  rw [show (S.2.2.2.2.2.2.2 23 : Int32) = nI r0 from hr0]
  refine lv_istore_n (lv' := [(2, .int (nI r0)), (1, .int (nI s0)), (0, .ref mo)]) hx hb dX9_readOther_15 rfl hl (by decide) rfl (fun ls hl => ?_)
  refine lv_aload_n hx hb dX9_readOther_16 rfl (lv_at hl 2 rfl) ?_
  refine lv_bipush (v := 117) hx hb dX9_readOther_17 (by decide) ?_
  refine lv_bipush (v := 112) hx hb dX9_readOther_19 (by decide) ?_
  refine lv_bipush (v := 116) hx hb dX9_readOther_21 (by decide) ?_
  refine lv_bipush (v := 111) hx hb dX9_readOther_23 (by decide) ?_
  refine lv_iconst (v := 0) hx hb dX9_readOther_25 (by decide) ?_
  refine lv_iconst (v := 0) hx hb dX9_readOther_26 (by decide) ?_
  refine rd_V (As := [.int 117, .int 112, .int 116, .int 111, .int 0, .int 0]) (rest := []) (ci := 9) (kX9_is l D cI cB mo q1 q2 q3 q4 q5 q6 q7 q8 th tn sm rm Tp Nw Sn In Pd Rt Rw n S 117 112 116 111 0 0 ) ⟨hx, hb, hml, hown, hts⟩ (cwV 6 hts gX9_readOther_X9_is rfl rfl rfl (by decide +kernel) ⟨Nat.le_of_ble_eq_true rfl, Nat.le_of_ble_eq_true rfl⟩) hK hP [0, 1, 2, 3, 4, 5, 6, 7, 8] rfl 0 rfl rfl rfl rfl hl.1 (Nat.le_of_ble_eq_true rfl) dX9_readOther_27 ⟨Nat.le_refl _, Nat.le_refl _⟩ ?_
  refine lv_if_eq (tgt := 69) hx hb dX9_readOther_30 (by decide) (fun c30 => ?_) (fun c30 => ?_)
  · refine lv_aload_n hx hb dX9_readOther_69 rfl (lv_at hl 2 rfl) ?_
    refine lv_bipush (v := 114) hx hb dX9_readOther_70 (by decide) ?_
    refine lv_bipush (v := 97) hx hb dX9_readOther_72 (by decide) ?_
    refine lv_bipush (v := 116) hx hb dX9_readOther_74 (by decide) ?_
    refine lv_bipush (v := 101) hx hb dX9_readOther_76 (by decide) ?_
    refine lv_iconst (v := 0) hx hb dX9_readOther_78 (by decide) ?_
    refine lv_iconst (v := 0) hx hb dX9_readOther_79 (by decide) ?_
    refine rd_V (As := [.int 114, .int 97, .int 116, .int 101, .int 0, .int 0]) (rest := []) (ci := 9) (kX9_is l D cI cB mo q1 q2 q3 q4 q5 q6 q7 q8 th tn sm rm Tp Nw Sn In Pd Rt Rw n S 114 97 116 101 0 0 ) ⟨hx, hb, hml, hown, hts⟩ (cwV 6 hts gX9_readOther_X9_is rfl rfl rfl (by decide +kernel) ⟨Nat.le_of_ble_eq_true rfl, Nat.le_of_ble_eq_true rfl⟩) hK hP [0, 1, 2, 3, 4, 5, 6, 7, 8] rfl 0 rfl rfl rfl rfl hl.1 (Nat.le_of_ble_eq_true rfl) dX9_readOther_80 ⟨Nat.le_refl _, Nat.le_refl _⟩ ?_
    refine lv_if_eq (tgt := 124) hx hb dX9_readOther_83 (by decide) (fun c83 => ?_) (fun c83 => ?_)
    · refine lv_aload_n hx hb dX9_readOther_124 rfl (lv_at hl 2 rfl) ?_
      refine lv_bipush (v := 105) hx hb dX9_readOther_125 (by decide) ?_
      refine lv_bipush (v := 110) hx hb dX9_readOther_127 (by decide) ?_
      refine lv_bipush (v := 99) hx hb dX9_readOther_129 (by decide) ?_
      refine lv_bipush (v := 111) hx hb dX9_readOther_131 (by decide) ?_
      refine lv_bipush (v := 109) hx hb dX9_readOther_133 (by decide) ?_
      refine lv_bipush (v := 101) hx hb dX9_readOther_135 (by decide) ?_
      refine rd_V (As := [.int 105, .int 110, .int 99, .int 111, .int 109, .int 101]) (rest := []) (ci := 9) (kX9_is l D cI cB mo q1 q2 q3 q4 q5 q6 q7 q8 th tn sm rm Tp Nw Sn In Pd Rt Rw n S 105 110 99 111 109 101 ) ⟨hx, hb, hml, hown, hts⟩ (cwV 6 hts gX9_readOther_X9_is rfl rfl rfl (by decide +kernel) ⟨Nat.le_of_ble_eq_true rfl, Nat.le_of_ble_eq_true rfl⟩) hK hP [0, 1, 2, 3, 4, 5, 6, 7, 8] rfl 0 rfl rfl rfl rfl hl.1 (Nat.le_of_ble_eq_true rfl) dX9_readOther_137 ⟨Nat.le_refl _, Nat.le_refl _⟩ ?_
      refine lv_if_eq (tgt := 159) hx hb dX9_readOther_140 (by decide) (fun c140 => ?_) (fun c140 => ?_)
      · refine lv_aload_n hx hb dX9_readOther_159 rfl (lv_at hl 2 rfl) ?_
        refine lv_bipush (v := 112) hx hb dX9_readOther_160 (by decide) ?_
        refine lv_bipush (v := 97) hx hb dX9_readOther_162 (by decide) ?_
        refine lv_bipush (v := 121) hx hb dX9_readOther_164 (by decide) ?_
        refine lv_iconst (v := 0) hx hb dX9_readOther_166 (by decide) ?_
        refine lv_iconst (v := 0) hx hb dX9_readOther_167 (by decide) ?_
        refine lv_iconst (v := 0) hx hb dX9_readOther_168 (by decide) ?_
        refine rd_V (As := [.int 112, .int 97, .int 121, .int 0, .int 0, .int 0]) (rest := []) (ci := 9) (kX9_is l D cI cB mo q1 q2 q3 q4 q5 q6 q7 q8 th tn sm rm Tp Nw Sn In Pd Rt Rw n S 112 97 121 0 0 0 ) ⟨hx, hb, hml, hown, hts⟩ (cwV 6 hts gX9_readOther_X9_is rfl rfl rfl (by decide +kernel) ⟨Nat.le_of_ble_eq_true rfl, Nat.le_of_ble_eq_true rfl⟩) hK hP [0, 1, 2, 3, 4, 5, 6, 7, 8] rfl 0 rfl rfl rfl rfl hl.1 (Nat.le_of_ble_eq_true rfl) dX9_readOther_169 ⟨Nat.le_refl _, Nat.le_refl _⟩ ?_
        refine lv_if_eq (tgt := 191) hx hb dX9_readOther_172 (by decide) (fun c172 => ?_) (fun c172 => ?_)
        · refine lv_aload_n hx hb dX9_readOther_191 rfl (lv_at hl 2 rfl) ?_
          refine lv_bipush (v := 111) hx hb dX9_readOther_192 (by decide) ?_
          refine lv_bipush (v := 118) hx hb dX9_readOther_194 (by decide) ?_
          refine lv_bipush (v := 101) hx hb dX9_readOther_196 (by decide) ?_
          refine lv_bipush (v := 114) hx hb dX9_readOther_198 (by decide) ?_
          refine lv_iconst (v := 0) hx hb dX9_readOther_200 (by decide) ?_
          refine lv_iconst (v := 0) hx hb dX9_readOther_201 (by decide) ?_
          refine rd_V (As := [.int 111, .int 118, .int 101, .int 114, .int 0, .int 0]) (rest := []) (ci := 9) (kX9_is l D cI cB mo q1 q2 q3 q4 q5 q6 q7 q8 th tn sm rm Tp Nw Sn In Pd Rt Rw n S 111 118 101 114 0 0 ) ⟨hx, hb, hml, hown, hts⟩ (cwV 6 hts gX9_readOther_X9_is rfl rfl rfl (by decide +kernel) ⟨Nat.le_of_ble_eq_true rfl, Nat.le_of_ble_eq_true rfl⟩) hK hP [0, 1, 2, 3, 4, 5, 6, 7, 8] rfl 0 rfl rfl rfl rfl hl.1 (Nat.le_of_ble_eq_true rfl) dX9_readOther_202 ⟨Nat.le_refl _, Nat.le_refl _⟩ ?_
          refine lv_if_ne (tgt := 214) hx hb dX9_readOther_205 (by decide) (fun c205 => ?_) (fun c205 => ?_)
          · refine lv_aload_n hx hb dX9_readOther_214 rfl (lv_at hl 2 rfl) ?_
            refine g_get (C := RX9) (T := TX9) (N := 20) (ci := 9) (index := 67) hx hb hts in_X9_readOther_9 hown hK hP 0 12 rfl rfl (by decide) (List.mem_of_getElem? (i := 1) rfl) rfl dX9_readOther_215 ?_
            refine lv_bipush (v := 22) hx hb dX9_readOther_218 (by decide) ?_
            refine g_iald hx hb hK hP 3 0 rfl rfl 22 (rfl) (by omega) (by omega) dX9_readOther_220 ?_
            refine lv_if_le (tgt := 230) hx hb dX9_readOther_221 (by decide) (fun c221 => ?_) (fun c221 => ?_)
            · refine lv_aload_n hx hb dX9_readOther_230 rfl (lv_at hl 2 rfl) ?_
              refine wp_V (As := []) (rest := []) (ci := 9) (ws' := [(mo, .inr (9, [.int th, .ref q1, .int tn, .int (nI n), .int (nI (goM Tp n S).1), .int (nI (goM Tp n S).2.1), .int (goM Tp n S).2.2.1, .int (goM Tp n S).2.2.2.1, .int (goM Tp n S).2.2.2.2.1, .int (goM Tp n S).2.2.2.2.2.1, .long (goM Tp n S).2.2.2.2.2.2.1, .ref q2, .ref q3, .ref q4, .int sm, .ref q5, .ref q6, .ref q7, .ref q8, .int rm])), (q1, .inl (cI, 840, .inl Tp)), (q2, .inl (cI, 240, .inl Nw)), (q3, .inl (cI, 240, .inl (goM Tp n S).2.2.2.2.2.2.2)), (q4, .inl (cI, 2880, .inl Sn)), (q5, .inl (cI, 4, .inl In)), (q6, .inl (cI, 500, .inl Pd)), (q7, .inl (cI, 500, .inl Rt)), (q8, .inl (cI, 10000, .inl Rw))]) (kX9_go l D cI cB mo q1 q2 q3 q4 q5 q6 q7 q8 th tn sm rm Tp Nw Sn In Pd Rt Rw n S (by first | assumption | exact goM_le hSn | exact toldM_le (goM_le hSn) | exact toldM_le (toldM_le (goM_le hSn)) | omega) (by first | assumption | exact goM_le hSn | exact toldM_le (goM_le hSn) | exact toldM_le (toldM_le (goM_le hSn)) | omega)) ⟨hx, hb, hml, hown, hts⟩ (cwV 0 hts gX9_readOther_X9_go rfl rfl rfl (by decide +kernel) ⟨Nat.le_of_ble_eq_true rfl, Nat.le_of_ble_eq_true rfl⟩) hK hP hD hS [0, 1, 2, 3, 4, 5, 6, 7, 8] [] rfl rfl (two_eq [] rfl rfl) 9 rfl (by decide +kernel) (by decide +kernel) (two_eq [mo, q1, q2, q3, q4, q5, q6, q7, q8] rfl rfl) (by decide +kernel) 0 rfl rfl rfl rfl hl.1 (Nat.le_of_ble_eq_true rfl) dX9_readOther_231 ⟨Nat.le_refl _, Nat.le_refl _⟩ (fun H_ lc_ hP hD hS => ?_)
              show W p_ l e_ (RM 4 95) s_ m_ ar_ be_ me_ co_ H_ lc_ 0 0 Q_ (F0 m_ 234 ls [])
              refine lv_aload_n hx hb dX9_readOther_234 rfl (lv_at hl 2 rfl) ?_
              refine lv_bipush (v := 22) hx hb dX9_readOther_235 (by decide) ?_
              refine lv_iconst (v := 0) hx hb dX9_readOther_237 (by decide) ?_
              refine lv_bipush (v := 99) hx hb dX9_readOther_238 (by decide) ?_
              refine wp_V (As := [.int 22, .int 0, .int 99]) (rest := []) (ci := 9) (ws' := [(mo, .inr (9, [.int th, .ref q1, .int tn, .int (nI n), .int (nI (toldM Tp n (goM Tp n S) 22 0 99).2.1), .int (nI (toldM Tp n (goM Tp n S) 22 0 99).2.2.1), .int (toldM Tp n (goM Tp n S) 22 0 99).2.2.2.1, .int (toldM Tp n (goM Tp n S) 22 0 99).2.2.2.2.1, .int (toldM Tp n (goM Tp n S) 22 0 99).2.2.2.2.2.1, .int (toldM Tp n (goM Tp n S) 22 0 99).2.2.2.2.2.2.1, .long (toldM Tp n (goM Tp n S) 22 0 99).2.2.2.2.2.2.2.1, .ref q2, .ref q3, .ref q4, .int sm, .ref q5, .ref q6, .ref q7, .ref q8, .int rm])), (q1, .inl (cI, 840, .inl Tp)), (q2, .inl (cI, 240, .inl Nw)), (q3, .inl (cI, 240, .inl (toldM Tp n (goM Tp n S) 22 0 99).2.2.2.2.2.2.2.2)), (q4, .inl (cI, 2880, .inl Sn)), (q5, .inl (cI, 4, .inl In)), (q6, .inl (cI, 500, .inl Pd)), (q7, .inl (cI, 500, .inl Rt)), (q8, .inl (cI, 10000, .inl Rw))]) (kX9_told l D cI cB mo q1 q2 q3 q4 q5 q6 q7 q8 th tn sm rm Tp Nw Sn In Pd Rt Rw n (goM Tp n S) 22 0 99 (by first | assumption | exact goM_le hSn | exact toldM_le (goM_le hSn) | exact toldM_le (toldM_le (goM_le hSn)) | omega) (by first | assumption | exact goM_le hSn | exact toldM_le (goM_le hSn) | exact toldM_le (toldM_le (goM_le hSn)) | omega) (by first | assumption | exact goM_le hSn | exact toldM_le (goM_le hSn) | exact toldM_le (toldM_le (goM_le hSn)) | omega)) ⟨hx, hb, hml, hown, hts⟩ (cwV 3 hts gX9_readOther_X9_told rfl rfl rfl (by decide +kernel) ⟨Nat.le_of_ble_eq_true rfl, Nat.le_of_ble_eq_true rfl⟩) hK hP hD hS [0, 1, 2, 3, 4, 5, 6, 7, 8] [] rfl rfl (two_eq [] rfl rfl) 9 rfl (by decide +kernel) (by decide +kernel) (two_eq [mo, q1, q2, q3, q4, q5, q6, q7, q8] rfl rfl) (by decide +kernel) 0 rfl rfl rfl rfl hl.1 (Nat.le_of_ble_eq_true rfl) dX9_readOther_240 ⟨Nat.le_refl _, Nat.le_refl _⟩ (fun H_ lc_ hP hD hS => ?_)
              show W p_ l e_ (RM 4 95) s_ m_ ar_ be_ me_ co_ H_ lc_ 0 0 Q_ (F0 m_ 243 ls [.int (toldM Tp n (goM Tp n S) 22 0 99).1])
              refine lv_if_ne (tgt := 248) hx hb dX9_readOther_243 (by decide) (fun c243 => ?_) (fun c243 => ?_)
              · refine lv_aload_n hx hb dX9_readOther_248 rfl (lv_at hl 2 rfl) ?_
                refine g_get (C := RX9) (T := TX9) (N := 20) (ci := 9) (index := 67) hx hb hts in_X9_readOther_9 hown hK hP 0 12 rfl rfl (by decide) (List.mem_of_getElem? (i := 1) rfl) rfl dX9_readOther_249 ?_
                refine lv_bipush (v := 22) hx hb dX9_readOther_252 (by decide) ?_
                refine lv_dup2_11 hx hb dX9_readOther_254 rfl rfl ?_
                refine g_iald hx hb hK hP 3 0 rfl rfl 22 (rfl) (by omega) (by omega) dX9_readOther_255 ?_
                refine lv_iconst (v := 1) hx hb dX9_readOther_256 (by decide) ?_
                refine lv_iadd hx hb dX9_readOther_257 ?_
                refine g_iast hx hb hK hP hD hS 3 0 rfl rfl 22 (rfl) (by omega) (by omega) dX9_readOther_258 (fun H_ lc_ hP hD hS => ?_)
                have hP : va_P D vwCl [(mo, .inr (9, [.int th, .ref q1, .int tn, .int (nI n), .int (nI (toldM Tp n (goM Tp n S) 22 0 99).2.1), .int (nI (toldM Tp n (goM Tp n S) 22 0 99).2.2.1), .int (toldM Tp n (goM Tp n S) 22 0 99).2.2.2.1, .int (toldM Tp n (goM Tp n S) 22 0 99).2.2.2.2.1, .int (toldM Tp n (goM Tp n S) 22 0 99).2.2.2.2.2.1, .int (toldM Tp n (goM Tp n S) 22 0 99).2.2.2.2.2.2.1, .long (toldM Tp n (goM Tp n S) 22 0 99).2.2.2.2.2.2.2.1, .ref q2, .ref q3, .ref q4, .int sm, .ref q5, .ref q6, .ref q7, .ref q8, .int rm])), (q1, .inl (cI, 840, .inl Tp)), (q2, .inl (cI, 240, .inl Nw)), (q3, .inl (cI, 240, .inl (upd (toldM Tp n (goM Tp n S) 22 0 99).2.2.2.2.2.2.2.2 22 (((toldM Tp n (goM Tp n S) 22 0 99).2.2.2.2.2.2.2.2 22) + 1)))), (q4, .inl (cI, 2880, .inl Sn)), (q5, .inl (cI, 4, .inl In)), (q6, .inl (cI, 500, .inl Pd)), (q7, .inl (cI, 500, .inl Rt)), (q8, .inl (cI, 10000, .inl Rw))] H_ := hP
                have hD : va_D A_ [(mo, .inr (9, [.int th, .ref q1, .int tn, .int (nI n), .int (nI (toldM Tp n (goM Tp n S) 22 0 99).2.1), .int (nI (toldM Tp n (goM Tp n S) 22 0 99).2.2.1), .int (toldM Tp n (goM Tp n S) 22 0 99).2.2.2.1, .int (toldM Tp n (goM Tp n S) 22 0 99).2.2.2.2.1, .int (toldM Tp n (goM Tp n S) 22 0 99).2.2.2.2.2.1, .int (toldM Tp n (goM Tp n S) 22 0 99).2.2.2.2.2.2.1, .long (toldM Tp n (goM Tp n S) 22 0 99).2.2.2.2.2.2.2.1, .ref q2, .ref q3, .ref q4, .int sm, .ref q5, .ref q6, .ref q7, .ref q8, .int rm])), (q1, .inl (cI, 840, .inl Tp)), (q2, .inl (cI, 240, .inl Nw)), (q3, .inl (cI, 240, .inl (upd (toldM Tp n (goM Tp n S) 22 0 99).2.2.2.2.2.2.2.2 22 (((toldM Tp n (goM Tp n S) 22 0 99).2.2.2.2.2.2.2.2 22) + 1)))), (q4, .inl (cI, 2880, .inl Sn)), (q5, .inl (cI, 4, .inl In)), (q6, .inl (cI, 500, .inl Pd)), (q7, .inl (cI, 500, .inl Rt)), (q8, .inl (cI, 10000, .inl Rw))] := hD
                refine lv_iconst (v := 1) hx hb dX9_readOther_259 (by decide) ?_
                exact hret _ _ _ _ ls hS (by unfold otM; rw [if_pos c30, if_pos c83, if_pos c140, if_pos c172, if_neg c205, if_pos c221]; unfold ovM; rw [if_neg c243]; exact hP) (by unfold otM; rw [if_pos c30, if_pos c83, if_pos c140, if_pos c172, if_neg c205, if_pos c221]; unfold ovM; rw [if_neg c243]) (by decide) dX9_readOther_260
              · refine lv_iconst (v := 0) hx hb dX9_readOther_246 (by decide) ?_
                exact hret _ _ _ _ ls hS (by unfold otM; rw [if_pos c30, if_pos c83, if_pos c140, if_pos c172, if_neg c205, if_pos c221]; unfold ovM; rw [if_pos c243]; exact hP) (by unfold otM; rw [if_pos c30, if_pos c83, if_pos c140, if_pos c172, if_neg c205, if_pos c221]; unfold ovM; rw [if_pos c243]) (by decide) dX9_readOther_247
            · refine lv_aload_n hx hb dX9_readOther_224 rfl (lv_at hl 2 rfl) ?_
              refine lv_iconst (v := 3) hx hb dX9_readOther_225 (by decide) ?_
              refine wp_V (As := [.int 3]) (rest := []) (ci := 9) (ws' := [(mo, .inr (9, [.int th, .ref q1, .int tn, .int (nI n), .int (nI (badM S 3).1), .int (nI (badM S 3).2.1), .int (badM S 3).2.2.1, .int (badM S 3).2.2.2.1, .int (badM S 3).2.2.2.2.1, .int (badM S 3).2.2.2.2.2.1, .long (badM S 3).2.2.2.2.2.2.1, .ref q2, .ref q3, .ref q4, .int sm, .ref q5, .ref q6, .ref q7, .ref q8, .int rm])), (q1, .inl (cI, 840, .inl Tp)), (q2, .inl (cI, 240, .inl Nw)), (q3, .inl (cI, 240, .inl (badM S 3).2.2.2.2.2.2.2)), (q4, .inl (cI, 2880, .inl Sn)), (q5, .inl (cI, 4, .inl In)), (q6, .inl (cI, 500, .inl Pd)), (q7, .inl (cI, 500, .inl Rt)), (q8, .inl (cI, 10000, .inl Rw))]) (kX9_bad l D cI cB mo q1 q2 q3 q4 q5 q6 q7 q8 th tn sm rm Tp Nw Sn In Pd Rt Rw n S 3 ) ⟨hx, hb, hml, hown, hts⟩ (cwV 1 hts gX9_readOther_X9_bad rfl rfl rfl (by decide +kernel) ⟨Nat.le_of_ble_eq_true rfl, Nat.le_of_ble_eq_true rfl⟩) hK hP hD hS [0, 1, 2, 3, 4, 5, 6, 7, 8] [] rfl rfl (two_eq [] rfl rfl) 9 rfl (by decide +kernel) (by decide +kernel) (two_eq [mo, q1, q2, q3, q4, q5, q6, q7, q8] rfl rfl) (by decide +kernel) 0 rfl rfl rfl rfl hl.1 (Nat.le_of_ble_eq_true rfl) dX9_readOther_226 ⟨Nat.le_refl _, Nat.le_refl _⟩ (fun H_ lc_ hP hD hS => ?_)
              show W p_ l e_ (RM 4 95) s_ m_ ar_ be_ me_ co_ H_ lc_ 0 0 Q_ (F0 m_ 229 ls [.int 0])
              exact hret _ _ _ _ ls hS (by unfold otM; rw [if_pos c30, if_pos c83, if_pos c140, if_pos c172, if_neg c205, if_neg c221]; exact hP) (by unfold otM; rw [if_pos c30, if_pos c83, if_pos c140, if_pos c172, if_neg c205, if_neg c221]) (by decide) dX9_readOther_229
          · refine lv_aload_n hx hb dX9_readOther_208 rfl (lv_at hl 2 rfl) ?_
            refine lv_iconst (v := 1) hx hb dX9_readOther_209 (by decide) ?_
            refine wp_V (As := [.int 1]) (rest := []) (ci := 9) (ws' := [(mo, .inr (9, [.int th, .ref q1, .int tn, .int (nI n), .int (nI (badM S 1).1), .int (nI (badM S 1).2.1), .int (badM S 1).2.2.1, .int (badM S 1).2.2.2.1, .int (badM S 1).2.2.2.2.1, .int (badM S 1).2.2.2.2.2.1, .long (badM S 1).2.2.2.2.2.2.1, .ref q2, .ref q3, .ref q4, .int sm, .ref q5, .ref q6, .ref q7, .ref q8, .int rm])), (q1, .inl (cI, 840, .inl Tp)), (q2, .inl (cI, 240, .inl Nw)), (q3, .inl (cI, 240, .inl (badM S 1).2.2.2.2.2.2.2)), (q4, .inl (cI, 2880, .inl Sn)), (q5, .inl (cI, 4, .inl In)), (q6, .inl (cI, 500, .inl Pd)), (q7, .inl (cI, 500, .inl Rt)), (q8, .inl (cI, 10000, .inl Rw))]) (kX9_bad l D cI cB mo q1 q2 q3 q4 q5 q6 q7 q8 th tn sm rm Tp Nw Sn In Pd Rt Rw n S 1 ) ⟨hx, hb, hml, hown, hts⟩ (cwV 1 hts gX9_readOther_X9_bad rfl rfl rfl (by decide +kernel) ⟨Nat.le_of_ble_eq_true rfl, Nat.le_of_ble_eq_true rfl⟩) hK hP hD hS [0, 1, 2, 3, 4, 5, 6, 7, 8] [] rfl rfl (two_eq [] rfl rfl) 9 rfl (by decide +kernel) (by decide +kernel) (two_eq [mo, q1, q2, q3, q4, q5, q6, q7, q8] rfl rfl) (by decide +kernel) 0 rfl rfl rfl rfl hl.1 (Nat.le_of_ble_eq_true rfl) dX9_readOther_210 ⟨Nat.le_refl _, Nat.le_refl _⟩ (fun H_ lc_ hP hD hS => ?_)
            show W p_ l e_ (RM 4 95) s_ m_ ar_ be_ me_ co_ H_ lc_ 0 0 Q_ (F0 m_ 213 ls [.int 0])
            exact hret _ _ _ _ ls hS (by unfold otM; rw [if_pos c30, if_pos c83, if_pos c140, if_pos c172, if_pos c205]; exact hP) (by unfold otM; rw [if_pos c30, if_pos c83, if_pos c140, if_pos c172, if_pos c205]) (by decide) dX9_readOther_213
        · refine lv_aload_n hx hb dX9_readOther_175 rfl (lv_at hl 2 rfl) ?_
          refine lv_bipush (v := 117) hx hb dX9_readOther_176 (by decide) ?_
          refine lv_bipush (v := 20) hx hb dX9_readOther_178 (by decide) ?_
          refine lv_iconst (v := 0) hx hb dX9_readOther_180 (by decide) ?_
          refine lv_sipush (v := 499) hx hb dX9_readOther_181 (by decide) ?_
          refine lv_iconst (v := 1) hx hb dX9_readOther_184 (by decide) ?_
          refine lv_ldc (v := 99999) hx hb hown (hts (.constant RX9 99 (99999)) (List.mem_of_getElem? (i := 2) rfl)) dX9_readOther_185 ?_
          refine wp_V (As := [.int 117, .int 20, .int 0, .int 499, .int 1, .int 99999]) (rest := []) (ci := 9) (ws' := [(mo, .inr (9, [.int th, .ref q1, .int tn, .int (nI n), .int (nI (two2M Tp n S 117 p0 20 0 499 1 99999).2.1), .int (nI (two2M Tp n S 117 p0 20 0 499 1 99999).2.2.1), .int (two2M Tp n S 117 p0 20 0 499 1 99999).2.2.2.1, .int (two2M Tp n S 117 p0 20 0 499 1 99999).2.2.2.2.1, .int (two2M Tp n S 117 p0 20 0 499 1 99999).2.2.2.2.2.1, .int (two2M Tp n S 117 p0 20 0 499 1 99999).2.2.2.2.2.2.1, .long (two2M Tp n S 117 p0 20 0 499 1 99999).2.2.2.2.2.2.2.1, .ref q2, .ref q3, .ref q4, .int sm, .ref q5, .ref q6, .ref q7, .ref q8, .int rm])), (q1, .inl (cI, 840, .inl Tp)), (q2, .inl (cI, 240, .inl Nw)), (q3, .inl (cI, 240, .inl (two2M Tp n S 117 p0 20 0 499 1 99999).2.2.2.2.2.2.2.2)), (q4, .inl (cI, 2880, .inl Sn)), (q5, .inl (cI, 4, .inl In)), (q6, .inl (cI, 500, .inl Pd)), (q7, .inl (cI, 500, .inl Rt)), (q8, .inl (cI, 10000, .inl Rw))]) (kX9_readTwo l D cI cB mo q1 q2 q3 q4 q5 q6 q7 q8 th tn sm rm Tp Nw Sn In Pd Rt Rw n S 117 p0 20 0 499 1 99999 (hn) (hSn) (hp0) (by omega)) ⟨hx, hb, hml, hown, hts⟩ (cwV 6 hts gX9_readOther_X9_readTwo rfl rfl rfl (by decide +kernel) ⟨Nat.le_of_ble_eq_true rfl, Nat.le_of_ble_eq_true rfl⟩) hK hP hD hS [0, 1, 2, 3, 4, 5, 6, 7, 8] [] rfl rfl (two_eq [] rfl rfl) 9 rfl (by decide +kernel) (by decide +kernel) (two_eq [mo, q1, q2, q3, q4, q5, q6, q7, q8] rfl rfl) (by decide +kernel) 0 rfl rfl rfl rfl hl.1 (Nat.le_of_ble_eq_true rfl) dX9_readOther_187 ⟨Nat.le_refl _, Nat.le_refl _⟩ (fun H_ lc_ hP hD hS => ?_)
          show W p_ l e_ (RM 4 95) s_ m_ ar_ be_ me_ co_ H_ lc_ 0 0 Q_ (F0 m_ 190 ls [.int (two2M Tp n S 117 p0 20 0 499 1 99999).1])
          exact hret _ _ _ _ ls hS (by unfold otM; rw [if_pos c30, if_pos c83, if_pos c140, if_neg c172]; exact hP) (by unfold otM; rw [if_pos c30, if_pos c83, if_pos c140, if_neg c172]) (b01_nar (two2M_b _ _ _ _ _ _ _ _ _ _)) dX9_readOther_190
      · refine lv_aload_n hx hb dX9_readOther_143 rfl (lv_at hl 2 rfl) ?_
        refine lv_bipush (v := 36) hx hb dX9_readOther_144 (by decide) ?_
        refine lv_bipush (v := 20) hx hb dX9_readOther_146 (by decide) ?_
        refine lv_iconst (v := 0) hx hb dX9_readOther_148 (by decide) ?_
        refine lv_sipush (v := 364) hx hb dX9_readOther_149 (by decide) ?_
        refine lv_iconst (v := 1) hx hb dX9_readOther_152 (by decide) ?_
        refine lv_ldc (v := 99999) hx hb hown (hts (.constant RX9 99 (99999)) (List.mem_of_getElem? (i := 2) rfl)) dX9_readOther_153 ?_
        refine wp_V (As := [.int 36, .int 20, .int 0, .int 364, .int 1, .int 99999]) (rest := []) (ci := 9) (ws' := [(mo, .inr (9, [.int th, .ref q1, .int tn, .int (nI n), .int (nI (two2M Tp n S 36 e0 20 0 364 1 99999).2.1), .int (nI (two2M Tp n S 36 e0 20 0 364 1 99999).2.2.1), .int (two2M Tp n S 36 e0 20 0 364 1 99999).2.2.2.1, .int (two2M Tp n S 36 e0 20 0 364 1 99999).2.2.2.2.1, .int (two2M Tp n S 36 e0 20 0 364 1 99999).2.2.2.2.2.1, .int (two2M Tp n S 36 e0 20 0 364 1 99999).2.2.2.2.2.2.1, .long (two2M Tp n S 36 e0 20 0 364 1 99999).2.2.2.2.2.2.2.1, .ref q2, .ref q3, .ref q4, .int sm, .ref q5, .ref q6, .ref q7, .ref q8, .int rm])), (q1, .inl (cI, 840, .inl Tp)), (q2, .inl (cI, 240, .inl Nw)), (q3, .inl (cI, 240, .inl (two2M Tp n S 36 e0 20 0 364 1 99999).2.2.2.2.2.2.2.2)), (q4, .inl (cI, 2880, .inl Sn)), (q5, .inl (cI, 4, .inl In)), (q6, .inl (cI, 500, .inl Pd)), (q7, .inl (cI, 500, .inl Rt)), (q8, .inl (cI, 10000, .inl Rw))]) (kX9_readTwo l D cI cB mo q1 q2 q3 q4 q5 q6 q7 q8 th tn sm rm Tp Nw Sn In Pd Rt Rw n S 36 e0 20 0 364 1 99999 (hn) (hSn) (he0) (by omega)) ⟨hx, hb, hml, hown, hts⟩ (cwV 6 hts gX9_readOther_X9_readTwo rfl rfl rfl (by decide +kernel) ⟨Nat.le_of_ble_eq_true rfl, Nat.le_of_ble_eq_true rfl⟩) hK hP hD hS [0, 1, 2, 3, 4, 5, 6, 7, 8] [] rfl rfl (two_eq [] rfl rfl) 9 rfl (by decide +kernel) (by decide +kernel) (two_eq [mo, q1, q2, q3, q4, q5, q6, q7, q8] rfl rfl) (by decide +kernel) 0 rfl rfl rfl rfl hl.1 (Nat.le_of_ble_eq_true rfl) dX9_readOther_155 ⟨Nat.le_refl _, Nat.le_refl _⟩ (fun H_ lc_ hP hD hS => ?_)
        show W p_ l e_ (RM 4 95) s_ m_ ar_ be_ me_ co_ H_ lc_ 0 0 Q_ (F0 m_ 158 ls [.int (two2M Tp n S 36 e0 20 0 364 1 99999).1])
        exact hret _ _ _ _ ls hS (by unfold otM; rw [if_pos c30, if_pos c83, if_neg c140]; exact hP) (by unfold otM; rw [if_pos c30, if_pos c83, if_neg c140]) (b01_nar (two2M_b _ _ _ _ _ _ _ _ _ _)) dX9_readOther_158
    · refine lv_aload_n hx hb dX9_readOther_86 rfl (lv_at hl 2 rfl) ?_
      refine lv_bipush (v := 23) hx hb dX9_readOther_87 (by decide) ?_
      refine lv_bipush (v := 6) hx hb dX9_readOther_89 (by decide) ?_
      refine lv_iload_n hx hb dX9_readOther_91 rfl (lv_at hl 0 rfl) ?_
      refine lv_if_ne (tgt := 99) hx hb dX9_readOther_92 (by decide) (fun c92 => ?_) (fun c92 => ?_)
      · refine lv_aload_n hx hb dX9_readOther_99 rfl (lv_at hl 2 rfl) ?_
        refine g_get (C := RX9) (T := TX9) (N := 20) (ci := 9) (index := 67) hx hb hts in_X9_readOther_9 hown hK hP 0 12 rfl rfl (by decide) (List.mem_of_getElem? (i := 1) rfl) rfl dX9_readOther_100 ?_
        refine lv_bipush (v := 24) hx hb dX9_readOther_103 (by decide) ?_
        refine lv_iconst (v := 2) hx hb dX9_readOther_105 (by decide) ?_
        refine lv_iload_n hx hb dX9_readOther_106 rfl (lv_at hl 0 rfl) ?_
        refine lv_imul hx hb dX9_readOther_107 ?_
        refine lv_iadd hx hb dX9_readOther_108 ?_
        refine lv_iconst (v := 2) hx hb dX9_readOther_109 (by decide) ?_
        refine lv_isub hx hb dX9_readOther_110 ?_
        refine g_iald hx hb hK hP 3 0 rfl rfl (22 + 2 * r0) (ixs 22 r0) (by omega) (by omega) dX9_readOther_111 ?_
        refine lv_iconst (v := 1) hx hb dX9_readOther_112 (by decide) ?_
        refine lv_iadd hx hb dX9_readOther_113 ?_
        refine lv_sipush (v := 499) hx hb dX9_readOther_114 (by decide) ?_
        refine lv_iconst (v := 0) hx hb dX9_readOther_117 (by decide) ?_
        refine lv_bipush (v := 99) hx hb dX9_readOther_118 (by decide) ?_
        refine wp_V (As := [.int 23, .int 6, .int ((S.2.2.2.2.2.2.2 (22 + 2 * r0)) + 1), .int 499, .int 0, .int 99]) (rest := []) (ci := 9) (ws' := [(mo, .inr (9, [.int th, .ref q1, .int tn, .int (nI n), .int (nI (two2M Tp n S 23 r0 6 ((S.2.2.2.2.2.2.2 (22 + 2 * r0)) + 1) 499 0 99).2.1), .int (nI (two2M Tp n S 23 r0 6 ((S.2.2.2.2.2.2.2 (22 + 2 * r0)) + 1) 499 0 99).2.2.1), .int (two2M Tp n S 23 r0 6 ((S.2.2.2.2.2.2.2 (22 + 2 * r0)) + 1) 499 0 99).2.2.2.1, .int (two2M Tp n S 23 r0 6 ((S.2.2.2.2.2.2.2 (22 + 2 * r0)) + 1) 499 0 99).2.2.2.2.1, .int (two2M Tp n S 23 r0 6 ((S.2.2.2.2.2.2.2 (22 + 2 * r0)) + 1) 499 0 99).2.2.2.2.2.1, .int (two2M Tp n S 23 r0 6 ((S.2.2.2.2.2.2.2 (22 + 2 * r0)) + 1) 499 0 99).2.2.2.2.2.2.1, .long (two2M Tp n S 23 r0 6 ((S.2.2.2.2.2.2.2 (22 + 2 * r0)) + 1) 499 0 99).2.2.2.2.2.2.2.1, .ref q2, .ref q3, .ref q4, .int sm, .ref q5, .ref q6, .ref q7, .ref q8, .int rm])), (q1, .inl (cI, 840, .inl Tp)), (q2, .inl (cI, 240, .inl Nw)), (q3, .inl (cI, 240, .inl (two2M Tp n S 23 r0 6 ((S.2.2.2.2.2.2.2 (22 + 2 * r0)) + 1) 499 0 99).2.2.2.2.2.2.2.2)), (q4, .inl (cI, 2880, .inl Sn)), (q5, .inl (cI, 4, .inl In)), (q6, .inl (cI, 500, .inl Pd)), (q7, .inl (cI, 500, .inl Rt)), (q8, .inl (cI, 10000, .inl Rw))]) (kX9_readTwo l D cI cB mo q1 q2 q3 q4 q5 q6 q7 q8 th tn sm rm Tp Nw Sn In Pd Rt Rw n S 23 r0 6 ((S.2.2.2.2.2.2.2 (22 + 2 * r0)) + 1) 499 0 99 (hn) (hSn) (hr0) (by omega)) ⟨hx, hb, hml, hown, hts⟩ (cwV 6 hts gX9_readOther_X9_readTwo rfl rfl rfl (by decide +kernel) ⟨Nat.le_of_ble_eq_true rfl, Nat.le_of_ble_eq_true rfl⟩) hK hP hD hS [0, 1, 2, 3, 4, 5, 6, 7, 8] [] rfl rfl (two_eq [] rfl rfl) 9 rfl (by decide +kernel) (by decide +kernel) (two_eq [mo, q1, q2, q3, q4, q5, q6, q7, q8] rfl rfl) (by decide +kernel) 0 rfl rfl rfl rfl hl.1 (Nat.le_of_ble_eq_true rfl) dX9_readOther_120 ⟨Nat.le_refl _, Nat.le_refl _⟩ (fun H_ lc_ hP hD hS => ?_)
        show W p_ l e_ (RM 4 95) s_ m_ ar_ be_ me_ co_ H_ lc_ 0 0 Q_ (F0 m_ 123 ls [.int (two2M Tp n S 23 r0 6 ((S.2.2.2.2.2.2.2 (22 + 2 * r0)) + 1) 499 0 99).1])
        exact hret _ _ _ _ ls hS (by unfold otM; rw [if_pos c30, if_neg c83, if_neg c92]; exact hP) (by unfold otM; rw [if_pos c30, if_neg c83, if_neg c92]) (b01_nar (two2M_b _ _ _ _ _ _ _ _ _ _)) dX9_readOther_123
      · refine lv_iconst (v := 0) hx hb dX9_readOther_95 (by decide) ?_
        refine lv_goto (tgt := 114) hx hb dX9_readOther_96 (by decide) ?_
        refine lv_sipush (v := 499) hx hb dX9_readOther_114 (by decide) ?_
        refine lv_iconst (v := 0) hx hb dX9_readOther_117 (by decide) ?_
        refine lv_bipush (v := 99) hx hb dX9_readOther_118 (by decide) ?_
        refine wp_V (As := [.int 23, .int 6, .int 0, .int 499, .int 0, .int 99]) (rest := []) (ci := 9) (ws' := [(mo, .inr (9, [.int th, .ref q1, .int tn, .int (nI n), .int (nI (two2M Tp n S 23 r0 6 0 499 0 99).2.1), .int (nI (two2M Tp n S 23 r0 6 0 499 0 99).2.2.1), .int (two2M Tp n S 23 r0 6 0 499 0 99).2.2.2.1, .int (two2M Tp n S 23 r0 6 0 499 0 99).2.2.2.2.1, .int (two2M Tp n S 23 r0 6 0 499 0 99).2.2.2.2.2.1, .int (two2M Tp n S 23 r0 6 0 499 0 99).2.2.2.2.2.2.1, .long (two2M Tp n S 23 r0 6 0 499 0 99).2.2.2.2.2.2.2.1, .ref q2, .ref q3, .ref q4, .int sm, .ref q5, .ref q6, .ref q7, .ref q8, .int rm])), (q1, .inl (cI, 840, .inl Tp)), (q2, .inl (cI, 240, .inl Nw)), (q3, .inl (cI, 240, .inl (two2M Tp n S 23 r0 6 0 499 0 99).2.2.2.2.2.2.2.2)), (q4, .inl (cI, 2880, .inl Sn)), (q5, .inl (cI, 4, .inl In)), (q6, .inl (cI, 500, .inl Pd)), (q7, .inl (cI, 500, .inl Rt)), (q8, .inl (cI, 10000, .inl Rw))]) (kX9_readTwo l D cI cB mo q1 q2 q3 q4 q5 q6 q7 q8 th tn sm rm Tp Nw Sn In Pd Rt Rw n S 23 r0 6 0 499 0 99 (hn) (hSn) (hr0) (by omega)) ⟨hx, hb, hml, hown, hts⟩ (cwV 6 hts gX9_readOther_X9_readTwo rfl rfl rfl (by decide +kernel) ⟨Nat.le_of_ble_eq_true rfl, Nat.le_of_ble_eq_true rfl⟩) hK hP hD hS [0, 1, 2, 3, 4, 5, 6, 7, 8] [] rfl rfl (two_eq [] rfl rfl) 9 rfl (by decide +kernel) (by decide +kernel) (two_eq [mo, q1, q2, q3, q4, q5, q6, q7, q8] rfl rfl) (by decide +kernel) 0 rfl rfl rfl rfl hl.1 (Nat.le_of_ble_eq_true rfl) dX9_readOther_120 ⟨Nat.le_refl _, Nat.le_refl _⟩ (fun H_ lc_ hP hD hS => ?_)
        show W p_ l e_ (RM 4 95) s_ m_ ar_ be_ me_ co_ H_ lc_ 0 0 Q_ (F0 m_ 123 ls [.int (two2M Tp n S 23 r0 6 0 499 0 99).1])
        exact hret _ _ _ _ ls hS (by unfold otM; rw [if_pos c30, if_neg c83, if_pos c92]; exact hP) (by unfold otM; rw [if_pos c30, if_neg c83, if_pos c92]) (b01_nar (two2M_b _ _ _ _ _ _ _ _ _ _)) dX9_readOther_123
  · refine lv_aload_n hx hb dX9_readOther_33 rfl (lv_at hl 2 rfl) ?_
    refine lv_bipush (v := 13) hx hb dX9_readOther_34 (by decide) ?_
    refine lv_iconst (v := 4) hx hb dX9_readOther_36 (by decide) ?_
    refine lv_iload_n hx hb dX9_readOther_37 rfl (lv_at hl 1 rfl) ?_
    refine lv_if_ne (tgt := 45) hx hb dX9_readOther_38 (by decide) (fun c38 => ?_) (fun c38 => ?_)
    · refine lv_aload_n hx hb dX9_readOther_45 rfl (lv_at hl 2 rfl) ?_
      refine g_get (C := RX9) (T := TX9) (N := 20) (ci := 9) (index := 67) hx hb hts in_X9_readOther_9 hown hK hP 0 12 rfl rfl (by decide) (List.mem_of_getElem? (i := 1) rfl) rfl dX9_readOther_46 ?_
      refine lv_bipush (v := 14) hx hb dX9_readOther_49 (by decide) ?_
      refine lv_iconst (v := 2) hx hb dX9_readOther_51 (by decide) ?_
      refine lv_iload_n hx hb dX9_readOther_52 rfl (lv_at hl 1 rfl) ?_
      refine lv_imul hx hb dX9_readOther_53 ?_
      refine lv_iadd hx hb dX9_readOther_54 ?_
      refine lv_iconst (v := 2) hx hb dX9_readOther_55 (by decide) ?_
      refine lv_isub hx hb dX9_readOther_56 ?_
      refine g_iald hx hb hK hP 3 0 rfl rfl (12 + 2 * s0) (ixs 12 s0) (by omega) (by omega) dX9_readOther_57 ?_
      refine lv_iconst (v := 1) hx hb dX9_readOther_58 (by decide) ?_
      refine lv_iadd hx hb dX9_readOther_59 ?_
      refine lv_ldc (v := 99999) hx hb hown (hts (.constant RX9 99 (99999)) (List.mem_of_getElem? (i := 2) rfl)) dX9_readOther_60 ?_
      refine lv_iconst (v := 0) hx hb dX9_readOther_62 (by decide) ?_
      refine lv_bipush (v := 99) hx hb dX9_readOther_63 (by decide) ?_
      refine wp_V (As := [.int 13, .int 4, .int ((S.2.2.2.2.2.2.2 (12 + 2 * s0)) + 1), .int 99999, .int 0, .int 99]) (rest := []) (ci := 9) (ws' := [(mo, .inr (9, [.int th, .ref q1, .int tn, .int (nI n), .int (nI (two2M Tp n S 13 s0 4 ((S.2.2.2.2.2.2.2 (12 + 2 * s0)) + 1) 99999 0 99).2.1), .int (nI (two2M Tp n S 13 s0 4 ((S.2.2.2.2.2.2.2 (12 + 2 * s0)) + 1) 99999 0 99).2.2.1), .int (two2M Tp n S 13 s0 4 ((S.2.2.2.2.2.2.2 (12 + 2 * s0)) + 1) 99999 0 99).2.2.2.1, .int (two2M Tp n S 13 s0 4 ((S.2.2.2.2.2.2.2 (12 + 2 * s0)) + 1) 99999 0 99).2.2.2.2.1, .int (two2M Tp n S 13 s0 4 ((S.2.2.2.2.2.2.2 (12 + 2 * s0)) + 1) 99999 0 99).2.2.2.2.2.1, .int (two2M Tp n S 13 s0 4 ((S.2.2.2.2.2.2.2 (12 + 2 * s0)) + 1) 99999 0 99).2.2.2.2.2.2.1, .long (two2M Tp n S 13 s0 4 ((S.2.2.2.2.2.2.2 (12 + 2 * s0)) + 1) 99999 0 99).2.2.2.2.2.2.2.1, .ref q2, .ref q3, .ref q4, .int sm, .ref q5, .ref q6, .ref q7, .ref q8, .int rm])), (q1, .inl (cI, 840, .inl Tp)), (q2, .inl (cI, 240, .inl Nw)), (q3, .inl (cI, 240, .inl (two2M Tp n S 13 s0 4 ((S.2.2.2.2.2.2.2 (12 + 2 * s0)) + 1) 99999 0 99).2.2.2.2.2.2.2.2)), (q4, .inl (cI, 2880, .inl Sn)), (q5, .inl (cI, 4, .inl In)), (q6, .inl (cI, 500, .inl Pd)), (q7, .inl (cI, 500, .inl Rt)), (q8, .inl (cI, 10000, .inl Rw))]) (kX9_readTwo l D cI cB mo q1 q2 q3 q4 q5 q6 q7 q8 th tn sm rm Tp Nw Sn In Pd Rt Rw n S 13 s0 4 ((S.2.2.2.2.2.2.2 (12 + 2 * s0)) + 1) 99999 0 99 (hn) (hSn) (hs0) (by omega)) ⟨hx, hb, hml, hown, hts⟩ (cwV 6 hts gX9_readOther_X9_readTwo rfl rfl rfl (by decide +kernel) ⟨Nat.le_of_ble_eq_true rfl, Nat.le_of_ble_eq_true rfl⟩) hK hP hD hS [0, 1, 2, 3, 4, 5, 6, 7, 8] [] rfl rfl (two_eq [] rfl rfl) 9 rfl (by decide +kernel) (by decide +kernel) (two_eq [mo, q1, q2, q3, q4, q5, q6, q7, q8] rfl rfl) (by decide +kernel) 0 rfl rfl rfl rfl hl.1 (Nat.le_of_ble_eq_true rfl) dX9_readOther_65 ⟨Nat.le_refl _, Nat.le_refl _⟩ (fun H_ lc_ hP hD hS => ?_)
      show W p_ l e_ (RM 4 95) s_ m_ ar_ be_ me_ co_ H_ lc_ 0 0 Q_ (F0 m_ 68 ls [.int (two2M Tp n S 13 s0 4 ((S.2.2.2.2.2.2.2 (12 + 2 * s0)) + 1) 99999 0 99).1])
      exact hret _ _ _ _ ls hS (by unfold otM; rw [if_neg c30, if_neg c38]; exact hP) (by unfold otM; rw [if_neg c30, if_neg c38]) (b01_nar (two2M_b _ _ _ _ _ _ _ _ _ _)) dX9_readOther_68
    · refine lv_iconst (v := 1) hx hb dX9_readOther_41 (by decide) ?_
      refine lv_goto (tgt := 60) hx hb dX9_readOther_42 (by decide) ?_
      refine lv_ldc (v := 99999) hx hb hown (hts (.constant RX9 99 (99999)) (List.mem_of_getElem? (i := 2) rfl)) dX9_readOther_60 ?_
      refine lv_iconst (v := 0) hx hb dX9_readOther_62 (by decide) ?_
      refine lv_bipush (v := 99) hx hb dX9_readOther_63 (by decide) ?_
      refine wp_V (As := [.int 13, .int 4, .int 1, .int 99999, .int 0, .int 99]) (rest := []) (ci := 9) (ws' := [(mo, .inr (9, [.int th, .ref q1, .int tn, .int (nI n), .int (nI (two2M Tp n S 13 s0 4 1 99999 0 99).2.1), .int (nI (two2M Tp n S 13 s0 4 1 99999 0 99).2.2.1), .int (two2M Tp n S 13 s0 4 1 99999 0 99).2.2.2.1, .int (two2M Tp n S 13 s0 4 1 99999 0 99).2.2.2.2.1, .int (two2M Tp n S 13 s0 4 1 99999 0 99).2.2.2.2.2.1, .int (two2M Tp n S 13 s0 4 1 99999 0 99).2.2.2.2.2.2.1, .long (two2M Tp n S 13 s0 4 1 99999 0 99).2.2.2.2.2.2.2.1, .ref q2, .ref q3, .ref q4, .int sm, .ref q5, .ref q6, .ref q7, .ref q8, .int rm])), (q1, .inl (cI, 840, .inl Tp)), (q2, .inl (cI, 240, .inl Nw)), (q3, .inl (cI, 240, .inl (two2M Tp n S 13 s0 4 1 99999 0 99).2.2.2.2.2.2.2.2)), (q4, .inl (cI, 2880, .inl Sn)), (q5, .inl (cI, 4, .inl In)), (q6, .inl (cI, 500, .inl Pd)), (q7, .inl (cI, 500, .inl Rt)), (q8, .inl (cI, 10000, .inl Rw))]) (kX9_readTwo l D cI cB mo q1 q2 q3 q4 q5 q6 q7 q8 th tn sm rm Tp Nw Sn In Pd Rt Rw n S 13 s0 4 1 99999 0 99 (hn) (hSn) (hs0) (by omega)) ⟨hx, hb, hml, hown, hts⟩ (cwV 6 hts gX9_readOther_X9_readTwo rfl rfl rfl (by decide +kernel) ⟨Nat.le_of_ble_eq_true rfl, Nat.le_of_ble_eq_true rfl⟩) hK hP hD hS [0, 1, 2, 3, 4, 5, 6, 7, 8] [] rfl rfl (two_eq [] rfl rfl) 9 rfl (by decide +kernel) (by decide +kernel) (two_eq [mo, q1, q2, q3, q4, q5, q6, q7, q8] rfl rfl) (by decide +kernel) 0 rfl rfl rfl rfl hl.1 (Nat.le_of_ble_eq_true rfl) dX9_readOther_65 ⟨Nat.le_refl _, Nat.le_refl _⟩ (fun H_ lc_ hP hD hS => ?_)
      show W p_ l e_ (RM 4 95) s_ m_ ar_ be_ me_ co_ H_ lc_ 0 0 Q_ (F0 m_ 68 ls [.int (two2M Tp n S 13 s0 4 1 99999 0 99).1])
      exact hret _ _ _ _ ls hS (by unfold otM; rw [if_neg c30, if_pos c38]; exact hP) (by unfold otM; rw [if_neg c30, if_pos c38]) (b01_nar (two2M_b _ _ _ _ _ _ _ _ _ _)) dX9_readOther_68

def lnM (T : Nat → Int32) (n : Nat) (S : MSt) (k s0 r0 e0 p0 : Nat) : Int32 × MSt :=
  if nI k = 0 then yM T n S else if 4 < nI k then (if nI k = 5 then shM T n S else otM T n S s0 r0 e0 p0) else perM T n S (k - 1)
theorem lnM_b (T : Nat → Int32) (n : Nat) (S : MSt) (k s0 r0 e0 p0 : Nat) : b01 (lnM T n S k s0 r0 e0 p0).1 := by
  unfold lnM; split
  · exact yM_b _ _ _
  · split
    · split
      · exact shM_b _ _ _
      · exact otM_b _ _ _ _ _ _ _
    · exact perM_b _ _ _ _
set_option maxHeartbeats 4000000 in
set_option maxRecDepth 100000 in
theorem kX9_readLine (l : Launch) (D : va_G) (cI cB : ClassId) (mo q1 q2 q3 q4 q5 q6 q7 q8 : Nat) (th tn : Int32) (sm rm : Int32) (Tp Nw Sn In Pd Rt Rw : Nat → Int32) (n : Nat) (S : MSt) (k s0 r0 e0 p0 : Nat) (hn : n ≤ 840) (hSn : S.1 ≤ n) (hs0 : S.2.2.2.2.2.2.2 13 = nI s0) (hs1 : s0 ≤ 4) (hr0 : S.2.2.2.2.2.2.2 23 = nI r0) (hr1 : r0 ≤ 6) (he0 : S.2.2.2.2.2.2.2 36 = nI e0) (he1 : e0 ≤ 20) (hp0 : S.2.2.2.2.2.2.2 117 = nI p0) (hp1 : p0 ≤ 20) (hk : k ≤ 1000) : Wr l D (TY cI cB) yX9_readLine wsX9_readLine 5 117 [.ref mo, .int (nI k)] [(mo, .inr (9, [.int th, .ref q1, .int tn, .int (nI n), .int (nI S.1), .int (nI S.2.1), .int S.2.2.1, .int S.2.2.2.1, .int S.2.2.2.2.1, .int S.2.2.2.2.2.1, .long S.2.2.2.2.2.2.1, .ref q2, .ref q3, .ref q4, .int sm, .ref q5, .ref q6, .ref q7, .ref q8, .int rm])), (q1, .inl (cI, 840, .inl Tp)), (q2, .inl (cI, 240, .inl Nw)), (q3, .inl (cI, 240, .inl S.2.2.2.2.2.2.2)), (q4, .inl (cI, 2880, .inl Sn)), (q5, .inl (cI, 4, .inl In)), (q6, .inl (cI, 500, .inl Pd)), (q7, .inl (cI, 500, .inl Rt)), (q8, .inl (cI, 10000, .inl Rw))] [(mo, .inr (9, [.int th, .ref q1, .int tn, .int (nI n), .int (nI (lnM Tp n S k s0 r0 e0 p0).2.1), .int (nI (lnM Tp n S k s0 r0 e0 p0).2.2.1), .int (lnM Tp n S k s0 r0 e0 p0).2.2.2.1, .int (lnM Tp n S k s0 r0 e0 p0).2.2.2.2.1, .int (lnM Tp n S k s0 r0 e0 p0).2.2.2.2.2.1, .int (lnM Tp n S k s0 r0 e0 p0).2.2.2.2.2.2.1, .long (lnM Tp n S k s0 r0 e0 p0).2.2.2.2.2.2.2.1, .ref q2, .ref q3, .ref q4, .int sm, .ref q5, .ref q6, .ref q7, .ref q8, .int rm])), (q1, .inl (cI, 840, .inl Tp)), (q2, .inl (cI, 240, .inl Nw)), (q3, .inl (cI, 240, .inl (lnM Tp n S k s0 r0 e0 p0).2.2.2.2.2.2.2.2)), (q4, .inl (cI, 2880, .inl Sn)), (q5, .inl (cI, 4, .inl In)), (q6, .inl (cI, 500, .inl Pd)), (q7, .inl (cI, 500, .inl Rt)), (q8, .inl (cI, 10000, .inl Rw))] (some (.int (lnM Tp n S k s0 r0 e0 p0).1)) := by
  refine wr_z (cc := cX9_readLine) (maxL := 2) (by decide) rfl (Nat.le_of_ble_eq_true rfl) ?_
  intro p_ e_ s_ m_ ar_ be_ me_ co_ ls Q_ A_ hx hb hml hown hts hP hK hD hS hl hret
  have hown : s_.vm.findClass RX9 = some m_.cls := hown
  have hl : lv_has ls 2 [(0, .ref mo), (1, .int (nI k))] := hl
  refine lv_iload_n hx hb dX9_readLine_0 rfl (lv_at hl 1 rfl) ?_
  refine lv_if_ne (tgt := 11) hx hb dX9_readLine_1 (by decide) (fun c1 => ?_) (fun c1 => ?_)
  · refine lv_iload_n hx hb dX9_readLine_11 rfl (lv_at hl 1 rfl) ?_
    refine lv_iconst (v := 4) hx hb dX9_readLine_12 (by decide) ?_
    refine lv_icmp_gt (tgt := 26) hx hb dX9_readLine_13 (by decide) (fun c13 => ?_) (fun c13 => ?_)
    · refine lv_iload_n hx hb dX9_readLine_26 rfl (lv_at hl 1 rfl) ?_
      refine lv_iconst (v := 5) hx hb dX9_readLine_27 (by decide) ?_
      refine lv_icmp_ne (tgt := 38) hx hb dX9_readLine_28 (by decide) (fun c28 => ?_) (fun c28 => ?_)
      · refine lv_aload_n hx hb dX9_readLine_38 rfl (lv_at hl 0 rfl) ?_
        refine wp_V (As := []) (rest := []) (ci := 9) (ws' := [(mo, .inr (9, [.int th, .ref q1, .int tn, .int (nI n), .int (nI (otM Tp n S s0 r0 e0 p0).2.1), .int (nI (otM Tp n S s0 r0 e0 p0).2.2.1), .int (otM Tp n S s0 r0 e0 p0).2.2.2.1, .int (otM Tp n S s0 r0 e0 p0).2.2.2.2.1, .int (otM Tp n S s0 r0 e0 p0).2.2.2.2.2.1, .int (otM Tp n S s0 r0 e0 p0).2.2.2.2.2.2.1, .long (otM Tp n S s0 r0 e0 p0).2.2.2.2.2.2.2.1, .ref q2, .ref q3, .ref q4, .int sm, .ref q5, .ref q6, .ref q7, .ref q8, .int rm])), (q1, .inl (cI, 840, .inl Tp)), (q2, .inl (cI, 240, .inl Nw)), (q3, .inl (cI, 240, .inl (otM Tp n S s0 r0 e0 p0).2.2.2.2.2.2.2.2)), (q4, .inl (cI, 2880, .inl Sn)), (q5, .inl (cI, 4, .inl In)), (q6, .inl (cI, 500, .inl Pd)), (q7, .inl (cI, 500, .inl Rt)), (q8, .inl (cI, 10000, .inl Rw))]) (kX9_readOther l D cI cB mo q1 q2 q3 q4 q5 q6 q7 q8 th tn sm rm Tp Nw Sn In Pd Rt Rw n S s0 r0 e0 p0 (by first | assumption | exact goM_le hSn | exact toldM_le (goM_le hSn) | exact toldM_le (toldM_le (goM_le hSn)) | omega) (by first | assumption | exact goM_le hSn | exact toldM_le (goM_le hSn) | exact toldM_le (toldM_le (goM_le hSn)) | omega) (by first | assumption | exact goM_le hSn | exact toldM_le (goM_le hSn) | exact toldM_le (toldM_le (goM_le hSn)) | omega) (by first | assumption | exact goM_le hSn | exact toldM_le (goM_le hSn) | exact toldM_le (toldM_le (goM_le hSn)) | omega) (by first | assumption | exact goM_le hSn | exact toldM_le (goM_le hSn) | exact toldM_le (toldM_le (goM_le hSn)) | omega) (by first | assumption | exact goM_le hSn | exact toldM_le (goM_le hSn) | exact toldM_le (toldM_le (goM_le hSn)) | omega) (by first | assumption | exact goM_le hSn | exact toldM_le (goM_le hSn) | exact toldM_le (toldM_le (goM_le hSn)) | omega) (by first | assumption | exact goM_le hSn | exact toldM_le (goM_le hSn) | exact toldM_le (toldM_le (goM_le hSn)) | omega) (by first | assumption | exact goM_le hSn | exact toldM_le (goM_le hSn) | exact toldM_le (toldM_le (goM_le hSn)) | omega) (by first | assumption | exact goM_le hSn | exact toldM_le (goM_le hSn) | exact toldM_le (toldM_le (goM_le hSn)) | omega)) ⟨hx, hb, hml, hown, hts⟩ (cwV 0 hts gX9_readLine_X9_readOther rfl rfl rfl (by decide +kernel) ⟨Nat.le_of_ble_eq_true rfl, Nat.le_of_ble_eq_true rfl⟩) hK hP hD hS [0, 1, 2, 3, 4, 5, 6, 7, 8] [] rfl rfl (two_eq [] rfl rfl) 9 rfl (by decide +kernel) (by decide +kernel) (two_eq [mo, q1, q2, q3, q4, q5, q6, q7, q8] rfl rfl) (by decide +kernel) 0 rfl rfl rfl rfl hl.1 (Nat.le_of_ble_eq_true rfl) dX9_readLine_39 ⟨Nat.le_refl _, Nat.le_refl _⟩ (fun H_ lc_ hP hD hS => ?_)
        show W p_ l e_ (RM 5 117) s_ m_ ar_ be_ me_ co_ H_ lc_ 0 0 Q_ (F0 m_ 42 ls [.int (otM Tp n S s0 r0 e0 p0).1])
        exact hret _ _ _ _ ls hS (by unfold lnM; rw [if_neg c1, if_pos c13, if_neg c28]; exact hP) (by unfold lnM; rw [if_neg c1, if_pos c13, if_neg c28]) (b01_nar (otM_b _ _ _ _ _ _ _)) dX9_readLine_42
      · refine lv_aload_n hx hb dX9_readLine_31 rfl (lv_at hl 0 rfl) ?_
        refine wp_V (As := []) (rest := []) (ci := 9) (ws' := [(mo, .inr (9, [.int th, .ref q1, .int tn, .int (nI n), .int (nI (shM Tp n S).2.1), .int (nI (shM Tp n S).2.2.1), .int (shM Tp n S).2.2.2.1, .int (shM Tp n S).2.2.2.2.1, .int (shM Tp n S).2.2.2.2.2.1, .int (shM Tp n S).2.2.2.2.2.2.1, .long (shM Tp n S).2.2.2.2.2.2.2.1, .ref q2, .ref q3, .ref q4, .int sm, .ref q5, .ref q6, .ref q7, .ref q8, .int rm])), (q1, .inl (cI, 840, .inl Tp)), (q2, .inl (cI, 240, .inl Nw)), (q3, .inl (cI, 240, .inl (shM Tp n S).2.2.2.2.2.2.2.2)), (q4, .inl (cI, 2880, .inl Sn)), (q5, .inl (cI, 4, .inl In)), (q6, .inl (cI, 500, .inl Pd)), (q7, .inl (cI, 500, .inl Rt)), (q8, .inl (cI, 10000, .inl Rw))]) (kX9_readShare l D cI cB mo q1 q2 q3 q4 q5 q6 q7 q8 th tn sm rm Tp Nw Sn In Pd Rt Rw n S (by first | assumption | exact goM_le hSn | exact toldM_le (goM_le hSn) | exact toldM_le (toldM_le (goM_le hSn)) | omega) (by first | assumption | exact goM_le hSn | exact toldM_le (goM_le hSn) | exact toldM_le (toldM_le (goM_le hSn)) | omega)) ⟨hx, hb, hml, hown, hts⟩ (cwV 0 hts gX9_readLine_X9_readShare rfl rfl rfl (by decide +kernel) ⟨Nat.le_of_ble_eq_true rfl, Nat.le_of_ble_eq_true rfl⟩) hK hP hD hS [0, 1, 2, 3, 4, 5, 6, 7, 8] [] rfl rfl (two_eq [] rfl rfl) 9 rfl (by decide +kernel) (by decide +kernel) (two_eq [mo, q1, q2, q3, q4, q5, q6, q7, q8] rfl rfl) (by decide +kernel) 0 rfl rfl rfl rfl hl.1 (Nat.le_of_ble_eq_true rfl) dX9_readLine_32 ⟨Nat.le_refl _, Nat.le_refl _⟩ (fun H_ lc_ hP hD hS => ?_)
        show W p_ l e_ (RM 5 117) s_ m_ ar_ be_ me_ co_ H_ lc_ 0 0 Q_ (F0 m_ 35 ls [.int (shM Tp n S).1])
        refine lv_goto (tgt := 42) hx hb dX9_readLine_35 (by decide) ?_
        exact hret _ _ _ _ ls hS (by unfold lnM; rw [if_neg c1, if_pos c13, if_pos c28]; exact hP) (by unfold lnM; rw [if_neg c1, if_pos c13, if_pos c28]) (b01_nar (shM_b _ _ _)) dX9_readLine_42
    · have hk4 : k ≤ 4 := ge_nI' (a := 4) (b := k) c13 (by omega) (by omega)
      have hk1 : ¬ k = 0 := fun z => c1 (by rw [z]; rfl)
      refine lv_aload_n hx hb dX9_readLine_16 rfl (lv_at hl 0 rfl) ?_
      refine lv_iload_n hx hb dX9_readLine_17 rfl (lv_at hl 1 rfl) ?_
      refine lv_iconst (v := 1) hx hb dX9_readLine_18 (by decide) ?_
      refine lv_isub hx hb dX9_readLine_19 ?_
      rw [show ((nI k) - 1 : Int32) = nI (k - 1) from pk_sub (a := k) (b := 1) (by omega)]
      refine wp_V (As := [.int (nI (k - 1))]) (rest := []) (ci := 9) (ws' := [(mo, .inr (9, [.int th, .ref q1, .int tn, .int (nI n), .int (nI (perM Tp n S (k - 1)).2.1), .int (nI (perM Tp n S (k - 1)).2.2.1), .int (perM Tp n S (k - 1)).2.2.2.1, .int (perM Tp n S (k - 1)).2.2.2.2.1, .int (perM Tp n S (k - 1)).2.2.2.2.2.1, .int (perM Tp n S (k - 1)).2.2.2.2.2.2.1, .long (perM Tp n S (k - 1)).2.2.2.2.2.2.2.1, .ref q2, .ref q3, .ref q4, .int sm, .ref q5, .ref q6, .ref q7, .ref q8, .int rm])), (q1, .inl (cI, 840, .inl Tp)), (q2, .inl (cI, 240, .inl Nw)), (q3, .inl (cI, 240, .inl (perM Tp n S (k - 1)).2.2.2.2.2.2.2.2)), (q4, .inl (cI, 2880, .inl Sn)), (q5, .inl (cI, 4, .inl In)), (q6, .inl (cI, 500, .inl Pd)), (q7, .inl (cI, 500, .inl Rt)), (q8, .inl (cI, 10000, .inl Rw))]) (kX9_readPeriod l D cI cB mo q1 q2 q3 q4 q5 q6 q7 q8 th tn sm rm Tp Nw Sn In Pd Rt Rw n S (k - 1) (by first | assumption | exact goM_le hSn | exact toldM_le (goM_le hSn) | exact toldM_le (toldM_le (goM_le hSn)) | omega) (by first | assumption | exact goM_le hSn | exact toldM_le (goM_le hSn) | exact toldM_le (toldM_le (goM_le hSn)) | omega) (by first | assumption | exact goM_le hSn | exact toldM_le (goM_le hSn) | exact toldM_le (toldM_le (goM_le hSn)) | omega)) ⟨hx, hb, hml, hown, hts⟩ (cwV 1 hts gX9_readLine_X9_readPeriod rfl rfl rfl (by decide +kernel) ⟨Nat.le_of_ble_eq_true rfl, Nat.le_of_ble_eq_true rfl⟩) hK hP hD hS [0, 1, 2, 3, 4, 5, 6, 7, 8] [] rfl rfl (two_eq [] rfl rfl) 9 rfl (by decide +kernel) (by decide +kernel) (two_eq [mo, q1, q2, q3, q4, q5, q6, q7, q8] rfl rfl) (by decide +kernel) 0 rfl rfl rfl rfl hl.1 (Nat.le_of_ble_eq_true rfl) dX9_readLine_20 ⟨Nat.le_refl _, Nat.le_refl _⟩ (fun H_ lc_ hP hD hS => ?_)
      show W p_ l e_ (RM 5 117) s_ m_ ar_ be_ me_ co_ H_ lc_ 0 0 Q_ (F0 m_ 23 ls [.int (perM Tp n S (k - 1)).1])
      refine lv_goto (tgt := 42) hx hb dX9_readLine_23 (by decide) ?_
      exact hret _ _ _ _ ls hS (by unfold lnM; rw [if_neg c1, if_neg c13]; exact hP) (by unfold lnM; rw [if_neg c1, if_neg c13]) (b01_nar (perM_b _ _ _ _)) dX9_readLine_42
  · refine lv_aload_n hx hb dX9_readLine_4 rfl (lv_at hl 0 rfl) ?_
    refine wp_V (As := []) (rest := []) (ci := 9) (ws' := [(mo, .inr (9, [.int th, .ref q1, .int tn, .int (nI n), .int (nI (yM Tp n S).2.1), .int (nI (yM Tp n S).2.2.1), .int (yM Tp n S).2.2.2.1, .int (yM Tp n S).2.2.2.2.1, .int (yM Tp n S).2.2.2.2.2.1, .int (yM Tp n S).2.2.2.2.2.2.1, .long (yM Tp n S).2.2.2.2.2.2.2.1, .ref q2, .ref q3, .ref q4, .int sm, .ref q5, .ref q6, .ref q7, .ref q8, .int rm])), (q1, .inl (cI, 840, .inl Tp)), (q2, .inl (cI, 240, .inl Nw)), (q3, .inl (cI, 240, .inl (yM Tp n S).2.2.2.2.2.2.2.2)), (q4, .inl (cI, 2880, .inl Sn)), (q5, .inl (cI, 4, .inl In)), (q6, .inl (cI, 500, .inl Pd)), (q7, .inl (cI, 500, .inl Rt)), (q8, .inl (cI, 10000, .inl Rw))]) (kX9_readYear l D cI cB mo q1 q2 q3 q4 q5 q6 q7 q8 th tn sm rm Tp Nw Sn In Pd Rt Rw n S (by first | assumption | exact goM_le hSn | exact toldM_le (goM_le hSn) | exact toldM_le (toldM_le (goM_le hSn)) | omega) (by first | assumption | exact goM_le hSn | exact toldM_le (goM_le hSn) | exact toldM_le (toldM_le (goM_le hSn)) | omega)) ⟨hx, hb, hml, hown, hts⟩ (cwV 0 hts gX9_readLine_X9_readYear rfl rfl rfl (by decide +kernel) ⟨Nat.le_of_ble_eq_true rfl, Nat.le_of_ble_eq_true rfl⟩) hK hP hD hS [0, 1, 2, 3, 4, 5, 6, 7, 8] [] rfl rfl (two_eq [] rfl rfl) 9 rfl (by decide +kernel) (by decide +kernel) (two_eq [mo, q1, q2, q3, q4, q5, q6, q7, q8] rfl rfl) (by decide +kernel) 0 rfl rfl rfl rfl hl.1 (Nat.le_of_ble_eq_true rfl) dX9_readLine_5 ⟨Nat.le_refl _, Nat.le_refl _⟩ (fun H_ lc_ hP hD hS => ?_)
    show W p_ l e_ (RM 5 117) s_ m_ ar_ be_ me_ co_ H_ lc_ 0 0 Q_ (F0 m_ 8 ls [.int (yM Tp n S).1])
    refine lv_goto (tgt := 42) hx hb dX9_readLine_8 (by decide) ?_
    exact hret _ _ _ _ ls hS (by unfold lnM; rw [if_pos c1]; exact hP) (by unfold lnM; rw [if_pos c1]) (b01_nar (yM_b _ _ _)) dX9_readLine_42

