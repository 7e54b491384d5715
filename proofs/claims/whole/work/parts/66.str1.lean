def chS (i j : Nat) : Int32 := (sfB.getD i []).getD j 0
theorem chS_and : ∀ i, i < 9 → ∀ j, j < sfL.getD i 0 → (chS i j &&& 255) = chS i j := by decide
theorem chS_c : ∀ i, i < 9 → ∀ j, j < sfL.getD i 0 → ((chS i j).toUInt32 % 65536).toInt32 = chS i j := by decide
theorem chS_nar : ∀ i, i < 9 → ∀ j, j < sfL.getD i 0 → narrow .char (.int (chS i j)) = .int (chS i j) := by decide
theorem sfL_le : ∀ i, i < 9 → sfL.getD i 0 ≤ 6 := by decide
set_option maxHeartbeats 4000000 in
set_option maxRecDepth 100000 in
theorem kJ0_coder_7d493 (l : Launch) (D : va_G) (cI cB : ClassId) (F : SFt) (i : Nat) (hi : i < 9) : Rs l D (TY cI cB) yJ0_coder_7d493 wsJ0_coder_7d493 0 0 [.ref (F.1 i)] [] F (some (.int 0)) := by
  refine rs_z (cc := cJ0_coder_7d493) (maxL := 1) (by decide) rfl (Nat.le_of_ble_eq_true rfl) ?_
  intro p_ e_ s_ m_ ar_ be_ me_ co_ ls Q_ hx hb hml hown hts hP hK hF hl hret
  have hown : s_.vm.findClass RJ0 = some m_.cls := hown
  have hl : lv_has ls 1 [(0, .ref (F.1 i))] := hl
  refine va_gets hx hb hF.2.1 va_S.rf hown (hts (.fieldLink RJ0 38 "java/lang/String" "COMPACT_STRINGS" "Z") (List.mem_of_getElem? (i := 1) rfl)) (fun _ h => h) dJ0_coder_7d493_0 ?_
  refine lv_if_eq (tgt := 13) hx hb dJ0_coder_7d493_3 (by decide) (fun c3 => absurd c3 (by decide)) (fun c3 => ?_)
  refine lv_aload_n hx hb dJ0_coder_7d493_6 rfl (lv_at hl 0 rfl) ?_
  refine vk_getf hx hb (hF.1.1 i hi).2.1 va_S.rf hown (hts (.fieldLink RJ0 15 "java/lang/String" "coder" "B") (List.mem_of_getElem? (i := 2) rfl)) (fun _ h => h) dJ0_coder_7d493_7 ?_
  refine lv_goto (tgt := 14) hx hb dJ0_coder_7d493_10 (by decide) ?_
  exact hret _ _ ls (rfl) (by decide) dJ0_coder_7d493_14

set_option maxHeartbeats 4000000 in
set_option maxRecDepth 100000 in
theorem kJ0_isLatin1_aae02 (l : Launch) (D : va_G) (cI cB : ClassId) (F : SFt) (i : Nat) (hi : i < 9) : Rs l D (TY cI cB) yJ0_isLatin1_aae02 wsJ0_isLatin1_aae02 0 0 [.ref (F.1 i)] [] F (some (.int 1)) := by
  refine rs_z (cc := cJ0_isLatin1_aae02) (maxL := 1) (by decide) rfl (Nat.le_of_ble_eq_true rfl) ?_
  intro p_ e_ s_ m_ ar_ be_ me_ co_ ls Q_ hx hb hml hown hts hP hK hF hl hret
  have hown : s_.vm.findClass RJ0 = some m_.cls := hown
  have hl : lv_has ls 1 [(0, .ref (F.1 i))] := hl
  refine va_gets hx hb hF.2.1 va_S.rf hown (hts (.fieldLink RJ0 38 "java/lang/String" "COMPACT_STRINGS" "Z") (List.mem_of_getElem? (i := 1) rfl)) (fun _ h => h) dJ0_isLatin1_aae02_0 ?_
  refine lv_if_eq (tgt := 17) hx hb dJ0_isLatin1_aae02_3 (by decide) (fun c3 => absurd c3 (by decide)) (fun c3 => ?_)
  refine lv_aload_n hx hb dJ0_isLatin1_aae02_6 rfl (lv_at hl 0 rfl) ?_
  refine vk_getf hx hb (hF.1.1 i hi).2.1 va_S.rf hown (hts (.fieldLink RJ0 15 "java/lang/String" "coder" "B") (List.mem_of_getElem? (i := 2) rfl)) (fun _ h => h) dJ0_isLatin1_aae02_7 ?_
  refine lv_if_ne (tgt := 17) hx hb dJ0_isLatin1_aae02_10 (by decide) (fun c10 => absurd c10 (by decide)) (fun c10 => ?_)
  refine lv_iconst (v := 1) hx hb dJ0_isLatin1_aae02_13 (by decide) ?_
  refine lv_goto (tgt := 18) hx hb dJ0_isLatin1_aae02_14 (by decide) ?_
  exact hret _ _ ls (rfl) (by decide) dJ0_isLatin1_aae02_18

set_option maxHeartbeats 4000000 in
set_option maxRecDepth 100000 in
theorem kJ0_length_8abf5 (l : Launch) (D : va_G) (cI cB : ClassId) (F : SFt) (i : Nat) (hi : i < 9) : Rs l D (TY cI cB) yJ0_length_8abf5 wsJ0_length_8abf5 1 20 [.ref (F.1 i)] [] F (some (.int (nI (sfL.getD i 0)))) := by
  refine rs_z (cc := cJ0_length_8abf5) (maxL := 1) (by decide) rfl (Nat.le_of_ble_eq_true rfl) ?_
  intro p_ e_ s_ m_ ar_ be_ me_ co_ ls Q_ hx hb hml hown hts hP hK hF hl hret
  have hown : s_.vm.findClass RJ0 = some m_.cls := hown
  have hl : lv_has ls 1 [(0, .ref (F.1 i))] := hl
  refine lv_aload_n hx hb dJ0_length_8abf5_0 rfl (lv_at hl 0 rfl) ?_
  refine vk_getf hx hb (hF.1.1 i hi).2.2.1 va_S.rf hown (hts (.fieldLink RJ0 9 "java/lang/String" "value" "[B") (List.mem_of_getElem? (i := 1) rfl)) (fun _ h => h) dJ0_length_8abf5_1 ?_
  refine va_tlen (v := nI (sfL.getD i 0)) hx hb (hF.1.1 i hi).2.2.2 va_S.rf rfl dJ0_length_8abf5_4 ?_
  refine lv_aload_n hx hb dJ0_length_8abf5_5 rfl (lv_at hl 0 rfl) ?_
  refine rs_V (As := []) (rest := [.int (nI (sfL.getD i 0))]) (kJ0_coder_7d493 l D cI cB F i (hi)) ⟨hx, hb, hml, hown, hts⟩ (cwV 0 hts gJ0_length_8abf5_J0_coder_7d493 rfl rfl rfl (by decide +kernel) ⟨Nat.le_of_ble_eq_true rfl, Nat.le_of_ble_eq_true rfl⟩) hK hP hF va_S.rf [] rfl (vk_recv hF.1 hi va_S.rf) rfl rfl hl.1 (Nat.le_of_ble_eq_true rfl) dJ0_length_8abf5_6 ⟨Nat.le_refl _, Nat.le_refl _⟩ ?_
  show W p_ l e_ (RM 1 20) s_ m_ ar_ be_ me_ co_ s_.heap [] 0 0 Q_ (F0 m_ 9 ls [.int 0, .int (nI (sfL.getD i 0))])
  refine lv_ishr hx hb dJ0_length_8abf5_9 ?_
  rw [show ((nI (sfL.getD i 0)) >>> (0 &&& 31) : Int32) = nI (sfL.getD i 0) from by simp]
  exact hret _ _ ls (rfl) (rfl) dJ0_length_8abf5_10

set_option maxHeartbeats 4000000 in
set_option maxRecDepth 100000 in
theorem kJ3_checkIndex_8e157 (l : Launch) (D : va_G) (cI cB : ClassId) (F : SFt) (x y : Int32) (t : Nat) (h0 : ¬ x < 0) (h1 : x < y) : Rs l D (TY cI cB) yJ3_checkIndex_8e157 wsJ3_checkIndex_8e157 0 0 [.int x, .int y, .ref t] [] F (some (.int x)) := by
  refine rs_z (cc := cJ3_checkIndex_8e157) (maxL := 3) (by decide) rfl (Nat.le_of_ble_eq_true rfl) ?_
  intro p_ e_ s_ m_ ar_ be_ me_ co_ ls Q_ hx hb hml hown hts hP hK hF hl hret
  have hown : s_.vm.findClass RJ3 = some m_.cls := hown
  have hl : lv_has ls 3 [(0, .int x), (1, .int y), (2, .ref t)] := hl
  refine lv_iload_n hx hb dJ3_checkIndex_8e157_0 rfl (lv_at hl 0 rfl) ?_
  refine lv_if_lt (tgt := 9) hx hb dJ3_checkIndex_8e157_1 (by decide) (fun c1 => absurd c1 (h0)) (fun c1 => ?_)
  refine lv_iload_n hx hb dJ3_checkIndex_8e157_4 rfl (lv_at hl 0 rfl) ?_
  refine lv_iload_n hx hb dJ3_checkIndex_8e157_5 rfl (lv_at hl 1 rfl) ?_
  refine lv_icmp_lt (tgt := 16) hx hb dJ3_checkIndex_8e157_6 (by decide) (fun c6 => ?_) (fun c6 => absurd (h1) c6)
  refine lv_iload_n hx hb dJ3_checkIndex_8e157_16 rfl (lv_at hl 0 rfl) ?_
  exact hret _ _ ls (rfl) (rfl) dJ3_checkIndex_8e157_17

set_option maxHeartbeats 4000000 in
set_option maxRecDepth 100000 in
theorem kJ3_checkIndex_n (l : Launch) (D : va_G) (cI cB : ClassId) (F : SFt) (x y : Int32) (h0 : ¬ x < 0) (h1 : x < y) : Rs l D (TY cI cB) yJ3_checkIndex_8e157 wsJ3_checkIndex_8e157 0 0 [.int x, .int y, .null] [] F (some (.int x)) := by
  refine rs_z (cc := cJ3_checkIndex_8e157) (maxL := 3) (by decide) rfl (Nat.le_of_ble_eq_true rfl) ?_
  intro p_ e_ s_ m_ ar_ be_ me_ co_ ls Q_ hx hb hml hown hts hP hK hF hl hret
  have hown : s_.vm.findClass RJ3 = some m_.cls := hown
  have hl : lv_has ls 3 [(0, .int x), (1, .int y), (2, .null)] := hl
  refine lv_iload_n hx hb dJ3_checkIndex_8e157_0 rfl (lv_at hl 0 rfl) ?_
  refine lv_if_lt (tgt := 9) hx hb dJ3_checkIndex_8e157_1 (by decide) (fun c1 => absurd c1 (h0)) (fun c1 => ?_)
  refine lv_iload_n hx hb dJ3_checkIndex_8e157_4 rfl (lv_at hl 0 rfl) ?_
  refine lv_iload_n hx hb dJ3_checkIndex_8e157_5 rfl (lv_at hl 1 rfl) ?_
  refine lv_icmp_lt (tgt := 16) hx hb dJ3_checkIndex_8e157_6 (by decide) (fun c6 => ?_) (fun c6 => absurd (h1) c6)
  refine lv_iload_n hx hb dJ3_checkIndex_8e157_16 rfl (lv_at hl 0 rfl) ?_
  exact hret _ _ ls (rfl) (rfl) dJ3_checkIndex_8e157_17

set_option maxHeartbeats 4000000 in
set_option maxRecDepth 100000 in
theorem kJ0_checkIndex_df160 (l : Launch) (D : va_G) (cI cB : ClassId) (F : SFt) (x y : Int32) (h0 : ¬ x < 0) (h1 : x < y) : Rs l D (TY cI cB) yJ0_checkIndex_df160 wsJ0_checkIndex_df160 1 22 [.int x, .int y] [] F none := by
  refine rs_v (cc := cJ0_checkIndex_df160) (maxL := 2) (by decide) rfl (Nat.le_of_ble_eq_true rfl) ?_
  intro p_ e_ s_ m_ ar_ be_ me_ co_ ls Q_ hx hb hml hown hts hP hK hF hl hret
  have hown : s_.vm.findClass RJ0 = some m_.cls := hown
  have hl : lv_has ls 2 [(0, .int x), (1, .int y)] := hl
  refine lv_iload_n hx hb dJ0_checkIndex_df160_0 rfl (lv_at hl 0 rfl) ?_
  refine lv_iload_n hx hb dJ0_checkIndex_df160_1 rfl (lv_at hl 1 rfl) ?_
  rcases hF.2.2.1 with hz | ⟨t, hz⟩
  · refine va_gets hx hb hz va_S.rf hown (hts (.fieldLink RJ0 1053 "jdk/internal/util/Preconditions" "SIOOBE_FORMATTER" "Ljava/util/function/BiFunction;") (List.mem_of_getElem? (i := 1) rfl)) (fun _ h => h) dJ0_checkIndex_df160_2 ?_
    refine rs_S (As := [.int x, .int y, .null]) (rest := []) (kJ3_checkIndex_n l D cI cB F x y (by assumption) (by assumption)) ⟨hx, hb, hml, hown, hts⟩ (va_cwS 3 hts gJ0_checkIndex_df160_J3_checkIndex_8e157 rfl rfl rfl (by decide +kernel) ⟨Nat.le_of_ble_eq_true rfl, Nat.le_of_ble_eq_true rfl⟩) hK hP hF va_S.rf [] rfl rfl rfl hl.1 (Nat.le_of_ble_eq_true rfl) dJ0_checkIndex_df160_5 ⟨Nat.le_refl _, Nat.le_refl _⟩ ?_
    show W p_ l e_ (RM 1 22) s_ m_ ar_ be_ me_ co_ s_.heap [] 0 0 Q_ (F0 m_ 8 ls [.int x])
    refine lv_pop hx hb dJ0_checkIndex_df160_8 rfl ?_
    exact hret _ ls dJ0_checkIndex_df160_9
  · refine va_gets hx hb hz va_S.rf hown (hts (.fieldLink RJ0 1053 "jdk/internal/util/Preconditions" "SIOOBE_FORMATTER" "Ljava/util/function/BiFunction;") (List.mem_of_getElem? (i := 1) rfl)) (fun _ h => h) dJ0_checkIndex_df160_2 ?_
    refine rs_S (As := [.int x, .int y, .ref t]) (rest := []) (kJ3_checkIndex_8e157 l D cI cB F x y t (by assumption) (by assumption)) ⟨hx, hb, hml, hown, hts⟩ (va_cwS 3 hts gJ0_checkIndex_df160_J3_checkIndex_8e157 rfl rfl rfl (by decide +kernel) ⟨Nat.le_of_ble_eq_true rfl, Nat.le_of_ble_eq_true rfl⟩) hK hP hF va_S.rf [] rfl rfl rfl hl.1 (Nat.le_of_ble_eq_true rfl) dJ0_checkIndex_df160_5 ⟨Nat.le_refl _, Nat.le_refl _⟩ ?_
    show W p_ l e_ (RM 1 22) s_ m_ ar_ be_ me_ co_ s_.heap [] 0 0 Q_ (F0 m_ 8 ls [.int x])
    refine lv_pop hx hb dJ0_checkIndex_df160_8 rfl ?_
    exact hret _ ls dJ0_checkIndex_df160_9

set_option maxHeartbeats 4000000 in
set_option maxRecDepth 100000 in
theorem kJ1_charAt_3b067 (l : Launch) (D : va_G) (cI cB : ClassId) (F : SFt) (i j : Nat) (hi : i < 9) (hj : j < sfL.getD i 0) : Rs l D (TY cI cB) yJ1_charAt_3b067 wsJ1_charAt_3b067 2 43 [.ref (F.2 i), .int (nI j)] [] F (some (.int (chS i j))) := by
  refine rs_z (cc := cJ1_charAt_3b067) (maxL := 2) (by decide) rfl (Nat.le_of_ble_eq_true rfl) ?_
  intro p_ e_ s_ m_ ar_ be_ me_ co_ ls Q_ hx hb hml hown hts hP hK hF hl hret
  have hown : s_.vm.findClass RJ1 = some m_.cls := hown
  have hl : lv_has ls 2 [(0, .ref (F.2 i)), (1, .int (nI j))] := hl
  have hL := sfL_le i hi
  refine lv_iload_n hx hb dJ1_charAt_3b067_0 rfl (lv_at hl 1 rfl) ?_
  refine lv_aload_n hx hb dJ1_charAt_3b067_1 rfl (lv_at hl 0 rfl) ?_
  refine va_tlen (v := nI (sfL.getD i 0)) hx hb (hF.1.1 i hi).2.2.2 va_S.rf rfl dJ1_charAt_3b067_2 ?_
  refine rs_S (As := [.int (nI j), .int (nI (sfL.getD i 0))]) (rest := []) (kJ0_checkIndex_df160 l D cI cB F (nI j) (nI (sfL.getD i 0)) (nI_pos (by omega)) ((nI_ltI (by omega) (by omega)).mpr hj)) ⟨hx, hb, hml, hown, hts⟩ (va_cwS 2 hts gJ1_charAt_3b067_J0_checkIndex_df160 rfl rfl rfl (by decide +kernel) ⟨Nat.le_of_ble_eq_true rfl, Nat.le_of_ble_eq_true rfl⟩) hK hP hF va_S.rf [] rfl rfl rfl hl.1 (Nat.le_of_ble_eq_true rfl) dJ1_charAt_3b067_3 ⟨Nat.le_refl _, Nat.le_refl _⟩ ?_
  show W p_ l e_ (RM 2 43) s_ m_ ar_ be_ me_ co_ s_.heap [] 0 0 Q_ (F0 m_ 6 ls [])
  refine lv_aload_n hx hb dJ1_charAt_3b067_6 rfl (lv_at hl 0 rfl) ?_
  refine lv_iload_n hx hb dJ1_charAt_3b067_7 rfl (lv_at hl 1 rfl) ?_
  refine va_tb hx hb (hF.1.1 i hi).2.2.2 va_S.rf (v := .int (chS i j)) (vp_in_nI hj (by omega)) (by rw [nI_clamp (by omega)]; rfl) dJ1_charAt_3b067_8 ?_
  refine lv_sipush (v := 255) hx hb dJ1_charAt_3b067_9 (by decide) ?_
  refine lv_iand hx hb dJ1_charAt_3b067_12 ?_
  rw [show ((chS i j) &&& 255 : Int32) = chS i j from chS_and i hi j hj]
  refine lv_i2c (v := chS i j) hx hb dJ1_charAt_3b067_13 (chS_c i hi j hj) ?_
  exact hret _ _ ls (rfl) (chS_nar i hi j hj) dJ1_charAt_3b067_14

set_option maxHeartbeats 4000000 in
set_option maxRecDepth 100000 in
theorem kJ0_charAt_5068e (l : Launch) (D : va_G) (cI cB : ClassId) (F : SFt) (i j : Nat) (hi : i < 9) (hj : j < sfL.getD i 0) : Rs l D (TY cI cB) yJ0_charAt_5068e wsJ0_charAt_5068e 3 64 [.ref (F.1 i), .int (nI j)] [] F (some (.int (chS i j))) := by
  refine rs_z (cc := cJ0_charAt_5068e) (maxL := 2) (by decide) rfl (Nat.le_of_ble_eq_true rfl) ?_
  intro p_ e_ s_ m_ ar_ be_ me_ co_ ls Q_ hx hb hml hown hts hP hK hF hl hret
  have hown : s_.vm.findClass RJ0 = some m_.cls := hown
  have hl : lv_has ls 2 [(0, .ref (F.1 i)), (1, .int (nI j))] := hl
  refine lv_aload_n hx hb dJ0_charAt_5068e_0 rfl (lv_at hl 0 rfl) ?_
  refine rs_V (As := []) (rest := []) (kJ0_isLatin1_aae02 l D cI cB F i (by assumption)) ⟨hx, hb, hml, hown, hts⟩ (cwV 0 hts gJ0_charAt_5068e_J0_isLatin1_aae02 rfl rfl rfl (by decide +kernel) ⟨Nat.le_of_ble_eq_true rfl, Nat.le_of_ble_eq_true rfl⟩) hK hP hF va_S.rf [] rfl (vk_recv hF.1 hi va_S.rf) rfl rfl hl.1 (Nat.le_of_ble_eq_true rfl) dJ0_charAt_5068e_1 ⟨Nat.le_refl _, Nat.le_refl _⟩ ?_
  show W p_ l e_ (RM 3 64) s_ m_ ar_ be_ me_ co_ s_.heap [] 0 0 Q_ (F0 m_ 4 ls [.int 1])
  refine lv_if_eq (tgt := 16) hx hb dJ0_charAt_5068e_4 (by decide) (fun c4 => absurd c4 (by decide)) (fun c4 => ?_)
  refine lv_aload_n hx hb dJ0_charAt_5068e_7 rfl (lv_at hl 0 rfl) ?_
  refine vk_getf hx hb (hF.1.1 i hi).2.2.1 va_S.rf hown (hts (.fieldLink RJ0 9 "java/lang/String" "value" "[B") (List.mem_of_getElem? (i := 1) rfl)) (fun _ h => h) dJ0_charAt_5068e_8 ?_
  refine lv_iload_n hx hb dJ0_charAt_5068e_11 rfl (lv_at hl 1 rfl) ?_
  refine rs_S (As := [.ref (F.2 i), .int (nI j)]) (rest := []) (kJ1_charAt_3b067 l D cI cB F i j (by assumption) (by assumption)) ⟨hx, hb, hml, hown, hts⟩ (va_cwS 2 hts gJ0_charAt_5068e_J1_charAt_3b067 rfl rfl rfl (by decide +kernel) ⟨Nat.le_of_ble_eq_true rfl, Nat.le_of_ble_eq_true rfl⟩) hK hP hF va_S.rf [] rfl rfl rfl hl.1 (Nat.le_of_ble_eq_true rfl) dJ0_charAt_5068e_12 ⟨Nat.le_refl _, Nat.le_refl _⟩ ?_
  show W p_ l e_ (RM 3 64) s_ m_ ar_ be_ me_ co_ s_.heap [] 0 0 Q_ (F0 m_ 15 ls [.int (chS i j)])
  exact hret _ _ ls (rfl) (chS_nar i hi j hj) dJ0_charAt_5068e_15

set_option maxHeartbeats 4000000 in
set_option maxRecDepth 100000 in
theorem kX4_wordOf (l : Launch) (D : va_G) (cI cB : ClassId) (F : SFt) (k : Nat) (hk : k < 8) : Rs l D (TY cI cB) yX4_wordOf wsX4_wordOf 0 0 [.int (nI k)] [] F (some (.ref (F.1 k))) := by
  refine rs_a (cc := cX4_wordOf) (maxL := 1) (by decide) rfl (Nat.le_of_ble_eq_true rfl) ?_
  intro p_ e_ s_ m_ ar_ be_ me_ co_ ls Q_ hx hb hml hown hts hP hK hF hl hret
  have hown : s_.vm.findClass RX4 = some m_.cls := hown
  have hl : lv_has ls 1 [(0, .int (nI k))] := hl
  refine lv_iload_n hx hb dX4_wordOf_0 rfl (lv_at hl 0 rfl) ?_
  by_cases c1_0 : (nI k) = (0 : Int32)
  · refine lv_tableIn (off := 47) (tgt := 48) hx hb dX4_wordOf_1 (by rw [c1_0]; decide) (by rw [c1_0]; decide) (by rw [c1_0]; rfl) (by decide) ?_
    refine va_ldcS hx hb hown hF.2.2.2.1 dX4_wordOf_48 ?_
    exact hret _ _ ls (by rw [nI_inj (b := 0) c1_0 (by omega) (by omega)]) dX4_wordOf_50
  by_cases c1_1 : (nI k) = (1 : Int32)
  · refine lv_tableIn (off := 50) (tgt := 51) hx hb dX4_wordOf_1 (by rw [c1_1]; decide) (by rw [c1_1]; decide) (by rw [c1_1]; rfl) (by decide) ?_
    refine va_ldcS hx hb hown hF.2.2.2.2.1 dX4_wordOf_51 ?_
    exact hret _ _ ls (by rw [nI_inj (b := 1) c1_1 (by omega) (by omega)]) dX4_wordOf_53
  by_cases c1_2 : (nI k) = (2 : Int32)
  · refine lv_tableIn (off := 53) (tgt := 54) hx hb dX4_wordOf_1 (by rw [c1_2]; decide) (by rw [c1_2]; decide) (by rw [c1_2]; rfl) (by decide) ?_
    refine va_ldcS hx hb hown hF.2.2.2.2.2.1 dX4_wordOf_54 ?_
    exact hret _ _ ls (by rw [nI_inj (b := 2) c1_2 (by omega) (by omega)]) dX4_wordOf_56
  by_cases c1_3 : (nI k) = (3 : Int32)
  · refine lv_tableIn (off := 56) (tgt := 57) hx hb dX4_wordOf_1 (by rw [c1_3]; decide) (by rw [c1_3]; decide) (by rw [c1_3]; rfl) (by decide) ?_
    refine va_ldcS hx hb hown hF.2.2.2.2.2.2.1 dX4_wordOf_57 ?_
    exact hret _ _ ls (by rw [nI_inj (b := 3) c1_3 (by omega) (by omega)]) dX4_wordOf_59
  by_cases c1_4 : (nI k) = (4 : Int32)
  · refine lv_tableIn (off := 59) (tgt := 60) hx hb dX4_wordOf_1 (by rw [c1_4]; decide) (by rw [c1_4]; decide) (by rw [c1_4]; rfl) (by decide) ?_
    refine va_ldcS hx hb hown hF.2.2.2.2.2.2.2.1 dX4_wordOf_60 ?_
    exact hret _ _ ls (by rw [nI_inj (b := 4) c1_4 (by omega) (by omega)]) dX4_wordOf_62
  by_cases c1_5 : (nI k) = (5 : Int32)
  · refine lv_tableIn (off := 62) (tgt := 63) hx hb dX4_wordOf_1 (by rw [c1_5]; decide) (by rw [c1_5]; decide) (by rw [c1_5]; rfl) (by decide) ?_
    refine va_ldcS hx hb hown hF.2.2.2.2.2.2.2.2.1 dX4_wordOf_63 ?_
    exact hret _ _ ls (by rw [nI_inj (b := 5) c1_5 (by omega) (by omega)]) dX4_wordOf_65
  by_cases c1_6 : (nI k) = (6 : Int32)
  · refine lv_tableIn (off := 65) (tgt := 66) hx hb dX4_wordOf_1 (by rw [c1_6]; decide) (by rw [c1_6]; decide) (by rw [c1_6]; rfl) (by decide) ?_
    refine va_ldcS hx hb hown hF.2.2.2.2.2.2.2.2.2.1 dX4_wordOf_66 ?_
    exact hret _ _ ls (by rw [nI_inj (b := 6) c1_6 (by omega) (by omega)]) dX4_wordOf_68
  by_cases c1_7 : (nI k) = (7 : Int32)
  · refine lv_tableIn (off := 68) (tgt := 69) hx hb dX4_wordOf_1 (by rw [c1_7]; decide) (by rw [c1_7]; decide) (by rw [c1_7]; rfl) (by decide) ?_
    refine va_ldcS hx hb hown hF.2.2.2.2.2.2.2.2.2.2 dX4_wordOf_69 ?_
    exact hret _ _ ls (by rw [nI_inj (b := 7) c1_7 (by omega) (by omega)]) dX4_wordOf_71
  refine lv_tableOut (tgt := 72) hx hb dX4_wordOf_1 (by have q0 := lv_neT (a := 0) c1_0 rfl; have q1 := lv_neT (a := 1) c1_1 rfl; have q2 := lv_neT (a := 2) c1_2 rfl; have q3 := lv_neT (a := 3) c1_3 rfl; have q4 := lv_neT (a := 4) c1_4 rfl; have q5 := lv_neT (a := 5) c1_5 rfl; have q6 := lv_neT (a := 6) c1_6 rfl; have q7 := lv_neT (a := 7) c1_7 rfl; omega) (by decide) ?_
  exfalso
  have q0 : k ≠ 0 := fun z => c1_0 (by rw [z]; rfl)
  have q1 : k ≠ 1 := fun z => c1_1 (by rw [z]; rfl)
  have q2 : k ≠ 2 := fun z => c1_2 (by rw [z]; rfl)
  have q3 : k ≠ 3 := fun z => c1_3 (by rw [z]; rfl)
  have q4 : k ≠ 4 := fun z => c1_4 (by rw [z]; rfl)
  have q5 : k ≠ 5 := fun z => c1_5 (by rw [z]; rfl)
  have q6 : k ≠ 6 := fun z => c1_6 (by rw [z]; rfl)
  have q7 : k ≠ 7 := fun z => c1_7 (by rw [z]; rfl)
  omega

