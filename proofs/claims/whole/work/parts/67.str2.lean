/-- the first k letters are those of the word i -/
def wmX (B : Nat → Int32) (n s i : Nat) : Nat → Bool
  | 0 => true
  | k + 1 => wmX B n s i k && decide (chS i k = tpX B n (s + k))
theorem wmX_s (B : Nat → Int32) (n s i k : Nat) : wmX B n s i (k + 1) = (wmX B n s i k && decide (chS i k = tpX B n (s + k))) := rfl
theorem wmX_F {B : Nat → Int32} {n s i j : Nat} (h : ¬ chS i j = tpX B n (s + j)) : ∀ L, j < L → wmX B n s i L = false
  | 0, hL => by omega
  | L + 1, hL => by
    rw [wmX_s]
    by_cases hj : j = L
    · subst hj; rw [decide_eq_false h, Bool.and_false]
    · rw [wmX_F h L (by omega), Bool.false_and]
def iwX (B : Nat → Int32) (n s p i : Nat) : Int32 := if nI (sfL.getD i 0) = nI p - nI s then (if wmX B n s i (sfL.getD i 0) = true then 1 else 0) else 0
theorem iwX_b (B : Nat → Int32) (n s p i : Nat) : b01 (iwX B n s p i) := by
  unfold iwX b01
  split
  · split
    · exact Or.inr rfl
    · exact Or.inl rfl
  · exact Or.inl rfl
def swX (f : Nat → Int32) : Nat → Nat → Int32
  | 0, _ => -1
  | m + 1, k => if f k = 0 then swX f m (k + 1) else nI k
def soW (B : Nat → Int32) (n s p : Nat) : Int32 := swX (iwX B n s p) 8 0
theorem swX_s (f : Nat → Int32) (m k : Nat) : swX f (m + 1) k = if f k = 0 then swX f m (k + 1) else nI k := rfl
theorem in_X4_isWord_4 : ∀ w ∈ wsX40, w ∈ wsX4_isWord := fun _ h => List.mem_cons_of_mem _ (List.mem_append_left _ (List.mem_append_right _ (h)))
set_option maxHeartbeats 4000000 in
set_option maxRecDepth 100000 in
theorem kX4_isWord (l : Launch) (D : va_G) (cI cB : ClassId) (F : SFt) (rdr nb : Nat) (S : XSt) (t tb n : Nat) (B : Nat → Int32) (i : Nat) (hi : i < 9) (hn : n ≤ 840) : Rs l D (TY cI cB) yX4_isWord wsX4_isWord 4 85 [.ref rdr, .ref (F.1 i), .ref t] [(rdr, .inr (4, [.ref nb, .int (nI S.1), .int S.2.1, .int (nI S.2.2.1), .int (nI S.2.2.2.1), .int (nI S.2.2.2.2.1), .int S.2.2.2.2.2.1, .int S.2.2.2.2.2.2.1])), (nb, .inl (cI, 3, .inl S.2.2.2.2.2.2.2)), (t, .inr (6, [.ref tb, .int (nI n)])), (tb, .inl (cB, 840, .inl B))] F (some (.int (iwX B n S.2.2.2.2.1 S.2.2.2.1 i))) := by
  refine rs_z (cc := cX4_isWord) (maxL := 4) (by decide) rfl (Nat.le_of_ble_eq_true rfl) ?_
  intro p_ e_ s_ m_ ar_ be_ me_ co_ ls Q_ hx hb hml hown hts hP hK hF hl hret
  have hown : s_.vm.findClass RX4 = some m_.cls := hown
  have hl : lv_has ls 4 [(0, .ref rdr), (1, .ref (F.1 i)), (2, .ref t)] := hl
  have hL := sfL_le i hi
  refine lv_aload_n hx hb dX4_isWord_0 rfl (lv_at hl 1 rfl) ?_
  refine rs_V (As := []) (rest := []) (kJ0_length_8abf5 l D cI cB F i (by first | assumption | omega)) ⟨hx, hb, hml, hown, hts⟩ (cwV 0 hts gX4_isWord_J0_length_8abf5 rfl rfl rfl (by decide +kernel) ⟨Nat.le_of_ble_eq_true rfl, Nat.le_of_ble_eq_true rfl⟩) hK hP hF va_S.rf [] rfl (vk_recv hF.1 hi va_S.rf) rfl rfl hl.1 (Nat.le_of_ble_eq_true rfl) dX4_isWord_1 ⟨Nat.le_refl _, Nat.le_refl _⟩ ?_
  show W p_ l e_ (RM 4 85) s_ m_ ar_ be_ me_ co_ s_.heap [] 0 0 Q_ (F0 m_ 4 ls [.int (nI (sfL.getD i 0))])
  refine lv_aload_n hx hb dX4_isWord_4 rfl (lv_at hl 0 rfl) ?_
  refine g_get (C := RX4) (T := TX4) (N := 8) (ci := 4) (index := 30) hx hb hts in_X4_isWord_4 hown hK hP 0 4 rfl rfl (by decide) (List.mem_of_getElem? (i := 1) rfl) rfl dX4_isWord_5 ?_
  refine lv_aload_n hx hb dX4_isWord_8 rfl (lv_at hl 0 rfl) ?_
  refine g_get (C := RX4) (T := TX4) (N := 8) (ci := 4) (index := 93) hx hb hts in_X4_isWord_4 hown hK hP 0 5 rfl rfl (by decide) (List.mem_of_getElem? (i := 2) rfl) rfl dX4_isWord_9 ?_
  refine lv_isub hx hb dX4_isWord_12 ?_
  refine lv_icmp_eq (tgt := 18) hx hb dX4_isWord_13 (by decide) (fun c13 => ?_) (fun c13 => ?_)
  · refine lv_iconst (v := 0) hx hb dX4_isWord_18 (by decide) ?_
    refine lv_istore_n (lv' := [(3, .int 0), (0, .ref rdr), (1, .ref (F.1 i)), (2, .ref t)]) hx hb dX4_isWord_19 rfl hl (by decide) rfl (fun ls hl => ?_)
    have L20 : ∀ (nn_ : Nat) (j : Nat) (hj : j ≤ sfL.getD i 0) (hw : wmX B n S.2.2.2.2.1 i j = true) (xx_v3 : Int32), (sfL.getD i 0 - j) < nn_ → xx_v3 = nI j → ∀ (ls : Array Slot), lv_has ls 4 [(0, .ref rdr), (1, .ref (F.1 i)), (2, .ref t), (3, .int xx_v3)] → W p_ l e_ (RM 4 85) s_ m_ ar_ be_ me_ co_ s_.heap [] 0 0 Q_ (F0 m_ 20 ls []) := by
      intro nn_
      induction nn_ with
      | zero => intro j hj hw xx_v3 hn_; exact absurd hn_ (Nat.not_lt_zero _)
      | succ nn_ ih20 =>
        intro j hj hw xx_v3 hn_ e_xx_v3 ls hl
        subst e_xx_v3
        refine lv_iload_n hx hb dX4_isWord_20 rfl (lv_at hl 3 rfl) ?_
        refine lv_aload_n hx hb dX4_isWord_21 rfl (lv_at hl 1 rfl) ?_
        refine rs_V (As := []) (rest := [.int (nI j)]) (kJ0_length_8abf5 l D cI cB F i (by first | assumption | omega)) ⟨hx, hb, hml, hown, hts⟩ (cwV 0 hts gX4_isWord_J0_length_8abf5 rfl rfl rfl (by decide +kernel) ⟨Nat.le_of_ble_eq_true rfl, Nat.le_of_ble_eq_true rfl⟩) hK hP hF va_S.rf [] rfl (vk_recv hF.1 hi va_S.rf) rfl rfl hl.1 (Nat.le_of_ble_eq_true rfl) dX4_isWord_22 ⟨Nat.le_refl _, Nat.le_refl _⟩ ?_
        show W p_ l e_ (RM 4 85) s_ m_ ar_ be_ me_ co_ s_.heap [] 0 0 Q_ (F0 m_ 25 ls [.int (nI (sfL.getD i 0)), .int (nI j)])
        refine lv_icmp_ge (tgt := 54) hx hb dX4_isWord_25 (by decide) (fun c25 => ?_) (fun c25 => ?_)
        · refine lv_iconst (v := 1) hx hb dX4_isWord_54 (by decide) ?_
          exact hret _ _ ls (by unfold iwX; rw [if_pos c13, show sfL.getD i 0 = j from by have := ge_nI c25 (by omega) (by omega); omega, hw]; rfl) (by decide) dX4_isWord_55
        · have hlt : j < sfL.getD i 0 := lt_nI c25 (by omega) (by omega)
          refine lv_aload_n hx hb dX4_isWord_28 rfl (lv_at hl 1 rfl) ?_
          refine lv_iload_n hx hb dX4_isWord_29 rfl (lv_at hl 3 rfl) ?_
          refine rs_V (As := [.int (nI j)]) (rest := []) (kJ0_charAt_5068e l D cI cB F i j (by first | assumption | omega) (hlt)) ⟨hx, hb, hml, hown, hts⟩ (cwV 1 hts gX4_isWord_J0_charAt_5068e rfl rfl rfl (by decide +kernel) ⟨Nat.le_of_ble_eq_true rfl, Nat.le_of_ble_eq_true rfl⟩) hK hP hF va_S.rf [] rfl (vk_recv hF.1 hi va_S.rf) rfl rfl hl.1 (Nat.le_of_ble_eq_true rfl) dX4_isWord_30 ⟨Nat.le_refl _, Nat.le_refl _⟩ ?_
          show W p_ l e_ (RM 4 85) s_ m_ ar_ be_ me_ co_ s_.heap [] 0 0 Q_ (F0 m_ 33 ls [.int (chS i j)])
          refine lv_aload_n hx hb dX4_isWord_33 rfl (lv_at hl 2 rfl) ?_
          refine lv_aload_n hx hb dX4_isWord_34 rfl (lv_at hl 0 rfl) ?_
          refine g_get (C := RX4) (T := TX4) (N := 8) (ci := 4) (index := 93) hx hb hts in_X4_isWord_4 hown hK hP 0 5 rfl rfl (by decide) (List.mem_of_getElem? (i := 2) rfl) rfl dX4_isWord_35 ?_
          refine lv_iload_n hx hb dX4_isWord_38 rfl (lv_at hl 3 rfl) ?_
          refine lv_iadd hx hb dX4_isWord_39 ?_
          rw [show ((nI S.2.2.2.2.1) + (nI j) : Int32) = nI (S.2.2.2.2.1 + j) from nI_add _ _]
          refine rd_V (As := [.int (nI (S.2.2.2.2.1 + j))]) (rest := [.int (chS i j)]) (ci := 6) (kX6_at l D cI cB t tb n B (nI (S.2.2.2.2.1 + j)) (by first | assumption | omega)) ⟨hx, hb, hml, hown, hts⟩ (cwV 1 hts gX4_isWord_X6_at rfl rfl rfl (by decide +kernel) ⟨Nat.le_of_ble_eq_true rfl, Nat.le_of_ble_eq_true rfl⟩) hK hP [2, 3] rfl 2 rfl rfl rfl rfl hl.1 (Nat.le_of_ble_eq_true rfl) dX4_isWord_40 ⟨Nat.le_refl _, Nat.le_refl _⟩ ?_
          rw [show (tapeX B n (nI (S.2.2.2.2.1 + j)) : Int32) = tpX B n (S.2.2.2.2.1 + j) from rfl]
          refine lv_icmp_eq (tgt := 48) hx hb dX4_isWord_43 (by decide) (fun c43 => ?_) (fun c43 => ?_)
          · refine lv_iinc (v := nI (j + 1)) (lv' := [(3, .int (nI (j + 1))), (0, .ref rdr), (1, .ref (F.1 i)), (2, .ref t)]) hx hb dX4_isWord_48 hl (k := 3) rfl (nI_add _ 1) (by decide) rfl (fun ls hl => ?_)
            refine lv_goto (tgt := 20) hx hb dX4_isWord_51 (by decide) ?_
            exact ih20 (j + 1) (by omega) (by rw [wmX_s, hw, decide_eq_true c43, Bool.true_and]) _ (by omega) (rfl) ls (lv_sub hl [1, 2, 3, 0] rfl)
          · refine lv_iconst (v := 0) hx hb dX4_isWord_46 (by decide) ?_
            exact hret _ _ ls (by unfold iwX; rw [if_pos c13, wmX_F c43 _ hlt]; rfl) (by decide) dX4_isWord_47
    exact L20 (sfL.getD i 0 - 0 + 1) 0 (Nat.zero_le _) (rfl) _ (Nat.lt_succ_self _) (rfl) ls (lv_sub hl [1, 2, 3, 0] rfl)
  · refine lv_iconst (v := 0) hx hb dX4_isWord_16 (by decide) ?_
    exact hret _ _ ls (by unfold iwX; rw [if_neg c13]) (by decide) dX4_isWord_17

set_option maxHeartbeats 4000000 in
set_option maxRecDepth 100000 in
theorem kX4_sortOfWord (l : Launch) (D : va_G) (cI cB : ClassId) (F : SFt) (rdr nb : Nat) (S : XSt) (t tb n : Nat) (B : Nat → Int32) (hn : n ≤ 840) : Rs l D (TY cI cB) yX4_sortOfWord wsX4_sortOfWord 5 108 [.ref rdr, .ref t] [(rdr, .inr (4, [.ref nb, .int (nI S.1), .int S.2.1, .int (nI S.2.2.1), .int (nI S.2.2.2.1), .int (nI S.2.2.2.2.1), .int S.2.2.2.2.2.1, .int S.2.2.2.2.2.2.1])), (nb, .inl (cI, 3, .inl S.2.2.2.2.2.2.2)), (t, .inr (6, [.ref tb, .int (nI n)])), (tb, .inl (cB, 840, .inl B))] F (some (.int (soW B n S.2.2.2.2.1 S.2.2.2.1))) := by
  refine rs_z (cc := cX4_sortOfWord) (maxL := 3) (by decide) rfl (Nat.le_of_ble_eq_true rfl) ?_
  intro p_ e_ s_ m_ ar_ be_ me_ co_ ls Q_ hx hb hml hown hts hP hK hF hl hret
  have hown : s_.vm.findClass RX4 = some m_.cls := hown
  have hl : lv_has ls 3 [(0, .ref rdr), (1, .ref t)] := hl
  refine lv_iconst (v := 0) hx hb dX4_sortOfWord_0 (by decide) ?_
  refine lv_istore_n (lv' := [(2, .int 0), (0, .ref rdr), (1, .ref t)]) hx hb dX4_sortOfWord_1 rfl hl (by decide) rfl (fun ls hl => ?_)
  have L2 : ∀ (nn_ : Nat) (k : Nat) (hk : k ≤ 8) (hinv : swX (iwX B n S.2.2.2.2.1 S.2.2.2.1) (8 - k) k = soW B n S.2.2.2.2.1 S.2.2.2.1) (xx_v2 : Int32), (8 - k) < nn_ → xx_v2 = nI k → ∀ (ls : Array Slot), lv_has ls 3 [(0, .ref rdr), (1, .ref t), (2, .int xx_v2)] → W p_ l e_ (RM 5 108) s_ m_ ar_ be_ me_ co_ s_.heap [] 0 0 Q_ (F0 m_ 2 ls []) := by
    intro nn_
    induction nn_ with
    | zero => intro k hk hinv xx_v2 hn_; exact absurd hn_ (Nat.not_lt_zero _)
    | succ nn_ ih2 =>
      intro k hk hinv xx_v2 hn_ e_xx_v2 ls hl
      subst e_xx_v2
      refine lv_iload_n hx hb dX4_sortOfWord_2 rfl (lv_at hl 2 rfl) ?_
      refine lv_bipush (v := 8) hx hb dX4_sortOfWord_3 (by decide) ?_
      refine lv_icmp_ge (tgt := 28) hx hb dX4_sortOfWord_5 (by decide) (fun c5 => ?_) (fun c5 => ?_)
      · refine lv_iconst (v := -1) hx hb dX4_sortOfWord_28 (by decide) ?_
        exact hret _ _ ls (by rw [← hinv, show 8 - k = 0 from by have := ge_nI (b := 8) c5 (by omega) (by omega); omega]; rfl) (rfl) dX4_sortOfWord_29
      · have hlt : k < 8 := lt_nI (b := 8) c5 (by omega) (by omega)
        refine lv_aload_n hx hb dX4_sortOfWord_8 rfl (lv_at hl 0 rfl) ?_
        refine lv_iload_n hx hb dX4_sortOfWord_9 rfl (lv_at hl 2 rfl) ?_
        refine rs_S (As := [.int (nI k)]) (rest := [.ref rdr]) (kX4_wordOf l D cI cB F k (by first | assumption | omega)) ⟨hx, hb, hml, hown, hts⟩ (va_cwS 1 hts gX4_sortOfWord_X4_wordOf rfl rfl rfl (by decide +kernel) ⟨Nat.le_of_ble_eq_true rfl, Nat.le_of_ble_eq_true rfl⟩) hK hP hF va_S.rf [] rfl rfl rfl hl.1 (Nat.le_of_ble_eq_true rfl) dX4_sortOfWord_10 ⟨Nat.le_refl _, Nat.le_refl _⟩ ?_
        show W p_ l e_ (RM 5 108) s_ m_ ar_ be_ me_ co_ s_.heap [] 0 0 Q_ (F0 m_ 13 ls [.ref (F.1 k), .ref rdr])
        refine lv_aload_n hx hb dX4_sortOfWord_13 rfl (lv_at hl 1 rfl) ?_
        refine rs_V (As := [.ref (F.1 k), .ref t]) (rest := []) (kX4_isWord l D cI cB F rdr nb S t tb n B k (by omega) (by first | assumption | omega)) ⟨hx, hb, hml, hown, hts⟩ (cwV 2 hts gX4_sortOfWord_X4_isWord rfl rfl rfl (by decide +kernel) ⟨Nat.le_of_ble_eq_true rfl, Nat.le_of_ble_eq_true rfl⟩) hK hP hF va_S.rf [0, 1, 2, 3] rfl (va_recv (ci := 4) (q0 := 0) hK hP rfl rfl) rfl rfl hl.1 (Nat.le_of_ble_eq_true rfl) dX4_sortOfWord_14 ⟨Nat.le_refl _, Nat.le_refl _⟩ ?_
        show W p_ l e_ (RM 5 108) s_ m_ ar_ be_ me_ co_ s_.heap [] 0 0 Q_ (F0 m_ 17 ls [.int (iwX B n S.2.2.2.2.1 S.2.2.2.1 k)])
        refine lv_if_eq (tgt := 22) hx hb dX4_sortOfWord_17 (by decide) (fun c17 => ?_) (fun c17 => ?_)
        · refine lv_iinc (v := nI (k + 1)) (lv' := [(2, .int (nI (k + 1))), (0, .ref rdr), (1, .ref t)]) hx hb dX4_sortOfWord_22 hl (k := 2) rfl (nI_add _ 1) (by decide) rfl (fun ls hl => ?_)
          refine lv_goto (tgt := 2) hx hb dX4_sortOfWord_25 (by decide) ?_
          exact ih2 (k + 1) (by omega) (by rw [← hinv, show 8 - k = (8 - (k + 1)) + 1 from by omega, swX_s, if_pos c17]) _ (by omega) (rfl) ls (lv_sub hl [1, 2, 0] rfl)
        · refine lv_iload_n hx hb dX4_sortOfWord_20 rfl (lv_at hl 2 rfl) ?_
          exact hret _ _ ls (by rw [← hinv, show 8 - k = (8 - (k + 1)) + 1 from by omega, swX_s, if_neg c17]) (rfl) dX4_sortOfWord_21
  exact L2 (8 - 0 + 1) 0 (by omega) (rfl) _ (Nat.lt_succ_self _) (rfl) ls (lv_sub hl [1, 2, 0] rfl)

