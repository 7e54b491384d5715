def RI (n : Nat) (S : XSt) (Z : DYt) : Prop := S.2.2.2.1 ≤ n ∧ (Z.2.2.1 0 ≤ 4 ∧ Z.2.2.1 1 ≤ 4 ∧ Z.2.2.1 2 ≤ 6 ∧ Z.2.2.1 3 ≤ 20 ∧ Z.2.2.1 4 ≤ 20 ∧ Z.2.2.1 5 = 0) ∧ b01 (Z.2.2.2 11) ∧ (S.1 = 0 → Z.2.2.1 0 = 0) ∧ (0 < S.1 → S.1 ≤ 5 → Z.2.2.1 0 + 1 = S.1)
theorem cc_x {l : Nat} {s : Int32} (hl : l ≤ 1000) (h : ¬ ccX l s = 0) : (l = 0 ∧ s = 0) ∨ (0 < l ∧ l ≤ 4 ∧ s = 1) ∨ (l = 5 ∧ s = 2) ∨ (6 ≤ l ∧ ¬ s < 3) := by
  unfold ccX at h
  by_cases h0 : nI l = 0
  · rw [if_pos h0] at h
    refine Or.inl ⟨nI_inj (b := 0) h0 (by omega) (by omega), ?_⟩
    by_cases hs : s = 0
    · exact hs
    · rw [if_neg hs] at h; exact absurd rfl h
  · have h0' : 0 < l := Nat.pos_of_ne_zero (fun z => h0 (by rw [z]; rfl))
    rw [if_neg h0] at h
    by_cases h4 : 4 < nI l
    · have h4' : 4 < l := (nI_ltI (a := 4) (by omega) (by omega)).mp h4
      rw [if_pos h4] at h
      by_cases h6 : 6 ≤ nI l
      · have h6' : 6 ≤ l := nI_le_lit (a := 6) h6 (by omega) (by omega)
        rw [if_pos h6] at h
        by_cases hs : s < 3
        · rw [if_pos hs] at h; exact absurd rfl h
        · exact Or.inr (Or.inr (Or.inr ⟨h6', hs⟩))
      · have h6' : ¬ 6 ≤ l := fun z => h6 (by
          rw [Int32.le_iff_toInt_le, nI_toInt (by omega)]; show (6 : Int) ≤ _; omega)
        rw [if_neg h6] at h
        by_cases hs : s = 2
        · exact Or.inr (Or.inr (Or.inl ⟨by omega, hs⟩))
        · rw [if_neg hs] at h; exact absurd rfl h
    · have h4' : ¬ 4 < l := fun z => h4 ((nI_ltI (a := 4) (by omega) (by omega)).mpr z)
      rw [if_neg h4] at h
      by_cases hs : s = 1
      · exact Or.inr (Or.inl ⟨h0', by omega, hs⟩)
      · rw [if_neg hs] at h; exact absurd rfl h
theorem tokX_1 (B : Nat → Int32) (n : Nat) (S : XSt) : (tokX B n S).1 = S.1 ∧ (tokX B n S).2.1 = S.2.1 := by
  unfold tokX
  split
  · split
    · exact ⟨rfl, rfl⟩
    · exact ⟨rfl, rfl⟩
  · exact ⟨rfl, rfl⟩
theorem nlX_pl {B : Nat → Int32} {n : Nat} {Z : DYt} {s : Int32} : ∀ (m i : Nat) (S : XSt), S.2.2.2.1 ≤ n → (nlX B n Z s m i S).2.2.2.1 ≤ n ∧ (nlX B n Z s m i S).1 = S.1
  | 0, _, S, h => ⟨h, rfl⟩
  | m + 1, i, S, h => by
    rw [nlX_s]
    split
    · have q := nlX_pl (B := B) (n := n) (Z := Z) (s := s) m (i + 1) (taX (tokX B n S) Z s i) (by rw [(taX_pl _ _ _ _).1]; exact tokX_pl h)
      refine ⟨q.1, ?_⟩
      rw [q.2, (taX_pl _ _ _ _).2, (tokX_1 _ _ _).1]
    · exact ⟨h, rfl⟩
theorem teX_c {N : Nat → Int32} {Z : DYt} {s : Int32} : (teX N Z s).2.2.1 0 = Z.2.2.1 0 + (if s = 1 then 1 else 0) ∧ (teX N Z s).2.2.1 1 = Z.2.2.1 1 + (if s = 3 then 1 else 0) ∧ (teX N Z s).2.2.1 2 = Z.2.2.1 2 + (if s = 5 then 1 else 0) ∧ (teX N Z s).2.2.1 3 = Z.2.2.1 3 + (if s = 6 then 1 else 0) ∧ (teX N Z s).2.2.1 4 = Z.2.2.1 4 + (if s = 7 then 1 else 0) ∧ (teX N Z s).2.2.1 5 = Z.2.2.1 5 ∧ (teX N Z s).2.2.2 11 = (if s = 4 then 1 else Z.2.2.2 11) ∧ (teX N Z s).1 5 = Z.1 5 ∧ (teX N Z s).2.1 5 = Z.2.1 5 := by
  unfold teX
  by_cases h0 : s = 0
  · subst h0; rw [if_pos rfl]; refine ⟨rfl, rfl, rfl, rfl, rfl, rfl, rfl, rfl, rfl⟩
  rw [if_neg h0]
  by_cases h1 : s = 1
  · subst h1; rw [if_pos rfl]; refine ⟨rfl, rfl, rfl, rfl, rfl, rfl, rfl, rfl, rfl⟩
  rw [if_neg h1]
  by_cases h2 : s = 2
  · subst h2; rw [if_pos rfl]; refine ⟨rfl, rfl, rfl, rfl, rfl, rfl, rfl, rfl, rfl⟩
  rw [if_neg h2]
  by_cases h3 : s = 3
  · subst h3; rw [if_pos rfl]; refine ⟨rfl, rfl, rfl, rfl, rfl, rfl, rfl, rfl, rfl⟩
  rw [if_neg h3]
  by_cases h4 : s = 4
  · subst h4; rw [if_pos rfl]; refine ⟨rfl, rfl, rfl, rfl, rfl, rfl, rfl, rfl, rfl⟩
  rw [if_neg h4]
  by_cases h5 : s = 5
  · subst h5; rw [if_pos rfl]; refine ⟨rfl, rfl, rfl, rfl, rfl, rfl, rfl, rfl, rfl⟩
  rw [if_neg h5]
  by_cases h6 : s = 6
  · subst h6; rw [if_pos rfl]; refine ⟨rfl, rfl, rfl, rfl, rfl, rfl, rfl, rfl, rfl⟩
  rw [if_neg h6]
  by_cases h7 : s = 7
  · subst h7; rw [if_pos rfl]; refine ⟨rfl, rfl, rfl, rfl, rfl, rfl, rfl, rfl, rfl⟩
  rw [if_neg h7]
  simp [h1, h3, h4, h5, h6, h7]
theorem lnX_5 (B : Nat → Int32) (n : Nat) (S : XSt) (Z : DYt) : (lnX B n S Z).2.1 5 = Z.1 5 ∧ (lnX B n S Z).2.2.1 5 = Z.2.1 5 ∧ (lnX B n S Z).2.2.2.1 5 = Z.2.2.1 5 ∧ (lnX B n S Z).1.1 ≤ S.1 + 1 := by
  unfold lnX
  split
  · exact ⟨rfl, rfl, rfl, Nat.le_succ _⟩
  · split
    · unfold lnT
      have nl1 : ∀ (m i : Nat) (S : XSt), (nlX B n Z (srX B n S) m i S).1 = S.1 := fun m i S => by
        have : ∀ (s : Int32) (m i : Nat) (S : XSt), (nlX B n Z s m i S).1 = S.1 := by
          intro s m
          induction m with
          | zero => intro i S; rfl
          | succ m ih =>
            intro i S
            rw [nlX_s]
            split
            · rw [ih, (taX_pl _ _ _ _).2, (tokX_1 _ _ _).1]
            · rfl
        exact this _ m i S
      split
      · unfold clX
        split
        · refine ⟨teX_c.2.2.2.2.2.2.2.1, teX_c.2.2.2.2.2.2.2.2, teX_c.2.2.2.2.2.1, ?_⟩
          show (tokX B n _).1 + 1 ≤ _
          rw [(tokX_1 _ _ _).1, nl1]
          exact Nat.le_refl _
        · refine ⟨rfl, rfl, rfl, ?_⟩
          show (tokX B n _).1 ≤ _
          rw [(tokX_1 _ _ _).1, nl1]
          exact Nat.le_succ _
      · refine ⟨rfl, rfl, rfl, ?_⟩
        show (nlX B n Z _ _ _ S).1 ≤ _
        rw [nl1]
        exact Nat.le_succ _
    · exact ⟨rfl, rfl, rfl, Nat.le_succ _⟩
theorem lnX_RI {B : Nat → Int32} {n : Nat} {S : XSt} {Z : DYt} (hl : S.1 ≤ 1000) (h : RI n S Z) : RI n (lnX B n S Z).1 (lnX B n S Z).2 := by
  obtain ⟨h1, ⟨z0, z1, z2, z3, z4, z5⟩, hb, h3, h4⟩ := h
  unfold lnX
  by_cases hcc : ccX S.1 (srX B n S) = 0
  · rw [if_pos hcc]; exact ⟨h1, ⟨z0, z1, z2, z3, z4, z5⟩, hb, h3, h4⟩
  rw [if_neg hcc]
  by_cases hha : haX Z (srX B n S) = 0
  · rw [if_pos hha]
    have nl := nlX_pl (B := B) (n := n) (Z := Z) (s := srX B n S) (nmN (srX B n S)) 0 S h1
    generalize nlX B n Z (srX B n S) (nmN (srX B n S)) 0 S = S2 at nl ⊢
    obtain ⟨nl1, nl2⟩ := nl
    unfold lnT
    split
    · have tp := tokX_pl (B := B) nl1
      have t1 := tokX_1 B n S2
      unfold clX
      split
      · have hx := cc_x hl hcc
        have ha := ha_t hha
        obtain ⟨q1, q3, q5, q6, -⟩ := ha
        have tc := teX_c (N := (tokX B n S2).2.2.2.2.2.2.2) (Z := Z) (s := srX B n S)
        obtain ⟨c0, c1, c2, c3, c4, c5, c11, -⟩ := tc
        generalize srX B n S = s at *
        refine ⟨tp, ⟨?_, ?_, ?_, ?_, ?_, ?_⟩, ?_, ?_, ?_⟩
        · rw [c0]; split
          · rename_i hs; rcases hx with hx | hx | hx | hx
            · rw [hx.2] at hs; exact absurd hs (by decide)
            · have := h4 hx.1 (by omega); omega
            · rw [hx.2] at hs; exact absurd hs (by decide)
            · rw [hs] at hx; exact absurd (by decide) hx.2
          · omega
        · rw [c1]; split
          · rename_i hs; have := q1 hs z1; omega
          · omega
        · rw [c2]; split
          · rename_i hs; have := q3 hs z2; omega
          · omega
        · rw [c3]; split
          · rename_i hs; have := q5 hs (by omega); omega
          · omega
        · rw [c4]; split
          · rename_i hs; have := q6 hs (by omega); omega
          · omega
        · rw [c5]; exact z5
        · rw [c11]; split
          · exact Or.inr rfl
          · exact hb
        · intro z; exact absurd z (Nat.succ_ne_zero _)
        · intro _ hle
          have hle : (tokX B n S2).1 + 1 ≤ 5 := hle
          show _ = (tokX B n S2).1 + 1
          rw [t1.1, nl2] at hle ⊢
          rw [c0]
          rcases hx with hx | hx | hx | hx
          · rw [hx.2, if_neg (by decide), h3 hx.1, hx.1]
          · rw [hx.2.2, if_pos rfl, h4 hx.1 (by omega)]
          · omega
          · omega
      · refine ⟨tp, ⟨z0, z1, z2, z3, z4, z5⟩, hb, ?_, ?_⟩
        · show (tokX B n S2).1 = 0 → _; rw [t1.1, nl2]; exact h3
        · show 0 < (tokX B n S2).1 → (tokX B n S2).1 ≤ 5 → _ = (tokX B n S2).1; rw [t1.1, nl2]; exact h4
    · refine ⟨nl1, ⟨z0, z1, z2, z3, z4, z5⟩, hb, ?_, ?_⟩
      · show S2.1 = 0 → _; rw [nl2]; exact h3
      · show 0 < S2.1 → S2.1 ≤ 5 → _ = S2.1; rw [nl2]; exact h4
  · rw [if_neg hha]; exact ⟨h1, ⟨z0, z1, z2, z3, z4, z5⟩, hb, h3, h4⟩
theorem tokX_RI {B : Nat → Int32} {n : Nat} {S : XSt} {Z : DYt} (h : RI n S Z) : RI n (tokX B n S) Z := by
  obtain ⟨h1, h2, hb, h3, h4⟩ := h
  exact ⟨tokX_pl h1, h2, hb, by rw [(tokX_1 B n S).1]; exact h3, by rw [(tokX_1 B n S).1]; exact h4⟩
/-- a text, at most m lines of it -/
def rdX (B : Nat → Int32) (n : Nat) : Nat → XSt → DYt → XSt × DYt
  | 0, S, Z => (S, Z)
  | m + 1, S, Z => if S.2.1 = 0 then (if (tokX B n S).2.2.2.2.2.1 = 0 then (csX9 (tokX B n S) n, Z) else rdX B n m (lnX B n (tokX B n S) Z).1 (lnX B n (tokX B n S) Z).2) else (S, Z)
theorem rdX_s (B : Nat → Int32) (n m : Nat) (S : XSt) (Z : DYt) : rdX B n (m + 1) S Z = if S.2.1 = 0 then (if (tokX B n S).2.2.2.2.2.1 = 0 then (csX9 (tokX B n S) n, Z) else rdX B n m (lnX B n (tokX B n S) Z).1 (lnX B n (tokX B n S) Z).2) else (S, Z) := rfl
def reX (B : Nat → Int32) (n : Nat) (S : XSt) (Z : DYt) : XSt × DYt := rdX B n 801 (0, 0, 0, 0, S.2.2.2.2.1, S.2.2.2.2.2.1, S.2.2.2.2.2.2.1, S.2.2.2.2.2.2.2) (foZ Z)
theorem csX9_RI {n m : Nat} {S : XSt} {Z : DYt} (h : RI n S Z) : RI n (csX9 S m) Z := by
  unfold csX9
  repeat' split
  all_goals exact h
theorem rdX_RI {B : Nat → Int32} {n : Nat} : ∀ (m : Nat) (S : XSt) (Z : DYt), S.1 + m ≤ 801 → RI n S Z → RI n (rdX B n m S Z).1 (rdX B n m S Z).2
  | 0, S, Z, _, h => h
  | m + 1, S, Z, hm, h => by
    rw [rdX_s]
    split
    · split
      · exact csX9_RI (tokX_RI h)
      · have h5 := (lnX_5 B n (tokX B n S) Z).2.2.2
        rw [(tokX_1 B n S).1] at h5
        exact rdX_RI m _ _ (by omega) (lnX_RI (by rw [(tokX_1 B n S).1]; omega) (tokX_RI h))
    · exact h
theorem reX_RI (B : Nat → Int32) (n : Nat) (S : XSt) (Z : DYt) : RI n (reX B n S Z).1 (reX B n S Z).2 := by
  refine rdX_RI 801 _ _ (by show 0 + 801 ≤ 801; omega) ?_
  exact ⟨Nat.zero_le _, ⟨Nat.zero_le _, Nat.zero_le _, Nat.zero_le _, Nat.zero_le _, Nat.zero_le _, rfl⟩, Or.inl rfl, fun _ => rfl, fun z => absurd z (Nat.lt_irrefl 0)⟩
theorem in_X4_read_4 : ∀ w ∈ wsX40, w ∈ wsX4_read := fun _ h => List.mem_cons_of_mem _ (List.mem_append_left _ (List.mem_append_left _ (List.mem_append_left _ (List.mem_append_right _ (h)))))
set_option maxHeartbeats 4000000 in
set_option maxRecDepth 100000 in
theorem kX4_read (l : Launch) (D : va_G) (cI cB : ClassId) (F : SFt) (rdr nb : Nat) (S : XSt) (t tb n : Nat) (B : Nat → Int32) (dy : Nat) (Za Zfa Zsa : Nat → Nat) (Z : DYt) (hn : n ≤ 840) : Ws l D (TY cI cB) yX4_read wsX4_read 7 155 [.ref rdr, .ref t, .ref dy] [(rdr, .inr (4, [.ref nb, .int (nI S.1), .int S.2.1, .int (nI S.2.2.1), .int (nI S.2.2.2.1), .int (nI S.2.2.2.2.1), .int S.2.2.2.2.2.1, .int S.2.2.2.2.2.2.1])), (nb, .inl (cI, 3, .inl S.2.2.2.2.2.2.2)), (t, .inr (6, [.ref tb, .int (nI n)])), (tb, .inl (cB, 840, .inl B)), (dy, .inr (7, [.ref (Za 0), .ref (Za 1), .ref (Za 2), .ref (Za 3), .ref (Za 4), .ref (Za 5), .int (Z.2.2.2 6), .int (Z.2.2.2 7), .int (Z.2.2.2 8), .int (Z.2.2.2 9), .int (Z.2.2.2 10), .int (Z.2.2.2 11), .int (Z.2.2.2 12), .int (Z.2.2.2 13)])), (Za 0, .inr (5, [.ref (Zfa 0), .ref (Zsa 0), .int (nI (Z.2.2.1 0))])), (Zfa 0, .inl (cI, 4, .inl (Z.1 0))), (Zsa 0, .inl (cI, 4, .inl (Z.2.1 0))), (Za 1, .inr (5, [.ref (Zfa 1), .ref (Zsa 1), .int (nI (Z.2.2.1 1))])), (Zfa 1, .inl (cI, 4, .inl (Z.1 1))), (Zsa 1, .inl (cI, 4, .inl (Z.2.1 1))), (Za 2, .inr (5, [.ref (Zfa 2), .ref (Zsa 2), .int (nI (Z.2.2.1 2))])), (Zfa 2, .inl (cI, 6, .inl (Z.1 2))), (Zsa 2, .inl (cI, 6, .inl (Z.2.1 2))), (Za 3, .inr (5, [.ref (Zfa 3), .ref (Zsa 3), .int (nI (Z.2.2.1 3))])), (Zfa 3, .inl (cI, 40, .inl (Z.1 3))), (Zsa 3, .inl (cI, 40, .inl (Z.2.1 3))), (Za 4, .inr (5, [.ref (Zfa 4), .ref (Zsa 4), .int (nI (Z.2.2.1 4))])), (Zfa 4, .inl (cI, 40, .inl (Z.1 4))), (Zsa 4, .inl (cI, 40, .inl (Z.2.1 4))), (Za 5, .inr (5, [.ref (Zfa 5), .ref (Zsa 5), .int (nI (Z.2.2.1 5))])), (Zfa 5, .inl (cI, 20, .inl (Z.1 5))), (Zsa 5, .inl (cI, 20, .inl (Z.2.1 5)))] [(rdr, .inr (4, [.ref nb, .int (nI (reX B n S Z).1.1), .int (reX B n S Z).1.2.1, .int (nI (reX B n S Z).1.2.2.1), .int (nI (reX B n S Z).1.2.2.2.1), .int (nI (reX B n S Z).1.2.2.2.2.1), .int (reX B n S Z).1.2.2.2.2.2.1, .int (reX B n S Z).1.2.2.2.2.2.2.1])), (nb, .inl (cI, 3, .inl (reX B n S Z).1.2.2.2.2.2.2.2)), (t, .inr (6, [.ref tb, .int (nI n)])), (tb, .inl (cB, 840, .inl B)), (dy, .inr (7, [.ref (Za 0), .ref (Za 1), .ref (Za 2), .ref (Za 3), .ref (Za 4), .ref (Za 5), .int ((reX B n S Z).2.2.2.2 6), .int ((reX B n S Z).2.2.2.2 7), .int ((reX B n S Z).2.2.2.2 8), .int ((reX B n S Z).2.2.2.2 9), .int ((reX B n S Z).2.2.2.2 10), .int ((reX B n S Z).2.2.2.2 11), .int ((reX B n S Z).2.2.2.2 12), .int ((reX B n S Z).2.2.2.2 13)])), (Za 0, .inr (5, [.ref (Zfa 0), .ref (Zsa 0), .int (nI ((reX B n S Z).2.2.2.1 0))])), (Zfa 0, .inl (cI, 4, .inl ((reX B n S Z).2.1 0))), (Zsa 0, .inl (cI, 4, .inl ((reX B n S Z).2.2.1 0))), (Za 1, .inr (5, [.ref (Zfa 1), .ref (Zsa 1), .int (nI ((reX B n S Z).2.2.2.1 1))])), (Zfa 1, .inl (cI, 4, .inl ((reX B n S Z).2.1 1))), (Zsa 1, .inl (cI, 4, .inl ((reX B n S Z).2.2.1 1))), (Za 2, .inr (5, [.ref (Zfa 2), .ref (Zsa 2), .int (nI ((reX B n S Z).2.2.2.1 2))])), (Zfa 2, .inl (cI, 6, .inl ((reX B n S Z).2.1 2))), (Zsa 2, .inl (cI, 6, .inl ((reX B n S Z).2.2.1 2))), (Za 3, .inr (5, [.ref (Zfa 3), .ref (Zsa 3), .int (nI ((reX B n S Z).2.2.2.1 3))])), (Zfa 3, .inl (cI, 40, .inl ((reX B n S Z).2.1 3))), (Zsa 3, .inl (cI, 40, .inl ((reX B n S Z).2.2.1 3))), (Za 4, .inr (5, [.ref (Zfa 4), .ref (Zsa 4), .int (nI ((reX B n S Z).2.2.2.1 4))])), (Zfa 4, .inl (cI, 40, .inl ((reX B n S Z).2.1 4))), (Zsa 4, .inl (cI, 40, .inl ((reX B n S Z).2.2.1 4))), (Za 5, .inr (5, [.ref (Zfa 5), .ref (Zsa 5), .int (nI ((reX B n S Z).2.2.2.1 5))])), (Zfa 5, .inl (cI, 20, .inl ((reX B n S Z).2.1 5))), (Zsa 5, .inl (cI, 20, .inl ((reX B n S Z).2.2.1 5)))] F none := by
  refine ws_v (cc := cX4_read) (maxL := 4) (by decide) rfl (Nat.le_of_ble_eq_true rfl) ?_
  intro p_ e_ s_ m_ ar_ be_ me_ co_ ls Q_ A_ hx hb hml hown hts hP hK hD hS hF hl hret
  have hown : s_.vm.findClass RX4 = some m_.cls := hown
  have hl : lv_has ls 4 [(0, .ref rdr), (1, .ref t), (2, .ref dy)] := hl
  refine lv_aload_n hx hb dX4_read_0 rfl (lv_at hl 2 rfl) ?_
  refine wp_V (As := []) (rest := []) (ci := 7) (ws' := [(rdr, .inr (4, [.ref nb, .int (nI S.1), .int S.2.1, .int (nI S.2.2.1), .int (nI S.2.2.2.1), .int (nI S.2.2.2.2.1), .int S.2.2.2.2.2.1, .int S.2.2.2.2.2.2.1])), (nb, .inl (cI, 3, .inl S.2.2.2.2.2.2.2)), (t, .inr (6, [.ref tb, .int (nI n)])), (tb, .inl (cB, 840, .inl B)), (dy, .inr (7, [.ref (Za 0), .ref (Za 1), .ref (Za 2), .ref (Za 3), .ref (Za 4), .ref (Za 5), .int ((foZ Z).2.2.2 6), .int ((foZ Z).2.2.2 7), .int ((foZ Z).2.2.2 8), .int ((foZ Z).2.2.2 9), .int ((foZ Z).2.2.2 10), .int ((foZ Z).2.2.2 11), .int ((foZ Z).2.2.2 12), .int ((foZ Z).2.2.2 13)])), (Za 0, .inr (5, [.ref (Zfa 0), .ref (Zsa 0), .int (nI ((foZ Z).2.2.1 0))])), (Zfa 0, .inl (cI, 4, .inl ((foZ Z).1 0))), (Zsa 0, .inl (cI, 4, .inl ((foZ Z).2.1 0))), (Za 1, .inr (5, [.ref (Zfa 1), .ref (Zsa 1), .int (nI ((foZ Z).2.2.1 1))])), (Zfa 1, .inl (cI, 4, .inl ((foZ Z).1 1))), (Zsa 1, .inl (cI, 4, .inl ((foZ Z).2.1 1))), (Za 2, .inr (5, [.ref (Zfa 2), .ref (Zsa 2), .int (nI ((foZ Z).2.2.1 2))])), (Zfa 2, .inl (cI, 6, .inl ((foZ Z).1 2))), (Zsa 2, .inl (cI, 6, .inl ((foZ Z).2.1 2))), (Za 3, .inr (5, [.ref (Zfa 3), .ref (Zsa 3), .int (nI ((foZ Z).2.2.1 3))])), (Zfa 3, .inl (cI, 40, .inl ((foZ Z).1 3))), (Zsa 3, .inl (cI, 40, .inl ((foZ Z).2.1 3))), (Za 4, .inr (5, [.ref (Zfa 4), .ref (Zsa 4), .int (nI ((foZ Z).2.2.1 4))])), (Zfa 4, .inl (cI, 40, .inl ((foZ Z).1 4))), (Zsa 4, .inl (cI, 40, .inl ((foZ Z).2.1 4))), (Za 5, .inr (5, [.ref (Zfa 5), .ref (Zsa 5), .int (nI ((foZ Z).2.2.1 5))])), (Zfa 5, .inl (cI, 20, .inl ((foZ Z).1 5))), (Zsa 5, .inl (cI, 20, .inl ((foZ Z).2.1 5)))]) (kX7_forget l D cI cB dy Za Zfa Zsa Z ) ⟨hx, hb, hml, hown, hts⟩ (cwV 0 hts gX4_read_X7_forget rfl rfl rfl (by decide +kernel) ⟨Nat.le_of_ble_eq_true rfl, Nat.le_of_ble_eq_true rfl⟩) hK hP hD hS [4, 5, 6, 7, 8, 9, 10, 11, 12, 13, 14, 15, 16, 17, 18, 19, 20, 21, 22] [0, 1, 2, 3] rfl rfl (two_eq [some (rdr, .inr (4, [.ref nb, .int (nI S.1), .int S.2.1, .int (nI S.2.2.1), .int (nI S.2.2.2.1), .int (nI S.2.2.2.2.1), .int S.2.2.2.2.2.1, .int S.2.2.2.2.2.2.1])), some (nb, .inl (cI, 3, .inl S.2.2.2.2.2.2.2)), some (t, .inr (6, [.ref tb, .int (nI n)])), some (tb, .inl (cB, 840, .inl B))] rfl rfl) 23 rfl (by decide +kernel) (by decide +kernel) (two_eq [rdr, nb, t, tb, dy, Za 0, Zfa 0, Zsa 0, Za 1, Zfa 1, Zsa 1, Za 2, Zfa 2, Zsa 2, Za 3, Zfa 3, Zsa 3, Za 4, Zfa 4, Zsa 4, Za 5, Zfa 5, Zsa 5] rfl rfl) (by decide +kernel) 4 rfl rfl rfl rfl hl.1 (Nat.le_of_ble_eq_true rfl) dX4_read_1 ⟨Nat.le_refl _, Nat.le_refl _⟩ (fun H_ lc_ hP hD hS => ?_)
  show W p_ l e_ (RM 7 155) s_ m_ ar_ be_ me_ co_ H_ lc_ 0 0 Q_ (F0 m_ 4 ls [])
  refine lv_aload_n hx hb dX4_read_4 rfl (lv_at hl 0 rfl) ?_
  refine lv_iconst (v := 0) hx hb dX4_read_5 (by decide) ?_
  refine g_put (C := RX4) (T := TX4) (N := 8) (ci := 4) (index := 20) (v := .int 0) (ws' := [(rdr, .inr (4, [.ref nb, .int 0, .int S.2.1, .int (nI S.2.2.1), .int (nI S.2.2.2.1), .int (nI S.2.2.2.2.1), .int S.2.2.2.2.2.1, .int S.2.2.2.2.2.2.1])), (nb, .inl (cI, 3, .inl S.2.2.2.2.2.2.2)), (t, .inr (6, [.ref tb, .int (nI n)])), (tb, .inl (cB, 840, .inl B)), (dy, .inr (7, [.ref (Za 0), .ref (Za 1), .ref (Za 2), .ref (Za 3), .ref (Za 4), .ref (Za 5), .int ((foZ Z).2.2.2 6), .int ((foZ Z).2.2.2 7), .int ((foZ Z).2.2.2 8), .int ((foZ Z).2.2.2 9), .int ((foZ Z).2.2.2 10), .int ((foZ Z).2.2.2 11), .int ((foZ Z).2.2.2 12), .int ((foZ Z).2.2.2 13)])), (Za 0, .inr (5, [.ref (Zfa 0), .ref (Zsa 0), .int (nI ((foZ Z).2.2.1 0))])), (Zfa 0, .inl (cI, 4, .inl ((foZ Z).1 0))), (Zsa 0, .inl (cI, 4, .inl ((foZ Z).2.1 0))), (Za 1, .inr (5, [.ref (Zfa 1), .ref (Zsa 1), .int (nI ((foZ Z).2.2.1 1))])), (Zfa 1, .inl (cI, 4, .inl ((foZ Z).1 1))), (Zsa 1, .inl (cI, 4, .inl ((foZ Z).2.1 1))), (Za 2, .inr (5, [.ref (Zfa 2), .ref (Zsa 2), .int (nI ((foZ Z).2.2.1 2))])), (Zfa 2, .inl (cI, 6, .inl ((foZ Z).1 2))), (Zsa 2, .inl (cI, 6, .inl ((foZ Z).2.1 2))), (Za 3, .inr (5, [.ref (Zfa 3), .ref (Zsa 3), .int (nI ((foZ Z).2.2.1 3))])), (Zfa 3, .inl (cI, 40, .inl ((foZ Z).1 3))), (Zsa 3, .inl (cI, 40, .inl ((foZ Z).2.1 3))), (Za 4, .inr (5, [.ref (Zfa 4), .ref (Zsa 4), .int (nI ((foZ Z).2.2.1 4))])), (Zfa 4, .inl (cI, 40, .inl ((foZ Z).1 4))), (Zsa 4, .inl (cI, 40, .inl ((foZ Z).2.1 4))), (Za 5, .inr (5, [.ref (Zfa 5), .ref (Zsa 5), .int (nI ((foZ Z).2.2.1 5))])), (Zfa 5, .inl (cI, 20, .inl ((foZ Z).1 5))), (Zsa 5, .inl (cI, 20, .inl ((foZ Z).2.1 5)))]) hx hb hts in_X4_read_4 tyX4 tyX4_ok nmX4 hown hK hP hD hS 0 1 rfl rfl (by decide) (List.mem_of_getElem? (i := 1) rfl) rfl rfl rfl (Nat.le_of_ble_eq_true rfl) dX4_read_6 rfl (fun H_ lc_ hP hD hS => ?_)
  refine lv_aload_n hx hb dX4_read_9 rfl (lv_at hl 0 rfl) ?_
  refine lv_iconst (v := 0) hx hb dX4_read_10 (by decide) ?_
  refine g_put (C := RX4) (T := TX4) (N := 8) (ci := 4) (index := 24) (v := .int 0) (ws' := [(rdr, .inr (4, [.ref nb, .int 0, .int 0, .int (nI S.2.2.1), .int (nI S.2.2.2.1), .int (nI S.2.2.2.2.1), .int S.2.2.2.2.2.1, .int S.2.2.2.2.2.2.1])), (nb, .inl (cI, 3, .inl S.2.2.2.2.2.2.2)), (t, .inr (6, [.ref tb, .int (nI n)])), (tb, .inl (cB, 840, .inl B)), (dy, .inr (7, [.ref (Za 0), .ref (Za 1), .ref (Za 2), .ref (Za 3), .ref (Za 4), .ref (Za 5), .int ((foZ Z).2.2.2 6), .int ((foZ Z).2.2.2 7), .int ((foZ Z).2.2.2 8), .int ((foZ Z).2.2.2 9), .int ((foZ Z).2.2.2 10), .int ((foZ Z).2.2.2 11), .int ((foZ Z).2.2.2 12), .int ((foZ Z).2.2.2 13)])), (Za 0, .inr (5, [.ref (Zfa 0), .ref (Zsa 0), .int (nI ((foZ Z).2.2.1 0))])), (Zfa 0, .inl (cI, 4, .inl ((foZ Z).1 0))), (Zsa 0, .inl (cI, 4, .inl ((foZ Z).2.1 0))), (Za 1, .inr (5, [.ref (Zfa 1), .ref (Zsa 1), .int (nI ((foZ Z).2.2.1 1))])), (Zfa 1, .inl (cI, 4, .inl ((foZ Z).1 1))), (Zsa 1, .inl (cI, 4, .inl ((foZ Z).2.1 1))), (Za 2, .inr (5, [.ref (Zfa 2), .ref (Zsa 2), .int (nI ((foZ Z).2.2.1 2))])), (Zfa 2, .inl (cI, 6, .inl ((foZ Z).1 2))), (Zsa 2, .inl (cI, 6, .inl ((foZ Z).2.1 2))), (Za 3, .inr (5, [.ref (Zfa 3), .ref (Zsa 3), .int (nI ((foZ Z).2.2.1 3))])), (Zfa 3, .inl (cI, 40, .inl ((foZ Z).1 3))), (Zsa 3, .inl (cI, 40, .inl ((foZ Z).2.1 3))), (Za 4, .inr (5, [.ref (Zfa 4), .ref (Zsa 4), .int (nI ((foZ Z).2.2.1 4))])), (Zfa 4, .inl (cI, 40, .inl ((foZ Z).1 4))), (Zsa 4, .inl (cI, 40, .inl ((foZ Z).2.1 4))), (Za 5, .inr (5, [.ref (Zfa 5), .ref (Zsa 5), .int (nI ((foZ Z).2.2.1 5))])), (Zfa 5, .inl (cI, 20, .inl ((foZ Z).1 5))), (Zsa 5, .inl (cI, 20, .inl ((foZ Z).2.1 5)))]) hx hb hts in_X4_read_4 tyX4 tyX4_ok nmX4 hown hK hP hD hS 0 2 rfl rfl (by decide) (List.mem_of_getElem? (i := 2) rfl) rfl rfl rfl (Nat.le_of_ble_eq_true rfl) dX4_read_11 rfl (fun H_ lc_ hP hD hS => ?_)
  refine lv_aload_n hx hb dX4_read_14 rfl (lv_at hl 0 rfl) ?_
  refine lv_iconst (v := 0) hx hb dX4_read_15 (by decide) ?_
  refine g_put (C := RX4) (T := TX4) (N := 8) (ci := 4) (index := 27) (v := .int 0) (ws' := [(rdr, .inr (4, [.ref nb, .int 0, .int 0, .int 0, .int (nI S.2.2.2.1), .int (nI S.2.2.2.2.1), .int S.2.2.2.2.2.1, .int S.2.2.2.2.2.2.1])), (nb, .inl (cI, 3, .inl S.2.2.2.2.2.2.2)), (t, .inr (6, [.ref tb, .int (nI n)])), (tb, .inl (cB, 840, .inl B)), (dy, .inr (7, [.ref (Za 0), .ref (Za 1), .ref (Za 2), .ref (Za 3), .ref (Za 4), .ref (Za 5), .int ((foZ Z).2.2.2 6), .int ((foZ Z).2.2.2 7), .int ((foZ Z).2.2.2 8), .int ((foZ Z).2.2.2 9), .int ((foZ Z).2.2.2 10), .int ((foZ Z).2.2.2 11), .int ((foZ Z).2.2.2 12), .int ((foZ Z).2.2.2 13)])), (Za 0, .inr (5, [.ref (Zfa 0), .ref (Zsa 0), .int (nI ((foZ Z).2.2.1 0))])), (Zfa 0, .inl (cI, 4, .inl ((foZ Z).1 0))), (Zsa 0, .inl (cI, 4, .inl ((foZ Z).2.1 0))), (Za 1, .inr (5, [.ref (Zfa 1), .ref (Zsa 1), .int (nI ((foZ Z).2.2.1 1))])), (Zfa 1, .inl (cI, 4, .inl ((foZ Z).1 1))), (Zsa 1, .inl (cI, 4, .inl ((foZ Z).2.1 1))), (Za 2, .inr (5, [.ref (Zfa 2), .ref (Zsa 2), .int (nI ((foZ Z).2.2.1 2))])), (Zfa 2, .inl (cI, 6, .inl ((foZ Z).1 2))), (Zsa 2, .inl (cI, 6, .inl ((foZ Z).2.1 2))), (Za 3, .inr (5, [.ref (Zfa 3), .ref (Zsa 3), .int (nI ((foZ Z).2.2.1 3))])), (Zfa 3, .inl (cI, 40, .inl ((foZ Z).1 3))), (Zsa 3, .inl (cI, 40, .inl ((foZ Z).2.1 3))), (Za 4, .inr (5, [.ref (Zfa 4), .ref (Zsa 4), .int (nI ((foZ Z).2.2.1 4))])), (Zfa 4, .inl (cI, 40, .inl ((foZ Z).1 4))), (Zsa 4, .inl (cI, 40, .inl ((foZ Z).2.1 4))), (Za 5, .inr (5, [.ref (Zfa 5), .ref (Zsa 5), .int (nI ((foZ Z).2.2.1 5))])), (Zfa 5, .inl (cI, 20, .inl ((foZ Z).1 5))), (Zsa 5, .inl (cI, 20, .inl ((foZ Z).2.1 5)))]) hx hb hts in_X4_read_4 tyX4 tyX4_ok nmX4 hown hK hP hD hS 0 3 rfl rfl (by decide) (List.mem_of_getElem? (i := 3) rfl) rfl rfl rfl (Nat.le_of_ble_eq_true rfl) dX4_read_16 rfl (fun H_ lc_ hP hD hS => ?_)
  refine lv_aload_n hx hb dX4_read_19 rfl (lv_at hl 0 rfl) ?_
  refine lv_iconst (v := 0) hx hb dX4_read_20 (by decide) ?_
  refine g_put (C := RX4) (T := TX4) (N := 8) (ci := 4) (index := 30) (v := .int 0) (ws' := [(rdr, .inr (4, [.ref nb, .int 0, .int 0, .int 0, .int 0, .int (nI S.2.2.2.2.1), .int S.2.2.2.2.2.1, .int S.2.2.2.2.2.2.1])), (nb, .inl (cI, 3, .inl S.2.2.2.2.2.2.2)), (t, .inr (6, [.ref tb, .int (nI n)])), (tb, .inl (cB, 840, .inl B)), (dy, .inr (7, [.ref (Za 0), .ref (Za 1), .ref (Za 2), .ref (Za 3), .ref (Za 4), .ref (Za 5), .int ((foZ Z).2.2.2 6), .int ((foZ Z).2.2.2 7), .int ((foZ Z).2.2.2 8), .int ((foZ Z).2.2.2 9), .int ((foZ Z).2.2.2 10), .int ((foZ Z).2.2.2 11), .int ((foZ Z).2.2.2 12), .int ((foZ Z).2.2.2 13)])), (Za 0, .inr (5, [.ref (Zfa 0), .ref (Zsa 0), .int (nI ((foZ Z).2.2.1 0))])), (Zfa 0, .inl (cI, 4, .inl ((foZ Z).1 0))), (Zsa 0, .inl (cI, 4, .inl ((foZ Z).2.1 0))), (Za 1, .inr (5, [.ref (Zfa 1), .ref (Zsa 1), .int (nI ((foZ Z).2.2.1 1))])), (Zfa 1, .inl (cI, 4, .inl ((foZ Z).1 1))), (Zsa 1, .inl (cI, 4, .inl ((foZ Z).2.1 1))), (Za 2, .inr (5, [.ref (Zfa 2), .ref (Zsa 2), .int (nI ((foZ Z).2.2.1 2))])), (Zfa 2, .inl (cI, 6, .inl ((foZ Z).1 2))), (Zsa 2, .inl (cI, 6, .inl ((foZ Z).2.1 2))), (Za 3, .inr (5, [.ref (Zfa 3), .ref (Zsa 3), .int (nI ((foZ Z).2.2.1 3))])), (Zfa 3, .inl (cI, 40, .inl ((foZ Z).1 3))), (Zsa 3, .inl (cI, 40, .inl ((foZ Z).2.1 3))), (Za 4, .inr (5, [.ref (Zfa 4), .ref (Zsa 4), .int (nI ((foZ Z).2.2.1 4))])), (Zfa 4, .inl (cI, 40, .inl ((foZ Z).1 4))), (Zsa 4, .inl (cI, 40, .inl ((foZ Z).2.1 4))), (Za 5, .inr (5, [.ref (Zfa 5), .ref (Zsa 5), .int (nI ((foZ Z).2.2.1 5))])), (Zfa 5, .inl (cI, 20, .inl ((foZ Z).1 5))), (Zsa 5, .inl (cI, 20, .inl ((foZ Z).2.1 5)))]) hx hb hts in_X4_read_4 tyX4 tyX4_ok nmX4 hown hK hP hD hS 0 4 rfl rfl (by decide) (List.mem_of_getElem? (i := 4) rfl) rfl rfl rfl (Nat.le_of_ble_eq_true rfl) dX4_read_21 rfl (fun H_ lc_ hP hD hS => ?_)
  refine lv_iconst (v := 0) hx hb dX4_read_24 (by decide) ?_
  refine lv_istore_n (lv' := [(3, .int 0), (0, .ref rdr), (1, .ref t), (2, .ref dy)]) hx hb dX4_read_25 rfl hl (by decide) rfl (fun ls hl => ?_)
  have L26 : ∀ (nn_ : Nat) (r : Nat) (S1 : XSt) (Z1 : DYt) (hr : r ≤ 801) (hl1 : S1.1 ≤ r) (hRI : RI n S1 Z1) (hinv : rdX B n (801 - r) S1 Z1 = reX B n S Z) (xx_v3 : Int32) (xx_u0_1 : Int32) (xx_u0_2 : Int32) (xx_u0_3 : Int32) (xx_u0_4 : Int32) (xx_u0_5 : Int32) (xx_u0_6 : Int32) (xx_u0_7 : Int32) (xx_g1 : Nat → Int32) (xx_u4_6 : Int32) (xx_u4_7 : Int32) (xx_u4_8 : Int32) (xx_u4_9 : Int32) (xx_u4_10 : Int32) (xx_u4_11 : Int32) (xx_u4_12 : Int32) (xx_u4_13 : Int32) (xx_u5_2 : Int32) (xx_g6 : Nat → Int32) (xx_g7 : Nat → Int32) (xx_u8_2 : Int32) (xx_g9 : Nat → Int32) (xx_g10 : Nat → Int32) (xx_u11_2 : Int32) (xx_g12 : Nat → Int32) (xx_g13 : Nat → Int32) (xx_u14_2 : Int32) (xx_g15 : Nat → Int32) (xx_g16 : Nat → Int32) (xx_u17_2 : Int32) (xx_g18 : Nat → Int32) (xx_g19 : Nat → Int32) (xx_u20_2 : Int32) (xx_g21 : Nat → Int32) (xx_g22 : Nat → Int32), (802 - r) < nn_ → xx_v3 = nI r → xx_u0_1 = nI S1.1 → xx_u0_2 = S1.2.1 → xx_u0_3 = nI S1.2.2.1 → xx_u0_4 = nI S1.2.2.2.1 → xx_u0_5 = nI S1.2.2.2.2.1 → xx_u0_6 = S1.2.2.2.2.2.1 → xx_u0_7 = S1.2.2.2.2.2.2.1 → xx_g1 = S1.2.2.2.2.2.2.2 → xx_u4_6 = Z1.2.2.2 6 → xx_u4_7 = Z1.2.2.2 7 → xx_u4_8 = Z1.2.2.2 8 → xx_u4_9 = Z1.2.2.2 9 → xx_u4_10 = Z1.2.2.2 10 → xx_u4_11 = Z1.2.2.2 11 → xx_u4_12 = Z1.2.2.2 12 → xx_u4_13 = Z1.2.2.2 13 → xx_u5_2 = nI (Z1.2.2.1 0) → xx_g6 = Z1.1 0 → xx_g7 = Z1.2.1 0 → xx_u8_2 = nI (Z1.2.2.1 1) → xx_g9 = Z1.1 1 → xx_g10 = Z1.2.1 1 → xx_u11_2 = nI (Z1.2.2.1 2) → xx_g12 = Z1.1 2 → xx_g13 = Z1.2.1 2 → xx_u14_2 = nI (Z1.2.2.1 3) → xx_g15 = Z1.1 3 → xx_g16 = Z1.2.1 3 → xx_u17_2 = nI (Z1.2.2.1 4) → xx_g18 = Z1.1 4 → xx_g19 = Z1.2.1 4 → xx_u20_2 = nI (Z1.2.2.1 5) → xx_g21 = Z1.1 5 → xx_g22 = Z1.2.1 5 → ∀ (H_ : Heap) (lc_ : List Loc), va_P D vwCl [(rdr, .inr (4, [.ref nb, .int xx_u0_1, .int xx_u0_2, .int xx_u0_3, .int xx_u0_4, .int xx_u0_5, .int xx_u0_6, .int xx_u0_7])), (nb, .inl (cI, 3, .inl xx_g1)), (t, .inr (6, [.ref tb, .int (nI n)])), (tb, .inl (cB, 840, .inl B)), (dy, .inr (7, [.ref (Za 0), .ref (Za 1), .ref (Za 2), .ref (Za 3), .ref (Za 4), .ref (Za 5), .int xx_u4_6, .int xx_u4_7, .int xx_u4_8, .int xx_u4_9, .int xx_u4_10, .int xx_u4_11, .int xx_u4_12, .int xx_u4_13])), (Za 0, .inr (5, [.ref (Zfa 0), .ref (Zsa 0), .int xx_u5_2])), (Zfa 0, .inl (cI, 4, .inl xx_g6)), (Zsa 0, .inl (cI, 4, .inl xx_g7)), (Za 1, .inr (5, [.ref (Zfa 1), .ref (Zsa 1), .int xx_u8_2])), (Zfa 1, .inl (cI, 4, .inl xx_g9)), (Zsa 1, .inl (cI, 4, .inl xx_g10)), (Za 2, .inr (5, [.ref (Zfa 2), .ref (Zsa 2), .int xx_u11_2])), (Zfa 2, .inl (cI, 6, .inl xx_g12)), (Zsa 2, .inl (cI, 6, .inl xx_g13)), (Za 3, .inr (5, [.ref (Zfa 3), .ref (Zsa 3), .int xx_u14_2])), (Zfa 3, .inl (cI, 40, .inl xx_g15)), (Zsa 3, .inl (cI, 40, .inl xx_g16)), (Za 4, .inr (5, [.ref (Zfa 4), .ref (Zsa 4), .int xx_u17_2])), (Zfa 4, .inl (cI, 40, .inl xx_g18)), (Zsa 4, .inl (cI, 40, .inl xx_g19)), (Za 5, .inr (5, [.ref (Zfa 5), .ref (Zsa 5), .int xx_u20_2])), (Zfa 5, .inl (cI, 20, .inl xx_g21)), (Zsa 5, .inl (cI, 20, .inl xx_g22))] H_ → va_D A_ [(rdr, .inr (4, [.ref nb, .int xx_u0_1, .int xx_u0_2, .int xx_u0_3, .int xx_u0_4, .int xx_u0_5, .int xx_u0_6, .int xx_u0_7])), (nb, .inl (cI, 3, .inl xx_g1)), (t, .inr (6, [.ref tb, .int (nI n)])), (tb, .inl (cB, 840, .inl B)), (dy, .inr (7, [.ref (Za 0), .ref (Za 1), .ref (Za 2), .ref (Za 3), .ref (Za 4), .ref (Za 5), .int xx_u4_6, .int xx_u4_7, .int xx_u4_8, .int xx_u4_9, .int xx_u4_10, .int xx_u4_11, .int xx_u4_12, .int xx_u4_13])), (Za 0, .inr (5, [.ref (Zfa 0), .ref (Zsa 0), .int xx_u5_2])), (Zfa 0, .inl (cI, 4, .inl xx_g6)), (Zsa 0, .inl (cI, 4, .inl xx_g7)), (Za 1, .inr (5, [.ref (Zfa 1), .ref (Zsa 1), .int xx_u8_2])), (Zfa 1, .inl (cI, 4, .inl xx_g9)), (Zsa 1, .inl (cI, 4, .inl xx_g10)), (Za 2, .inr (5, [.ref (Zfa 2), .ref (Zsa 2), .int xx_u11_2])), (Zfa 2, .inl (cI, 6, .inl xx_g12)), (Zsa 2, .inl (cI, 6, .inl xx_g13)), (Za 3, .inr (5, [.ref (Zfa 3), .ref (Zsa 3), .int xx_u14_2])), (Zfa 3, .inl (cI, 40, .inl xx_g15)), (Zsa 3, .inl (cI, 40, .inl xx_g16)), (Za 4, .inr (5, [.ref (Zfa 4), .ref (Zsa 4), .int xx_u17_2])), (Zfa 4, .inl (cI, 40, .inl xx_g18)), (Zsa 4, .inl (cI, 40, .inl xx_g19)), (Za 5, .inr (5, [.ref (Zfa 5), .ref (Zsa 5), .int xx_u20_2])), (Zfa 5, .inl (cI, 20, .inl xx_g21)), (Zsa 5, .inl (cI, 20, .inl xx_g22))] → va_S A_ s_.heap H_ lc_ → ∀ (ls : Array Slot), lv_has ls 4 [(0, .ref rdr), (1, .ref t), (2, .ref dy), (3, .int xx_v3)] → W p_ l e_ (RM 7 155) s_ m_ ar_ be_ me_ co_ H_ lc_ 0 0 Q_ (F0 m_ 26 ls []) := by
    intro nn_
    induction nn_ with
    | zero => intro r S1 Z1 hr hl1 hRI hinv xx_v3 xx_u0_1 xx_u0_2 xx_u0_3 xx_u0_4 xx_u0_5 xx_u0_6 xx_u0_7 xx_g1 xx_u4_6 xx_u4_7 xx_u4_8 xx_u4_9 xx_u4_10 xx_u4_11 xx_u4_12 xx_u4_13 xx_u5_2 xx_g6 xx_g7 xx_u8_2 xx_g9 xx_g10 xx_u11_2 xx_g12 xx_g13 xx_u14_2 xx_g15 xx_g16 xx_u17_2 xx_g18 xx_g19 xx_u20_2 xx_g21 xx_g22 hn_; exact absurd hn_ (Nat.not_lt_zero _)
    | succ nn_ ih26 =>
      intro r S1 Z1 hr hl1 hRI hinv xx_v3 xx_u0_1 xx_u0_2 xx_u0_3 xx_u0_4 xx_u0_5 xx_u0_6 xx_u0_7 xx_g1 xx_u4_6 xx_u4_7 xx_u4_8 xx_u4_9 xx_u4_10 xx_u4_11 xx_u4_12 xx_u4_13 xx_u5_2 xx_g6 xx_g7 xx_u8_2 xx_g9 xx_g10 xx_u11_2 xx_g12 xx_g13 xx_u14_2 xx_g15 xx_g16 xx_u17_2 xx_g18 xx_g19 xx_u20_2 xx_g21 xx_g22 hn_ e_xx_v3 e_xx_u0_1 e_xx_u0_2 e_xx_u0_3 e_xx_u0_4 e_xx_u0_5 e_xx_u0_6 e_xx_u0_7 e_xx_g1 e_xx_u4_6 e_xx_u4_7 e_xx_u4_8 e_xx_u4_9 e_xx_u4_10 e_xx_u4_11 e_xx_u4_12 e_xx_u4_13 e_xx_u5_2 e_xx_g6 e_xx_g7 e_xx_u8_2 e_xx_g9 e_xx_g10 e_xx_u11_2 e_xx_g12 e_xx_g13 e_xx_u14_2 e_xx_g15 e_xx_g16 e_xx_u17_2 e_xx_g18 e_xx_g19 e_xx_u20_2 e_xx_g21 e_xx_g22 H_ lc_ hP hD hS ls hl
      subst e_xx_v3 e_xx_u0_1 e_xx_u0_2 e_xx_u0_3 e_xx_u0_4 e_xx_u0_5 e_xx_u0_6 e_xx_u0_7 e_xx_g1 e_xx_u4_6 e_xx_u4_7 e_xx_u4_8 e_xx_u4_9 e_xx_u4_10 e_xx_u4_11 e_xx_u4_12 e_xx_u4_13 e_xx_u5_2 e_xx_g6 e_xx_g7 e_xx_u8_2 e_xx_g9 e_xx_g10 e_xx_u11_2 e_xx_g12 e_xx_g13 e_xx_u14_2 e_xx_g15 e_xx_g16 e_xx_u17_2 e_xx_g18 e_xx_g19 e_xx_u20_2 e_xx_g21 e_xx_g22
      refine lv_iload_n hx hb dX4_read_26 rfl (lv_at hl 3 rfl) ?_
      refine lv_sipush (v := 800) hx hb dX4_read_27 (by decide) ?_
      refine lv_icmp_gt (tgt := 70) hx hb dX4_read_30 (by decide) (fun c30 => ?_) (fun c30 => ?_)
      · exact hret _ _ _ ls hS (by rw [← hinv, show 801 - r = 0 from by have := (nI_ltI (a := 800) (by omega) (by omega)).mp c30; omega, show rdX B n 0 S1 Z1 = (S1, Z1) from rfl]; exact hP) dX4_read_70
      · have hlt : r ≤ 800 := Nat.not_lt.mp (fun z => c30 ((nI_ltI (a := 800) (by omega) (by omega)).mpr z))
        refine lv_aload_n hx hb dX4_read_33 rfl (lv_at hl 0 rfl) ?_
        refine g_get (C := RX4) (T := TX4) (N := 8) (ci := 4) (index := 24) hx hb hts in_X4_read_4 hown hK hP 0 2 rfl rfl (by decide) (List.mem_of_getElem? (i := 2) rfl) rfl dX4_read_34 ?_
        refine lv_if_ne (tgt := 70) hx hb dX4_read_37 (by decide) (fun c37 => ?_) (fun c37 => ?_)
        · exact hret _ _ _ ls hS (by rw [← hinv, show 801 - r = (801 - (r + 1)) + 1 from by omega, rdX_s, if_neg c37]; exact hP) dX4_read_70
        · refine lv_aload_n hx hb dX4_read_40 rfl (lv_at hl 0 rfl) ?_
          refine lv_aload_n hx hb dX4_read_41 rfl (lv_at hl 1 rfl) ?_
          refine wp_V (As := [.ref t]) (rest := []) (ci := 4) (ws' := [(rdr, .inr (4, [.ref nb, .int (nI (tokX B n S1).1), .int (tokX B n S1).2.1, .int (nI (tokX B n S1).2.2.1), .int (nI (tokX B n S1).2.2.2.1), .int (nI (tokX B n S1).2.2.2.2.1), .int (tokX B n S1).2.2.2.2.2.1, .int (tokX B n S1).2.2.2.2.2.2.1])), (nb, .inl (cI, 3, .inl (tokX B n S1).2.2.2.2.2.2.2)), (t, .inr (6, [.ref tb, .int (nI n)])), (tb, .inl (cB, 840, .inl B)), (dy, .inr (7, [.ref (Za 0), .ref (Za 1), .ref (Za 2), .ref (Za 3), .ref (Za 4), .ref (Za 5), .int (Z1.2.2.2 6), .int (Z1.2.2.2 7), .int (Z1.2.2.2 8), .int (Z1.2.2.2 9), .int (Z1.2.2.2 10), .int (Z1.2.2.2 11), .int (Z1.2.2.2 12), .int (Z1.2.2.2 13)])), (Za 0, .inr (5, [.ref (Zfa 0), .ref (Zsa 0), .int (nI (Z1.2.2.1 0))])), (Zfa 0, .inl (cI, 4, .inl (Z1.1 0))), (Zsa 0, .inl (cI, 4, .inl (Z1.2.1 0))), (Za 1, .inr (5, [.ref (Zfa 1), .ref (Zsa 1), .int (nI (Z1.2.2.1 1))])), (Zfa 1, .inl (cI, 4, .inl (Z1.1 1))), (Zsa 1, .inl (cI, 4, .inl (Z1.2.1 1))), (Za 2, .inr (5, [.ref (Zfa 2), .ref (Zsa 2), .int (nI (Z1.2.2.1 2))])), (Zfa 2, .inl (cI, 6, .inl (Z1.1 2))), (Zsa 2, .inl (cI, 6, .inl (Z1.2.1 2))), (Za 3, .inr (5, [.ref (Zfa 3), .ref (Zsa 3), .int (nI (Z1.2.2.1 3))])), (Zfa 3, .inl (cI, 40, .inl (Z1.1 3))), (Zsa 3, .inl (cI, 40, .inl (Z1.2.1 3))), (Za 4, .inr (5, [.ref (Zfa 4), .ref (Zsa 4), .int (nI (Z1.2.2.1 4))])), (Zfa 4, .inl (cI, 40, .inl (Z1.1 4))), (Zsa 4, .inl (cI, 40, .inl (Z1.2.1 4))), (Za 5, .inr (5, [.ref (Zfa 5), .ref (Zsa 5), .int (nI (Z1.2.2.1 5))])), (Zfa 5, .inl (cI, 20, .inl (Z1.1 5))), (Zsa 5, .inl (cI, 20, .inl (Z1.2.1 5)))]) (kX4_readToken l D cI cB rdr nb S1 t tb n B (hn) (hRI.1)) ⟨hx, hb, hml, hown, hts⟩ (cwV 1 hts gX4_read_X4_readToken rfl rfl rfl (by decide +kernel) ⟨Nat.le_of_ble_eq_true rfl, Nat.le_of_ble_eq_true rfl⟩) hK hP hD hS [0, 1, 2, 3] [4, 5, 6, 7, 8, 9, 10, 11, 12, 13, 14, 15, 16, 17, 18, 19, 20, 21, 22] rfl rfl (two_eq [some (dy, .inr (7, [.ref (Za 0), .ref (Za 1), .ref (Za 2), .ref (Za 3), .ref (Za 4), .ref (Za 5), .int (Z1.2.2.2 6), .int (Z1.2.2.2 7), .int (Z1.2.2.2 8), .int (Z1.2.2.2 9), .int (Z1.2.2.2 10), .int (Z1.2.2.2 11), .int (Z1.2.2.2 12), .int (Z1.2.2.2 13)])), some (Za 0, .inr (5, [.ref (Zfa 0), .ref (Zsa 0), .int (nI (Z1.2.2.1 0))])), some (Zfa 0, .inl (cI, 4, .inl (Z1.1 0))), some (Zsa 0, .inl (cI, 4, .inl (Z1.2.1 0))), some (Za 1, .inr (5, [.ref (Zfa 1), .ref (Zsa 1), .int (nI (Z1.2.2.1 1))])), some (Zfa 1, .inl (cI, 4, .inl (Z1.1 1))), some (Zsa 1, .inl (cI, 4, .inl (Z1.2.1 1))), some (Za 2, .inr (5, [.ref (Zfa 2), .ref (Zsa 2), .int (nI (Z1.2.2.1 2))])), some (Zfa 2, .inl (cI, 6, .inl (Z1.1 2))), some (Zsa 2, .inl (cI, 6, .inl (Z1.2.1 2))), some (Za 3, .inr (5, [.ref (Zfa 3), .ref (Zsa 3), .int (nI (Z1.2.2.1 3))])), some (Zfa 3, .inl (cI, 40, .inl (Z1.1 3))), some (Zsa 3, .inl (cI, 40, .inl (Z1.2.1 3))), some (Za 4, .inr (5, [.ref (Zfa 4), .ref (Zsa 4), .int (nI (Z1.2.2.1 4))])), some (Zfa 4, .inl (cI, 40, .inl (Z1.1 4))), some (Zsa 4, .inl (cI, 40, .inl (Z1.2.1 4))), some (Za 5, .inr (5, [.ref (Zfa 5), .ref (Zsa 5), .int (nI (Z1.2.2.1 5))])), some (Zfa 5, .inl (cI, 20, .inl (Z1.1 5))), some (Zsa 5, .inl (cI, 20, .inl (Z1.2.1 5)))] rfl rfl) 23 rfl (by decide +kernel) (by decide +kernel) (two_eq [rdr, nb, t, tb, dy, Za 0, Zfa 0, Zsa 0, Za 1, Zfa 1, Zsa 1, Za 2, Zfa 2, Zsa 2, Za 3, Zfa 3, Zsa 3, Za 4, Zfa 4, Zsa 4, Za 5, Zfa 5, Zsa 5] rfl rfl) (by decide +kernel) 0 rfl rfl rfl rfl hl.1 (Nat.le_of_ble_eq_true rfl) dX4_read_42 ⟨Nat.le_refl _, Nat.le_refl _⟩ (fun H_ lc_ hP hD hS => ?_)
          show W p_ l e_ (RM 7 155) s_ m_ ar_ be_ me_ co_ H_ lc_ 0 0 Q_ (F0 m_ 45 ls [])
          refine lv_aload_n hx hb dX4_read_45 rfl (lv_at hl 0 rfl) ?_
          refine g_get (C := RX4) (T := TX4) (N := 8) (ci := 4) (index := 37) hx hb hts in_X4_read_4 hown hK hP 0 6 rfl rfl (by decide) (List.mem_of_getElem? (i := 5) rfl) rfl dX4_read_46 ?_
          refine lv_if_ne (tgt := 58) hx hb dX4_read_49 (by decide) (fun c49 => ?_) (fun c49 => ?_)
          · refine lv_aload_n hx hb dX4_read_58 rfl (lv_at hl 0 rfl) ?_
            refine lv_aload_n hx hb dX4_read_59 rfl (lv_at hl 1 rfl) ?_
            refine lv_aload_n hx hb dX4_read_60 rfl (lv_at hl 2 rfl) ?_
            refine wps_V (As := [.ref t, .ref dy]) (rest := []) (ci := 4) (ws' := [(rdr, .inr (4, [.ref nb, .int (nI (lnX B n (tokX B n S1) Z1).1.1), .int (lnX B n (tokX B n S1) Z1).1.2.1, .int (nI (lnX B n (tokX B n S1) Z1).1.2.2.1), .int (nI (lnX B n (tokX B n S1) Z1).1.2.2.2.1), .int (nI (lnX B n (tokX B n S1) Z1).1.2.2.2.2.1), .int (lnX B n (tokX B n S1) Z1).1.2.2.2.2.2.1, .int (lnX B n (tokX B n S1) Z1).1.2.2.2.2.2.2.1])), (nb, .inl (cI, 3, .inl (lnX B n (tokX B n S1) Z1).1.2.2.2.2.2.2.2)), (t, .inr (6, [.ref tb, .int (nI n)])), (tb, .inl (cB, 840, .inl B)), (dy, .inr (7, [.ref (Za 0), .ref (Za 1), .ref (Za 2), .ref (Za 3), .ref (Za 4), .ref (Za 5), .int ((lnX B n (tokX B n S1) Z1).2.2.2.2 6), .int ((lnX B n (tokX B n S1) Z1).2.2.2.2 7), .int ((lnX B n (tokX B n S1) Z1).2.2.2.2 8), .int ((lnX B n (tokX B n S1) Z1).2.2.2.2 9), .int ((lnX B n (tokX B n S1) Z1).2.2.2.2 10), .int ((lnX B n (tokX B n S1) Z1).2.2.2.2 11), .int ((lnX B n (tokX B n S1) Z1).2.2.2.2 12), .int ((lnX B n (tokX B n S1) Z1).2.2.2.2 13)])), (Za 0, .inr (5, [.ref (Zfa 0), .ref (Zsa 0), .int (nI ((lnX B n (tokX B n S1) Z1).2.2.2.1 0))])), (Zfa 0, .inl (cI, 4, .inl ((lnX B n (tokX B n S1) Z1).2.1 0))), (Zsa 0, .inl (cI, 4, .inl ((lnX B n (tokX B n S1) Z1).2.2.1 0))), (Za 1, .inr (5, [.ref (Zfa 1), .ref (Zsa 1), .int (nI ((lnX B n (tokX B n S1) Z1).2.2.2.1 1))])), (Zfa 1, .inl (cI, 4, .inl ((lnX B n (tokX B n S1) Z1).2.1 1))), (Zsa 1, .inl (cI, 4, .inl ((lnX B n (tokX B n S1) Z1).2.2.1 1))), (Za 2, .inr (5, [.ref (Zfa 2), .ref (Zsa 2), .int (nI ((lnX B n (tokX B n S1) Z1).2.2.2.1 2))])), (Zfa 2, .inl (cI, 6, .inl ((lnX B n (tokX B n S1) Z1).2.1 2))), (Zsa 2, .inl (cI, 6, .inl ((lnX B n (tokX B n S1) Z1).2.2.1 2))), (Za 3, .inr (5, [.ref (Zfa 3), .ref (Zsa 3), .int (nI ((lnX B n (tokX B n S1) Z1).2.2.2.1 3))])), (Zfa 3, .inl (cI, 40, .inl ((lnX B n (tokX B n S1) Z1).2.1 3))), (Zsa 3, .inl (cI, 40, .inl ((lnX B n (tokX B n S1) Z1).2.2.1 3))), (Za 4, .inr (5, [.ref (Zfa 4), .ref (Zsa 4), .int (nI ((lnX B n (tokX B n S1) Z1).2.2.2.1 4))])), (Zfa 4, .inl (cI, 40, .inl ((lnX B n (tokX B n S1) Z1).2.1 4))), (Zsa 4, .inl (cI, 40, .inl ((lnX B n (tokX B n S1) Z1).2.2.1 4))), (Za 5, .inr (5, [.ref (Zfa 5), .ref (Zsa 5), .int (nI (Z1.2.2.1 5))])), (Zfa 5, .inl (cI, 20, .inl (Z1.1 5))), (Zsa 5, .inl (cI, 20, .inl (Z1.2.1 5)))]) (kX4_readLine l D cI cB F rdr nb (tokX B n S1) t tb n B dy Za Zfa Zsa Z1 (hn) (tokX_pl hRI.1) (hRI.2.1.1) (hRI.2.1.2.1) (hRI.2.1.2.2.1) (by have := hRI.2.1.2.2.2.1; omega) (by have := hRI.2.1.2.2.2.2.1; omega) (hRI.2.2.1) (by rw [(tokX_1 B n S1).1]; omega) (by rw [(tokX_1 B n S1).1]; intro q1 q2; have := hRI.2.2.2.2 q1 (by omega); omega)) ⟨hx, hb, hml, hown, hts⟩ (cwV 2 hts gX4_read_X4_readLine rfl rfl rfl (by decide +kernel) ⟨Nat.le_of_ble_eq_true rfl, Nat.le_of_ble_eq_true rfl⟩) hK hP hD hF hS [0, 1, 2, 3, 4, 5, 6, 7, 8, 9, 10, 11, 12, 13, 14, 15, 16, 17, 18, 19] [20, 21, 22] rfl rfl (two_eq [some (Za 5, .inr (5, [.ref (Zfa 5), .ref (Zsa 5), .int (nI (Z1.2.2.1 5))])), some (Zfa 5, .inl (cI, 20, .inl (Z1.1 5))), some (Zsa 5, .inl (cI, 20, .inl (Z1.2.1 5)))] rfl rfl) 23 rfl (by decide +kernel) (by decide +kernel) (two_eq [rdr, nb, t, tb, dy, Za 0, Zfa 0, Zsa 0, Za 1, Zfa 1, Zsa 1, Za 2, Zfa 2, Zsa 2, Za 3, Zfa 3, Zsa 3, Za 4, Zfa 4, Zsa 4, Za 5, Zfa 5, Zsa 5] rfl rfl) (by decide +kernel) 0 rfl rfl rfl rfl hl.1 (Nat.le_of_ble_eq_true rfl) dX4_read_61 ⟨Nat.le_refl _, Nat.le_refl _⟩ (fun H_ lc_ hP hD hS => ?_)
            show W p_ l e_ (RM 7 155) s_ m_ ar_ be_ me_ co_ _ _ 0 0 Q_ (F0 m_ 64 ls [])
            refine lv_iinc (v := nI (r + 1)) (lv' := [(3, .int (nI (r + 1))), (0, .ref rdr), (1, .ref t), (2, .ref dy)]) hx hb dX4_read_64 hl (k := 3) rfl (nI_add _ 1) (by decide) rfl (fun ls hl => ?_)
            refine lv_goto (tgt := 26) hx hb dX4_read_67 (by decide) ?_
            exact ih26 (r + 1) (lnX B n (tokX B n S1) Z1).1 (lnX B n (tokX B n S1) Z1).2 (by omega) (by have := (lnX_5 B n (tokX B n S1) Z1).2.2.2; rw [(tokX_1 B n S1).1] at this; omega) (lnX_RI (by rw [(tokX_1 B n S1).1]; omega) (tokX_RI hRI)) (by rw [← hinv, show 801 - r = (801 - (r + 1)) + 1 from by omega, rdX_s, if_pos c37, if_neg c49]) _ _ _ _ _ _ _ _ _ _ _ _ _ _ _ _ _ _ _ _ _ _ _ _ _ _ _ _ _ _ _ _ _ _ _ (by omega) (rfl) (rfl) (rfl) (rfl) (rfl) (rfl) (rfl) (rfl) (rfl) (rfl) (rfl) (rfl) (rfl) (rfl) (rfl) (rfl) (rfl) (rfl) (rfl) (rfl) (rfl) (rfl) (rfl) (rfl) (rfl) (rfl) (rfl) (rfl) (rfl) (rfl) (rfl) (rfl) (congrArg nI (lnX_5 B n (tokX B n S1) Z1).2.2.1.symm) ((lnX_5 B n (tokX B n S1) Z1).1.symm) ((lnX_5 B n (tokX B n S1) Z1).2.1.symm) _ _ hP hD hS ls (lv_sub hl [1, 2, 3, 0] rfl)
          · refine lv_aload_n hx hb dX4_read_52 rfl (lv_at hl 0 rfl) ?_
            refine lv_aload_n hx hb dX4_read_53 rfl (lv_at hl 1 rfl) ?_
            refine wp_V (As := [.ref t]) (rest := []) (ci := 4) (ws' := [(rdr, .inr (4, [.ref nb, .int (nI (csX9 (tokX B n S1) n).1), .int (csX9 (tokX B n S1) n).2.1, .int (nI (csX9 (tokX B n S1) n).2.2.1), .int (nI (csX9 (tokX B n S1) n).2.2.2.1), .int (nI (csX9 (tokX B n S1) n).2.2.2.2.1), .int (csX9 (tokX B n S1) n).2.2.2.2.2.1, .int (csX9 (tokX B n S1) n).2.2.2.2.2.2.1])), (nb, .inl (cI, 3, .inl (csX9 (tokX B n S1) n).2.2.2.2.2.2.2)), (t, .inr (6, [.ref tb, .int (nI n)])), (tb, .inl (cB, 840, .inl B)), (dy, .inr (7, [.ref (Za 0), .ref (Za 1), .ref (Za 2), .ref (Za 3), .ref (Za 4), .ref (Za 5), .int (Z1.2.2.2 6), .int (Z1.2.2.2 7), .int (Z1.2.2.2 8), .int (Z1.2.2.2 9), .int (Z1.2.2.2 10), .int (Z1.2.2.2 11), .int (Z1.2.2.2 12), .int (Z1.2.2.2 13)])), (Za 0, .inr (5, [.ref (Zfa 0), .ref (Zsa 0), .int (nI (Z1.2.2.1 0))])), (Zfa 0, .inl (cI, 4, .inl (Z1.1 0))), (Zsa 0, .inl (cI, 4, .inl (Z1.2.1 0))), (Za 1, .inr (5, [.ref (Zfa 1), .ref (Zsa 1), .int (nI (Z1.2.2.1 1))])), (Zfa 1, .inl (cI, 4, .inl (Z1.1 1))), (Zsa 1, .inl (cI, 4, .inl (Z1.2.1 1))), (Za 2, .inr (5, [.ref (Zfa 2), .ref (Zsa 2), .int (nI (Z1.2.2.1 2))])), (Zfa 2, .inl (cI, 6, .inl (Z1.1 2))), (Zsa 2, .inl (cI, 6, .inl (Z1.2.1 2))), (Za 3, .inr (5, [.ref (Zfa 3), .ref (Zsa 3), .int (nI (Z1.2.2.1 3))])), (Zfa 3, .inl (cI, 40, .inl (Z1.1 3))), (Zsa 3, .inl (cI, 40, .inl (Z1.2.1 3))), (Za 4, .inr (5, [.ref (Zfa 4), .ref (Zsa 4), .int (nI (Z1.2.2.1 4))])), (Zfa 4, .inl (cI, 40, .inl (Z1.1 4))), (Zsa 4, .inl (cI, 40, .inl (Z1.2.1 4))), (Za 5, .inr (5, [.ref (Zfa 5), .ref (Zsa 5), .int (nI (Z1.2.2.1 5))])), (Zfa 5, .inl (cI, 20, .inl (Z1.1 5))), (Zsa 5, .inl (cI, 20, .inl (Z1.2.1 5)))]) (kX4_checkStop l D cI cB rdr nb (tokX B n S1) t tb n B ) ⟨hx, hb, hml, hown, hts⟩ (cwV 1 hts gX4_read_X4_checkStop rfl rfl rfl (by decide +kernel) ⟨Nat.le_of_ble_eq_true rfl, Nat.le_of_ble_eq_true rfl⟩) hK hP hD hS [0, 1, 2, 3] [4, 5, 6, 7, 8, 9, 10, 11, 12, 13, 14, 15, 16, 17, 18, 19, 20, 21, 22] rfl rfl (two_eq [some (dy, .inr (7, [.ref (Za 0), .ref (Za 1), .ref (Za 2), .ref (Za 3), .ref (Za 4), .ref (Za 5), .int (Z1.2.2.2 6), .int (Z1.2.2.2 7), .int (Z1.2.2.2 8), .int (Z1.2.2.2 9), .int (Z1.2.2.2 10), .int (Z1.2.2.2 11), .int (Z1.2.2.2 12), .int (Z1.2.2.2 13)])), some (Za 0, .inr (5, [.ref (Zfa 0), .ref (Zsa 0), .int (nI (Z1.2.2.1 0))])), some (Zfa 0, .inl (cI, 4, .inl (Z1.1 0))), some (Zsa 0, .inl (cI, 4, .inl (Z1.2.1 0))), some (Za 1, .inr (5, [.ref (Zfa 1), .ref (Zsa 1), .int (nI (Z1.2.2.1 1))])), some (Zfa 1, .inl (cI, 4, .inl (Z1.1 1))), some (Zsa 1, .inl (cI, 4, .inl (Z1.2.1 1))), some (Za 2, .inr (5, [.ref (Zfa 2), .ref (Zsa 2), .int (nI (Z1.2.2.1 2))])), some (Zfa 2, .inl (cI, 6, .inl (Z1.1 2))), some (Zsa 2, .inl (cI, 6, .inl (Z1.2.1 2))), some (Za 3, .inr (5, [.ref (Zfa 3), .ref (Zsa 3), .int (nI (Z1.2.2.1 3))])), some (Zfa 3, .inl (cI, 40, .inl (Z1.1 3))), some (Zsa 3, .inl (cI, 40, .inl (Z1.2.1 3))), some (Za 4, .inr (5, [.ref (Zfa 4), .ref (Zsa 4), .int (nI (Z1.2.2.1 4))])), some (Zfa 4, .inl (cI, 40, .inl (Z1.1 4))), some (Zsa 4, .inl (cI, 40, .inl (Z1.2.1 4))), some (Za 5, .inr (5, [.ref (Zfa 5), .ref (Zsa 5), .int (nI (Z1.2.2.1 5))])), some (Zfa 5, .inl (cI, 20, .inl (Z1.1 5))), some (Zsa 5, .inl (cI, 20, .inl (Z1.2.1 5)))] rfl rfl) 23 rfl (by decide +kernel) (by decide +kernel) (two_eq [rdr, nb, t, tb, dy, Za 0, Zfa 0, Zsa 0, Za 1, Zfa 1, Zsa 1, Za 2, Zfa 2, Zsa 2, Za 3, Zfa 3, Zsa 3, Za 4, Zfa 4, Zsa 4, Za 5, Zfa 5, Zsa 5] rfl rfl) (by decide +kernel) 0 rfl rfl rfl rfl hl.1 (Nat.le_of_ble_eq_true rfl) dX4_read_54 ⟨Nat.le_refl _, Nat.le_refl _⟩ (fun H_ lc_ hP hD hS => ?_)
            show W p_ l e_ (RM 7 155) s_ m_ ar_ be_ me_ co_ H_ lc_ 0 0 Q_ (F0 m_ 57 ls [])
            exact hret _ _ _ ls hS (by rw [← hinv, show 801 - r = (801 - (r + 1)) + 1 from by omega, rdX_s, if_pos c37, if_pos c49]; exact hP) dX4_read_57
  exact L26 (802 - 0 + 1) 0 (0, 0, 0, 0, S.2.2.2.2.1, S.2.2.2.2.2.1, S.2.2.2.2.2.2.1, S.2.2.2.2.2.2.2) (foZ Z) (Nat.zero_le _) (Nat.zero_le _) (⟨Nat.zero_le _, ⟨Nat.zero_le _, Nat.zero_le _, Nat.zero_le _, Nat.zero_le _, Nat.zero_le _, rfl⟩, Or.inl rfl, fun _ => rfl, fun z => absurd z (Nat.lt_irrefl 0)⟩) (rfl) _ _ _ _ _ _ _ _ _ _ _ _ _ _ _ _ _ _ _ _ _ _ _ _ _ _ _ _ _ _ _ _ _ _ _ (Nat.lt_succ_self _) (rfl) (rfl) (rfl) (rfl) (rfl) (rfl) (rfl) (rfl) (rfl) (rfl) (rfl) (rfl) (rfl) (rfl) (rfl) (rfl) (rfl) (rfl) (rfl) (rfl) (rfl) (rfl) (rfl) (rfl) (rfl) (rfl) (rfl) (rfl) (rfl) (rfl) (rfl) (rfl) (rfl) (rfl) (rfl) _ _ hP hD hS ls (lv_sub hl [1, 2, 3, 0] rfl)

