/-! a line, on both sides -/
def LR (k : Nat) (Z : DYt) (R : Nat → Int32) : Prop := YR Z.1 Z.2.1 Z.2.2.1 Z.2.2.2 R ∧ Z.2.2.1 0 = (if k ≤ 5 then k - 1 else 4) ∧ Z.2.2.1 3 ≤ 20 ∧ Z.2.2.1 4 ≤ 20 ∧ ((Z.2.2.2 11 = 0 ∧ R 22 ≤ 0) ∨ (Z.2.2.2 11 = 1 ∧ ¬ R 22 ≤ 0))
def LO (B T : Nat → Int32) (n k : Nat) (D : XSt × DYt) (Lm : Int32 × MSt) : Prop :=
  (Lm.1 = 0 ∧ FRl D.1 Lm.2) ∨ (¬ Lm.1 = 0 ∧ (endM T n Lm.2).1 = 0 ∧ FRl D.1 (endM T n Lm.2).2) ∨ (¬ Lm.1 = 0 ∧ ¬ (endM T n Lm.2).1 = 0 ∧ SY B n D.1 (endM T n Lm.2).2 ∧ D.1.1 = k + 1 ∧ LR (k + 1) D.2 (endM T n Lm.2).2.2.2.2.2.2.2.2 ∧ (endM T n Lm.2).2.2.2.2.2.1 = 0 ∧ D.1.2.2.2.1 = Lm.2.1)
theorem sw_sp {f : Nat → Int32} : ∀ m k, (swX f m k = -1 ∧ ∀ i, k ≤ i → i < k + m → f i = 0) ∨ ∃ i, k ≤ i ∧ i < k + m ∧ swX f m k = nI i ∧ ¬ f i = 0
  | 0, k => Or.inl ⟨rfl, fun i h1 h2 => by omega⟩
  | m + 1, k => by
    rw [swX_s]
    by_cases c : f k = 0
    · rw [if_pos c]
      rcases sw_sp (f := f) m (k + 1) with ⟨a, b⟩ | ⟨i, a, b, d, e⟩
      · refine Or.inl ⟨a, fun i h1 h2 => ?_⟩
        by_cases z : i = k
        · rw [z]; exact c
        · exact b i (by omega) (by omega)
      · exact Or.inr ⟨i, by omega, by omega, d, e⟩
    · rw [if_neg c]
      exact Or.inr ⟨k, by omega, by omega, rfl, c⟩
/-- a line that ends here with its numbers read -/
theorem lo_end {B T : Nat → Int32} {n k : Nat} (h : TRl B T n) {S : XSt} {M M3 : MSt} {Z : DYt} {s : Int32} (hs : SY B n S M) (e1 : M3.1 = M.1) (e2 : M3.2.1 = M.2.1) (e3 : M3.2.2.1 = M.2.2.1) (hL : S.1 = k) (hR : LR (k + 1) (teX S.2.2.2.2.2.2.2 Z s) M3.2.2.2.2.2.2.2) (hF : M3.2.2.2.2.1 = 0) : LO B T n k (lnT B n Z s S) (1, M3) := by
  rcases close_eq (Z := Z) (s := s) h hs e1 e2 e3 with ⟨a, f⟩ | ⟨a, l, z, sy, r, f, p⟩
  · exact Or.inr (Or.inl ⟨by show ¬ (1 : Int32) = 0; decide, a, f⟩)
  · refine Or.inr (Or.inr ⟨by show ¬ (1 : Int32) = 0; decide, a, sy, by rw [l, hL], ?_, by show (endM T n M3).2.2.2.2.2.1 = 0; rw [f]; exact hF, by rw [p]; exact e1.symm⟩)
    show LR (k + 1) (lnT B n Z s S).2 (endM T n M3).2.2.2.2.2.2.2.2
    rw [z, r]; exact hR
theorem lo_bad {B T : Nat → Int32} {n k : Nat} {S : XSt} {M : MSt} {Z : DYt} {s : Int32} (f : FRl S M) : LO B T n k (lnT B n Z s S) (0, M) := by
  rw [fr_lnT f.2.1]; exact Or.inl ⟨rfl, f⟩
theorem lo_word {B T : Nat → Int32} {n k : Nat} {S : XSt} {M : MSt} {Z : DYt} (e : S.2.2.2.2.1 = M.2.1) (w : Int32) (hw : ¬ w = 0) (hm : M.2.2.1 = 1 → w = 1) : LO B T n k (failX S w, Z) (0, badM M w) := by
  refine Or.inl ⟨rfl, ?_, hw, ?_⟩
  · show w = if M.2.2.1 = 1 then 1 else w
    by_cases c : M.2.2.1 = 1
    · rw [if_pos c]; exact hm c
    · rw [if_neg c]
  · show nI M.2.1 = nI S.2.2.2.2.1
    rw [e]
theorem is_f {B : Nat → Int32} {n : Nat} {S : XSt} {M : MSt} (hs : M.2.2.1 = 2) (hi : ∀ i, i < 8 → (iwX B n S.2.2.2.2.1 S.2.2.2.1 i = 1 ↔ lg_cmp M.2.2.2.2.2.2.1 (wV i) = 0)) :
    isM M.2.2.1 M.2.2.2.2.2.2.1 121 101 97 114 0 0 = iwX B n S.2.2.2.2.1 S.2.2.2.1 0 ∧ isM M.2.2.1 M.2.2.2.2.2.2.1 112 101 114 105 111 100 = iwX B n S.2.2.2.2.1 S.2.2.2.1 1 ∧ isM M.2.2.1 M.2.2.2.2.2.2.1 115 104 97 114 101 0 = iwX B n S.2.2.2.2.1 S.2.2.2.1 2 ∧ isM M.2.2.1 M.2.2.2.2.2.2.1 117 112 116 111 0 0 = iwX B n S.2.2.2.2.1 S.2.2.2.1 3 ∧ isM M.2.2.1 M.2.2.2.2.2.2.1 111 118 101 114 0 0 = iwX B n S.2.2.2.2.1 S.2.2.2.1 4 ∧ isM M.2.2.1 M.2.2.2.2.2.2.1 114 97 116 101 0 0 = iwX B n S.2.2.2.2.1 S.2.2.2.1 5 ∧ isM M.2.2.1 M.2.2.2.2.2.2.1 105 110 99 111 109 101 = iwX B n S.2.2.2.2.1 S.2.2.2.1 6 ∧ isM M.2.2.1 M.2.2.2.2.2.2.1 112 97 121 0 0 0 = iwX B n S.2.2.2.2.1 S.2.2.2.1 7 := by
  have g : ∀ i, i < 8 → ∀ V, V = wV i → (if M.2.2.1 = 2 then (if lg_cmp M.2.2.2.2.2.2.1 V = 0 then 1 else 0) else 0 : Int32) = iwX B n S.2.2.2.2.1 S.2.2.2.1 i := by
    intro i h8 V hV
    rw [if_pos hs, hV]
    by_cases c : lg_cmp M.2.2.2.2.2.2.1 (wV i) = 0
    · rw [if_pos c, (hi i h8).mpr c]
    · rw [if_neg c]
      rcases iwX_b B n S.2.2.2.2.1 S.2.2.2.1 i with z | z
      · exact z.symm
      · exact absurd ((hi i h8).mp z) c
  exact ⟨g 0 (by omega) _ rfl, g 1 (by omega) _ rfl, g 2 (by omega) _ rfl, g 3 (by omega) _ rfl, g 4 (by omega) _ rfl, g 5 (by omega) _ rfl, g 6 (by omega) _ rfl, g 7 (by omega) _ rfl⟩
theorem isM_no {M : MSt} (h : ¬ M.2.2.1 = 2) (a b c d e f : Int32) : isM M.2.2.1 M.2.2.2.2.2.2.1 a b c d e f = 0 := by unfold isM; rw [if_neg h]
theorem lnM_none {T : Nat → Int32} {n k s0 r0 e0 p0 : Nat} {M : MSt} (h0 : nI k = 0 → isM M.2.2.1 M.2.2.2.2.2.2.1 121 101 97 114 0 0 = 0) (h1 : ¬ nI k = 0 ∧ ¬ 4 < nI k → isM M.2.2.1 M.2.2.2.2.2.2.1 112 101 114 105 111 100 = 0) (h2 : nI k = 5 → isM M.2.2.1 M.2.2.2.2.2.2.1 115 104 97 114 101 0 = 0) (h3 : 4 < nI k ∧ ¬ nI k = 5 → isM M.2.2.1 M.2.2.2.2.2.2.1 117 112 116 111 0 0 = 0) (h4 : 4 < nI k ∧ ¬ nI k = 5 → isM M.2.2.1 M.2.2.2.2.2.2.1 111 118 101 114 0 0 = 0) (h5 : 4 < nI k ∧ ¬ nI k = 5 → isM M.2.2.1 M.2.2.2.2.2.2.1 114 97 116 101 0 0 = 0) (h6 : 4 < nI k ∧ ¬ nI k = 5 → isM M.2.2.1 M.2.2.2.2.2.2.1 105 110 99 111 109 101 = 0) (h7 : 4 < nI k ∧ ¬ nI k = 5 → isM M.2.2.1 M.2.2.2.2.2.2.1 112 97 121 0 0 0 = 0) : lnM T n M k s0 r0 e0 p0 = (0, badM M 1) := by
  unfold lnM
  by_cases k0 : nI k = 0
  · rw [if_pos k0]; unfold yM; rw [if_pos (h0 k0)]
  · rw [if_neg k0]
    by_cases k4 : 4 < nI k
    · rw [if_pos k4]
      by_cases k5 : nI k = 5
      · rw [if_pos k5]; unfold shM; rw [if_pos (h2 k5)]
      · rw [if_neg k5]; unfold otM
        rw [if_pos (h3 ⟨k4, k5⟩), if_pos (h5 ⟨k4, k5⟩), if_pos (h6 ⟨k4, k5⟩), if_pos (h7 ⟨k4, k5⟩), if_pos (h4 ⟨k4, k5⟩)]
    · rw [if_neg k4]; unfold perM; rw [if_pos (h1 ⟨k0, k4⟩)]
theorem cc_no {k : Nat} {s : Int32} (hk : k ≤ 1000) (h0 : k = 0 → ¬ s = 0) (h1 : 0 < k → k ≤ 4 → ¬ s = 1) (h2 : k = 5 → ¬ s = 2) (h3 : 6 ≤ k → s < 3) : ccX k s = 0 := by
  rcases Decidable.em (ccX k s = 0) with z | z
  · exact z
  · rcases cc_x hk z with ⟨a, b⟩ | ⟨a, b, c⟩ | ⟨a, b⟩ | ⟨a, b⟩
    · exact absurd b (h0 a)
    · exact absurd c (h1 a b)
    · exact absurd b (h2 a)
    · exact absurd (h3 a) b
theorem cc_yes {k : Nat} {s : Int32} (hk : k ≤ 1000) (h : (k = 0 ∧ s = 0) ∨ (0 < k ∧ k ≤ 4 ∧ s = 1) ∨ (k = 5 ∧ s = 2) ∨ (6 ≤ k ∧ ¬ s < 3)) : ¬ ccX k s = 0 := by
  unfold ccX
  rcases h with ⟨a, b⟩ | ⟨a, b, c⟩ | ⟨a, b⟩ | ⟨a, b⟩
  · rw [a, b]; decide
  · rw [if_neg (nI_ne0 a (by omega)), if_neg (show ¬ (4 : Int32) < nI k from nI_nlt (a := 4) b (by omega)), if_pos c]; decide
  · rw [a, b]; decide
  · rw [if_neg (nI_ne0 (by omega) (by omega)), if_pos (show (4 : Int32) < nI k from nI_lt (a := 4) (by omega) (by omega)), if_pos (show (6 : Int32) ≤ nI k from nI_le (a := 6) a (by omega)), if_neg b]; decide
theorem last_at {f : Nat → Int32} {c : Nat} (hc : c ≤ 1000) (x : Int32) (hx : ∀ j, j + 1 = c → f j = x) : 1 + lastX f c = if nI c = 0 then 0 else x + 1 := by
  unfold lastX
  cases c with
  | zero => rw [if_pos (by decide), if_pos (show nI 0 = 0 from rfl)]; rfl
  | succ j => rw [if_neg (nI_nle (by omega) (by omega)), if_neg (nI_ne0 (by omega) (by omega)), nI_pred, rowAt_nI (by omega) (by omega), hx j rfl, Int32.add_comm]
section LINE
variable {B T : Nat → Int32} {n k : Nat} {S : XSt} {M : MSt} {Z : DYt}
theorem clampR {R : Nat → Int32} {C c : Nat} (h : R C = nI c) (hc : c ≤ 1000) : (R C).toNatClampNeg = c := by rw [h, nI_clamp (by omega)]
theorem ex_gt {x : Int32} (h : rg x 0 99) : ¬ x + 1 ≤ 0 := by
  have o1 : (1 : Int32).toInt = 1 := rfl
  have z : (0 : Int32).toInt = 0 := rfl
  rw [Int32.le_iff_toInt_le, i32a (by rw [o1]; omega) (by rw [o1]; omega), o1, z]; omega
theorem ln_year (h : TRl B T n) (hs : SY B n S (goM T n M)) (hM : M.2.2.2.2.1 = 0) (hL : S.1 = 0) (hR : LR 0 Z M.2.2.2.2.2.2.2) (hw : ¬ isM M.2.2.1 M.2.2.2.2.2.2.1 121 101 97 114 0 0 = 0) : LO B T n 0 (lnT B n Z 0 (nlX B n Z 0 3 0 S)) (yM T n M) := by
  have e : nlX B n Z 0 3 0 S = nlX B n Z 0 2 1 (taX (tokX B n S) Z 0 0) := by rw [nlX_s, if_pos hs.2.2]
  rw [e]
  unfold yM
  rw [if_neg hw]
  rcases num_step (A := 0) (lo := 0) (hi := 99999) (Z := Z) (s := 0) (j := 0) h hs rfl rfl with ⟨a, f⟩ | ⟨a, v, v1, v2, v3, sy, l1, n1, r1, f1⟩
  · rw [if_pos a, nl_stop f.2.1]
    exact lo_bad f
  · rw [if_neg a, nlX_s, if_pos sy.2.2]
    rcases num_step (A := 1) (lo := 0) (hi := 99999) (Z := Z) (s := 0) (j := 1) h sy rfl rfl with ⟨b, g⟩ | ⟨b, w, w1, w2, w3, sy2, l2, n2, r2, f2⟩
    · rw [if_pos b, nl_stop g.2.1]
      exact lo_bad g
    · rw [if_neg b, nlX_s, if_pos sy2.2.2]
      rcases num_step (A := 2) (lo := 0) (hi := 499) (Z := Z) (s := 0) (j := 2) h sy2 rfl rfl with ⟨c, q⟩ | ⟨c, x, x1, x2, x3, sy3, l3, n3, r3, f3⟩
      · rw [if_pos c]
        exact lo_bad q
      · rw [if_neg c]
        refine lo_end h sy3 rfl rfl rfl (l3.trans (l2.trans (l1.trans hL))) ?_ (f3.trans (f2.trans (f1.trans ((goM_F T n M).trans hM))))
        obtain ⟨hY, hc, c3, c4, ho⟩ := hR
        have z0 : Z.2.2.1 0 = 0 := hc
        have hp : ∀ p, p < 4 → M.2.2.2.2.2.2.2 (3 + p) = 0 := fun p hp => by
          rw [← (hY.per p hp).1, z0]
          unfold rowAt
          rw [if_neg (nI_pos (by omega)), if_pos (nI_le (by omega) (by omega))]
        show LR 1 (teX (taX (tokX B n (taX (tokX B n (taX (tokX B n S) Z 0 0)) Z 0 1)) Z 0 2).2.2.2.2.2.2.2 Z 0) _
        rw [r3, r2, r1, goM_read, n3, n2, n1]
        have t5 : (499 : Int32).toInt = 499 := rfl
        refine ⟨?_, ?_, c3, c4, ?_⟩
        · have q := YR_year hY (a := v) (b := w) (c := x) hp v3 w3 ⟨x3.1, by omega⟩
          show YR Z.1 Z.2.1 Z.2.2.1 (va_up (va_up (va_up Z.2.2.2 6 (upd (upd (upd S.2.2.2.2.2.2.2 0 v) 1 w) 2 x 0)) 7 (upd (upd (upd S.2.2.2.2.2.2.2 0 v) 1 w) 2 x 1)) 8 (upd (upd (upd S.2.2.2.2.2.2.2 0 v) 1 w) 2 x 2)) _
          rw [show upd (upd (upd S.2.2.2.2.2.2.2 0 v) 1 w) 2 x 0 = v by rw [upd_ne (by omega), upd_ne (by omega), upd_self], show upd (upd (upd S.2.2.2.2.2.2.2 0 v) 1 w) 2 x 1 = w by rw [upd_ne (by omega), upd_self], upd_self]
          exact q
        · exact z0
        · show (Z.2.2.2 11 = 0 ∧ upd (upd (upd M.2.2.2.2.2.2.2 0 v) 1 w) 2 x 22 ≤ 0) ∨ (Z.2.2.2 11 = 1 ∧ ¬ upd (upd (upd M.2.2.2.2.2.2.2 0 v) 1 w) 2 x 22 ≤ 0)
          rw [upd_ne (by omega), upd_ne (by omega), upd_ne (by omega)]; exact ho
theorem tw_1 {T : Nat → Int32} {n A A2 : Nat} {M : MSt} {a b c d : Int32} (h : ¬ (twM T n M A a b A2 c d).1 = 0) : (twM T n M A a b A2 c d).1 = 1 := by
  rcases twM_b T n M A A2 a b c d with z | z
  · exact absurd z h
  · exact z
theorem pair_eq {α β : Type} {x : α × β} {a : α} (h : x.1 = a) : x = (a, x.2) := by rw [← h]
theorem ln_per (h : TRl B T n) (hs : SY B n S (goM T n M)) (hM : M.2.2.2.2.1 = 0) (hL : S.1 = k) (hk : 0 < k ∧ k ≤ 4) (hR : LR k Z M.2.2.2.2.2.2.2) (hw : ¬ isM M.2.2.1 M.2.2.2.2.2.2.1 112 101 114 105 111 100 = 0) : LO B T n k (lnT B n Z 1 (nlX B n Z 1 2 0 S)) (perM T n M (k - 1)) := by
  obtain ⟨hY, hc, c3, c4, ho⟩ := hR
  rw [if_pos (by omega)] at hc
  have hcd := hY.c0
  have per := hY.per
  have hlast : ∀ (f : Nat → Int32) (A : Nat), (∀ p, p < 4 → rowAt f (Z.2.2.1 0) (nI p) = M.2.2.2.2.2.2.2 (A + p)) → 1 + lastX f (Z.2.2.1 0) = if nI (k - 1) = 0 then 0 else M.2.2.2.2.2.2.2 (A + (k - 1) - 1) + 1 := by
    intro f A hf
    rw [last_at (by omega) (M.2.2.2.2.2.2.2 (A + (k - 1) - 1)) (fun j hj => by rw [show A + (k - 1) - 1 = A + j by omega, ← hf j (by omega), rowAt_nI (by omega) (by omega)]), hc]
  have l0 := hlast (Z.1 0) 3 (fun p hp => (per p hp).1)
  have l1 := hlast (Z.2.1 0) 7 (fun p hp => (per p hp).2)
  rw [show 3 + (k - 1) - 1 = 2 + (k - 1) by omega] at l0
  rw [show 7 + (k - 1) - 1 = 6 + (k - 1) by omega] at l1
  unfold perM
  rw [if_neg hw]
  rcases nums2 (A := 3 + (k - 1)) (A2 := 7 + (k - 1)) (Z := Z) (s := 1) (lo := if nI (k - 1) = 0 then 0 else (goM T n M).2.2.2.2.2.2.2 (2 + (k - 1)) + 1) (hi := (goM T n M).2.2.2.2.2.2.2 2) (lo2 := if nI (k - 1) = 0 then 0 else (goM T n M).2.2.2.2.2.2.2 (6 + (k - 1)) + 1) (hi2 := 364) h hs (by rw [goM_read]; exact l0) (by rw [goM_read]; exact hY.v.2.2.1) (by rw [goM_read]; exact l1) rfl with ⟨a, f⟩ | ⟨a, v, w, ⟨v1, v2, v3⟩, ⟨w1, w2, w3⟩, sy, l, m0, m1, r, ff⟩
  · rw [pair_eq a]
    exact lo_bad f
  · rw [pair_eq (tw_1 a)]
    refine lo_end h sy rfl rfl rfl (l.trans hL) ?_ (ff.trans ((goM_F T n M).trans hM))
    have r := r.trans (by rw [goM_read] : _ = upd (upd M.2.2.2.2.2.2.2 (3 + (k - 1)) v) (7 + (k - 1)) w)
    have v2 : v.toInt ≤ (M.2.2.2.2.2.2.2 2).toInt := by rw [← goM_read T n M]; exact v2
    have t3 : (364 : Int32).toInt = 364 := rfl
    have e : teX (nlX B n Z 1 2 0 S).2.2.2.2.2.2.2 Z 1 = adZ Z 0 v w := by
      unfold teX; rw [if_neg (by decide), if_pos rfl, m0, m1]
    rw [e, r]
    refine ⟨?_, ?_, c3, c4, ?_⟩
    · have q := YR_per hY (a := v) (b := w) (by omega) ⟨v3.1, v2⟩ ⟨w3.1, by omega⟩
      rw [hc] at q
      show YR (va_up Z.1 0 (upd (Z.1 0) (Z.2.2.1 0) v)) (va_up Z.2.1 0 (upd (Z.2.1 0) (Z.2.2.1 0) w)) (va_up Z.2.2.1 0 (Z.2.2.1 0 + 1)) Z.2.2.2 _
      rw [hc]; exact q
    · show Z.2.2.1 0 + 1 = _
      rw [if_pos (by omega)]; omega
    · show (Z.2.2.2 11 = 0 ∧ upd (upd M.2.2.2.2.2.2.2 (3 + (k - 1)) v) (7 + (k - 1)) w 22 ≤ 0) ∨ (Z.2.2.2 11 = 1 ∧ ¬ upd (upd M.2.2.2.2.2.2.2 (3 + (k - 1)) v) (7 + (k - 1)) w 22 ≤ 0)
      rw [upd_ne (by omega), upd_ne (by omega)]; exact ho
theorem ln_share (h : TRl B T n) (hs : SY B n S (goM T n M)) (hM : M.2.2.2.2.1 = 0) (hL : S.1 = 5) (hR : LR 5 Z M.2.2.2.2.2.2.2) (hw : ¬ isM M.2.2.1 M.2.2.2.2.2.2.1 115 104 97 114 101 0 = 0) : LO B T n 5 (lnT B n Z 2 (nlX B n Z 2 2 0 S)) (shM T n M) := by
  obtain ⟨hY, hc, c3, c4, ho⟩ := hR
  unfold shM
  rw [if_neg hw]
  rcases nums2 (A := 11) (A2 := 12) (Z := Z) (s := 2) (lo := 0) (hi := 100) (lo2 := 0) (hi2 := 100) h hs rfl rfl rfl rfl with ⟨a, f⟩ | ⟨a, v, w, ⟨v1, v2, v3⟩, ⟨w1, w2, w3⟩, sy, l, m0, m1, r, ff⟩
  · rw [pair_eq a]
    exact lo_bad f
  · rw [pair_eq (tw_1 a)]
    refine lo_end h sy rfl rfl rfl (l.trans hL) ?_ (ff.trans ((goM_F T n M).trans hM))
    rw [goM_read] at r
    have t3 : (100 : Int32).toInt = 100 := rfl
    have e : teX (nlX B n Z 2 2 0 S).2.2.2.2.2.2.2 Z 2 = (Z.1, Z.2.1, Z.2.2.1, va_up (va_up Z.2.2.2 9 v) 10 w) := by
      unfold teX; rw [if_neg (by decide), if_neg (by decide), if_pos rfl, m0, m1]
    rw [e, r]
    refine ⟨YR_share hY ⟨v3.1, by omega⟩ ⟨w3.1, by omega⟩, hc, c3, c4, ?_⟩
    show (Z.2.2.2 11 = 0 ∧ upd (upd M.2.2.2.2.2.2.2 11 v) 12 w 22 ≤ 0) ∨ (Z.2.2.2 11 = 1 ∧ ¬ upd (upd M.2.2.2.2.2.2.2 11 v) 12 w 22 ≤ 0)
    rw [upd_ne (by omega), upd_ne (by omega)]; exact ho
theorem ln_over (h : TRl B T n) (hs : SY B n S (goM T n M)) (hM : M.2.2.2.2.1 = 0) (hL : S.1 = k) (hk : 6 ≤ k) (hR : LR k Z M.2.2.2.2.2.2.2) (hno : M.2.2.2.2.2.2.2 22 ≤ 0) : LO B T n k (lnT B n Z 4 (nlX B n Z 4 1 0 S)) (ovM T n M) := by
  obtain ⟨hY, hc, c3, c4, ho⟩ := hR
  have e : nlX B n Z 4 1 0 S = taX (tokX B n S) Z 4 0 := by rw [nlX_s, if_pos hs.2.2]; rfl
  rw [e]
  unfold ovM
  rcases num_step (A := 22) (lo := 0) (hi := 99) (Z := Z) (s := 4) (j := 0) h hs rfl rfl with ⟨a, f⟩ | ⟨a, v, v1, v2, v3, sy, l1, n1, r1, f1⟩
  · rw [if_pos a]
    exact lo_bad f
  · rw [if_neg a]
    have t9 : (99 : Int32).toInt = 99 := rfl
    refine lo_end h sy rfl rfl rfl (l1.trans hL) ?_ (f1.trans ((goM_F T n M).trans hM))
    rw [goM_read] at r1
    have e2 : teX (taX (tokX B n S) Z 4 0).2.2.2.2.2.2.2 Z 4 = (Z.1, Z.2.1, Z.2.2.1, va_up (va_up Z.2.2.2 11 1) 12 v) := by
      unfold teX; rw [if_neg (by decide), if_neg (by decide), if_neg (by decide), if_neg (by decide), if_pos rfl, n1, upd_self]
    rw [e2]
    show LR (k + 1) _ (upd (toldM T n (goM T n M) 22 0 99).2.2.2.2.2.2.2.2 22 ((toldM T n (goM T n M) 22 0 99).2.2.2.2.2.2.2.2 22 + 1))
    rw [r1, upd_self]
    have rv : rg v 0 99 := ⟨v3.1, by omega⟩
    refine ⟨YR_over hY rv, ?_, c3, c4, Or.inr ⟨rfl, ?_⟩⟩
    · show Z.2.2.1 0 = _
      rw [hc, if_neg (by omega), if_neg (by omega)]
    · rw [upd_self]; exact ex_gt rv

theorem up_lo (hY : YR Z.1 Z.2.1 Z.2.2.1 Z.2.2.2 M.2.2.2.2.2.2.2) : loX Z 3 (nI 0) = if nI (Z.2.2.1 1) = 0 then 1 else M.2.2.2.2.2.2.2 (12 + 2 * Z.2.2.1 1) + 1 := by
  have c1 := hY.c1
  have e := last_at (f := Z.1 1) (c := Z.2.2.1 1) (by omega) (M.2.2.2.2.2.2.2 (12 + 2 * Z.2.2.1 1)) (fun j hj => by rw [(hY.r1 j (by omega)).1]; show M.2.2.2.2.2.2.2 (13 + 1 + 2 * j) = _; exact congrArg M.2.2.2.2.2.2.2 (by omega))
  show max32 1 (1 + lastX (Z.1 1) (Z.2.2.1 1)) = _
  rw [e]
  by_cases z : nI (Z.2.2.1 1) = 0
  · rw [if_pos z, if_pos z]; decide
  · rw [if_neg z, if_neg z]
    have z2 : Z.2.2.1 1 ≠ 0 := fun y => z (by rw [y]; rfl)
    have g := (hY.g.2.2.1 (Z.2.2.1 1 - 1) (by omega)).1
    have eg : evF M.2.2.2.2.2.2.2 13 (Z.2.2.1 1 - 1) = M.2.2.2.2.2.2.2 (12 + 2 * Z.2.2.1 1) := by show M.2.2.2.2.2.2.2 (13 + 1 + 2 * (Z.2.2.1 1 - 1)) = _; exact congrArg M.2.2.2.2.2.2.2 (by omega)
    rw [eg] at g
    unfold max32
    have o1 : (1 : Int32).toInt = 1 := rfl
    rw [if_pos]
    rw [Int32.lt_iff_toInt_lt, i32a (by rw [o1]; omega) (by rw [o1]; omega), o1]; omega
theorem up_ge (hY : YR Z.1 Z.2.1 Z.2.2.1 Z.2.2.2 M.2.2.2.2.2.2.2) {v : Int32} (h : (if nI (Z.2.2.1 1) = 0 then 1 else M.2.2.2.2.2.2.2 (12 + 2 * Z.2.2.1 1) + 1 : Int32).toInt ≤ v.toInt) (hv : rg v 0 99999) (h9 : v.toInt ≤ 99999) : rg v 1 99999 ∧ ∀ j, j + 1 = Z.2.2.1 1 → (evF M.2.2.2.2.2.2.2 13 j).toInt < v.toInt := by
  have o1 : (1 : Int32).toInt = 1 := rfl
  by_cases z : nI (Z.2.2.1 1) = 0
  · rw [if_pos z, o1] at h
    exact ⟨⟨h, h9⟩, fun j hj => absurd z (nI_ne0 (by omega) (by have := hY.c1; omega))⟩
  · rw [if_neg z] at h
    have c1 := hY.c1
    have z2 : Z.2.2.1 1 ≠ 0 := fun y => z (by rw [y]; rfl)
    have g := (hY.g.2.2.1 (Z.2.2.1 1 - 1) (by omega)).1
    have eg : evF M.2.2.2.2.2.2.2 13 (Z.2.2.1 1 - 1) = M.2.2.2.2.2.2.2 (12 + 2 * Z.2.2.1 1) := by show M.2.2.2.2.2.2.2 (13 + 1 + 2 * (Z.2.2.1 1 - 1)) = _; exact congrArg M.2.2.2.2.2.2.2 (by omega)
    rw [eg] at g
    rw [i32a (by rw [o1]; omega) (by rw [o1]; omega), o1] at h
    refine ⟨⟨by omega, h9⟩, fun j hj => ?_⟩
    rw [show j = Z.2.2.1 1 - 1 by omega, eg]; omega
theorem rt_lo (hY : YR Z.1 Z.2.1 Z.2.2.1 Z.2.2.2 M.2.2.2.2.2.2.2) : loX Z 5 (nI 0) = if nI (Z.2.2.1 2) = 0 then 0 else M.2.2.2.2.2.2.2 (22 + 2 * Z.2.2.1 2) + 1 := by
  have c2 := hY.c2
  show 1 + lastX (Z.1 2) (Z.2.2.1 2) = _
  exact last_at (f := Z.1 2) (c := Z.2.2.1 2) (by omega) (M.2.2.2.2.2.2.2 (22 + 2 * Z.2.2.1 2)) (fun j hj => by rw [(hY.r2 j (by omega)).1]; show M.2.2.2.2.2.2.2 (23 + 1 + 2 * j) = _; exact congrArg M.2.2.2.2.2.2.2 (by omega))
theorem rt_ge (hY : YR Z.1 Z.2.1 Z.2.2.1 Z.2.2.2 M.2.2.2.2.2.2.2) {v : Int32} (h : (if nI (Z.2.2.1 2) = 0 then 0 else M.2.2.2.2.2.2.2 (22 + 2 * Z.2.2.1 2) + 1 : Int32).toInt ≤ v.toInt) : ∀ j, j + 1 = Z.2.2.1 2 → (evF M.2.2.2.2.2.2.2 23 j).toInt < v.toInt := by
  have o1 : (1 : Int32).toInt = 1 := rfl
  have c2 := hY.c2
  intro j hj
  rw [if_neg (nI_ne0 (by omega) (by omega))] at h
  have g := (hY.g.2.2.2.2.1 j (by omega)).1
  have eg : evF M.2.2.2.2.2.2.2 23 j = M.2.2.2.2.2.2.2 (22 + 2 * Z.2.2.1 2) := by show M.2.2.2.2.2.2.2 (23 + 1 + 2 * j) = _; exact congrArg M.2.2.2.2.2.2.2 (by omega)
  rw [eg] at g ⊢
  rw [i32a (by rw [o1]; omega) (by rw [o1]; omega), o1] at h
  omega

theorem ln_upto (h : TRl B T n) (hs : SY B n S (goM T n M)) (hM : M.2.2.2.2.1 = 0) (hL : S.1 = k) (hk : 6 ≤ k) (hR : LR k Z M.2.2.2.2.2.2.2) (hno : ¬ M.2.2.2.2.2.2.2 13 = 4) : LO B T n k (lnT B n Z 3 (nlX B n Z 3 2 0 S)) (two2M T n M 13 (Z.2.2.1 1) 4 (if nI (Z.2.2.1 1) = 0 then 1 else M.2.2.2.2.2.2.2 (12 + 2 * Z.2.2.1 1) + 1) 99999 0 99) := by
  obtain ⟨hY, hc, c3, c4, ho⟩ := hR
  have cC : M.2.2.2.2.2.2.2 13 = nI (Z.2.2.1 1) := hY.cn.1.1
  have k1 := hY.c1
  have hlt : Z.2.2.1 1 < 4 := by
    rcases Nat.lt_or_ge (Z.2.2.1 1) 4 with z | z
    · exact z
    · exact absurd (by rw [cC, show Z.2.2.1 1 = 4 by omega]; rfl) hno
  unfold two2M
  rw [if_neg hno]
  rcases nums2 (A := 13 + 1 + 2 * Z.2.2.1 1) (A2 := 13 + 1 + 2 * Z.2.2.1 1 + 1) (Z := Z) (s := 3) (lo := (if nI (Z.2.2.1 1) = 0 then 1 else M.2.2.2.2.2.2.2 (12 + 2 * Z.2.2.1 1) + 1)) (hi := 99999) (lo2 := 0) (hi2 := 99) h hs (up_lo hY) rfl rfl rfl with ⟨a, f⟩ | ⟨a, v, w, ⟨v1, v2, v3⟩, ⟨w1, w2, w3⟩, sy, l, m0, m1, r, ff⟩
  · rw [if_pos a]
    exact lo_bad f
  · rw [if_neg a]
    refine lo_end h sy rfl rfl rfl (l.trans hL) ?_ (ff.trans ((goM_F T n M).trans hM))
    rw [goM_read] at r
    have t3 : (99999 : Int32).toInt = 99999 := rfl
    have t4 : (99 : Int32).toInt = 99 := rfl
    have e : teX (nlX B n Z 3 2 0 S).2.2.2.2.2.2.2 Z 3 = adZ Z 1 v w := by
      unfold teX; rw [if_neg (by decide), if_neg (by decide), if_neg (by decide), if_pos rfl, m0, m1]
    rw [e]
    show LR (k + 1) _ (upd (twM T n (goM T n M) (13 + 1 + 2 * Z.2.2.1 1) ((if nI (Z.2.2.1 1) = 0 then 1 else M.2.2.2.2.2.2.2 (12 + 2 * Z.2.2.1 1) + 1)) 99999 (13 + 1 + 2 * Z.2.2.1 1 + 1) 0 99).2.2.2.2.2.2.2.2 13 ((twM T n (goM T n M) (13 + 1 + 2 * Z.2.2.1 1) ((if nI (Z.2.2.1 1) = 0 then 1 else M.2.2.2.2.2.2.2 (12 + 2 * Z.2.2.1 1) + 1)) 99999 (13 + 1 + 2 * Z.2.2.1 1 + 1) 0 99).2.2.2.2.2.2.2.2 13 + 1))
    rw [r]
    have er : upd (upd (upd M.2.2.2.2.2.2.2 (13 + 1 + 2 * Z.2.2.1 1) v) (13 + 1 + 2 * Z.2.2.1 1 + 1) w) 13 (upd (upd M.2.2.2.2.2.2.2 (13 + 1 + 2 * Z.2.2.1 1) v) (13 + 1 + 2 * Z.2.2.1 1 + 1) w 13 + 1) = adN M.2.2.2.2.2.2.2 13 (Z.2.2.1 1) v w := by
      unfold adN
      rw [upd_ne (show 13 ≠ 13 + 1 + 2 * Z.2.2.1 1 + 1 by omega), upd_ne (show 13 ≠ 13 + 1 + 2 * Z.2.2.1 1 by omega), cC, nI_1, show 13 + 1 + 2 * Z.2.2.1 1 + 1 = 13 + 2 + 2 * Z.2.2.1 1 by omega]
    rw [er]
    refine ⟨?_, ?_, c3, c4, ?_⟩
    · exact YR_add1 hY (by omega) (up_ge hY v1 v3 (by omega)).1 ⟨w3.1, by omega⟩ (up_ge hY v1 v3 (by omega)).2
    · show Z.2.2.1 0 = _
      rw [hc, if_neg (by omega), if_neg (by omega)]
    · show (Z.2.2.2 11 = 0 ∧ adN M.2.2.2.2.2.2.2 13 (Z.2.2.1 1) v w 22 ≤ 0) ∨ (Z.2.2.2 11 = 1 ∧ ¬ adN M.2.2.2.2.2.2.2 13 (Z.2.2.1 1) v w 22 ≤ 0)
      rw [adN_ne (by omega) (by omega) (by omega)]; exact ho

theorem ln_rate (h : TRl B T n) (hs : SY B n S (goM T n M)) (hM : M.2.2.2.2.1 = 0) (hL : S.1 = k) (hk : 6 ≤ k) (hR : LR k Z M.2.2.2.2.2.2.2) (hno : ¬ M.2.2.2.2.2.2.2 23 = 6) : LO B T n k (lnT B n Z 5 (nlX B n Z 5 2 0 S)) (two2M T n M 23 (Z.2.2.1 2) 6 (if nI (Z.2.2.1 2) = 0 then 0 else M.2.2.2.2.2.2.2 (22 + 2 * Z.2.2.1 2) + 1) 499 0 99) := by
  obtain ⟨hY, hc, c3, c4, ho⟩ := hR
  have cC : M.2.2.2.2.2.2.2 23 = nI (Z.2.2.1 2) := hY.cn.2.1.1
  have k2 := hY.c2
  have hlt : Z.2.2.1 2 < 6 := by
    rcases Nat.lt_or_ge (Z.2.2.1 2) 6 with z | z
    · exact z
    · exact absurd (by rw [cC, show Z.2.2.1 2 = 6 by omega]; rfl) hno
  unfold two2M
  rw [if_neg hno]
  rcases nums2 (A := 23 + 1 + 2 * Z.2.2.1 2) (A2 := 23 + 1 + 2 * Z.2.2.1 2 + 1) (Z := Z) (s := 5) (lo := (if nI (Z.2.2.1 2) = 0 then 0 else M.2.2.2.2.2.2.2 (22 + 2 * Z.2.2.1 2) + 1)) (hi := 499) (lo2 := 0) (hi2 := 99) h hs (rt_lo hY) rfl rfl rfl with ⟨a, f⟩ | ⟨a, v, w, ⟨v1, v2, v3⟩, ⟨w1, w2, w3⟩, sy, l, m0, m1, r, ff⟩
  · rw [if_pos a]
    exact lo_bad f
  · rw [if_neg a]
    refine lo_end h sy rfl rfl rfl (l.trans hL) ?_ (ff.trans ((goM_F T n M).trans hM))
    rw [goM_read] at r
    have t3 : (499 : Int32).toInt = 499 := rfl
    have t4 : (99 : Int32).toInt = 99 := rfl
    have e : teX (nlX B n Z 5 2 0 S).2.2.2.2.2.2.2 Z 5 = adZ Z 2 v w := by
      unfold teX; rw [if_neg (by decide), if_neg (by decide), if_neg (by decide), if_neg (by decide), if_neg (by decide), if_pos rfl, m0, m1]
    rw [e]
    show LR (k + 1) _ (upd (twM T n (goM T n M) (23 + 1 + 2 * Z.2.2.1 2) ((if nI (Z.2.2.1 2) = 0 then 0 else M.2.2.2.2.2.2.2 (22 + 2 * Z.2.2.1 2) + 1)) 499 (23 + 1 + 2 * Z.2.2.1 2 + 1) 0 99).2.2.2.2.2.2.2.2 23 ((twM T n (goM T n M) (23 + 1 + 2 * Z.2.2.1 2) ((if nI (Z.2.2.1 2) = 0 then 0 else M.2.2.2.2.2.2.2 (22 + 2 * Z.2.2.1 2) + 1)) 499 (23 + 1 + 2 * Z.2.2.1 2 + 1) 0 99).2.2.2.2.2.2.2.2 23 + 1))
    rw [r]
    have er : upd (upd (upd M.2.2.2.2.2.2.2 (23 + 1 + 2 * Z.2.2.1 2) v) (23 + 1 + 2 * Z.2.2.1 2 + 1) w) 23 (upd (upd M.2.2.2.2.2.2.2 (23 + 1 + 2 * Z.2.2.1 2) v) (23 + 1 + 2 * Z.2.2.1 2 + 1) w 23 + 1) = adN M.2.2.2.2.2.2.2 23 (Z.2.2.1 2) v w := by
      unfold adN
      rw [upd_ne (show 23 ≠ 23 + 1 + 2 * Z.2.2.1 2 + 1 by omega), upd_ne (show 23 ≠ 23 + 1 + 2 * Z.2.2.1 2 by omega), cC, nI_1, show 23 + 1 + 2 * Z.2.2.1 2 + 1 = 23 + 2 + 2 * Z.2.2.1 2 by omega]
    rw [er]
    refine ⟨?_, ?_, c3, c4, ?_⟩
    · exact YR_add2 hY (by omega) ⟨v3.1, by omega⟩ ⟨w3.1, by omega⟩ (rt_ge hY v1)
    · show Z.2.2.1 0 = _
      rw [hc, if_neg (by omega), if_neg (by omega)]
    · show (Z.2.2.2 11 = 0 ∧ adN M.2.2.2.2.2.2.2 23 (Z.2.2.1 2) v w 22 ≤ 0) ∨ (Z.2.2.2 11 = 1 ∧ ¬ adN M.2.2.2.2.2.2.2 23 (Z.2.2.1 2) v w 22 ≤ 0)
      rw [adN_ne (by omega) (by omega) (by omega)]; exact ho

theorem ln_income (h : TRl B T n) (hs : SY B n S (goM T n M)) (hM : M.2.2.2.2.1 = 0) (hL : S.1 = k) (hk : 6 ≤ k) (hR : LR k Z M.2.2.2.2.2.2.2) (hno : ¬ M.2.2.2.2.2.2.2 36 = 20) : LO B T n k (lnT B n Z 6 (nlX B n Z 6 2 0 S)) (two2M T n M 36 (Z.2.2.1 3) 20 0 364 1 99999) := by
  obtain ⟨hY, hc, c3, c4, ho⟩ := hR
  have cC : M.2.2.2.2.2.2.2 36 = nI (Z.2.2.1 3) := hY.cn.2.2.1.1
  have k3 := hY.c3
  have hlt : Z.2.2.1 3 < 20 := by
    rcases Nat.lt_or_ge (Z.2.2.1 3) 20 with z | z
    · exact z
    · exact absurd (by rw [cC, show Z.2.2.1 3 = 20 by omega]; rfl) hno
  unfold two2M
  rw [if_neg hno]
  rcases nums2 (A := 36 + 1 + 2 * Z.2.2.1 3) (A2 := 36 + 1 + 2 * Z.2.2.1 3 + 1) (Z := Z) (s := 6) (lo := 0) (hi := 364) (lo2 := 1) (hi2 := 99999) h hs (rfl) rfl rfl rfl with ⟨a, f⟩ | ⟨a, v, w, ⟨v1, v2, v3⟩, ⟨w1, w2, w3⟩, sy, l, m0, m1, r, ff⟩
  · rw [if_pos a]
    exact lo_bad f
  · rw [if_neg a]
    refine lo_end h sy rfl rfl rfl (l.trans hL) ?_ (ff.trans ((goM_F T n M).trans hM))
    rw [goM_read] at r
    have t3 : (364 : Int32).toInt = 364 := rfl
    have t4 : (99999 : Int32).toInt = 99999 := rfl
    have e : teX (nlX B n Z 6 2 0 S).2.2.2.2.2.2.2 Z 6 = adZ Z 3 v w := by
      unfold teX; rw [if_neg (by decide), if_neg (by decide), if_neg (by decide), if_neg (by decide), if_neg (by decide), if_neg (by decide), if_pos rfl, m0, m1]
    rw [e]
    show LR (k + 1) _ (upd (twM T n (goM T n M) (36 + 1 + 2 * Z.2.2.1 3) (0) 364 (36 + 1 + 2 * Z.2.2.1 3 + 1) 1 99999).2.2.2.2.2.2.2.2 36 ((twM T n (goM T n M) (36 + 1 + 2 * Z.2.2.1 3) (0) 364 (36 + 1 + 2 * Z.2.2.1 3 + 1) 1 99999).2.2.2.2.2.2.2.2 36 + 1))
    rw [r]
    have er : upd (upd (upd M.2.2.2.2.2.2.2 (36 + 1 + 2 * Z.2.2.1 3) v) (36 + 1 + 2 * Z.2.2.1 3 + 1) w) 36 (upd (upd M.2.2.2.2.2.2.2 (36 + 1 + 2 * Z.2.2.1 3) v) (36 + 1 + 2 * Z.2.2.1 3 + 1) w 36 + 1) = adN M.2.2.2.2.2.2.2 36 (Z.2.2.1 3) v w := by
      unfold adN
      rw [upd_ne (show 36 ≠ 36 + 1 + 2 * Z.2.2.1 3 + 1 by omega), upd_ne (show 36 ≠ 36 + 1 + 2 * Z.2.2.1 3 by omega), cC, nI_1, show 36 + 1 + 2 * Z.2.2.1 3 + 1 = 36 + 2 + 2 * Z.2.2.1 3 by omega]
    rw [er]
    refine ⟨?_, ?_, by show Z.2.2.1 3 + 1 ≤ 20; omega, c4, ?_⟩
    · exact YR_add3 hY (by omega) ⟨v3.1, by omega⟩ w3
    · show Z.2.2.1 0 = _
      rw [hc, if_neg (by omega), if_neg (by omega)]
    · show (Z.2.2.2 11 = 0 ∧ adN M.2.2.2.2.2.2.2 36 (Z.2.2.1 3) v w 22 ≤ 0) ∨ (Z.2.2.2 11 = 1 ∧ ¬ adN M.2.2.2.2.2.2.2 36 (Z.2.2.1 3) v w 22 ≤ 0)
      rw [adN_ne (by omega) (by omega) (by omega)]; exact ho

theorem ln_pay (h : TRl B T n) (hs : SY B n S (goM T n M)) (hM : M.2.2.2.2.1 = 0) (hL : S.1 = k) (hk : 6 ≤ k) (hR : LR k Z M.2.2.2.2.2.2.2) (hno : ¬ M.2.2.2.2.2.2.2 117 = 20) : LO B T n k (lnT B n Z 7 (nlX B n Z 7 2 0 S)) (two2M T n M 117 (Z.2.2.1 4) 20 0 499 1 99999) := by
  obtain ⟨hY, hc, c3, c4, ho⟩ := hR
  have cC : M.2.2.2.2.2.2.2 117 = nI (Z.2.2.1 4) := hY.cn.2.2.2.1.1
  have k4 := hY.c4
  have hlt : Z.2.2.1 4 < 20 := by
    rcases Nat.lt_or_ge (Z.2.2.1 4) 20 with z | z
    · exact z
    · exact absurd (by rw [cC, show Z.2.2.1 4 = 20 by omega]; rfl) hno
  unfold two2M
  rw [if_neg hno]
  rcases nums2 (A := 117 + 1 + 2 * Z.2.2.1 4) (A2 := 117 + 1 + 2 * Z.2.2.1 4 + 1) (Z := Z) (s := 7) (lo := 0) (hi := 499) (lo2 := 1) (hi2 := 99999) h hs (rfl) rfl rfl rfl with ⟨a, f⟩ | ⟨a, v, w, ⟨v1, v2, v3⟩, ⟨w1, w2, w3⟩, sy, l, m0, m1, r, ff⟩
  · rw [if_pos a]
    exact lo_bad f
  · rw [if_neg a]
    refine lo_end h sy rfl rfl rfl (l.trans hL) ?_ (ff.trans ((goM_F T n M).trans hM))
    rw [goM_read] at r
    have t3 : (499 : Int32).toInt = 499 := rfl
    have t4 : (99999 : Int32).toInt = 99999 := rfl
    have e : teX (nlX B n Z 7 2 0 S).2.2.2.2.2.2.2 Z 7 = adZ Z 4 v w := by
      unfold teX; rw [if_neg (by decide), if_neg (by decide), if_neg (by decide), if_neg (by decide), if_neg (by decide), if_neg (by decide), if_neg (by decide), if_pos rfl, m0, m1]
    rw [e]
    show LR (k + 1) _ (upd (twM T n (goM T n M) (117 + 1 + 2 * Z.2.2.1 4) (0) 499 (117 + 1 + 2 * Z.2.2.1 4 + 1) 1 99999).2.2.2.2.2.2.2.2 117 ((twM T n (goM T n M) (117 + 1 + 2 * Z.2.2.1 4) (0) 499 (117 + 1 + 2 * Z.2.2.1 4 + 1) 1 99999).2.2.2.2.2.2.2.2 117 + 1))
    rw [r]
    have er : upd (upd (upd M.2.2.2.2.2.2.2 (117 + 1 + 2 * Z.2.2.1 4) v) (117 + 1 + 2 * Z.2.2.1 4 + 1) w) 117 (upd (upd M.2.2.2.2.2.2.2 (117 + 1 + 2 * Z.2.2.1 4) v) (117 + 1 + 2 * Z.2.2.1 4 + 1) w 117 + 1) = adN M.2.2.2.2.2.2.2 117 (Z.2.2.1 4) v w := by
      unfold adN
      rw [upd_ne (show 117 ≠ 117 + 1 + 2 * Z.2.2.1 4 + 1 by omega), upd_ne (show 117 ≠ 117 + 1 + 2 * Z.2.2.1 4 by omega), cC, nI_1, show 117 + 1 + 2 * Z.2.2.1 4 + 1 = 117 + 2 + 2 * Z.2.2.1 4 by omega]
    rw [er]
    refine ⟨?_, ?_, c3, by show Z.2.2.1 4 + 1 ≤ 20; omega, ?_⟩
    · exact YR_add4 hY (by omega) ⟨v3.1, by omega⟩ w3
    · show Z.2.2.1 0 = _
      rw [hc, if_neg (by omega), if_neg (by omega)]
    · show (Z.2.2.2 11 = 0 ∧ adN M.2.2.2.2.2.2.2 117 (Z.2.2.1 4) v w 22 ≤ 0) ∨ (Z.2.2.2 11 = 1 ∧ ¬ adN M.2.2.2.2.2.2.2 117 (Z.2.2.1 4) v w 22 ≤ 0)
      rw [adN_ne (by omega) (by omega) (by omega)]; exact ho
end LINE
