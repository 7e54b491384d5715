/-! lines: numbers, the sign at the end -/
def FRl (S : XSt) (M : MSt) : Prop := S.2.1 = M.2.2.2.2.1 ∧ ¬ S.2.1 = 0 ∧ M.2.2.2.2.2.1 = nI S.2.2.1
def SY (B : Nat → Int32) (n : Nat) (S : XSt) (M : MSt) : Prop := TK B n (tokX B n S) M ∧ M.1 ≤ n ∧ S.2.1 = 0
theorem tok_L (B : Nat → Int32) (n : Nat) (S : XSt) : (tokX B n S).1 = S.1 ∧ (tokX B n S).2.1 = S.2.1 ∧ (tokX B n S).2.2.2.2.2.2.2 = S.2.2.2.2.2.2.2 := by
  unfold tokX runX
  split
  · split
    · exact ⟨rfl, rfl, rfl⟩
    · exact ⟨rfl, rfl, rfl⟩
  · exact ⟨rfl, rfl, rfl⟩
theorem goM_F (T : Nat → Int32) (n : Nat) (S : MSt) : (goM T n S).2.2.2.2.1 = S.2.2.2.2.1 := by
  unfold goM
  split
  · rfl
  · split
    · rfl
    · split <;> rfl
theorem num_step {B T : Nat → Int32} {n : Nat} (h : TRl B T n) {S : XSt} {M : MSt} {Z : DYt} {s lo hi : Int32} {j A : Nat} (hs : SY B n S M) (hlo : loX Z s (nI j) = lo) (hhi : hiX Z s (nI j) = hi) :
    ((toldM T n M A lo hi).1 = 0 ∧ FRl (taX (tokX B n S) Z s j) (toldM T n M A lo hi).2) ∨
    (¬ (toldM T n M A lo hi).1 = 0 ∧ ∃ v : Int32, lo.toInt ≤ v.toInt ∧ v.toInt ≤ hi.toInt ∧ rg v 0 99999 ∧ SY B n (taX (tokX B n S) Z s j) (toldM T n M A lo hi).2 ∧ (taX (tokX B n S) Z s j).1 = S.1 ∧ (taX (tokX B n S) Z s j).2.2.2.2.2.2.2 = upd S.2.2.2.2.2.2.2 j v ∧ (toldM T n M A lo hi).2.2.2.2.2.2.2.2 = upd M.2.2.2.2.2.2.2 A v ∧ (toldM T n M A lo hi).2.2.2.2.2.1 = M.2.2.2.2.1) := by
  obtain ⟨⟨hst, hk⟩, hm, hF⟩ := hs
  obtain ⟨tl, tf, tn⟩ := tok_L B n S
  by_cases c : M.2.2.1 = 3
  · have q : (tokX B n S).2.2.2.2.2.1 = 2 ∧ (tokX B n S).2.2.2.1 = M.1 ∧ (tokX B n S).2.2.2.2.2.2.1 = M.2.2.2.1 ∧ rg M.2.2.2.1 0 99999 := by
      rcases hk with ⟨_, a | a⟩ | ⟨_, a, _⟩ | ⟨_, a, _⟩ | ⟨a, _, b⟩ | ⟨_, a⟩
      · rw [a.1] at c; exact absurd c (by decide)
      · rw [a.1] at c; exact absurd c (by decide)
      · rw [a] at c; exact absurd c (by decide)
      · rw [a] at c; exact absurd c (by decide)
      · exact ⟨a, b⟩
      · rw [a] at c; exact absurd c (by decide)
    obtain ⟨q1, q2, q3, q4⟩ := q
    unfold toldM taX
    rw [if_pos c, if_pos q1, q3, hlo, hhi]
    by_cases d : isInM M.2.2.2.1 lo hi = 0
    · rw [if_pos d]
      refine Or.inl ⟨rfl, ?_⟩
      have f : (if M.2.2.2.1 < lo then failX (tokX B n S) 2 else if M.2.2.2.1 ≤ hi then setN (tokX B n S) j M.2.2.2.1 else failX (tokX B n S) 2) = failX (tokX B n S) 2 := by
        by_cases a : M.2.2.2.1 < lo
        · rw [if_pos a]
        · rw [if_neg a]
          by_cases b : M.2.2.2.1 ≤ hi
          · exact absurd d (isInM_yes (by rw [Int32.lt_iff_toInt_lt] at a; omega) (Int32.le_iff_toInt_le.mp b))
          · rw [if_neg b]
      rw [f]
      refine ⟨?_, by show ¬ (2 : Int32) = 0; decide, ?_⟩
      · show (2 : Int32) = if M.2.2.1 = 1 then 1 else 2
        rw [c]; decide
      · show nI M.2.1 = nI (tokX B n S).2.2.2.2.1
        rw [hst]
    · have r := isInM_rg d
      rw [if_neg d, if_neg (show ¬ M.2.2.2.1 < lo by rw [Int32.lt_iff_toInt_lt]; omega), if_pos (show M.2.2.2.1 ≤ hi from Int32.le_iff_toInt_le.mpr r.2)]
      refine Or.inr ⟨by show ¬ (1 : Int32) = 0; decide, M.2.2.2.1, r.1, r.2, q4, ⟨tok_eq h q2 hm, goM_le hm, by show (tokX B n S).2.1 = 0; rw [tf]; exact hF⟩, tl, by show upd (tokX B n S).2.2.2.2.2.2.2 j M.2.2.2.1 = _; rw [tn], goM_read T n _, goM_F T n _⟩
  · have q : ¬ (tokX B n S).2.2.2.2.2.1 = 2 := fun z => by
      rcases hk with ⟨a, _⟩ | ⟨a, _⟩ | ⟨a, _⟩ | ⟨_, a, _⟩ | ⟨a, _⟩
      · rw [z] at a; exact absurd a (by decide)
      · rw [z] at a; exact absurd a (by decide)
      · rw [z] at a; exact absurd a (by decide)
      · exact c a
      · rw [z] at a; exact absurd a (by decide)
    unfold toldM taX
    rw [if_neg c, if_neg q]
    refine Or.inl ⟨rfl, ?_, by show ¬ (1 : Int32) = 0; decide, ?_⟩
    · show (1 : Int32) = if M.2.2.1 = 1 then 1 else 1
      rw [ite_self]
    · show nI M.2.1 = nI (tokX B n S).2.2.2.2.1
      rw [hst]
theorem nl_stop {B : Nat → Int32} {n : Nat} {Z : DYt} {s : Int32} {S : XSt} (h : ¬ S.2.1 = 0) : ∀ m i, nlX B n Z s m i S = S
  | 0, _ => rfl
  | m + 1, i => by rw [nlX_s, if_neg h]
theorem close_eq {B T : Nat → Int32} {n : Nat} (h : TRl B T n) {S : XSt} {M M3 : MSt} {Z : DYt} {s : Int32} (hs : SY B n S M) (e1 : M3.1 = M.1) (e2 : M3.2.1 = M.2.1) (e3 : M3.2.2.1 = M.2.2.1) :
    ((endM T n M3).1 = 0 ∧ FRl (lnT B n Z s S).1 (endM T n M3).2) ∨
    (¬ (endM T n M3).1 = 0 ∧ (lnT B n Z s S).1.1 = S.1 + 1 ∧ (lnT B n Z s S).2 = teX S.2.2.2.2.2.2.2 Z s ∧ SY B n (lnT B n Z s S).1 (endM T n M3).2 ∧ (endM T n M3).2.2.2.2.2.2.2.2 = M3.2.2.2.2.2.2.2 ∧ (endM T n M3).2.2.2.2.2.1 = M3.2.2.2.2.1 ∧ (lnT B n Z s S).1.2.2.2.1 = M.1) := by
  obtain ⟨⟨hst, hk⟩, hm, hF⟩ := hs
  obtain ⟨tl, tf, tn⟩ := tok_L B n S
  unfold lnT
  rw [if_pos hF]
  by_cases c : M.2.2.1 = 4
  · have q : (tokX B n S).2.2.2.2.2.1 = 3 ∧ (tokX B n S).2.2.2.1 = M.1 := by
      rcases hk with ⟨_, a | a⟩ | ⟨a, _, b⟩ | ⟨_, a, _⟩ | ⟨_, a, _⟩ | ⟨_, a⟩
      · rw [a.1] at c; exact absurd c (by decide)
      · rw [a.1] at c; exact absurd c (by decide)
      · exact ⟨a, b⟩
      · rw [a] at c; exact absurd c (by decide)
      · rw [a] at c; exact absurd c (by decide)
      · rw [a] at c; exact absurd c (by decide)
    unfold endM clX
    rw [if_pos (e3.trans c), if_pos q.1]
    refine Or.inr ⟨by show ¬ (1 : Int32) = 0; decide, by show (tokX B n S).1 + 1 = _; rw [tl], by show teX (tokX B n S).2.2.2.2.2.2.2 Z s = _; rw [tn], ⟨tok_eq h (by show (tokX B n S).2.2.2.1 = M3.1; rw [q.2, e1]) (by omega), goM_le (by omega), by show (tokX B n S).2.1 = 0; rw [tf]; exact hF⟩, goM_read T n _, goM_F T n _, q.2⟩
  · have q : ¬ (tokX B n S).2.2.2.2.2.1 = 3 := fun z => by
      rcases hk with ⟨a, _⟩ | ⟨_, a, _⟩ | ⟨a, _⟩ | ⟨a, _⟩ | ⟨a, _⟩
      · rw [z] at a; exact absurd a (by decide)
      · exact c a
      · rw [z] at a; exact absurd a (by decide)
      · rw [z] at a; exact absurd a (by decide)
      · rw [z] at a; exact absurd a (by decide)
    unfold endM clX
    rw [if_neg (fun z => c (e3.symm.trans z)), if_neg q]
    refine Or.inl ⟨rfl, ?_, by show ¬ (1 : Int32) = 0; decide, ?_⟩
    · show (1 : Int32) = if M3.2.2.1 = 1 then 1 else 1
      rw [ite_self]
    · show nI M3.2.1 = nI (tokX B n S).2.2.2.2.1
      rw [hst, e2]
theorem fr_lnT {B : Nat → Int32} {n : Nat} {Z : DYt} {s : Int32} {S : XSt} (h : ¬ S.2.1 = 0) : lnT B n Z s S = (S, Z) := by unfold lnT; rw [if_neg h]
/-- two numbers -/
theorem nums2 {B T : Nat → Int32} {n : Nat} (h : TRl B T n) {S : XSt} {M : MSt} {Z : DYt} {s lo hi lo2 hi2 : Int32} {A A2 : Nat} (hs : SY B n S M) (h1 : loX Z s (nI 0) = lo) (h2 : hiX Z s (nI 0) = hi) (h3 : loX Z s (nI 1) = lo2) (h4 : hiX Z s (nI 1) = hi2) :
    ((twM T n M A lo hi A2 lo2 hi2).1 = 0 ∧ FRl (nlX B n Z s 2 0 S) (twM T n M A lo hi A2 lo2 hi2).2) ∨
    (¬ (twM T n M A lo hi A2 lo2 hi2).1 = 0 ∧ ∃ v w : Int32, (lo.toInt ≤ v.toInt ∧ v.toInt ≤ hi.toInt ∧ rg v 0 99999) ∧ (lo2.toInt ≤ w.toInt ∧ w.toInt ≤ hi2.toInt ∧ rg w 0 99999) ∧ SY B n (nlX B n Z s 2 0 S) (twM T n M A lo hi A2 lo2 hi2).2 ∧ (nlX B n Z s 2 0 S).1 = S.1 ∧ (nlX B n Z s 2 0 S).2.2.2.2.2.2.2 0 = v ∧ (nlX B n Z s 2 0 S).2.2.2.2.2.2.2 1 = w ∧ (twM T n M A lo hi A2 lo2 hi2).2.2.2.2.2.2.2.2 = upd (upd M.2.2.2.2.2.2.2 A v) A2 w ∧ (twM T n M A lo hi A2 lo2 hi2).2.2.2.2.2.1 = M.2.2.2.2.1) := by
  have e : nlX B n Z s 2 0 S = nlX B n Z s 1 1 (taX (tokX B n S) Z s 0) := by rw [nlX_s, if_pos hs.2.2]
  rw [e]
  rcases num_step (A := A) h hs h1 h2 with ⟨a, f⟩ | ⟨a, v, v1, v2, v3, sy, l1, n1, r1, f1⟩
  · rw [twM_1 a, nl_stop f.2.1]
    exact Or.inl ⟨rfl, f⟩
  · rw [nlX_s, if_pos sy.2.2]
    show ((twM T n M A lo hi A2 lo2 hi2).1 = 0 ∧ FRl (taX (tokX B n (taX (tokX B n S) Z s 0)) Z s 1) (twM T n M A lo hi A2 lo2 hi2).2) ∨ _
    rcases num_step (A := A2) h sy h3 h4 with ⟨b, g⟩ | ⟨b, w, w1, w2, w3, sy2, l2, n2, r2, f2⟩
    · rw [twM_2 a b]
      exact Or.inl ⟨rfl, g⟩
    · rw [twM_3 a b]
      refine Or.inr ⟨by show ¬ (1 : Int32) = 0; decide, v, w, ⟨v1, v2, v3⟩, ⟨w1, w2, w3⟩, sy2, l2.trans l1, ?_, ?_, ?_, f2.trans f1⟩
      · show (taX (tokX B n (taX (tokX B n S) Z s 0)) Z s 1).2.2.2.2.2.2.2 0 = v
        rw [n2, n1, upd_ne (by omega), upd_self]
      · show (taX (tokX B n (taX (tokX B n S) Z s 0)) Z s 1).2.2.2.2.2.2.2 1 = w
        rw [n2, upd_self]
      · rw [r2, r1]
