/-! the two token readers -/
theorem bl_sp (f : Nat → Bool) : ∀ k q, (∀ i, q ≤ i → i < bl f k q → f i = true) ∧ (bl f k q < q + k → f (bl f k q) = false)
  | 0, q => ⟨fun i h1 h2 => absurd h2 (by show ¬ i < q; omega), fun h => absurd h (by show ¬ q < q + 0; omega)⟩
  | k + 1, q => by
    unfold bl
    by_cases h : f q = true
    · rw [if_pos h]
      obtain ⟨a, b⟩ := bl_sp f k (q + 1)
      refine ⟨fun i h1 h2 => ?_, fun h2 => b (by omega)⟩
      by_cases e : i = q
      · rw [e]; exact h
      · exact a i (by omega) h2
    · rw [if_neg h]
      exact ⟨fun i h1 h2 => by omega, fun _ => by cases hf : f q with | true => exact absurd hf h | false => rfl⟩
theorem bl_cong {f g : Nat → Bool} : ∀ k q, (∀ i, q ≤ i → i < q + k → f i = g i) → bl f k q = bl g k q
  | 0, _, _ => rfl
  | k + 1, q, h => by
    unfold bl
    rw [h q (by omega) (by omega), bl_cong k (q + 1) (fun i h1 h2 => h i (by omega) (by omega))]
theorem tp_eq {B T : Nat → Int32} {n q : Nat} (h : TRl B T n) (hq : q < 2 ^ 31) : tpX B n q = tpA T n q := by
  have hn := h.1
  unfold tpX tapeX tpA
  rw [if_neg (nI_pos hq)]
  by_cases c : nI n ≤ nI q
  · rw [if_pos c, if_pos c]
  · rw [if_neg c, if_neg c, nI_clamp hq]
    exact (h.2 q (lt_nI c hq (by omega))).1
theorem tp_in {B T : Nat → Int32} {n q : Nat} (h : TRl B T n) (hq : q < n) : tpX B n q = T q := by
  have hn := h.1
  rw [tp_eq h (by omega)]
  unfold tpA
  rw [if_neg (nI_ge hq (by omega))]
theorem isa_eq {B T : Nat → Int32} {n q : Nat} (h : TRl B T n) (hq : q < 2 ^ 31) : isaX B n q = isaM T n q := by
  have hn := h.1
  by_cases c : q < n
  · unfold isaX isaM
    rw [tp_eq h hq, decide_eq_true c, Bool.true_and]
  · rw [isaX_F (Or.inl (by omega))]
    have e : tpA T n q = 0 := by unfold tpA; rw [if_pos (nI_le (by omega) hq)]
    rw [isaM_F (by rw [e]; decide) (by rw [e]; decide)]
theorem run_end {B T : Nat → Int32} {n s : Nat} (h : TRl B T n) (hs : s ≤ n) : ruE B n s = goE T n s := by
  have hn := h.1
  exact bl_cong _ _ (fun i _ h2 => isa_eq h (by omega))
theorem blank_eq {B T : Nat → Int32} {n q : Nat} (h : TRl B T n) (hq : q < n) : (¬ blaX (tpX B n q) = 0) ↔ (T q = 32 ∨ T q = 10) := by
  rw [tp_in h hq]
  unfold blaX
  by_cases c : T q = 32
  · rw [if_pos c]; exact ⟨fun _ => Or.inl c, fun _ => by decide⟩
  · rw [if_neg c]
    by_cases d : T q = 10
    · rw [if_pos d]; exact ⟨fun _ => Or.inr d, fun _ => by decide⟩
    · rw [if_neg d]; exact ⟨fun z => absurd rfl z, fun z => z.elim (fun y => absurd y c) (fun y => absurd y d)⟩
theorem skip_eq {B T : Nat → Int32} {n p : Nat} (h : TRl B T n) (hp : p ≤ n) : (toP B n p < stoX n → goP T n p = toP B n p) ∧ (¬ toP B n p < stoX n → stoX n ≤ goP T n p) := by
  have hst := stoX_le n
  have t1 := toP_in (B := B) (n := n) (p := p)
  have g1 := goP_in (T := T) hp
  obtain ⟨ta, tb⟩ := bl_sp (isbX B n (stoX n)) (stoX n - p) p
  obtain ⟨ga, gb⟩ := bl_sp (isbM T n) (n - p) p
  have ta : ∀ i, p ≤ i → i < toP B n p → isbX B n (stoX n) i = true := ta
  have tb : toP B n p < p + (stoX n - p) → isbX B n (stoX n) (toP B n p) = false := tb
  have ga : ∀ i, p ≤ i → i < goP T n p → isbM T n i = true := ga
  have gb : goP T n p < p + (n - p) → isbM T n (goP T n p) = false := gb
  have yes : ∀ i, i < stoX n → isbM T n i = true → isbX B n (stoX n) i = true := fun i hi hm => by
    refine isbX_T hi ((blank_eq h (by omega)).mpr ?_)
    by_cases c : T i = 32
    · exact Or.inl c
    · by_cases d : T i = 10
      · exact Or.inr d
      · rw [isbM_F (Or.inr ⟨c, d⟩)] at hm; exact absurd hm (by decide)
  have no : ∀ i, i < stoX n → isbX B n (stoX n) i = true → isbM T n i = true := fun i hi hm => by
    have z : ¬ blaX (tpX B n i) = 0 := fun y => by rw [isbX_F (Or.inr y)] at hm; exact absurd hm (by decide)
    exact isbM_T (by omega) ((blank_eq h (by omega)).mp z)
  have key : goP T n p < stoX n → toP B n p = goP T n p := fun hg => by
    have hf := gb (by omega)
    by_cases lt : toP B n p < goP T n p
    · have z := tb (by omega)
      rw [yes _ (by omega) (ga _ t1.1 lt)] at z
      exact absurd z (by decide)
    · by_cases gt : goP T n p < toP B n p
      · rw [no _ hg (ta _ g1.1 gt)] at hf
        exact absurd hf (by decide)
      · omega
  constructor
  · intro ht
    by_cases hg : goP T n p < stoX n
    · exact (key hg).symm
    · have z := tb (by omega)
      have y := ga (toP B n p) t1.1 (by omega)
      rw [yes _ ht y] at z
      exact absurd z (by decide)
  · intro ht
    by_cases hg : goP T n p < stoX n
    · rw [key hg] at ht; exact absurd hg ht
    · omega
/-! a run of letters and digits -/
def ltr (T : Nat → Int32) (q : Nat) : Prop := ¬ isInM (T q) 97 122 = 0
theorem isInM_01 (v a b : Int32) : isInM v a b = 0 ∨ isInM v a b = 1 := by
  unfold isInM
  split
  · exact Or.inl rfl
  · split
    · exact Or.inl rfl
    · exact Or.inr rfl
theorem cnt_run {B T : Nat → Int32} {n s : Nat} (h : TRl B T n) : ∀ k, s + k ≤ n → ∃ a b : Nat, a + b = k ∧ ltX B n s k = nI a ∧ dgX B n s k = nI b ∧ (a = 0 ↔ ∀ i, i < k → isInM (T (s + i)) 97 122 = 0) ∧ (b = 0 ↔ ∀ i, i < k → isInM (T (s + i)) 97 122 = 1)
  | 0, _ => ⟨0, 0, rfl, rfl, rfl, ⟨fun _ i hi => absurd hi (Nat.not_lt_zero _), fun _ => rfl⟩, ⟨fun _ i hi => absurd hi (Nat.not_lt_zero _), fun _ => rfl⟩⟩
  | k + 1, hk => by
    obtain ⟨a, b, e, e1, e2, h1, h2⟩ := cnt_run (s := s) h k (by omega)
    unfold ltX dgX
    rw [tp_in h (show s + k < n by omega), e1, e2]
    rcases isInM_01 (T (s + k)) 97 122 with c | c
    · rw [if_pos c, if_pos c, nI_1]
      refine ⟨a, b + 1, by omega, rfl, rfl, ⟨fun z i hi => ?_, fun z => h1.mpr (fun i hi => z i (by omega))⟩, ⟨fun z => absurd z (by omega), fun z => ?_⟩⟩
      · by_cases y : i = k
        · rw [y]; exact c
        · exact h1.mp z i (by omega)
      · have y := z k (by omega)
        rw [c] at y; exact absurd y (by decide)
    · rw [if_neg (by rw [c]; decide), if_neg (by rw [c]; decide), nI_1]
      refine ⟨a + 1, b, by omega, rfl, rfl, ⟨fun z => absurd z (by omega), fun z => ?_⟩, ⟨fun z i hi => ?_, fun z => h2.mpr (fun i hi => z i (by omega))⟩⟩
      · have y := z k (by omega)
        rw [c] at y; exact absurd y (by decide)
      · by_cases y : i = k
        · rw [y]; exact c
        · exact h2.mp z i (by omega)
theorem gd_run {T : Nat → Int32} {s : Nat} {L : Int32} : ∀ k, (gdM T s L k = 1 ∧ ∀ i, i < k → isInM (T (s + i)) 97 122 = L) ∨ (gdM T s L k = 0 ∧ ¬ ∀ i, i < k → isInM (T (s + i)) 97 122 = L)
  | 0 => Or.inl ⟨rfl, fun i hi => absurd hi (Nat.not_lt_zero _)⟩
  | k + 1 => by
    rw [gdM_s]
    rcases gd_run (T := T) (s := s) (L := L) k with ⟨e, h⟩ | ⟨e, h⟩
    · rw [e, if_neg (by decide)]
      by_cases c : isInM (T (s + k)) 97 122 = L
      · rw [if_pos c]
        refine Or.inl ⟨rfl, fun i hi => ?_⟩
        by_cases y : i = k
        · rw [y]; exact c
        · exact h i (by omega)
      · rw [if_neg c]
        exact Or.inr ⟨rfl, fun z => c (z k (by omega))⟩
    · rw [e, if_pos rfl]
      exact Or.inr ⟨rfl, fun z => h (fun i hi => z i (by omega))⟩
/-- the kinds of a run of len ≥ 1 bytes on both sides -/
theorem run_kind {B T : Nat → Int32} {n s len : Nat} (h : TRl B T n) (hl : 0 < len) (hn : s + len ≤ n) :
    (tkX (ltX B n s len) (dgX B n s len) = 1 ∧ soM (gdM T s (isInM (T s) 97 122) len) (isInM (T s) 97 122) (nI len) = 2 ∧ ∀ i, i < len → isInM (T (s + i)) 97 122 = 1) ∨
    (tkX (ltX B n s len) (dgX B n s len) = 2 ∧ soM (gdM T s (isInM (T s) 97 122) len) (isInM (T s) 97 122) (nI len) = 3 ∧ len ≤ 5 ∧ ∀ i, i < len → isInM (T (s + i)) 97 122 = 0) ∨
    (tkX (ltX B n s len) (dgX B n s len) = 4 ∧ soM (gdM T s (isInM (T s) 97 122) len) (isInM (T s) 97 122) (nI len) = 1) := by
  have hn8 := h.1
  obtain ⟨a, b, e, e1, e2, h1, h2⟩ := cnt_run h len hn
  rw [e1, e2]
  have f0 : ∀ L, (∀ i, i < len → isInM (T (s + i)) 97 122 = L) → isInM (T s) 97 122 = L := fun L z => z 0 hl
  rcases isInM_01 (T s) 97 122 with c | c
  · -- begins with a digit
    have hb : 0 < b := by
      rcases Nat.eq_zero_or_pos b with z | z
      · have y := f0 1 (h2.mp z); rw [c] at y; exact absurd y (by decide)
      · exact z
    rw [c]
    rcases gd_run (T := T) (s := s) (L := 0) len with ⟨g, z⟩ | ⟨g, z⟩
    · have ha : a = 0 := h1.mpr z
      subst ha
      have hbl : b = len := by omega
      subst hbl
      have tk : tkX (nI 0) (nI b) = if 5 < nI b then 4 else 2 := by
        unfold tkX tk2
        rw [if_pos (show nI 0 ≤ 0 by decide), if_pos (show nI 0 = 0 from rfl), if_neg (nI_nle hl (by omega))]
      have so : soM (gdM T s 0 b) 0 (nI b) = if nI b ≤ 5 then 3 else 1 := by
        unfold soM
        rw [g, if_neg (show ¬ (1 : Int32) = 0 by decide), if_pos rfl]
      rw [tk, so]
      by_cases q : b ≤ 5
      · refine Or.inr (Or.inl ⟨?_, ?_, q, z⟩)
        · rw [if_neg]; show ¬ nI 5 < nI b; exact nI_nlt q (by omega)
        · rw [if_pos]; show nI b ≤ nI 5; exact nI_le q (by omega)
      · refine Or.inr (Or.inr ⟨?_, ?_⟩)
        · rw [if_pos]; show nI 5 < nI b; exact nI_lt (by omega) (by omega)
        · rw [if_neg]; show ¬ nI b ≤ nI 5; exact nI_ge (by omega) (by omega)
    · have ha : 0 < a := by
        rcases Nat.eq_zero_or_pos a with y | y
        · exact absurd (h1.mp y) z
        · exact y
      refine Or.inr (Or.inr ⟨?_, ?_⟩)
      · unfold tkX tk2
        rw [if_neg (nI_nle ha (by omega)), if_neg (nI_ne0 hb (by omega)), if_neg (nI_ne0 ha (by omega))]
      · unfold soM; rw [g, if_pos rfl]
  · -- begins with a letter
    have ha : 0 < a := by
      rcases Nat.eq_zero_or_pos a with z | z
      · have y := f0 0 (h1.mp z); rw [c] at y; exact absurd y (by decide)
      · exact z
    rw [c]
    rcases gd_run (T := T) (s := s) (L := 1) len with ⟨g, z⟩ | ⟨g, z⟩
    · have hb : b = 0 := h2.mpr z
      subst hb
      refine Or.inl ⟨?_, ?_, z⟩
      · unfold tkX
        rw [if_neg (nI_nle ha (by omega)), if_pos (show nI 0 = 0 from rfl)]
      · unfold soM; rw [g, if_neg (by decide), if_neg (by decide)]
    · have hb : 0 < b := by
        rcases Nat.eq_zero_or_pos b with y | y
        · exact absurd (h2.mp y) z
        · exact y
      refine Or.inr (Or.inr ⟨?_, ?_⟩)
      · unfold tkX tk2
        rw [if_neg (nI_nle ha (by omega)), if_neg (nI_ne0 hb (by omega)), if_neg (nI_ne0 ha (by omega))]
      · unfold soM; rw [g, if_pos rfl]
/-- the number that a run of digits tells -/
theorem run_num {B T : Nat → Int32} {n s len : Nat} (h : TRl B T n) (hn : s + len ≤ n) (hd : ∀ i, i < len → isInM (T (s + i)) 97 122 = 0 ∧ rg (T (s + i)) 48 57) : ∀ k, k ≤ len → k ≤ 5 → vlX B n s k = nuM T s k ∧ 0 ≤ (nuM T s k).toInt ∧ (nuM T s k).toInt < 10 ^ k
  | 0, _, _ => ⟨rfl, Int.le_refl 0, by show (0 : Int) < 1; omega⟩
  | k + 1, hk, h5 => by
    obtain ⟨e, r0, r1⟩ := run_num h hn hd k (by omega) (by omega)
    have d := hd k (by omega)
    unfold vlX
    rw [nuM_s, tp_in h (by omega), if_pos d.1, if_neg (show ¬ (5 : Int32) ≤ nI k from nI_ge (b := 5) (by omega) (by omega)), e]
    have hp : (10 : Int) ^ k ≤ 10 ^ 4 := by
      rcases (show k = 0 ∨ k = 1 ∨ k = 2 ∨ k = 3 ∨ k = 4 by omega) with rfl | rfl | rfl | rfl | rfl <;> decide
    have hp1 : (10 : Int) ^ (k + 1) = 10 ^ k * 10 := Int.pow_succ _ _
    have t10 : (10 : Int32).toInt = 10 := rfl
    have t48 : (48 : Int32).toInt = 48 := rfl
    have m : (10 * nuM T s k).toInt = 10 * (nuM T s k).toInt := by
      rw [Int32.toInt_mul, t10]; exact Int.bmod_eq_of_le (by omega) (by omega)
    have s1 : (10 * nuM T s k + T (s + k)).toInt = 10 * (nuM T s k).toInt + (T (s + k)).toInt := by rw [i32a (by rw [m]; omega) (by rw [m]; omega), m]
    have s2 : (10 * nuM T s k + T (s + k) - 48).toInt = 10 * (nuM T s k).toInt + (T (s + k)).toInt - 48 := by rw [i32s (by rw [s1, t48]; omega) (by rw [s1, t48]; omega), s1, t48]
    refine ⟨by grind, by rw [s2]; omega, by rw [s2, hp1]; omega⟩
/-! words: numerals of base 27 whose digits are 1 to 26 -/
def hvN (c : Nat → Nat) : Nat → Nat
  | 0 => 0
  | k + 1 => 27 * hvN c k + c k
theorem hv_st {c d : Nat → Nat} {k : Nat} (h1 : hvN c k = hvN d k) (h2 : c k = d k) : hvN c (k + 1) = hvN d (k + 1) := by
  show 27 * hvN c k + c k = 27 * hvN d k + d k
  rw [h1, h2]
theorem hv_inj {c d : Nat → Nat} : ∀ a b, (∀ j, j < a → 1 ≤ c j ∧ c j ≤ 26) → (∀ j, j < b → 1 ≤ d j ∧ d j ≤ 26) → hvN c a = hvN d b → a = b ∧ ∀ j, j < a → c j = d j
  | 0, 0, _, _, _ => ⟨rfl, fun j hj => absurd hj (Nat.not_lt_zero _)⟩
  | 0, b + 1, _, hd, e => by
    have z := (hd b (by omega)).1
    have e : 0 = 27 * hvN d b + d b := e
    omega
  | a + 1, 0, hc, _, e => by
    have z := (hc a (by omega)).1
    have e : 27 * hvN c a + c a = 0 := e
    omega
  | a + 1, b + 1, hc, hd, e => by
    have z := hc a (by omega)
    have y := hd b (by omega)
    have e : 27 * hvN c a + c a = 27 * hvN d b + d b := e
    have e1 : hvN c a = hvN d b := by omega
    have e2 : c a = d b := by omega
    obtain ⟨h1, h2⟩ := hv_inj a b (fun j hj => hc j (by omega)) (fun j hj => hd j (by omega)) e1
    subst h1
    refine ⟨rfl, fun j hj => ?_⟩
    by_cases q : j = a
    · rw [q]; exact e2
    · exact h2 j (by omega)
theorem hv_up {c : Nat → Nat} : ∀ k, k ≤ 7 → (∀ j, j < k → 1 ≤ c j ∧ c j ≤ 26) → hvN c k < 27 ^ k
  | 0, _, _ => by show 0 < 1; omega
  | k + 1, hk, h => by
    have z := h k (by omega)
    have ih := hv_up k (by omega) (fun j hj => h j (by omega))
    have e : (27 : Nat) ^ (k + 1) = 27 ^ k * 27 := Nat.pow_succ _ _
    show 27 * hvN c k + c k < 27 ^ (k + 1)
    rw [e]; omega
def lcN (T : Nat → Int32) (s j : Nat) : Nat := (T (s + j)).toNatClampNeg - 96
theorem word_val {T : Nat → Int32} {s len : Nat} (hl : ∀ i, i < len → rg (T (s + i)) 97 122) : (∀ j, j < len → 1 ≤ lcN T s j ∧ lcN T s j ≤ 26 ∧ (T (s + j)).toInt = (lcN T s j : Int) + 96) ∧ ∀ k, k ≤ len → k ≤ 7 → (wdM T s k).toInt = (hvN (lcN T s) k : Int) := by
  have dg : ∀ j, j < len → 1 ≤ lcN T s j ∧ lcN T s j ≤ 26 ∧ (T (s + j)).toInt = (lcN T s j : Int) + 96 := by
    intro j hj
    have r := hl j hj
    obtain ⟨e, hb⟩ := rg_nI (x := T (s + j)) (b := 122) ⟨by omega, r.2⟩ (by omega)
    have z : (T (s + j)).toInt = ((T (s + j)).toNatClampNeg : Int) := by
      have y := congrArg Int32.toInt e
      rw [nI_toInt (by omega)] at y; exact y
    unfold lcN
    omega
  refine ⟨dg, fun k => ?_⟩
  induction k with
  | zero => intro _ _; rfl
  | succ k ih =>
    intro hk h7
    have e := ih (by omega) (by omega)
    have d := dg k (by omega)
    have up := hv_up k (by omega) (fun j hj => ⟨(dg j (by omega)).1, (dg j (by omega)).2.1⟩)
    have p7 : (27 : Nat) ^ k ≤ 27 ^ 6 := Nat.pow_le_pow_right (by omega) (by omega)
    have p6 : (27 : Nat) ^ 6 = 387420489 := by decide
    rw [wdM_s, if_neg (show ¬ (7 : Int32) ≤ nI k from nI_ge (b := 7) (by omega) (by omega))]
    have t27 : (27 : Int64).toInt = 27 := rfl
    have t96 : (96 : Int64).toInt = 96 := rfl
    have m : (27 * wdM T s k).toInt = 27 * (hvN (lcN T s) k : Int) := by
      rw [i64m (by rw [t27, e]; omega) (by rw [t27, e]; omega), t27, e]
    have s1 : (27 * wdM T s k + (T (s + k)).toInt64).toInt = 27 * (hvN (lcN T s) k : Int) + (T (s + k)).toInt := by rw [i64a (by rw [m, Int32.toInt_toInt64]; omega) (by rw [m, Int32.toInt_toInt64]; omega), m, Int32.toInt_toInt64]
    rw [i64s (by rw [s1, t96]; omega) (by rw [s1, t96]; omega), s1, t96]
    show _ = ((27 * hvN (lcN T s) k + lcN T s k : Nat) : Int)
    omega
theorem wd_7 {T : Nat → Int32} {s : Nat} : ∀ k, 7 ≤ k → k < 2 ^ 31 → wdM T s k = wdM T s 7
  | 0, h, _ => by omega
  | k + 1, h, hb => by
    by_cases q : k + 1 = 7
    · rw [q]
    · rw [wdM_s, if_pos (show (7 : Int32) ≤ nI k from nI_le (a := 7) (by omega) (by omega))]
      exact wd_7 k (by omega) (by omega)
def wV (i : Nat) : Int64 := [isV 121 101 97 114 0 0, isV 112 101 114 105 111 100, isV 115 104 97 114 101 0, isV 117 112 116 111 0 0, isV 111 118 101 114 0 0, isV 114 97 116 101 0 0, isV 105 110 99 111 109 101, isV 112 97 121 0 0 0].getD i 0
def dwN (i j : Nat) : Nat := (chS i j).toNatClampNeg - 96
theorem wV_val : ∀ i, i < 8 → (wV i).toInt = (hvN (dwN i) (sfL.getD i 0) : Int) := by decide +kernel
theorem dw_ok : ∀ i, i < 8 → ∀ j, j < sfL.getD i 0 → (1 ≤ dwN i j ∧ dwN i j ≤ 26) ∧ chS i j = nI (dwN i j + 96) := by decide +kernel
theorem sf_le : ∀ i, i < 8 → sfL.getD i 0 ≤ 6 := by decide
theorem wV_ne : ∀ i, i < 8 → ∀ j, j < 8 → wV i = wV j → i = j := by decide +kernel
theorem wm_all {B : Nat → Int32} {n s i : Nat} : ∀ L, wmX B n s i L = true ↔ ∀ j, j < L → chS i j = tpX B n (s + j)
  | 0 => ⟨fun _ j hj => absurd hj (Nat.not_lt_zero _), fun _ => rfl⟩
  | L + 1 => by
    rw [wmX_s, Bool.and_eq_true, wm_all L, decide_eq_true_eq]
    constructor
    · rintro ⟨a, b⟩ j hj
      by_cases q : j = L
      · rw [q]; exact b
      · exact a j (by omega)
    · exact fun a => ⟨fun j hj => a j (by omega), a L (by omega)⟩
theorem word_lhs {B : Nat → Int32} {n s len i : Nat} (hb : s + len < 2 ^ 31) (l6 : sfL.getD i 0 ≤ 6) : iwX B n s (s + len) i = 1 ↔ sfL.getD i 0 = len ∧ ∀ j, j < sfL.getD i 0 → chS i j = tpX B n (s + j) := by
  have esub : nI (s + len) - nI s = nI len := by rw [pk_sub (Nat.le_add_right s len), Nat.add_sub_cancel_left]
  unfold iwX
  rw [esub]
  generalize sfL.getD i 0 = w at l6
  by_cases c : w = len
  · rw [if_pos (by rw [c])]
    by_cases d : wmX B n s i w = true
    · rw [if_pos d]; exact ⟨fun _ => ⟨c, (wm_all _).mp d⟩, fun _ => rfl⟩
    · rw [if_neg d]; exact ⟨fun z => absurd z (by decide), fun z => absurd ((wm_all _).mpr z.2) d⟩
  · rw [if_neg (fun z => c ((nI_eq (by omega) (by omega)).mp z))]
    exact ⟨fun z => absurd z (by decide), fun z => absurd z.1 c⟩
theorem pt_eq {x ch : Int32} {c w : Nat} (hc : x.toInt = (c : Int) + 96) (hw : ch = nI (w + 96)) (hw2 : w ≤ 26) : ch = x ↔ c = w := by
  have e : ch.toInt = (w : Int) + 96 := by rw [hw, nI_toInt (by omega)]; omega
  constructor
  · intro z; rw [z, hc] at e; omega
  · intro z; exact i32_ext (by rw [e, hc, z])
theorem hv_cong {c d : Nat → Nat} : ∀ k, (∀ j, j < k → c j = d j) → hvN c k = hvN d k
  | 0, _ => rfl
  | k + 1, h => hv_st (hv_cong k (fun j hj => h j (by omega))) (h k (by omega))
theorem word_is {B T : Nat → Int32} {n s len : Nat} (h : TRl B T n) (hn : s + len ≤ n) (hl : ∀ i, i < len → rg (T (s + i)) 97 122) {i : Nat} (hi : i < 8) : iwX B n s (s + len) i = 1 ↔ lg_cmp (wdM T s len) (wV i) = 0 := by
  have hn8 := h.1
  obtain ⟨dg, wv⟩ := word_val hl
  have v := wV_val i hi
  have dw := dw_ok i hi
  have l6 := sf_le i hi
  have tp : ∀ j, j < len → tpX B n (s + j) = T (s + j) := fun j hj => tp_in h (by omega)
  rw [word_lhs (by omega) l6, lg_cmp_eq]
  generalize sfL.getD i 0 = L at v dw l6
  generalize wV i = V at v
  generalize lcN T s = c at dg wv
  generalize dwN i = d at v dw
  generalize chS i = ch at dw
  generalize tpX B n = tq at tp
  constructor
  · rintro ⟨e, a⟩
    subst e
    apply i64_ext
    rw [wv L (Nat.le_refl _) (by omega), v, hv_cong L (fun j hj => (pt_eq (dg j hj).2.2 (dw j hj).2 (dw j hj).1.2).mp ((a j hj).trans (tp j hj)))]
  · intro z
    rw [← z] at v
    have fin : ∀ k, k ≤ len → hvN c k = hvN d L → k = L ∧ ∀ j, j < L → ch j = tq (s + j) := by
      intro k hk e
      obtain ⟨a, b⟩ := hv_inj k L (fun j hj => ⟨(dg j (by omega)).1, (dg j (by omega)).2.1⟩) (fun j hj => (dw j hj).1) e
      refine ⟨a, fun j hj => ?_⟩
      rw [tp j (by omega)]
      exact (pt_eq (dg j (by omega)).2.2 (dw j hj).2 (dw j hj).1.2).mpr (b j (by omega))
    by_cases l7 : len ≤ 7
    · rw [wv len (Nat.le_refl _) l7] at v
      obtain ⟨a, b⟩ := fin len (Nat.le_refl _) (Int.ofNat.inj v)
      exact ⟨a.symm, b⟩
    · obtain ⟨q7, h7⟩ : ∃ q7 : Nat, q7 = 7 := ⟨7, rfl⟩
      have e7 := wd_7 (T := T) (s := s) len (by omega) (by omega)
      rw [← h7] at e7
      rw [e7, wv q7 (by omega) (by omega)] at v
      have a := (fin q7 (by omega) (Int.ofNat.inj v)).1
      omega

def TK (B : Nat → Int32) (n : Nat) (X : XSt) (M : MSt) : Prop :=
  X.2.2.2.2.1 = M.2.1 ∧ ((X.2.2.2.2.2.1 = 0 ∧ ((M.2.2.1 = 0 ∧ n ≤ 800) ∨ (M.2.2.1 = 1 ∧ 800 < n))) ∨ (X.2.2.2.2.2.1 = 3 ∧ M.2.2.1 = 4 ∧ X.2.2.2.1 = M.1) ∨ (X.2.2.2.2.2.1 = 1 ∧ M.2.2.1 = 2 ∧ X.2.2.2.1 = M.1 ∧ ∀ i, i < 8 → (iwX B n X.2.2.2.2.1 X.2.2.2.1 i = 1 ↔ lg_cmp M.2.2.2.2.2.2.1 (wV i) = 0)) ∨ (X.2.2.2.2.2.1 = 2 ∧ M.2.2.1 = 3 ∧ X.2.2.2.1 = M.1 ∧ X.2.2.2.2.2.2.1 = M.2.2.2.1 ∧ rg M.2.2.2.1 0 99999) ∨ (X.2.2.2.2.2.1 = 4 ∧ M.2.2.1 = 1))
theorem tok_eq {B T : Nat → Int32} {n : Nat} {X : XSt} {M : MSt} (h : TRl B T n) (hp : X.2.2.2.1 = M.1) (hm : M.1 ≤ n) : TK B n (tokX B n X) (goM T n M) := by
  have hn8 := h.1
  have hs := skip_eq h hm
  have hst := stoX_le n
  have gi := goP_in (T := T) hm
  unfold tokX goM
  rw [hp]
  by_cases c : toP B n M.1 < stoX n
  · have e := hs.1 c
    rw [if_pos c, ← e]
    rw [← e] at c
    generalize goP T n M.1 = q at c gi
    rw [if_neg (show ¬ (800 < n ∧ 800 ≤ q) by omega), if_neg (show ¬ n ≤ q by omega)]
    have hq : tpX B n q = T q := tp_in h (by omega)
    by_cases c2 : tpX B n q = 59
    · rw [if_pos c2]
      rw [hq] at c2
      rw [if_pos (show isInM (T q) 97 122 = 0 ∧ isInM (T q) 48 57 = 0 by rw [c2]; decide), if_pos c2]
      exact ⟨rfl, Or.inr (Or.inl ⟨rfl, rfl, rfl⟩)⟩
    · rw [if_neg c2]
      rw [hq] at c2
      by_cases c3 : isInM (T q) 97 122 = 0 ∧ isInM (T q) 48 57 = 0
      · rw [if_pos c3, if_neg c2]
        refine ⟨rfl, Or.inr (Or.inr (Or.inr (Or.inr ⟨?_, rfl⟩)))⟩
        have er : ruE B n q = q := bl_F (isaX_F (Or.inr (by rw [hq]; exact c3)))
        show tkX (ltX B n q (ruE B n q - q)) (dgX B n q (ruE B n q - q)) = 4
        rw [er, Nat.sub_self]; rfl
      · rw [if_neg c3]
        have er : ruE B n q = goE T n q := run_end h (by omega)
        have gl : q ≤ goE T n q ∧ goE T n q ≤ q + (n - q) := ⟨bl_ge _ _ _, bl_le _ _ _⟩
        have ga : ∀ i, q ≤ i → i < goE T n q → isaM T n i = true := (bl_sp (isaM T n) (n - q) q).1
        have tpq : ∀ i, i < n → tpA T n i = T i := fun i hi => by unfold tpA; rw [if_neg (nI_ge hi (by omega))]
        have f0 : isaM T n q = true := by
          refine isaM_T ?_
          rw [tpq q (by omega)]
          by_cases y : isInM (T q) 97 122 = 0
          · exact Or.inr (fun z => c3 ⟨y, z⟩)
          · exact Or.inl y
        have gt : q < goE T n q := by
          rcases Nat.lt_or_ge q (goE T n q) with y | y
          · exact y
          · have z := (bl_sp (isaM T n) (n - q) q).2 (by show goE T n q < _; omega)
            have z : isaM T n (goE T n q) = false := z
            rw [show goE T n q = q by omega, f0] at z; exact absurd z (by decide)
        obtain ⟨len, el⟩ : ∃ len, goE T n q = q + len := ⟨goE T n q - q, by omega⟩
        have hlen : 0 < len := by omega
        have alnum : ∀ i, i < len → ¬ (isInM (T (q + i)) 97 122 = 0 ∧ isInM (T (q + i)) 48 57 = 0) := fun i hi z => by
          have y := ga (q + i) (by omega) (by omega)
          rw [isaM_F (by rw [tpq _ (by omega)]; exact z.1) (by rw [tpq _ (by omega)]; exact z.2)] at y
          exact absurd y (by decide)
        unfold runX
        dsimp only
        rw [er, el, show q + len - q = len by omega]
        rcases run_kind h hlen (show q + len ≤ n by omega) with ⟨k1, k2, k3⟩ | ⟨k1, k2, k3, k4⟩ | ⟨k1, k2⟩
        · refine ⟨rfl, Or.inr (Or.inr (Or.inl ⟨k1, k2, rfl, fun i hi => ?_⟩))⟩
          show iwX B n q (q + len) i = 1 ↔ lg_cmp (wdM T q len) (wV i) = 0
          exact word_is h (by omega) (fun j hj => isInM_rg (by rw [k3 j hj]; decide)) hi
        · have nm := run_num (len := len) h (by omega) (fun i hi => ⟨k4 i hi, isInM_rg (fun z => alnum i hi ⟨k4 i hi, z⟩)⟩) len (Nat.le_refl _) k3
          have p5 : (10 : Int) ^ len ≤ 100000 := by
            rcases (show len = 1 ∨ len = 2 ∨ len = 3 ∨ len = 4 ∨ len = 5 by omega) with y | y | y | y | y <;> rw [y] <;> decide
          exact ⟨rfl, Or.inr (Or.inr (Or.inr (Or.inl ⟨k1, k2, rfl, nm.1, nm.2.1, by have := nm.2.2; show (nuM T q len).toInt ≤ 99999; omega⟩)))⟩
        · exact ⟨rfl, Or.inr (Or.inr (Or.inr (Or.inr ⟨k1, k2⟩)))⟩
  · have e := hs.2 c
    rw [if_neg c]
    unfold stoX at e ⊢
    by_cases c8 : 800 < n
    · rw [if_pos c8] at e ⊢
      rw [if_pos (And.intro c8 e)]
      exact ⟨rfl, Or.inl ⟨rfl, Or.inr ⟨rfl, c8⟩⟩⟩
    · rw [if_neg c8] at e ⊢
      rw [if_neg (show ¬ (800 < n ∧ 800 ≤ goP T n M.1) by omega), if_pos e]
      exact ⟨by show n = goP T n M.1; omega, Or.inl ⟨rfl, Or.inl ⟨rfl, by omega⟩⟩⟩
