/-! the least sums, instalments, costs on both sides -/
theorem chM_in (sb : Int32 → Int32) (bar : Int32) : ∀ n, chM sb bar n = -1 ∨ ∃ j : Nat, j < n ∧ chM sb bar n = nI j
  | 0 => Or.inl rfl
  | n + 1 => by
    unfold chM
    have ih := chM_in sb bar n
    split
    · split
      · exact Or.inr ⟨n, by omega, rfl⟩
      · split
        · rcases ih with e | ⟨j, hj, e⟩
          · exact Or.inl e
          · exact Or.inr ⟨j, by omega, e⟩
        · exact Or.inr ⟨n, by omega, rfl⟩
    · rcases ih with e | ⟨j, hj, e⟩
      · exact Or.inl e
      · exact Or.inr ⟨j, by omega, e⟩
theorem nI_ne_m1 {n : Nat} (h : n < 2 ^ 31) : ¬ nI n = -1 := fun z => by
  have e := congrArg Int32.toInt z
  rw [nI_toInt h, show (-1 : Int32).toInt = -1 from rfl] at e
  omega
theorem chM_some (sb : Int32 → Int32) (bar : Int32) : ∀ n, n < 2 ^ 31 → (∃ k, k < n ∧ hasM bar (nI k) = 0) → ¬ chM sb bar n = -1
  | 0, _, ⟨_, hk, _⟩ => absurd hk (Nat.not_lt_zero _)
  | n + 1, hn, ⟨k, hk, hb⟩ => by
    unfold chM
    by_cases hc : hasM bar (nI n) = 0
    · rw [if_pos hc]
      by_cases hm : chM sb bar n = -1
      · rw [if_pos hm]; exact nI_ne_m1 (by omega)
      · rw [if_neg hm]
        split
        · exact hm
        · exact nI_ne_m1 (by omega)
    · rw [if_neg hc]
      have hkn : k ≠ n := fun z => hc (by rw [← z]; exact hb)
      exact chM_some sb bar n (by omega) ⟨k, by omega, hb⟩
theorem bar_some {bar : Int32} (h : rg bar 0 6) : ∃ k, k < 3 ∧ hasM bar (nI k) = 0 := by
  have e : ∃ j : Nat, j < 7 ∧ bar = nI j := by
    obtain ⟨j, hj, e⟩ := nI_of (x := bar) (by rw [Int32.lt_iff_toInt_lt]; show ¬ bar.toInt < 0; omega)
    refine ⟨j, ?_, e⟩
    have z := h.2
    rw [e, nI_toInt hj] at z
    omega
  obtain ⟨j, hj, rfl⟩ := e
  have all : ∀ j, j < 7 → hasM (nI j) (nI 0) = 0 ∨ hasM (nI j) (nI 1) = 0 ∨ hasM (nI j) (nI 2) = 0 := by decide +kernel
  rcases all j hj with a | a | a
  · exact ⟨0, by omega, a⟩
  · exact ⟨1, by omega, a⟩
  · exact ⟨2, by omega, a⟩
section LS
variable {Yf Yg : Nat → Nat → Int32} {Yc : Nat → Nat} {Yv N : Nat → Int32}
theorem YR.sbF (h : YR Yf Yg Yc Yv N) {p : Nat} (hp : p < 4) : (fun r => sbX Yf Yg Yc Yv r (nI p)) = fun r => sbM N (Yc 1) (Yc 3) r p := funext fun r => h.sb r hp
theorem YR.ru (h : YR Yf Yg Yc Yv N) (bar : Int32) {p : Nat} (hp : p < 4) : ruF (sbX Yf Yg Yc Yv) bar p = chM (fun r => sbM N (Yc 1) (Yc 3) r p) bar 3 := by
  unfold ruF
  rw [h.sbF hp]
  exact (ch_eq _ bar 3).1
theorem YR.ls (h : YR Yf Yg Yc Yv N) {bar : Int32} (hb : rg bar 0 6) {p : Nat} (hp : p < 4) : lsM N (Yc 1) (Yc 3) bar p = lsF (sbX Yf Yg Yc Yv) bar p ∧ 0 ≤ (lsM N (Yc 1) (Yc 3) bar p).toInt := by
  refine ⟨?_, (h.sbr _ hp).1⟩
  unfold lsF lsM
  rw [h.sbF hp]
  exact ((ch_eq (fun r => sbM N (Yc 1) (Yc 3) r p) bar 3).2 (chM_some _ bar 3 (by omega) (bar_some hb))).symm
theorem YR.lsr (h : YR Yf Yg Yc Yv N) (bar : Int32) {p : Nat} (hp : p < 4) : rg (lsM N (Yc 1) (Yc 3) bar p) 0 1459985400 := h.sbr _ hp
theorem YR.thr (h : YR Yf Yg Yc Yv N) {bar : Int32} (hb : rg bar 0 6) : ∀ k, k ≤ 4 → rg (thS (sbX Yf Yg Yc Yv) bar k) 0 1459985400
  | 0, _ => ⟨Int.le_refl 0, by show (0 : Int) ≤ _; omega⟩
  | k + 1, hk => by
    have ih := h.thr hb k (by omega)
    have l := h.ls hb (p := k) (by omega)
    have r := h.lsr bar (p := k) (by omega)
    rw [l.1] at r
    show rg (max32 (thS (sbX Yf Yg Yc Yv) bar k) (lsF (sbX Yf Yg Yc Yv) bar k)) 0 1459985400
    constructor
    · rw [max32_toInt]; split <;> omega
    · rw [max32_toInt]; split <;> omega
end LS
section CS
variable {sb : Int32 → Int32 → Int32} {bar : Int32} {s P R Pd Rt : Nat → Int32} {due : Nat → Nat} {ed : Nat} {day more : Int32}
/-- what both sides know of the instalments -/
def SBk (sb : Int32 → Int32 → Int32) (bar : Int32) (s : Nat → Int32) : Prop := (∀ p, p < 4 → s p = lsF sb bar p ∧ 0 ≤ (s p).toInt) ∧ ∀ k, k ≤ 4 → rg (thS sb bar k) 0 1459985400
theorem cs_cc (H : SBk sb bar s) (hP : ∀ j, j < 500 → P j = Pd j + (if nI j < day then 0 else more) ∧ rg (P j) (-500000000) 500000000) (hR : ∀ j, j < 500 → R j = Rt j) {p : Nat} (hp : p < 4) {a : Nat} : ∀ k, a + k ≤ 500 → csX P R (insX (thF sb bar) (nI p)) (rowAt (thF sb bar) 4 (nI p)) a k = ccM (inM s) Pd Rt p day more a k
  | 0, _ => rfl
  | k + 1, hk => by
    unfold csX ccM
    rw [cs_cc H hP hR hp k (by omega), hR (a + k) (by omega), ← (hP (a + k) (by omega)).1]
    have z := hP (a + k) (by omega)
    have t := H.2 (p + 1) (by omega)
    rw [show max32 0 (min32 (insX (thF sb bar) (nI p)) (rowAt (thF sb bar) 4 (nI p) - P (a + k))) = uncX (thF sb bar) (nI p) (P (a + k)) from rfl, unc_eq H.1 hp (by omega) z.2.1 z.2.2]
theorem co_eq (H : SBk sb bar s) (hP : ∀ j, j < 500 → P j = Pd j + (if nI j < day then 0 else more) ∧ rg (P j) (-500000000) 500000000) (hR : ∀ j, j < 500 → R j = Rt j) (hed : ed ≤ 499) {p : Nat} (hp : p < 4) (hdu : due p ≤ 499) : coX P R (thF sb bar) (due p) ed (nI p) = coM (inM s) Pd Rt p day more (due p) ed := by
  unfold coX coM
  rw [cs_cc H hP hR hp _ (by omega)]
theorem css_cw (H : SBk sb bar s) (hP : ∀ j, j < 500 → P j = Pd j + (if nI j < day then 0 else more) ∧ rg (P j) (-500000000) 500000000) (hR : ∀ j, j < 500 → R j = Rt j) (hed : ed ≤ 499) (hdu : ∀ p, p < 4 → due p ≤ 499) : ∀ k, k ≤ 4 → cssX P R (thF sb bar) due ed k = cwM (inM s) Pd Rt due ed day more k
  | 0, _ => rfl
  | k + 1, hk => by
    unfold cssX cwM
    rw [css_cw H hP hR hed hdu k (by omega), co_eq H hP hR hed (by omega) (hdu k (by omega))]
/-- what stands beyond the four instalments doesn't count -/
theorem coX_ov4 (F G : Nat → Int32) (d e : Nat) (p : Int32) : coX P R (ov F G 4) d e p = coX P R F d e p := by unfold coX; rw [insX_ov4, rowAt_ov4]
theorem cssX_ov4 (F G : Nat → Int32) : ∀ k, cssX P R (ov F G 4) due ed k = cssX P R F due ed k
  | 0 => rfl
  | k + 1 => by unfold cssX; rw [cssX_ov4 F G k, coX_ov4]
theorem ccM_cong {I J Pd2 Rt2 : Nat → Int32} {p : Nat} (hI : ∀ q, q < 4 → I q = J q) (hp : p < 4) (h1 : ∀ j, j < 500 → Pd j = Pd2 j) (h2 : ∀ j, j < 500 → Rt j = Rt2 j) {a : Nat} : ∀ k, a + k ≤ 500 → ccM I Pd Rt p day more a k = ccM J Pd2 Rt2 p day more a k
  | 0, _ => rfl
  | k + 1, hk => by
    unfold ccM
    rw [ccM_cong hI hp h1 h2 k (by omega), h1 (a + k) (by omega), h2 (a + k) (by omega), unM_cong (fun q hq => hI q (by omega))]
theorem coM_cong {I J Pd2 Rt2 : Nat → Int32} {p d : Nat} (hI : ∀ q, q < 4 → I q = J q) (hp : p < 4) (h1 : ∀ j, j < 500 → Pd j = Pd2 j) (h2 : ∀ j, j < 500 → Rt j = Rt2 j) (hed : ed ≤ 499) (hd : d ≤ 499) : coM I Pd Rt p day more d ed = coM J Pd2 Rt2 p day more d ed := by
  unfold coM
  rw [ccM_cong hI hp h1 h2 _ (by omega)]
theorem cwM_cong {I J Pd2 Rt2 : Nat → Int32} (hI : ∀ q, q < 4 → I q = J q) (h1 : ∀ j, j < 500 → Pd j = Pd2 j) (h2 : ∀ j, j < 500 → Rt j = Rt2 j) (hed : ed ≤ 499) (hdu : ∀ p, p < 4 → due p ≤ 499) : ∀ k, k ≤ 4 → cwM I Pd Rt due ed day more k = cwM J Pd2 Rt2 due ed day more k
  | 0, _ => rfl
  | k + 1, hk => by
    unfold cwM
    rw [cwM_cong hI h1 h2 hed hdu k (by omega), coM_cong hI (by omega) h1 h2 hed (hdu k (by omega))]
end CS
theorem ov_lt {F G : Nat → Int32} {n j : Nat} (h : j < n) : ov F G n j = F j := by unfold ov; rw [if_pos h]
theorem cwM_ov {F G H In Pd Rt : Nat → Int32} {due : Nat → Nat} {ed : Nat} {day more : Int32} (hed : ed ≤ 499) (hdu : ∀ p, p < 4 → due p ≤ 499) : cwM (ov F In 4) (ov G Pd 500) (ov H Rt 500) due ed day more 4 = cwM F G H due ed day more 4 :=
  cwM_cong (I := ov F In 4) (J := F) (Pd := ov G Pd 500) (Pd2 := G) (Rt := ov H Rt 500) (Rt2 := H) (fun q hq => ov_lt hq) (fun j hj => ov_lt hj) (fun j hj => ov_lt hj) hed hdu 4 (by omega)
theorem coM_ov {F G H In Pd Rt : Nat → Int32} {p d ed : Nat} {day more : Int32} (hp : p < 4) (hed : ed ≤ 499) (hd : d ≤ 499) : coM (ov F In 4) (ov G Pd 500) (ov H Rt 500) p day more d ed = coM F G H p day more d ed :=
  coM_cong (I := ov F In 4) (J := F) (Pd := ov G Pd 500) (Pd2 := G) (Rt := ov H Rt 500) (Rt2 := H) (fun q hq => ov_lt hq) hp (fun j hj => ov_lt hj) (fun j hj => ov_lt hj) hed hd
theorem upM_cong {N N2 : Nat → Int32} {C n : Nat} {d : Int32} (h : ∀ j, j < n → N2 (C + 1 + 2 * j) = N (C + 1 + 2 * j) ∧ N2 (C + 2 + 2 * j) = N (C + 2 + 2 * j)) : upM N2 C d n = upM N C d n := sumUp_cong (f := evF N2 C) (g := odF N2 C) (f2 := evF N C) (g2 := odF N C) n h
theorem paM_cong {N N2 : Nat → Int32} {np nb : Nat} {d : Int32} (h1 : N2 1 = N 1) (h2 : ∀ j, j < 2 * np → N2 (118 + j) = N (118 + j)) (h3 : ∀ j, j < 2 * nb → N2 (199 + j) = N (199 + j)) : paM N2 np nb d = paM N np nb d := by
  unfold paM
  rw [h1, upM_cong (N := N) (N2 := N2) (C := 117) (fun j hj => ⟨by have := h2 (2 * j) (by omega); rw [show 117 + 1 + 2 * j = 118 + 2 * j by omega]; exact this, by have := h2 (2 * j + 1) (by omega); rw [show 117 + 2 + 2 * j = 118 + (2 * j + 1) by omega]; exact this⟩), upM_cong (N := N) (N2 := N2) (C := 198) (fun j hj => ⟨by have := h3 (2 * j) (by omega); rw [show 198 + 1 + 2 * j = 199 + 2 * j by omega]; exact this, by have := h3 (2 * j + 1) (by omega); rw [show 198 + 2 + 2 * j = 199 + (2 * j + 1) by omega]; exact this⟩)]
/-! what is paid by days -/
theorem psX_upd {P : Nat → Int32} {c v : Int32} {t : Nat} : ∀ m, psX (upd P t (P t + v)) c m = psX P c m + (if t < m then v else 0)
  | 0 => by unfold psX; rw [if_neg (Nat.not_lt_zero _), Int32.add_zero]
  | m + 1 => by
    unfold psX
    rw [psX_upd m]
    by_cases h : t = m
    · subst h
      rw [upd_self, if_neg (Nat.lt_irrefl _), if_pos (Nat.lt_succ_self _)]
      grind
    · rw [upd_ne (fun z => h z.symm)]
      by_cases h2 : t < m
      · rw [if_pos h2, if_pos (by omega)]; grind
      · rw [if_neg h2, if_neg (by omega)]; grind
theorem psX_mk {f g P : Nat → Int32} {sg c : Int32} {j : Nat} (hj : j < 500) : ∀ k, (∀ i, i < k → rg (f i) 0 499) → psX (mkX f g sg P k) c (j + 1) = psX P c (j + 1) + sg * sumUp f g (nI j) k
  | 0, _ => by
    show psX P c (j + 1) = psX P c (j + 1) + sg * 0
    grind
  | k + 1, h => by
    have hk := h k (by omega)
    have n0 : ¬ f k < 0 := by rw [Int32.lt_iff_toInt_lt]; show ¬ (f k).toInt < 0; omega
    have n5 : ¬ nI 500 ≤ f k := by rw [Int32.le_iff_toInt_le, nI_toInt (by omega)]; omega
    obtain ⟨t, ht, e⟩ := vp_in_of (in_nI n0 n5 (by omega)) (by omega)
    unfold mkX sumUp
    rw [if_neg n0, if_neg n5, e, nI_clamp (by omega), psX_upd, psX_mk hj k (fun i hi => h i (by omega))]
    by_cases q : t ≤ j
    · rw [if_pos (by omega), if_neg (nI_nlt q (by omega))]; grind
    · rw [if_neg (by omega), if_pos (nI_lt (by omega) (by omega))]; grind
theorem psX_0 (c : Int32) : ∀ m, psX (fun _ => 0) c m = c
  | 0 => rfl
  | m + 1 => by unfold psX; rw [psX_0 c m, Int32.add_zero]
section PD
variable {Yf Yg : Nat → Nat → Int32} {Yc : Nat → Nat} {Yv N : Nat → Int32}
theorem YR.pays (h : YR Yf Yg Yc Yv N) (d : Int32) : sumUp (Yf 4) (Yg 4) d (Yc 4) = upM N 117 d (Yc 4) := sumUp_cong _ h.r4
theorem YR.backs (h : YR Yf Yg Yc Yv N) (d : Int32) : sumUp (Yf 5) (Yg 5) d (Yc 5) = upM N 198 d (Yc 5) := sumUp_cong _ h.r5
theorem YR.paid (h : YR Yf Yg Yc Yv N) (d : Int32) : Yv 7 + sumUp (Yf 4) (Yg 4) d (Yc 4) - sumUp (Yf 5) (Yg 5) d (Yc 5) = paM N (Yc 4) (Yc 5) d := by
  unfold paM; rw [h.pays, h.backs, h.v.2.1]
theorem YR.pd (h : YR Yf Yg Yc Yv N) {j : Nat} (hj : j < 500) : pdC Yf Yg Yc Yv j = paM N (Yc 4) (Yc 5) (nI j) := by
  unfold pdC
  rw [psX_mk hj _ (fun i hi => by rw [(h.r5 i hi).1]; exact (h.g.2.2.2.2.2.2.2.2 i hi).1), psX_mk hj _ (fun i hi => by rw [(h.r4 i hi).1]; exact (h.g.2.2.2.2.2.2.2.1 i hi).1), psX_0, ← h.paid]
  grind
theorem YR.payr (h : YR Yf Yg Yc Yv N) (d : Int32) : rg (upM N 117 d (Yc 4)) 0 3999960 := by
  have z := sumUp_rg (f := evF N 117) (g := odF N 117) (d := d) (Yc 4) (by have := h.c4; omega) (fun j hj => (h.g.2.2.2.2.2.2.2.1 j hj).2)
  have := h.c4
  exact ⟨z.1, by have := z.2; unfold upM; omega⟩
theorem YR.backr (h : YR Yf Yg Yc Yv N) (d : Int32) : rg (upM N 198 d (Yc 5)) 0 1999980 := by
  have z := sumUp_rg (f := evF N 198) (g := odF N 198) (d := d) (Yc 5) (by have := h.c5; omega) (fun j hj => (h.g.2.2.2.2.2.2.2.2 j hj).2)
  have := h.c5
  exact ⟨z.1, by have := z.2; unfold upM; omega⟩
theorem YR.par (h : YR Yf Yg Yc Yv N) (d : Int32) : rg (paM N (Yc 4) (Yc 5) d) (-1999980) 4099959 := by
  have a := h.g.1.2.1
  have b := h.payr d
  have c := h.backr d
  unfold paM
  have e1 : (N 1 + upM N 117 d (Yc 4)).toInt = (N 1).toInt + (upM N 117 d (Yc 4)).toInt := i32a (by omega) (by omega)
  have e2 : (N 1 + upM N 117 d (Yc 4) - upM N 198 d (Yc 5)).toInt = (N 1).toInt + (upM N 117 d (Yc 4)).toInt - (upM N 198 d (Yc 5)).toInt := by rw [i32s (by rw [e1]; omega) (by rw [e1]; omega), e1]
  exact ⟨by rw [e2]; omega, by rw [e2]; omega⟩
end PD
/-! rates by days -/
theorem latUp_at {f g : Nat → Int32} {d : Int32} {m : Nat} : ∀ c, m ≤ c → (∀ i, i < m → ¬ d < f i) → (∀ i, m ≤ i → i < c → d < f i) → latUp f g d c = if m = 0 then 0 else g (m - 1)
  | 0, hm, _, _ => by
    rw [show m = 0 by omega]; rfl
  | c + 1, hm, h1, h2 => by
    unfold latUp
    by_cases q : m ≤ c
    · rw [if_pos (h2 c q (by omega))]
      exact latUp_at c q h1 (fun i hi hc => h2 i hi (by omega))
    · have e : m = c + 1 := by omega
      subst e
      rw [if_neg (h1 c (by omega)), if_neg (by omega)]; rfl
theorem up_all {f : Nat → Int32} {c : Nat} (h : ∀ j, j + 1 < c → (f j).toInt < (f (j + 1)).toInt) : ∀ i j, i < j → j < c → (f i).toInt < (f j).toInt
  | i, 0, hij, _ => absurd hij (Nat.not_lt_zero _)
  | i, j + 1, hij, hj => by
    have a := h j hj
    by_cases q : i = j
    · rw [q]; exact a
    · have b := up_all h i j (by omega) (by omega)
      omega
theorem lr_inv {f g : Nat → Int32} {c : Nat} (hc : c ≤ 6) (hf : ∀ j, j < c → rg (f j) 0 499) (hup : ∀ j, j + 1 < c → (f j).toInt < (f (j + 1)).toInt) : ∀ d, d ≤ 500 → ∃ m, m ≤ c ∧ lrX f g c d = (nI m, if m = 0 then 0 else g (m - 1)) ∧ (∀ i, i < m → (f i).toInt < (d : Int)) ∧ ∀ i, m ≤ i → i < c → (d : Int) ≤ (f i).toInt
  | 0, _ => ⟨0, by omega, rfl, fun i hi => absurd hi (Nat.not_lt_zero _), fun i _ hi => (hf i hi).1⟩
  | d + 1, hd => by
    obtain ⟨m, hm, e, h1, h2⟩ := lr_inv hc hf hup d (by omega)
    have e1 : (lrX f g c d).1 = nI m := by rw [e]
    have e2 : (lrX f g c d).2 = if m = 0 then 0 else g (m - 1) := by rw [e]
    have hcast : ((d + 1 : Nat) : Int) = (d : Int) + 1 := by omega
    unfold lrX
    rw [e1, if_neg (nI_pos (by omega))]
    by_cases q : m < c
    · rw [if_neg (nI_ge q (by omega)), if_neg (by decide), rowAt_nI q (by omega), rowAt_nI q (by omega)]
      have rm := hf m q
      by_cases z : f m = nI d
      · rw [if_pos z, nI_1]
        have zi : (f m).toInt = (d : Int) := by rw [z, nI_toInt (by omega)]
        refine ⟨m + 1, by omega, by rw [if_neg (by omega)]; rfl, fun i hi => ?_, fun i hi hc2 => ?_⟩
        · by_cases y : i = m
          · rw [y]; omega
          · have := h1 i (by omega); omega
        · have := up_all hup m i (by omega) hc2; omega
      · rw [if_neg z]
        have zi : (f m).toInt ≠ (d : Int) := fun y => z (i32_ext (by rw [y, nI_toInt (by omega)]))
        have h3 := h2 m (Nat.le_refl _) q
        refine ⟨m, hm, e, fun i hi => by have := h1 i hi; omega, fun i hi hc2 => ?_⟩
        by_cases y : i = m
        · rw [y]; omega
        · have := up_all hup m i (by omega) hc2; omega
    · rw [if_pos (nI_le (by omega) (by omega)), if_pos rfl]
      exact ⟨m, hm, e, fun i hi => by have := h1 i hi; omega, fun i hi hc2 => by omega⟩
theorem lr_eq {f g : Nat → Int32} {c d : Nat} (hc : c ≤ 6) (hf : ∀ j, j < c → rg (f j) 0 499) (hup : ∀ j, j + 1 < c → (f j).toInt < (f (j + 1)).toInt) (hd : d < 500) : lrF f g c d = latUp f g (nI d) c := by
  obtain ⟨m, hm, e, h1, h2⟩ := lr_inv (g := g) hc hf hup (d + 1) (by omega)
  have hcast : ((d + 1 : Nat) : Int) = (d : Int) + 1 := by omega
  unfold lrF
  rw [e, latUp_at (m := m) c hm (fun i hi => ?_) (fun i hi hc2 => ?_)]
  · rw [Int32.lt_iff_toInt_lt, nI_toInt (by omega)]; have := h1 i hi; omega
  · rw [Int32.lt_iff_toInt_lt, nI_toInt (by omega)]; have := h2 i hi hc2; omega
section RT
variable {Yf Yg : Nat → Nat → Int32} {Yc : Nat → Nat} {Yv N : Nat → Int32}
theorem YR.rate (h : YR Yf Yg Yc Yv N) (d : Int32) : latUp (Yf 2) (Yg 2) d (Yc 2) = raM N (Yc 2) d := latUp_cong _ h.r2
theorem YR.lr (h : YR Yf Yg Yc Yv N) {d : Nat} (hd : d < 500) : lrF (Yf 2) (Yg 2) (Yc 2) d = raM N (Yc 2) (nI d) := by
  rw [lr_eq h.c2 (fun j hj => by rw [(h.r2 j hj).1]; exact (h.g.2.2.2.2.1 j hj).1) (fun j hj => by rw [(h.r2 j (by omega)).1, (h.r2 (j + 1) hj).1]; exact h.g.2.2.2.2.2.1 j hj) hd, h.rate]
theorem latUp_rg {f g : Nat → Int32} {d : Int32} : ∀ n, (∀ j, j < n → rg (g j) 0 99) → rg (latUp f g d n) 0 99
  | 0, _ => ⟨Int.le_refl 0, by show (0 : Int) ≤ 99; omega⟩
  | n + 1, h => by
    unfold latUp
    split
    · exact latUp_rg n (fun j hj => h j (by omega))
    · exact h n (by omega)
theorem YR.rar (h : YR Yf Yg Yc Yv N) (d : Int32) : rg (raM N (Yc 2) d) 0 99 := latUp_rg _ (fun j hj => (h.g.2.2.2.2.1 j hj).2)
theorem YR.sbk (h : YR Yf Yg Yc Yv N) {bar : Int32} (hb : rg bar 0 6) : SBk (sbX Yf Yg Yc Yv) bar (lsM N (Yc 1) (Yc 3) bar) := ⟨fun _ hp => h.ls hb hp, fun k hk => h.thr hb k hk⟩
end RT
