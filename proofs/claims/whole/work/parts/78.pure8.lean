/-! the tape -/
theorem bp_b (x : Int32) : x.toInt8.toInt32 &&& 255 = x &&& 255 := by
  apply Int32.toBitVec_inj.mp
  rw [Int32.toBitVec_and, Int32.toBitVec_and, Int8.toBitVec_toInt32, Int32.toBitVec_toInt8]
  apply BitVec.eq_of_getLsbD_eq
  intro i hi
  rw [BitVec.getLsbD_and, BitVec.getLsbD_and]
  have hm : ∀ i < 32, 8 ≤ i → (255 : Int32).toBitVec.getLsbD i = false := by decide
  rcases Nat.lt_or_ge i 8 with z | z
  · rw [BitVec.getLsbD_signExtend, BitVec.getLsbD_signExtend, if_pos z, if_pos hi]
    simp only [z, hi, decide_true, Bool.true_and]
  · rw [hm i hi z]; simp
def TRl (B Tp : Nat → Int32) (n : Nat) : Prop := n ≤ 840 ∧ ∀ j, j < n → B j &&& 255 = Tp j ∧ ∃ c, c < 256 ∧ Tp j = nI c
theorem byte_word (w s : Int32) : byteX w s &&& 255 = wordM w s ∧ ∃ c, c < 256 ∧ wordM w s = nI c := by
  constructor
  · unfold byteX wordM
    rw [pk_vb, bp_b]
  · unfold wordM
    obtain ⟨j, hj, e⟩ := pk_andE (w.toUInt32 >>> (s.toUInt32 &&& Int32.toUInt32 31)).toInt32 (m := 255) 8 (by decide)
    exact ⟨j, hj, e⟩
theorem tr_upd {B Tp : Nat → Int32} {n : Nat} {w s : Int32} (h : ∀ j, j < n → B j &&& 255 = Tp j ∧ ∃ c, c < 256 ∧ Tp j = nI c) : ∀ j, j < n + 1 → upd B n (byteX w s) j &&& 255 = upd Tp n (wordM w s) j ∧ ∃ c, c < 256 ∧ upd Tp n (wordM w s) j = nI c := by
  intro j hj
  by_cases q : j = n
  · subst q; rw [upd_self, upd_self]; exact byte_word w s
  · rw [upd_ne q, upd_ne q]; exact h j (by omega)
theorem tr_ap4 {B Tp : Nat → Int32} {n : Nat} {w : Int32} (h : ∀ j, j < n → B j &&& 255 = Tp j ∧ ∃ c, c < 256 ∧ Tp j = nI c) : ∀ j, j < n + 4 → ap4 B n w j &&& 255 = ay4 Tp n w j ∧ ∃ c, c < 256 ∧ ay4 Tp n w j = nI c :=
  tr_upd (tr_upd (tr_upd (tr_upd h)))
theorem tr_feed {B Tp : Nat → Int32} {n : Nat} {a b c d e : Int32} (h : TRl B Tp n) (hn : n + 20 ≤ 840) : TRl (fdB B n a b c d e) (fdM Tp n a b c d e) (n + 20) :=
  ⟨hn, tr_ap4 (n := n + 16) (tr_ap4 (n := n + 12) (tr_ap4 (n := n + 8) (tr_ap4 (n := n + 4) (tr_ap4 h.2))))⟩
theorem tr_less {B Tp : Nat → Int32} {n m : Nat} (h : TRl B Tp n) (hm : m ≤ n) : TRl B Tp m := ⟨by have := h.1; omega, fun j hj => h.2 j (by omega)⟩
/-! rows that agree where a year looks -/
theorem rowAt_cong {f f2 : Nat → Int32} {c : Nat} (hc : c ≤ 1000) (h : ∀ j, j < c → f2 j = f j) (x : Int32) : rowAt f2 c x = rowAt f c x := by
  unfold rowAt
  by_cases h1 : x < 0
  · rw [if_pos h1, if_pos h1]
  · rw [if_neg h1, if_neg h1]
    by_cases h2 : nI c ≤ x
    · rw [if_pos h2, if_pos h2]
    · rw [if_neg h2, if_neg h2]
      obtain ⟨j, hj, rfl⟩ := vp_in_of (in_nI h1 h2 (by omega)) (by omega)
      rw [nI_clamp (by omega)]; exact h j hj
theorem YG_cong {N N2 : Nat → Int32} {ns nr ni np nb : Nat} (hn : ∀ j, j < 240 → N2 j = N j) (c1 : ns ≤ 4) (c2 : nr ≤ 6) (c3 : ni ≤ 40) (c4 : np ≤ 40) (c5 : nb ≤ 20) (h : YG N ns nr ni np nb) : YG N2 ns nr ni np nb := by
  obtain ⟨⟨a1, a2, a3, a4, a5, a6⟩, b, g1, g2, g3, g4, g5, g6, g7⟩ := h
  have ev : ∀ C j, C + 2 + 2 * j < 240 → evF N2 C j = evF N C j ∧ odF N2 C j = odF N C j := fun C j hj => ⟨hn _ (by omega), hn _ (by omega)⟩
  refine ⟨⟨by rw [hn 0 (by omega)]; exact a1, by rw [hn 1 (by omega)]; exact a2, by rw [hn 2 (by omega)]; exact a3, by rw [hn 11 (by omega)]; exact a4, by rw [hn 12 (by omega)]; exact a5, by rw [hn 239 (by omega)]; exact a6⟩, fun p hp => ?_, fun j hj => ?_, fun j hj => ?_, fun j hj => ?_, fun j hj => ?_, fun j hj => ?_, fun j hj => ?_, fun j hj => ?_⟩
  · rw [hn (3 + p) (by omega), hn (7 + p) (by omega), hn 2 (by omega)]; exact b p hp
  · rw [(ev 13 j (by omega)).1, (ev 13 j (by omega)).2]; exact g1 j hj
  · rw [(ev 13 j (by omega)).1, (ev 13 (j + 1) (by omega)).1]; exact g2 j hj
  · rw [(ev 23 j (by omega)).1, (ev 23 j (by omega)).2]; exact g3 j hj
  · rw [(ev 23 j (by omega)).1, (ev 23 (j + 1) (by omega)).1]; exact g4 j hj
  · rw [(ev 36 j (by omega)).1, (ev 36 j (by omega)).2]; exact g5 j hj
  · rw [(ev 117 j (by omega)).1, (ev 117 j (by omega)).2]; exact g6 j hj
  · rw [(ev 198 j (by omega)).1, (ev 198 j (by omega)).2]; exact g7 j hj
theorem rowsEq_cong {f g f2 g2 N N2 : Nat → Int32} {C c : Nat} (hc : C + 2 * c < 240) (hn : ∀ j, j < 240 → N2 j = N j) (hf : ∀ j, j < c → f2 j = f j ∧ g2 j = g j) (h : rowsEq f g N C c) : rowsEq f2 g2 N2 C c := fun j hj => by
  have e1 : evF N2 C j = evF N C j := hn _ (by omega)
  have e2 : odF N2 C j = odF N C j := hn _ (by omega)
  rw [(hf j hj).1, (hf j hj).2, e1, e2]; exact h j hj
theorem YR_cong {Yf Yg Yf2 Yg2 : Nat → Nat → Int32} {Yc Yc2 : Nat → Nat} {Yv Yv2 N N2 : Nat → Int32} (hc : ∀ j, j < 6 → Yc2 j = Yc j) (hv : ∀ j, Yv2 j = Yv j) (hn : ∀ j, j < 240 → N2 j = N j) (hf : ∀ c, c < 6 → ∀ j, j < Yc c → Yf2 c j = Yf c j ∧ Yg2 c j = Yg c j) (h : YR Yf Yg Yc Yv N) : YR Yf2 Yg2 Yc2 Yv2 N2 := by
  have k0 := h.c0
  have k1 := h.c1
  have k2 := h.c2
  have k3 := h.c3
  have k4 := h.c4
  have k5 := h.c5
  obtain ⟨v1, v2, v3, v4, v5, v6⟩ := h.v
  obtain ⟨⟨n1, _⟩, ⟨n2, _⟩, ⟨n3, _⟩, ⟨n4, _⟩, ⟨n5, _⟩⟩ := h.cn
  have e0 := hc 0 (by omega)
  have e1 := hc 1 (by omega)
  have e2 := hc 2 (by omega)
  have e3 := hc 3 (by omega)
  have e4 := hc 4 (by omega)
  have e5 := hc 5 (by omega)
  unfold YR
  rw [e0, e1, e2, e3, e4, e5]
  refine ⟨k0, ⟨⟨(hn 13 (by omega)).trans n1, k1⟩, ⟨(hn 23 (by omega)).trans n2, k2⟩, ⟨(hn 36 (by omega)).trans n3, k3⟩, ⟨(hn 117 (by omega)).trans n4, k4⟩, ⟨(hn 198 (by omega)).trans n5, k5⟩⟩,
    ⟨rowsEq_cong (by omega) hn (hf 1 (by omega)) h.r1, rowsEq_cong (by omega) hn (hf 2 (by omega)) h.r2, rowsEq_cong (by omega) hn (hf 3 (by omega)) h.r3, rowsEq_cong (by omega) hn (hf 4 (by omega)) h.r4, rowsEq_cong (by omega) hn (hf 5 (by omega)) h.r5⟩, fun p hp => ?_,
    ⟨?_, ?_, ?_, ?_, ?_, ?_⟩, ?_, YG_cong hn k1 k2 k3 k4 k5 h.g⟩
  · rw [rowAt_cong (by omega) (fun j hj => (hf 0 (by omega) j hj).1), rowAt_cong (by omega) (fun j hj => (hf 0 (by omega) j hj).2), hn (3 + p) (by omega), hn (7 + p) (by omega)]; exact h.per p hp
  · rw [hv, hn 0 (by omega)]; exact v1
  · rw [hv, hn 1 (by omega)]; exact v2
  · rw [hv, hn 2 (by omega)]; exact v3
  · rw [hv, hn 11 (by omega)]; exact v4
  · rw [hv, hn 12 (by omega)]; exact v5
  · rw [hv, hn 239 (by omega)]; exact v6
  · rw [hv, hn 22 (by omega)]; exact h.ovt
/-! what can be undone -/
def unY (k : Int32) (Yc : Nat → Nat) : Nat → Nat := fun j => if j = 3 then (if k = 0 then Yc 3 - 1 else Yc 3) else if j = 4 then (if k = 1 then Yc 4 - 1 else Yc 4) else if j = 5 then (if k = 2 then Yc 5 - 1 else Yc 5) else Yc j
def unV (k : Int32) (Yv : Nat → Int32) : Nat → Int32 := fun j => if j = 13 then (if k = -1 then Yv 13 else if k = 0 then Yv 13 else if k = 1 then Yv 13 else if k = 2 then Yv 13 else Yv 13 ^^^ 1 <<< (k - 3 &&& 31)) else Yv j
def okK (k : Int32) (Yc : Nat → Nat) : Prop := (k = 0 ∧ 1 ≤ Yc 3) ∨ (k = 1 ∧ 1 ≤ Yc 4) ∨ (k = 2 ∧ 1 ≤ Yc 5) ∨ k = 3 ∨ k = 4 ∨ k = 5
def URl (Yf Yg : Nat → Nat → Int32) (DK Sn : Nat → Int32) : Nat → (Nat → Nat) → (Nat → Int32) → Prop
  | 0, _, _ => True
  | k + 1, Yc, Yv => okK (DK k) Yc ∧ YR Yf Yg (unY (DK k) Yc) (unV (DK k) Yv) (fun j => Sn (240 * k + j)) ∧ URl Yf Yg DK Sn k (unY (DK k) Yc) (unV (DK k) Yv)
theorem unY_le (k : Int32) (Yc : Nat → Nat) (j : Nat) : unY k Yc j ≤ Yc j := by
  unfold unY
  by_cases h3 : j = 3
  · rw [if_pos h3, h3]; split <;> omega
  · rw [if_neg h3]
    by_cases h4 : j = 4
    · rw [if_pos h4, h4]; split <;> omega
    · rw [if_neg h4]
      by_cases h5 : j = 5
      · rw [if_pos h5, h5]; split <;> omega
      · rw [if_neg h5]; exact Nat.le_refl _
theorem unY_cong {k : Int32} {Yc Yc2 : Nat → Nat} (h : ∀ j, j < 6 → Yc2 j = Yc j) (j : Nat) (hj : j < 6) : unY k Yc2 j = unY k Yc j := by
  unfold unY; rw [h 3 (by omega), h 4 (by omega), h 5 (by omega), h j hj]
theorem unV_cong {k : Int32} {Yv Yv2 : Nat → Int32} (h : ∀ j, Yv2 j = Yv j) (j : Nat) : unV k Yv2 j = unV k Yv j := by
  unfold unV; rw [h 13, h j]
theorem URl_cong {Yf Yg Yf2 Yg2 : Nat → Nat → Int32} {DK DK2 Sn Sn2 : Nat → Int32} : ∀ (k : Nat) {Yc Yc2 : Nat → Nat} {Yv Yv2 : Nat → Int32}, (∀ j, j < 6 → Yc2 j = Yc j) → (∀ j, Yv2 j = Yv j) → (∀ i, i < k → DK2 i = DK i) → (∀ j, j < 240 * k → Sn2 j = Sn j) → (∀ c, c < 6 → ∀ j, j < Yc c → Yf2 c j = Yf c j ∧ Yg2 c j = Yg c j) → URl Yf Yg DK Sn k Yc Yv → URl Yf2 Yg2 DK2 Sn2 k Yc2 Yv2
  | 0, _, _, _, _, _, _, _, _, _, _ => trivial
  | k + 1, Yc, Yc2, Yv, Yv2, hc, hv, hd, hs, hf, h => by
    obtain ⟨h1, h2, h3⟩ := h
    have ed := hd k (by omega)
    unfold URl
    rw [ed]
    have hf2 : ∀ c, c < 6 → ∀ j, j < unY (DK k) Yc c → Yf2 c j = Yf c j ∧ Yg2 c j = Yg c j := fun c hc2 j hj => hf c hc2 j (Nat.lt_of_lt_of_le hj (unY_le _ _ _))
    refine ⟨?_, YR_cong (unY_cong hc) (unV_cong hv) (fun j hj => hs _ (by omega)) hf2 h2, URl_cong k (unY_cong hc) (unV_cong hv) (fun i hi => hd i (by omega)) (fun j hj => hs j (by omega)) hf2 h3⟩
    unfold okK at h1 ⊢
    rw [hc 3 (by omega), hc 4 (by omega), hc 5 (by omega)]; exact h1
theorem URl_shift {Yf Yg : Nat → Nat → Int32} {DK Sn : Nat → Int32} : ∀ (k : Nat) {Yc : Nat → Nat} {Yv : Nat → Int32}, URl Yf Yg DK Sn (k + 1) Yc Yv → URl Yf Yg (fun j => DK (j + 1)) (fun j => Sn (j + 240)) k Yc Yv
  | 0, _, _, _ => trivial
  | k + 1, Yc, Yv, h => by
    obtain ⟨h1, h2, h3⟩ := h
    refine ⟨h1, ?_, URl_shift k h3⟩
    have e : (fun j => Sn (240 * k + j + 240)) = fun j => Sn (240 * (k + 1) + j) := funext fun j => by rw [show 240 * k + j + 240 = 240 * (k + 1) + j by omega]
    show YR Yf Yg (unY (DK (k + 1)) Yc) (unV (DK (k + 1)) Yv) (fun j => Sn (240 * k + j + 240))
    rw [e]; exact h2
/-- one more deed -/
theorem URl_push {Yf Yg Yf2 Yg2 : Nat → Nat → Int32} {DK Sn N : Nat → Int32} {dn : Nat} {Yc Yc2 : Nat → Nat} {Yv Yv2 : Nat → Int32} {x : Int32} (hdn : dn ≤ 12) (h : URl Yf Yg DK Sn dn Yc Yv) (hY : YR Yf Yg Yc Yv N) (hx : okK x Yc2) (hc : ∀ j, j < 6 → unY x Yc2 j = Yc j) (hv : ∀ j, unV x Yv2 j = Yv j) (hf : ∀ c, c < 6 → ∀ j, j < Yc c → Yf2 c j = Yf c j ∧ Yg2 c j = Yg c j) : URl Yf2 Yg2 (kpK DK dn x) (snP Sn N dn) (kpN dn) Yc2 Yv2 := by
  by_cases q : dn < 12
  · have e1 : kpN dn = dn + 1 := by unfold kpN; rw [if_pos q]
    have e2 : kpK DK dn x = upd DK dn x := by unfold kpK; rw [if_pos q]
    have e3 : ∀ j, snP Sn N dn j = if 240 * dn ≤ j ∧ j < 240 * dn + 240 then N (j - 240 * dn) else Sn j := fun j => by
      unfold snP cpS snS; rw [if_pos q, e1]; rfl
    rw [e1, e2]
    unfold URl
    rw [upd_self]
    refine ⟨hx, YR_cong hc hv (fun j hj => ?_) hf hY, URl_cong dn hc hv (fun i hi => upd_ne (by omega)) (fun j hj => ?_) hf h⟩
    · rw [e3, if_pos ⟨by omega, by omega⟩, show 240 * dn + j - 240 * dn = j by omega]
    · rw [e3, if_neg (by omega)]
  · have ed : dn = 12 := by omega
    subst ed
    have e1 : kpN 12 = 11 + 1 := rfl
    have e2 : ∀ i, kpK DK 12 x i = upd (shK DK 11) 11 x i := fun i => rfl
    have e3 : ∀ j, snP Sn N 12 j = if 2640 ≤ j ∧ j < 2640 + 240 then N (j - 2640) else shS Sn 2640 j := fun j => rfl
    rw [e1]
    unfold URl
    rw [e2 11, upd_self]
    refine ⟨hx, YR_cong hc hv (fun j hj => ?_) hf hY, URl_cong 11 hc hv (fun i hi => ?_) (fun j hj => ?_) hf (URl_shift 11 h)⟩
    · show snP Sn N 12 (2640 + j) = N j
      rw [e3, if_pos ⟨by omega, by omega⟩, show 2640 + j - 2640 = j by omega]
    · rw [e2, upd_ne (by omega)]; unfold shK; rw [if_pos hi]
    · rw [e3, if_neg (by omega)]; unfold shS; rw [if_pos (by omega)]
theorem okK_tl {k : Int32} {Yc : Nat → Nat} (h : okK k Yc) : ¬ k = -1 ∧ (k = 0 → 1 ≤ Yc 3) ∧ (k = 1 → 1 ≤ Yc 4) ∧ (k = 2 → 1 ≤ Yc 5) := by
  rcases h with ⟨rfl, a⟩ | ⟨rfl, a⟩ | ⟨rfl, a⟩ | rfl | rfl | rfl
  · exact ⟨by decide, fun _ => a, fun z => absurd z (by decide), fun z => absurd z (by decide)⟩
  · exact ⟨by decide, fun z => absurd z (by decide), fun _ => a, fun z => absurd z (by decide)⟩
  · exact ⟨by decide, fun z => absurd z (by decide), fun z => absurd z (by decide), fun _ => a⟩
  · exact ⟨by decide, fun z => absurd z (by decide), fun z => absurd z (by decide), fun z => absurd z (by decide)⟩
  · exact ⟨by decide, fun z => absurd z (by decide), fun z => absurd z (by decide), fun z => absurd z (by decide)⟩
  · exact ⟨by decide, fun z => absurd z (by decide), fun z => absurd z (by decide), fun z => absurd z (by decide)⟩
theorem URl_tl {Yf Yg : Nat → Nat → Int32} {DK Sn : Nat → Int32} {dn : Nat} {Yc : Nat → Nat} {Yv : Nat → Int32} (h : URl Yf Yg DK Sn dn Yc Yv) : (tlR DK dn = -1 ↔ dn = 0) ∧ (tlR DK dn = 0 → 1 ≤ Yc 3) ∧ (tlR DK dn = 1 → 1 ≤ Yc 4) ∧ (tlR DK dn = 2 → 1 ≤ Yc 5) := by
  cases dn with
  | zero =>
    have e : tlR DK 0 = -1 := rfl
    rw [e]
    exact ⟨⟨fun _ => rfl, fun _ => rfl⟩, fun z => absurd z (by decide), fun z => absurd z (by decide), fun z => absurd z (by decide)⟩
  | succ k =>
    have e : tlR DK (k + 1) = DK k := by unfold tlR; rw [if_neg (by omega)]; rfl
    rw [e]
    have z := okK_tl h.1
    exact ⟨⟨fun y => absurd y z.1, fun y => by omega⟩, z.2⟩
theorem YR_undo {Yf Yg : Nat → Nat → Int32} {DK Sn N : Nat → Int32} {dn : Nat} {Yc : Nat → Nat} {Yv : Nat → Int32} (hY : YR Yf Yg Yc Yv N) (h : URl Yf Yg DK Sn dn Yc Yv) : YR Yf Yg (unY (tlR DK dn) Yc) (unV (tlR DK dn) Yv) (if dn = 0 then N else ov (fun j => Sn (240 * (dn - 1) + j)) N 240) ∧ URl Yf Yg DK Sn (dn - 1) (unY (tlR DK dn) Yc) (unV (tlR DK dn) Yv) := by
  cases dn with
  | zero =>
    have e : tlR DK 0 = -1 := rfl
    rw [e, if_pos rfl]
    refine ⟨YR_cong (fun j hj => ?_) (fun j => ?_) (fun j _ => rfl) (fun _ _ _ _ => ⟨rfl, rfl⟩) hY, trivial⟩
    · unfold unY
      rw [if_neg (show ¬ (-1 : Int32) = 0 by decide), if_neg (show ¬ (-1 : Int32) = 1 by decide), if_neg (show ¬ (-1 : Int32) = 2 by decide)]
      by_cases h3 : j = 3
      · rw [if_pos h3, h3]
      · rw [if_neg h3]
        by_cases h4 : j = 4
        · rw [if_pos h4, h4]
        · rw [if_neg h4]
          by_cases h5 : j = 5
          · rw [if_pos h5, h5]
          · rw [if_neg h5]
    · unfold unV
      rw [if_pos rfl]
      by_cases h3 : j = 13
      · rw [if_pos h3, h3]
      · rw [if_neg h3]
  | succ k =>
    have e : tlR DK (k + 1) = DK k := by unfold tlR; rw [if_neg (by omega)]; rfl
    rw [e, if_neg (by omega)]
    obtain ⟨h1, h2, h3⟩ := h
    exact ⟨YR_cong (fun _ _ => rfl) (fun _ => rfl) (fun j hj => ov_lt hj) (fun _ _ _ _ => ⟨rfl, rfl⟩) h2, h3⟩
theorem YR_add3 {Yf Yg : Nat → Nat → Int32} {Yc : Nat → Nat} {Yv N : Nat → Int32} {d a : Int32} (h : YR Yf Yg Yc Yv N) (hq : Yc 3 < 40) (hd : rg d 0 364) (ha : rg a 0 99999) : YR (va_up Yf 3 (upd (Yf 3) (Yc 3) d)) (va_up Yg 3 (upd (Yg 3) (Yc 3) a)) (va_up Yc 3 (Yc 3 + 1)) Yv (adN N 36 (Yc 3) d a) := by
  have k0 := h.c0
  have k1 := h.c1
  have k2 := h.c2
  have k3 := h.c3
  have k4 := h.c4
  have k5 := h.c5
  obtain ⟨v1, v2, v3, v4, v5, v6⟩ := h.v
  obtain ⟨⟨n1, _⟩, ⟨n2, _⟩, ⟨n3, _⟩, ⟨n4, _⟩, ⟨n5, _⟩⟩ := h.cn
  obtain ⟨⟨a1, a2, a3, a4, a5, a6⟩, b, g1, g2, g3, g4, g5, g6, g7⟩ := h.g
  have ne : ∀ j, j ≠ 36 → (j < 36 ∨ 36 + 2 + 2 * (Yc 3) < j) → adN N 36 (Yc 3) d a j = N j := fun j h1 h2 => adN_ne h1 (by omega) (by omega)
  have ev : ∀ C j, (C + 2 + 2 * j < 36 ∨ 36 + 2 + 2 * (Yc 3) < C + 1) → evF (adN N 36 (Yc 3) d a) C j = evF N C j ∧ odF (adN N 36 (Yc 3) d a) C j = odF N C j := fun C j hj => ⟨ne _ (by omega) (by omega), ne _ (by omega) (by omega)⟩
  have own : ∀ j, j ≤ Yc 3 → evF (adN N 36 (Yc 3) d a) 36 j = (if j = Yc 3 then d else evF N 36 j) ∧ odF (adN N 36 (Yc 3) d a) 36 j = (if j = Yc 3 then a else odF N 36 j) := by
    intro j hj
    by_cases z : j = Yc 3
    · rw [if_pos z, if_pos z, z]
      constructor
      · show adN N 36 (Yc 3) d a (36 + 1 + 2 * Yc 3) = d
        unfold adN; rw [upd_ne (by omega), upd_ne (by omega), upd_self]
      · show adN N 36 (Yc 3) d a (36 + 2 + 2 * Yc 3) = a
        unfold adN; rw [upd_ne (by omega), upd_self]
    · rw [if_neg z, if_neg z]
      exact ⟨adN_ne (by omega) (by omega) (by omega), adN_ne (by omega) (by omega) (by omega)⟩
  have rn : rowsEq (upd (Yf 3) (Yc 3) d) (upd (Yg 3) (Yc 3) a) (adN N 36 (Yc 3) d a) 36 (Yc 3 + 1) := by
    intro j hj
    rw [(own j (by omega)).1, (own j (by omega)).2]
    by_cases z : j = Yc 3
    · rw [if_pos z, if_pos z, z, upd_self, upd_self]; exact ⟨rfl, rfl⟩
    · rw [if_neg z, if_neg z, upd_ne z, upd_ne z]; exact h.r3 j (by omega)
  have ot : ∀ (C k : Nat) (f g : Nat → Int32), (C + 2 + 2 * k ≤ 36 + 1 ∨ 36 + 2 + 2 * (Yc 3) < C + 1) → rowsEq f g N C k → rowsEq f g (adN N 36 (Yc 3) d a) C k := fun C k f g hj hr j hjk => by
    rw [(ev C j (by omega)).1, (ev C j (by omega)).2]; exact hr j hjk
  refine ⟨k0, ⟨⟨(adN_ne (by omega) (by omega) (by omega)).trans n1, k1⟩, ⟨(adN_ne (by omega) (by omega) (by omega)).trans n2, k2⟩, ⟨adN_at, by show Yc 3 + 1 ≤ 40; omega⟩, ⟨(adN_ne (by omega) (by omega) (by omega)).trans n4, k4⟩, ⟨(adN_ne (by omega) (by omega) (by omega)).trans n5, k5⟩⟩, ⟨ot 13 (Yc 1) (Yf 1) (Yg 1) (by omega) h.r1, ot 23 (Yc 2) (Yf 2) (Yg 2) (by omega) h.r2, rn, ot 117 (Yc 4) (Yf 4) (Yg 4) (by omega) h.r4, ot 198 (Yc 5) (Yf 5) (Yg 5) (by omega) h.r5⟩, fun p hp => ?_, ⟨?_, ?_, ?_, ?_, ?_, ?_⟩, ?_, ⟨?_, ?_, ?_, ?_, ?_, ?_⟩, fun p hp => ?_, fun j hj => ?_, fun j hj => ?_, fun j hj => ?_, fun j hj => ?_, fun j hj => ?_, fun j hj => ?_, fun j hj => ?_⟩
  · rw [ne (3 + p) (by omega) (by omega), ne (7 + p) (by omega) (by omega)]; exact h.per p hp
  · rw [ne 0 (by omega) (by omega)]; exact v1
  · rw [ne 1 (by omega) (by omega)]; exact v2
  · rw [ne 2 (by omega) (by omega)]; exact v3
  · rw [ne 11 (by omega) (by omega)]; exact v4
  · rw [ne 12 (by omega) (by omega)]; exact v5
  · rw [ne 239 (by omega) (by omega)]; exact v6
  · rw [ne 22 (by omega) (by omega)]; exact h.ovt
  · rw [ne 0 (by omega) (by omega)]; exact a1
  · rw [ne 1 (by omega) (by omega)]; exact a2
  · rw [ne 2 (by omega) (by omega)]; exact a3
  · rw [ne 11 (by omega) (by omega)]; exact a4
  · rw [ne 12 (by omega) (by omega)]; exact a5
  · rw [ne 239 (by omega) (by omega)]; exact a6
  · rw [ne (3 + p) (by omega) (by omega), ne (7 + p) (by omega) (by omega), ne 2 (by omega) (by omega)]; exact b p hp
  · have hj2 : j < Yc 1 := hj
    rw [(ev 13 j (by omega)).1, (ev 13 j (by omega)).2]; exact g1 j hj
  · have hj2 : j + 1 < Yc 1 := hj
    rw [(ev 13 j (by omega)).1, (ev 13 (j + 1) (by omega)).1]; exact g2 j hj
  · have hj2 : j < Yc 2 := hj
    rw [(ev 23 j (by omega)).1, (ev 23 j (by omega)).2]; exact g3 j hj
  · have hj2 : j + 1 < Yc 2 := hj
    rw [(ev 23 j (by omega)).1, (ev 23 (j + 1) (by omega)).1]; exact g4 j hj
  · have hj2 : j < Yc 3 + 1 := hj
    rw [(own j (by omega)).1, (own j (by omega)).2]
    by_cases z : j = Yc 3
    · rw [if_pos z, if_pos z]; exact ⟨hd, ha⟩
    · rw [if_neg z, if_neg z]; exact g5 j (by omega)
  · have hj2 : j < Yc 4 := hj
    rw [(ev 117 j (by omega)).1, (ev 117 j (by omega)).2]; exact g6 j hj
  · have hj2 : j < Yc 5 := hj
    rw [(ev 198 j (by omega)).1, (ev 198 j (by omega)).2]; exact g7 j hj
theorem YR_add4 {Yf Yg : Nat → Nat → Int32} {Yc : Nat → Nat} {Yv N : Nat → Int32} {d a : Int32} (h : YR Yf Yg Yc Yv N) (hq : Yc 4 < 40) (hd : rg d 0 499) (ha : rg a 0 99999) : YR (va_up Yf 4 (upd (Yf 4) (Yc 4) d)) (va_up Yg 4 (upd (Yg 4) (Yc 4) a)) (va_up Yc 4 (Yc 4 + 1)) Yv (adN N 117 (Yc 4) d a) := by
  have k0 := h.c0
  have k1 := h.c1
  have k2 := h.c2
  have k3 := h.c3
  have k4 := h.c4
  have k5 := h.c5
  obtain ⟨v1, v2, v3, v4, v5, v6⟩ := h.v
  obtain ⟨⟨n1, _⟩, ⟨n2, _⟩, ⟨n3, _⟩, ⟨n4, _⟩, ⟨n5, _⟩⟩ := h.cn
  obtain ⟨⟨a1, a2, a3, a4, a5, a6⟩, b, g1, g2, g3, g4, g5, g6, g7⟩ := h.g
  have ne : ∀ j, j ≠ 117 → (j < 117 ∨ 117 + 2 + 2 * (Yc 4) < j) → adN N 117 (Yc 4) d a j = N j := fun j h1 h2 => adN_ne h1 (by omega) (by omega)
  have ev : ∀ C j, (C + 2 + 2 * j < 117 ∨ 117 + 2 + 2 * (Yc 4) < C + 1) → evF (adN N 117 (Yc 4) d a) C j = evF N C j ∧ odF (adN N 117 (Yc 4) d a) C j = odF N C j := fun C j hj => ⟨ne _ (by omega) (by omega), ne _ (by omega) (by omega)⟩
  have own : ∀ j, j ≤ Yc 4 → evF (adN N 117 (Yc 4) d a) 117 j = (if j = Yc 4 then d else evF N 117 j) ∧ odF (adN N 117 (Yc 4) d a) 117 j = (if j = Yc 4 then a else odF N 117 j) := by
    intro j hj
    by_cases z : j = Yc 4
    · rw [if_pos z, if_pos z, z]
      constructor
      · show adN N 117 (Yc 4) d a (117 + 1 + 2 * Yc 4) = d
        unfold adN; rw [upd_ne (by omega), upd_ne (by omega), upd_self]
      · show adN N 117 (Yc 4) d a (117 + 2 + 2 * Yc 4) = a
        unfold adN; rw [upd_ne (by omega), upd_self]
    · rw [if_neg z, if_neg z]
      exact ⟨adN_ne (by omega) (by omega) (by omega), adN_ne (by omega) (by omega) (by omega)⟩
  have rn : rowsEq (upd (Yf 4) (Yc 4) d) (upd (Yg 4) (Yc 4) a) (adN N 117 (Yc 4) d a) 117 (Yc 4 + 1) := by
    intro j hj
    rw [(own j (by omega)).1, (own j (by omega)).2]
    by_cases z : j = Yc 4
    · rw [if_pos z, if_pos z, z, upd_self, upd_self]; exact ⟨rfl, rfl⟩
    · rw [if_neg z, if_neg z, upd_ne z, upd_ne z]; exact h.r4 j (by omega)
  have ot : ∀ (C k : Nat) (f g : Nat → Int32), (C + 2 + 2 * k ≤ 117 + 1 ∨ 117 + 2 + 2 * (Yc 4) < C + 1) → rowsEq f g N C k → rowsEq f g (adN N 117 (Yc 4) d a) C k := fun C k f g hj hr j hjk => by
    rw [(ev C j (by omega)).1, (ev C j (by omega)).2]; exact hr j hjk
  refine ⟨k0, ⟨⟨(adN_ne (by omega) (by omega) (by omega)).trans n1, k1⟩, ⟨(adN_ne (by omega) (by omega) (by omega)).trans n2, k2⟩, ⟨(adN_ne (by omega) (by omega) (by omega)).trans n3, k3⟩, ⟨adN_at, by show Yc 4 + 1 ≤ 40; omega⟩, ⟨(adN_ne (by omega) (by omega) (by omega)).trans n5, k5⟩⟩, ⟨ot 13 (Yc 1) (Yf 1) (Yg 1) (by omega) h.r1, ot 23 (Yc 2) (Yf 2) (Yg 2) (by omega) h.r2, ot 36 (Yc 3) (Yf 3) (Yg 3) (by omega) h.r3, rn, ot 198 (Yc 5) (Yf 5) (Yg 5) (by omega) h.r5⟩, fun p hp => ?_, ⟨?_, ?_, ?_, ?_, ?_, ?_⟩, ?_, ⟨?_, ?_, ?_, ?_, ?_, ?_⟩, fun p hp => ?_, fun j hj => ?_, fun j hj => ?_, fun j hj => ?_, fun j hj => ?_, fun j hj => ?_, fun j hj => ?_, fun j hj => ?_⟩
  · rw [ne (3 + p) (by omega) (by omega), ne (7 + p) (by omega) (by omega)]; exact h.per p hp
  · rw [ne 0 (by omega) (by omega)]; exact v1
  · rw [ne 1 (by omega) (by omega)]; exact v2
  · rw [ne 2 (by omega) (by omega)]; exact v3
  · rw [ne 11 (by omega) (by omega)]; exact v4
  · rw [ne 12 (by omega) (by omega)]; exact v5
  · rw [ne 239 (by omega) (by omega)]; exact v6
  · rw [ne 22 (by omega) (by omega)]; exact h.ovt
  · rw [ne 0 (by omega) (by omega)]; exact a1
  · rw [ne 1 (by omega) (by omega)]; exact a2
  · rw [ne 2 (by omega) (by omega)]; exact a3
  · rw [ne 11 (by omega) (by omega)]; exact a4
  · rw [ne 12 (by omega) (by omega)]; exact a5
  · rw [ne 239 (by omega) (by omega)]; exact a6
  · rw [ne (3 + p) (by omega) (by omega), ne (7 + p) (by omega) (by omega), ne 2 (by omega) (by omega)]; exact b p hp
  · have hj2 : j < Yc 1 := hj
    rw [(ev 13 j (by omega)).1, (ev 13 j (by omega)).2]; exact g1 j hj
  · have hj2 : j + 1 < Yc 1 := hj
    rw [(ev 13 j (by omega)).1, (ev 13 (j + 1) (by omega)).1]; exact g2 j hj
  · have hj2 : j < Yc 2 := hj
    rw [(ev 23 j (by omega)).1, (ev 23 j (by omega)).2]; exact g3 j hj
  · have hj2 : j + 1 < Yc 2 := hj
    rw [(ev 23 j (by omega)).1, (ev 23 (j + 1) (by omega)).1]; exact g4 j hj
  · have hj2 : j < Yc 3 := hj
    rw [(ev 36 j (by omega)).1, (ev 36 j (by omega)).2]; exact g5 j hj
  · have hj2 : j < Yc 4 + 1 := hj
    rw [(own j (by omega)).1, (own j (by omega)).2]
    by_cases z : j = Yc 4
    · rw [if_pos z, if_pos z]; exact ⟨hd, ha⟩
    · rw [if_neg z, if_neg z]; exact g6 j (by omega)
  · have hj2 : j < Yc 5 := hj
    rw [(ev 198 j (by omega)).1, (ev 198 j (by omega)).2]; exact g7 j hj
theorem YR_add5 {Yf Yg : Nat → Nat → Int32} {Yc : Nat → Nat} {Yv N : Nat → Int32} {d a : Int32} (h : YR Yf Yg Yc Yv N) (hq : Yc 5 < 20) (hd : rg d 0 499) (ha : rg a 0 99999) : YR (va_up Yf 5 (upd (Yf 5) (Yc 5) d)) (va_up Yg 5 (upd (Yg 5) (Yc 5) a)) (va_up Yc 5 (Yc 5 + 1)) Yv (adN N 198 (Yc 5) d a) := by
  have k0 := h.c0
  have k1 := h.c1
  have k2 := h.c2
  have k3 := h.c3
  have k4 := h.c4
  have k5 := h.c5
  obtain ⟨v1, v2, v3, v4, v5, v6⟩ := h.v
  obtain ⟨⟨n1, _⟩, ⟨n2, _⟩, ⟨n3, _⟩, ⟨n4, _⟩, ⟨n5, _⟩⟩ := h.cn
  obtain ⟨⟨a1, a2, a3, a4, a5, a6⟩, b, g1, g2, g3, g4, g5, g6, g7⟩ := h.g
  have ne : ∀ j, j ≠ 198 → (j < 198 ∨ 198 + 2 + 2 * (Yc 5) < j) → adN N 198 (Yc 5) d a j = N j := fun j h1 h2 => adN_ne h1 (by omega) (by omega)
  have ev : ∀ C j, (C + 2 + 2 * j < 198 ∨ 198 + 2 + 2 * (Yc 5) < C + 1) → evF (adN N 198 (Yc 5) d a) C j = evF N C j ∧ odF (adN N 198 (Yc 5) d a) C j = odF N C j := fun C j hj => ⟨ne _ (by omega) (by omega), ne _ (by omega) (by omega)⟩
  have own : ∀ j, j ≤ Yc 5 → evF (adN N 198 (Yc 5) d a) 198 j = (if j = Yc 5 then d else evF N 198 j) ∧ odF (adN N 198 (Yc 5) d a) 198 j = (if j = Yc 5 then a else odF N 198 j) := by
    intro j hj
    by_cases z : j = Yc 5
    · rw [if_pos z, if_pos z, z]
      constructor
      · show adN N 198 (Yc 5) d a (198 + 1 + 2 * Yc 5) = d
        unfold adN; rw [upd_ne (by omega), upd_ne (by omega), upd_self]
      · show adN N 198 (Yc 5) d a (198 + 2 + 2 * Yc 5) = a
        unfold adN; rw [upd_ne (by omega), upd_self]
    · rw [if_neg z, if_neg z]
      exact ⟨adN_ne (by omega) (by omega) (by omega), adN_ne (by omega) (by omega) (by omega)⟩
  have rn : rowsEq (upd (Yf 5) (Yc 5) d) (upd (Yg 5) (Yc 5) a) (adN N 198 (Yc 5) d a) 198 (Yc 5 + 1) := by
    intro j hj
    rw [(own j (by omega)).1, (own j (by omega)).2]
    by_cases z : j = Yc 5
    · rw [if_pos z, if_pos z, z, upd_self, upd_self]; exact ⟨rfl, rfl⟩
    · rw [if_neg z, if_neg z, upd_ne z, upd_ne z]; exact h.r5 j (by omega)
  have ot : ∀ (C k : Nat) (f g : Nat → Int32), (C + 2 + 2 * k ≤ 198 + 1 ∨ 198 + 2 + 2 * (Yc 5) < C + 1) → rowsEq f g N C k → rowsEq f g (adN N 198 (Yc 5) d a) C k := fun C k f g hj hr j hjk => by
    rw [(ev C j (by omega)).1, (ev C j (by omega)).2]; exact hr j hjk
  refine ⟨k0, ⟨⟨(adN_ne (by omega) (by omega) (by omega)).trans n1, k1⟩, ⟨(adN_ne (by omega) (by omega) (by omega)).trans n2, k2⟩, ⟨(adN_ne (by omega) (by omega) (by omega)).trans n3, k3⟩, ⟨(adN_ne (by omega) (by omega) (by omega)).trans n4, k4⟩, ⟨adN_at, by show Yc 5 + 1 ≤ 20; omega⟩⟩, ⟨ot 13 (Yc 1) (Yf 1) (Yg 1) (by omega) h.r1, ot 23 (Yc 2) (Yf 2) (Yg 2) (by omega) h.r2, ot 36 (Yc 3) (Yf 3) (Yg 3) (by omega) h.r3, ot 117 (Yc 4) (Yf 4) (Yg 4) (by omega) h.r4, rn⟩, fun p hp => ?_, ⟨?_, ?_, ?_, ?_, ?_, ?_⟩, ?_, ⟨?_, ?_, ?_, ?_, ?_, ?_⟩, fun p hp => ?_, fun j hj => ?_, fun j hj => ?_, fun j hj => ?_, fun j hj => ?_, fun j hj => ?_, fun j hj => ?_, fun j hj => ?_⟩
  · rw [ne (3 + p) (by omega) (by omega), ne (7 + p) (by omega) (by omega)]; exact h.per p hp
  · rw [ne 0 (by omega) (by omega)]; exact v1
  · rw [ne 1 (by omega) (by omega)]; exact v2
  · rw [ne 2 (by omega) (by omega)]; exact v3
  · rw [ne 11 (by omega) (by omega)]; exact v4
  · rw [ne 12 (by omega) (by omega)]; exact v5
  · rw [ne 239 (by omega) (by omega)]; exact v6
  · rw [ne 22 (by omega) (by omega)]; exact h.ovt
  · rw [ne 0 (by omega) (by omega)]; exact a1
  · rw [ne 1 (by omega) (by omega)]; exact a2
  · rw [ne 2 (by omega) (by omega)]; exact a3
  · rw [ne 11 (by omega) (by omega)]; exact a4
  · rw [ne 12 (by omega) (by omega)]; exact a5
  · rw [ne 239 (by omega) (by omega)]; exact a6
  · rw [ne (3 + p) (by omega) (by omega), ne (7 + p) (by omega) (by omega), ne 2 (by omega) (by omega)]; exact b p hp
  · have hj2 : j < Yc 1 := hj
    rw [(ev 13 j (by omega)).1, (ev 13 j (by omega)).2]; exact g1 j hj
  · have hj2 : j + 1 < Yc 1 := hj
    rw [(ev 13 j (by omega)).1, (ev 13 (j + 1) (by omega)).1]; exact g2 j hj
  · have hj2 : j < Yc 2 := hj
    rw [(ev 23 j (by omega)).1, (ev 23 j (by omega)).2]; exact g3 j hj
  · have hj2 : j + 1 < Yc 2 := hj
    rw [(ev 23 j (by omega)).1, (ev 23 (j + 1) (by omega)).1]; exact g4 j hj
  · have hj2 : j < Yc 3 := hj
    rw [(ev 36 j (by omega)).1, (ev 36 j (by omega)).2]; exact g5 j hj
  · have hj2 : j < Yc 4 := hj
    rw [(ev 117 j (by omega)).1, (ev 117 j (by omega)).2]; exact g6 j hj
  · have hj2 : j < Yc 5 + 1 := hj
    rw [(own j (by omega)).1, (own j (by omega)).2]
    by_cases z : j = Yc 5
    · rw [if_pos z, if_pos z]; exact ⟨hd, ha⟩
    · rw [if_neg z, if_neg z]; exact g7 j (by omega)
