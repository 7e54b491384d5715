/-! numbers of the walks -/
def max32 (a b : Int32) : Int32 := if a < b then b else a
def min32 (a b : Int32) : Int32 := if b < a then b else a
theorem ge_nI {a b : Nat} (h : nI b ≤ nI a) (ha : a < 2 ^ 31) (hb : b < 2 ^ 31) : b ≤ a := (nI_leI hb ha).mp h
theorem lt_nI {a b : Nat} (h : ¬ nI b ≤ nI a) (ha : a < 2 ^ 31) (hb : b < 2 ^ 31) : a < b := by
  rcases Nat.lt_or_ge a b with q | q
  · exact q
  · exact absurd ((nI_leI hb ha).mpr q) h
theorem lt_nI' {a b : Nat} (h : nI a < nI b) (ha : a < 2 ^ 31) (hb : b < 2 ^ 31) : a < b := (nI_ltI ha hb).mp h
theorem ge_nI' {a b : Nat} (h : ¬ nI a < nI b) (ha : a < 2 ^ 31) (hb : b < 2 ^ 31) : b ≤ a := by
  rcases Nat.lt_or_ge a b with q | q
  · exact absurd ((nI_ltI ha hb).mpr q) h
  · exact q
theorem in_nI {i : Int32} {n : Nat} (h0 : ¬ i < 0) (h : ¬ nI n ≤ i) (hn : n < 2 ^ 31) : vp_in i n := by
  rw [vp_in_iff]
  rw [Int32.le_iff_toInt_le, nI_toInt hn] at h
  rw [Int32.lt_iff_toInt_lt] at h0
  have : (0 : Int32).toInt = 0 := rfl
  omega
theorem nle_nI {i : Int32} {c n : Nat} (h : ¬ nI c ≤ i) (hc : c ≤ n) (hn : n < 2 ^ 31) : ¬ nI n ≤ i := by
  rw [Int32.le_iff_toInt_le, nI_toInt (by omega)] at h ⊢
  omega
theorem tbl_in {x : Int32} {lo hi : Int} (h1 : ¬ x.toInt < lo) (h2 : ¬ hi < x.toInt) : lo ≤ x.toInt ∧ x.toInt ≤ hi := ⟨by omega, by omega⟩
theorem toInt_ne {x k : Int32} (h : ¬ x = k) : x.toInt ≠ k.toInt := fun q => h (Int32.toInt_inj.mp q)
/-- a row's part by its number, 0 where there is none -/
def rowAt (f : Nat → Int32) (c : Nat) (i : Int32) : Int32 := if i < 0 then 0 else if nI c ≤ i then 0 else f i.toNatClampNeg
theorem rowAt_nI {f : Nat → Int32} {c i : Nat} (h : i < c) (hc : c < 2 ^ 31) : rowAt f c (nI i) = f i := by
  unfold rowAt
  rw [if_neg (nI_pos (by omega)), if_neg (nI_ge h hc), nI_clamp (by omega)]
/-- the second ones summed where the first one is no later -/
def sumUp (f g : Nat → Int32) (most : Int32) : Nat → Int32
  | 0 => 0
  | k + 1 => if most < f k then sumUp f g most k else sumUp f g most k + g k
/-- the last second one where the first one is no later -/
def latUp (f g : Nat → Int32) (most : Int32) : Nat → Int32
  | 0 => 0
  | k + 1 => if most < f k then latUp f g most k else g k
/-- the first d of f2, then f1 -/
def ov (f2 f1 : Nat → Int32) (d : Nat) : Nat → Int32 := fun j => if j < d then f2 j else f1 j
theorem ov_0 (f2 f1 : Nat → Int32) : ov f2 f1 0 = f1 := by funext j; simp [ov]
theorem ov_s (f2 f1 : Nat → Int32) (d : Nat) : upd (ov f2 f1 d) d (f2 d) = ov f2 f1 (d + 1) := by
  funext j
  unfold upd ov
  by_cases h : j = d
  · subst h; simp
  · by_cases h2 : j < d
    · simp [h, h2, show j < d + 1 by omega]
    · simp [h, h2, show ¬ j < d + 1 by omega]
theorem max0_nI (n : Nat) (h : n < 2 ^ 31) : max32 0 (nI n) = nI n := by
  unfold max32
  by_cases q : (0 : Int32) < nI n
  · rw [if_pos q]
  · rw [if_neg q]
    have h1 := nI_pos' h
    exact Int32.le_antisymm h1 (Int32.not_lt.mp q)
section NB
variable {p : Program} {l : Launch} {e : Env} {R : Room} {s : State} {m : MethodId} {args : Array Value} {below : List Frame} {meth : Method} {c : Code} {H : Heap} {locs : List Loc} {cells slots : Nat} {Q : State → Prop} {D : va_G} {ty : List (ClassId × FieldType)} {cc : ByteArray} {pc : Nat} {ls : Array Slot} {rest : List Value}
theorem g_bast (hx : p.tables.exec = Jvm.exec) (hb : c.code = cc) {ws : va_W} {a : Nat} {A : Nat → Prop} {H0 : Heap} (hK : va_K D vwCl ty s) (hP : va_P D vwCl ws H) (hD : va_D A ws) (hS : va_S A H0 H locs) (q0 t0 : Nat) {cA : ClassId} {n : Nat} {f : Nat → Int32} (ha : ws[q0]? = some (a, .inl (cA, n, .inl f))) (ht : ty[t0]? = some (cA, .byte)) {i x : Int32} (k : Nat) (hi : i = nI k) (hk : k < n) (hn : n < 2 ^ 31) (hdg : decode cc pc = .ok (.bastore, 1))
    (kk : ∀ (H1 : Heap) (locs1 : List Loc), va_P D vwCl (ws.set q0 (a, .inl (cA, n, .inl (upd f k (vp_nar .byte x))))) H1 → va_D A (ws.set q0 (a, .inl (cA, n, .inl (upd f k (vp_nar .byte x))))) → va_S A H0 H1 locs1 → W p l e R s m args below meth c H1 locs1 cells slots Q (F0 m (pc + 1) ls rest)) : W p l e R s m args below meth c H locs cells slots Q (F0 m pc ls (.int x :: .int i :: .ref a :: rest)) := by
  have hc : i.toNatClampNeg = k := by rw [hi]; exact nI_clamp (by omega)
  refine va_bast hx hb hK hP hD hS q0 t0 ha ht (by rw [hi]; exact vp_in_nI hk hn) hdg ?_
  rw [hc]
  exact kk
end NB
/-! the tape and the deeds -/
def tapeX (B : Nat → Int32) (n : Nat) (i : Int32) : Int32 := if i < 0 then 0 else if nI n ≤ i then 0 else B i.toNatClampNeg &&& 255
def byteX (w s : Int32) : Int32 := vp_nar .byte ((w.toUInt32 >>> (s.toUInt32 &&& Int32.toUInt32 31)).toInt32.toInt8.toInt32)
def ap4 (B : Nat → Int32) (n : Nat) (w : Int32) : Nat → Int32 := upd (upd (upd (upd B n (byteX w 24)) (n + 1) (byteX w 16)) (n + 2) (byteX w 8)) (n + 3) (byteX w 0)
def shK (K : Nat → Int32) (j : Nat) : Nat → Int32 := fun q => if q < j then K (q + 1) else K q
theorem shK_0 (K : Nat → Int32) : shK K 0 = K := by funext q; simp [shK]
theorem shK_at (K : Nat → Int32) (j : Nat) : shK K j (j + 1) = K (j + 1) := by unfold shK; rw [if_neg (by omega)]
theorem shK_s (K : Nat → Int32) (j : Nat) : upd (shK K j) j (K (j + 1)) = shK K (j + 1) := by
  funext q
  unfold upd shK
  by_cases h : q = j
  · subst h; simp
  · by_cases h2 : q < j
    · simp [h, h2, show q < j + 1 by omega]
    · simp [h, h2, show ¬ q < j + 1 by omega]
def kpK (K : Nat → Int32) (n : Nat) (x : Int32) : Nat → Int32 := if n < 12 then upd K n x else upd (shK K 11) 11 x
def kpN (n : Nat) : Nat := if n < 12 then n + 1 else 12
def tlR (K : Nat → Int32) (n : Nat) : Int32 := if n = 0 then -1 else K (n - 1)
theorem nx_a {x y : Int32} {a b : Nat} (h : x = nI a) (h2 : y = nI b) : x + y = nI (a + b) := by rw [h, h2]; exact nI_add a b
theorem nx_m {x y : Int32} {a b : Nat} (h : x = nI a) (h2 : y = nI b) : x * y = nI (a * b) := by rw [h, h2]; exact pk_mul a b
