theorem YR_year {Yf Yg : Nat → Nat → Int32} {Yc : Nat → Nat} {Yv N : Nat → Int32} (h : YR Yf Yg Yc Yv N) {a b c : Int32} (h0 : ∀ p, p < 4 → N (3 + p) = 0) (ha : rg a 0 99999) (hb : rg b 0 99999) (hc : rg c 0 499) : YR Yf Yg Yc (va_up (va_up (va_up Yv 6 a) 7 b) 8 c) (upd (upd (upd N 0 a) 1 b) 2 c) := by
  have k0 := h.c0
  have k1 := h.c1
  have k2 := h.c2
  have k3 := h.c3
  have k4 := h.c4
  have k5 := h.c5
  obtain ⟨v1, v2, v3, v4, v5, v6⟩ := h.v
  obtain ⟨⟨n1, _⟩, ⟨n2, _⟩, ⟨n3, _⟩, ⟨n4, _⟩, ⟨n5, _⟩⟩ := h.cn
  obtain ⟨⟨a1, a2, a3, a4, a5, a6⟩, bp, g1, g2, g3, g4, g5, g6, g7⟩ := h.g
  have ne : ∀ j, (j ≠ 0 ∧ j ≠ 1 ∧ j ≠ 2) → (upd (upd (upd N 0 a) 1 b) 2 c) j = N j := fun j hj => by rw [upd_ne (show j ≠ 2 by omega), upd_ne (show j ≠ 1 by omega), upd_ne (show j ≠ 0 by omega)]
  have ev : ∀ C j, (C + 1 + 2 * j ≠ 0 ∧ C + 2 + 2 * j ≠ 0 ∧ C + 1 + 2 * j ≠ 1 ∧ C + 2 + 2 * j ≠ 1 ∧ C + 1 + 2 * j ≠ 2 ∧ C + 2 + 2 * j ≠ 2) → evF (upd (upd (upd N 0 a) 1 b) 2 c) C j = evF N C j ∧ odF (upd (upd (upd N 0 a) 1 b) 2 c) C j = odF N C j := fun C j hj => ⟨ne _ (by omega), ne _ (by omega)⟩
  have e0 : upd (upd (upd N 0 a) 1 b) 2 c 0 = a := by rw [upd_ne (by omega), upd_ne (by omega), upd_self]
  have e1 : upd (upd (upd N 0 a) 1 b) 2 c 1 = b := by rw [upd_ne (by omega), upd_self]
  have e2 : upd (upd (upd N 0 a) 1 b) 2 c 2 = c := upd_self _ _ _
  refine ⟨k0, ⟨⟨(ne 13 (by omega)).trans n1, k1⟩, ⟨(ne 23 (by omega)).trans n2, k2⟩, ⟨(ne 36 (by omega)).trans n3, k3⟩, ⟨(ne 117 (by omega)).trans n4, k4⟩, ⟨(ne 198 (by omega)).trans n5, k5⟩⟩, ⟨fun j hj => by have hj2 : j < Yc 1 := hj; rw [(ev 13 j (by omega)).1, (ev 13 j (by omega)).2]; exact h.r1 j hj, fun j hj => by have hj2 : j < Yc 2 := hj; rw [(ev 23 j (by omega)).1, (ev 23 j (by omega)).2]; exact h.r2 j hj, fun j hj => by have hj2 : j < Yc 3 := hj; rw [(ev 36 j (by omega)).1, (ev 36 j (by omega)).2]; exact h.r3 j hj, fun j hj => by have hj2 : j < Yc 4 := hj; rw [(ev 117 j (by omega)).1, (ev 117 j (by omega)).2]; exact h.r4 j hj, fun j hj => by have hj2 : j < Yc 5 := hj; rw [(ev 198 j (by omega)).1, (ev 198 j (by omega)).2]; exact h.r5 j hj⟩, fun p hp => ?_, ⟨?_, ?_, ?_, ?_, ?_, ?_⟩, ?_, ⟨?_, ?_, ?_, ?_, ?_, ?_⟩, fun p hp => ?_, fun j hj => ?_, fun j hj => ?_, fun j hj => ?_, fun j hj => ?_, fun j hj => ?_, fun j hj => ?_, fun j hj => ?_⟩
  · rw [ne (3 + p) (by omega), ne (7 + p) (by omega)]; exact h.per p hp
  · exact e0.symm
  · exact e1.symm
  · exact e2.symm
  · show Yv 9 = _
    rw [ne 11 (by omega)]; exact v4
  · show Yv 10 = _
    rw [ne 12 (by omega)]; exact v5
  · show Yv 13 = _
    rw [ne 239 (by omega)]; exact v6
  · rw [ne 22 (by omega)]; exact h.ovt
  · rw [e0]; exact ha
  · rw [e1]; exact hb
  · rw [e2]; exact hc
  · rw [ne 11 (by omega)]; exact a4
  · rw [ne 12 (by omega)]; exact a5
  · rw [ne 239 (by omega)]; exact a6
  · rw [ne (3 + p) (by omega), ne (7 + p) (by omega), e2, h0 p hp]; exact ⟨⟨Int.le_refl 0, hc.1⟩, (bp p hp).2⟩
  · have hj2 : j < Yc 1 := hj
    rw [(ev 13 j (by omega)).1, (ev 13 j (by omega)).2]; exact g1 j hj
  · have hj2 : j + 1 < Yc 1 := hj
    rw [(ev 13 j (by omega)).1, (ev 13 (j + 1) (by omega)).1]; exact g2 j hj
  · have hj2 : j < Yc 2 := hj
    rw [(ev 23 j (by omega)).1, (ev 23 j (by omega)).2]; exact g3 j hj
  · have hj2 : j + 1 < Yc 2 := hj
    rw [(ev 23 j (by omega)).1, (ev 23 (j + 1) (by omega)).1]; exact g4 j hj
  · have hj2 : j < Yc 3 := hj
    rw [(ev 36 j (by omega)).1, (ev 36 j (by omega)).2]; exact g5 j hj
  · have hj2 : j < Yc 4 := hj
    rw [(ev 117 j (by omega)).1, (ev 117 j (by omega)).2]; exact g6 j hj
  · have hj2 : j < Yc 5 := hj
    rw [(ev 198 j (by omega)).1, (ev 198 j (by omega)).2]; exact g7 j hj
theorem YR_share {Yf Yg : Nat → Nat → Int32} {Yc : Nat → Nat} {Yv N : Nat → Int32} (h : YR Yf Yg Yc Yv N) {a b : Int32} (ha : rg a 0 100) (hb : rg b 0 100) : YR Yf Yg Yc (va_up (va_up Yv 9 a) 10 b) (upd (upd N 11 a) 12 b) := by
  have k0 := h.c0
  have k1 := h.c1
  have k2 := h.c2
  have k3 := h.c3
  have k4 := h.c4
  have k5 := h.c5
  obtain ⟨v1, v2, v3, v4, v5, v6⟩ := h.v
  obtain ⟨⟨n1, _⟩, ⟨n2, _⟩, ⟨n3, _⟩, ⟨n4, _⟩, ⟨n5, _⟩⟩ := h.cn
  obtain ⟨⟨a1, a2, a3, a4, a5, a6⟩, bp, g1, g2, g3, g4, g5, g6, g7⟩ := h.g
  have ne : ∀ j, (j ≠ 11 ∧ j ≠ 12) → (upd (upd N 11 a) 12 b) j = N j := fun j hj => by rw [upd_ne (show j ≠ 12 by omega), upd_ne (show j ≠ 11 by omega)]
  have ev : ∀ C j, (C + 1 + 2 * j ≠ 11 ∧ C + 2 + 2 * j ≠ 11 ∧ C + 1 + 2 * j ≠ 12 ∧ C + 2 + 2 * j ≠ 12) → evF (upd (upd N 11 a) 12 b) C j = evF N C j ∧ odF (upd (upd N 11 a) 12 b) C j = odF N C j := fun C j hj => ⟨ne _ (by omega), ne _ (by omega)⟩
  have e0 : upd (upd N 11 a) 12 b 11 = a := by rw [upd_ne (by omega), upd_self]
  have e1 : upd (upd N 11 a) 12 b 12 = b := upd_self _ _ _
  refine ⟨k0, ⟨⟨(ne 13 (by omega)).trans n1, k1⟩, ⟨(ne 23 (by omega)).trans n2, k2⟩, ⟨(ne 36 (by omega)).trans n3, k3⟩, ⟨(ne 117 (by omega)).trans n4, k4⟩, ⟨(ne 198 (by omega)).trans n5, k5⟩⟩, ⟨fun j hj => by have hj2 : j < Yc 1 := hj; rw [(ev 13 j (by omega)).1, (ev 13 j (by omega)).2]; exact h.r1 j hj, fun j hj => by have hj2 : j < Yc 2 := hj; rw [(ev 23 j (by omega)).1, (ev 23 j (by omega)).2]; exact h.r2 j hj, fun j hj => by have hj2 : j < Yc 3 := hj; rw [(ev 36 j (by omega)).1, (ev 36 j (by omega)).2]; exact h.r3 j hj, fun j hj => by have hj2 : j < Yc 4 := hj; rw [(ev 117 j (by omega)).1, (ev 117 j (by omega)).2]; exact h.r4 j hj, fun j hj => by have hj2 : j < Yc 5 := hj; rw [(ev 198 j (by omega)).1, (ev 198 j (by omega)).2]; exact h.r5 j hj⟩, fun p hp => ?_, ⟨?_, ?_, ?_, ?_, ?_, ?_⟩, ?_, ⟨?_, ?_, ?_, ?_, ?_, ?_⟩, fun p hp => ?_, fun j hj => ?_, fun j hj => ?_, fun j hj => ?_, fun j hj => ?_, fun j hj => ?_, fun j hj => ?_, fun j hj => ?_⟩
  · rw [ne (3 + p) (by omega), ne (7 + p) (by omega)]; exact h.per p hp
  · show Yv 6 = _
    rw [ne 0 (by omega)]; exact v1
  · show Yv 7 = _
    rw [ne 1 (by omega)]; exact v2
  · show Yv 8 = _
    rw [ne 2 (by omega)]; exact v3
  · exact e0.symm
  · exact e1.symm
  · show Yv 13 = _
    rw [ne 239 (by omega)]; exact v6
  · rw [ne 22 (by omega)]; exact h.ovt
  · rw [ne 0 (by omega)]; exact a1
  · rw [ne 1 (by omega)]; exact a2
  · rw [ne 2 (by omega)]; exact a3
  · rw [e0]; exact ha
  · rw [e1]; exact hb
  · rw [ne 239 (by omega)]; exact a6
  · rw [ne (3 + p) (by omega), ne (7 + p) (by omega), ne 2 (by omega)]; exact bp p hp
  · have hj2 : j < Yc 1 := hj
    rw [(ev 13 j (by omega)).1, (ev 13 j (by omega)).2]; exact g1 j hj
  · have hj2 : j + 1 < Yc 1 := hj
    rw [(ev 13 j (by omega)).1, (ev 13 (j + 1) (by omega)).1]; exact g2 j hj
  · have hj2 : j < Yc 2 := hj
    rw [(ev 23 j (by omega)).1, (ev 23 j (by omega)).2]; exact g3 j hj
  · have hj2 : j + 1 < Yc 2 := hj
    rw [(ev 23 j (by omega)).1, (ev 23 (j + 1) (by omega)).1]; exact g4 j hj
  · have hj2 : j < Yc 3 := hj
    rw [(ev 36 j (by omega)).1, (ev 36 j (by omega)).2]; exact g5 j hj
  · have hj2 : j < Yc 4 := hj
    rw [(ev 117 j (by omega)).1, (ev 117 j (by omega)).2]; exact g6 j hj
  · have hj2 : j < Yc 5 := hj
    rw [(ev 198 j (by omega)).1, (ev 198 j (by omega)).2]; exact g7 j hj
theorem YR_over {Yf Yg : Nat → Nat → Int32} {Yc : Nat → Nat} {Yv N : Nat → Int32} (h : YR Yf Yg Yc Yv N) {a : Int32} (ha : rg a 0 99) : YR Yf Yg Yc (va_up (va_up Yv 11 1) 12 a) (upd (upd N 22 a) 22 (a + 1)) := by
  have k0 := h.c0
  have k1 := h.c1
  have k2 := h.c2
  have k3 := h.c3
  have k4 := h.c4
  have k5 := h.c5
  obtain ⟨v1, v2, v3, v4, v5, v6⟩ := h.v
  obtain ⟨⟨n1, _⟩, ⟨n2, _⟩, ⟨n3, _⟩, ⟨n4, _⟩, ⟨n5, _⟩⟩ := h.cn
  obtain ⟨⟨a1, a2, a3, a4, a5, a6⟩, bp, g1, g2, g3, g4, g5, g6, g7⟩ := h.g
  have ne : ∀ j, (j ≠ 22) → (upd (upd N 22 a) 22 (a + 1)) j = N j := fun j hj => by rw [upd_ne (show j ≠ 22 by omega), upd_ne (show j ≠ 22 by omega)]
  have ev : ∀ C j, (C + 1 + 2 * j ≠ 22 ∧ C + 2 + 2 * j ≠ 22) → evF (upd (upd N 22 a) 22 (a + 1)) C j = evF N C j ∧ odF (upd (upd N 22 a) 22 (a + 1)) C j = odF N C j := fun C j hj => ⟨ne _ (by omega), ne _ (by omega)⟩
  refine ⟨k0, ⟨⟨(ne 13 (by omega)).trans n1, k1⟩, ⟨(ne 23 (by omega)).trans n2, k2⟩, ⟨(ne 36 (by omega)).trans n3, k3⟩, ⟨(ne 117 (by omega)).trans n4, k4⟩, ⟨(ne 198 (by omega)).trans n5, k5⟩⟩, ⟨fun j hj => by have hj2 : j < Yc 1 := hj; rw [(ev 13 j (by omega)).1, (ev 13 j (by omega)).2]; exact h.r1 j hj, fun j hj => by have hj2 : j < Yc 2 := hj; rw [(ev 23 j (by omega)).1, (ev 23 j (by omega)).2]; exact h.r2 j hj, fun j hj => by have hj2 : j < Yc 3 := hj; rw [(ev 36 j (by omega)).1, (ev 36 j (by omega)).2]; exact h.r3 j hj, fun j hj => by have hj2 : j < Yc 4 := hj; rw [(ev 117 j (by omega)).1, (ev 117 j (by omega)).2]; exact h.r4 j hj, fun j hj => by have hj2 : j < Yc 5 := hj; rw [(ev 198 j (by omega)).1, (ev 198 j (by omega)).2]; exact h.r5 j hj⟩, fun p hp => ?_, ⟨?_, ?_, ?_, ?_, ?_, ?_⟩, ?_, ⟨?_, ?_, ?_, ?_, ?_, ?_⟩, fun p hp => ?_, fun j hj => ?_, fun j hj => ?_, fun j hj => ?_, fun j hj => ?_, fun j hj => ?_, fun j hj => ?_, fun j hj => ?_⟩
  · rw [ne (3 + p) (by omega), ne (7 + p) (by omega)]; exact h.per p hp
  · show Yv 6 = _
    rw [ne 0 (by omega)]; exact v1
  · show Yv 7 = _
    rw [ne 1 (by omega)]; exact v2
  · show Yv 8 = _
    rw [ne 2 (by omega)]; exact v3
  · show Yv 9 = _
    rw [ne 11 (by omega)]; exact v4
  · show Yv 10 = _
    rw [ne 12 (by omega)]; exact v5
  · show Yv 13 = _
    rw [ne 239 (by omega)]; exact v6
  · refine Or.inr ⟨?_, ha.1, ha.2⟩
    rw [upd_self]; rfl
  · rw [ne 0 (by omega)]; exact a1
  · rw [ne 1 (by omega)]; exact a2
  · rw [ne 2 (by omega)]; exact a3
  · rw [ne 11 (by omega)]; exact a4
  · rw [ne 12 (by omega)]; exact a5
  · rw [ne 239 (by omega)]; exact a6
  · rw [ne (3 + p) (by omega), ne (7 + p) (by omega), ne 2 (by omega)]; exact bp p hp
  · have hj2 : j < Yc 1 := hj
    rw [(ev 13 j (by omega)).1, (ev 13 j (by omega)).2]; exact g1 j hj
  · have hj2 : j + 1 < Yc 1 := hj
    rw [(ev 13 j (by omega)).1, (ev 13 (j + 1) (by omega)).1]; exact g2 j hj
  · have hj2 : j < Yc 2 := hj
    rw [(ev 23 j (by omega)).1, (ev 23 j (by omega)).2]; exact g3 j hj
  · have hj2 : j + 1 < Yc 2 := hj
    rw [(ev 23 j (by omega)).1, (ev 23 (j + 1) (by omega)).1]; exact g4 j hj
  · have hj2 : j < Yc 3 := hj
    rw [(ev 36 j (by omega)).1, (ev 36 j (by omega)).2]; exact g5 j hj
  · have hj2 : j < Yc 4 := hj
    rw [(ev 117 j (by omega)).1, (ev 117 j (by omega)).2]; exact g6 j hj
  · have hj2 : j < Yc 5 := hj
    rw [(ev 198 j (by omega)).1, (ev 198 j (by omega)).2]; exact g7 j hj
theorem YR_per {Yf Yg : Nat → Nat → Int32} {Yc : Nat → Nat} {Yv N : Nat → Int32} (h : YR Yf Yg Yc Yv N) {a b : Int32} (hq : Yc 0 < 4) (ha : rg a 0 (N 2).toInt) (hb : rg b 0 364) : YR (va_up Yf 0 (upd (Yf 0) (Yc 0) a)) (va_up Yg 0 (upd (Yg 0) (Yc 0) b)) (va_up Yc 0 (Yc 0 + 1)) Yv (upd (upd N (3 + Yc 0) a) (7 + Yc 0) b) := by
  have k0 := h.c0
  have k1 := h.c1
  have k2 := h.c2
  have k3 := h.c3
  have k4 := h.c4
  have k5 := h.c5
  obtain ⟨v1, v2, v3, v4, v5, v6⟩ := h.v
  obtain ⟨⟨n1, _⟩, ⟨n2, _⟩, ⟨n3, _⟩, ⟨n4, _⟩, ⟨n5, _⟩⟩ := h.cn
  obtain ⟨⟨a1, a2, a3, a4, a5, a6⟩, bp, g1, g2, g3, g4, g5, g6, g7⟩ := h.g
  have ne : ∀ j, (j ≠ 3 + Yc 0 ∧ j ≠ 7 + Yc 0) → (upd (upd N (3 + Yc 0) a) (7 + Yc 0) b) j = N j := fun j hj => by rw [upd_ne (show j ≠ 7 + Yc 0 by omega), upd_ne (show j ≠ 3 + Yc 0 by omega)]
  have ev : ∀ C j, (C + 1 + 2 * j ≠ 3 + Yc 0 ∧ C + 2 + 2 * j ≠ 3 + Yc 0 ∧ C + 1 + 2 * j ≠ 7 + Yc 0 ∧ C + 2 + 2 * j ≠ 7 + Yc 0) → evF (upd (upd N (3 + Yc 0) a) (7 + Yc 0) b) C j = evF N C j ∧ odF (upd (upd N (3 + Yc 0) a) (7 + Yc 0) b) C j = odF N C j := fun C j hj => ⟨ne _ (by omega), ne _ (by omega)⟩
  have e0 : upd (upd N (3 + Yc 0) a) (7 + Yc 0) b (3 + Yc 0) = a := by rw [upd_ne (by omega), upd_self]
  have e1 : upd (upd N (3 + Yc 0) a) (7 + Yc 0) b (7 + Yc 0) = b := upd_self _ _ _
  have ra : ∀ (f : Nat → Int32) (x : Int32) (p : Nat), p < 4 → rowAt (upd f (Yc 0) x) (Yc 0 + 1) (nI p) = if p = Yc 0 then x else rowAt f (Yc 0) (nI p) := by
    intro f x p hp
    by_cases z : p = Yc 0
    · rw [if_pos z, z, rowAt_nI (by omega) (by omega), upd_self]
    · rw [if_neg z]
      by_cases y : p < Yc 0
      · rw [rowAt_nI (by omega) (by omega), rowAt_nI y (by omega), upd_ne z]
      · unfold rowAt
        rw [if_neg (nI_pos (by omega)), if_neg (nI_pos (by omega)), if_pos (nI_le (by omega) (by omega)), if_pos (nI_le (by omega) (by omega))]
  refine ⟨(by show Yc 0 + 1 ≤ 4; omega), ⟨⟨(ne 13 (by omega)).trans n1, k1⟩, ⟨(ne 23 (by omega)).trans n2, k2⟩, ⟨(ne 36 (by omega)).trans n3, k3⟩, ⟨(ne 117 (by omega)).trans n4, k4⟩, ⟨(ne 198 (by omega)).trans n5, k5⟩⟩, ⟨fun j hj => by have hj2 : j < Yc 1 := hj; rw [(ev 13 j (by omega)).1, (ev 13 j (by omega)).2]; exact h.r1 j hj, fun j hj => by have hj2 : j < Yc 2 := hj; rw [(ev 23 j (by omega)).1, (ev 23 j (by omega)).2]; exact h.r2 j hj, fun j hj => by have hj2 : j < Yc 3 := hj; rw [(ev 36 j (by omega)).1, (ev 36 j (by omega)).2]; exact h.r3 j hj, fun j hj => by have hj2 : j < Yc 4 := hj; rw [(ev 117 j (by omega)).1, (ev 117 j (by omega)).2]; exact h.r4 j hj, fun j hj => by have hj2 : j < Yc 5 := hj; rw [(ev 198 j (by omega)).1, (ev 198 j (by omega)).2]; exact h.r5 j hj⟩, fun p hp => ?_, ⟨?_, ?_, ?_, ?_, ?_, ?_⟩, ?_, ⟨?_, ?_, ?_, ?_, ?_, ?_⟩, fun p hp => ?_, fun j hj => ?_, fun j hj => ?_, fun j hj => ?_, fun j hj => ?_, fun j hj => ?_, fun j hj => ?_, fun j hj => ?_⟩
  · show rowAt (upd (Yf 0) (Yc 0) a) (Yc 0 + 1) (nI p) = _ ∧ rowAt (upd (Yg 0) (Yc 0) b) (Yc 0 + 1) (nI p) = _
    rw [ra _ _ p hp, ra _ _ p hp]
    by_cases z : p = Yc 0
    · rw [if_pos z, if_pos z, z, e0, e1]; exact ⟨rfl, rfl⟩
    · rw [if_neg z, if_neg z, ne (3 + p) (by omega), ne (7 + p) (by omega)]; exact h.per p hp
  · show Yv 6 = _
    rw [ne 0 (by omega)]; exact v1
  · show Yv 7 = _
    rw [ne 1 (by omega)]; exact v2
  · show Yv 8 = _
    rw [ne 2 (by omega)]; exact v3
  · show Yv 9 = _
    rw [ne 11 (by omega)]; exact v4
  · show Yv 10 = _
    rw [ne 12 (by omega)]; exact v5
  · show Yv 13 = _
    rw [ne 239 (by omega)]; exact v6
  · rw [ne 22 (by omega)]; exact h.ovt
  · rw [ne 0 (by omega)]; exact a1
  · rw [ne 1 (by omega)]; exact a2
  · rw [ne 2 (by omega)]; exact a3
  · rw [ne 11 (by omega)]; exact a4
  · rw [ne 12 (by omega)]; exact a5
  · rw [ne 239 (by omega)]; exact a6
  · rw [ne 2 (by omega)]
    by_cases z : p = Yc 0
    · rw [z, e0, e1]; exact ⟨ha, hb⟩
    · rw [ne (3 + p) (by omega), ne (7 + p) (by omega)]; exact bp p hp
  · have hj2 : j < Yc 1 := hj
    rw [(ev 13 j (by omega)).1, (ev 13 j (by omega)).2]; exact g1 j hj
  · have hj2 : j + 1 < Yc 1 := hj
    rw [(ev 13 j (by omega)).1, (ev 13 (j + 1) (by omega)).1]; exact g2 j hj
  · have hj2 : j < Yc 2 := hj
    rw [(ev 23 j (by omega)).1, (ev 23 j (by omega)).2]; exact g3 j hj
  · have hj2 : j + 1 < Yc 2 := hj
    rw [(ev 23 j (by omega)).1, (ev 23 (j + 1) (by omega)).1]; exact g4 j hj
  · have hj2 : j < Yc 3 := hj
    rw [(ev 36 j (by omega)).1, (ev 36 j (by omega)).2]; exact g5 j hj
  · have hj2 : j < Yc 4 := hj
    rw [(ev 117 j (by omega)).1, (ev 117 j (by omega)).2]; exact g6 j hj
  · have hj2 : j < Yc 5 := hj
    rw [(ev 198 j (by omega)).1, (ev 198 j (by omega)).2]; exact g7 j hj
theorem YR_add1 {Yf Yg : Nat → Nat → Int32} {Yc : Nat → Nat} {Yv N : Nat → Int32} (h : YR Yf Yg Yc Yv N) {d a : Int32} (hq : Yc 1 < 4) (hd : rg d 1 99999) (ha : rg a 0 99) (hup : ∀ j, j + 1 = Yc 1 → (evF N 13 j).toInt < d.toInt) : YR (va_up Yf 1 (upd (Yf 1) (Yc 1) d)) (va_up Yg 1 (upd (Yg 1) (Yc 1) a)) (va_up Yc 1 (Yc 1 + 1)) Yv (adN N 13 (Yc 1) d a) := by
  have k0 := h.c0
  have k1 := h.c1
  have k2 := h.c2
  have k3 := h.c3
  have k4 := h.c4
  have k5 := h.c5
  obtain ⟨v1, v2, v3, v4, v5, v6⟩ := h.v
  obtain ⟨⟨n1, _⟩, ⟨n2, _⟩, ⟨n3, _⟩, ⟨n4, _⟩, ⟨n5, _⟩⟩ := h.cn
  obtain ⟨⟨a1, a2, a3, a4, a5, a6⟩, bp, g1, g2, g3, g4, g5, g6, g7⟩ := h.g
  have ne : ∀ j, (j ≠ 13 + 1 + 2 * Yc 1 ∧ j ≠ 13 + 2 + 2 * Yc 1 ∧ j ≠ 13) → (adN N 13 (Yc 1) d a) j = N j := fun j hj => by unfold adN; rw [upd_ne (show j ≠ 13 by omega), upd_ne (show j ≠ 13 + 2 + 2 * Yc 1 by omega), upd_ne (show j ≠ 13 + 1 + 2 * Yc 1 by omega)]
  have ev : ∀ C j, (C + 1 + 2 * j ≠ 13 + 1 + 2 * Yc 1 ∧ C + 2 + 2 * j ≠ 13 + 1 + 2 * Yc 1 ∧ C + 1 + 2 * j ≠ 13 + 2 + 2 * Yc 1 ∧ C + 2 + 2 * j ≠ 13 + 2 + 2 * Yc 1 ∧ C + 1 + 2 * j ≠ 13 ∧ C + 2 + 2 * j ≠ 13) → evF (adN N 13 (Yc 1) d a) C j = evF N C j ∧ odF (adN N 13 (Yc 1) d a) C j = odF N C j := fun C j hj => ⟨ne _ (by omega), ne _ (by omega)⟩
  have own : ∀ j, j ≤ Yc 1 → evF (adN N 13 (Yc 1) d a) 13 j = (if j = Yc 1 then d else evF N 13 j) ∧ odF (adN N 13 (Yc 1) d a) 13 j = (if j = Yc 1 then a else odF N 13 j) := by
    intro j hj
    by_cases z : j = Yc 1
    · rw [if_pos z, if_pos z, z]
      constructor
      · show adN N 13 (Yc 1) d a (13 + 1 + 2 * Yc 1) = d
        unfold adN; rw [upd_ne (by omega), upd_ne (by omega), upd_self]
      · show adN N 13 (Yc 1) d a (13 + 2 + 2 * Yc 1) = a
        unfold adN; rw [upd_ne (by omega), upd_self]
    · rw [if_neg z, if_neg z]
      exact ⟨adN_ne (by omega) (by omega) (by omega), adN_ne (by omega) (by omega) (by omega)⟩
  refine ⟨k0, ⟨⟨adN_at, by show Yc 1 + 1 ≤ 4; omega⟩, ⟨(ne 23 (by omega)).trans n2, k2⟩, ⟨(ne 36 (by omega)).trans n3, k3⟩, ⟨(ne 117 (by omega)).trans n4, k4⟩, ⟨(ne 198 (by omega)).trans n5, k5⟩⟩, ⟨fun j hj => by
      have hj2 : j < Yc 1 + 1 := hj
      show upd (Yf 1) (Yc 1) d j = _ ∧ upd (Yg 1) (Yc 1) a j = _
      rw [(own j (by omega)).1, (own j (by omega)).2]
      by_cases z : j = Yc 1
      · rw [if_pos z, if_pos z, z, upd_self, upd_self]; exact ⟨rfl, rfl⟩
      · rw [if_neg z, if_neg z, upd_ne z, upd_ne z]; exact h.r1 j (by omega), fun j hj => by have hj2 : j < Yc 2 := hj; rw [(ev 23 j (by omega)).1, (ev 23 j (by omega)).2]; exact h.r2 j hj, fun j hj => by have hj2 : j < Yc 3 := hj; rw [(ev 36 j (by omega)).1, (ev 36 j (by omega)).2]; exact h.r3 j hj, fun j hj => by have hj2 : j < Yc 4 := hj; rw [(ev 117 j (by omega)).1, (ev 117 j (by omega)).2]; exact h.r4 j hj, fun j hj => by have hj2 : j < Yc 5 := hj; rw [(ev 198 j (by omega)).1, (ev 198 j (by omega)).2]; exact h.r5 j hj⟩, fun p hp => ?_, ⟨?_, ?_, ?_, ?_, ?_, ?_⟩, ?_, ⟨?_, ?_, ?_, ?_, ?_, ?_⟩, fun p hp => ?_, fun j hj => ?_, fun j hj => ?_, fun j hj => ?_, fun j hj => ?_, fun j hj => ?_, fun j hj => ?_, fun j hj => ?_⟩
  · rw [ne (3 + p) (by omega), ne (7 + p) (by omega)]; exact h.per p hp
  · show Yv 6 = _
    rw [ne 0 (by omega)]; exact v1
  · show Yv 7 = _
    rw [ne 1 (by omega)]; exact v2
  · show Yv 8 = _
    rw [ne 2 (by omega)]; exact v3
  · show Yv 9 = _
    rw [ne 11 (by omega)]; exact v4
  · show Yv 10 = _
    rw [ne 12 (by omega)]; exact v5
  · show Yv 13 = _
    rw [ne 239 (by omega)]; exact v6
  · rw [ne 22 (by omega)]; exact h.ovt
  · rw [ne 0 (by omega)]; exact a1
  · rw [ne 1 (by omega)]; exact a2
  · rw [ne 2 (by omega)]; exact a3
  · rw [ne 11 (by omega)]; exact a4
  · rw [ne 12 (by omega)]; exact a5
  · rw [ne 239 (by omega)]; exact a6
  · rw [ne (3 + p) (by omega), ne (7 + p) (by omega), ne 2 (by omega)]; exact bp p hp
  · have hj2 : j < Yc 1 + 1 := hj
    rw [(own j (by omega)).1, (own j (by omega)).2]
    by_cases z : j = Yc 1
    · rw [if_pos z, if_pos z]; exact ⟨hd, ha⟩
    · rw [if_neg z, if_neg z]; exact g1 j (by omega)
  · have hj2 : j + 1 < Yc 1 + 1 := hj
    rw [(own j (by omega)).1, (own (j + 1) (by omega)).1, if_neg (show ¬ j = Yc 1 by omega)]
    by_cases z : j + 1 = Yc 1
    · rw [if_pos z]; exact hup j z
    · rw [if_neg z]; exact g2 j (by omega)
  · have hj2 : j < Yc 2 := hj
    rw [(ev 23 j (by omega)).1, (ev 23 j (by omega)).2]; exact g3 j hj
  · have hj2 : j + 1 < Yc 2 := hj
    rw [(ev 23 j (by omega)).1, (ev 23 (j + 1) (by omega)).1]; exact g4 j hj
  · have hj2 : j < Yc 3 := hj
    rw [(ev 36 j (by omega)).1, (ev 36 j (by omega)).2]; exact g5 j hj
  · have hj2 : j < Yc 4 := hj
    rw [(ev 117 j (by omega)).1, (ev 117 j (by omega)).2]; exact g6 j hj
  · have hj2 : j < Yc 5 := hj
    rw [(ev 198 j (by omega)).1, (ev 198 j (by omega)).2]; exact g7 j hj
theorem YR_add2 {Yf Yg : Nat → Nat → Int32} {Yc : Nat → Nat} {Yv N : Nat → Int32} (h : YR Yf Yg Yc Yv N) {d a : Int32} (hq : Yc 2 < 6) (hd : rg d 0 499) (ha : rg a 0 99) (hup : ∀ j, j + 1 = Yc 2 → (evF N 23 j).toInt < d.toInt) : YR (va_up Yf 2 (upd (Yf 2) (Yc 2) d)) (va_up Yg 2 (upd (Yg 2) (Yc 2) a)) (va_up Yc 2 (Yc 2 + 1)) Yv (adN N 23 (Yc 2) d a) := by
  have k0 := h.c0
  have k1 := h.c1
  have k2 := h.c2
  have k3 := h.c3
  have k4 := h.c4
  have k5 := h.c5
  obtain ⟨v1, v2, v3, v4, v5, v6⟩ := h.v
  obtain ⟨⟨n1, _⟩, ⟨n2, _⟩, ⟨n3, _⟩, ⟨n4, _⟩, ⟨n5, _⟩⟩ := h.cn
  obtain ⟨⟨a1, a2, a3, a4, a5, a6⟩, bp, g1, g2, g3, g4, g5, g6, g7⟩ := h.g
  have ne : ∀ j, (j ≠ 23 + 1 + 2 * Yc 2 ∧ j ≠ 23 + 2 + 2 * Yc 2 ∧ j ≠ 23) → (adN N 23 (Yc 2) d a) j = N j := fun j hj => by unfold adN; rw [upd_ne (show j ≠ 23 by omega), upd_ne (show j ≠ 23 + 2 + 2 * Yc 2 by omega), upd_ne (show j ≠ 23 + 1 + 2 * Yc 2 by omega)]
  have ev : ∀ C j, (C + 1 + 2 * j ≠ 23 + 1 + 2 * Yc 2 ∧ C + 2 + 2 * j ≠ 23 + 1 + 2 * Yc 2 ∧ C + 1 + 2 * j ≠ 23 + 2 + 2 * Yc 2 ∧ C + 2 + 2 * j ≠ 23 + 2 + 2 * Yc 2 ∧ C + 1 + 2 * j ≠ 23 ∧ C + 2 + 2 * j ≠ 23) → evF (adN N 23 (Yc 2) d a) C j = evF N C j ∧ odF (adN N 23 (Yc 2) d a) C j = odF N C j := fun C j hj => ⟨ne _ (by omega), ne _ (by omega)⟩
  have own : ∀ j, j ≤ Yc 2 → evF (adN N 23 (Yc 2) d a) 23 j = (if j = Yc 2 then d else evF N 23 j) ∧ odF (adN N 23 (Yc 2) d a) 23 j = (if j = Yc 2 then a else odF N 23 j) := by
    intro j hj
    by_cases z : j = Yc 2
    · rw [if_pos z, if_pos z, z]
      constructor
      · show adN N 23 (Yc 2) d a (23 + 1 + 2 * Yc 2) = d
        unfold adN; rw [upd_ne (by omega), upd_ne (by omega), upd_self]
      · show adN N 23 (Yc 2) d a (23 + 2 + 2 * Yc 2) = a
        unfold adN; rw [upd_ne (by omega), upd_self]
    · rw [if_neg z, if_neg z]
      exact ⟨adN_ne (by omega) (by omega) (by omega), adN_ne (by omega) (by omega) (by omega)⟩
  refine ⟨k0, ⟨⟨(ne 13 (by omega)).trans n1, k1⟩, ⟨adN_at, by show Yc 2 + 1 ≤ 6; omega⟩, ⟨(ne 36 (by omega)).trans n3, k3⟩, ⟨(ne 117 (by omega)).trans n4, k4⟩, ⟨(ne 198 (by omega)).trans n5, k5⟩⟩, ⟨fun j hj => by have hj2 : j < Yc 1 := hj; rw [(ev 13 j (by omega)).1, (ev 13 j (by omega)).2]; exact h.r1 j hj, fun j hj => by
      have hj2 : j < Yc 2 + 1 := hj
      show upd (Yf 2) (Yc 2) d j = _ ∧ upd (Yg 2) (Yc 2) a j = _
      rw [(own j (by omega)).1, (own j (by omega)).2]
      by_cases z : j = Yc 2
      · rw [if_pos z, if_pos z, z, upd_self, upd_self]; exact ⟨rfl, rfl⟩
      · rw [if_neg z, if_neg z, upd_ne z, upd_ne z]; exact h.r2 j (by omega), fun j hj => by have hj2 : j < Yc 3 := hj; rw [(ev 36 j (by omega)).1, (ev 36 j (by omega)).2]; exact h.r3 j hj, fun j hj => by have hj2 : j < Yc 4 := hj; rw [(ev 117 j (by omega)).1, (ev 117 j (by omega)).2]; exact h.r4 j hj, fun j hj => by have hj2 : j < Yc 5 := hj; rw [(ev 198 j (by omega)).1, (ev 198 j (by omega)).2]; exact h.r5 j hj⟩, fun p hp => ?_, ⟨?_, ?_, ?_, ?_, ?_, ?_⟩, ?_, ⟨?_, ?_, ?_, ?_, ?_, ?_⟩, fun p hp => ?_, fun j hj => ?_, fun j hj => ?_, fun j hj => ?_, fun j hj => ?_, fun j hj => ?_, fun j hj => ?_, fun j hj => ?_⟩
  · rw [ne (3 + p) (by omega), ne (7 + p) (by omega)]; exact h.per p hp
  · show Yv 6 = _
    rw [ne 0 (by omega)]; exact v1
  · show Yv 7 = _
    rw [ne 1 (by omega)]; exact v2
  · show Yv 8 = _
    rw [ne 2 (by omega)]; exact v3
  · show Yv 9 = _
    rw [ne 11 (by omega)]; exact v4
  · show Yv 10 = _
    rw [ne 12 (by omega)]; exact v5
  · show Yv 13 = _
    rw [ne 239 (by omega)]; exact v6
  · rw [ne 22 (by omega)]; exact h.ovt
  · rw [ne 0 (by omega)]; exact a1
  · rw [ne 1 (by omega)]; exact a2
  · rw [ne 2 (by omega)]; exact a3
  · rw [ne 11 (by omega)]; exact a4
  · rw [ne 12 (by omega)]; exact a5
  · rw [ne 239 (by omega)]; exact a6
  · rw [ne (3 + p) (by omega), ne (7 + p) (by omega), ne 2 (by omega)]; exact bp p hp
  · have hj2 : j < Yc 1 := hj
    rw [(ev 13 j (by omega)).1, (ev 13 j (by omega)).2]; exact g1 j hj
  · have hj2 : j + 1 < Yc 1 := hj
    rw [(ev 13 j (by omega)).1, (ev 13 (j + 1) (by omega)).1]; exact g2 j hj
  · have hj2 : j < Yc 2 + 1 := hj
    rw [(own j (by omega)).1, (own j (by omega)).2]
    by_cases z : j = Yc 2
    · rw [if_pos z, if_pos z]; exact ⟨hd, ha⟩
    · rw [if_neg z, if_neg z]; exact g3 j (by omega)
  · have hj2 : j + 1 < Yc 2 + 1 := hj
    rw [(own j (by omega)).1, (own (j + 1) (by omega)).1, if_neg (show ¬ j = Yc 2 by omega)]
    by_cases z : j + 1 = Yc 2
    · rw [if_pos z]; exact hup j z
    · rw [if_neg z]; exact g4 j (by omega)
  · have hj2 : j < Yc 3 := hj
    rw [(ev 36 j (by omega)).1, (ev 36 j (by omega)).2]; exact g5 j hj
  · have hj2 : j < Yc 4 := hj
    rw [(ev 117 j (by omega)).1, (ev 117 j (by omega)).2]; exact g6 j hj
  · have hj2 : j < Yc 5 := hj
    rw [(ev 198 j (by omega)).1, (ev 198 j (by omega)).2]; exact g7 j hj
