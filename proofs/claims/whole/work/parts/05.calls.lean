/-! calls that write, by places: the callee's places hold its new cells, the others are as they were -/
theorem adr_D {A : Nat → Prop} {ws ws' : va_W} (hD : va_D A ws) (h : ws'.map Prod.fst = ws.map Prod.fst) : va_D A ws' := by
  have key : ∀ (k : Nat) (q : Nat × va_E), ws'[k]? = some q → ∃ e, ws[k]? = some (q.1, e) := by
    intro k q hq
    have h1 : (ws'.map Prod.fst)[k]? = some q.1 := by rw [List.getElem?_map, hq]; rfl
    rw [h, List.getElem?_map] at h1
    cases hw : ws[k]? with
    | none => rw [hw] at h1; cases h1
    | some x => rw [hw] at h1; exact ⟨x.2, by rw [← Option.some.inj h1]⟩
  refine ⟨fun i j x y hi hj hxy => ?_, fun k q hq => ?_⟩
  · obtain ⟨e1, h1⟩ := key i x hi
    obtain ⟨e2, h2⟩ := key j y hj
    exact hD.1 i j _ _ h1 h2 hxy
  · obtain ⟨e1, h1⟩ := key k q hq
    exact hD.2 k (q.1, e1) h1
def covM (n : Nat) (is isR : List Nat) : Bool := (List.range n).all (fun k => is.contains k || isR.contains k)
theorem pl_P {A : Nat → Prop} {D : va_G} {ws ws' wc wc' : va_W} {H H1 : Heap} (is isR : List Nat) (hP : va_P D vwCl ws H) (hD : va_D A ws) (hC : is.map (fun i => ws[i]?) = wc.map some) (hC' : is.map (fun i => ws'[i]?) = wc'.map some) (hR : isR.map (fun i => ws'[i]?) = isR.map (fun i => ws[i]?)) (nW : Nat) (hlen : ws'.length = nW) (hcov : covM nW is isR = true) (hdis : isR.all (fun i => !is.contains i) = true)
    (hk : ∀ q : Nat, q < H.size → ¬ inW wc q → H1[q]? = H[q]?) (hP1 : va_P D vwCl wc' H1) : va_P D vwCl ws' H1 := by
  intro k q hq
  have hlt : k < nW := hlen ▸ (List.getElem?_eq_some_iff.mp hq).1
  have hc := List.all_eq_true.mp hcov k (List.mem_range.mpr hlt)
  by_cases hin : k ∈ is
  · obtain ⟨j, hj⟩ := List.getElem?_of_mem hin
    have h1 : (is.map (fun i => ws'[i]?))[j]? = some (some q) := by rw [List.getElem?_map, hj]; exact congrArg some hq
    rw [hC', List.getElem?_map] at h1
    cases hw : wc'[j]? with
    | none => rw [hw] at h1; cases h1
    | some x => rw [hw] at h1; cases h1; exact hP1 j q hw
  · have hr : k ∈ isR := by
      simp only [Bool.or_eq_true, List.contains_iff_mem] at hc
      exact hc.resolve_left hin
    obtain ⟨j, hj⟩ := List.getElem?_of_mem hr
    have h1 : (isR.map (fun i => ws'[i]?))[j]? = some (some q) := by rw [List.getElem?_map, hj]; exact congrArg some hq
    rw [hR, List.getElem?_map, hj] at h1
    have h2 : ws[k]? = some q := Option.some.inj h1
    refine (hP k q h2).kept (hk q.1 (hP k q h2).lt ?_)
    rintro ⟨j2, e, he⟩
    obtain ⟨i, h3, h4⟩ := mapSome hC he
    have hij := hD.1 k i q (q.1, e) h2 h4 rfl
    subst hij
    exact hin (List.mem_of_getElem? h3)
section GP
variable {p : Program} {l : Launch} {e : Env} {R : Room} {s : State} {m : MethodId} {args : Array Value} {below : List Frame} {meth : Method} {c : Code} {H : Heap} {locs : List Loc} {cells slots : Nat} {Q : State → Prop} {D : va_G} {ty : List (ClassId × FieldType)} {cc : ByteArray} {pc : Nat} {ls : Array Slot} {rest : List Value}
variable {y : MethodName} {bytes : ByteArray} {maxL nL n index fr lo : Nat} {ret : Option FieldType} {w : List Cond} {Ts : List Cond} {own C : String} {b : Addr} {As : List Value} {st0 : List Value} {ws wc wc' ws' : va_W} {ci : Nat} {fs : List Value} {T : u_T} {N : Nat} {oc : Option Value} {A : Nat → Prop} {H0 : Heap} {a : Array Value}
theorem wp_go (hr : va_Run p l e R s m args below meth c H locs cells slots 0 0 (F0 m pc ls st0) rest (QW D wc wc' oc a) (inW wc)) (hP : va_P D vwCl ws H) (hD : va_D A ws) (hS : va_S A H0 H locs) (is isR : List Nat) (hC : is.map (fun i => ws[i]?) = wc.map some) (hC' : is.map (fun i => ws'[i]?) = wc'.map some) (hR : isR.map (fun i => ws'[i]?) = isR.map (fun i => ws[i]?)) (nW : Nat) (hlen : ws'.length = nW) (hcov : covM nW is isR = true) (hdis : isR.all (fun i => !is.contains i) = true) (hadr : ws'.map Prod.fst = ws.map Prod.fst)
    (kk : ∀ (H1 : Heap) (locs1 : List Loc), va_P D vwCl ws' H1 → va_D A ws' → va_S A H0 H1 locs1 → W p l e R s m args below meth c H1 locs1 cells slots Q (F0 m (pc + 3) ls (oc.toList ++ rest))) : W p l e R s m args below meth c H locs cells slots Q (F0 m pc ls st0) := by
  have hin : ∀ q, inW wc q → A q := by
    rintro q ⟨j, e1, he⟩
    obtain ⟨i, _, h2⟩ := mapSome hC he
    exact hD.2 i (q, e1) h2
  intro T0 hT X
  obtain ⟨v, st₀, t, T', L, h0, X', hL, e1, e2, ⟨hv, hp, hz, hk⟩, st⟩ := hr T0 hT X
  cases hv
  rw [h0] at hz hk
  rw [← e1] at hz hp
  have hk' : ∀ q : Nat, q < H.size → ¬ inW wc q → T'.heap[q]? = H[q]? := fun q h1 h2 => by rw [e1]; exact hk q h1 h2
  have hP' := pl_P (ws' := ws') is isR hP hD hC hC' hR nW hlen hcov hdis hk' hp
  obtain ⟨t2, a1, b1⟩ := kk T'.heap (locs ++ L) hP' (adr_D hD hadr)
    ⟨Nat.le_trans hS.1 hz, fun q h1 h2 => (hk' q (Nat.lt_of_lt_of_le h1 hS.1) (fun z => h2 (hin q z))).trans (hS.2.1 q h1 h2), fun q hq => by
      rcases List.mem_append.mp hq with h | h
      · exact hS.2.2 q h
      · exact hin _ (hL q h)⟩ T' rfl X'
  exact ⟨t2, st t2 a1, b1⟩
theorem wp_V (hM : Wr l D ty y w fr lo (.ref b :: As) wc wc' oc) (S : CallFix p m c cc nL s args Ts own) (cw : CallW R s args own C index y bytes maxL ret w (RM fr lo) 0 0 n) (hK : va_K D vwCl ty s) (hP : va_P D vwCl ws H) (hD : va_D A ws) (hS : va_S A H0 H locs)
    (is isR : List Nat) (hC : is.map (fun i => ws[i]?) = wc.map some) (hC' : is.map (fun i => ws'[i]?) = wc'.map some) (hR : isR.map (fun i => ws'[i]?) = isR.map (fun i => ws[i]?)) (nW : Nat) (hlen : ws'.length = nW) (hcov : covM nW is isR = true) (hdis : isR.all (fun i => !is.contains i) = true) (hadr : ws'.map Prod.fst = ws.map Prod.fst) (hnd : va_nd is = true) (q0 : Nat) (he : ws[q0]? = some (b, .inr (ci, fs))) (hc : vwCl[ci]? = some (C, T, N)) (hst : st0 = As.reverse ++ .ref b :: rest) (hn : As.length = n) (hsz : ls.size = nL) (hW : (rest.map fun v => v.category).sum ≤ 8) (hdg : decode cc pc = .ok (.invokevirtual index, 3)) (hf : cells ≤ R.cells ∧ slots ≤ R.slots)
    (kk : ∀ (H1 : Heap) (locs1 : List Loc), va_P D vwCl ws' H1 → va_D A ws' → va_S A H0 H1 locs1 → W p l e R s m args below meth c H1 locs1 cells slots Q (F0 m (pc + 3) ls (oc.toList ++ rest))) : W p l e R s m args below meth c H locs cells slots Q (F0 m pc ls st0) := by
  have hPc : va_P D vwCl wc H := fun j q hq => by
    obtain ⟨i, _, h2⟩ := mapSome hC hq
    exact hP i q h2
  subst hst
  exact wp_go (va_runV (As := As) (rest := rest) S hM cw ⟨fun a U g mk q => ⟨q.1, q.2.1, va_K.moved (u := U) (U := U.calling g mk a) (Vm.Alike.refl U.vm) q.2.2.1, q.2.2.2⟩, va_recv hK hP hc he, fun U hU hw => ⟨rfl, by rw [hU]; exact hPc, va_K.moved hw.alike hK, (hD.sub is hnd hC).weaken (fun _ _ _ _ => trivial)⟩⟩ rfl hn hsz rfl (lv_room hW) hdg hf) hP hD hS is isR hC hC' hR nW hlen hcov hdis hadr kk
end GP
