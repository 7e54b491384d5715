/-! contracts whose cells behind the call hold what some u says -/
def QE (D : va_G) {S : Type} (ws : va_W) (ws' : S → va_W) (oc : Option Value) : Array Value → State → Outcome → State → Prop := fun _ st o t => o = .returned oc ∧ (∃ u : S, va_P D vwCl (ws' u) t.heap) ∧ va_F (inW ws) st t
abbrev We (l : Launch) (D : va_G) (ty : List (ClassId × FieldType)) (y : MethodName) (w : List Cond) (fr lo : Nat) (av : List Value) {S : Type} (ws : va_W) (ws' : S → va_W) (oc : Option Value) : Prop :=
  Met l y w (RM fr lo) (va_Pc av (fun U => va_P D vwCl ws U.heap ∧ va_K D vwCl ty U ∧ va_D (fun _ => True) ws)) (QE D ws ws' oc) 0 0 (inW ws)
theorem we_i {l : Launch} {D : va_G} {ty : List (ClassId × FieldType)} {y : MethodName} {w w' : List Cond} {fr lo : Nat} {av : List Value} {S : Type} {ws : va_W} {ws' : S → va_W} {r : Int32} {cc : ByteArray} {maxL : Nat}
    (hy : plainName y.cls = true) (hw : w = Cond.code y cc maxL (some .int) :: w') (hlen : (lg_sl av).length ≤ maxL)
    (body : ∀ (p : Program) (e : Env) (s : State) (m : MethodId) (args : Array Value) (below : List Frame) (meth : Method) (c : Code) (ls : Array Slot) (Q : State → Prop) (A : Nat → Prop), p.tables.exec = Jvm.exec → c.code = cc → c.maxLocals = maxL → s.vm.findClass y.cls = some m.cls → (∀ x ∈ w, x.before args s = true) → va_P D vwCl ws s.heap → va_K D vwCl ty s → va_D A ws → va_S A s.heap s.heap [] → lv_has ls maxL (lv_args 0 av) →
      (∀ (H : Heap) (locs : List Loc) (v : Int32) (pc : Nat) (ls : Array Slot), va_S A s.heap H locs → (∃ u : S, va_P D vwCl (ws' u) H) → v = r → decode cc pc = .ok (.ireturn, 1) → W p l e (RM fr lo) s m args below meth c H locs 0 0 Q (F0 m pc ls [.int v])) →
      W p l e (RM fr lo) s m args below meth c s.heap [] 0 0 Q (F0 m 0 ls [])) : We l D ty y w fr lo av ws ws' (some (.int r)) := by
  refine Met.ofW (cc := cc) (maxL := maxL) (ret := (some .int)) hy hw ?_
  intro p e s m args below meth c s₁ B hml hv
  obtain ⟨rfl, hP, hK, hD⟩ := hv
  have hl := lv_entry av (n := maxL) hlen
  rw [lg_entry_eq]
  exact body p e s m _ below meth c _ _ (inW ws) B.exec B.bytes hml (findClass_of_methodNamed B.named) (atoms_spec (ws := w) B.pre) hP hK (inW_self hD) va_S.rf hl (fun H locs v pc ls hS hP hv hd => W.iret B.exec B.bytes B.returns (fun t ht _ => ⟨by rw [hv], by rw [ht]; exact hP, hS.F ht⟩) hS.2.2 hd B.notSynchronized)
theorem we_z {l : Launch} {D : va_G} {ty : List (ClassId × FieldType)} {y : MethodName} {w w' : List Cond} {fr lo : Nat} {av : List Value} {S : Type} {ws : va_W} {ws' : S → va_W} {r : Int32} {cc : ByteArray} {maxL : Nat}
    (hy : plainName y.cls = true) (hw : w = Cond.code y cc maxL (some .boolean) :: w') (hlen : (lg_sl av).length ≤ maxL)
    (body : ∀ (p : Program) (e : Env) (s : State) (m : MethodId) (args : Array Value) (below : List Frame) (meth : Method) (c : Code) (ls : Array Slot) (Q : State → Prop) (A : Nat → Prop), p.tables.exec = Jvm.exec → c.code = cc → c.maxLocals = maxL → s.vm.findClass y.cls = some m.cls → (∀ x ∈ w, x.before args s = true) → va_P D vwCl ws s.heap → va_K D vwCl ty s → va_D A ws → va_S A s.heap s.heap [] → lv_has ls maxL (lv_args 0 av) →
      (∀ (H : Heap) (locs : List Loc) (v : Int32) (pc : Nat) (ls : Array Slot), va_S A s.heap H locs → (∃ u : S, va_P D vwCl (ws' u) H) → v = r → narrow .boolean (.int v) = .int v → decode cc pc = .ok (.ireturn, 1) → W p l e (RM fr lo) s m args below meth c H locs 0 0 Q (F0 m pc ls [.int v])) →
      W p l e (RM fr lo) s m args below meth c s.heap [] 0 0 Q (F0 m 0 ls [])) : We l D ty y w fr lo av ws ws' (some (.int r)) := by
  refine Met.ofW (cc := cc) (maxL := maxL) (ret := (some .boolean)) hy hw ?_
  intro p e s m args below meth c s₁ B hml hv
  obtain ⟨rfl, hP, hK, hD⟩ := hv
  have hl := lv_entry av (n := maxL) hlen
  rw [lg_entry_eq]
  exact body p e s m _ below meth c _ _ (inW ws) B.exec B.bytes hml (findClass_of_methodNamed B.named) (atoms_spec (ws := w) B.pre) hP hK (inW_self hD) va_S.rf hl (fun H locs v pc ls hS hP hv hn hd => W.zret B.exec B.bytes B.returns hn (fun t ht _ => ⟨by rw [hv], by rw [ht]; exact hP, hS.F ht⟩) hS.2.2 hd B.notSynchronized)
section GE
variable {p : Program} {l : Launch} {e : Env} {R : Room} {s : State} {m : MethodId} {args : Array Value} {below : List Frame} {meth : Method} {c : Code} {H : Heap} {locs : List Loc} {cells slots : Nat} {Q : State → Prop} {D : va_G} {ty : List (ClassId × FieldType)} {cc : ByteArray} {pc : Nat} {ls : Array Slot} {rest : List Value}
variable {y : MethodName} {bytes : ByteArray} {maxL nL n index fr lo : Nat} {ret : Option FieldType} {w : List Cond} {Ts : List Cond} {own C : String} {b : Addr} {As : List Value} {st0 : List Value} {S : Type} {ws wc : va_W} {wc' ws' : S → va_W} {ci : Nat} {fs : List Value} {T : u_T} {N : Nat} {oc : Option Value} {A : Nat → Prop} {H0 : Heap} {a : Array Value}
theorem we_go (hr : va_Run p l e R s m args below meth c H locs cells slots 0 0 (F0 m pc ls st0) rest (QE D wc wc' oc a) (inW wc)) (hP : va_P D vwCl ws H) (hD : va_D A ws) (hS : va_S A H0 H locs) (is : List Nat) (hC : is.map (fun i => ws[i]?) = wc.map some) (hsame : ∀ u, (wc' u).map Prod.fst = wc.map Prod.fst) (hws : ∀ u, setM ws is (wc' u) = ws' u)
    (kk : ∀ (u : S) (H1 : Heap) (locs1 : List Loc), va_P D vwCl (ws' u) H1 → va_D A (ws' u) → va_S A H0 H1 locs1 → W p l e R s m args below meth c H1 locs1 cells slots Q (F0 m (pc + 3) ls (oc.toList ++ rest))) : W p l e R s m args below meth c H locs cells slots Q (F0 m pc ls st0) := by
  have hin : ∀ q, inW wc q → A q := by
    rintro q ⟨j, e1, he⟩
    obtain ⟨i, _, h2⟩ := mapSome hC he
    exact hD.2 i (q, e1) h2
  intro T0 hT X
  obtain ⟨v, st₀, t, T', L, h0, X', hL, e1, e2, ⟨hv, ⟨u, hp⟩, hz, hk⟩, st⟩ := hr T0 hT X
  cases hv
  rw [h0] at hz hk
  rw [← e1] at hz hp
  have hk' : ∀ q : Nat, q < H.size → ¬ inW wc q → T'.heap[q]? = H[q]? := fun q h1 h2 => by rw [e1]; exact hk q h1 h2
  obtain ⟨hP', hD'⟩ := setM_P is hP hD hC (hsame u) hk' hp
  rw [hws] at hP' hD'
  obtain ⟨t2, a1, b1⟩ := kk u T'.heap (locs ++ L) hP' hD'
    ⟨Nat.le_trans hS.1 hz, fun q h1 h2 => (hk' q (Nat.lt_of_lt_of_le h1 hS.1) (fun z => h2 (hin q z))).trans (hS.2.1 q h1 h2), fun q hq => by
      rcases List.mem_append.mp hq with h | h
      · exact hS.2.2 q h
      · exact hin _ (hL q h)⟩ T' rfl X'
  exact ⟨t2, st t2 a1, b1⟩
theorem we_V (hM : We l D ty y w fr lo (.ref b :: As) wc wc' oc) (S0 : CallFix p m c cc nL s args Ts own) (cw : CallW R s args own C index y bytes maxL ret w (RM fr lo) 0 0 n) (hK : va_K D vwCl ty s) (hP : va_P D vwCl ws H) (hD : va_D A ws) (hS : va_S A H0 H locs)
    (is : List Nat) (hC : is.map (fun i => ws[i]?) = wc.map some) (hnd : va_nd is = true) (hsame : ∀ u, (wc' u).map Prod.fst = wc.map Prod.fst) (hws : ∀ u, setM ws is (wc' u) = ws' u) (q0 : Nat) (he : ws[q0]? = some (b, .inr (ci, fs))) (hc : vwCl[ci]? = some (C, T, N)) (hst : st0 = As.reverse ++ .ref b :: rest) (hn : As.length = n) (hsz : ls.size = nL) (hW : (rest.map fun v => v.category).sum ≤ 8) (hdg : decode cc pc = .ok (.invokevirtual index, 3)) (hf : cells ≤ R.cells ∧ slots ≤ R.slots)
    (kk : ∀ (u : S) (H1 : Heap) (locs1 : List Loc), va_P D vwCl (ws' u) H1 → va_D A (ws' u) → va_S A H0 H1 locs1 → W p l e R s m args below meth c H1 locs1 cells slots Q (F0 m (pc + 3) ls (oc.toList ++ rest))) : W p l e R s m args below meth c H locs cells slots Q (F0 m pc ls st0) := by
  have hPc : va_P D vwCl wc H := fun j q hq => by
    obtain ⟨i, _, h2⟩ := mapSome hC hq
    exact hP i q h2
  subst hst
  exact we_go (va_runV (As := As) (rest := rest) S0 hM cw ⟨fun a U g mk q => ⟨q.1, q.2.1, va_K.moved (u := U) (U := U.calling g mk a) (Vm.Alike.refl U.vm) q.2.2.1, q.2.2.2⟩, va_recv hK hP hc he, fun U hU hw => ⟨rfl, by rw [hU]; exact hPc, va_K.moved hw.alike hK, (hD.sub is hnd hC).weaken (fun _ _ _ _ => trivial)⟩⟩ rfl hn hsz rfl (lv_room hW) hdg hf) hP hD hS is hC hsame hws kk
end GE
