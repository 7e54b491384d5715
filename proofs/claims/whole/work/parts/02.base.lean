/-! contracts in three forms (reads; writes its cells), their starts, ends and calls -/
abbrev TY (cI cB : ClassId) : List (ClassId × FieldType) := [(cI, .int), (cB, .byte)]
abbrev RM (fr lo : Nat) : Room := { frames := fr, cells := 0, slots := 0, locals := lo }
def inW (ws : va_W) : Nat → Prop := fun q => ∃ (k : Nat) (e : va_E), ws[k]? = some (q, e)
/-- a method that reads the cells ws alone and answers r -/
abbrev Rd (l : Launch) (D : va_G) (ty : List (ClassId × FieldType)) (y : MethodName) (w : List Cond) (fr lo : Nat) (av : List Value) (ws : va_W) (r : Int32) : Prop :=
  Met l y w (RM fr lo) (va_Pc av (fun U => va_P D vwCl ws U.heap ∧ va_K D vwCl ty U)) (vp_Si (fun x => x = r)) 0 0 (fun _ => False)
def QW (D : va_G) (ws ws' : va_W) (oc : Option Value) : Array Value → State → Outcome → State → Prop := fun _ st o t => o = .returned oc ∧ va_P D vwCl ws' t.heap ∧ va_F (inW ws) st t
/-- a method that turns the cells ws into ws' (the same addresses) and answers oc -/
abbrev Wr (l : Launch) (D : va_G) (ty : List (ClassId × FieldType)) (y : MethodName) (w : List Cond) (fr lo : Nat) (av : List Value) (ws ws' : va_W) (oc : Option Value) : Prop :=
  Met l y w (RM fr lo) (va_Pc av (fun U => va_P D vwCl ws U.heap ∧ va_K D vwCl ty U ∧ va_D (fun _ => True) ws)) (QW D ws ws' oc) 0 0 (inW ws)
theorem inW_self {A : Nat → Prop} {ws : va_W} (h : va_D A ws) : va_D (inW ws) ws := ⟨h.1, fun k q hk => ⟨k, q.2, hk⟩⟩
theorem rd_i {l : Launch} {D : va_G} {ty : List (ClassId × FieldType)} {y : MethodName} {w w' : List Cond} {fr lo : Nat} {av : List Value} {ws : va_W} {r : Int32} {cc : ByteArray} {maxL : Nat}
    (hy : plainName y.cls = true) (hw : w = Cond.code y cc maxL (some .int) :: w') (hlen : (lg_sl av).length ≤ maxL)
    (body : ∀ (p : Program) (e : Env) (s : State) (m : MethodId) (args : Array Value) (below : List Frame) (meth : Method) (c : Code) (ls : Array Slot) (Q : State → Prop), p.tables.exec = Jvm.exec → c.code = cc → c.maxLocals = maxL → s.vm.findClass y.cls = some m.cls → (∀ x ∈ w, x.before args s = true) → va_P D vwCl ws s.heap → va_K D vwCl ty s → lv_has ls maxL (lv_args 0 av) →
      (∀ (v : Int32) (pc : Nat) (ls : Array Slot), v = r → decode cc pc = .ok (.ireturn, 1) → W p l e (RM fr lo) s m args below meth c s.heap [] 0 0 Q (F0 m pc ls [.int v])) →
      W p l e (RM fr lo) s m args below meth c s.heap [] 0 0 Q (F0 m 0 ls [])) : Rd l D ty y w fr lo av ws r := by
  refine Met.ofW (cc := cc) (maxL := maxL) (ret := some .int) hy hw ?_
  intro p e s m args below meth c s₁ B hml hv
  obtain ⟨rfl, hP, hK⟩ := hv
  have hl := lv_entry av (n := maxL) hlen
  rw [lg_entry_eq]
  exact body p e s m _ below meth c _ _ B.exec B.bytes hml (findClass_of_methodNamed B.named) (atoms_spec (ws := w) B.pre) hP hK hl (fun v pc ls hv hd => W.iret B.exec B.bytes B.returns (fun t ht _ => ⟨v, rfl, hv, ht⟩) (fun q h => by cases h) hd B.notSynchronized)
theorem rd_z {l : Launch} {D : va_G} {ty : List (ClassId × FieldType)} {y : MethodName} {w w' : List Cond} {fr lo : Nat} {av : List Value} {ws : va_W} {r : Int32} {cc : ByteArray} {maxL : Nat}
    (hy : plainName y.cls = true) (hw : w = Cond.code y cc maxL (some .boolean) :: w') (hlen : (lg_sl av).length ≤ maxL)
    (body : ∀ (p : Program) (e : Env) (s : State) (m : MethodId) (args : Array Value) (below : List Frame) (meth : Method) (c : Code) (ls : Array Slot) (Q : State → Prop), p.tables.exec = Jvm.exec → c.code = cc → c.maxLocals = maxL → s.vm.findClass y.cls = some m.cls → (∀ x ∈ w, x.before args s = true) → va_P D vwCl ws s.heap → va_K D vwCl ty s → lv_has ls maxL (lv_args 0 av) →
      (∀ (v : Int32) (pc : Nat) (ls : Array Slot), v = r → narrow .boolean (.int v) = .int v → decode cc pc = .ok (.ireturn, 1) → W p l e (RM fr lo) s m args below meth c s.heap [] 0 0 Q (F0 m pc ls [.int v])) →
      W p l e (RM fr lo) s m args below meth c s.heap [] 0 0 Q (F0 m 0 ls [])) : Rd l D ty y w fr lo av ws r := by
  refine Met.ofW (cc := cc) (maxL := maxL) (ret := some .boolean) hy hw ?_
  intro p e s m args below meth c s₁ B hml hv
  obtain ⟨rfl, hP, hK⟩ := hv
  have hl := lv_entry av (n := maxL) hlen
  rw [lg_entry_eq]
  exact body p e s m _ below meth c _ _ B.exec B.bytes hml (findClass_of_methodNamed B.named) (atoms_spec (ws := w) B.pre) hP hK hl (fun v pc ls hv hn hd => W.zret B.exec B.bytes B.returns hn (fun t ht _ => ⟨v, rfl, hv, ht⟩) (fun q h => by cases h) hd B.notSynchronized)
theorem wr_v {l : Launch} {D : va_G} {ty : List (ClassId × FieldType)} {y : MethodName} {w w' : List Cond} {fr lo : Nat} {av : List Value} {ws ws' : va_W} {cc : ByteArray} {maxL : Nat}
    (hy : plainName y.cls = true) (hw : w = Cond.code y cc maxL none :: w') (hlen : (lg_sl av).length ≤ maxL)
    (body : ∀ (p : Program) (e : Env) (s : State) (m : MethodId) (args : Array Value) (below : List Frame) (meth : Method) (c : Code) (ls : Array Slot) (Q : State → Prop) (A : Nat → Prop), p.tables.exec = Jvm.exec → c.code = cc → c.maxLocals = maxL → s.vm.findClass y.cls = some m.cls → (∀ x ∈ w, x.before args s = true) → va_P D vwCl ws s.heap → va_K D vwCl ty s → va_D A ws → va_S A s.heap s.heap [] → lv_has ls maxL (lv_args 0 av) →
      (∀ (H : Heap) (locs : List Loc) (pc : Nat) (ls : Array Slot), va_S A s.heap H locs → va_P D vwCl ws' H → decode cc pc = .ok (.return_, 1) → W p l e (RM fr lo) s m args below meth c H locs 0 0 Q (F0 m pc ls [])) →
      W p l e (RM fr lo) s m args below meth c s.heap [] 0 0 Q (F0 m 0 ls [])) : Wr l D ty y w fr lo av ws ws' none := by
  refine Met.ofW (cc := cc) (maxL := maxL) (ret := none) hy hw ?_
  intro p e s m args below meth c s₁ B hml hv
  obtain ⟨rfl, hP, hK, hD⟩ := hv
  have hl := lv_entry av (n := maxL) hlen
  rw [lg_entry_eq]
  exact body p e s m _ below meth c _ _ (inW ws) B.exec B.bytes hml (findClass_of_methodNamed B.named) (atoms_spec (ws := w) B.pre) hP hK (inW_self hD) va_S.rf hl (fun H locs pc ls hS hP hd => W.vret B.exec B.bytes B.returns (fun t ht _ => ⟨rfl, by rw [ht]; exact hP, hS.F ht⟩) hS.2.2 hd B.notSynchronized)
theorem wr_i {l : Launch} {D : va_G} {ty : List (ClassId × FieldType)} {y : MethodName} {w w' : List Cond} {fr lo : Nat} {av : List Value} {ws ws' : va_W} {r : Int32} {cc : ByteArray} {maxL : Nat}
    (hy : plainName y.cls = true) (hw : w = Cond.code y cc maxL (some .int) :: w') (hlen : (lg_sl av).length ≤ maxL)
    (body : ∀ (p : Program) (e : Env) (s : State) (m : MethodId) (args : Array Value) (below : List Frame) (meth : Method) (c : Code) (ls : Array Slot) (Q : State → Prop) (A : Nat → Prop), p.tables.exec = Jvm.exec → c.code = cc → c.maxLocals = maxL → s.vm.findClass y.cls = some m.cls → (∀ x ∈ w, x.before args s = true) → va_P D vwCl ws s.heap → va_K D vwCl ty s → va_D A ws → va_S A s.heap s.heap [] → lv_has ls maxL (lv_args 0 av) →
      (∀ (H : Heap) (locs : List Loc) (v : Int32) (pc : Nat) (ls : Array Slot), va_S A s.heap H locs → va_P D vwCl ws' H → v = r → decode cc pc = .ok (.ireturn, 1) → W p l e (RM fr lo) s m args below meth c H locs 0 0 Q (F0 m pc ls [.int v])) →
      W p l e (RM fr lo) s m args below meth c s.heap [] 0 0 Q (F0 m 0 ls [])) : Wr l D ty y w fr lo av ws ws' (some (.int r)) := by
  refine Met.ofW (cc := cc) (maxL := maxL) (ret := (some .int)) hy hw ?_
  intro p e s m args below meth c s₁ B hml hv
  obtain ⟨rfl, hP, hK, hD⟩ := hv
  have hl := lv_entry av (n := maxL) hlen
  rw [lg_entry_eq]
  exact body p e s m _ below meth c _ _ (inW ws) B.exec B.bytes hml (findClass_of_methodNamed B.named) (atoms_spec (ws := w) B.pre) hP hK (inW_self hD) va_S.rf hl (fun H locs v pc ls hS hP hv hd => W.iret B.exec B.bytes B.returns (fun t ht _ => ⟨by rw [hv], by rw [ht]; exact hP, hS.F ht⟩) hS.2.2 hd B.notSynchronized)
theorem wr_z {l : Launch} {D : va_G} {ty : List (ClassId × FieldType)} {y : MethodName} {w w' : List Cond} {fr lo : Nat} {av : List Value} {ws ws' : va_W} {r : Int32} {cc : ByteArray} {maxL : Nat}
    (hy : plainName y.cls = true) (hw : w = Cond.code y cc maxL (some .boolean) :: w') (hlen : (lg_sl av).length ≤ maxL)
    (body : ∀ (p : Program) (e : Env) (s : State) (m : MethodId) (args : Array Value) (below : List Frame) (meth : Method) (c : Code) (ls : Array Slot) (Q : State → Prop) (A : Nat → Prop), p.tables.exec = Jvm.exec → c.code = cc → c.maxLocals = maxL → s.vm.findClass y.cls = some m.cls → (∀ x ∈ w, x.before args s = true) → va_P D vwCl ws s.heap → va_K D vwCl ty s → va_D A ws → va_S A s.heap s.heap [] → lv_has ls maxL (lv_args 0 av) →
      (∀ (H : Heap) (locs : List Loc) (v : Int32) (pc : Nat) (ls : Array Slot), va_S A s.heap H locs → va_P D vwCl ws' H → v = r → narrow .boolean (.int v) = .int v → decode cc pc = .ok (.ireturn, 1) → W p l e (RM fr lo) s m args below meth c H locs 0 0 Q (F0 m pc ls [.int v])) →
      W p l e (RM fr lo) s m args below meth c s.heap [] 0 0 Q (F0 m 0 ls [])) : Wr l D ty y w fr lo av ws ws' (some (.int r)) := by
  refine Met.ofW (cc := cc) (maxL := maxL) (ret := (some .boolean)) hy hw ?_
  intro p e s m args below meth c s₁ B hml hv
  obtain ⟨rfl, hP, hK, hD⟩ := hv
  have hl := lv_entry av (n := maxL) hlen
  rw [lg_entry_eq]
  exact body p e s m _ below meth c _ _ (inW ws) B.exec B.bytes hml (findClass_of_methodNamed B.named) (atoms_spec (ws := w) B.pre) hP hK (inW_self hD) va_S.rf hl (fun H locs v pc ls hS hP hv hn hd => W.zret B.exec B.bytes B.returns hn (fun t ht _ => ⟨by rw [hv], by rw [ht]; exact hP, hS.F ht⟩) hS.2.2 hd B.notSynchronized)
section GO
variable {p : Program} {l : Launch} {e : Env} {R : Room} {s : State} {m : MethodId} {args : Array Value} {below : List Frame} {meth : Method} {c : Code} {H : Heap} {locs : List Loc} {cells slots : Nat} {Q : State → Prop} {D : va_G} {ty : List (ClassId × FieldType)} {cc : ByteArray} {pc : Nat} {ls : Array Slot} {rest : List Value}
/-- arrays of ints, by a place that is known -/
theorem g_iald (hx : p.tables.exec = Jvm.exec) (hb : c.code = cc) {ws : va_W} {a : Nat} (hK : va_K D vwCl ty s) (hP : va_P D vwCl ws H) (q0 t0 : Nat) {cA : ClassId} {n : Nat} {f : Nat → Int32} (ha : ws[q0]? = some (a, .inl (cA, n, .inl f))) (ht : ty[t0]? = some (cA, .int)) {i : Int32} (k : Nat) (hi : i = nI k) (hk : k < n) (hn : n < 2 ^ 31) (hdg : decode cc pc = .ok (.iaload, 1))
    (kk : W p l e R s m args below meth c H locs cells slots Q (F0 m (pc + 1) ls (.int (f k) :: rest))) : W p l e R s m args below meth c H locs cells slots Q (F0 m pc ls (.int i :: .ref a :: rest)) := by
  have hc : i.toNatClampNeg = k := by rw [hi]; exact nI_clamp (by omega)
  refine va_iald hx hb hK hP q0 t0 ha ht (by rw [hi]; exact vp_in_nI hk hn) hdg ?_
  rw [hc]
  exact kk
theorem g_iast (hx : p.tables.exec = Jvm.exec) (hb : c.code = cc) {ws : va_W} {a : Nat} {A : Nat → Prop} {H0 : Heap} (hK : va_K D vwCl ty s) (hP : va_P D vwCl ws H) (hD : va_D A ws) (hS : va_S A H0 H locs) (q0 t0 : Nat) {cA : ClassId} {n : Nat} {f : Nat → Int32} (ha : ws[q0]? = some (a, .inl (cA, n, .inl f))) (ht : ty[t0]? = some (cA, .int)) {i x : Int32} (k : Nat) (hi : i = nI k) (hk : k < n) (hn : n < 2 ^ 31) (hdg : decode cc pc = .ok (.iastore, 1))
    (kk : ∀ (H1 : Heap) (locs1 : List Loc), va_P D vwCl (ws.set q0 (a, .inl (cA, n, .inl (upd f k x)))) H1 → va_D A (ws.set q0 (a, .inl (cA, n, .inl (upd f k x)))) → va_S A H0 H1 locs1 → W p l e R s m args below meth c H1 locs1 cells slots Q (F0 m (pc + 1) ls rest)) : W p l e R s m args below meth c H locs cells slots Q (F0 m pc ls (.int x :: .int i :: .ref a :: rest)) := by
  have hc : i.toNatClampNeg = k := by rw [hi]; exact nI_clamp (by omega)
  refine va_iast hx hb hK hP hD hS q0 t0 ha ht (by rw [hi]; exact vp_in_nI hk hn) hdg ?_
  rw [hc]
  exact kk
/-- fields -/
theorem g_get (hx : p.tables.exec = Jvm.exec) (hb : c.code = cc) {ws : va_W} {a : Nat} {own C : String} {T : u_T} {N ci index : Nat} {Ts : List Cond} (hts : ∀ w ∈ Ts, w.before args s = true) (hin : ∀ w ∈ u_ws C T N, w ∈ Ts) (hown : s.vm.findClass own = some m.cls) (hK : va_K D vwCl ty s) (hP : va_P D vwCl ws H) (q0 k : Nat) {fs : List Value} {v : Value} (he : ws[q0]? = some (a, .inr (ci, fs))) (hc : vwCl[ci]? = some (C, T, N)) (hk : k < N) (hlink : Cond.fieldLink own index (T k).1 (T k).2.1 (T k).2.2.1 ∈ Ts) (hv : fs[k]? = some v) (hdg : decode cc pc = .ok (.getfield index, 3))
    (kk : W p l e R s m args below meth c H locs cells slots Q (F0 m (pc + 3) ls (v :: rest))) : W p l e R s m args below meth c H locs cells slots Q (F0 m pc ls (.ref a :: rest)) :=
  va_get hx hb hts hin hown hK hP q0 he hc k hk (hts _ hlink) (fun _ h => h) hv hdg kk
theorem g_put (hx : p.tables.exec = Jvm.exec) (hb : c.code = cc) {ws : va_W} {a : Nat} {A : Nat → Prop} {H0 : Heap} {own C : String} {T : u_T} {N ci index : Nat} {Ts : List Cond} (hts : ∀ w ∈ Ts, w.before args s = true) (hin : ∀ w ∈ u_ws C T N, w ∈ Ts) (ty0 : Nat → FieldType) (hty : ∀ k, k < N → parseFieldDescriptor (T k).2.2.1 = some (ty0 k)) (hnm : ∀ a, a < N → ∀ b, b < N → a ≠ b → (T a).2.1 ≠ (T b).2.1) (hown : s.vm.findClass own = some m.cls) (hK : va_K D vwCl ty s) (hP : va_P D vwCl ws H) (hD : va_D A ws) (hS : va_S A H0 H locs) (q0 k : Nat) {fs : List Value} {v : Value} (he : ws[q0]? = some (a, .inr (ci, fs))) (hc : vwCl[ci]? = some (C, T, N)) (hk : k < N) (hlink : Cond.fieldLink own index (T k).1 (T k).2.1 (T k).2.2.1 ∈ Ts) (hfin : (T k).2.2.2 = false) (hn : narrow (ty0 k) v = v) (hfit : fits (ty0 k) v = true) (hl : k < fs.length) (hdg : decode cc pc = .ok (.putfield index, 3)) {ws' : va_W} (hws : ws.set q0 (a, .inr (ci, fs.set k v)) = ws')
    (kk : ∀ (H1 : Heap) (locs1 : List Loc), va_P D vwCl ws' H1 → va_D A ws' → va_S A H0 H1 locs1 → W p l e R s m args below meth c H1 locs1 cells slots Q (F0 m (pc + 3) ls rest)) : W p l e R s m args below meth c H locs cells slots Q (F0 m pc ls (v :: .ref a :: rest)) := by
  subst hws
  exact va_put hx hb hts hin ty0 hty hnm hown hK hP hD hS q0 he hc k hk (hts _ hlink) (fun _ h => h) hfin (hty k hk) hn hfit hl hdg kk
variable {y : MethodName} {bytes : ByteArray} {maxL nL n index fr lo : Nat} {ret : Option FieldType} {w : List Cond} {Ts : List Cond} {own C : String} {b : Addr} {As : List Value} {st0 : List Value} {ws wc wc' : va_W} {ci : Nat} {fs : List Value} {T : u_T} {N : Nat} {r : Int32}
/-- a call of a method that reads: the heap stays -/
theorem rd_V (hM : Rd l D ty y w fr lo (.ref b :: As) wc r) (S : CallFix p m c cc nL s args Ts own) (cw : CallW R s args own C index y bytes maxL ret w (RM fr lo) 0 0 n) (hK : va_K D vwCl ty s) (hP : va_P D vwCl ws H)
    (is : List Nat) (hi : is.filterMap (fun i => ws[i]?) = wc) (q0 : Nat) (he : ws[q0]? = some (b, .inr (ci, fs))) (hc : vwCl[ci]? = some (C, T, N)) (hst : st0 = As.reverse ++ .ref b :: rest) (hn : As.length = n) (hsz : ls.size = nL) (hW : (rest.map fun v => v.category).sum ≤ 8) (hdg : decode cc pc = .ok (.invokevirtual index, 3)) (hf : cells ≤ R.cells ∧ slots ≤ R.slots)
    (kk : W p l e R s m args below meth c H locs cells slots Q (F0 m (pc + 3) ls (.int r :: rest))) : W p l e R s m args below meth c H locs cells slots Q (F0 m pc ls st0) := by
  subst hst
  refine vp_callSi (va_Run.run (va_runV (As := As) (rest := rest) S hM cw ⟨fun a U g mk q => ⟨q.1, q.2.1, va_K.moved (u := U) (U := U.calling g mk a) (Vm.Alike.refl U.vm) q.2.2⟩, va_recv hK hP hc he, fun U hU hw => ⟨rfl, by rw [hU]; exact hP.sub is hi, va_K.moved hw.alike hK⟩⟩ rfl hn hsz rfl (lv_room hW) hdg hf)) (fun x hx => ?_)
  subst hx
  exact kk
theorem rd_S (hM : Rd l D ty y w fr lo As wc r) (S : CallFix p m c cc nL s args Ts own) (cw : CallB R s args own index y bytes maxL ret w (RM fr lo) 0 0 n ∧ (Cond.static y).before args s = true) (hK : va_K D vwCl ty s) (hP : va_P D vwCl ws H)
    (is : List Nat) (hi : is.filterMap (fun i => ws[i]?) = wc) (hst : st0 = As.reverse ++ rest) (hn : As.length = n) (hsz : ls.size = nL) (hW : (rest.map fun v => v.category).sum ≤ 8) (hdg : decode cc pc = .ok (.invokestatic index, 3)) (hf : cells ≤ R.cells ∧ slots ≤ R.slots)
    (kk : W p l e R s m args below meth c H locs cells slots Q (F0 m (pc + 3) ls (.int r :: rest))) : W p l e R s m args below meth c H locs cells slots Q (F0 m pc ls st0) := by
  subst hst
  refine vp_callSi (va_Run.run (va_runS (As := As) (rest := rest) S hM cw ⟨fun a U g mk q => ⟨q.1, q.2.1, va_K.moved (u := U) (U := U.calling g mk a) (Vm.Alike.refl U.vm) q.2.2⟩, fun U hU hw => ⟨rfl, by rw [hU]; exact hP.sub is hi, va_K.moved hw.alike hK⟩⟩ rfl hn hsz rfl (lv_room hW) hdg hf)) (fun x hx => ?_)
  subst hx
  exact kk
end GO
/-- cells of a world replaced, by their places -/
def setM : va_W → List Nat → va_W → va_W
  | ws, i :: is, x :: xs => setM (ws.set i x) is xs
  | ws, _, _ => ws
theorem setM_get : ∀ (is : List Nat) (xs ws : va_W) (k : Nat) (q : Nat × va_E), is.length = xs.length → (setM ws is xs)[k]? = some q → (∃ j : Nat, is[j]? = some k ∧ xs[j]? = some q) ∨ (k ∉ is ∧ ws[k]? = some q)
  | [], xs, ws, k, q, _, h => by
    refine Or.inr ⟨by simp, ?_⟩
    cases xs <;> exact h
  | i :: is, [], ws, k, q, hl, _ => by cases hl
  | i :: is, x :: xs, ws, k, q, hl, h => by
    have h1 : (setM (ws.set i x) is xs)[k]? = some q := h
    rcases setM_get is xs (ws.set i x) k q (Nat.succ.inj hl) h1 with ⟨j, a, b⟩ | ⟨a, b⟩
    · exact Or.inl ⟨j + 1, a, b⟩
    · by_cases hk : k = i
      · subst hk
        by_cases hlt : k < ws.length
        · rw [List.getElem?_set_self hlt] at b
          exact Or.inl ⟨0, rfl, b⟩
        · rw [List.getElem?_eq_none (by simp; omega)] at b
          cases b
      · rw [List.getElem?_set_ne (Ne.symm hk)] at b
        exact Or.inr ⟨by simp [hk, a], b⟩
theorem mapSome {ws wc : va_W} {is : List Nat} (hC : is.map (fun i => ws[i]?) = wc.map some) {j : Nat} {q : Nat × va_E} (h : wc[j]? = some q) : ∃ i, is[j]? = some i ∧ ws[i]? = some q := by
  have h1 : (is.map (fun i => ws[i]?))[j]? = some (some q) := by rw [hC, List.getElem?_map, h]; rfl
  rw [List.getElem?_map] at h1
  cases hi : is[j]? with
  | none => rw [hi] at h1; cases h1
  | some i => rw [hi] at h1; exact ⟨i, rfl, Option.some.inj h1⟩
theorem setM_P {A : Nat → Prop} {D : va_G} {ws wc wc' : va_W} {H H1 : Heap} (is : List Nat) (hP : va_P D vwCl ws H) (hD : va_D A ws) (hC : is.map (fun i => ws[i]?) = wc.map some) (hsame : wc'.map Prod.fst = wc.map Prod.fst) (hk : ∀ q : Nat, q < H.size → ¬ inW wc q → H1[q]? = H[q]?) (hP1 : va_P D vwCl wc' H1) :
    va_P D vwCl (setM ws is wc') H1 ∧ va_D A (setM ws is wc') := by
  have hl : is.length = wc.length := by simpa using congrArg List.length hC
  have hl2 : wc'.length = wc.length := by simpa using congrArg List.length hsame
  have hll : is.length = wc'.length := hl.trans hl2.symm
  have adr : ∀ (j : Nat) (q : Nat × va_E), wc'[j]? = some q → ∃ e, wc[j]? = some (q.1, e) := by
    intro j q hq
    have h1 : (wc'.map Prod.fst)[j]? = some q.1 := by rw [List.getElem?_map, hq]; rfl
    rw [hsame, List.getElem?_map] at h1
    cases hw : wc[j]? with
    | none => rw [hw] at h1; cases h1
    | some x => rw [hw] at h1; exact ⟨x.2, by rw [← Option.some.inj h1]⟩
  refine ⟨fun k q hq => ?_, ⟨fun i j x y hi hj hxy => ?_, fun k q hq => ?_⟩⟩
  · rcases setM_get is wc' ws k q hll hq with ⟨j, _, b⟩ | ⟨a, b⟩
    · exact hP1 j q b
    · refine (hP k q b).kept (hk q.1 (hP k q b).lt ?_)
      rintro ⟨j, e, he⟩
      obtain ⟨i, h1, h2⟩ := mapSome hC he
      have hij := hD.1 k i q (q.1, e) b h2 rfl
      subst hij
      exact a (List.mem_of_getElem? h1)
  · have key : ∀ (k : Nat) (q : Nat × va_E), (setM ws is wc')[k]? = some q → ∃ e, ws[k]? = some (q.1, e) := by
      intro k q hq
      rcases setM_get is wc' ws k q hll hq with ⟨j, a, b⟩ | ⟨_, b⟩
      · obtain ⟨e, he⟩ := adr j q b
        obtain ⟨i, h1, h2⟩ := mapSome hC he
        rw [a] at h1
        cases h1
        exact ⟨e, h2⟩
      · exact ⟨q.2, b⟩
    obtain ⟨e1, h1⟩ := key i x hi
    obtain ⟨e2, h2⟩ := key j y hj
    exact hD.1 i j _ _ h1 h2 hxy
  · rcases setM_get is wc' ws k q hll hq with ⟨j, a, b⟩ | ⟨_, b⟩
    · obtain ⟨e, he⟩ := adr j q b
      obtain ⟨i, h1, h2⟩ := mapSome hC he
      exact hD.2 i (q.1, e) h2
    · exact hD.2 k q b
section GW
variable {p : Program} {l : Launch} {e : Env} {R : Room} {s : State} {m : MethodId} {args : Array Value} {below : List Frame} {meth : Method} {c : Code} {H : Heap} {locs : List Loc} {cells slots : Nat} {Q : State → Prop} {D : va_G} {ty : List (ClassId × FieldType)} {cc : ByteArray} {pc : Nat} {ls : Array Slot} {rest : List Value}
variable {y : MethodName} {bytes : ByteArray} {maxL nL n index fr lo : Nat} {ret : Option FieldType} {w : List Cond} {Ts : List Cond} {own C : String} {b : Addr} {As : List Value} {st0 : List Value} {ws wc wc' ws' : va_W} {ci : Nat} {fs : List Value} {T : u_T} {N : Nat} {oc : Option Value} {A : Nat → Prop} {H0 : Heap} {a : Array Value}
/-- behind a call of a method that writes: its cells are new, the others stay -/
theorem wr_go (hr : va_Run p l e R s m args below meth c H locs cells slots 0 0 (F0 m pc ls st0) rest (QW D wc wc' oc a) (inW wc)) (hP : va_P D vwCl ws H) (hD : va_D A ws) (hS : va_S A H0 H locs) (is : List Nat) (hC : is.map (fun i => ws[i]?) = wc.map some) (hsame : wc'.map Prod.fst = wc.map Prod.fst) (hws : setM ws is wc' = ws')
    (kk : ∀ (H1 : Heap) (locs1 : List Loc), va_P D vwCl ws' H1 → va_D A ws' → va_S A H0 H1 locs1 → W p l e R s m args below meth c H1 locs1 cells slots Q (F0 m (pc + 3) ls (oc.toList ++ rest))) : W p l e R s m args below meth c H locs cells slots Q (F0 m pc ls st0) := by
  have hin : ∀ q, inW wc q → A q := by
    rintro q ⟨j, e1, he⟩
    obtain ⟨i, _, h2⟩ := mapSome hC he
    exact hD.2 i (q, e1) h2
  intro T0 hT X
  obtain ⟨v, st₀, t, T', L, h0, X', hL, e1, e2, ⟨hv, hp, hz, hk⟩, st⟩ := hr T0 hT X
  cases hv
  rw [h0] at hz hk
  rw [← e1] at hz hp
  have hk' : ∀ q : Nat, q < H.size → ¬ inW wc q → T'.heap[q]? = H[q]? := fun q h1 h2 => by rw [e1]; exact hk q h1 h2
  obtain ⟨hP', hD'⟩ := setM_P is hP hD hC hsame hk' hp
  rw [hws] at hP' hD'
  obtain ⟨t2, a1, b1⟩ := kk T'.heap (locs ++ L) hP' hD'
    ⟨Nat.le_trans hS.1 hz, fun q h1 h2 => (hk' q (Nat.lt_of_lt_of_le h1 hS.1) (fun z => h2 (hin q z))).trans (hS.2.1 q h1 h2), fun q hq => by
      rcases List.mem_append.mp hq with h | h
      · exact hS.2.2 q h
      · exact hin _ (hL q h)⟩ T' rfl X'
  exact ⟨t2, st t2 a1, b1⟩
theorem wr_V (hM : Wr l D ty y w fr lo (.ref b :: As) wc wc' oc) (S : CallFix p m c cc nL s args Ts own) (cw : CallW R s args own C index y bytes maxL ret w (RM fr lo) 0 0 n) (hK : va_K D vwCl ty s) (hP : va_P D vwCl ws H) (hD : va_D A ws) (hS : va_S A H0 H locs)
    (is : List Nat) (hC : is.map (fun i => ws[i]?) = wc.map some) (hnd : va_nd is = true) (hsame : wc'.map Prod.fst = wc.map Prod.fst) (hws : setM ws is wc' = ws') (q0 : Nat) (he : ws[q0]? = some (b, .inr (ci, fs))) (hc : vwCl[ci]? = some (C, T, N)) (hst : st0 = As.reverse ++ .ref b :: rest) (hn : As.length = n) (hsz : ls.size = nL) (hW : (rest.map fun v => v.category).sum ≤ 8) (hdg : decode cc pc = .ok (.invokevirtual index, 3)) (hf : cells ≤ R.cells ∧ slots ≤ R.slots)
    (kk : ∀ (H1 : Heap) (locs1 : List Loc), va_P D vwCl ws' H1 → va_D A ws' → va_S A H0 H1 locs1 → W p l e R s m args below meth c H1 locs1 cells slots Q (F0 m (pc + 3) ls (oc.toList ++ rest))) : W p l e R s m args below meth c H locs cells slots Q (F0 m pc ls st0) := by
  have hPc : va_P D vwCl wc H := fun j q hq => by
    obtain ⟨i, _, h2⟩ := mapSome hC hq
    exact hP i q h2
  subst hst
  exact wr_go (va_runV (As := As) (rest := rest) S hM cw ⟨fun a U g mk q => ⟨q.1, q.2.1, va_K.moved (u := U) (U := U.calling g mk a) (Vm.Alike.refl U.vm) q.2.2.1, q.2.2.2⟩, va_recv hK hP hc he, fun U hU hw => ⟨rfl, by rw [hU]; exact hPc, va_K.moved hw.alike hK, (hD.sub is hnd hC).weaken (fun _ _ _ _ => trivial)⟩⟩ rfl hn hsz rfl (lv_room hW) hdg hf) hP hD hS is hC hsame hws kk
theorem wr_S (hM : Wr l D ty y w fr lo As wc wc' oc) (S : CallFix p m c cc nL s args Ts own) (cw : CallB R s args own index y bytes maxL ret w (RM fr lo) 0 0 n ∧ (Cond.static y).before args s = true) (hK : va_K D vwCl ty s) (hP : va_P D vwCl ws H) (hD : va_D A ws) (hS : va_S A H0 H locs)
    (is : List Nat) (hC : is.map (fun i => ws[i]?) = wc.map some) (hnd : va_nd is = true) (hsame : wc'.map Prod.fst = wc.map Prod.fst) (hws : setM ws is wc' = ws') (hst : st0 = As.reverse ++ rest) (hn : As.length = n) (hsz : ls.size = nL) (hW : (rest.map fun v => v.category).sum ≤ 8) (hdg : decode cc pc = .ok (.invokestatic index, 3)) (hf : cells ≤ R.cells ∧ slots ≤ R.slots)
    (kk : ∀ (H1 : Heap) (locs1 : List Loc), va_P D vwCl ws' H1 → va_D A ws' → va_S A H0 H1 locs1 → W p l e R s m args below meth c H1 locs1 cells slots Q (F0 m (pc + 3) ls (oc.toList ++ rest))) : W p l e R s m args below meth c H locs cells slots Q (F0 m pc ls st0) := by
  have hPc : va_P D vwCl wc H := fun j q hq => by
    obtain ⟨i, _, h2⟩ := mapSome hC hq
    exact hP i q h2
  subst hst
  exact wr_go (va_runS (As := As) (rest := rest) S hM cw ⟨fun a U g mk q => ⟨q.1, q.2.1, va_K.moved (u := U) (U := U.calling g mk a) (Vm.Alike.refl U.vm) q.2.2.1, q.2.2.2⟩, fun U hU hw => ⟨rfl, by rw [hU]; exact hPc, va_K.moved hw.alike hK, (hD.sub is hnd hC).weaken (fun _ _ _ _ => trivial)⟩⟩ rfl hn hsz rfl (lv_room hW) hdg hf) hP hD hS is hC hsame hws kk
end GW
