/-! methods that read constant texts: what is known of them, contracts, calls -/
abbrev SFt : Type := (Nat → Nat) × (Nat → Nat)
def sfL : List Nat := [4, 6, 5, 4, 4, 4, 6, 3, 0]
def sfB : List (List Int32) := [[121, 101, 97, 114], [112, 101, 114, 105, 111, 100], [115, 104, 97, 114, 101], [117, 112, 116, 111], [111, 118, 101, 114], [114, 97, 116, 101], [105, 110, 99, 111, 109, 101], [112, 97, 121], []]
def SF (F : SFt) (A : Nat → Prop) (U : State) (H : Heap) : Prop :=
  vk_S 9 sfL sfB F.1 F.2 A U H ∧ va_Z RJ0 "COMPACT_STRINGS" "Z" (.int 1) A U H ∧ va_Zq RJ3 "SIOOBE_FORMATTER" "Ljava/util/function/BiFunction;" A U H ∧
  (vk_R RX4 134 "year" (F.1 0) U ∧ vk_R RX4 136 "period" (F.1 1) U ∧ vk_R RX4 138 "share" (F.1 2) U ∧ vk_R RX4 140 "upto" (F.1 3) U ∧ vk_R RX4 142 "over" (F.1 4) U ∧ vk_R RX4 144 "rate" (F.1 5) U ∧ vk_R RX4 146 "income" (F.1 6) U ∧ vk_R RX4 148 "pay" (F.1 7) U)
theorem SF.same {F : SFt} {A : Nat → Prop} {u U : State} {H : Heap} (hv : U.vm = u.vm) (h : SF F A u H) : SF F A U H := by
  obtain ⟨h1, h2, h3, r0, r1, r2, r3, r4, r5, r6, r7⟩ := h
  have ha : u.vm.Alike U.vm := by rw [hv]; exact Vm.Alike.refl _
  exact ⟨vk_S.moved ha h1, va_Z.moved ha h2, va_Zq.moved ha h3, r0.same hv, r1.same hv, r2.same hv, r3.same hv, r4.same hv, r5.same hv, r6.same hv, r7.same hv⟩
theorem SF.at {F : SFt} {A B : Nat → Prop} {s U : State} {H : Heap} {locs : List Loc} (h : SF F A s s.heap) (hS : va_S A s.heap H locs) (hU : U.heap = H) (hw : s.WarmedH U.vm) (hAB : ∀ q, B q → A q) : SF F B U U.heap := by
  obtain ⟨h1, h2, h3, r0, r1, r2, r3, r4, r5, r6, r7⟩ := h
  rw [hU]
  exact ⟨((vk_S.moved hw.alike h1).kept hS.2.1).narrow hAB, ((va_Z.moved hw.alike h2).kept hS.2.1).narrow hAB, ((va_Zq.moved hw.alike h3).kept hS.2.1).narrow hAB, r0.warm hw, r1.warm hw, r2.warm hw, r3.warm hw, r4.warm hw, r5.warm hw, r6.warm hw, r7.warm hw⟩
def SB (D : va_G) (ty : List (ClassId × FieldType)) (ws : va_W) (F : SFt) (U : State) : Prop := va_P D vwCl ws U.heap ∧ va_K D vwCl ty U ∧ SF F (fun _ => False) U U.heap
def QSv (oc : Option Value) : Array Value → State → Outcome → State → Prop := fun _ st o t => o = .returned oc ∧ t.heap = st.heap
/-- a method that reads texts, its cells ws, and answers oc -/
abbrev Rs (l : Launch) (D : va_G) (ty : List (ClassId × FieldType)) (y : MethodName) (w : List Cond) (fr lo : Nat) (av : List Value) (ws : va_W) (F : SFt) (oc : Option Value) : Prop :=
  Met l y w (RM fr lo) (va_Pc av (SB D ty ws F)) (QSv oc) 0 0 (fun _ => False)
/-- a method that writes its cells, and reads texts -/
abbrev Ws (l : Launch) (D : va_G) (ty : List (ClassId × FieldType)) (y : MethodName) (w : List Cond) (fr lo : Nat) (av : List Value) (ws ws' : va_W) (F : SFt) (oc : Option Value) : Prop :=
  Met l y w (RM fr lo) (va_Pc av (fun U => va_P D vwCl ws U.heap ∧ va_K D vwCl ty U ∧ va_D (fun _ => True) ws ∧ SF F (inW ws) U U.heap)) (QW D ws ws' oc) 0 0 (inW ws)
theorem rs_z {l : Launch} {D : va_G} {ty : List (ClassId × FieldType)} {y : MethodName} {w w' : List Cond} {fr lo : Nat} {av : List Value} {ws : va_W} {F : SFt} {r : Int32} {cc : ByteArray} {maxL : Nat} {rt : FieldType}
    (hy : plainName y.cls = true) (hw : w = Cond.code y cc maxL (some rt) :: w') (hlen : (lg_sl av).length ≤ maxL)
    (body : ∀ (p : Program) (e : Env) (s : State) (m : MethodId) (args : Array Value) (below : List Frame) (meth : Method) (c : Code) (ls : Array Slot) (Q : State → Prop), p.tables.exec = Jvm.exec → c.code = cc → c.maxLocals = maxL → s.vm.findClass y.cls = some m.cls → (∀ x ∈ w, x.before args s = true) → va_P D vwCl ws s.heap → va_K D vwCl ty s → SF F (fun _ => False) s s.heap → lv_has ls maxL (lv_args 0 av) →
      (∀ (v : Int32) (pc : Nat) (ls : Array Slot), v = r → narrow rt (.int v) = .int v → decode cc pc = .ok (.ireturn, 1) → W p l e (RM fr lo) s m args below meth c s.heap [] 0 0 Q (F0 m pc ls [.int v])) →
      W p l e (RM fr lo) s m args below meth c s.heap [] 0 0 Q (F0 m 0 ls [])) : Rs l D ty y w fr lo av ws F (some (.int r)) := by
  refine Met.ofW (cc := cc) (maxL := maxL) (ret := some rt) hy hw ?_
  intro p e s m args below meth c s₁ B hml hv
  obtain ⟨rfl, hP, hK, hF⟩ := hv
  have hl := lv_entry av (n := maxL) hlen
  rw [lg_entry_eq]
  exact body p e s m _ below meth c _ _ B.exec B.bytes hml (findClass_of_methodNamed B.named) (atoms_spec (ws := w) B.pre) hP hK hF hl (fun v pc ls hv hn hd => W.zret B.exec B.bytes B.returns hn (fun t ht _ => ⟨by rw [hv], ht⟩) (fun q h => by cases h) hd B.notSynchronized)
theorem rs_a {l : Launch} {D : va_G} {ty : List (ClassId × FieldType)} {y : MethodName} {w w' : List Cond} {fr lo : Nat} {av : List Value} {ws : va_W} {F : SFt} {r : Nat} {cc : ByteArray} {maxL : Nat} {nm : String}
    (hy : plainName y.cls = true) (hw : w = Cond.code y cc maxL (some (.object nm)) :: w') (hlen : (lg_sl av).length ≤ maxL)
    (body : ∀ (p : Program) (e : Env) (s : State) (m : MethodId) (args : Array Value) (below : List Frame) (meth : Method) (c : Code) (ls : Array Slot) (Q : State → Prop), p.tables.exec = Jvm.exec → c.code = cc → c.maxLocals = maxL → s.vm.findClass y.cls = some m.cls → (∀ x ∈ w, x.before args s = true) → va_P D vwCl ws s.heap → va_K D vwCl ty s → SF F (fun _ => False) s s.heap → lv_has ls maxL (lv_args 0 av) →
      (∀ (v : Nat) (pc : Nat) (ls : Array Slot), v = r → decode cc pc = .ok (.areturn, 1) → W p l e (RM fr lo) s m args below meth c s.heap [] 0 0 Q (F0 m pc ls [.ref v])) →
      W p l e (RM fr lo) s m args below meth c s.heap [] 0 0 Q (F0 m 0 ls [])) : Rs l D ty y w fr lo av ws F (some (.ref r)) := by
  refine Met.ofW (cc := cc) (maxL := maxL) (ret := some (.object nm)) hy hw ?_
  intro p e s m args below meth c s₁ B hml hv
  obtain ⟨rfl, hP, hK, hF⟩ := hv
  have hl := lv_entry av (n := maxL) hlen
  rw [lg_entry_eq]
  exact body p e s m _ below meth c _ _ B.exec B.bytes hml (findClass_of_methodNamed B.named) (atoms_spec (ws := w) B.pre) hP hK hF hl (fun v pc ls hv hd => W.aret B.exec B.bytes B.returns (Or.inl ⟨_, rfl⟩) (Or.inr ⟨_, rfl⟩) (fun t ht _ => ⟨by rw [hv], ht⟩) (fun q h => by cases h) hd B.notSynchronized)
theorem rs_v {l : Launch} {D : va_G} {ty : List (ClassId × FieldType)} {y : MethodName} {w w' : List Cond} {fr lo : Nat} {av : List Value} {ws : va_W} {F : SFt} {cc : ByteArray} {maxL : Nat}
    (hy : plainName y.cls = true) (hw : w = Cond.code y cc maxL none :: w') (hlen : (lg_sl av).length ≤ maxL)
    (body : ∀ (p : Program) (e : Env) (s : State) (m : MethodId) (args : Array Value) (below : List Frame) (meth : Method) (c : Code) (ls : Array Slot) (Q : State → Prop), p.tables.exec = Jvm.exec → c.code = cc → c.maxLocals = maxL → s.vm.findClass y.cls = some m.cls → (∀ x ∈ w, x.before args s = true) → va_P D vwCl ws s.heap → va_K D vwCl ty s → SF F (fun _ => False) s s.heap → lv_has ls maxL (lv_args 0 av) →
      (∀ (pc : Nat) (ls : Array Slot), decode cc pc = .ok (.return_, 1) → W p l e (RM fr lo) s m args below meth c s.heap [] 0 0 Q (F0 m pc ls [])) →
      W p l e (RM fr lo) s m args below meth c s.heap [] 0 0 Q (F0 m 0 ls [])) : Rs l D ty y w fr lo av ws F none := by
  refine Met.ofW (cc := cc) (maxL := maxL) (ret := none) hy hw ?_
  intro p e s m args below meth c s₁ B hml hv
  obtain ⟨rfl, hP, hK, hF⟩ := hv
  have hl := lv_entry av (n := maxL) hlen
  rw [lg_entry_eq]
  exact body p e s m _ below meth c _ _ B.exec B.bytes hml (findClass_of_methodNamed B.named) (atoms_spec (ws := w) B.pre) hP hK hF hl (fun pc ls hd => W.vret B.exec B.bytes B.returns (fun t ht _ => ⟨rfl, ht⟩) (fun q h => by cases h) hd B.notSynchronized)
theorem ws_v {l : Launch} {D : va_G} {ty : List (ClassId × FieldType)} {y : MethodName} {w w' : List Cond} {fr lo : Nat} {av : List Value} {ws ws' : va_W} {F : SFt} {cc : ByteArray} {maxL : Nat}
    (hy : plainName y.cls = true) (hw : w = Cond.code y cc maxL none :: w') (hlen : (lg_sl av).length ≤ maxL)
    (body : ∀ (p : Program) (e : Env) (s : State) (m : MethodId) (args : Array Value) (below : List Frame) (meth : Method) (c : Code) (ls : Array Slot) (Q : State → Prop) (A : Nat → Prop), p.tables.exec = Jvm.exec → c.code = cc → c.maxLocals = maxL → s.vm.findClass y.cls = some m.cls → (∀ x ∈ w, x.before args s = true) → va_P D vwCl ws s.heap → va_K D vwCl ty s → va_D A ws → va_S A s.heap s.heap [] → SF F A s s.heap → lv_has ls maxL (lv_args 0 av) →
      (∀ (H : Heap) (locs : List Loc) (pc : Nat) (ls : Array Slot), va_S A s.heap H locs → va_P D vwCl ws' H → decode cc pc = .ok (.return_, 1) → W p l e (RM fr lo) s m args below meth c H locs 0 0 Q (F0 m pc ls [])) →
      W p l e (RM fr lo) s m args below meth c s.heap [] 0 0 Q (F0 m 0 ls [])) : Ws l D ty y w fr lo av ws ws' F none := by
  refine Met.ofW (cc := cc) (maxL := maxL) (ret := none) hy hw ?_
  intro p e s m args below meth c s₁ B hml hv
  obtain ⟨rfl, hP, hK, hD, hF⟩ := hv
  have hl := lv_entry av (n := maxL) hlen
  rw [lg_entry_eq]
  exact body p e s m _ below meth c _ _ (inW ws) B.exec B.bytes hml (findClass_of_methodNamed B.named) (atoms_spec (ws := w) B.pre) hP hK (inW_self hD) va_S.rf hF hl (fun H locs pc ls hS hP hd => W.vret B.exec B.bytes B.returns (fun t ht _ => ⟨rfl, by rw [ht]; exact hP, hS.F ht⟩) hS.2.2 hd B.notSynchronized)
theorem ws_i {l : Launch} {D : va_G} {ty : List (ClassId × FieldType)} {y : MethodName} {w w' : List Cond} {fr lo : Nat} {av : List Value} {ws ws' : va_W} {F : SFt} {r : Int32} {cc : ByteArray} {maxL : Nat}
    (hy : plainName y.cls = true) (hw : w = Cond.code y cc maxL (some .int) :: w') (hlen : (lg_sl av).length ≤ maxL)
    (body : ∀ (p : Program) (e : Env) (s : State) (m : MethodId) (args : Array Value) (below : List Frame) (meth : Method) (c : Code) (ls : Array Slot) (Q : State → Prop) (A : Nat → Prop), p.tables.exec = Jvm.exec → c.code = cc → c.maxLocals = maxL → s.vm.findClass y.cls = some m.cls → (∀ x ∈ w, x.before args s = true) → va_P D vwCl ws s.heap → va_K D vwCl ty s → va_D A ws → va_S A s.heap s.heap [] → SF F A s s.heap → lv_has ls maxL (lv_args 0 av) →
      (∀ (H : Heap) (locs : List Loc) (v : Int32) (pc : Nat) (ls : Array Slot), va_S A s.heap H locs → va_P D vwCl ws' H → v = r → decode cc pc = .ok (.ireturn, 1) → W p l e (RM fr lo) s m args below meth c H locs 0 0 Q (F0 m pc ls [.int v])) →
      W p l e (RM fr lo) s m args below meth c s.heap [] 0 0 Q (F0 m 0 ls [])) : Ws l D ty y w fr lo av ws ws' F (some (.int r)) := by
  refine Met.ofW (cc := cc) (maxL := maxL) (ret := (some .int)) hy hw ?_
  intro p e s m args below meth c s₁ B hml hv
  obtain ⟨rfl, hP, hK, hD, hF⟩ := hv
  have hl := lv_entry av (n := maxL) hlen
  rw [lg_entry_eq]
  exact body p e s m _ below meth c _ _ (inW ws) B.exec B.bytes hml (findClass_of_methodNamed B.named) (atoms_spec (ws := w) B.pre) hP hK (inW_self hD) va_S.rf hF hl (fun H locs v pc ls hS hP hv hd => W.iret B.exec B.bytes B.returns (fun t ht _ => ⟨by rw [hv], by rw [ht]; exact hP, hS.F ht⟩) hS.2.2 hd B.notSynchronized)
section GS
variable {p : Program} {l : Launch} {e : Env} {R : Room} {s : State} {m : MethodId} {args : Array Value} {below : List Frame} {meth : Method} {c : Code} {H : Heap} {locs : List Loc} {cells slots : Nat} {Q : State → Prop} {D : va_G} {ty : List (ClassId × FieldType)} {cc : ByteArray} {pc : Nat} {ls : Array Slot} {rest : List Value}
variable {y : MethodName} {bytes : ByteArray} {maxL nL n index fr lo : Nat} {ret : Option FieldType} {w : List Cond} {Ts : List Cond} {own C : String} {b : Addr} {As : List Value} {st0 : List Value} {ws wc wc' ws' : va_W} {ci : Nat} {fs : List Value} {T : u_T} {N : Nat} {oc : Option Value} {A : Nat → Prop} {F : SFt}
theorem qs_go {a : Array Value} (hr : CallRun p l e R s m args below meth c H locs cells slots 0 0 (F0 m pc ls st0) rest (QSv oc a) (fun _ => False))
    (kk : W p l e R s m args below meth c H locs cells slots Q (F0 m (pc + 3) ls (oc.toList ++ rest))) : W p l e R s m args below meth c H locs cells slots Q (F0 m pc ls st0) := by
  intro T hT X
  obtain ⟨v, st₀, t, T', L, h0, X', hL, e1, ⟨hv, hh⟩, st⟩ := hr T hT X
  cases hv
  obtain ⟨t2, a1, b1⟩ := kk T' (by rw [e1, hh, h0]) (Stand.forget X' (fun q h => (hL q h).elim))
  exact ⟨t2, st t2 a1, b1⟩
theorem rs_V (hM : Rs l D ty y w fr lo (.ref b :: As) wc F oc) (S : CallFix p m c cc nL s args Ts own) (cw : CallW R s args own C index y bytes maxL ret w (RM fr lo) 0 0 n) (hK : va_K D vwCl ty s) (hP : va_P D vwCl ws H) (hF : SF F A s s.heap) (hS : va_S A s.heap H locs)
    (is : List Nat) (hi : is.filterMap (fun i => ws[i]?) = wc) (hrec : ∃ cell : Cell, H[b]? = some cell ∧ cell.vm.isStatics = false ∧ s.vm.findClass C = some cell.cls) (hst : st0 = As.reverse ++ .ref b :: rest) (hn : As.length = n) (hsz : ls.size = nL) (hW : (rest.map fun v => v.category).sum ≤ 8) (hdg : decode cc pc = .ok (.invokevirtual index, 3)) (hf : cells ≤ R.cells ∧ slots ≤ R.slots)
    (kk : W p l e R s m args below meth c H locs cells slots Q (F0 m (pc + 3) ls (oc.toList ++ rest))) : W p l e R s m args below meth c H locs cells slots Q (F0 m pc ls st0) := by
  subst hst
  exact qs_go (va_Run.run (va_runV (As := As) (rest := rest) S hM cw ⟨fun a U g mk q => ⟨q.1, q.2.1, va_K.moved (u := U) (U := U.calling g mk a) (Vm.Alike.refl U.vm) q.2.2.1, SF.same (u := U) (U := U.calling g mk a) rfl q.2.2.2⟩, hrec, fun U hU hw => ⟨rfl, by rw [hU]; exact hP.sub is hi, va_K.moved hw.alike hK, hF.at hS hU hw (fun _ h => h.elim)⟩⟩ rfl hn hsz rfl (lv_room hW) hdg hf)) kk
theorem rs_S (hM : Rs l D ty y w fr lo As wc F oc) (S : CallFix p m c cc nL s args Ts own) (cw : CallB R s args own index y bytes maxL ret w (RM fr lo) 0 0 n ∧ (Cond.static y).before args s = true) (hK : va_K D vwCl ty s) (hP : va_P D vwCl ws H) (hF : SF F A s s.heap) (hS : va_S A s.heap H locs)
    (is : List Nat) (hi : is.filterMap (fun i => ws[i]?) = wc) (hst : st0 = As.reverse ++ rest) (hn : As.length = n) (hsz : ls.size = nL) (hW : (rest.map fun v => v.category).sum ≤ 8) (hdg : decode cc pc = .ok (.invokestatic index, 3)) (hf : cells ≤ R.cells ∧ slots ≤ R.slots)
    (kk : W p l e R s m args below meth c H locs cells slots Q (F0 m (pc + 3) ls (oc.toList ++ rest))) : W p l e R s m args below meth c H locs cells slots Q (F0 m pc ls st0) := by
  subst hst
  exact qs_go (va_Run.run (va_runS (As := As) (rest := rest) S hM cw ⟨fun a U g mk q => ⟨q.1, q.2.1, va_K.moved (u := U) (U := U.calling g mk a) (Vm.Alike.refl U.vm) q.2.2.1, SF.same (u := U) (U := U.calling g mk a) rfl q.2.2.2⟩, fun U hU hw => ⟨rfl, by rw [hU]; exact hP.sub is hi, va_K.moved hw.alike hK, hF.at hS hU hw (fun _ h => h.elim)⟩⟩ rfl hn hsz rfl (lv_room hW) hdg hf)) kk
theorem wps_V {H : Heap} (hM : Ws l D ty y w fr lo (.ref b :: As) wc wc' F oc) (S : CallFix p m c cc nL s args Ts own) (cw : CallW R s args own C index y bytes maxL ret w (RM fr lo) 0 0 n) (hK : va_K D vwCl ty s) (hP : va_P D vwCl ws H) (hD : va_D A ws) (hF : SF F A s s.heap) (hS : va_S A s.heap H locs)
    (is isR : List Nat) (hC : is.map (fun i => ws[i]?) = wc.map some) (hC' : is.map (fun i => ws'[i]?) = wc'.map some) (hR : isR.map (fun i => ws'[i]?) = isR.map (fun i => ws[i]?)) (nW : Nat) (hlen : ws'.length = nW) (hcov : covM nW is isR = true) (hdis : isR.all (fun i => !is.contains i) = true) (hadr : ws'.map Prod.fst = ws.map Prod.fst) (hnd : va_nd is = true) (q0 : Nat) (he : ws[q0]? = some (b, .inr (ci, fs))) (hc : vwCl[ci]? = some (C, T, N)) (hst : st0 = As.reverse ++ .ref b :: rest) (hn : As.length = n) (hsz : ls.size = nL) (hW : (rest.map fun v => v.category).sum ≤ 8) (hdg : decode cc pc = .ok (.invokevirtual index, 3)) (hf : cells ≤ R.cells ∧ slots ≤ R.slots)
    (kk : ∀ (H1 : Heap) (locs1 : List Loc), va_P D vwCl ws' H1 → va_D A ws' → va_S A s.heap H1 locs1 → W p l e R s m args below meth c H1 locs1 cells slots Q (F0 m (pc + 3) ls (oc.toList ++ rest))) : W p l e R s m args below meth c H locs cells slots Q (F0 m pc ls st0) := by
  have hPc : va_P D vwCl wc H := fun j q hq => by
    obtain ⟨i, _, h2⟩ := mapSome hC hq
    exact hP i q h2
  have hin : ∀ q, inW wc q → A q := by
    rintro q ⟨j, e1, he⟩
    obtain ⟨i, _, h2⟩ := mapSome hC he
    exact hD.2 i (q, e1) h2
  subst hst
  exact wp_go (va_runV (As := As) (rest := rest) S hM cw ⟨fun a U g mk q => ⟨q.1, q.2.1, va_K.moved (u := U) (U := U.calling g mk a) (Vm.Alike.refl U.vm) q.2.2.1, q.2.2.2.1, SF.same (u := U) (U := U.calling g mk a) rfl q.2.2.2.2⟩, va_recv hK hP hc he, fun U hU hw => ⟨rfl, by rw [hU]; exact hPc, va_K.moved hw.alike hK, (hD.sub is hnd hC).weaken (fun _ _ _ _ => trivial), hF.at hS hU hw hin⟩⟩ rfl hn hsz rfl (lv_room hW) hdg hf) hP hD hS is isR hC hC' hR nW hlen hcov hdis hadr kk
end GS
theorem nI_inj {a b : Nat} (h : nI a = nI b) (ha : a < 2 ^ 31) (hb : b < 2 ^ 31) : a = b := by
  have h1 := congrArg Int32.toInt h
  rw [nI_toInt ha, nI_toInt hb] at h1
  omega
