/-! constructors: cells come, none other changes -/
abbrev RN (fr mc ms lo : Nat) : Room := { frames := fr, cells := mc, slots := ms, locals := lo }
abbrev Nw (l : Launch) (D : va_G) (ty : List (ClassId × FieldType)) (y : MethodName) (w : List Cond) (fr mc ms lo : Nat) (av : List Value) {S : Type} (ws : va_W) (ws' : S → va_W) : Prop :=
  ∀ sz : Nat, Met l y w (RN fr mc ms lo) (va_Pc av (fun U => U.heap.size = sz ∧ va_P D vwCl ws U.heap ∧ va_K D vwCl ty U ∧ va_D (fun _ => True) ws)) (va_Qv (fun _ : S => True) (fun u t => va_P D vwCl (ws' u) t.heap ∧ va_D (va_A ws sz) (ws' u)) (va_A ws sz)) mc ms (va_A ws sz)
theorem nw_v {l : Launch} {D : va_G} {ty : List (ClassId × FieldType)} {y : MethodName} {w w' : List Cond} {fr mc ms lo : Nat} {av : List Value} {S : Type} {ws : va_W} {ws' : S → va_W} {cc : ByteArray} {maxL : Nat}
    (hy : plainName y.cls = true) (hw : w = Cond.code y cc maxL none :: w') (hlen : (lg_sl av).length ≤ maxL) (hnm : y.name = "<init>")
    (body : ∀ (p : Program) (e : Env) (s : State) (m : MethodId) (args : Array Value) (below : List Frame) (meth : Method) (c : Code) (ls : Array Slot) (Q : State → Prop) (A : Nat → Prop), p.tables.exec = Jvm.exec → c.code = cc → c.maxLocals = maxL → s.vm.findClass y.cls = some m.cls → (∀ x ∈ w, x.before args s = true) → meth.name = "<init>" → va_P D vwCl ws s.heap → va_K D vwCl ty s → va_D A ws → va_S A s.heap s.heap [] → (∀ q : Nat, s.heap.size ≤ q → A q) → lv_has ls maxL (lv_args 0 av) →
      (∀ (H : Heap) (locs : List Loc) (pc : Nat) (ls : Array Slot) (u : S), va_S A s.heap H locs → va_P D vwCl (ws' u) H → va_D A (ws' u) → decode cc pc = .ok (.return_, 1) → W p l e (RN fr mc ms lo) s m args below meth c H locs mc ms Q (F0 m pc ls [])) →
      W p l e (RN fr mc ms lo) s m args below meth c s.heap [] 0 0 Q (F0 m 0 ls [])) : Nw l D ty y w fr mc ms lo av ws ws' := by
  intro sz
  refine Met.ofW (cc := cc) (maxL := maxL) (ret := none) hy hw ?_
  intro p e s m args below meth c s₁ B hml hv
  obtain ⟨rfl, hsz, hP, hK, hD0⟩ := hv
  subst hsz
  have hD := hD0.self (sz := s.heap.size)
  have hl := lv_entry av (n := maxL) hlen
  rw [lg_entry_eq]
  exact body p e s m _ below meth c _ _ (va_A ws s.heap.size) B.exec B.bytes hml (findClass_of_methodNamed B.named) (atoms_spec (ws := w) B.pre) ((name_of_methodNamed B.named B.method).1.trans hnm) hP hK hD va_S.rf (fun q h => Or.inr h) hl
    (fun H locs pc ls u hS hP hD hd => W.vret B.exec B.bytes B.returns (fun t ht _ => ⟨⟨u, rfl, trivial, by rw [ht]; exact hP, hD⟩, hS.F ht⟩) hS.2.2 hd B.notSynchronized)
def NF (U : State) : Prop := va_Nw (.methodLinkNest RX8 11 yX6_init "InstalmentDesk") U ∧ va_Nw (.methodLinkNest RX8 18 yX4_init "InstalmentDesk") U ∧ va_Nw (.methodLinkNest RX8 25 yX7_init "InstalmentDesk") U ∧ va_Nw (.methodLinkNest RX8 35 yX1_init "InstalmentDesk") U ∧ va_Nw (.methodLinkNest RX8 42 yX0_init "InstalmentDesk") U ∧ va_Nw (.methodLinkNest RX8 49 yX3_init "InstalmentDesk") U ∧ va_Nw (.methodLinkNest RX8 56 yX2_init "InstalmentDesk") U
abbrev NwN (l : Launch) (D : va_G) (ty : List (ClassId × FieldType)) (y : MethodName) (w : List Cond) (fr mc ms lo : Nat) (av : List Value) {S : Type} (ws : va_W) (ws' : S → va_W) : Prop :=
  ∀ sz : Nat, Met l y w (RN fr mc ms lo) (va_Pc av (fun U => U.heap.size = sz ∧ va_P D vwCl ws U.heap ∧ va_K D vwCl ty U ∧ va_D (fun _ => True) ws ∧ NF U)) (va_Qv (fun _ : S => True) (fun u t => va_P D vwCl (ws' u) t.heap ∧ va_D (va_A ws sz) (ws' u)) (va_A ws sz)) mc ms (va_A ws sz)
theorem nw_vN {l : Launch} {D : va_G} {ty : List (ClassId × FieldType)} {y : MethodName} {w w' : List Cond} {fr mc ms lo : Nat} {av : List Value} {S : Type} {ws : va_W} {ws' : S → va_W} {cc : ByteArray} {maxL : Nat}
    (hy : plainName y.cls = true) (hw : w = Cond.code y cc maxL none :: w') (hlen : (lg_sl av).length ≤ maxL) (hnm : y.name = "<init>")
    (body : ∀ (p : Program) (e : Env) (s : State) (m : MethodId) (args : Array Value) (below : List Frame) (meth : Method) (c : Code) (ls : Array Slot) (Q : State → Prop) (A : Nat → Prop), p.tables.exec = Jvm.exec → c.code = cc → c.maxLocals = maxL → s.vm.findClass y.cls = some m.cls → (∀ x ∈ w, x.before args s = true) → meth.name = "<init>" → va_P D vwCl ws s.heap → va_K D vwCl ty s → NF s → va_D A ws → va_S A s.heap s.heap [] → (∀ q : Nat, s.heap.size ≤ q → A q) → lv_has ls maxL (lv_args 0 av) →
      (∀ (H : Heap) (locs : List Loc) (pc : Nat) (ls : Array Slot) (u : S), va_S A s.heap H locs → va_P D vwCl (ws' u) H → va_D A (ws' u) → decode cc pc = .ok (.return_, 1) → W p l e (RN fr mc ms lo) s m args below meth c H locs mc ms Q (F0 m pc ls [])) →
      W p l e (RN fr mc ms lo) s m args below meth c s.heap [] 0 0 Q (F0 m 0 ls [])) : NwN l D ty y w fr mc ms lo av ws ws' := by
  intro sz
  refine Met.ofW (cc := cc) (maxL := maxL) (ret := none) hy hw ?_
  intro p e s m args below meth c s₁ B hml hv
  obtain ⟨rfl, hsz, hP, hK, hD0, hNF⟩ := hv
  subst hsz
  have hD := hD0.self (sz := s.heap.size)
  have hl := lv_entry av (n := maxL) hlen
  rw [lg_entry_eq]
  exact body p e s m _ below meth c _ _ (va_A ws s.heap.size) B.exec B.bytes hml (findClass_of_methodNamed B.named) (atoms_spec (ws := w) B.pre) ((name_of_methodNamed B.named B.method).1.trans hnm) hP hK hNF hD va_S.rf (fun q h => Or.inr h) hl
    (fun H locs pc ls u hS hP hD hd => W.vret B.exec B.bytes B.returns (fun t ht _ => ⟨⟨u, rfl, trivial, by rw [ht]; exact hP, hD⟩, hS.F ht⟩) hS.2.2 hd B.notSynchronized)
section GN
variable {p : Program} {l : Launch} {e : Env} {R : Room} {s : State} {m : MethodId} {args : Array Value} {below : List Frame} {meth : Method} {c : Code} {H : Heap} {locs : List Loc} {cells slots : Nat} {Q : State → Prop} {D : va_G} {cI cB : ClassId} {cc : ByteArray} {pc : Nat} {ls : Array Slot} {rest : List Value} {A : Nat → Prop} {H0 : Heap} {ws : va_W}
theorem nw_arrI (hx : p.tables.exec = Jvm.exec) (hb : c.code = cc) (harr : (Cond.arrayClass .int).before args s = true) (hK : va_K D vwCl (TY cI cB) s) (hP : va_P D vwCl ws H) (hD : va_D A ws) (hS : va_S A H0 H locs) (hA : ∀ q, H0.size ≤ q → A q) {n : Int32} (N : Nat) (hn : n = nI N) (hN : N ≤ 100000) (hcells : cells + 1 ≤ R.cells) (hslots : slots + N ≤ R.slots) (hdg : decode cc pc = .ok (.newarray .int, 2))
    (kk : ∀ (q : Nat) (H1 : Heap), va_P D vwCl (ws ++ [(q, .inl (cI, N, .inl (fun _ => 0)))]) H1 → va_D A (ws ++ [(q, .inl (cI, N, .inl (fun _ => 0)))]) → va_S A H0 H1 locs → W p l e R s m args below meth c H1 locs (cells + 1) (slots + N) Q (F0 m (pc + 2) ls (.ref q :: rest))) : W p l e R s m args below meth c H locs cells slots Q (F0 m pc ls (.int n :: rest)) := by
  refine va_newa (atype := .int) (ty := .int) (N' := N) (a0 := (N, .inl (fun _ => 0))) hx hb harr rfl hK hP hD hS hA (fun cA => rfl) (by rw [hn]; exact nI_pos (by omega)) (by rw [hn]; exact nI_clamp (by omega)) (by show N * 4 ≤ 536870912; omega) hcells hslots hdg (fun q cA H1 hK2 hP hD hS => ?_)
  have e1 : s.vm.findClass ("[" ++ (FieldType.int).toString) = some cA := (hK2.2 2 (cA, .int) rfl).2
  have e2 : s.vm.findClass ("[" ++ (FieldType.int).toString) = some cI := (hK.2 0 (cI, .int) rfl).2
  have e3 : cA = cI := Option.some.inj (e1.symm.trans e2)
  subst e3
  exact kk q H1 hP hD hS
theorem nw_arrB (hx : p.tables.exec = Jvm.exec) (hb : c.code = cc) (harr : (Cond.arrayClass .byte).before args s = true) (hK : va_K D vwCl (TY cI cB) s) (hP : va_P D vwCl ws H) (hD : va_D A ws) (hS : va_S A H0 H locs) (hA : ∀ q, H0.size ≤ q → A q) {n : Int32} (N : Nat) (hn : n = nI N) (hN : N ≤ 100000) (hcells : cells + 1 ≤ R.cells) (hslots : slots + N ≤ R.slots) (hdg : decode cc pc = .ok (.newarray .byte, 2))
    (kk : ∀ (q : Nat) (H1 : Heap), va_P D vwCl (ws ++ [(q, .inl (cB, N, .inl (fun _ => 0)))]) H1 → va_D A (ws ++ [(q, .inl (cB, N, .inl (fun _ => 0)))]) → va_S A H0 H1 locs → W p l e R s m args below meth c H1 locs (cells + 1) (slots + N) Q (F0 m (pc + 2) ls (.ref q :: rest))) : W p l e R s m args below meth c H locs cells slots Q (F0 m pc ls (.int n :: rest)) := by
  refine va_newa (atype := .byte) (ty := .byte) (N' := N) (a0 := (N, .inl (fun _ => 0))) hx hb harr rfl hK hP hD hS hA (fun cA => rfl) (by rw [hn]; exact nI_pos (by omega)) (by rw [hn]; exact nI_clamp (by omega)) (by show N * 1 ≤ 536870912; omega) hcells hslots hdg (fun q cA H1 hK2 hP hD hS => ?_)
  have e1 : s.vm.findClass ("[" ++ (FieldType.byte).toString) = some cA := (hK2.2 2 (cA, .byte) rfl).2
  have e2 : s.vm.findClass ("[" ++ (FieldType.byte).toString) = some cB := (hK.2 1 (cB, .byte) rfl).2
  have e3 : cA = cB := Option.some.inj (e1.symm.trans e2)
  subst e3
  exact kk q H1 hP hD hS
variable {ty : List (ClassId × FieldType)} {y : MethodName} {bytes : ByteArray} {maxL nL n index fr mc ms lo : Nat} {w : List Cond} {Ts : List Cond} {own C : String} {b : Addr} {As : List Value} {st0 : List Value} {wc wr : va_W} {S' : Type} {wc' : S' → va_W}
theorem nw_I (hM : Nw l D ty y w fr mc ms lo (.ref b :: As) wc wc') (S : CallFix p m c cc nL s args Ts own) (cw : CallB R s args own index y bytes maxL none w (RN fr mc ms lo) mc ms n ∧ y.name = "<init>" ∧ (Cond.instanceMethod y).before args s = true) (hK : va_K D vwCl ty s) (hP : va_P D vwCl ws H) (hD : va_D A ws) (hS : va_S A H0 H locs) (hA : ∀ q, H0.size ≤ q → A q) (isC isR : List Nat) (hC : isC.map (fun i => ws[i]?) = wc.map some) (hR : isR.map (fun i => ws[i]?) = wr.map some) (hnC : va_nd isC = true) (hnR : va_nd isR = true) (hdis : ∀ i ∈ isR, i ∉ isC)
    (hst : st0 = As.reverse ++ .ref b :: rest) (hn : As.length = n) (hsz : ls.size = nL) (hW : (rest.map fun v => v.category).sum ≤ 8) (hdg : decode cc pc = .ok (.invokespecial index, 3)) (hf : cells + mc ≤ R.cells ∧ slots + ms ≤ R.slots)
    (kk : ∀ (u : S') (H1 : Heap) (locs1 : List Loc), va_P D vwCl (wr ++ wc' u) H1 → va_D A (wr ++ wc' u) → va_S A H0 H1 locs1 → W p l e R s m args below meth c H1 locs1 (cells + mc) (slots + ms) Q (F0 m (pc + 3) ls rest)) : W p l e R s m args below meth c H locs cells slots Q (F0 m pc ls st0) := by
  have hPc : va_P D vwCl wc H := fun j q hq => by
    obtain ⟨i, _, h2⟩ := mapSome hC hq
    exact hP i q h2
  have hDc := hD.sub isC hnC hC
  have hFc := va_free hD hS hA isC hC
  subst hst
  refine va_callv (va_runI (As := As) (rest := rest) S (hM H.size) cw ⟨fun a U g mk q => by obtain ⟨q0, q1, qP, qK, qD⟩ := q; exact ⟨q0, q1, qP, va_K.moved (u := U) (U := U.calling g mk a) (Vm.Alike.refl U.vm) qK, qD⟩, fun U hU hW => ⟨rfl, by rw [hU], by rw [hU]; exact hPc, va_K.moved hW.alike hK, hDc.weaken (fun _ _ _ _ => trivial)⟩⟩ rfl hn hsz rfl (lv_room hW) hdg hf) hS (fun q _ h => hFc q h) hFc (fun u t H1 locs1 ht hvm hw hB hz1 hk1 hS => ?_)
  obtain ⟨hP1, hD1⟩ := hB
  rw [ht] at hP1
  obtain ⟨hP, hD⟩ := va_join (wr := wr) (w1 := wc' u) hP hD isC isR hC hR hnR hdis hk1 hFc hP1 hD1
  exact kk u H1 locs1 hP hD hS
theorem nw_IN (hM : Nw l D ty y w fr mc ms lo (.ref b :: As) wc wc') (S : CallFix p m c cc nL s args Ts own) {host : String} (cw : va_CN R s args own index y host bytes maxL none w (RN fr mc ms lo) mc ms n ∧ y.name = "<init>" ∧ (Cond.instanceMethod y).before args s = true) (hK : va_K D vwCl ty s) (hP : va_P D vwCl ws H) (hD : va_D A ws) (hS : va_S A H0 H locs) (hA : ∀ q, H0.size ≤ q → A q) (isC isR : List Nat) (hC : isC.map (fun i => ws[i]?) = wc.map some) (hR : isR.map (fun i => ws[i]?) = wr.map some) (hnC : va_nd isC = true) (hnR : va_nd isR = true) (hdis : ∀ i ∈ isR, i ∉ isC)
    (hst : st0 = As.reverse ++ .ref b :: rest) (hn : As.length = n) (hsz : ls.size = nL) (hW : (rest.map fun v => v.category).sum ≤ 8) (hdg : decode cc pc = .ok (.invokespecial index, 3)) (hf : cells + mc ≤ R.cells ∧ slots + ms ≤ R.slots)
    (kk : ∀ (u : S') (H1 : Heap) (locs1 : List Loc), va_P D vwCl (wr ++ wc' u) H1 → va_D A (wr ++ wc' u) → va_S A H0 H1 locs1 → W p l e R s m args below meth c H1 locs1 (cells + mc) (slots + ms) Q (F0 m (pc + 3) ls rest)) : W p l e R s m args below meth c H locs cells slots Q (F0 m pc ls st0) := by
  have hPc : va_P D vwCl wc H := fun j q hq => by
    obtain ⟨i, _, h2⟩ := mapSome hC hq
    exact hP i q h2
  have hDc := hD.sub isC hnC hC
  have hFc := va_free hD hS hA isC hC
  subst hst
  refine va_callv (va_runIN (As := As) (rest := rest) S (hM H.size) cw ⟨fun a U g mk q => by obtain ⟨q0, q1, qP, qK, qD⟩ := q; exact ⟨q0, q1, qP, va_K.moved (u := U) (U := U.calling g mk a) (Vm.Alike.refl U.vm) qK, qD⟩, fun U hU hW => ⟨rfl, by rw [hU], by rw [hU]; exact hPc, va_K.moved hW.alike hK, hDc.weaken (fun _ _ _ _ => trivial)⟩⟩ rfl hn hsz rfl (lv_room hW) hdg hf) hS (fun q _ h => hFc q h) hFc (fun u t H1 locs1 ht hvm hw hB hz1 hk1 hS => ?_)
  obtain ⟨hP1, hD1⟩ := hB
  rw [ht] at hP1
  obtain ⟨hP, hD⟩ := va_join (wr := wr) (w1 := wc' u) hP hD isC isR hC hR hnR hdis hk1 hFc hP1 hD1
  exact kk u H1 locs1 hP hD hS
theorem g_putF (hx : p.tables.exec = Jvm.exec) (hb : c.code = cc) {a : Nat} {T : u_T} {N ci : Nat} (hts : ∀ w ∈ Ts, w.before args s = true) (hin : ∀ w ∈ u_ws C T N, w ∈ Ts) (ty0 : Nat → FieldType) (hty : ∀ k, k < N → parseFieldDescriptor (T k).2.2.1 = some (ty0 k)) (hnm : ∀ a, a < N → ∀ b, b < N → a ≠ b → (T a).2.1 ≠ (T b).2.1) (hown : s.vm.findClass own = some m.cls) (hK : va_K D vwCl ty s) (hP : va_P D vwCl ws H) (hD : va_D A ws) (hS : va_S A H0 H locs) (q0 k : Nat) {fs : List Value} {v : Value} (he : ws[q0]? = some (a, .inr (ci, fs))) (hc : vwCl[ci]? = some (C, T, N)) (hk : k < N) (hlink : Cond.fieldLink own index (T k).1 (T k).2.1 (T k).2.2.1 ∈ Ts) (hfin : (T k).2.2.2 = true) (hi : meth.name = "<init>") (hdecl : (T k).1 = own) (hn : narrow (ty0 k) v = v) (hfit : fits (ty0 k) v = true) (hl : k < fs.length) (hdg : decode cc pc = .ok (.putfield index, 3)) {ws' : va_W} (hws : ws.set q0 (a, .inr (ci, fs.set k v)) = ws')
    (kk : ∀ (H1 : Heap) (locs1 : List Loc), va_P D vwCl ws' H1 → va_D A ws' → va_S A H0 H1 locs1 → W p l e R s m args below meth c H1 locs1 cells slots Q (F0 m (pc + 3) ls rest)) : W p l e R s m args below meth c H locs cells slots Q (F0 m pc ls (v :: .ref a :: rest)) := by
  subst hws
  exact va_putF hx hb hts hin ty0 hty hnm hown hK hP hD hS q0 he hc k hk (hts _ hlink) (fun _ h => h) hfin hi hdecl (hty k hk) hn hfit hl hdg kk
end GN
theorem max0 (N : Nat) (h : N ≤ 1000) : (if (0 : Int32) < nI N then nI N else 0 : Int32) = nI N := by
  by_cases q : (0 : Int32) < nI N
  · rw [if_pos q]
  · rw [if_neg q]
    rw [Int32.lt_iff_toInt_lt, nI_toInt (by omega)] at q
    have : (0 : Int32).toInt = 0 := rfl
    rw [show N = 0 by omega]; rfl
theorem in_X6_init_6 : ∀ w ∈ wsX60, w ∈ wsX6_init := fun _ h => List.mem_cons_of_mem _ (List.mem_append_right _ (h))
set_option maxHeartbeats 4000000 in
set_option maxRecDepth 100000 in
theorem kX6_init (l : Launch) (D : va_G) (cI cB : ClassId) (h0 : Nat) : Nw l D (TY cI cB) yX6_init wsX6_init 1 1 840 20 [.ref h0] (S := Nat) [(h0, .inr (6, [.null, .int 0]))] (fun u => [(h0, .inr (6, [.ref u, .int 0])), (u, .inl (cB, 840, .inl (fun _ => 0)))]) := by
  refine nw_v (cc := cX6_init) (maxL := 1) (by decide) rfl (Nat.le_of_ble_eq_true rfl) rfl ?_
  intro p_ e_ s_ m_ ar_ be_ me_ co_ ls Q_ A_ hx hb hml hown hts hin_ hP hK hD hS hA_ hl hret
  have hown : s_.vm.findClass RX6 = some m_.cls := hown
  have hl : lv_has ls 1 [(0, .ref h0)] := hl
  refine lv_aload_n hx hb dX6_init_0 rfl (lv_at hl 0 rfl) ?_
  refine W.objInit hx hb hown (hts (.methodLink RX6 1 objectInit) (List.mem_of_getElem? (i := 1) rfl)) (hts (.instanceMethod objectInit) (List.mem_of_getElem? (i := 2) rfl)) (hts (.code objectInit ⟨#[0xb1]⟩ 1 none) (List.mem_of_getElem? (i := 3) rfl)) rfl (by rw [hml]; exact hl.1) rfl dX6_init_1 (Nat.le_of_ble_eq_true rfl) (Nat.le_of_ble_eq_true rfl) ?_
  refine W.eq (g2 := F0 m_ 4 ls []) rfl ?_
  refine lv_aload_n hx hb dX6_init_4 rfl (lv_at hl 0 rfl) ?_
  refine lv_sipush (v := 840) hx hb dX6_init_5 (by decide) ?_
  refine nw_arrB hx hb (hts (.arrayClass .byte) (List.mem_of_getElem? (i := 4) rfl)) hK hP hD hS hA_ 840 rfl (by omega) (by show 0 + 1 ≤ 1; omega) (by show 0 + 840 ≤ 840; omega) dX6_init_8 (fun zq_1 H_ hP hD hS => ?_)
  have hP : va_P D vwCl [(h0, .inr (6, [.null, .int 0])), (zq_1, .inl (cB, 840, .inl (fun _ => 0)))] H_ := hP
  have hD : va_D A_ [(h0, .inr (6, [.null, .int 0])), (zq_1, .inl (cB, 840, .inl (fun _ => 0)))] := hD
  refine W.widen (k := 1) (n := 840) (by omega) (by omega) ?_
  refine g_putF (C := RX6) (T := TX6) (N := 2) (ci := 6) (index := 9) (v := .ref zq_1) (ws' := [(h0, .inr (6, [.ref zq_1, .int 0])), (zq_1, .inl (cB, 840, .inl (fun _ => 0)))]) hx hb hts in_X6_init_6 tyX6 tyX6_ok nmX6 hown hK hP hD hS 0 0 rfl rfl (by decide) (List.mem_of_getElem? (i := 5) rfl) rfl hin_ rfl rfl rfl (Nat.le_of_ble_eq_true rfl) dX6_init_10 rfl (fun H_ lc_ hP hD hS => ?_)
  refine W.widen (k := 1) (n := 840) (by omega) (by omega) ?_
  exact hret _ _ 13 ls (u := (zq_1)) hS hP hD dX6_init_13
theorem in_X4_init_4 : ∀ w ∈ wsX40, w ∈ wsX4_init := fun _ h => List.mem_cons_of_mem _ (List.mem_append_right _ (h))
set_option maxHeartbeats 4000000 in
set_option maxRecDepth 100000 in
theorem kX4_init (l : Launch) (D : va_G) (cI cB : ClassId) (h0 : Nat) : Nw l D (TY cI cB) yX4_init wsX4_init 1 1 3 20 [.ref h0] (S := Nat) [(h0, .inr (4, [.null, .int 0, .int 0, .int 0, .int 0, .int 0, .int 0, .int 0]))] (fun u => [(h0, .inr (4, [.ref u, .int 0, .int 0, .int 0, .int 0, .int 0, .int 0, .int 0])), (u, .inl (cI, 3, .inl (fun _ => 0)))]) := by
  refine nw_v (cc := cX4_init) (maxL := 1) (by decide) rfl (Nat.le_of_ble_eq_true rfl) rfl ?_
  intro p_ e_ s_ m_ ar_ be_ me_ co_ ls Q_ A_ hx hb hml hown hts hin_ hP hK hD hS hA_ hl hret
  have hown : s_.vm.findClass RX4 = some m_.cls := hown
  have hl : lv_has ls 1 [(0, .ref h0)] := hl
  refine lv_aload_n hx hb dX4_init_0 rfl (lv_at hl 0 rfl) ?_
  refine W.objInit hx hb hown (hts (.methodLink RX4 3 objectInit) (List.mem_of_getElem? (i := 1) rfl)) (hts (.instanceMethod objectInit) (List.mem_of_getElem? (i := 2) rfl)) (hts (.code objectInit ⟨#[0xb1]⟩ 1 none) (List.mem_of_getElem? (i := 3) rfl)) rfl (by rw [hml]; exact hl.1) rfl dX4_init_1 (Nat.le_of_ble_eq_true rfl) (Nat.le_of_ble_eq_true rfl) ?_
  refine W.eq (g2 := F0 m_ 4 ls []) rfl ?_
  refine lv_aload_n hx hb dX4_init_4 rfl (lv_at hl 0 rfl) ?_
  refine lv_iconst (v := 3) hx hb dX4_init_5 (by decide) ?_
  refine nw_arrI hx hb (hts (.arrayClass .int) (List.mem_of_getElem? (i := 4) rfl)) hK hP hD hS hA_ 3 rfl (by omega) (by show 0 + 1 ≤ 1; omega) (by show 0 + 3 ≤ 3; omega) dX4_init_6 (fun zq_1 H_ hP hD hS => ?_)
  have hP : va_P D vwCl [(h0, .inr (4, [.null, .int 0, .int 0, .int 0, .int 0, .int 0, .int 0, .int 0])), (zq_1, .inl (cI, 3, .inl (fun _ => 0)))] H_ := hP
  have hD : va_D A_ [(h0, .inr (4, [.null, .int 0, .int 0, .int 0, .int 0, .int 0, .int 0, .int 0])), (zq_1, .inl (cI, 3, .inl (fun _ => 0)))] := hD
  refine W.widen (k := 1) (n := 3) (by omega) (by omega) ?_
  refine g_putF (C := RX4) (T := TX4) (N := 8) (ci := 4) (index := 11) (v := .ref zq_1) (ws' := [(h0, .inr (4, [.ref zq_1, .int 0, .int 0, .int 0, .int 0, .int 0, .int 0, .int 0])), (zq_1, .inl (cI, 3, .inl (fun _ => 0)))]) hx hb hts in_X4_init_4 tyX4 tyX4_ok nmX4 hown hK hP hD hS 0 0 rfl rfl (by decide) (List.mem_of_getElem? (i := 5) rfl) rfl hin_ rfl rfl rfl (Nat.le_of_ble_eq_true rfl) dX4_init_8 rfl (fun H_ lc_ hP hD hS => ?_)
  refine W.widen (k := 1) (n := 3) (by omega) (by omega) ?_
  exact hret _ _ 11 ls (u := (zq_1)) hS hP hD dX4_init_11
theorem in_X1_init_1 : ∀ w ∈ wsX10, w ∈ wsX1_init := fun _ h => List.mem_cons_of_mem _ (List.mem_append_right _ (h))
set_option maxHeartbeats 4000000 in
set_option maxRecDepth 100000 in
theorem kX1_init (l : Launch) (D : va_G) (cI cB : ClassId) (h0 : Nat) : Nw l D (TY cI cB) yX1_init wsX1_init 1 3 12 20 [.ref h0] (S := Nat × Nat × Nat) [(h0, .inr (1, [.null, .null, .null]))] (fun u => [(h0, .inr (1, [.ref u.1, .ref u.2.1, .ref u.2.2])), (u.1, .inl (cI, 4, .inl (fun _ => 0))), (u.2.1, .inl (cI, 4, .inl (fun _ => 0))), (u.2.2, .inl (cI, 4, .inl (fun _ => 0)))]) := by
  refine nw_v (cc := cX1_init) (maxL := 1) (by decide) rfl (Nat.le_of_ble_eq_true rfl) rfl ?_
  intro p_ e_ s_ m_ ar_ be_ me_ co_ ls Q_ A_ hx hb hml hown hts hin_ hP hK hD hS hA_ hl hret
  have hown : s_.vm.findClass RX1 = some m_.cls := hown
  have hl : lv_has ls 1 [(0, .ref h0)] := hl
  refine lv_aload_n hx hb dX1_init_0 rfl (lv_at hl 0 rfl) ?_
  refine W.objInit hx hb hown (hts (.methodLink RX1 3 objectInit) (List.mem_of_getElem? (i := 1) rfl)) (hts (.instanceMethod objectInit) (List.mem_of_getElem? (i := 2) rfl)) (hts (.code objectInit ⟨#[0xb1]⟩ 1 none) (List.mem_of_getElem? (i := 3) rfl)) rfl (by rw [hml]; exact hl.1) rfl dX1_init_1 (Nat.le_of_ble_eq_true rfl) (Nat.le_of_ble_eq_true rfl) ?_
  refine W.eq (g2 := F0 m_ 4 ls []) rfl ?_
  refine lv_aload_n hx hb dX1_init_4 rfl (lv_at hl 0 rfl) ?_
  refine lv_iconst (v := 4) hx hb dX1_init_5 (by decide) ?_
  refine nw_arrI hx hb (hts (.arrayClass .int) (List.mem_of_getElem? (i := 4) rfl)) hK hP hD hS hA_ 4 rfl (by omega) (by show 0 + 1 ≤ 3; omega) (by show 0 + 4 ≤ 12; omega) dX1_init_6 (fun zq_1 H_ hP hD hS => ?_)
  have hP : va_P D vwCl [(h0, .inr (1, [.null, .null, .null])), (zq_1, .inl (cI, 4, .inl (fun _ => 0)))] H_ := hP
  have hD : va_D A_ [(h0, .inr (1, [.null, .null, .null])), (zq_1, .inl (cI, 4, .inl (fun _ => 0)))] := hD
  refine W.widen (k := 1) (n := 4) (by omega) (by omega) ?_
  refine g_putF (C := RX1) (T := TX1) (N := 3) (ci := 1) (index := 9) (v := .ref zq_1) (ws' := [(h0, .inr (1, [.ref zq_1, .null, .null])), (zq_1, .inl (cI, 4, .inl (fun _ => 0)))]) hx hb hts in_X1_init_1 tyX1 tyX1_ok nmX1 hown hK hP hD hS 0 0 rfl rfl (by decide) (List.mem_of_getElem? (i := 5) rfl) rfl hin_ rfl rfl rfl (Nat.le_of_ble_eq_true rfl) dX1_init_8 rfl (fun H_ lc_ hP hD hS => ?_)
  refine lv_aload_n hx hb dX1_init_11 rfl (lv_at hl 0 rfl) ?_
  refine lv_iconst (v := 4) hx hb dX1_init_12 (by decide) ?_
  refine nw_arrI hx hb (hts (.arrayClass .int) (List.mem_of_getElem? (i := 4) rfl)) hK hP hD hS hA_ 4 rfl (by omega) (by show 1 + 1 ≤ 3; omega) (by show 4 + 4 ≤ 12; omega) dX1_init_13 (fun zq_2 H_ hP hD hS => ?_)
  have hP : va_P D vwCl [(h0, .inr (1, [.ref zq_1, .null, .null])), (zq_1, .inl (cI, 4, .inl (fun _ => 0))), (zq_2, .inl (cI, 4, .inl (fun _ => 0)))] H_ := hP
  have hD : va_D A_ [(h0, .inr (1, [.ref zq_1, .null, .null])), (zq_1, .inl (cI, 4, .inl (fun _ => 0))), (zq_2, .inl (cI, 4, .inl (fun _ => 0)))] := hD
  refine W.widen (k := 2) (n := 8) (by omega) (by omega) ?_
  refine g_putF (C := RX1) (T := TX1) (N := 3) (ci := 1) (index := 15) (v := .ref zq_2) (ws' := [(h0, .inr (1, [.ref zq_1, .ref zq_2, .null])), (zq_1, .inl (cI, 4, .inl (fun _ => 0))), (zq_2, .inl (cI, 4, .inl (fun _ => 0)))]) hx hb hts in_X1_init_1 tyX1 tyX1_ok nmX1 hown hK hP hD hS 0 1 rfl rfl (by decide) (List.mem_of_getElem? (i := 6) rfl) rfl hin_ rfl rfl rfl (Nat.le_of_ble_eq_true rfl) dX1_init_15 rfl (fun H_ lc_ hP hD hS => ?_)
  refine lv_aload_n hx hb dX1_init_18 rfl (lv_at hl 0 rfl) ?_
  refine lv_iconst (v := 4) hx hb dX1_init_19 (by decide) ?_
  refine nw_arrI hx hb (hts (.arrayClass .int) (List.mem_of_getElem? (i := 4) rfl)) hK hP hD hS hA_ 4 rfl (by omega) (by show 2 + 1 ≤ 3; omega) (by show 8 + 4 ≤ 12; omega) dX1_init_20 (fun zq_3 H_ hP hD hS => ?_)
  have hP : va_P D vwCl [(h0, .inr (1, [.ref zq_1, .ref zq_2, .null])), (zq_1, .inl (cI, 4, .inl (fun _ => 0))), (zq_2, .inl (cI, 4, .inl (fun _ => 0))), (zq_3, .inl (cI, 4, .inl (fun _ => 0)))] H_ := hP
  have hD : va_D A_ [(h0, .inr (1, [.ref zq_1, .ref zq_2, .null])), (zq_1, .inl (cI, 4, .inl (fun _ => 0))), (zq_2, .inl (cI, 4, .inl (fun _ => 0))), (zq_3, .inl (cI, 4, .inl (fun _ => 0)))] := hD
  refine W.widen (k := 3) (n := 12) (by omega) (by omega) ?_
  refine g_putF (C := RX1) (T := TX1) (N := 3) (ci := 1) (index := 18) (v := .ref zq_3) (ws' := [(h0, .inr (1, [.ref zq_1, .ref zq_2, .ref zq_3])), (zq_1, .inl (cI, 4, .inl (fun _ => 0))), (zq_2, .inl (cI, 4, .inl (fun _ => 0))), (zq_3, .inl (cI, 4, .inl (fun _ => 0)))]) hx hb hts in_X1_init_1 tyX1 tyX1_ok nmX1 hown hK hP hD hS 0 2 rfl rfl (by decide) (List.mem_of_getElem? (i := 7) rfl) rfl hin_ rfl rfl rfl (Nat.le_of_ble_eq_true rfl) dX1_init_22 rfl (fun H_ lc_ hP hD hS => ?_)
  refine W.widen (k := 3) (n := 12) (by omega) (by omega) ?_
  exact hret _ _ 25 ls (u := (zq_1, zq_2, zq_3)) hS hP hD dX1_init_25
theorem in_X0_init_0 : ∀ w ∈ wsX00, w ∈ wsX0_init := fun _ h => List.mem_cons_of_mem _ (List.mem_append_right _ (h))
set_option maxHeartbeats 4000000 in
set_option maxRecDepth 100000 in
theorem kX0_init (l : Launch) (D : va_G) (cI cB : ClassId) (h0 : Nat) : Nw l D (TY cI cB) yX0_init wsX0_init 1 2 1000 20 [.ref h0] (S := Nat × Nat) [(h0, .inr (0, [.null, .null]))] (fun u => [(h0, .inr (0, [.ref u.1, .ref u.2])), (u.1, .inl (cI, 500, .inl (fun _ => 0))), (u.2, .inl (cI, 500, .inl (fun _ => 0)))]) := by
  refine nw_v (cc := cX0_init) (maxL := 1) (by decide) rfl (Nat.le_of_ble_eq_true rfl) rfl ?_
  intro p_ e_ s_ m_ ar_ be_ me_ co_ ls Q_ A_ hx hb hml hown hts hin_ hP hK hD hS hA_ hl hret
  have hown : s_.vm.findClass RX0 = some m_.cls := hown
  have hl : lv_has ls 1 [(0, .ref h0)] := hl
  refine lv_aload_n hx hb dX0_init_0 rfl (lv_at hl 0 rfl) ?_
  refine W.objInit hx hb hown (hts (.methodLink RX0 3 objectInit) (List.mem_of_getElem? (i := 1) rfl)) (hts (.instanceMethod objectInit) (List.mem_of_getElem? (i := 2) rfl)) (hts (.code objectInit ⟨#[0xb1]⟩ 1 none) (List.mem_of_getElem? (i := 3) rfl)) rfl (by rw [hml]; exact hl.1) rfl dX0_init_1 (Nat.le_of_ble_eq_true rfl) (Nat.le_of_ble_eq_true rfl) ?_
  refine W.eq (g2 := F0 m_ 4 ls []) rfl ?_
  refine lv_aload_n hx hb dX0_init_4 rfl (lv_at hl 0 rfl) ?_
  refine lv_sipush (v := 500) hx hb dX0_init_5 (by decide) ?_
  refine nw_arrI hx hb (hts (.arrayClass .int) (List.mem_of_getElem? (i := 4) rfl)) hK hP hD hS hA_ 500 rfl (by omega) (by show 0 + 1 ≤ 2; omega) (by show 0 + 500 ≤ 1000; omega) dX0_init_8 (fun zq_1 H_ hP hD hS => ?_)
  have hP : va_P D vwCl [(h0, .inr (0, [.null, .null])), (zq_1, .inl (cI, 500, .inl (fun _ => 0)))] H_ := hP
  have hD : va_D A_ [(h0, .inr (0, [.null, .null])), (zq_1, .inl (cI, 500, .inl (fun _ => 0)))] := hD
  refine W.widen (k := 1) (n := 500) (by omega) (by omega) ?_
  refine g_putF (C := RX0) (T := TX0) (N := 2) (ci := 0) (index := 9) (v := .ref zq_1) (ws' := [(h0, .inr (0, [.ref zq_1, .null])), (zq_1, .inl (cI, 500, .inl (fun _ => 0)))]) hx hb hts in_X0_init_0 tyX0 tyX0_ok nmX0 hown hK hP hD hS 0 0 rfl rfl (by decide) (List.mem_of_getElem? (i := 5) rfl) rfl hin_ rfl rfl rfl (Nat.le_of_ble_eq_true rfl) dX0_init_10 rfl (fun H_ lc_ hP hD hS => ?_)
  refine lv_aload_n hx hb dX0_init_13 rfl (lv_at hl 0 rfl) ?_
  refine lv_sipush (v := 500) hx hb dX0_init_14 (by decide) ?_
  refine nw_arrI hx hb (hts (.arrayClass .int) (List.mem_of_getElem? (i := 4) rfl)) hK hP hD hS hA_ 500 rfl (by omega) (by show 1 + 1 ≤ 2; omega) (by show 500 + 500 ≤ 1000; omega) dX0_init_17 (fun zq_2 H_ hP hD hS => ?_)
  have hP : va_P D vwCl [(h0, .inr (0, [.ref zq_1, .null])), (zq_1, .inl (cI, 500, .inl (fun _ => 0))), (zq_2, .inl (cI, 500, .inl (fun _ => 0)))] H_ := hP
  have hD : va_D A_ [(h0, .inr (0, [.ref zq_1, .null])), (zq_1, .inl (cI, 500, .inl (fun _ => 0))), (zq_2, .inl (cI, 500, .inl (fun _ => 0)))] := hD
  refine W.widen (k := 2) (n := 1000) (by omega) (by omega) ?_
  refine g_putF (C := RX0) (T := TX0) (N := 2) (ci := 0) (index := 15) (v := .ref zq_2) (ws' := [(h0, .inr (0, [.ref zq_1, .ref zq_2])), (zq_1, .inl (cI, 500, .inl (fun _ => 0))), (zq_2, .inl (cI, 500, .inl (fun _ => 0)))]) hx hb hts in_X0_init_0 tyX0 tyX0_ok nmX0 hown hK hP hD hS 0 1 rfl rfl (by decide) (List.mem_of_getElem? (i := 6) rfl) rfl hin_ rfl rfl rfl (Nat.le_of_ble_eq_true rfl) dX0_init_19 rfl (fun H_ lc_ hP hD hS => ?_)
  refine W.widen (k := 2) (n := 1000) (by omega) (by omega) ?_
  exact hret _ _ 22 ls (u := (zq_1, zq_2)) hS hP hD dX0_init_22
set_option maxHeartbeats 4000000 in
set_option maxRecDepth 100000 in
theorem kX3_init (l : Launch) (D : va_G) (cI cB : ClassId) (h0 : Nat) : Nw l D (TY cI cB) yX3_init wsX3_init 1 0 0 20 [.ref h0] (S := Unit) [(h0, .inr (3, [.int 0, .int 0, .int 0, .int 0, .int 0, .int 0]))] (fun u => [(h0, .inr (3, [.int 0, .int 0, .int 0, .int 0, .int 0, .int 0]))]) := by
  refine nw_v (cc := cX3_init) (maxL := 1) (by decide) rfl (Nat.le_of_ble_eq_true rfl) rfl ?_
  intro p_ e_ s_ m_ ar_ be_ me_ co_ ls Q_ A_ hx hb hml hown hts hin_ hP hK hD hS hA_ hl hret
  have hown : s_.vm.findClass RX3 = some m_.cls := hown
  have hl : lv_has ls 1 [(0, .ref h0)] := hl
  refine lv_aload_n hx hb dX3_init_0 rfl (lv_at hl 0 rfl) ?_
  refine W.objInit hx hb hown (hts (.methodLink RX3 3 objectInit) (List.mem_of_getElem? (i := 1) rfl)) (hts (.instanceMethod objectInit) (List.mem_of_getElem? (i := 2) rfl)) (hts (.code objectInit ⟨#[0xb1]⟩ 1 none) (List.mem_of_getElem? (i := 3) rfl)) rfl (by rw [hml]; exact hl.1) rfl dX3_init_1 (Nat.le_of_ble_eq_true rfl) (Nat.le_of_ble_eq_true rfl) ?_
  refine W.eq (g2 := F0 m_ 4 ls []) rfl ?_
  refine W.widen (k := 0) (n := 0) (by omega) (by omega) ?_
  exact hret _ _ 4 ls (u := ()) hS hP hD dX3_init_4
theorem in_X2_init_2 : ∀ w ∈ wsX20, w ∈ wsX2_init := fun _ h => List.mem_cons_of_mem _ (List.mem_append_right _ (h))
set_option maxHeartbeats 4000000 in
set_option maxRecDepth 100000 in
theorem kX2_init (l : Launch) (D : va_G) (cI cB : ClassId) (h0 : Nat) : Nw l D (TY cI cB) yX2_init wsX2_init 1 1 12 20 [.ref h0] (S := Nat) [(h0, .inr (2, [.null, .int 0]))] (fun u => [(h0, .inr (2, [.ref u, .int 0])), (u, .inl (cI, 12, .inl (fun _ => 0)))]) := by
  refine nw_v (cc := cX2_init) (maxL := 1) (by decide) rfl (Nat.le_of_ble_eq_true rfl) rfl ?_
  intro p_ e_ s_ m_ ar_ be_ me_ co_ ls Q_ A_ hx hb hml hown hts hin_ hP hK hD hS hA_ hl hret
  have hown : s_.vm.findClass RX2 = some m_.cls := hown
  have hl : lv_has ls 1 [(0, .ref h0)] := hl
  refine lv_aload_n hx hb dX2_init_0 rfl (lv_at hl 0 rfl) ?_
  refine W.objInit hx hb hown (hts (.methodLink RX2 1 objectInit) (List.mem_of_getElem? (i := 1) rfl)) (hts (.instanceMethod objectInit) (List.mem_of_getElem? (i := 2) rfl)) (hts (.code objectInit ⟨#[0xb1]⟩ 1 none) (List.mem_of_getElem? (i := 3) rfl)) rfl (by rw [hml]; exact hl.1) rfl dX2_init_1 (Nat.le_of_ble_eq_true rfl) (Nat.le_of_ble_eq_true rfl) ?_
  refine W.eq (g2 := F0 m_ 4 ls []) rfl ?_
  refine lv_aload_n hx hb dX2_init_4 rfl (lv_at hl 0 rfl) ?_
  refine lv_bipush (v := 12) hx hb dX2_init_5 (by decide) ?_
  refine nw_arrI hx hb (hts (.arrayClass .int) (List.mem_of_getElem? (i := 4) rfl)) hK hP hD hS hA_ 12 rfl (by omega) (by show 0 + 1 ≤ 1; omega) (by show 0 + 12 ≤ 12; omega) dX2_init_7 (fun zq_1 H_ hP hD hS => ?_)
  have hP : va_P D vwCl [(h0, .inr (2, [.null, .int 0])), (zq_1, .inl (cI, 12, .inl (fun _ => 0)))] H_ := hP
  have hD : va_D A_ [(h0, .inr (2, [.null, .int 0])), (zq_1, .inl (cI, 12, .inl (fun _ => 0)))] := hD
  refine W.widen (k := 1) (n := 12) (by omega) (by omega) ?_
  refine g_putF (C := RX2) (T := TX2) (N := 2) (ci := 2) (index := 9) (v := .ref zq_1) (ws' := [(h0, .inr (2, [.ref zq_1, .int 0])), (zq_1, .inl (cI, 12, .inl (fun _ => 0)))]) hx hb hts in_X2_init_2 tyX2 tyX2_ok nmX2 hown hK hP hD hS 0 0 rfl rfl (by decide) (List.mem_of_getElem? (i := 5) rfl) rfl hin_ rfl rfl rfl (Nat.le_of_ble_eq_true rfl) dX2_init_9 rfl (fun H_ lc_ hP hD hS => ?_)
  refine W.widen (k := 1) (n := 12) (by omega) (by omega) ?_
  exact hret _ _ 12 ls (u := (zq_1)) hS hP hD dX2_init_12
theorem in_X5_init_5 : ∀ w ∈ wsX50, w ∈ wsX5_init := fun _ h => List.mem_cons_of_mem _ (List.mem_append_right _ (h))
set_option maxHeartbeats 4000000 in
set_option maxRecDepth 100000 in
theorem kX5_init (l : Launch) (D : va_G) (cI cB : ClassId) (h0 : Nat) (N : Nat) (hN : N ≤ 1000) : Nw l D (TY cI cB) yX5_init wsX5_init 1 2 (N + N) 21 [.ref h0, .int (nI N)] (S := Nat × Nat) [(h0, .inr (5, [.null, .null, .int 0]))] (fun u => [(h0, .inr (5, [.ref u.1, .ref u.2, .int 0])), (u.1, .inl (cI, N, .inl (fun _ => 0))), (u.2, .inl (cI, N, .inl (fun _ => 0)))]) := by
  refine nw_v (cc := cX5_init) (maxL := 3) (by decide) rfl (Nat.le_of_ble_eq_true rfl) rfl ?_
  intro p_ e_ s_ m_ ar_ be_ me_ co_ ls Q_ A_ hx hb hml hown hts hin_ hP hK hD hS hA_ hl hret
  have hown : s_.vm.findClass RX5 = some m_.cls := hown
  have hl : lv_has ls 3 [(0, .ref h0), (1, .int (nI N))] := hl
  refine lv_aload_n hx hb dX5_init_0 rfl (lv_at hl 0 rfl) ?_
  refine W.objInit hx hb hown (hts (.methodLink RX5 3 objectInit) (List.mem_of_getElem? (i := 1) rfl)) (hts (.instanceMethod objectInit) (List.mem_of_getElem? (i := 2) rfl)) (hts (.code objectInit ⟨#[0xb1]⟩ 1 none) (List.mem_of_getElem? (i := 3) rfl)) rfl (by rw [hml]; exact hl.1) rfl dX5_init_1 (Nat.le_of_ble_eq_true rfl) (Nat.le_of_ble_eq_true rfl) ?_
  refine W.eq (g2 := F0 m_ 4 ls []) rfl ?_
  refine lv_iconst (v := 0) hx hb dX5_init_4 (by decide) ?_
  refine lv_iload_n hx hb dX5_init_5 rfl (lv_at hl 1 rfl) ?_
  refine va_mmax hx hb (hml.trans hl.1.symm) hown (hts (.methodLink RX5 9 Lib.Math.max.name) (List.mem_of_getElem? (i := 4) rfl)) (hts (.static Lib.Math.max.name) (List.mem_of_getElem? (i := 5) rfl)) (hts (.initialized "java/lang/Math") (List.mem_of_getElem? (i := 6) rfl)) (hts (.code Lib.Math.max.name Lib.Math.max.code 2 (some .int)) (List.mem_of_getElem? (i := 7) rfl)) (Nat.le_of_ble_eq_true rfl) (Nat.le_of_ble_eq_true rfl) (Nat.zero_le _) (Nat.zero_le _) dX5_init_6 ?_
  rw [show (if (0 : Int32) < nI N then nI N else 0 : Int32) = nI N from max0 N hN]
  refine lv_istore_n (lv' := [(2, .int (nI N)), (0, .ref h0), (1, .int (nI N))]) hx hb dX5_init_9 rfl hl (by decide) rfl (fun ls hl => ?_)
  refine lv_aload_n hx hb dX5_init_10 rfl (lv_at hl 1 rfl) ?_
  refine lv_iload_n hx hb dX5_init_11 rfl (lv_at hl 0 rfl) ?_
  refine nw_arrI hx hb (hts (.arrayClass .int) (List.mem_of_getElem? (i := 8) rfl)) hK hP hD hS hA_ N rfl (by omega) (by show 0 + 1 ≤ 2; omega) (by show 0 + N ≤ N + N; omega) dX5_init_12 (fun zq_1 H_ hP hD hS => ?_)
  have hP : va_P D vwCl [(h0, .inr (5, [.null, .null, .int 0])), (zq_1, .inl (cI, N, .inl (fun _ => 0)))] H_ := hP
  have hD : va_D A_ [(h0, .inr (5, [.null, .null, .int 0])), (zq_1, .inl (cI, N, .inl (fun _ => 0)))] := hD
  refine W.widen (k := 1) (n := N) (by omega) (by omega) ?_
  refine g_putF (C := RX5) (T := TX5) (N := 3) (ci := 5) (index := 15) (v := .ref zq_1) (ws' := [(h0, .inr (5, [.ref zq_1, .null, .int 0])), (zq_1, .inl (cI, N, .inl (fun _ => 0)))]) hx hb hts in_X5_init_5 tyX5 tyX5_ok nmX5 hown hK hP hD hS 0 0 rfl rfl (by decide) (List.mem_of_getElem? (i := 9) rfl) rfl hin_ rfl rfl rfl (Nat.le_of_ble_eq_true rfl) dX5_init_14 rfl (fun H_ lc_ hP hD hS => ?_)
  refine lv_aload_n hx hb dX5_init_17 rfl (lv_at hl 1 rfl) ?_
  refine lv_iload_n hx hb dX5_init_18 rfl (lv_at hl 0 rfl) ?_
  refine nw_arrI hx hb (hts (.arrayClass .int) (List.mem_of_getElem? (i := 8) rfl)) hK hP hD hS hA_ N rfl (by omega) (by show 1 + 1 ≤ 2; omega) (by show N + N ≤ N + N; omega) dX5_init_19 (fun zq_2 H_ hP hD hS => ?_)
  have hP : va_P D vwCl [(h0, .inr (5, [.ref zq_1, .null, .int 0])), (zq_1, .inl (cI, N, .inl (fun _ => 0))), (zq_2, .inl (cI, N, .inl (fun _ => 0)))] H_ := hP
  have hD : va_D A_ [(h0, .inr (5, [.ref zq_1, .null, .int 0])), (zq_1, .inl (cI, N, .inl (fun _ => 0))), (zq_2, .inl (cI, N, .inl (fun _ => 0)))] := hD
  refine W.widen (k := 2) (n := N + N) (by omega) (by omega) ?_
  refine g_putF (C := RX5) (T := TX5) (N := 3) (ci := 5) (index := 21) (v := .ref zq_2) (ws' := [(h0, .inr (5, [.ref zq_1, .ref zq_2, .int 0])), (zq_1, .inl (cI, N, .inl (fun _ => 0))), (zq_2, .inl (cI, N, .inl (fun _ => 0)))]) hx hb hts in_X5_init_5 tyX5 tyX5_ok nmX5 hown hK hP hD hS 0 1 rfl rfl (by decide) (List.mem_of_getElem? (i := 10) rfl) rfl hin_ rfl rfl rfl (Nat.le_of_ble_eq_true rfl) dX5_init_21 rfl (fun H_ lc_ hP hD hS => ?_)
  refine W.widen (k := 2) (n := N + N) (by omega) (by omega) ?_
  exact hret _ _ 24 ls (u := (zq_1, zq_2)) hS hP hD dX5_init_24
