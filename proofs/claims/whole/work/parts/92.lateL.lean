/-! the law's late: it catches -/
abbrev TY3 (cI cB cL : ClassId) : List (ClassId × FieldType) := [(cI, .int), (cB, .byte), (cL, .long)]
def QLt (D : va_G) {S : Type} (ws : va_W) (ws' : S → va_W) (ou : Nat) (cL : ClassId) (f : Nat → Int64) (ok : Prop) (r : Int32) : Array Value → State → Outcome → State → Prop := fun _ st o t =>
  ((ok ∧ o = .returned (some (.int 0)) ∧ ∃ u : S, va_P D vwCl (ws' u ++ [(ou, .inl (cL, 1, .inr (.inl (vp_updL f 0 r.toInt64))))]) t.heap) ∨ (¬ ok ∧ o = .returned (some (.int 1)) ∧ ∃ u : S, va_P D vwCl (ws' u ++ [(ou, .inl (cL, 1, .inr (.inl f)))]) t.heap)) ∧ va_F (inW (ws ++ [(ou, .inl (cL, 1, .inr (.inl f)))])) st t
section WXG
variable {p : Program} {l : Launch} {e : Env} {R : Room} {s : State} {m : MethodId} {args : Array Value} {below : List Frame} {meth : Method} {c : Code} {H : Heap} {locs : List Loc} {cells slots : Nat} {Q : State → Prop} {D : va_G} {pc : Nat} {ls : Array Slot} {rest st0 : List Value} {A : Nat → Prop} {H0 : Heap} {a : Array Value} {S : Type} {ws wr : va_W} {ws' : S → va_W} {ok : Prop} {r : Int32}
theorem wx_join {u : S} {H1 : Heap} (hP : va_P D vwCl (ws ++ wr) H) (hD : va_D A (ws ++ wr)) (hadr : (ws' u).map Prod.fst = ws.map Prod.fst) (hk : ∀ q : Nat, q < H.size → ¬ inW ws q → H1[q]? = H[q]?) (hp : va_P D vwCl (ws' u) H1) : va_P D vwCl (ws' u ++ wr) H1 ∧ va_D A (ws' u ++ wr) := by
  refine ⟨hp.app (fun j q hj => ?_), adr_D hD (by rw [List.map_append, List.map_append, hadr])⟩
  have hj2 : (ws ++ wr)[ws.length + j]? = some q := by rw [List.getElem?_append_right (Nat.le_add_right _ _), Nat.add_sub_cancel_left]; exact hj
  have hq := hP _ q hj2
  refine hq.kept (hk q.1 hq.lt ?_)
  rintro ⟨k, e1, he⟩
  have hlt : k < ws.length := (List.getElem?_eq_some_iff.mp he).1
  have he2 : (ws ++ wr)[k]? = some (q.1, e1) := by rw [List.getElem?_append_left hlt]; exact he
  have := hD.1 k (ws.length + j) (q.1, e1) q he2 hj2 rfl
  omega
theorem wx_go (hr : vx_Run p l e R s m args below meth c H locs cells slots 1 6 (F0 m pc ls st0) rest (QX D ws ws' ok r a) (XX D ws ws' ok) (inW ws)) (hP : va_P D vwCl (ws ++ wr) H) (hD : va_D A (ws ++ wr)) (hS : va_S A H0 H locs) (hadr : ∀ u, (ws' u).map Prod.fst = ws.map Prod.fst)
    (kk : ok → ∀ (u : S) (H1 : Heap) (locs1 : List Loc), va_P D vwCl (ws' u ++ wr) H1 → va_D A (ws' u ++ wr) → va_S A H0 H1 locs1 → W p l e R s m args below meth c H1 locs1 (cells + 1) (slots + 6) Q (F0 m (pc + 3) ls (.int r :: rest)))
    (kx : ¬ ok → ∀ (u : S) (H1 : Heap) (locs1 : List Loc) (q9 : Addr) (ce : Cell), va_P D vwCl (ws' u ++ wr) H1 → va_D A (ws' u ++ wr) → va_S A H0 H1 locs1 → H1[q9]? = some ce → ce.vm = .none → s.vm.findClass nsE = some ce.cls → vx_W p l e R s m args below meth c H1 locs1 (cells + 1) (slots + 6) Q (F0 m pc ls rest) q9) : W p l e R s m args below meth c H locs cells slots Q (F0 m pc ls st0) := by
  have hin : ∀ q, inW ws q → A q := by
    rintro q ⟨j, e1, he⟩
    have hlt : j < ws.length := (List.getElem?_eq_some_iff.mp he).1
    exact hD.2 j (q, e1) (by rw [List.getElem?_append_left hlt]; exact he)
  intro T hT X
  rcases hr T hT X with ⟨v, st₀, t, T', L, h0, X', hL, e1, e2, ⟨hok, hv, ⟨u, hp⟩, hF⟩, st⟩ | ⟨q, st₀, t, T', L, E, ce, h0, X', hL, e1, e2, ⟨hE, hno, ⟨u, hp⟩, hF⟩, hce, hcv, hcl, st⟩
  · cases hv
    obtain ⟨k1, k2, k3⟩ := vx_keep h0 e1 hS (fun q _ h => hin q h) hin hL hF
    rw [← e1] at hp
    obtain ⟨j1, j2⟩ := wx_join hP hD (hadr u) k2 hp
    obtain ⟨t2, a1, b1⟩ := kk hok u T'.heap (locs ++ L) j1 j2 k3 T' rfl X'
    exact ⟨t2, st t2 a1, b1⟩
  · subst hE
    obtain ⟨k1, k2, k3⟩ := vx_keep h0 e1 hS (fun q _ h => hin q h) hin hL hF
    rw [← e1] at hp
    obtain ⟨j1, j2⟩ := wx_join hP hD (hadr u) k2 hp
    obtain ⟨t2, a1, b1⟩ := kx hno u T'.heap (locs ++ L) q ce j1 j2 k3 (by rw [e1]; exact hce) hcv hcl T' rfl X'
    exact ⟨t2, st.trans a1, b1⟩
end WXG
set_option maxHeartbeats 4000000 in
set_option maxRecDepth 100000 in
theorem kL_late (l : Launch) (D : va_G) (cI cB cL : ClassId) {S : Type} {ws : va_W} {ws' : S → va_W} {x1 x2 x0 ou fr lo : Nat} {i w : Int32} {f : Nat → Int64} {ok : Prop} {r : Int32} {fs : List Value} (hM : Wx l D (TY cI cB) yX8_late wsX8_late fr lo [.ref x0, .int i, .int w] ws ws' x1 x2 ok r) (h0 : ws[0]? = some (x0, .inr (8, fs))) (hadr : ∀ u, (ws' u).map Prod.fst = ws.map Prod.fst) :
    vx_Met l yL_late wsL_late (RX (fr + 1) (lo + 22)) (va_Pc [.ref x0, .int i, .int w, .ref ou] (fun U => va_P D vwCl (ws ++ [(ou, .inl (cL, 1, .inr (.inl f)))]) U.heap ∧ va_K D vwCl (TY3 cI cB cL) U ∧ va_D (fun _ => True) (ws ++ [(ou, .inl (cL, 1, .inr (.inl f)))]) ∧ XF x1 x2 (inW (ws ++ [(ou, .inl (cL, 1, .inr (.inl f)))])) U U.heap)) (QLt D ws ws' ou cL f ok r) (fun _ _ _ => False) 1 6 (inW (ws ++ [(ou, .inl (cL, 1, .inr (.inl f)))])) := by
  refine vx_ofWH (cc := cL_late) (maxL := 5) (ret := some .int) (hh := [(0, 10, 13, 13)]) (by decide) rfl ?_
  intro p e s m args below meth c s₁ B hml hv
  obtain ⟨rfl, hP, hK, hD0, hF⟩ := hv
  have hx := B.exec
  have hb := B.bytes
  have hts := atoms_spec (ws := wsL_late) B.pre
  have hown : s.vm.findClass RL = some m.cls := findClass_of_methodNamed B.named
  have htab := vx_table (x := yL_late) B (hts (.codeWith yL_late cL_late 5 (some .int) [(0, 10, 13, 13)]) List.mem_cons_self)
  have hl := lv_entry [.ref x0, .int i, .int w, .ref ou] (n := 5) (Nat.le_of_ble_eq_true rfl)
  rw [lg_entry_eq]
  generalize (lg_sl [.ref x0, .int i, .int w, .ref ou] ++ List.replicate (5 - (lg_sl [.ref x0, .int i, .int w, .ref ou]).length) Slot.unset).toArray = ls at hl ⊢
  have hl : lv_has ls 5 [(0, .ref x0), (1, .int i), (2, .int w), (3, .ref ou)] := hl
  have hD : va_D (inW (ws ++ [(ou, .inl (cL, 1, .inr (.inl f)))])) (ws ++ [(ou, .inl (cL, 1, .inr (.inl f)))]) := inW_self hD0
  have hS : va_S (inW (ws ++ [(ou, .inl (cL, 1, .inr (.inl f)))])) s.heap s.heap [] := va_S.rf
  have hK2 : va_K D vwCl (TY cI cB) s := hK.sub [0, 1] rfl
  have hlen : 0 < ws.length := (List.getElem?_eq_some_iff.mp h0).1
  have hPc : va_P D vwCl ws s.heap := fun j q hq => hP j q (by rw [List.getElem?_append_left (List.getElem?_eq_some_iff.mp hq).1]; exact hq)
  have hDc : va_D (fun _ => True) ws := ⟨fun i j x y hi hj hxy => hD0.1 i j x y (by rw [List.getElem?_append_left (List.getElem?_eq_some_iff.mp hi).1]; exact hi) (by rw [List.getElem?_append_left (List.getElem?_eq_some_iff.mp hj).1]; exact hj) hxy, fun _ _ _ => trivial⟩
  have hin : ∀ q, inW ws q → inW (ws ++ [(ou, .inl (cL, 1, .inr (.inl f)))]) q := by
    rintro q ⟨j, e1, he⟩
    exact ⟨j, e1, by rw [List.getElem?_append_left (List.getElem?_eq_some_iff.mp he).1]; exact he⟩
  refine lv_aload_n hx hb dL_late_0 rfl (lv_at hl 3 rfl) ?_
  refine lv_iconst (v := 0) hx hb dL_late_1 (by decide) ?_
  refine lv_aload_n hx hb dL_late_2 rfl (lv_at hl 0 rfl) ?_
  refine lv_iload_n hx hb dL_late_3 rfl (lv_at hl 1 rfl) ?_
  refine lv_iload_n hx hb dL_late_4 rfl (lv_at hl 2 rfl) ?_
  refine wx_go (wr := [(ou, .inl (cL, 1, .inr (.inl f)))]) (rest := [.int 0, .ref ou]) (vx_runV (As := [.int i, .int w]) (rest := [.int 0, .ref ou]) ⟨hx, hb, hml, hown, hts⟩ hM (cwV 2 hts gL_late_X8_late rfl rfl rfl (by decide +kernel) ⟨Nat.le_refl _, by show 8 + (3 + 11) + lo ≤ lo + 22; omega⟩) ⟨fun a U g mk q => ⟨q.1, q.2.1, va_K.moved (u := U) (U := U.calling g mk a) (Vm.Alike.refl U.vm) q.2.2.1, q.2.2.2.1, XF.same (u := U) (U := U.calling g mk a) rfl q.2.2.2.2⟩, va_recv (ci := 8) (q0 := 0) hK2 hPc rfl h0, fun U hU hw => ⟨rfl, by rw [hU]; exact hPc, va_K.moved hw.alike hK2, hDc, XF.at hF hS hU hw hin⟩⟩ rfl rfl hl.1 rfl (lv_room (Nat.le_of_ble_eq_true rfl)) dL_late_5 ⟨Nat.le_refl _, Nat.le_refl _⟩) hP hD hS hadr ?_ ?_
  · intro hok u H1 locs1 hP1 hD1 hS1
    have hou : (ws' u ++ [((ou, .inl (cL, 1, .inr (.inl f))) : Nat × va_E)])[(ws' u).length]? = some (ou, .inl (cL, 1, .inr (.inl f))) := by rw [List.getElem?_append_right (Nat.le_refl _), Nat.sub_self]; rfl
    refine lv_i2l (v := r.toInt64) hx hb dL_late_8 rfl ?_
    refine va_last hx hb hK hP1 hD1 hS1 (ws' u).length 2 hou rfl (vp_in_nI (n := 0) (by omega) (by omega)) dL_late_9 (fun H2 locs2 hP2 hD2 hS2 => ?_)
    have es : (ws' u ++ [((ou, .inl (cL, 1, .inr (.inl f))) : Nat × va_E)]).set (ws' u).length (ou, .inl (cL, 1, .inr (.inl (vp_updL f (nI 0).toNatClampNeg r.toInt64)))) = ws' u ++ [(ou, .inl (cL, 1, .inr (.inl (vp_updL f 0 r.toInt64))))] := by
      rw [List.set_append_right _ _ (Nat.le_refl _), Nat.sub_self]; rfl
    have hP2 : va_P D vwCl (ws' u ++ [(ou, .inl (cL, 1, .inr (.inl (vp_updL f 0 r.toInt64))))]) H2 := by rw [← es]; exact hP2
    refine lv_goto (tgt := 17) hx hb dL_late_10 (by decide) ?_
    refine lv_iconst (v := 0) hx hb dL_late_17 (by decide) ?_
    refine vx_ret ?_
    exact W.iret hx hb B.returns (fun t ht _ => ⟨Or.inl ⟨hok, rfl, u, by rw [ht]; exact hP2⟩, hS2.F ht⟩) hS2.2.2 dL_late_18 B.notSynchronized
  · intro hno u H1 locs1 q9 ce hP1 hD1 hS1 hce hcv hcl
    refine vx_catch (own := RL) (name := nsE) (E := nsE) hown [] ⟨0, 10, 13, 13⟩ [] (by rw [htab]; rfl) (fun z hz => nomatch hz) (by decide) (by decide) (hts (.classLink RL 13 "java/util/NoSuchElementException") (List.mem_of_getElem? (i := 1) rfl)) (va_Nw.use rfl hF.2.2.2.2.1) hce hcv hcl ?_
    refine lv_astore (lv' := [(4, .ref q9), (0, .ref x0), (1, .int i), (2, .int w), (3, .ref ou)]) hx hb dL_late_13 hl (by decide) rfl (fun ls hl => ?_)
    refine lv_iconst (v := 1) hx hb dL_late_15 (by decide) ?_
    refine vx_ret ?_
    exact W.iret hx hb B.returns (fun t ht _ => ⟨Or.inr ⟨hno, rfl, u, by rw [ht]; exact hP1⟩, hS1.F ht⟩) hS1.2.2 dL_late_16 B.notSynchronized
