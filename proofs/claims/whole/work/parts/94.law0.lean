theorem lcmp_self (x : Int64) : lg_cmp x x = 0 := by
  unfold lg_cmp
  rw [if_neg (show ¬ x > x from Int64.lt_irrefl), if_pos rfl]
/-! the law's world: the desk, the model, the word between them -/
abbrev LA : Type := (Nat → Nat) × (Nat → Nat → Nat)
abbrev LA.x0 (a : LA) : Nat := a.1 0
abbrev LA.t (a : LA) : Nat := a.1 1
abbrev LA.tb (a : LA) : Nat := a.1 2
abbrev LA.rdr (a : LA) : Nat := a.1 3
abbrev LA.nb (a : LA) : Nat := a.1 4
abbrev LA.yr (a : LA) : Nat := a.1 5
abbrev LA.dy (a : LA) : Nat := a.1 6
abbrev LA.ak (a : LA) : Nat := a.1 7
abbrev LA.la (a : LA) : Nat := a.1 8
abbrev LA.lr (a : LA) : Nat := a.1 9
abbrev LA.lt (a : LA) : Nat := a.1 10
abbrev LA.ac (a : LA) : Nat := a.1 11
abbrev LA.pa (a : LA) : Nat := a.1 12
abbrev LA.dr (a : LA) : Nat := a.1 13
abbrev LA.lw (a : LA) : Nat := a.1 14
abbrev LA.dd (a : LA) : Nat := a.1 15
abbrev LA.dk (a : LA) : Nat := a.1 16
abbrev LA.mo (a : LA) : Nat := a.1 17
abbrev LA.q1 (a : LA) : Nat := a.1 18
abbrev LA.q2 (a : LA) : Nat := a.1 19
abbrev LA.q3 (a : LA) : Nat := a.1 20
abbrev LA.q4 (a : LA) : Nat := a.1 21
abbrev LA.q5 (a : LA) : Nat := a.1 22
abbrev LA.q6 (a : LA) : Nat := a.1 23
abbrev LA.q7 (a : LA) : Nat := a.1 24
abbrev LA.q8 (a : LA) : Nat := a.1 25
abbrev LA.ou (a : LA) : Nat := a.1 26
abbrev LA.Ya (a : LA) : Nat → Nat := a.2 0
abbrev LA.Yfa (a : LA) : Nat → Nat := a.2 1
abbrev LA.Ysa (a : LA) : Nat → Nat := a.2 2
abbrev LA.Za (a : LA) : Nat → Nat := a.2 3
abbrev LA.Zfa (a : LA) : Nat → Nat := a.2 4
abbrev LA.Zsa (a : LA) : Nat → Nat := a.2 5
abbrev wD (a : LA) (cI cB : ClassId) (d_lf : Int32) (d_S : XSt) (d_n : Nat) (d_B : (Nat → Int32)) (d_Z : DYt) (d_Yf : (Nat → Nat → Int32)) (d_Yg : (Nat → Nat → Int32)) (d_Yc : (Nat → Nat)) (d_Yv : (Nat → Int32)) (d_L : (Nat → Int32)) (d_K : (Nat → Int32)) (d_Th : (Nat → Int32)) (d_P : (Nat → Int32)) (d_R : (Nat → Int32)) (d_z : LSt) (d_dn : Nat) (d_DK : (Nat → Int32)) : va_W := [(a.x0, .inr (8, [.ref a.t, .ref a.rdr, .ref a.yr, .ref a.dy, .ref a.ak, .ref a.ac, .ref a.lw, .ref a.dd, .int d_lf])), (a.t, .inr (6, [.ref a.tb, .int (nI d_n)])), (a.tb, .inl (cB, 840, .inl d_B)), (a.rdr, .inr (4, [.ref a.nb, .int (nI d_S.1), .int d_S.2.1, .int (nI d_S.2.2.1), .int (nI d_S.2.2.2.1), .int (nI d_S.2.2.2.2.1), .int d_S.2.2.2.2.2.1, .int d_S.2.2.2.2.2.2.1])), (a.nb, .inl (cI, 3, .inl d_S.2.2.2.2.2.2.2)), (a.yr, .inr (7, [.ref (a.Ya 0), .ref (a.Ya 1), .ref (a.Ya 2), .ref (a.Ya 3), .ref (a.Ya 4), .ref (a.Ya 5), .int (d_Yv 6), .int (d_Yv 7), .int (d_Yv 8), .int (d_Yv 9), .int (d_Yv 10), .int (d_Yv 11), .int (d_Yv 12), .int (d_Yv 13)])), (a.Ya 0, .inr (5, [.ref (a.Yfa 0), .ref (a.Ysa 0), .int (nI (d_Yc 0))])), (a.Yfa 0, .inl (cI, 4, .inl (d_Yf 0))), (a.Ysa 0, .inl (cI, 4, .inl (d_Yg 0))), (a.Ya 1, .inr (5, [.ref (a.Yfa 1), .ref (a.Ysa 1), .int (nI (d_Yc 1))])), (a.Yfa 1, .inl (cI, 4, .inl (d_Yf 1))), (a.Ysa 1, .inl (cI, 4, .inl (d_Yg 1))), (a.Ya 2, .inr (5, [.ref (a.Yfa 2), .ref (a.Ysa 2), .int (nI (d_Yc 2))])), (a.Yfa 2, .inl (cI, 6, .inl (d_Yf 2))), (a.Ysa 2, .inl (cI, 6, .inl (d_Yg 2))), (a.Ya 3, .inr (5, [.ref (a.Yfa 3), .ref (a.Ysa 3), .int (nI (d_Yc 3))])), (a.Yfa 3, .inl (cI, 40, .inl (d_Yf 3))), (a.Ysa 3, .inl (cI, 40, .inl (d_Yg 3))), (a.Ya 4, .inr (5, [.ref (a.Yfa 4), .ref (a.Ysa 4), .int (nI (d_Yc 4))])), (a.Yfa 4, .inl (cI, 40, .inl (d_Yf 4))), (a.Ysa 4, .inl (cI, 40, .inl (d_Yg 4))), (a.Ya 5, .inr (5, [.ref (a.Yfa 5), .ref (a.Ysa 5), .int (nI (d_Yc 5))])), (a.Yfa 5, .inl (cI, 20, .inl (d_Yf 5))), (a.Ysa 5, .inl (cI, 20, .inl (d_Yg 5))), (a.dy, .inr (7, [.ref (a.Za 0), .ref (a.Za 1), .ref (a.Za 2), .ref (a.Za 3), .ref (a.Za 4), .ref (a.Za 5), .int (d_Z.2.2.2 6), .int (d_Z.2.2.2 7), .int (d_Z.2.2.2 8), .int (d_Z.2.2.2 9), .int (d_Z.2.2.2 10), .int (d_Z.2.2.2 11), .int (d_Z.2.2.2 12), .int (d_Z.2.2.2 13)])), (a.Za 0, .inr (5, [.ref (a.Zfa 0), .ref (a.Zsa 0), .int (nI (d_Z.2.2.1 0))])), (a.Zfa 0, .inl (cI, 4, .inl (d_Z.1 0))), (a.Zsa 0, .inl (cI, 4, .inl (d_Z.2.1 0))), (a.Za 1, .inr (5, [.ref (a.Zfa 1), .ref (a.Zsa 1), .int (nI (d_Z.2.2.1 1))])), (a.Zfa 1, .inl (cI, 4, .inl (d_Z.1 1))), (a.Zsa 1, .inl (cI, 4, .inl (d_Z.2.1 1))), (a.Za 2, .inr (5, [.ref (a.Zfa 2), .ref (a.Zsa 2), .int (nI (d_Z.2.2.1 2))])), (a.Zfa 2, .inl (cI, 6, .inl (d_Z.1 2))), (a.Zsa 2, .inl (cI, 6, .inl (d_Z.2.1 2))), (a.Za 3, .inr (5, [.ref (a.Zfa 3), .ref (a.Zsa 3), .int (nI (d_Z.2.2.1 3))])), (a.Zfa 3, .inl (cI, 40, .inl (d_Z.1 3))), (a.Zsa 3, .inl (cI, 40, .inl (d_Z.2.1 3))), (a.Za 4, .inr (5, [.ref (a.Zfa 4), .ref (a.Zsa 4), .int (nI (d_Z.2.2.1 4))])), (a.Zfa 4, .inl (cI, 40, .inl (d_Z.1 4))), (a.Zsa 4, .inl (cI, 40, .inl (d_Z.2.1 4))), (a.Za 5, .inr (5, [.ref (a.Zfa 5), .ref (a.Zsa 5), .int (nI (d_Z.2.2.1 5))])), (a.Zfa 5, .inl (cI, 20, .inl (d_Z.1 5))), (a.Zsa 5, .inl (cI, 20, .inl (d_Z.2.1 5))), (a.ak, .inr (1, [.ref a.la, .ref a.lr, .ref a.lt])), (a.la, .inl (cI, 4, .inl d_L)), (a.lr, .inl (cI, 4, .inl d_K)), (a.lt, .inl (cI, 4, .inl d_Th)), (a.ac, .inr (0, [.ref a.pa, .ref a.dr])), (a.pa, .inl (cI, 500, .inl d_P)), (a.dr, .inl (cI, 500, .inl d_R)), (a.lw, .inr (3, [.int d_z.1, .int d_z.2.1, .int d_z.2.2.1, .int d_z.2.2.2.1, .int d_z.2.2.2.2.1, .int d_z.2.2.2.2.2])), (a.dd, .inr (2, [.ref a.dk, .int (nI d_dn)])), (a.dk, .inl (cI, 12, .inl d_DK))]
abbrev wM (a : LA) (cI : ClassId) (k_th : Int32) (k_sz : Int32) (k_tt : Int32) (k_fmN : Nat) (k_so : Int32) (k_nu : Int32) (k_plc : Int32) (k_wd : Int64) (k_rm : Int32) (k_Tp : (Nat → Int32)) (k_Nw : (Nat → Int32)) (k_Rr : (Nat → Int32)) (k_Sn : (Nat → Int32)) (k_In : (Nat → Int32)) (k_Pd : (Nat → Int32)) (k_Rt : (Nat → Int32)) (k_Rw : (Nat → Int32)) (n : Nat) (lf : Int32) (dn : Nat) : va_W := [(a.mo, .inr (9, [.int k_th, .ref a.q1, .int (nI n), .int k_sz, .int k_tt, .int (nI k_fmN), .int k_so, .int k_nu, .int lf, .int k_plc, .long k_wd, .ref a.q2, .ref a.q3, .ref a.q4, .int (nI dn), .ref a.q5, .ref a.q6, .ref a.q7, .ref a.q8, .int k_rm])), (a.q1, .inl (cI, 840, .inl k_Tp)), (a.q2, .inl (cI, 240, .inl k_Nw)), (a.q3, .inl (cI, 240, .inl k_Rr)), (a.q4, .inl (cI, 2880, .inl k_Sn)), (a.q5, .inl (cI, 4, .inl k_In)), (a.q6, .inl (cI, 500, .inl k_Pd)), (a.q7, .inl (cI, 500, .inl k_Rt)), (a.q8, .inl (cI, 10000, .inl k_Rw))]
abbrev wA (a : LA) (cI cB cL : ClassId) (d_lf : Int32) (d_S : XSt) (d_n : Nat) (d_B : (Nat → Int32)) (d_Z : DYt) (d_Yf : (Nat → Nat → Int32)) (d_Yg : (Nat → Nat → Int32)) (d_Yc : (Nat → Nat)) (d_Yv : (Nat → Int32)) (d_L : (Nat → Int32)) (d_K : (Nat → Int32)) (d_Th : (Nat → Int32)) (d_P : (Nat → Int32)) (d_R : (Nat → Int32)) (d_z : LSt) (d_dn : Nat) (d_DK : (Nat → Int32)) (k_th : Int32) (k_sz : Int32) (k_tt : Int32) (k_fmN : Nat) (k_so : Int32) (k_nu : Int32) (k_plc : Int32) (k_wd : Int64) (k_rm : Int32) (k_Tp : (Nat → Int32)) (k_Nw : (Nat → Int32)) (k_Rr : (Nat → Int32)) (k_Sn : (Nat → Int32)) (k_In : (Nat → Int32)) (k_Pd : (Nat → Int32)) (k_Rt : (Nat → Int32)) (k_Rw : (Nat → Int32)) (n : Nat) (lf : Int32) (dn : Nat) (fo : Nat → Int64) : va_W := wD a cI cB d_lf d_S d_n d_B d_Z d_Yf d_Yg d_Yc d_Yv d_L d_K d_Th d_P d_R d_z d_dn d_DK ++ (wM a cI k_th k_sz k_tt k_fmN k_so k_nu k_plc k_wd k_rm k_Tp k_Nw k_Rr k_Sn k_In k_Pd k_Rt k_Rw n lf dn ++ [(a.ou, .inl (cL, 1, .inr (.inl fo)))])
def IVl (d_n : Nat) (d_B : Nat → Int32) (d_Yf d_Yg : Nat → Nat → Int32) (d_Yc : Nat → Nat) (d_Yv : Nat → Int32) (d_dn : Nat) (d_DK k_Tp k_Nw k_Sn : Nat → Int32) : Prop := TRl d_B k_Tp d_n ∧ YR d_Yf d_Yg d_Yc d_Yv k_Nw ∧ URl d_Yf d_Yg d_DK k_Sn d_dn d_Yc d_Yv ∧ d_dn ≤ 12
def LIv (D : va_G) (cI cB cL : ClassId) (s : State) (a : LA) (H : Heap) (locs : List Loc) : Prop := ∃ (d_lf : Int32) (d_S : XSt) (d_n : Nat) (d_B : (Nat → Int32)) (d_Z : DYt) (d_Yf : (Nat → Nat → Int32)) (d_Yg : (Nat → Nat → Int32)) (d_Yc : (Nat → Nat)) (d_Yv : (Nat → Int32)) (d_L : (Nat → Int32)) (d_K : (Nat → Int32)) (d_Th : (Nat → Int32)) (d_P : (Nat → Int32)) (d_R : (Nat → Int32)) (d_z : LSt) (d_dn : Nat) (d_DK : (Nat → Int32)) (k_th : Int32) (k_sz : Int32) (k_tt : Int32) (k_fmN : Nat) (k_so : Int32) (k_nu : Int32) (k_plc : Int32) (k_wd : Int64) (k_rm : Int32) (k_Tp : (Nat → Int32)) (k_Nw : (Nat → Int32)) (k_Rr : (Nat → Int32)) (k_Sn : (Nat → Int32)) (k_In : (Nat → Int32)) (k_Pd : (Nat → Int32)) (k_Rt : (Nat → Int32)) (k_Rw : (Nat → Int32)) (fo : Nat → Int64), IVl d_n d_B d_Yf d_Yg d_Yc d_Yv d_dn d_DK k_Tp k_Nw k_Sn ∧ va_P D vwCl (wA a cI cB cL d_lf d_S d_n d_B d_Z d_Yf d_Yg d_Yc d_Yv d_L d_K d_Th d_P d_R d_z d_dn d_DK k_th k_sz k_tt k_fmN k_so k_nu k_plc k_wd k_rm k_Tp k_Nw k_Rr k_Sn k_In k_Pd k_Rt k_Rw d_n d_lf d_dn fo) H ∧ va_D (fun q : Nat => s.heap.size ≤ q) (wA a cI cB cL d_lf d_S d_n d_B d_Z d_Yf d_Yg d_Yc d_Yv d_L d_K d_Th d_P d_R d_z d_dn d_DK k_th k_sz k_tt k_fmN k_so k_nu k_plc k_wd k_rm k_Tp k_Nw k_Rr k_Sn k_In k_Pd k_Rt k_Rw d_n d_lf d_dn fo) ∧ va_S (fun q : Nat => s.heap.size ≤ q) s.heap H locs
def LCx (p : Program) (l : Launch) (s : State) (m : MethodId) (c : Code) (b N9 : Nat) (xs : Nat → Int32) (D : va_G) (cI cB cL : ClassId) (F : SFt) (x1 x2 : Nat) : Prop := (p.tables.exec = Jvm.exec) ∧ (c.code = cL_law) ∧ (c.maxLocals = 7) ∧ (s.vm.findClass RL = some m.cls) ∧ (∀ w ∈ wsL_law, w.before #[Value.ref b] s = true) ∧ (va_X b N9 xs s s.heap) ∧ (b < s.heap.size) ∧ (va_K D vwCl (TY3 cI cB cL) s) ∧ (SF F (fun q : Nat => s.heap.size ≤ q) s s.heap) ∧ (XF x1 x2 (fun q : Nat => s.heap.size ≤ q) s s.heap) ∧ (l.stackTraces = false) ∧ (N9 ≤ 3072)
theorem LCx.hx {p : Program} {l : Launch} {s : State} {m : MethodId} {c : Code} {b N9 : Nat} {xs : Nat → Int32} {D : va_G} {cI cB cL : ClassId} {F : SFt} {x1 x2 : Nat} (h : LCx p l s m c b N9 xs D cI cB cL F x1 x2) : p.tables.exec = Jvm.exec := h.1
theorem LCx.hb {p : Program} {l : Launch} {s : State} {m : MethodId} {c : Code} {b N9 : Nat} {xs : Nat → Int32} {D : va_G} {cI cB cL : ClassId} {F : SFt} {x1 x2 : Nat} (h : LCx p l s m c b N9 xs D cI cB cL F x1 x2) : c.code = cL_law := h.2.1
theorem LCx.hml {p : Program} {l : Launch} {s : State} {m : MethodId} {c : Code} {b N9 : Nat} {xs : Nat → Int32} {D : va_G} {cI cB cL : ClassId} {F : SFt} {x1 x2 : Nat} (h : LCx p l s m c b N9 xs D cI cB cL F x1 x2) : c.maxLocals = 7 := h.2.2.1
theorem LCx.hown {p : Program} {l : Launch} {s : State} {m : MethodId} {c : Code} {b N9 : Nat} {xs : Nat → Int32} {D : va_G} {cI cB cL : ClassId} {F : SFt} {x1 x2 : Nat} (h : LCx p l s m c b N9 xs D cI cB cL F x1 x2) : s.vm.findClass RL = some m.cls := h.2.2.2.1
theorem LCx.hts {p : Program} {l : Launch} {s : State} {m : MethodId} {c : Code} {b N9 : Nat} {xs : Nat → Int32} {D : va_G} {cI cB cL : ClassId} {F : SFt} {x1 x2 : Nat} (h : LCx p l s m c b N9 xs D cI cB cL F x1 x2) : ∀ w ∈ wsL_law, w.before #[Value.ref b] s = true := h.2.2.2.2.1
theorem LCx.hX {p : Program} {l : Launch} {s : State} {m : MethodId} {c : Code} {b N9 : Nat} {xs : Nat → Int32} {D : va_G} {cI cB cL : ClassId} {F : SFt} {x1 x2 : Nat} (h : LCx p l s m c b N9 xs D cI cB cL F x1 x2) : va_X b N9 xs s s.heap := h.2.2.2.2.2.1
theorem LCx.hbl {p : Program} {l : Launch} {s : State} {m : MethodId} {c : Code} {b N9 : Nat} {xs : Nat → Int32} {D : va_G} {cI cB cL : ClassId} {F : SFt} {x1 x2 : Nat} (h : LCx p l s m c b N9 xs D cI cB cL F x1 x2) : b < s.heap.size := h.2.2.2.2.2.2.1
theorem LCx.hK3 {p : Program} {l : Launch} {s : State} {m : MethodId} {c : Code} {b N9 : Nat} {xs : Nat → Int32} {D : va_G} {cI cB cL : ClassId} {F : SFt} {x1 x2 : Nat} (h : LCx p l s m c b N9 xs D cI cB cL F x1 x2) : va_K D vwCl (TY3 cI cB cL) s := h.2.2.2.2.2.2.2.1
theorem LCx.hF {p : Program} {l : Launch} {s : State} {m : MethodId} {c : Code} {b N9 : Nat} {xs : Nat → Int32} {D : va_G} {cI cB cL : ClassId} {F : SFt} {x1 x2 : Nat} (h : LCx p l s m c b N9 xs D cI cB cL F x1 x2) : SF F (fun q : Nat => s.heap.size ≤ q) s s.heap := h.2.2.2.2.2.2.2.2.1
theorem LCx.hXF {p : Program} {l : Launch} {s : State} {m : MethodId} {c : Code} {b N9 : Nat} {xs : Nat → Int32} {D : va_G} {cI cB cL : ClassId} {F : SFt} {x1 x2 : Nat} (h : LCx p l s m c b N9 xs D cI cB cL F x1 x2) : XF x1 x2 (fun q : Nat => s.heap.size ≤ q) s s.heap := h.2.2.2.2.2.2.2.2.2.1
theorem LCx.hst {p : Program} {l : Launch} {s : State} {m : MethodId} {c : Code} {b N9 : Nat} {xs : Nat → Int32} {D : va_G} {cI cB cL : ClassId} {F : SFt} {x1 x2 : Nat} (h : LCx p l s m c b N9 xs D cI cB cL F x1 x2) : l.stackTraces = false := h.2.2.2.2.2.2.2.2.2.2.1
theorem LCx.hN {p : Program} {l : Launch} {s : State} {m : MethodId} {c : Code} {b N9 : Nat} {xs : Nat → Int32} {D : va_G} {cI cB cL : ClassId} {F : SFt} {x1 x2 : Nat} (h : LCx p l s m c b N9 xs D cI cB cL F x1 x2) : N9 ≤ 3072 := h.2.2.2.2.2.2.2.2.2.2.2
section LAW
variable {p : Program} {l : Launch} {e : Env} {s : State} {m : MethodId} {below : List Frame} {meth : Method} {c : Code} {b N9 : Nat} {xs : Nat → Int32} {D : va_G} {cI cB cL : ClassId} {F : SFt} {x1 x2 : Nat} {a : LA} {H : Heap} {locs : List Loc} {cells slots : Nat} {Q : State → Prop} {ls : Array Slot} {i : Nat}
theorem lw_hS (I : LIv D cI cB cL s a H locs) : va_S (fun q : Nat => s.heap.size ≤ q) s.heap H locs := by
  obtain ⟨_, _, _, _, _, _, _, _, _, _, _, _, _, _, _, _, _, _, _, _, _, _, _, _, _, _, _, _, _, _, _, _, _, _, fo, -, -, -, hS⟩ := I
  exact hS
theorem lw_arg {pc : Nat} {rest : List Value} (C : LCx p l s m c b N9 xs D cI cB cL F x1 x2) (hS : va_S (fun q : Nat => s.heap.size ≤ q) s.heap H locs) (hl : lv_has ls 7 [(0, .ref b), (1, .ref a.x0), (2, .ref a.mo), (3, .ref a.ou), (4, .int (nI i))]) (j : Nat) {z : Int} (hz : Int32.ofInt z = nI j) (hj : i + j < N9)
    (d0 : decode cL_law pc = .ok (.aload_n 0, 1)) (d1 : decode cL_law (pc + 1) = .ok (.iload 4, 2)) (d3 : decode cL_law (pc + 3) = .ok (.iconst z, 1)) (d4 : decode cL_law (pc + 4) = .ok (.iadd, 1)) (d5 : decode cL_law (pc + 5) = .ok (.iaload, 1))
    (kk : W p l e room_1 s m #[Value.ref b] below meth c H locs cells slots Q (F0 m (pc + 6) ls (.int (xs (i + j)) :: rest))) : W p l e room_1 s m #[Value.ref b] below meth c H locs cells slots Q (F0 m pc ls rest) := by
  have hN := C.hN
  refine lv_aload_n C.hx C.hb d0 rfl (lv_at hl 0 rfl) ?_
  refine lv_iload C.hx C.hb d1 (lv_at hl 4 rfl) ?_
  refine lv_iconst (v := nI j) C.hx C.hb d3 hz ?_
  refine lv_iadd C.hx C.hb d4 ?_
  have hin : vp_in (nI i + nI j) N9 := by rw [nI_add]; exact vp_in_nI hj (by omega)
  refine va_sld C.hx C.hb C.hX C.hbl (Nat.not_le.mpr C.hbl) hS hin d5 ?_
  rw [nI_add, nI_clamp (by omega)]
  exact kk
theorem lw_eq {pc : Nat} {r1 r2 : Int32} {off : Int} (C : LCx p l s m c b N9 xs D cI cB cL F x1 x2) (h : r1 = r2) (hd : decode cL_law pc = .ok (.if_icmp .eq off, 3)) (ht : (pc : Int) + off = 874)
    (kk : W p l e room_1 s m #[Value.ref b] below meth c H locs cells slots Q (F0 m 874 ls [])) : W p l e room_1 s m #[Value.ref b] below meth c H locs cells slots Q (F0 m pc ls [.int r2, .int r1]) :=
  lv_icmp_eq (tgt := 874) C.hx C.hb hd ht (fun _ => kk) (fun q => absurd h q)
end LAW
/-! the late rows: both sides alike -/
theorem nI_pre {n : Nat} (h : n ≤ 2000) : (nI n - 1).toInt = (n : Int) - 1 := by
  rw [Int32.toInt_sub, nI_toInt (by omega)]
  show Int.bmod ((n : Int) - 1) (2 ^ 32) = _
  exact Int.bmod_eq_of_le (by omega) (by omega)
theorem late_ok {iv w : Int32} {fd : LSt} {t : RSt} (h : RLw iv fd t) (ht : t.2 ≤ 2000) : (okLX iv w fd ↔ okL iv w t.2) ∧ (okLX iv w fd → vLX w fd = t.1 (5 * iv.toNatClampNeg + w.toNatClampNeg)) := by
  obtain ⟨h1, h2⟩ := h
  have e9 := nI_pre ht
  have e8 : fd.1.toInt = (t.2 : Int) := by rw [h1, nI_toInt (by omega)]
  have t0 : (0 : Int32).toInt = 0 := rfl
  have t4 : (4 : Int32).toInt = 4 := rfl
  refine ⟨⟨fun ⟨a1, a2, a3⟩ => ?_, fun ⟨a1, a2⟩ => ?_⟩, fun ⟨a1, a2, a3⟩ => ?_⟩
  · rw [Int32.lt_iff_toInt_lt] at a1 a2
    refine ⟨isInM_yes (by omega) (by omega), ?_⟩
    rcases a3 with rfl | rfl | rfl | rfl | rfl <;> decide
  · have b1 := isInM_rg a1
    have b2 := isInM_rg a2
    obtain ⟨c1, c2⟩ := b1
    obtain ⟨c3, c4⟩ := rg_nI (b := 4) b2 (by omega)
    refine ⟨by rw [Int32.lt_iff_toInt_lt]; omega, by rw [Int32.lt_iff_toInt_lt]; omega, ?_⟩
    rw [c3]
    rcases (show w.toNatClampNeg = 0 ∨ w.toNatClampNeg = 1 ∨ w.toNatClampNeg = 2 ∨ w.toNatClampNeg = 3 ∨ w.toNatClampNeg = 4 by omega) with z | z | z | z | z <;> rw [z] <;> decide
  · rw [Int32.lt_iff_toInt_lt] at a2
    obtain ⟨q, hq, e⟩ := nI_of (x := iv) a1
    have a2 : iv.toInt < fd.1.toInt := a2
    rw [e8, e, nI_toInt hq] at a2
    have hz := (h2 q e hq).1 (by omega)
    rw [e, nI_clamp hq]
    rcases a3 with rfl | rfl | rfl | rfl | rfl
    · show fd.2.1 = _; rw [hz]; rfl
    · show fd.2.2.1 = _; rw [hz]; rfl
    · show fd.2.2.2.1 = _; rw [hz]; rfl
    · show fd.2.2.2.2.1 = _; rw [hz]; rfl
    · show fd.2.2.2.2.2 = _; rw [hz]; rfl
theorem lw_feed {B Tp : Nat → Int32} {n : Nat} {a b c d e : Int32} (h : TRl B Tp n) : TRl (if n + 20 ≤ 840 then fdB B n a b c d e else B) (if n + 20 ≤ 840 then fdM Tp n a b c d e else Tp) (if n + 20 ≤ 840 then n + 20 else n) := by
  by_cases q : n + 20 ≤ 840
  · rw [if_pos q, if_pos q, if_pos q]; exact tr_feed h q
  · rw [if_neg q, if_neg q, if_neg q]; exact h
section WQG
variable {p : Program} {l : Launch} {e : Env} {R : Room} {s : State} {m : MethodId} {args : Array Value} {below : List Frame} {meth : Method} {c : Code} {H : Heap} {locs : List Loc} {cells slots : Nat} {Q : State → Prop} {D : va_G} {ty : List (ClassId × FieldType)} {cc : ByteArray} {pc : Nat} {ls : Array Slot} {rest : List Value}
variable {y : MethodName} {bytes : ByteArray} {maxL nL n index fr lo : Nat} {ret : Option FieldType} {w : List Cond} {Ts : List Cond} {own C : String} {b : Addr} {As : List Value} {st0 : List Value} {S : Type} {ws wc : va_W} {wc' ws' : S → va_W} {ci : Nat} {fs : List Value} {T : u_T} {N : Nat} {oc : Option Value} {A : Nat → Prop} {H0 : Heap} {a : Array Value}
theorem wq_go (hr : va_Run p l e R s m args below meth c H locs cells slots 0 0 (F0 m pc ls st0) rest (QE D wc wc' oc a) (inW wc)) (hP : va_P D vwCl ws H) (hD : va_D A ws) (hS : va_S A H0 H locs) (is isR : List Nat) (hC : is.map (fun i => ws[i]?) = wc.map some) (hC' : ∀ u, is.map (fun i => (ws' u)[i]?) = (wc' u).map some) (hR : ∀ u, isR.map (fun i => (ws' u)[i]?) = isR.map (fun i => ws[i]?)) (nW : Nat) (hlen : ∀ u, (ws' u).length = nW) (hcov : covM nW is isR = true) (hdis : isR.all (fun i => !is.contains i) = true) (hadr : ∀ u, (ws' u).map Prod.fst = ws.map Prod.fst)
    (kk : ∀ (u : S) (H1 : Heap) (locs1 : List Loc), va_P D vwCl (ws' u) H1 → va_D A (ws' u) → va_S A H0 H1 locs1 → W p l e R s m args below meth c H1 locs1 cells slots Q (F0 m (pc + 3) ls (oc.toList ++ rest))) : W p l e R s m args below meth c H locs cells slots Q (F0 m pc ls st0) := by
  have hin : ∀ q, inW wc q → A q := by
    rintro q ⟨j, e1, he⟩
    obtain ⟨i, _, h2⟩ := mapSome hC he
    exact hD.2 i (q, e1) h2
  intro T0 hT X
  obtain ⟨v, st₀, t, T', L, h0, X', hL, e1, e2, ⟨hv, ⟨u, hp⟩, hz, hk⟩, st⟩ := hr T0 hT X
  cases hv
  rw [h0] at hz hk
  rw [← e1] at hz hp
  have hk' : ∀ q : Nat, q < H.size → ¬ inW wc q → T'.heap[q]? = H[q]? := fun q h1 h2 => by rw [e1]; exact hk q h1 h2
  have hP' := pl_P (ws' := ws' u) is isR hP hD hC (hC' u) (hR u) nW (hlen u) hcov hdis hk' hp
  obtain ⟨t2, a1, b1⟩ := kk u T'.heap (locs ++ L) hP' (adr_D hD (hadr u))
    ⟨Nat.le_trans hS.1 hz, fun q h1 h2 => (hk' q (Nat.lt_of_lt_of_le h1 hS.1) (fun z => h2 (hin q z))).trans (hS.2.1 q h1 h2), fun q hq => by
      rcases List.mem_append.mp hq with h | h
      · exact hS.2.2 q h
      · exact hin _ (hL q h)⟩ T' rfl X'
  exact ⟨t2, st t2 a1, b1⟩
theorem wq_V (hM : We l D ty y w fr lo (.ref b :: As) wc wc' oc) (S0 : CallFix p m c cc nL s args Ts own) (cw : CallW R s args own C index y bytes maxL ret w (RM fr lo) 0 0 n) (hK : va_K D vwCl ty s) (hP : va_P D vwCl ws H) (hD : va_D A ws) (hS : va_S A H0 H locs)
    (is isR : List Nat) (hC : is.map (fun i => ws[i]?) = wc.map some) (hC' : ∀ u, is.map (fun i => (ws' u)[i]?) = (wc' u).map some) (hR : ∀ u, isR.map (fun i => (ws' u)[i]?) = isR.map (fun i => ws[i]?)) (nW : Nat) (hlen : ∀ u, (ws' u).length = nW) (hcov : covM nW is isR = true) (hdis : isR.all (fun i => !is.contains i) = true) (hadr : ∀ u, (ws' u).map Prod.fst = ws.map Prod.fst) (hnd : va_nd is = true) (q0 : Nat) (he : ws[q0]? = some (b, .inr (ci, fs))) (hc : vwCl[ci]? = some (C, T, N)) (hst : st0 = As.reverse ++ .ref b :: rest) (hn : As.length = n) (hsz : ls.size = nL) (hW : (rest.map fun v => v.category).sum ≤ 8) (hdg : decode cc pc = .ok (.invokevirtual index, 3)) (hf : cells ≤ R.cells ∧ slots ≤ R.slots)
    (kk : ∀ (u : S) (H1 : Heap) (locs1 : List Loc), va_P D vwCl (ws' u) H1 → va_D A (ws' u) → va_S A H0 H1 locs1 → W p l e R s m args below meth c H1 locs1 cells slots Q (F0 m (pc + 3) ls (oc.toList ++ rest))) : W p l e R s m args below meth c H locs cells slots Q (F0 m pc ls st0) := by
  have hPc : va_P D vwCl wc H := fun j q hq => by
    obtain ⟨i, _, h2⟩ := mapSome hC hq
    exact hP i q h2
  subst hst
  exact wq_go (va_runV (As := As) (rest := rest) S0 hM cw ⟨fun a U g mk q => ⟨q.1, q.2.1, va_K.moved (u := U) (U := U.calling g mk a) (Vm.Alike.refl U.vm) q.2.2.1, q.2.2.2⟩, va_recv hK hP hc he, fun U hU hw => ⟨rfl, by rw [hU]; exact hPc, va_K.moved hw.alike hK, (hD.sub is hnd hC).weaken (fun _ _ _ _ => trivial)⟩⟩ rfl hn hsz rfl (lv_room hW) hdg hf) hP hD hS is isR hC hC' hR nW hlen hcov hdis hadr kk
end WQG
section WLG
variable {p : Program} {l : Launch} {e : Env} {R : Room} {s : State} {m : MethodId} {args : Array Value} {below : List Frame} {meth : Method} {c : Code} {H : Heap} {locs : List Loc} {cells slots : Nat} {Q : State → Prop} {D : va_G} {pc : Nat} {ls : Array Slot} {rest st0 : List Value} {A : Nat → Prop} {H0 : Heap} {a : Array Value} {S : Type} {ws wc : va_W} {wc' : S → va_W} {ou : Nat} {cL : ClassId} {f : Nat → Int64} {ok : Prop} {r : Int32}
theorem wl_go {w0 w1 : S → va_W} (is isR : List Nat) (hr : vx_Run p l e R s m args below meth c H locs cells slots 1 6 (F0 m pc ls st0) rest (QLt D wc wc' ou cL f ok r a) (fun _ _ _ => False) (inW (wc ++ [(ou, .inl (cL, 1, .inr (.inl f)))]))) (hP : va_P D vwCl ws H) (hD : va_D A ws) (hS : va_S A H0 H locs) (hC : is.map (fun i => ws[i]?) = (wc ++ [((ou, .inl (cL, 1, .inr (.inl f))) : Nat × va_E)]).map some)
    (h0C : ∀ u, is.map (fun i => (w0 u)[i]?) = (wc' u ++ [((ou, .inl (cL, 1, .inr (.inl (vp_updL f 0 r.toInt64)))) : Nat × va_E)]).map some) (h0R : ∀ u, isR.map (fun i => (w0 u)[i]?) = isR.map (fun i => ws[i]?)) (h1C : ∀ u, is.map (fun i => (w1 u)[i]?) = (wc' u ++ [((ou, .inl (cL, 1, .inr (.inl f))) : Nat × va_E)]).map some) (h1R : ∀ u, isR.map (fun i => (w1 u)[i]?) = isR.map (fun i => ws[i]?)) (nW : Nat) (h0l : ∀ u, (w0 u).length = nW) (h1l : ∀ u, (w1 u).length = nW) (hcov : covM nW is isR = true) (hdis : isR.all (fun i => !is.contains i) = true) (h0a : ∀ u, (w0 u).map Prod.fst = ws.map Prod.fst) (h1a : ∀ u, (w1 u).map Prod.fst = ws.map Prod.fst)
    (k0 : ok → ∀ (u : S) (H1 : Heap) (locs1 : List Loc), va_P D vwCl (w0 u) H1 → va_D A (w0 u) → va_S A H0 H1 locs1 → W p l e R s m args below meth c H1 locs1 (cells + 1) (slots + 6) Q (F0 m (pc + 3) ls (.int 0 :: rest)))
    (k1 : ¬ ok → ∀ (u : S) (H1 : Heap) (locs1 : List Loc), va_P D vwCl (w1 u) H1 → va_D A (w1 u) → va_S A H0 H1 locs1 → W p l e R s m args below meth c H1 locs1 (cells + 1) (slots + 6) Q (F0 m (pc + 3) ls (.int 1 :: rest))) : W p l e R s m args below meth c H locs cells slots Q (F0 m pc ls st0) := by
  have hin : ∀ q, inW (wc ++ [(ou, .inl (cL, 1, .inr (.inl f)))]) q → A q := by
    rintro q ⟨j, e1, he⟩
    obtain ⟨i, _, h2⟩ := mapSome hC he
    exact hD.2 i (q, e1) h2
  intro T0 hT X
  rcases hr T0 hT X with ⟨v, st₀, t, T', L, h0, X', hL, e1, e2, ⟨hv, hF⟩, st⟩ | ⟨q, st₀, t, T', L, E, ce, h0, X', hL, e1, e2, hno, -⟩
  · obtain ⟨j1, j2, j3⟩ := vx_keep h0 e1 hS (fun q _ h => hin q h) hin hL hF
    rcases hv with ⟨hok, hv, u, hp⟩ | ⟨hok, hv, u, hp⟩
    · cases hv
      rw [← e1] at hp
      have hP' := pl_P (ws' := w0 u) is isR hP hD hC (h0C u) (h0R u) nW (h0l u) hcov hdis j2 hp
      obtain ⟨t2, a1, b1⟩ := k0 hok u T'.heap (locs ++ L) hP' (adr_D hD (h0a u)) j3 T' rfl X'
      exact ⟨t2, st t2 a1, b1⟩
    · cases hv
      rw [← e1] at hp
      have hP' := pl_P (ws' := w1 u) is isR hP hD hC (h1C u) (h1R u) nW (h1l u) hcov hdis j2 hp
      obtain ⟨t2, a1, b1⟩ := k1 hok u T'.heap (locs ++ L) hP' (adr_D hD (h1a u)) j3 T' rfl X'
      exact ⟨t2, st t2 a1, b1⟩
  · exact hno.elim
end WLG
