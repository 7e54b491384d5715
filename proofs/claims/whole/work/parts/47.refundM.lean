def anyL (f : Nat → Int32) (a : Int32) (d : Nat) : Nat → Bool
  | 0 => false
  | k + 1 => anyL f a d k || decide (f (d + k) < a)
theorem anyL_hit {f : Nat → Int32} {a : Int32} {d i n : Nat} (hi : i < n) (h : f (d + i) < a) : anyL f a d n = true := by
  induction n with
  | zero => omega
  | succ n ih =>
    unfold anyL
    by_cases q : i < n
    · rw [ih q]; rfl
    · rw [show n = i by omega]; simp [h]
theorem anyL_no {f : Nat → Int32} {a : Int32} {d i : Nat} (h : anyL f a d i = false) (q : ¬ f (d + i) < a) : anyL f a d (i + 1) = false := by
  unfold anyL; rw [h]; simp [q]
abbrev okR (d e a : Int32) (lo : Bool) (n : Nat) : Prop := ¬ isInM d 0 e = 0 ∧ ¬ isInM a 1 99999 = 0 ∧ lo = false ∧ n < 20
theorem frM_ov (N F G : Nat → Int32) (d x : Int32) : ∀ k, k ≤ 4 → frM N (ov F G 4) d x k = frM N F d x k
  | 0, _ => rfl
  | k + 1, h => by
    unfold frM
    rw [frM_ov N F G d x k (by omega), show ov F G 4 k = F k by simp [ov, show k < 4 by omega]]
def frC (N : Nat → Int32) (ns ni np nb : Nat) (j : Nat) : Int32 := posM (frM N (inM (lsM N ns ni (N 239))) (nI j) (paM N np nb (nI j)) 4)
theorem in_X9_refund_9 : ∀ w ∈ wsX90, w ∈ wsX9_refund := fun _ h => List.mem_cons_of_mem _ (List.mem_append_right _ (h))
set_option maxHeartbeats 4000000 in
set_option maxRecDepth 100000 in
theorem kX9_refund (l : Launch) (D : va_G) (cI cB : ClassId) (mo q1 q2 q3 q4 q5 q6 q7 q8 : Nat) (th tn sz tt fm so nu fau plc : Int32) (wd : Int64) (rm : Int32) (Tp Nw Rr Sn In Pd Rt Rw : Nat → Int32) (ns nr ni np nb : Nat) (n ed : Nat) (d a : Int32) (hcn : cnt Nw ns nr ni np nb) (hcut : ∀ p, p < 4 → 1 ≤ Nw (7 + p) + 1) (hn : n ≤ 12) (hed : Nw 2 = nI ed) (hel : ed ≤ 499) : We l D (TY cI cB) yX9_refund wsX9_refund 6 137 [.ref mo, .int d, .int a] (S := (Nat → Int32)) [(mo, .inr (9, [.int th, .ref q1, .int tn, .int sz, .int tt, .int fm, .int so, .int nu, .int fau, .int plc, .long wd, .ref q2, .ref q3, .ref q4, .int (nI n), .ref q5, .ref q6, .ref q7, .ref q8, .int rm])), (q1, .inl (cI, 840, .inl Tp)), (q2, .inl (cI, 240, .inl Nw)), (q3, .inl (cI, 240, .inl Rr)), (q4, .inl (cI, 2880, .inl Sn)), (q5, .inl (cI, 4, .inl In)), (q6, .inl (cI, 500, .inl Pd)), (q7, .inl (cI, 500, .inl Rt)), (q8, .inl (cI, 10000, .inl Rw))] (fun u => [(mo, .inr (9, [.int 0, .ref q1, .int tn, .int sz, .int tt, .int fm, .int so, .int nu, .int fau, .int plc, .long wd, .ref q2, .ref q3, .ref q4, .int (nI (if okR d (Nw 2) a (anyL (frC Nw ns ni np nb) a d.toNatClampNeg (ed + 1 - d.toNatClampNeg)) nb then kpN n else n)), .ref q5, .ref q6, .ref q7, .ref q8, .int rm])), (q1, .inl (cI, 840, .inl Tp)), (q2, .inl (cI, 240, .inl (if okR d (Nw 2) a (anyL (frC Nw ns ni np nb) a d.toNatClampNeg (ed + 1 - d.toNatClampNeg)) nb then adN Nw 198 nb d a else Nw))), (q3, .inl (cI, 240, .inl Rr)), (q4, .inl (cI, 2880, .inl (if okR d (Nw 2) a (anyL (frC Nw ns ni np nb) a d.toNatClampNeg (ed + 1 - d.toNatClampNeg)) nb then snP Sn Nw n else Sn))), (q5, .inl (cI, 4, .inl u)), (q6, .inl (cI, 500, .inl Pd)), (q7, .inl (cI, 500, .inl Rt)), (q8, .inl (cI, 10000, .inl Rw))]) (some (.int (if isInM d 0 (Nw 2) = 0 then -1 else if isInM a 1 99999 = 0 then -1 else if (anyL (frC Nw ns ni np nb) a d.toNatClampNeg (ed + 1 - d.toNatClampNeg)) = true then -1 else if nb < 20 then posM (frM (adN Nw 198 nb d a) (inM (lsM Nw ns ni (Nw 239))) d (paM (adN Nw 198 nb d a) np (nb + 1) d) 4) else -2))) := by
  refine we_i (cc := cX9_refund) (maxL := 4) (by decide) rfl (Nat.le_of_ble_eq_true rfl) ?_
  intro p_ e_ s_ m_ ar_ be_ me_ co_ ls Q_ A_ hx hb hml hown hts hP hK hD hS hl hret
  have hown : s_.vm.findClass RX9 = some m_.cls := hown
  have hl : lv_has ls 4 [(0, .ref mo), (1, .int d), (2, .int a)] := hl
  have h198 := hcn.2.2.2.2.1
  have h198b := hcn.2.2.2.2.2
  refine lv_aload_n hx hb dX9_refund_0 rfl (lv_at hl 0 rfl) ?_
  refine lv_iconst (v := 0) hx hb dX9_refund_1 (by decide) ?_
  refine g_put (C := RX9) (T := TX9) (N := 20) (ci := 9) (index := 1) (v := .int 0) (ws' := [(mo, .inr (9, [.int 0, .ref q1, .int tn, .int sz, .int tt, .int fm, .int so, .int nu, .int fau, .int plc, .long wd, .ref q2, .ref q3, .ref q4, .int (nI n), .ref q5, .ref q6, .ref q7, .ref q8, .int rm])), (q1, .inl (cI, 840, .inl Tp)), (q2, .inl (cI, 240, .inl Nw)), (q3, .inl (cI, 240, .inl Rr)), (q4, .inl (cI, 2880, .inl Sn)), (q5, .inl (cI, 4, .inl In)), (q6, .inl (cI, 500, .inl Pd)), (q7, .inl (cI, 500, .inl Rt)), (q8, .inl (cI, 10000, .inl Rw))]) hx hb hts in_X9_refund_9 tyX9 tyX9_ok nmX9 hown hK hP hD hS 0 0 rfl rfl (by decide) (List.mem_of_getElem? (i := 1) rfl) rfl rfl rfl (Nat.le_of_ble_eq_true rfl) dX9_refund_2 rfl (fun H_ lc_ hP hD hS => ?_)
  refine lv_iload_n hx hb dX9_refund_5 rfl (lv_at hl 1 rfl) ?_
  refine lv_iconst (v := 0) hx hb dX9_refund_6 (by decide) ?_
  refine lv_aload_n hx hb dX9_refund_7 rfl (lv_at hl 0 rfl) ?_
  refine g_get (C := RX9) (T := TX9) (N := 20) (ci := 9) (index := 64) hx hb hts in_X9_refund_9 hown hK hP 0 11 rfl rfl (by decide) (List.mem_of_getElem? (i := 2) rfl) rfl dX9_refund_8 ?_
  refine lv_iconst (v := 2) hx hb dX9_refund_11 (by decide) ?_
  refine g_iald hx hb hK hP 2 0 rfl rfl 2 (rfl) (by omega) (by omega) dX9_refund_12 ?_
  refine rd_S (As := [.int d, .int 0, .int (Nw 2)]) (rest := []) (kX9_isIn l D cI cB d 0 (Nw 2) ) ⟨hx, hb, hml, hown, hts⟩ (va_cwS 3 hts gX9_refund_X9_isIn rfl rfl rfl (by decide +kernel) ⟨Nat.le_of_ble_eq_true rfl, Nat.le_of_ble_eq_true rfl⟩) hK hP [] rfl rfl rfl hl.1 (Nat.le_of_ble_eq_true rfl) dX9_refund_13 ⟨Nat.le_refl _, Nat.le_refl _⟩ ?_
  refine lv_if_eq (tgt := 29) hx hb dX9_refund_16 (by decide) (fun c16 => ?_) (fun c16 => ?_)
  · have hno : ¬ okR d (Nw 2) a (anyL (frC Nw ns ni np nb) a d.toNatClampNeg (ed + 1 - d.toNatClampNeg)) nb := fun z => by first | exact z.1 c16 | exact z.2.1 c26
    refine lv_iconst (v := -1) hx hb dX9_refund_29 (by decide) ?_
    exact hret _ _ _ _ ls hS (⟨(In), by simpa only [if_neg hno] using hP⟩) (by rw [if_pos c16]) dX9_refund_30
  · refine lv_iload_n hx hb dX9_refund_19 rfl (lv_at hl 2 rfl) ?_
    refine lv_iconst (v := 1) hx hb dX9_refund_20 (by decide) ?_
    refine lv_ldc (v := 99999) hx hb hown (hts (.constant RX9 99 (99999)) (List.mem_of_getElem? (i := 3) rfl)) dX9_refund_21 ?_
    refine rd_S (As := [.int a, .int 1, .int 99999]) (rest := []) (kX9_isIn l D cI cB a 1 99999 ) ⟨hx, hb, hml, hown, hts⟩ (va_cwS 3 hts gX9_refund_X9_isIn rfl rfl rfl (by decide +kernel) ⟨Nat.le_of_ble_eq_true rfl, Nat.le_of_ble_eq_true rfl⟩) hK hP [] rfl rfl rfl hl.1 (Nat.le_of_ble_eq_true rfl) dX9_refund_23 ⟨Nat.le_refl _, Nat.le_refl _⟩ ?_
    refine lv_if_ne (tgt := 31) hx hb dX9_refund_26 (by decide) (fun c26 => ?_) (fun c26 => ?_)
    · have hq0 := c16
      rw [hed] at hq0
      obtain ⟨q, hq, rfl⟩ := isInM_nI (by omega) hq0
      have hcl : (nI q).toNatClampNeg = q := nI_clamp (by omega)
      refine lv_aload_n hx hb dX9_refund_31 rfl (lv_at hl 0 rfl) ?_
      refine wp_V (As := []) (rest := []) (ci := 9) (ws' := [(mo, .inr (9, [.int 0, .ref q1, .int tn, .int sz, .int tt, .int fm, .int so, .int nu, .int fau, .int plc, .long wd, .ref q2, .ref q3, .ref q4, .int (nI n), .ref q5, .ref q6, .ref q7, .ref q8, .int rm])), (q1, .inl (cI, 840, .inl Tp)), (q2, .inl (cI, 240, .inl Nw)), (q3, .inl (cI, 240, .inl Rr)), (q4, .inl (cI, 2880, .inl Sn)), (q5, .inl (cI, 4, .inl (ov (inM (lsM Nw ns ni (Nw 239))) In 4))), (q6, .inl (cI, 500, .inl Pd)), (q7, .inl (cI, 500, .inl Rt)), (q8, .inl (cI, 10000, .inl Rw))]) (kX9_laysInstalments_ l D cI cB mo q1 q2 q3 q4 q5 q6 q7 q8 0 tn sz tt fm so nu fau plc wd (nI n) rm Tp Nw Rr Sn In Pd Rt Rw ns nr ni np nb (by assumption) (by assumption)) ⟨hx, hb, hml, hown, hts⟩ (cwV 0 hts gX9_refund_X9_laysInstalments_ rfl rfl rfl (by decide +kernel) ⟨Nat.le_of_ble_eq_true rfl, Nat.le_of_ble_eq_true rfl⟩) hK hP hD hS [0, 1, 2, 3, 4, 5, 6, 7, 8] [] rfl rfl (two_eq [] rfl rfl) 9 rfl (by decide +kernel) (by decide +kernel) (two_eq [mo, q1, q2, q3, q4, q5, q6, q7, q8] rfl rfl) (by decide +kernel) 0 rfl rfl rfl rfl hl.1 (Nat.le_of_ble_eq_true rfl) dX9_refund_32 ⟨Nat.le_refl _, Nat.le_refl _⟩ (fun H_ lc_ hP hD hS => ?_)
      show W p_ l e_ (RM 6 137) s_ m_ ar_ be_ me_ co_ H_ lc_ 0 0 Q_ (F0 m_ 35 ls [])
      refine lv_iload_n hx hb dX9_refund_35 rfl (lv_at hl 1 rfl) ?_
      refine lv_istore_n (lv' := [(3, .int (nI q)), (0, .ref mo), (1, .int (nI q)), (2, .int a)]) hx hb dX9_refund_36 rfl hl (by decide) rfl (fun ls hl => ?_)
      have L37 : ∀ (nn_ : Nat) (i : Nat) (hi : i ≤ ed + 1 - q) (hany : anyL (frC Nw ns ni np nb) a q i = false) (xx_v3 : Int32), (501 - (q + i)) < nn_ → xx_v3 = nI (q + i) → ∀ (H_ : Heap) (lc_ : List Loc), va_P D vwCl [(mo, .inr (9, [.int 0, .ref q1, .int tn, .int sz, .int tt, .int fm, .int so, .int nu, .int fau, .int plc, .long wd, .ref q2, .ref q3, .ref q4, .int (nI n), .ref q5, .ref q6, .ref q7, .ref q8, .int rm])), (q1, .inl (cI, 840, .inl Tp)), (q2, .inl (cI, 240, .inl Nw)), (q3, .inl (cI, 240, .inl Rr)), (q4, .inl (cI, 2880, .inl Sn)), (q5, .inl (cI, 4, .inl (ov (inM (lsM Nw ns ni (Nw 239))) In 4))), (q6, .inl (cI, 500, .inl Pd)), (q7, .inl (cI, 500, .inl Rt)), (q8, .inl (cI, 10000, .inl Rw))] H_ → va_D A_ [(mo, .inr (9, [.int 0, .ref q1, .int tn, .int sz, .int tt, .int fm, .int so, .int nu, .int fau, .int plc, .long wd, .ref q2, .ref q3, .ref q4, .int (nI n), .ref q5, .ref q6, .ref q7, .ref q8, .int rm])), (q1, .inl (cI, 840, .inl Tp)), (q2, .inl (cI, 240, .inl Nw)), (q3, .inl (cI, 240, .inl Rr)), (q4, .inl (cI, 2880, .inl Sn)), (q5, .inl (cI, 4, .inl (ov (inM (lsM Nw ns ni (Nw 239))) In 4))), (q6, .inl (cI, 500, .inl Pd)), (q7, .inl (cI, 500, .inl Rt)), (q8, .inl (cI, 10000, .inl Rw))] → va_S A_ s_.heap H_ lc_ → ∀ (ls : Array Slot), lv_has ls 4 [(0, .ref mo), (1, .int (nI q)), (2, .int a), (3, .int xx_v3)] → W p_ l e_ (RM 6 137) s_ m_ ar_ be_ me_ co_ H_ lc_ 0 0 Q_ (F0 m_ 37 ls []) := by
        intro nn_
        induction nn_ with
        | zero => intro i hi hany xx_v3 hn_; exact absurd hn_ (Nat.not_lt_zero _)
        | succ nn_ ih37 =>
          intro i hi hany xx_v3 hn_ e_xx_v3 H_ lc_ hP hD hS ls hl
          subst e_xx_v3
          refine lv_iload_n hx hb dX9_refund_37 rfl (lv_at hl 3 rfl) ?_
          refine lv_aload_n hx hb dX9_refund_38 rfl (lv_at hl 0 rfl) ?_
          refine g_get (C := RX9) (T := TX9) (N := 20) (ci := 9) (index := 64) hx hb hts in_X9_refund_9 hown hK hP 0 11 rfl rfl (by decide) (List.mem_of_getElem? (i := 2) rfl) rfl dX9_refund_39 ?_
          refine lv_iconst (v := 2) hx hb dX9_refund_42 (by decide) ?_
          refine g_iald hx hb hK hP 2 0 rfl rfl 2 (rfl) (by omega) (by omega) dX9_refund_43 ?_
          rw [show (Nw 2 : Int32) = nI ed from hed]
          refine lv_icmp_gt (tgt := 64) hx hb dX9_refund_44 (by decide) (fun c44 => ?_) (fun c44 => ?_)
          · have hlow : (anyL (frC Nw ns ni np nb) a q (ed + 1 - q)) = false := by have z := lt_nI' (a := ed) (b := q + i) c44 (by omega) (by omega); rw [← hany, show ed + 1 - q = i by omega]
            refine lv_aload_n hx hb dX9_refund_64 rfl (lv_at hl 0 rfl) ?_
            refine g_get (C := RX9) (T := TX9) (N := 20) (ci := 9) (index := 64) hx hb hts in_X9_refund_9 hown hK hP 0 11 rfl rfl (by decide) (List.mem_of_getElem? (i := 2) rfl) rfl dX9_refund_65 ?_
            refine lv_sipush (v := 198) hx hb dX9_refund_68 (by decide) ?_
            refine g_iald hx hb hK hP 2 0 rfl rfl 198 (rfl) (by omega) (by omega) dX9_refund_71 ?_
            rw [show (Nw 198 : Int32) = nI nb from h198]
            refine lv_bipush (v := 20) hx hb dX9_refund_72 (by decide) ?_
            refine lv_icmp_ne (tgt := 80) hx hb dX9_refund_74 (by decide) (fun c74 => ?_) (fun c74 => ?_)
            · have h20 : nb < 20 := by have q9 : ¬ nb = 20 := fun z => c74 ((nI_eq (b := 20) (by omega) (by omega)).mpr z); omega
              have hyes : okR (nI q) (Nw 2) a (anyL (frC Nw ns ni np nb) a (nI q).toNatClampNeg (ed + 1 - (nI q).toNatClampNeg)) nb := ⟨c16, c26, by rw [hcl]; exact hlow, h20⟩
              refine lv_aload_n hx hb dX9_refund_80 rfl (lv_at hl 0 rfl) ?_
              refine lv_sipush (v := 198) hx hb dX9_refund_81 (by decide) ?_
              refine lv_iload_n hx hb dX9_refund_84 rfl (lv_at hl 1 rfl) ?_
              refine lv_iload_n hx hb dX9_refund_85 rfl (lv_at hl 2 rfl) ?_
              refine wp_V (As := [.int 198, .int (nI q), .int a]) (rest := []) (ci := 9) (ws' := [(mo, .inr (9, [.int 0, .ref q1, .int tn, .int sz, .int tt, .int fm, .int so, .int nu, .int fau, .int plc, .long wd, .ref q2, .ref q3, .ref q4, .int (nI (kpN n)), .ref q5, .ref q6, .ref q7, .ref q8, .int rm])), (q1, .inl (cI, 840, .inl Tp)), (q2, .inl (cI, 240, .inl (adN Nw 198 nb (nI q) a))), (q3, .inl (cI, 240, .inl Rr)), (q4, .inl (cI, 2880, .inl (snP Sn Nw n))), (q5, .inl (cI, 4, .inl (ov (inM (lsM Nw ns ni (Nw 239))) In 4))), (q6, .inl (cI, 500, .inl Pd)), (q7, .inl (cI, 500, .inl Rt)), (q8, .inl (cI, 10000, .inl Rw))]) (kX9_adds l D cI cB mo q1 q2 q3 q4 q5 q6 q7 q8 0 tn sz tt fm so nu fau plc wd rm Tp Nw Rr Sn (ov (inM (lsM Nw ns ni (Nw 239))) In 4) Pd Rt Rw n 198 nb (nI q) a (hn) (h198) (by omega)) ⟨hx, hb, hml, hown, hts⟩ (cwV 3 hts gX9_refund_X9_adds rfl rfl rfl (by decide +kernel) ⟨Nat.le_of_ble_eq_true rfl, Nat.le_of_ble_eq_true rfl⟩) hK hP hD hS [0, 1, 2, 3, 4, 5, 6, 7, 8] [] rfl rfl (two_eq [] rfl rfl) 9 rfl (by decide +kernel) (by decide +kernel) (two_eq [mo, q1, q2, q3, q4, q5, q6, q7, q8] rfl rfl) (by decide +kernel) 0 rfl rfl rfl rfl hl.1 (Nat.le_of_ble_eq_true rfl) dX9_refund_86 ⟨Nat.le_refl _, Nat.le_refl _⟩ (fun H_ lc_ hP hD hS => ?_)
              show W p_ l e_ (RM 6 137) s_ m_ ar_ be_ me_ co_ H_ lc_ 0 0 Q_ (F0 m_ 89 ls [])
              refine lv_aload_n hx hb dX9_refund_89 rfl (lv_at hl 0 rfl) ?_
              refine lv_iload_n hx hb dX9_refund_90 rfl (lv_at hl 1 rfl) ?_
              refine rd_V (As := [.int (nI q)]) (rest := []) (ci := 9) (kX9_freeAt l D cI cB mo q1 q2 q3 q4 q5 q6 q7 q8 0 tn sz tt fm so nu fau plc wd (nI (kpN n)) rm Tp (adN Nw 198 nb (nI q) a) Rr (snP Sn Nw n) (ov (inM (lsM Nw ns ni (Nw 239))) In 4) Pd Rt Rw ns nr ni np (nb + 1) (nI q) (cnt_198 hcn h20)) ⟨hx, hb, hml, hown, hts⟩ (cwV 1 hts gX9_refund_X9_freeAt rfl rfl rfl (by decide +kernel) ⟨Nat.le_of_ble_eq_true rfl, Nat.le_of_ble_eq_true rfl⟩) hK hP [0, 1, 2, 3, 4, 5, 6, 7, 8] rfl 0 rfl rfl rfl rfl hl.1 (Nat.le_of_ble_eq_true rfl) dX9_refund_91 ⟨Nat.le_refl _, Nat.le_refl _⟩ ?_
              rw [show (posM (frM (adN Nw 198 nb (nI q) a) (ov (inM (lsM Nw ns ni (Nw 239))) In 4) (nI q) (paM (adN Nw 198 nb (nI q) a) np (nb + 1) (nI q)) 4) : Int32) = posM (frM (adN Nw 198 nb (nI q) a) (inM (lsM Nw ns ni (Nw 239))) (nI q) (paM (adN Nw 198 nb (nI q) a) np (nb + 1) (nI q)) 4) from by rw [frM_ov _ _ _ _ _ 4 (by omega)]]
              exact hret _ _ _ _ ls hS (⟨(ov (inM (lsM Nw ns ni (Nw 239))) In 4), by simpa only [if_pos hyes] using hP⟩) (by rw [if_neg c16, if_neg c26, hcl, if_neg (by rw [hlow]; decide), if_pos h20]) dX9_refund_94
            · have h20 : ¬ nb < 20 := by have z := (nI_eq (b := 20) (by omega) (by omega)).mp c74; omega
              have hno : ¬ okR (nI q) (Nw 2) a (anyL (frC Nw ns ni np nb) a (nI q).toNatClampNeg (ed + 1 - (nI q).toNatClampNeg)) nb := fun z => h20 z.2.2.2
              refine lv_bipush (v := -2) hx hb dX9_refund_77 (by decide) ?_
              exact hret _ _ _ _ ls hS (⟨(ov (inM (lsM Nw ns ni (Nw 239))) In 4), by simpa only [if_neg hno] using hP⟩) (by rw [if_neg c16, if_neg c26, hcl, if_neg (by rw [hlow]; decide), if_neg h20]) dX9_refund_79
          · have hlt : q + i ≤ ed := ge_nI' (a := ed) (b := q + i) c44 (by omega) (by omega)
            refine lv_aload_n hx hb dX9_refund_47 rfl (lv_at hl 0 rfl) ?_
            refine lv_iload_n hx hb dX9_refund_48 rfl (lv_at hl 3 rfl) ?_
            refine rd_V (As := [.int (nI (q + i))]) (rest := []) (ci := 9) (kX9_freeAt l D cI cB mo q1 q2 q3 q4 q5 q6 q7 q8 0 tn sz tt fm so nu fau plc wd (nI n) rm Tp Nw Rr Sn (ov (inM (lsM Nw ns ni (Nw 239))) In 4) Pd Rt Rw ns nr ni np nb (nI (q + i)) (by assumption)) ⟨hx, hb, hml, hown, hts⟩ (cwV 1 hts gX9_refund_X9_freeAt rfl rfl rfl (by decide +kernel) ⟨Nat.le_of_ble_eq_true rfl, Nat.le_of_ble_eq_true rfl⟩) hK hP [0, 1, 2, 3, 4, 5, 6, 7, 8] rfl 0 rfl rfl rfl rfl hl.1 (Nat.le_of_ble_eq_true rfl) dX9_refund_49 ⟨Nat.le_refl _, Nat.le_refl _⟩ ?_
            rw [show (posM (frM Nw (ov (inM (lsM Nw ns ni (Nw 239))) In 4) (nI (q + i)) (paM Nw np nb (nI (q + i))) 4) : Int32) = frC Nw ns ni np nb (q + i) from by unfold frC; rw [frM_ov _ _ _ _ _ 4 (by omega)]]
            refine lv_iload_n hx hb dX9_refund_52 rfl (lv_at hl 2 rfl) ?_
            refine lv_icmp_ge (tgt := 58) hx hb dX9_refund_53 (by decide) (fun c53 => ?_) (fun c53 => ?_)
            · refine lv_iinc (v := nI ((q + i) + 1)) (lv' := [(3, .int (nI ((q + i) + 1))), (0, .ref mo), (1, .int (nI q)), (2, .int a)]) hx hb dX9_refund_58 hl (k := 3) rfl (nI_add _ 1) (by decide) rfl (fun ls hl => ?_)
              refine lv_goto (tgt := 37) hx hb dX9_refund_61 (by decide) ?_
              exact ih37 (i + 1) (by omega) (anyL_no hany (fun z => absurd c53 (Int32.not_le.mpr z))) _ (by omega) (rfl) _ _ hP hD hS ls (lv_sub hl [1, 2, 3, 0] rfl)
            · have hhit : (anyL (frC Nw ns ni np nb) a q (ed + 1 - q)) = true := anyL_hit (i := i) (by omega) (Int32.not_le.mp c53)
              have hno : ¬ okR (nI q) (Nw 2) a (anyL (frC Nw ns ni np nb) a (nI q).toNatClampNeg (ed + 1 - (nI q).toNatClampNeg)) nb := fun z => by rw [hcl] at z; rw [hhit] at z; exact absurd z.2.2.1 (by decide)
              refine lv_iconst (v := -1) hx hb dX9_refund_56 (by decide) ?_
              exact hret _ _ _ _ ls hS (⟨(ov (inM (lsM Nw ns ni (Nw 239))) In 4), by simpa only [if_neg hno] using hP⟩) (by rw [if_neg c16, if_neg c26, hcl, if_pos hhit]) dX9_refund_57
      exact L37 (501 - (q + 0) + 1) 0 (by omega) (rfl) _ (Nat.lt_succ_self _) (rfl) _ _ hP hD hS ls (lv_sub hl [1, 2, 3, 0] rfl)
    · have hno : ¬ okR d (Nw 2) a (anyL (frC Nw ns ni np nb) a d.toNatClampNeg (ed + 1 - d.toNatClampNeg)) nb := fun z => by first | exact z.1 c16 | exact z.2.1 c26
      refine lv_iconst (v := -1) hx hb dX9_refund_29 (by decide) ?_
      exact hret _ _ _ _ ls hS (⟨(In), by simpa only [if_neg hno] using hP⟩) (by rw [if_neg c16, if_pos c26]) dX9_refund_30

