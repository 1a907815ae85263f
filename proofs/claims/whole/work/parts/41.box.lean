abbrev qq_Box_open (D : va_G) (cI cZ cL cQ : ClassId) (xb : Nat) (xl : Nat) (xm : Nat) (a : Nat) (al : Nat) (am : Nat) (aw : Nat) (ac : Nat) (ag : Nat) (ab : Nat) (n : Nat) (k : Nat) (bn0 : Int32) (bp : Int64) (bq : Int64) (pp : Int32) (qp : Int32) (lo : Nat → Int32) (hi : Nat → Int32) (bl : Nat → Int32) (bm : Nat → Int32) (A : Nat → Prop) : Array Value → State → Outcome → State → Prop := va_Qv (fun u : (Nat → Int32) × (Nat → Int32) => cp_ok u.1 lo 4 ∧ cp_ok u.2 hi 4) (fun (u : (Nat → Int32) × (Nat → Int32)) t => mm_B D kc_all [(cI, .int), (cZ, .boolean), (cL, .long), (cQ, .array .int)] A [(xb, .inr (5, [.ref xl, .ref xm, .int (nI n), .long pp.toInt64, .long qp.toInt64])), (xl, .inl (cI, 4, .inl u.1)), (xm, .inl (cI, 4, .inl u.2)), (a, .inr (0, [.int (nI n), .int (nI k), .ref al, .ref am, .ref aw, .ref ac, .ref ag, .ref ab])), (al, .inl (cI, 4, .inl lo)), (am, .inl (cI, 4, .inl hi))] t) A
set_option maxHeartbeats 4000000 in
set_option maxRecDepth 100000 in
theorem cc_Box_open (l : Launch) (D : va_G) (cI cZ cL cQ : ClassId) (sz : Nat) (xb : Nat) (xl : Nat) (xm : Nat) (a : Nat) (al : Nat) (am : Nat) (aw : Nat) (ac : Nat) (ag : Nat) (ab : Nat) (n : Nat) (k : Nat) (bn0 : Int32) (bp : Int64) (bq : Int64) (pp : Int32) (qp : Int32) (lo : Nat → Int32) (hi : Nat → Int32) (bl : Nat → Int32) (bm : Nat → Int32)  : Met l yy_Box_open ww_Box_open ({ frames := 0, cells := 0, slots := 0, locals := 0 } : Room) (mm_Pc D kc_all [(cI, .int), (cZ, .boolean), (cL, .long), (cQ, .array .int)] sz [(xb, .inr (5, [.ref xl, .ref xm, .int bn0, .long bp, .long bq])), (xl, .inl (cI, 4, .inl bl)), (xm, .inl (cI, 4, .inl bm)), (a, .inr (0, [.int (nI n), .int (nI k), .ref al, .ref am, .ref aw, .ref ac, .ref ag, .ref ab])), (al, .inl (cI, 4, .inl lo)), (am, .inl (cI, 4, .inl hi))] [.ref xb, .ref a, .int pp, .int qp]) (qq_Box_open D cI cZ cL cQ xb xl xm a al am aw ac ag ab n k bn0 bp bq pp qp lo hi bl bm (va_A [(xb, .inr (5, [.ref xl, .ref xm, .int bn0, .long bp, .long bq])), (xl, .inl (cI, 4, .inl bl)), (xm, .inl (cI, 4, .inl bm)), (a, .inr (0, [.int (nI n), .int (nI k), .ref al, .ref am, .ref aw, .ref ac, .ref ag, .ref ab])), (al, .inl (cI, 4, .inl lo)), (am, .inl (cI, 4, .inl hi))] sz)) 0 0 (va_A [(xb, .inr (5, [.ref xl, .ref xm, .int bn0, .long bp, .long bq])), (xl, .inl (cI, 4, .inl bl)), (xm, .inl (cI, 4, .inl bm)), (a, .inr (0, [.int (nI n), .int (nI k), .ref al, .ref am, .ref aw, .ref ac, .ref ag, .ref ab])), (al, .inl (cI, 4, .inl lo)), (am, .inl (cI, 4, .inl hi))] sz) := by
  refine Met.ofW (cc := bb_Box_open) (maxL := 5) (ret := none) (by decide) rfl ?_
  intro p e s m args below meth c s₁ B hml hv
  obtain ⟨rfl, hsz, hP, hK, hD0⟩ := hv
  have hx := B.exec
  have hb := B.bytes
  have hr := B.returns
  have hts := atoms_spec (ws := ww_Box_open) B.pre
  have hown : s.vm.findClass RR_Box = some m.cls := findClass_of_methodNamed B.named
  have hlocks := B.notSynchronized
  subst hsz
  have hD := hD0.self (sz := s.heap.size)
  generalize hAe : va_A [(xb, .inr (5, [.ref xl, .ref xm, .int bn0, .long bp, .long bq])), (xl, .inl (cI, 4, .inl bl)), (xm, .inl (cI, 4, .inl bm)), (a, .inr (0, [.int (nI n), .int (nI k), .ref al, .ref am, .ref aw, .ref ac, .ref ag, .ref ab])), (al, .inl (cI, 4, .inl lo)), (am, .inl (cI, 4, .inl hi))] s.heap.size = A at hD ⊢
  have hA : ∀ q : Nat, s.heap.size ≤ q → A q := fun q h => by rw [← hAe]; exact Or.inr h
  have hS : va_S A s.heap s.heap [] := va_S.rf
  have hP : va_P D kc_all [(xb, .inr (5, [.ref xl, .ref xm, .int bn0, .long bp, .long bq])), (xl, .inl (cI, 4, .inl bl)), (xm, .inl (cI, 4, .inl bm)), (a, .inr (0, [.int (nI n), .int (nI k), .ref al, .ref am, .ref aw, .ref ac, .ref ag, .ref ab])), (al, .inl (cI, 4, .inl lo)), (am, .inl (cI, 4, .inl hi))] s.heap := hP
  have hl := lv_entry ([.ref xb, .ref a, .int pp, .int qp]) (n := 5) (Nat.le_of_ble_eq_true rfl)
  rw [lg_entry_eq]
  generalize (lg_sl ([.ref xb, .ref a, .int pp, .int qp]) ++ List.replicate (5 - (lg_sl ([.ref xb, .ref a, .int pp, .int qp])).length) Slot.unset).toArray = ls at hl ⊢
  have hl : lv_has ls 5 [(0, .ref xb), (1, .ref a), (2, .int pp), (3, .int qp)] := hl
  have htb : ∀ w ∈ tb_all, w.before ([.ref xb, .ref a, .int pp, .int qp]).toArray s = true := fun w h => hts w (List.mem_cons_of_mem _ h)
  have hf_9 := htb _ fl_Box_9
  have hf_15 := htb _ fl_Box_15
  have hf_18 := htb _ fl_Box_18
  have hf_22 := htb _ fl_Box_22
  have hf_26 := htb _ fl_Box_26
  have hf_29 := htb _ fl_Box_29
  have hf_32 := htb _ fl_Box_32
  have hf_33 := htb _ fl_Box_33
  refine lv_aload_n hx hb dd_Box_open_0 rfl (lv_at hl 0 rfl) ?_
  refine lv_aload_n hx hb dd_Box_open_1 rfl (lv_at hl 1 rfl) ?_
  refine va_get (D := D) (ci := 0) (v := .int (nI n)) (C := RR_Problem) (T := FF_Problem) (N := 8) hx hb htb hi_Problem hown hK hP 3 rfl rfl 0 (by decide) hf_29 (fun _ h9 => h9) rfl dd_Box_open_2 ?_
  refine va_put (D := D) (ci := 5) (v := .int (nI n)) (ty := .int) (C := RR_Box) (T := FF_Box) (N := 5) hx hb htb hi_Box tt_Box tt_Box_ok nn_Box hown hK hP hD hS 0 rfl rfl 2 (by decide) hf_18 (fun _ h9 => h9) rfl (by decide +kernel) (rfl) (rfl) (Nat.le_of_ble_eq_true rfl) dd_Box_open_5 (fun H locs hP hD hS => ?_)
  have hP : va_P D kc_all [(xb, .inr (5, [.ref xl, .ref xm, .int (nI n), .long bp, .long bq])), (xl, .inl (cI, 4, .inl bl)), (xm, .inl (cI, 4, .inl bm)), (a, .inr (0, [.int (nI n), .int (nI k), .ref al, .ref am, .ref aw, .ref ac, .ref ag, .ref ab])), (al, .inl (cI, 4, .inl lo)), (am, .inl (cI, 4, .inl hi))] H := hP
  have hD : va_D A [(xb, .inr (5, [.ref xl, .ref xm, .int (nI n), .long bp, .long bq])), (xl, .inl (cI, 4, .inl bl)), (xm, .inl (cI, 4, .inl bm)), (a, .inr (0, [.int (nI n), .int (nI k), .ref al, .ref am, .ref aw, .ref ac, .ref ag, .ref ab])), (al, .inl (cI, 4, .inl lo)), (am, .inl (cI, 4, .inl hi))] := hD
  refine lv_aload_n hx hb dd_Box_open_8 rfl (lv_at hl 0 rfl) ?_
  refine lv_iload_n hx hb dd_Box_open_9 rfl (lv_at hl 2 rfl) ?_
  refine lv_i2l (v := pp.toInt64) hx hb dd_Box_open_10 rfl ?_
  refine va_put (D := D) (ci := 5) (v := .long pp.toInt64) (ty := .long) (C := RR_Box) (T := FF_Box) (N := 5) hx hb htb hi_Box tt_Box tt_Box_ok nn_Box hown hK hP hD hS 0 rfl rfl 3 (by decide) hf_22 (fun _ h9 => h9) rfl (by decide +kernel) (rfl) (rfl) (Nat.le_of_ble_eq_true rfl) dd_Box_open_11 (fun H locs hP hD hS => ?_)
  have hP : va_P D kc_all [(xb, .inr (5, [.ref xl, .ref xm, .int (nI n), .long pp.toInt64, .long bq])), (xl, .inl (cI, 4, .inl bl)), (xm, .inl (cI, 4, .inl bm)), (a, .inr (0, [.int (nI n), .int (nI k), .ref al, .ref am, .ref aw, .ref ac, .ref ag, .ref ab])), (al, .inl (cI, 4, .inl lo)), (am, .inl (cI, 4, .inl hi))] H := hP
  have hD : va_D A [(xb, .inr (5, [.ref xl, .ref xm, .int (nI n), .long pp.toInt64, .long bq])), (xl, .inl (cI, 4, .inl bl)), (xm, .inl (cI, 4, .inl bm)), (a, .inr (0, [.int (nI n), .int (nI k), .ref al, .ref am, .ref aw, .ref ac, .ref ag, .ref ab])), (al, .inl (cI, 4, .inl lo)), (am, .inl (cI, 4, .inl hi))] := hD
  refine lv_aload_n hx hb dd_Box_open_14 rfl (lv_at hl 0 rfl) ?_
  refine lv_iload_n hx hb dd_Box_open_15 rfl (lv_at hl 3 rfl) ?_
  refine lv_i2l (v := qp.toInt64) hx hb dd_Box_open_16 rfl ?_
  refine va_put (D := D) (ci := 5) (v := .long qp.toInt64) (ty := .long) (C := RR_Box) (T := FF_Box) (N := 5) hx hb htb hi_Box tt_Box tt_Box_ok nn_Box hown hK hP hD hS 0 rfl rfl 4 (by decide) hf_26 (fun _ h9 => h9) rfl (by decide +kernel) (rfl) (rfl) (Nat.le_of_ble_eq_true rfl) dd_Box_open_17 (fun H locs hP hD hS => ?_)
  have hP : va_P D kc_all [(xb, .inr (5, [.ref xl, .ref xm, .int (nI n), .long pp.toInt64, .long qp.toInt64])), (xl, .inl (cI, 4, .inl bl)), (xm, .inl (cI, 4, .inl bm)), (a, .inr (0, [.int (nI n), .int (nI k), .ref al, .ref am, .ref aw, .ref ac, .ref ag, .ref ab])), (al, .inl (cI, 4, .inl lo)), (am, .inl (cI, 4, .inl hi))] H := hP
  have hD : va_D A [(xb, .inr (5, [.ref xl, .ref xm, .int (nI n), .long pp.toInt64, .long qp.toInt64])), (xl, .inl (cI, 4, .inl bl)), (xm, .inl (cI, 4, .inl bm)), (a, .inr (0, [.int (nI n), .int (nI k), .ref al, .ref am, .ref aw, .ref ac, .ref ag, .ref ab])), (al, .inl (cI, 4, .inl lo)), (am, .inl (cI, 4, .inl hi))] := hD
  refine lv_iconst (v := 0) hx hb dd_Box_open_20 (by decide) ?_
  refine lv_istore (lv' := [(4, .int (0 : Int32)), (0, .ref xb), (1, .ref a), (2, .int pp), (3, .int qp)]) hx hb dd_Box_open_21 hl (by decide) rfl (fun ls hl => ?_)
  have J23 : ∀ (N : Nat) (j : Nat) (bl1 : Nat → Int32) (bm1 : Nat → Int32), (4 - j) < N → ∀ (hj : j ≤ 4) (hv : cp_ok bl1 lo j ∧ cp_ok bm1 hi j), ∀ (ls : Array Slot) (H : Heap) (locs : List Loc), lv_has ls 5 [(0, .ref xb), (1, .ref a), (4, .int (nI j))] → va_P D kc_all [(xb, .inr (5, [.ref xl, .ref xm, .int (nI n), .long pp.toInt64, .long qp.toInt64])), (xl, .inl (cI, 4, .inl bl1)), (xm, .inl (cI, 4, .inl bm1)), (a, .inr (0, [.int (nI n), .int (nI k), .ref al, .ref am, .ref aw, .ref ac, .ref ag, .ref ab])), (al, .inl (cI, 4, .inl lo)), (am, .inl (cI, 4, .inl hi))] H → va_D A [(xb, .inr (5, [.ref xl, .ref xm, .int (nI n), .long pp.toInt64, .long qp.toInt64])), (xl, .inl (cI, 4, .inl bl1)), (xm, .inl (cI, 4, .inl bm1)), (a, .inr (0, [.int (nI n), .int (nI k), .ref al, .ref am, .ref aw, .ref ac, .ref ag, .ref ab])), (al, .inl (cI, 4, .inl lo)), (am, .inl (cI, 4, .inl hi))] → va_S A s.heap H locs → W p l e (headSpec ww_Box_open ({ frames := 0, cells := 0, slots := 0, locals := 0 } : Room)).room s m ([.ref xb, .ref a, .int pp, .int qp]).toArray below meth c H locs 0 0 (MQ below (qq_Box_open D cI cZ cL cQ xb xl xm a al am aw ac ag ab n k bn0 bp bq pp qp lo hi bl bm A) ([.ref xb, .ref a, .int pp, .int qp]).toArray s 0 0 A) (F0 m 23 ls []) := by
    intro N
    induction N with
    | zero => intro j bl1 bm1 hN9; exact absurd hN9 (Nat.not_lt_zero _)
    | succ N IH23 =>
      intro j bl1 bm1 hN9 hj hv ls H locs hl hP hD hS
      refine lv_iload hx hb dd_Box_open_23 (lv_at hl 2 rfl) ?_
      refine lv_iconst (v := 4) hx hb dd_Box_open_25 (by decide) ?_
      refine lv_icmp_ge (tgt := 63) hx hb dd_Box_open_26 (by decide) (fun h26 => ?_) (fun h26 => ?_)
      · skip
        have h26 : 4 ≤ j := (nI_leI (a := 4) (b := j) (by omega) (by omega)).mp h26
        exact W.vret hx hb hr (fun t ht hW => ⟨⟨(bl1, bm1), rfl, by rw [show (4 : Nat) = j by omega]; exact hv, by rw [ht]; exact hP, va_K.moved hW.alike hK, hD⟩, hS.F ht⟩) hS.2.2 dd_Box_open_63
      · skip
        have h26 : ¬ (4 ≤ j) := fun q9 => h26 ((nI_leI (a := 4) (b := j) (by omega) (by omega)).mpr q9)
        refine lv_aload_n hx hb dd_Box_open_29 rfl (lv_at hl 0 rfl) ?_
        refine va_get (D := D) (ci := 5) (v := .ref xl) (C := RR_Box) (T := FF_Box) (N := 5) hx hb htb hi_Box hown hK hP 0 rfl rfl 0 (by decide) hf_9 (fun _ h9 => h9) rfl dd_Box_open_30 ?_
        refine lv_iload hx hb dd_Box_open_33 (lv_at hl 2 rfl) ?_
        refine lv_aload_n hx hb dd_Box_open_35 rfl (lv_at hl 1 rfl) ?_
        refine va_get (D := D) (ci := 0) (v := .ref al) (C := RR_Problem) (T := FF_Problem) (N := 8) hx hb htb hi_Problem hown hK hP 3 rfl rfl 2 (by decide) hf_32 (fun _ h9 => h9) rfl dd_Box_open_36 ?_
        refine lv_iload hx hb dd_Box_open_39 (lv_at hl 2 rfl) ?_
        refine mm_iald hx hb hK hP 4 0 rfl rfl (j) (rfl) (by omega) (by first | decide | omega) dd_Box_open_41 ?_
        refine mm_iast hx hb hK hP hD hS 1 0 rfl rfl (j) (rfl) (by omega) (by first | decide | omega) dd_Box_open_42 (fun H locs hP hD hS => ?_)
        have hP : va_P D kc_all [(xb, .inr (5, [.ref xl, .ref xm, .int (nI n), .long pp.toInt64, .long qp.toInt64])), (xl, .inl (cI, 4, .inl (upd bl1 j (lo j)))), (xm, .inl (cI, 4, .inl bm1)), (a, .inr (0, [.int (nI n), .int (nI k), .ref al, .ref am, .ref aw, .ref ac, .ref ag, .ref ab])), (al, .inl (cI, 4, .inl lo)), (am, .inl (cI, 4, .inl hi))] H := hP
        have hD : va_D A [(xb, .inr (5, [.ref xl, .ref xm, .int (nI n), .long pp.toInt64, .long qp.toInt64])), (xl, .inl (cI, 4, .inl (upd bl1 j (lo j)))), (xm, .inl (cI, 4, .inl bm1)), (a, .inr (0, [.int (nI n), .int (nI k), .ref al, .ref am, .ref aw, .ref ac, .ref ag, .ref ab])), (al, .inl (cI, 4, .inl lo)), (am, .inl (cI, 4, .inl hi))] := hD
        refine lv_aload_n hx hb dd_Box_open_43 rfl (lv_at hl 0 rfl) ?_
        refine va_get (D := D) (ci := 5) (v := .ref xm) (C := RR_Box) (T := FF_Box) (N := 5) hx hb htb hi_Box hown hK hP 0 rfl rfl 1 (by decide) hf_15 (fun _ h9 => h9) rfl dd_Box_open_44 ?_
        refine lv_iload hx hb dd_Box_open_47 (lv_at hl 2 rfl) ?_
        refine lv_aload_n hx hb dd_Box_open_49 rfl (lv_at hl 1 rfl) ?_
        refine va_get (D := D) (ci := 0) (v := .ref am) (C := RR_Problem) (T := FF_Problem) (N := 8) hx hb htb hi_Problem hown hK hP 3 rfl rfl 3 (by decide) hf_33 (fun _ h9 => h9) rfl dd_Box_open_50 ?_
        refine lv_iload hx hb dd_Box_open_53 (lv_at hl 2 rfl) ?_
        refine mm_iald hx hb hK hP 5 0 rfl rfl (j) (rfl) (by omega) (by first | decide | omega) dd_Box_open_55 ?_
        refine mm_iast hx hb hK hP hD hS 2 0 rfl rfl (j) (rfl) (by omega) (by first | decide | omega) dd_Box_open_56 (fun H locs hP hD hS => ?_)
        have hP : va_P D kc_all [(xb, .inr (5, [.ref xl, .ref xm, .int (nI n), .long pp.toInt64, .long qp.toInt64])), (xl, .inl (cI, 4, .inl (upd bl1 j (lo j)))), (xm, .inl (cI, 4, .inl (upd bm1 j (hi j)))), (a, .inr (0, [.int (nI n), .int (nI k), .ref al, .ref am, .ref aw, .ref ac, .ref ag, .ref ab])), (al, .inl (cI, 4, .inl lo)), (am, .inl (cI, 4, .inl hi))] H := hP
        have hD : va_D A [(xb, .inr (5, [.ref xl, .ref xm, .int (nI n), .long pp.toInt64, .long qp.toInt64])), (xl, .inl (cI, 4, .inl (upd bl1 j (lo j)))), (xm, .inl (cI, 4, .inl (upd bm1 j (hi j)))), (a, .inr (0, [.int (nI n), .int (nI k), .ref al, .ref am, .ref aw, .ref ac, .ref ag, .ref ab])), (al, .inl (cI, 4, .inl lo)), (am, .inl (cI, 4, .inl hi))] := hD
        refine lv_iinc (k := 2) (v := nI (j + 1)) (lv' := [(4, .int (nI (j + 1))), (0, .ref xb), (1, .ref a)]) hx hb dd_Box_open_57 hl rfl (nI_1 _) (by decide) rfl (fun ls hl => ?_)
        refine lv_goto (tgt := 23) hx hb dd_Box_open_60 (by decide) ?_
        exact IH23 (j + 1) (upd bl1 j (lo j)) (upd bm1 j (hi j)) (by omega) (by omega) (⟨cp_step hv.1, cp_step hv.2⟩) ls H locs (lv_sub hl [1, 2, 0] rfl) hP hD hS
  exact J23 _ 0 bl bm (Nat.lt_succ_self _) (by omega) (⟨cp_0, cp_0⟩) ls H locs (lv_sub hl [1, 2, 0] rfl) hP hD hS
abbrev qq_Box_lay (D : va_G) (cI cZ cL cQ : ClassId) (a : Nat) (al : Nat) (am : Nat) (aw : Nat) (ac : Nat) (ag : Nat) (ab : Nat) (n : Nat) (k : Nat) (an : Nat) (fr : Nat) (ar : Nat) (ro : Nat) (n1 : Nat) (n2 : Nat) (co : Nat → Int32) (rw : Nat → Nat) (M : Nat → Nat → Int32) (bd : Nat → Int32) (num : Nat → Int32) (R0 : Nat → Int64) (A : Nat → Prop) : Array Value → State → Outcome → State → Prop := va_Qv (fun u : (Nat → Int64) => er_ok u R0 ro num fr co M bd k) (fun (u : (Nat → Int64)) t => mm_B D kc_all [(cI, .int), (cZ, .boolean), (cL, .long), (cQ, .array .int)] A [(a, .inr (0, [.int (nI n), .int (nI k), .ref al, .ref am, .ref aw, .ref ac, .ref ag, .ref ab])), (ac, .inl (cI, 4, .inl co)), (ag, .inl (cQ, 6, .inr (.inr (.inr (.inr (fun i9 => some (rw i9))))))), (rw 0, .inl (cI, 4, .inl (M 0))), (rw 1, .inl (cI, 4, .inl (M 1))), (rw 2, .inl (cI, 4, .inl (M 2))), (rw 3, .inl (cI, 4, .inl (M 3))), (rw 4, .inl (cI, 4, .inl (M 4))), (rw 5, .inl (cI, 4, .inl (M 5))), (ab, .inl (cI, 6, .inl bd)), (an, .inl (cI, n1, .inl num)), (ar, .inl (cL, n2, .inr (.inl u)))] t) A
set_option maxHeartbeats 4000000 in
set_option maxRecDepth 100000 in
theorem cc_Box_lay (l : Launch) (D : va_G) (cI cZ cL cQ : ClassId) (sz : Nat) (a : Nat) (al : Nat) (am : Nat) (aw : Nat) (ac : Nat) (ag : Nat) (ab : Nat) (n : Nat) (k : Nat) (an : Nat) (fr : Nat) (ar : Nat) (ro : Nat) (n1 : Nat) (n2 : Nat) (co : Nat → Int32) (rw : Nat → Nat) (M : Nat → Nat → Int32) (bd : Nat → Int32) (num : Nat → Int32) (R0 : Nat → Int64) (hk : k ≤ 6) (h1 : fr + 7 ≤ n1 ∧ n1 < 100000) (h2 : ro + 6 ≤ n2 ∧ n2 < 100000) : Met l yy_Box_lay ww_Box_lay ({ frames := 0, cells := 0, slots := 0, locals := 0 } : Room) (mm_Pc D kc_all [(cI, .int), (cZ, .boolean), (cL, .long), (cQ, .array .int)] sz [(a, .inr (0, [.int (nI n), .int (nI k), .ref al, .ref am, .ref aw, .ref ac, .ref ag, .ref ab])), (ac, .inl (cI, 4, .inl co)), (ag, .inl (cQ, 6, .inr (.inr (.inr (.inr (fun i9 => some (rw i9))))))), (rw 0, .inl (cI, 4, .inl (M 0))), (rw 1, .inl (cI, 4, .inl (M 1))), (rw 2, .inl (cI, 4, .inl (M 2))), (rw 3, .inl (cI, 4, .inl (M 3))), (rw 4, .inl (cI, 4, .inl (M 4))), (rw 5, .inl (cI, 4, .inl (M 5))), (ab, .inl (cI, 6, .inl bd)), (an, .inl (cI, n1, .inl num)), (ar, .inl (cL, n2, .inr (.inl R0)))] [.ref a, .ref an, .int (nI fr), .ref ar, .int (nI ro)]) (qq_Box_lay D cI cZ cL cQ a al am aw ac ag ab n k an fr ar ro n1 n2 co rw M bd num R0 (va_A [(a, .inr (0, [.int (nI n), .int (nI k), .ref al, .ref am, .ref aw, .ref ac, .ref ag, .ref ab])), (ac, .inl (cI, 4, .inl co)), (ag, .inl (cQ, 6, .inr (.inr (.inr (.inr (fun i9 => some (rw i9))))))), (rw 0, .inl (cI, 4, .inl (M 0))), (rw 1, .inl (cI, 4, .inl (M 1))), (rw 2, .inl (cI, 4, .inl (M 2))), (rw 3, .inl (cI, 4, .inl (M 3))), (rw 4, .inl (cI, 4, .inl (M 4))), (rw 5, .inl (cI, 4, .inl (M 5))), (ab, .inl (cI, 6, .inl bd)), (an, .inl (cI, n1, .inl num)), (ar, .inl (cL, n2, .inr (.inl R0)))] sz)) 0 0 (va_A [(a, .inr (0, [.int (nI n), .int (nI k), .ref al, .ref am, .ref aw, .ref ac, .ref ag, .ref ab])), (ac, .inl (cI, 4, .inl co)), (ag, .inl (cQ, 6, .inr (.inr (.inr (.inr (fun i9 => some (rw i9))))))), (rw 0, .inl (cI, 4, .inl (M 0))), (rw 1, .inl (cI, 4, .inl (M 1))), (rw 2, .inl (cI, 4, .inl (M 2))), (rw 3, .inl (cI, 4, .inl (M 3))), (rw 4, .inl (cI, 4, .inl (M 4))), (rw 5, .inl (cI, 4, .inl (M 5))), (ab, .inl (cI, 6, .inl bd)), (an, .inl (cI, n1, .inl num)), (ar, .inl (cL, n2, .inr (.inl R0)))] sz) := by
  refine Met.ofW (cc := bb_Box_lay) (maxL := 11) (ret := none) (by decide) rfl ?_
  intro p e s m args below meth c s₁ B hml hv
  obtain ⟨rfl, hsz, hP, hK, hD0⟩ := hv
  have hx := B.exec
  have hb := B.bytes
  have hr := B.returns
  have hts := atoms_spec (ws := ww_Box_lay) B.pre
  have hown : s.vm.findClass RR_Box = some m.cls := findClass_of_methodNamed B.named
  have hlocks := B.notSynchronized
  subst hsz
  have hD := hD0.self (sz := s.heap.size)
  generalize hAe : va_A [(a, .inr (0, [.int (nI n), .int (nI k), .ref al, .ref am, .ref aw, .ref ac, .ref ag, .ref ab])), (ac, .inl (cI, 4, .inl co)), (ag, .inl (cQ, 6, .inr (.inr (.inr (.inr (fun i9 => some (rw i9))))))), (rw 0, .inl (cI, 4, .inl (M 0))), (rw 1, .inl (cI, 4, .inl (M 1))), (rw 2, .inl (cI, 4, .inl (M 2))), (rw 3, .inl (cI, 4, .inl (M 3))), (rw 4, .inl (cI, 4, .inl (M 4))), (rw 5, .inl (cI, 4, .inl (M 5))), (ab, .inl (cI, 6, .inl bd)), (an, .inl (cI, n1, .inl num)), (ar, .inl (cL, n2, .inr (.inl R0)))] s.heap.size = A at hD ⊢
  have hA : ∀ q : Nat, s.heap.size ≤ q → A q := fun q h => by rw [← hAe]; exact Or.inr h
  have hS : va_S A s.heap s.heap [] := va_S.rf
  have hP : va_P D kc_all [(a, .inr (0, [.int (nI n), .int (nI k), .ref al, .ref am, .ref aw, .ref ac, .ref ag, .ref ab])), (ac, .inl (cI, 4, .inl co)), (ag, .inl (cQ, 6, .inr (.inr (.inr (.inr (fun i9 => some (rw i9))))))), (rw 0, .inl (cI, 4, .inl (M 0))), (rw 1, .inl (cI, 4, .inl (M 1))), (rw 2, .inl (cI, 4, .inl (M 2))), (rw 3, .inl (cI, 4, .inl (M 3))), (rw 4, .inl (cI, 4, .inl (M 4))), (rw 5, .inl (cI, 4, .inl (M 5))), (ab, .inl (cI, 6, .inl bd)), (an, .inl (cI, n1, .inl num)), (ar, .inl (cL, n2, .inr (.inl R0)))] s.heap := hP
  have hl := lv_entry ([.ref a, .ref an, .int (nI fr), .ref ar, .int (nI ro)]) (n := 11) (Nat.le_of_ble_eq_true rfl)
  rw [lg_entry_eq]
  generalize (lg_sl ([.ref a, .ref an, .int (nI fr), .ref ar, .int (nI ro)]) ++ List.replicate (11 - (lg_sl ([.ref a, .ref an, .int (nI fr), .ref ar, .int (nI ro)])).length) Slot.unset).toArray = ls at hl ⊢
  have hl : lv_has ls 11 [(0, .ref a), (1, .ref an), (2, .int (nI fr)), (3, .ref ar), (4, .int (nI ro))] := hl
  have htb : ∀ w ∈ tb_all, w.before ([.ref a, .ref an, .int (nI fr), .ref ar, .int (nI ro)]).toArray s = true := fun w h => hts w (List.mem_cons_of_mem _ h)
  have hf_34 := htb _ fl_Box_34
  have hf_37 := htb _ fl_Box_37
  have hf_40 := htb _ fl_Box_40
  have hf_44 := htb _ fl_Box_44
  refine lv_aload_n hx hb dd_Box_lay_0 rfl (lv_at hl 1 rfl) ?_
  refine lv_iload_n hx hb dd_Box_lay_1 rfl (lv_at hl 2 rfl) ?_
  refine mm_iald hx hb hK hP 10 0 rfl rfl (fr) (rfl) (by omega) (by first | decide | omega) dd_Box_lay_2 ?_
  refine lv_i2l (v := (num fr).toInt64) hx hb dd_Box_lay_3 rfl ?_
  refine lv_lstore (lv' := [(5, .long ((num fr).toInt64)), (0, .ref a), (1, .ref an), (2, .int (nI fr)), (3, .ref ar), (4, .int (nI ro))]) hx hb dd_Box_lay_4 hl (by decide) rfl (fun ls hl => ?_)
  refine lv_aload_n hx hb dd_Box_lay_6 rfl (lv_at hl 4 rfl) ?_
  refine lv_iload hx hb dd_Box_lay_7 (lv_at hl 5 rfl) ?_
  refine lv_lload hx hb dd_Box_lay_9 (lv_at hl 0 rfl) ?_
  refine mm_last hx hb hK hP hD hS 11 2 rfl rfl (ro) (rfl) (by omega) (by first | decide | omega) dd_Box_lay_11 (fun H locs hP hD hS => ?_)
  have hP : va_P D kc_all [(a, .inr (0, [.int (nI n), .int (nI k), .ref al, .ref am, .ref aw, .ref ac, .ref ag, .ref ab])), (ac, .inl (cI, 4, .inl co)), (ag, .inl (cQ, 6, .inr (.inr (.inr (.inr (fun i9 => some (rw i9))))))), (rw 0, .inl (cI, 4, .inl (M 0))), (rw 1, .inl (cI, 4, .inl (M 1))), (rw 2, .inl (cI, 4, .inl (M 2))), (rw 3, .inl (cI, 4, .inl (M 3))), (rw 4, .inl (cI, 4, .inl (M 4))), (rw 5, .inl (cI, 4, .inl (M 5))), (ab, .inl (cI, 6, .inl bd)), (an, .inl (cI, n1, .inl num)), (ar, .inl (cL, n2, .inr (.inl (vp_updL R0 ro ((num fr).toInt64)))))] H := hP
  have hD : va_D A [(a, .inr (0, [.int (nI n), .int (nI k), .ref al, .ref am, .ref aw, .ref ac, .ref ag, .ref ab])), (ac, .inl (cI, 4, .inl co)), (ag, .inl (cQ, 6, .inr (.inr (.inr (.inr (fun i9 => some (rw i9))))))), (rw 0, .inl (cI, 4, .inl (M 0))), (rw 1, .inl (cI, 4, .inl (M 1))), (rw 2, .inl (cI, 4, .inl (M 2))), (rw 3, .inl (cI, 4, .inl (M 3))), (rw 4, .inl (cI, 4, .inl (M 4))), (rw 5, .inl (cI, 4, .inl (M 5))), (ab, .inl (cI, 6, .inl bd)), (an, .inl (cI, n1, .inl num)), (ar, .inl (cL, n2, .inr (.inl (vp_updL R0 ro ((num fr).toInt64)))))] := hD
  refine lv_iconst (v := 0) hx hb dd_Box_lay_12 (by decide) ?_
  refine lv_istore (lv' := [(7, .int (0 : Int32)), (5, .long ((num fr).toInt64)), (0, .ref a), (1, .ref an), (2, .int (nI fr)), (3, .ref ar), (4, .int (nI ro))]) hx hb dd_Box_lay_13 hl (by decide) rfl (fun ls hl => ?_)
  have J15 : ∀ (N : Nat) (j : Nat) (R1 : Nat → Int64), (4 - j) < N → ∀ (hj : j ≤ 4) (hv : er_part R1 R0 ro num fr co M k j), ∀ (ls : Array Slot) (H : Heap) (locs : List Loc), lv_has ls 11 [(0, .ref a), (1, .ref an), (2, .int (nI fr)), (3, .ref ar), (4, .int (nI ro)), (5, .long ((num fr).toInt64)), (7, .int (nI j))] → va_P D kc_all [(a, .inr (0, [.int (nI n), .int (nI k), .ref al, .ref am, .ref aw, .ref ac, .ref ag, .ref ab])), (ac, .inl (cI, 4, .inl co)), (ag, .inl (cQ, 6, .inr (.inr (.inr (.inr (fun i9 => some (rw i9))))))), (rw 0, .inl (cI, 4, .inl (M 0))), (rw 1, .inl (cI, 4, .inl (M 1))), (rw 2, .inl (cI, 4, .inl (M 2))), (rw 3, .inl (cI, 4, .inl (M 3))), (rw 4, .inl (cI, 4, .inl (M 4))), (rw 5, .inl (cI, 4, .inl (M 5))), (ab, .inl (cI, 6, .inl bd)), (an, .inl (cI, n1, .inl num)), (ar, .inl (cL, n2, .inr (.inl R1)))] H → va_D A [(a, .inr (0, [.int (nI n), .int (nI k), .ref al, .ref am, .ref aw, .ref ac, .ref ag, .ref ab])), (ac, .inl (cI, 4, .inl co)), (ag, .inl (cQ, 6, .inr (.inr (.inr (.inr (fun i9 => some (rw i9))))))), (rw 0, .inl (cI, 4, .inl (M 0))), (rw 1, .inl (cI, 4, .inl (M 1))), (rw 2, .inl (cI, 4, .inl (M 2))), (rw 3, .inl (cI, 4, .inl (M 3))), (rw 4, .inl (cI, 4, .inl (M 4))), (rw 5, .inl (cI, 4, .inl (M 5))), (ab, .inl (cI, 6, .inl bd)), (an, .inl (cI, n1, .inl num)), (ar, .inl (cL, n2, .inr (.inl R1)))] → va_S A s.heap H locs → W p l e (headSpec ww_Box_lay ({ frames := 0, cells := 0, slots := 0, locals := 0 } : Room)).room s m ([.ref a, .ref an, .int (nI fr), .ref ar, .int (nI ro)]).toArray below meth c H locs 0 0 (MQ below (qq_Box_lay D cI cZ cL cQ a al am aw ac ag ab n k an fr ar ro n1 n2 co rw M bd num R0 A) ([.ref a, .ref an, .int (nI fr), .ref ar, .int (nI ro)]).toArray s 0 0 A) (F0 m 15 ls []) := by
    intro N
    induction N with
    | zero => intro j R1 hN9; exact absurd hN9 (Nat.not_lt_zero _)
    | succ N IH15 =>
      intro j R1 hN9 hj hv ls H locs hl hP hD hS
      refine lv_iload hx hb dd_Box_lay_15 (lv_at hl 6 rfl) ?_
      refine lv_iconst (v := 4) hx hb dd_Box_lay_17 (by decide) ?_
      refine lv_icmp_ge (tgt := 95) hx hb dd_Box_lay_18 (by decide) (fun h18 => ?_) (fun h18 => ?_)
      · skip
        have h18 : 4 ≤ j := (nI_leI (a := 4) (b := j) (by omega) (by omega)).mp h18
        refine lv_lconst (v := 0) hx hb dd_Box_lay_95 (by decide) ?_
        refine lv_lstore (lv' := [(7, .long (0 : Int64)), (0, .ref a), (1, .ref an), (2, .int (nI fr)), (3, .ref ar), (4, .int (nI ro)), (5, .long ((num fr).toInt64))]) hx hb dd_Box_lay_96 hl (by decide) rfl (fun ls hl => ?_)
        refine lv_iconst (v := 0) hx hb dd_Box_lay_98 (by decide) ?_
        refine lv_istore (lv' := [(9, .int (0 : Int32)), (7, .long (0 : Int64)), (0, .ref a), (1, .ref an), (2, .int (nI fr)), (3, .ref ar), (4, .int (nI ro)), (5, .long ((num fr).toInt64))]) hx hb dd_Box_lay_99 hl (by decide) rfl (fun ls hl => ?_)
        have J101 : ∀ (N : Nat) (i : Nat), (k - i) < N → ∀ (hi : i ≤ k), ∀ (ls : Array Slot) (H : Heap) (locs : List Loc), lv_has ls 11 [(0, .ref a), (1, .ref an), (2, .int (nI fr)), (3, .ref ar), (4, .int (nI ro)), (7, .long (en_b num fr bd i)), (9, .int (nI i))] → va_P D kc_all [(a, .inr (0, [.int (nI n), .int (nI k), .ref al, .ref am, .ref aw, .ref ac, .ref ag, .ref ab])), (ac, .inl (cI, 4, .inl co)), (ag, .inl (cQ, 6, .inr (.inr (.inr (.inr (fun i9 => some (rw i9))))))), (rw 0, .inl (cI, 4, .inl (M 0))), (rw 1, .inl (cI, 4, .inl (M 1))), (rw 2, .inl (cI, 4, .inl (M 2))), (rw 3, .inl (cI, 4, .inl (M 3))), (rw 4, .inl (cI, 4, .inl (M 4))), (rw 5, .inl (cI, 4, .inl (M 5))), (ab, .inl (cI, 6, .inl bd)), (an, .inl (cI, n1, .inl num)), (ar, .inl (cL, n2, .inr (.inl R1)))] H → va_D A [(a, .inr (0, [.int (nI n), .int (nI k), .ref al, .ref am, .ref aw, .ref ac, .ref ag, .ref ab])), (ac, .inl (cI, 4, .inl co)), (ag, .inl (cQ, 6, .inr (.inr (.inr (.inr (fun i9 => some (rw i9))))))), (rw 0, .inl (cI, 4, .inl (M 0))), (rw 1, .inl (cI, 4, .inl (M 1))), (rw 2, .inl (cI, 4, .inl (M 2))), (rw 3, .inl (cI, 4, .inl (M 3))), (rw 4, .inl (cI, 4, .inl (M 4))), (rw 5, .inl (cI, 4, .inl (M 5))), (ab, .inl (cI, 6, .inl bd)), (an, .inl (cI, n1, .inl num)), (ar, .inl (cL, n2, .inr (.inl R1)))] → va_S A s.heap H locs → W p l e (headSpec ww_Box_lay ({ frames := 0, cells := 0, slots := 0, locals := 0 } : Room)).room s m ([.ref a, .ref an, .int (nI fr), .ref ar, .int (nI ro)]).toArray below meth c H locs 0 0 (MQ below (qq_Box_lay D cI cZ cL cQ a al am aw ac ag ab n k an fr ar ro n1 n2 co rw M bd num R0 A) ([.ref a, .ref an, .int (nI fr), .ref ar, .int (nI ro)]).toArray s 0 0 A) (F0 m 101 ls []) := by
          intro N
          induction N with
          | zero => intro i hN9; exact absurd hN9 (Nat.not_lt_zero _)
          | succ N IH101 =>
            intro i hN9 hi ls H locs hl hP hD hS
            refine lv_iload hx hb dd_Box_lay_101 (lv_at hl 6 rfl) ?_
            refine lv_aload_n hx hb dd_Box_lay_103 rfl (lv_at hl 0 rfl) ?_
            refine va_get (D := D) (ci := 0) (v := .int (nI k)) (C := RR_Problem) (T := FF_Problem) (N := 8) hx hb htb hi_Problem hown hK hP 0 rfl rfl 1 (by decide) hf_37 (fun _ h9 => h9) rfl dd_Box_lay_104 ?_
            refine lv_icmp_ge (tgt := 139) hx hb dd_Box_lay_107 (by decide) (fun h107 => ?_) (fun h107 => ?_)
            · skip
              have h107 : k ≤ i := (nI_leI (a := k) (b := i) (by omega) (by omega)).mp h107
              refine lv_aload_n hx hb dd_Box_lay_139 rfl (lv_at hl 3 rfl) ?_
              refine lv_iload hx hb dd_Box_lay_140 (lv_at hl 4 rfl) ?_
              refine lv_iconst (v := 1) hx hb dd_Box_lay_142 (by decide) ?_
              refine lv_iadd hx hb dd_Box_lay_143 ?_
              refine mm_topi (y := nI (ro + 1)) (nI_add ro 1) ?_
              refine lv_iconst (v := 4) hx hb dd_Box_lay_144 (by decide) ?_
              refine lv_iadd hx hb dd_Box_lay_145 ?_
              refine mm_topi (y := nI ((ro + 1) + 4)) (nI_add (ro + 1) 4) ?_
              refine lv_lload hx hb dd_Box_lay_146 (lv_at hl 5 rfl) ?_
              refine mm_last hx hb hK hP hD hS 11 2 rfl rfl ((ro + 1) + 4) (rfl) (by omega) (by first | decide | omega) dd_Box_lay_148 (fun H locs hP hD hS => ?_)
              have hP : va_P D kc_all [(a, .inr (0, [.int (nI n), .int (nI k), .ref al, .ref am, .ref aw, .ref ac, .ref ag, .ref ab])), (ac, .inl (cI, 4, .inl co)), (ag, .inl (cQ, 6, .inr (.inr (.inr (.inr (fun i9 => some (rw i9))))))), (rw 0, .inl (cI, 4, .inl (M 0))), (rw 1, .inl (cI, 4, .inl (M 1))), (rw 2, .inl (cI, 4, .inl (M 2))), (rw 3, .inl (cI, 4, .inl (M 3))), (rw 4, .inl (cI, 4, .inl (M 4))), (rw 5, .inl (cI, 4, .inl (M 5))), (ab, .inl (cI, 6, .inl bd)), (an, .inl (cI, n1, .inl num)), (ar, .inl (cL, n2, .inr (.inl (vp_updL R1 ((ro + 1) + 4) (en_b num fr bd i)))))] H := hP
              have hD : va_D A [(a, .inr (0, [.int (nI n), .int (nI k), .ref al, .ref am, .ref aw, .ref ac, .ref ag, .ref ab])), (ac, .inl (cI, 4, .inl co)), (ag, .inl (cQ, 6, .inr (.inr (.inr (.inr (fun i9 => some (rw i9))))))), (rw 0, .inl (cI, 4, .inl (M 0))), (rw 1, .inl (cI, 4, .inl (M 1))), (rw 2, .inl (cI, 4, .inl (M 2))), (rw 3, .inl (cI, 4, .inl (M 3))), (rw 4, .inl (cI, 4, .inl (M 4))), (rw 5, .inl (cI, 4, .inl (M 5))), (ab, .inl (cI, 6, .inl bd)), (an, .inl (cI, n1, .inl num)), (ar, .inl (cL, n2, .inr (.inl (vp_updL R1 ((ro + 1) + 4) (en_b num fr bd i)))))] := hD
              exact W.vret hx hb hr (fun t ht hW => ⟨⟨vp_updL R1 ((ro + 1) + 4) (en_b num fr bd i), rfl, er_end (by omega) (by omega) hv, by rw [ht]; exact hP, va_K.moved hW.alike hK, hD⟩, hS.F ht⟩) hS.2.2 dd_Box_lay_149
            · skip
              have h107 : ¬ (k ≤ i) := fun q9 => h107 ((nI_leI (a := k) (b := i) (by omega) (by omega)).mpr q9)
              refine lv_lload hx hb dd_Box_lay_110 (lv_at hl 5 rfl) ?_
              refine lv_aload_n hx hb dd_Box_lay_112 rfl (lv_at hl 1 rfl) ?_
              refine lv_iload_n hx hb dd_Box_lay_113 rfl (lv_at hl 2 rfl) ?_
              refine lv_iconst (v := 1) hx hb dd_Box_lay_114 (by decide) ?_
              refine lv_iadd hx hb dd_Box_lay_115 ?_
              refine mm_topi (y := nI (fr + 1)) (nI_add fr 1) ?_
              refine lv_iload hx hb dd_Box_lay_116 (lv_at hl 6 rfl) ?_
              refine lv_iadd hx hb dd_Box_lay_118 ?_
              refine mm_topi (y := nI ((fr + 1) + i)) (nI_add (fr + 1) i) ?_
              refine mm_iald hx hb hK hP 10 0 rfl rfl ((fr + 1) + i) (rfl) (by omega) (by first | decide | omega) dd_Box_lay_119 ?_
              refine lv_i2l (v := (num ((fr + 1) + i)).toInt64) hx hb dd_Box_lay_120 rfl ?_
              refine lv_aload_n hx hb dd_Box_lay_121 rfl (lv_at hl 0 rfl) ?_
              refine va_get (D := D) (ci := 0) (v := .ref ab) (C := RR_Problem) (T := FF_Problem) (N := 8) hx hb htb hi_Problem hown hK hP 0 rfl rfl 7 (by decide) hf_44 (fun _ h9 => h9) rfl dd_Box_lay_122 ?_
              refine lv_iload hx hb dd_Box_lay_125 (lv_at hl 6 rfl) ?_
              refine mm_iald hx hb hK hP 9 0 rfl rfl (i) (rfl) (by omega) (by first | decide | omega) dd_Box_lay_127 ?_
              refine lv_i2l (v := (bd i).toInt64) hx hb dd_Box_lay_128 rfl ?_
              refine lv_lmul hx hb dd_Box_lay_129 ?_
              refine lv_ladd hx hb dd_Box_lay_130 ?_
              refine lv_lstore (lv' := [(7, .long ((en_b num fr bd i) + (((num ((fr + 1) + i)).toInt64) * ((bd i).toInt64)))), (0, .ref a), (1, .ref an), (2, .int (nI fr)), (3, .ref ar), (4, .int (nI ro)), (9, .int (nI i))]) hx hb dd_Box_lay_131 hl (by decide) rfl (fun ls hl => ?_)
              refine lv_iinc (k := 6) (v := nI (i + 1)) (lv' := [(9, .int (nI (i + 1))), (7, .long ((en_b num fr bd i) + (((num ((fr + 1) + i)).toInt64) * ((bd i).toInt64)))), (0, .ref a), (1, .ref an), (2, .int (nI fr)), (3, .ref ar), (4, .int (nI ro))]) hx hb dd_Box_lay_133 hl rfl (nI_1 _) (by decide) rfl (fun ls hl => ?_)
              refine lv_goto (tgt := 101) hx hb dd_Box_lay_136 (by decide) ?_
              exact IH101 (i + 1) (by omega) (by omega) ls H locs (lv_sub hl [2, 3, 4, 5, 6, 1, 0] rfl) hP hD hS
        exact J101 _ 0 (Nat.lt_succ_self _) (by omega) ls H locs (lv_sub hl [2, 3, 4, 5, 6, 1, 0] rfl) hP hD hS
      · skip
        have h18 : ¬ (4 ≤ j) := fun q9 => h18 ((nI_leI (a := 4) (b := j) (by omega) (by omega)).mpr q9)
        refine lv_lload hx hb dd_Box_lay_21 (lv_at hl 5 rfl) ?_
        refine lv_aload_n hx hb dd_Box_lay_23 rfl (lv_at hl 0 rfl) ?_
        refine va_get (D := D) (ci := 0) (v := .ref ac) (C := RR_Problem) (T := FF_Problem) (N := 8) hx hb htb hi_Problem hown hK hP 0 rfl rfl 5 (by decide) hf_34 (fun _ h9 => h9) rfl dd_Box_lay_24 ?_
        refine lv_iload hx hb dd_Box_lay_27 (lv_at hl 6 rfl) ?_
        refine mm_iald hx hb hK hP 1 0 rfl rfl (j) (rfl) (by omega) (by first | decide | omega) dd_Box_lay_29 ?_
        refine lv_i2l (v := (co j).toInt64) hx hb dd_Box_lay_30 rfl ?_
        refine lv_lmul hx hb dd_Box_lay_31 ?_
        refine lv_lstore (lv' := [(8, .long (((num fr).toInt64) * ((co j).toInt64))), (0, .ref a), (1, .ref an), (2, .int (nI fr)), (3, .ref ar), (4, .int (nI ro)), (5, .long ((num fr).toInt64)), (7, .int (nI j))]) hx hb dd_Box_lay_32 hl (by decide) rfl (fun ls hl => ?_)
        refine lv_iconst (v := 0) hx hb dd_Box_lay_34 (by decide) ?_
        refine lv_istore (lv' := [(10, .int (0 : Int32)), (8, .long (((num fr).toInt64) * ((co j).toInt64))), (0, .ref a), (1, .ref an), (2, .int (nI fr)), (3, .ref ar), (4, .int (nI ro)), (5, .long ((num fr).toInt64)), (7, .int (nI j))]) hx hb dd_Box_lay_35 hl (by decide) rfl (fun ls hl => ?_)
        have J37 : ∀ (N : Nat) (i : Nat), (k - i) < N → ∀ (hi : i ≤ k), ∀ (ls : Array Slot) (H : Heap) (locs : List Loc), lv_has ls 11 [(0, .ref a), (1, .ref an), (2, .int (nI fr)), (3, .ref ar), (4, .int (nI ro)), (5, .long ((num fr).toInt64)), (7, .int (nI j)), (8, .long (en_e num fr (num fr).toInt64 (co j) (fun i9 => M i9 j) i)), (10, .int (nI i))] → va_P D kc_all [(a, .inr (0, [.int (nI n), .int (nI k), .ref al, .ref am, .ref aw, .ref ac, .ref ag, .ref ab])), (ac, .inl (cI, 4, .inl co)), (ag, .inl (cQ, 6, .inr (.inr (.inr (.inr (fun i9 => some (rw i9))))))), (rw 0, .inl (cI, 4, .inl (M 0))), (rw 1, .inl (cI, 4, .inl (M 1))), (rw 2, .inl (cI, 4, .inl (M 2))), (rw 3, .inl (cI, 4, .inl (M 3))), (rw 4, .inl (cI, 4, .inl (M 4))), (rw 5, .inl (cI, 4, .inl (M 5))), (ab, .inl (cI, 6, .inl bd)), (an, .inl (cI, n1, .inl num)), (ar, .inl (cL, n2, .inr (.inl R1)))] H → va_D A [(a, .inr (0, [.int (nI n), .int (nI k), .ref al, .ref am, .ref aw, .ref ac, .ref ag, .ref ab])), (ac, .inl (cI, 4, .inl co)), (ag, .inl (cQ, 6, .inr (.inr (.inr (.inr (fun i9 => some (rw i9))))))), (rw 0, .inl (cI, 4, .inl (M 0))), (rw 1, .inl (cI, 4, .inl (M 1))), (rw 2, .inl (cI, 4, .inl (M 2))), (rw 3, .inl (cI, 4, .inl (M 3))), (rw 4, .inl (cI, 4, .inl (M 4))), (rw 5, .inl (cI, 4, .inl (M 5))), (ab, .inl (cI, 6, .inl bd)), (an, .inl (cI, n1, .inl num)), (ar, .inl (cL, n2, .inr (.inl R1)))] → va_S A s.heap H locs → W p l e (headSpec ww_Box_lay ({ frames := 0, cells := 0, slots := 0, locals := 0 } : Room)).room s m ([.ref a, .ref an, .int (nI fr), .ref ar, .int (nI ro)]).toArray below meth c H locs 0 0 (MQ below (qq_Box_lay D cI cZ cL cQ a al am aw ac ag ab n k an fr ar ro n1 n2 co rw M bd num R0 A) ([.ref a, .ref an, .int (nI fr), .ref ar, .int (nI ro)]).toArray s 0 0 A) (F0 m 37 ls []) := by
          intro N
          induction N with
          | zero => intro i hN9; exact absurd hN9 (Nat.not_lt_zero _)
          | succ N IH37 =>
            intro i hN9 hi ls H locs hl hP hD hS
            refine lv_iload hx hb dd_Box_lay_37 (lv_at hl 8 rfl) ?_
            refine lv_aload_n hx hb dd_Box_lay_39 rfl (lv_at hl 0 rfl) ?_
            refine va_get (D := D) (ci := 0) (v := .int (nI k)) (C := RR_Problem) (T := FF_Problem) (N := 8) hx hb htb hi_Problem hown hK hP 0 rfl rfl 1 (by decide) hf_37 (fun _ h9 => h9) rfl dd_Box_lay_40 ?_
            refine lv_icmp_ge (tgt := 78) hx hb dd_Box_lay_43 (by decide) (fun h43 => ?_) (fun h43 => ?_)
            · skip
              have h43 : k ≤ i := (nI_leI (a := k) (b := i) (by omega) (by omega)).mp h43
              refine lv_aload_n hx hb dd_Box_lay_78 rfl (lv_at hl 3 rfl) ?_
              refine lv_iload hx hb dd_Box_lay_79 (lv_at hl 4 rfl) ?_
              refine lv_iconst (v := 1) hx hb dd_Box_lay_81 (by decide) ?_
              refine lv_iadd hx hb dd_Box_lay_82 ?_
              refine mm_topi (y := nI (ro + 1)) (nI_add ro 1) ?_
              refine lv_iload hx hb dd_Box_lay_83 (lv_at hl 6 rfl) ?_
              refine lv_iadd hx hb dd_Box_lay_85 ?_
              refine mm_topi (y := nI ((ro + 1) + j)) (nI_add (ro + 1) j) ?_
              refine lv_lload hx hb dd_Box_lay_86 (lv_at hl 7 rfl) ?_
              refine mm_last hx hb hK hP hD hS 11 2 rfl rfl ((ro + 1) + j) (rfl) (by omega) (by first | decide | omega) dd_Box_lay_88 (fun H locs hP hD hS => ?_)
              have hP : va_P D kc_all [(a, .inr (0, [.int (nI n), .int (nI k), .ref al, .ref am, .ref aw, .ref ac, .ref ag, .ref ab])), (ac, .inl (cI, 4, .inl co)), (ag, .inl (cQ, 6, .inr (.inr (.inr (.inr (fun i9 => some (rw i9))))))), (rw 0, .inl (cI, 4, .inl (M 0))), (rw 1, .inl (cI, 4, .inl (M 1))), (rw 2, .inl (cI, 4, .inl (M 2))), (rw 3, .inl (cI, 4, .inl (M 3))), (rw 4, .inl (cI, 4, .inl (M 4))), (rw 5, .inl (cI, 4, .inl (M 5))), (ab, .inl (cI, 6, .inl bd)), (an, .inl (cI, n1, .inl num)), (ar, .inl (cL, n2, .inr (.inl (vp_updL R1 ((ro + 1) + j) (en_e num fr (num fr).toInt64 (co j) (fun i9 => M i9 j) i)))))] H := hP
              have hD : va_D A [(a, .inr (0, [.int (nI n), .int (nI k), .ref al, .ref am, .ref aw, .ref ac, .ref ag, .ref ab])), (ac, .inl (cI, 4, .inl co)), (ag, .inl (cQ, 6, .inr (.inr (.inr (.inr (fun i9 => some (rw i9))))))), (rw 0, .inl (cI, 4, .inl (M 0))), (rw 1, .inl (cI, 4, .inl (M 1))), (rw 2, .inl (cI, 4, .inl (M 2))), (rw 3, .inl (cI, 4, .inl (M 3))), (rw 4, .inl (cI, 4, .inl (M 4))), (rw 5, .inl (cI, 4, .inl (M 5))), (ab, .inl (cI, 6, .inl bd)), (an, .inl (cI, n1, .inl num)), (ar, .inl (cL, n2, .inr (.inl (vp_updL R1 ((ro + 1) + j) (en_e num fr (num fr).toInt64 (co j) (fun i9 => M i9 j) i)))))] := hD
              refine lv_iinc (k := 6) (v := nI (j + 1)) (lv' := [(7, .int (nI (j + 1))), (0, .ref a), (1, .ref an), (2, .int (nI fr)), (3, .ref ar), (4, .int (nI ro)), (5, .long ((num fr).toInt64)), (8, .long (en_e num fr (num fr).toInt64 (co j) (fun i9 => M i9 j) i)), (10, .int (nI i))]) hx hb dd_Box_lay_89 hl rfl (nI_1 _) (by decide) rfl (fun ls hl => ?_)
              refine lv_goto (tgt := 15) hx hb dd_Box_lay_92 (by decide) ?_
              exact IH15 (j + 1) (vp_updL R1 ((ro + 1) + j) (en_e num fr (num fr).toInt64 (co j) (fun i9 => M i9 j) i)) (by omega) (by omega) (er_step (by omega) (by omega) hv) ls H locs (lv_sub hl [1, 2, 3, 4, 5, 6, 0] rfl) hP hD hS
            · skip
              have h43 : ¬ (k ≤ i) := fun q9 => h43 ((nI_leI (a := k) (b := i) (by omega) (by omega)).mpr q9)
              refine lv_lload hx hb dd_Box_lay_46 (lv_at hl 7 rfl) ?_
              refine lv_aload_n hx hb dd_Box_lay_48 rfl (lv_at hl 1 rfl) ?_
              refine lv_iload_n hx hb dd_Box_lay_49 rfl (lv_at hl 2 rfl) ?_
              refine lv_iconst (v := 1) hx hb dd_Box_lay_50 (by decide) ?_
              refine lv_iadd hx hb dd_Box_lay_51 ?_
              refine mm_topi (y := nI (fr + 1)) (nI_add fr 1) ?_
              refine lv_iload hx hb dd_Box_lay_52 (lv_at hl 8 rfl) ?_
              refine lv_iadd hx hb dd_Box_lay_54 ?_
              refine mm_topi (y := nI ((fr + 1) + i)) (nI_add (fr + 1) i) ?_
              refine mm_iald hx hb hK hP 10 0 rfl rfl ((fr + 1) + i) (rfl) (by omega) (by first | decide | omega) dd_Box_lay_55 ?_
              refine lv_i2l (v := (num ((fr + 1) + i)).toInt64) hx hb dd_Box_lay_56 rfl ?_
              refine lv_aload_n hx hb dd_Box_lay_57 rfl (lv_at hl 0 rfl) ?_
              refine va_get (D := D) (ci := 0) (v := .ref ag) (C := RR_Problem) (T := FF_Problem) (N := 8) hx hb htb hi_Problem hown hK hP 0 rfl rfl 6 (by decide) hf_40 (fun _ h9 => h9) rfl dd_Box_lay_58 ?_
              refine lv_iload hx hb dd_Box_lay_61 (lv_at hl 8 rfl) ?_
              refine mm_aald (r := rw i) hx hb hK hP 2 3 rfl rfl (i) (rfl) (by omega) (by decide) (rfl) dd_Box_lay_63 ?_
              refine lv_iload hx hb dd_Box_lay_64 (lv_at hl 6 rfl) ?_
              refine mm_iald hx hb hK hP (3 + (i)) 0 (f := M i) (mm_r6 (P := fun i9 => ([(a, .inr (0, [.int (nI n), .int (nI k), .ref al, .ref am, .ref aw, .ref ac, .ref ag, .ref ab])), (ac, .inl (cI, 4, .inl co)), (ag, .inl (cQ, 6, .inr (.inr (.inr (.inr (fun i9 => some (rw i9))))))), (rw 0, .inl (cI, 4, .inl (M 0))), (rw 1, .inl (cI, 4, .inl (M 1))), (rw 2, .inl (cI, 4, .inl (M 2))), (rw 3, .inl (cI, 4, .inl (M 3))), (rw 4, .inl (cI, 4, .inl (M 4))), (rw 5, .inl (cI, 4, .inl (M 5))), (ab, .inl (cI, 6, .inl bd)), (an, .inl (cI, n1, .inl num)), (ar, .inl (cL, n2, .inr (.inl R1)))] : va_W)[3 + i9]? = some (rw i9, .inl (cI, 4, .inl (M i9)))) (by omega) rfl rfl rfl rfl rfl rfl) rfl (j) (rfl) (by omega) (by decide) dd_Box_lay_66 ?_
              refine lv_i2l (v := (M i j).toInt64) hx hb dd_Box_lay_67 rfl ?_
              refine lv_lmul hx hb dd_Box_lay_68 ?_
              refine lv_ladd hx hb dd_Box_lay_69 ?_
              refine lv_lstore (lv' := [(8, .long ((en_e num fr (num fr).toInt64 (co j) (fun i9 => M i9 j) i) + (((num ((fr + 1) + i)).toInt64) * ((M i j).toInt64)))), (0, .ref a), (1, .ref an), (2, .int (nI fr)), (3, .ref ar), (4, .int (nI ro)), (5, .long ((num fr).toInt64)), (7, .int (nI j)), (10, .int (nI i))]) hx hb dd_Box_lay_70 hl (by decide) rfl (fun ls hl => ?_)
              refine lv_iinc (k := 8) (v := nI (i + 1)) (lv' := [(10, .int (nI (i + 1))), (8, .long ((en_e num fr (num fr).toInt64 (co j) (fun i9 => M i9 j) i) + (((num ((fr + 1) + i)).toInt64) * ((M i j).toInt64)))), (0, .ref a), (1, .ref an), (2, .int (nI fr)), (3, .ref ar), (4, .int (nI ro)), (5, .long ((num fr).toInt64)), (7, .int (nI j))]) hx hb dd_Box_lay_72 hl rfl (nI_1 _) (by decide) rfl (fun ls hl => ?_)
              refine lv_goto (tgt := 37) hx hb dd_Box_lay_75 (by decide) ?_
              exact IH37 (i + 1) (by omega) (by omega) ls H locs (lv_sub hl [2, 3, 4, 5, 6, 7, 8, 1, 0] rfl) hP hD hS
        exact J37 _ 0 (Nat.lt_succ_self _) (by omega) ls H locs (lv_sub hl [2, 3, 4, 5, 6, 7, 8, 1, 0] rfl) hP hD hS
  exact J15 _ 0 (vp_updL R0 ro ((num fr).toInt64)) (Nat.lt_succ_self _) (by omega) (er_0) ls H locs (lv_sub hl [2, 3, 4, 5, 6, 1, 0] rfl) hP hD hS
abbrev qq_Box_isEndedBy (D : va_G) (cI cZ cL cQ : ClassId) (xb : Nat) (xl : Nat) (xm : Nat) (bn : Nat) (bp : Int64) (bq : Int64) (ar : Nat) (ro : Nat) (n2 : Nat) (bl : Nat → Int32) (bm : Nat → Int32) (R : Nat → Int64) (A : Nat → Prop) : Array Value → State → Outcome → State → Prop := va_Qi (fun (r : Int32) (u : Unit) => (ie_ok R ro bl bm bn bp bq → r = 1) ∧ (¬ ie_ok R ro bl bm bn bp bq → r = 0)) (fun (u : Unit) t => mm_B D kc_all [(cI, .int), (cZ, .boolean), (cL, .long), (cQ, .array .int)] A [(xb, .inr (5, [.ref xl, .ref xm, .int (nI bn), .long bp, .long bq])), (xl, .inl (cI, 4, .inl bl)), (xm, .inl (cI, 4, .inl bm)), (ar, .inl (cL, n2, .inr (.inl R)))] t) A
set_option maxHeartbeats 4000000 in
set_option maxRecDepth 100000 in
theorem cc_Box_isEndedBy (l : Launch) (D : va_G) (cI cZ cL cQ : ClassId) (sz : Nat) (xb : Nat) (xl : Nat) (xm : Nat) (bn : Nat) (bp : Int64) (bq : Int64) (ar : Nat) (ro : Nat) (n2 : Nat) (bl : Nat → Int32) (bm : Nat → Int32) (R : Nat → Int64) (hn : bn ≤ 4) (h2 : ro + 6 ≤ n2 ∧ n2 < 100000) : Met l yy_Box_isEndedBy ww_Box_isEndedBy ({ frames := 0, cells := 0, slots := 0, locals := 0 } : Room) (mm_Pc D kc_all [(cI, .int), (cZ, .boolean), (cL, .long), (cQ, .array .int)] sz [(xb, .inr (5, [.ref xl, .ref xm, .int (nI bn), .long bp, .long bq])), (xl, .inl (cI, 4, .inl bl)), (xm, .inl (cI, 4, .inl bm)), (ar, .inl (cL, n2, .inr (.inl R)))] [.ref xb, .ref ar, .int (nI ro)]) (qq_Box_isEndedBy D cI cZ cL cQ xb xl xm bn bp bq ar ro n2 bl bm R (va_A [(xb, .inr (5, [.ref xl, .ref xm, .int (nI bn), .long bp, .long bq])), (xl, .inl (cI, 4, .inl bl)), (xm, .inl (cI, 4, .inl bm)), (ar, .inl (cL, n2, .inr (.inl R)))] sz)) 0 0 (va_A [(xb, .inr (5, [.ref xl, .ref xm, .int (nI bn), .long bp, .long bq])), (xl, .inl (cI, 4, .inl bl)), (xm, .inl (cI, 4, .inl bm)), (ar, .inl (cL, n2, .inr (.inl R)))] sz) := by
  refine Met.ofW (cc := bb_Box_isEndedBy) (maxL := 10) (ret := (some .boolean)) (by decide) rfl ?_
  intro p e s m args below meth c s₁ B hml hv
  obtain ⟨rfl, hsz, hP, hK, hD0⟩ := hv
  have hx := B.exec
  have hb := B.bytes
  have hr := B.returns
  have hts := atoms_spec (ws := ww_Box_isEndedBy) B.pre
  have hown : s.vm.findClass RR_Box = some m.cls := findClass_of_methodNamed B.named
  have hlocks := B.notSynchronized
  subst hsz
  have hD := hD0.self (sz := s.heap.size)
  generalize hAe : va_A [(xb, .inr (5, [.ref xl, .ref xm, .int (nI bn), .long bp, .long bq])), (xl, .inl (cI, 4, .inl bl)), (xm, .inl (cI, 4, .inl bm)), (ar, .inl (cL, n2, .inr (.inl R)))] s.heap.size = A at hD ⊢
  have hA : ∀ q : Nat, s.heap.size ≤ q → A q := fun q h => by rw [← hAe]; exact Or.inr h
  have hS : va_S A s.heap s.heap [] := va_S.rf
  have hP : va_P D kc_all [(xb, .inr (5, [.ref xl, .ref xm, .int (nI bn), .long bp, .long bq])), (xl, .inl (cI, 4, .inl bl)), (xm, .inl (cI, 4, .inl bm)), (ar, .inl (cL, n2, .inr (.inl R)))] s.heap := hP
  have hl := lv_entry ([.ref xb, .ref ar, .int (nI ro)]) (n := 10) (Nat.le_of_ble_eq_true rfl)
  rw [lg_entry_eq]
  generalize (lg_sl ([.ref xb, .ref ar, .int (nI ro)]) ++ List.replicate (10 - (lg_sl ([.ref xb, .ref ar, .int (nI ro)])).length) Slot.unset).toArray = ls at hl ⊢
  have hl : lv_has ls 10 [(0, .ref xb), (1, .ref ar), (2, .int (nI ro))] := hl
  have htb : ∀ w ∈ tb_all, w.before ([.ref xb, .ref ar, .int (nI ro)]).toArray s = true := fun w h => hts w (List.mem_cons_of_mem _ h)
  have hf_9 := htb _ fl_Box_9
  have hf_15 := htb _ fl_Box_15
  have hf_18 := htb _ fl_Box_18
  have hf_22 := htb _ fl_Box_22
  have hf_26 := htb _ fl_Box_26
  refine lv_aload_n hx hb dd_Box_isEndedBy_0 rfl (lv_at hl 1 rfl) ?_
  refine lv_iload_n hx hb dd_Box_isEndedBy_1 rfl (lv_at hl 2 rfl) ?_
  refine mm_lald hx hb hK hP 3 2 rfl rfl (ro) (rfl) (by omega) (by first | decide | omega) dd_Box_isEndedBy_2 ?_
  refine lv_lstore_n (lv' := [(3, .long (R ro)), (0, .ref xb), (1, .ref ar), (2, .int (nI ro))]) hx hb dd_Box_isEndedBy_3 rfl hl (by decide) rfl (fun ls hl => ?_)
  refine lv_aload_n hx hb dd_Box_isEndedBy_4 rfl (lv_at hl 2 rfl) ?_
  refine lv_iload_n hx hb dd_Box_isEndedBy_5 rfl (lv_at hl 3 rfl) ?_
  refine lv_iconst (v := 1) hx hb dd_Box_isEndedBy_6 (by decide) ?_
  refine lv_iadd hx hb dd_Box_isEndedBy_7 ?_
  refine mm_topi (y := nI (ro + 1)) (nI_add ro 1) ?_
  refine lv_iconst (v := 4) hx hb dd_Box_isEndedBy_8 (by decide) ?_
  refine lv_iadd hx hb dd_Box_isEndedBy_9 ?_
  refine mm_topi (y := nI ((ro + 1) + 4)) (nI_add (ro + 1) 4) ?_
  refine mm_lald hx hb hK hP 3 2 rfl rfl ((ro + 1) + 4) (rfl) (by omega) (by first | decide | omega) dd_Box_isEndedBy_10 ?_
  refine lv_lneg hx hb dd_Box_isEndedBy_11 ?_
  refine lv_lstore (lv' := [(5, .long (-(R ((ro + 1) + 4)))), (3, .long (R ro)), (0, .ref xb), (1, .ref ar), (2, .int (nI ro))]) hx hb dd_Box_isEndedBy_12 hl (by decide) rfl (fun ls hl => ?_)
  refine lv_iconst (v := 0) hx hb dd_Box_isEndedBy_14 (by decide) ?_
  refine lv_istore (lv' := [(7, .int (0 : Int32)), (5, .long (-(R ((ro + 1) + 4)))), (3, .long (R ro)), (0, .ref xb), (1, .ref ar), (2, .int (nI ro))]) hx hb dd_Box_isEndedBy_15 hl (by decide) rfl (fun ls hl => ?_)
  have J17 : ∀ (N : Nat) (j : Nat), (bn - j) < N → ∀ (hj : j ≤ bn), ∀ (ls : Array Slot) (H : Heap) (locs : List Loc), lv_has ls 10 [(0, .ref xb), (1, .ref ar), (2, .int (nI ro)), (3, .long (R ro)), (5, .long (ie_s R ro bl bm j)), (7, .int (nI j))] → va_P D kc_all [(xb, .inr (5, [.ref xl, .ref xm, .int (nI bn), .long bp, .long bq])), (xl, .inl (cI, 4, .inl bl)), (xm, .inl (cI, 4, .inl bm)), (ar, .inl (cL, n2, .inr (.inl R)))] H → va_D A [(xb, .inr (5, [.ref xl, .ref xm, .int (nI bn), .long bp, .long bq])), (xl, .inl (cI, 4, .inl bl)), (xm, .inl (cI, 4, .inl bm)), (ar, .inl (cL, n2, .inr (.inl R)))] → va_S A s.heap H locs → W p l e (headSpec ww_Box_isEndedBy ({ frames := 0, cells := 0, slots := 0, locals := 0 } : Room)).room s m ([.ref xb, .ref ar, .int (nI ro)]).toArray below meth c H locs 0 0 (MQ below (qq_Box_isEndedBy D cI cZ cL cQ xb xl xm bn bp bq ar ro n2 bl bm R A) ([.ref xb, .ref ar, .int (nI ro)]).toArray s 0 0 A) (F0 m 17 ls []) := by
    intro N
    induction N with
    | zero => intro j hN9; exact absurd hN9 (Nat.not_lt_zero _)
    | succ N IH17 =>
      intro j hN9 hj ls H locs hl hP hD hS
      refine lv_iload hx hb dd_Box_isEndedBy_17 (lv_at hl 5 rfl) ?_
      refine lv_aload_n hx hb dd_Box_isEndedBy_19 rfl (lv_at hl 0 rfl) ?_
      refine va_get (D := D) (ci := 5) (v := .int (nI bn)) (C := RR_Box) (T := FF_Box) (N := 5) hx hb htb hi_Box hown hK hP 0 rfl rfl 2 (by decide) hf_18 (fun _ h9 => h9) rfl dd_Box_isEndedBy_20 ?_
      refine lv_icmp_ge (tgt := 75) hx hb dd_Box_isEndedBy_23 (by decide) (fun h23 => ?_) (fun h23 => ?_)
      · skip
        have h23 : bn ≤ j := (nI_leI (a := bn) (b := j) (by omega) (by omega)).mp h23
        refine lv_lload_n hx hb dd_Box_isEndedBy_75 rfl (lv_at hl 3 rfl) ?_
        refine lv_lconst (v := 0) hx hb dd_Box_isEndedBy_76 (by decide) ?_
        refine W.lcmp hx hb dd_Box_isEndedBy_77 ?_
        refine lv_if_ne (tgt := 96) hx hb dd_Box_isEndedBy_78 (by decide) (fun h78 => ?_) (fun h78 => ?_)
        · skip
          rw [lg_cmp_eq (R ro) (0 : Int64)] at h78
          refine lv_aload_n hx hb dd_Box_isEndedBy_96 rfl (lv_at hl 0 rfl) ?_
          refine va_get (D := D) (ci := 5) (v := .long bq) (C := RR_Box) (T := FF_Box) (N := 5) hx hb htb hi_Box hown hK hP 0 rfl rfl 4 (by decide) hf_26 (fun _ h9 => h9) rfl dd_Box_isEndedBy_97 ?_
          refine lv_lload hx hb dd_Box_isEndedBy_100 (lv_at hl 4 rfl) ?_
          refine lv_lmul hx hb dd_Box_isEndedBy_102 ?_
          refine lv_lload_n hx hb dd_Box_isEndedBy_103 rfl (lv_at hl 3 rfl) ?_
          refine lv_aload_n hx hb dd_Box_isEndedBy_104 rfl (lv_at hl 0 rfl) ?_
          refine va_get (D := D) (ci := 5) (v := .long bp) (C := RR_Box) (T := FF_Box) (N := 5) hx hb htb hi_Box hown hK hP 0 rfl rfl 3 (by decide) hf_22 (fun _ h9 => h9) rfl dd_Box_isEndedBy_105 ?_
          refine lv_lmul hx hb dd_Box_isEndedBy_108 ?_
          refine W.lcmp hx hb dd_Box_isEndedBy_109 ?_
          refine lv_if_lt (tgt := 117) hx hb dd_Box_isEndedBy_110 (by decide) (fun h110 => ?_) (fun h110 => ?_)
          · skip
            rw [lg_cmp_lt (bq * (ie_s R ro bl bm j)) ((R ro) * bp)] at h110
            refine lv_iconst (v := 0) hx hb dd_Box_isEndedBy_117 (by decide) ?_
            exact W.zret (v := (0 : Int32)) hx hb hr (rfl) (fun t ht hW => ⟨⟨(0 : Int32), (), rfl, by first | exact ie_a (by omega) h78 h85 | exact ie_b (by omega) h78 h85 | exact ie_c (by omega) h78 h110 | exact ie_d (by omega) h78 h110, by rw [ht]; exact hP, va_K.moved hW.alike hK, hD⟩, hS.F ht⟩) hS.2.2 dd_Box_isEndedBy_118
          · skip
            rw [lg_cmp_lt (bq * (ie_s R ro bl bm j)) ((R ro) * bp)] at h110
            refine lv_iconst (v := 1) hx hb dd_Box_isEndedBy_113 (by decide) ?_
            refine lv_goto (tgt := 118) hx hb dd_Box_isEndedBy_114 (by decide) ?_
            exact W.zret (v := (1 : Int32)) hx hb hr (rfl) (fun t ht hW => ⟨⟨(1 : Int32), (), rfl, by first | exact ie_a (by omega) h78 h85 | exact ie_b (by omega) h78 h85 | exact ie_c (by omega) h78 h110 | exact ie_d (by omega) h78 h110, by rw [ht]; exact hP, va_K.moved hW.alike hK, hD⟩, hS.F ht⟩) hS.2.2 dd_Box_isEndedBy_118
        · skip
          rw [lg_cmp_eq (R ro) (0 : Int64)] at h78
          refine lv_lload hx hb dd_Box_isEndedBy_81 (lv_at hl 4 rfl) ?_
          refine lv_lconst (v := 0) hx hb dd_Box_isEndedBy_83 (by decide) ?_
          refine W.lcmp hx hb dd_Box_isEndedBy_84 ?_
          refine lv_if_le (tgt := 92) hx hb dd_Box_isEndedBy_85 (by decide) (fun h85 => ?_) (fun h85 => ?_)
          · skip
            rw [lg_cmp_le (ie_s R ro bl bm j) (0 : Int64)] at h85
            refine lv_iconst (v := 0) hx hb dd_Box_isEndedBy_92 (by decide) ?_
            refine lv_goto (tgt := 118) hx hb dd_Box_isEndedBy_93 (by decide) ?_
            exact W.zret (v := (0 : Int32)) hx hb hr (rfl) (fun t ht hW => ⟨⟨(0 : Int32), (), rfl, by first | exact ie_a (by omega) h78 h85 | exact ie_b (by omega) h78 h85 | exact ie_c (by omega) h78 h110 | exact ie_d (by omega) h78 h110, by rw [ht]; exact hP, va_K.moved hW.alike hK, hD⟩, hS.F ht⟩) hS.2.2 dd_Box_isEndedBy_118
          · skip
            rw [lg_cmp_le (ie_s R ro bl bm j) (0 : Int64)] at h85
            refine lv_iconst (v := 1) hx hb dd_Box_isEndedBy_88 (by decide) ?_
            refine lv_goto (tgt := 118) hx hb dd_Box_isEndedBy_89 (by decide) ?_
            exact W.zret (v := (1 : Int32)) hx hb hr (rfl) (fun t ht hW => ⟨⟨(1 : Int32), (), rfl, by first | exact ie_a (by omega) h78 h85 | exact ie_b (by omega) h78 h85 | exact ie_c (by omega) h78 h110 | exact ie_d (by omega) h78 h110, by rw [ht]; exact hP, va_K.moved hW.alike hK, hD⟩, hS.F ht⟩) hS.2.2 dd_Box_isEndedBy_118
      · skip
        have h23 : ¬ (bn ≤ j) := fun q9 => h23 ((nI_leI (a := bn) (b := j) (by omega) (by omega)).mpr q9)
        refine lv_aload_n hx hb dd_Box_isEndedBy_26 rfl (lv_at hl 1 rfl) ?_
        refine lv_iload_n hx hb dd_Box_isEndedBy_27 rfl (lv_at hl 2 rfl) ?_
        refine lv_iconst (v := 1) hx hb dd_Box_isEndedBy_28 (by decide) ?_
        refine lv_iadd hx hb dd_Box_isEndedBy_29 ?_
        refine mm_topi (y := nI (ro + 1)) (nI_add ro 1) ?_
        refine lv_iload hx hb dd_Box_isEndedBy_30 (lv_at hl 5 rfl) ?_
        refine lv_iadd hx hb dd_Box_isEndedBy_32 ?_
        refine mm_topi (y := nI ((ro + 1) + j)) (nI_add (ro + 1) j) ?_
        refine mm_lald hx hb hK hP 3 2 rfl rfl ((ro + 1) + j) (rfl) (by omega) (by first | decide | omega) dd_Box_isEndedBy_33 ?_
        refine lv_lstore (lv' := [(8, .long (R ((ro + 1) + j))), (0, .ref xb), (1, .ref ar), (2, .int (nI ro)), (3, .long (R ro)), (5, .long (ie_s R ro bl bm j)), (7, .int (nI j))]) hx hb dd_Box_isEndedBy_34 hl (by decide) rfl (fun ls hl => ?_)
        refine lv_lload hx hb dd_Box_isEndedBy_36 (lv_at hl 5 rfl) ?_
        refine lv_lload hx hb dd_Box_isEndedBy_38 (lv_at hl 0 rfl) ?_
        refine lv_lload hx hb dd_Box_isEndedBy_40 (lv_at hl 0 rfl) ?_
        refine lv_lconst (v := 0) hx hb dd_Box_isEndedBy_42 (by decide) ?_
        refine W.lcmp hx hb dd_Box_isEndedBy_43 ?_
        refine lv_if_lt (tgt := 57) hx hb dd_Box_isEndedBy_44 (by decide) (fun h44 => ?_) (fun h44 => ?_)
        · skip
          rw [lg_cmp_lt (R ((ro + 1) + j)) (0 : Int64)] at h44
          refine lv_aload_n hx hb dd_Box_isEndedBy_57 rfl (lv_at hl 1 rfl) ?_
          refine va_get (D := D) (ci := 5) (v := .ref xm) (C := RR_Box) (T := FF_Box) (N := 5) hx hb htb hi_Box hown hK hP 0 rfl rfl 1 (by decide) hf_15 (fun _ h9 => h9) rfl dd_Box_isEndedBy_58 ?_
          refine lv_iload hx hb dd_Box_isEndedBy_61 (lv_at hl 6 rfl) ?_
          refine mm_iald hx hb hK hP 2 0 rfl rfl (j) (rfl) (by omega) (by first | decide | omega) dd_Box_isEndedBy_63 ?_
          refine mm_topi (y := if R (ro + 1 + j) < 0 then bm j else bl j) ((if_pos h44).symm) ?_
          refine lv_i2l (v := (if R (ro + 1 + j) < 0 then bm j else bl j).toInt64) hx hb dd_Box_isEndedBy_64 rfl ?_
          refine lv_lmul hx hb dd_Box_isEndedBy_65 ?_
          refine lv_ladd hx hb dd_Box_isEndedBy_66 ?_
          refine lv_lstore (lv' := [(5, .long ((ie_s R ro bl bm j) + ((R ((ro + 1) + j)) * ((if R (ro + 1 + j) < 0 then bm j else bl j).toInt64)))), (8, .long (R ((ro + 1) + j))), (0, .ref xb), (1, .ref ar), (2, .int (nI ro)), (3, .long (R ro)), (7, .int (nI j))]) hx hb dd_Box_isEndedBy_67 hl (by decide) rfl (fun ls hl => ?_)
          refine lv_iinc (k := 6) (v := nI (j + 1)) (lv' := [(7, .int (nI (j + 1))), (5, .long ((ie_s R ro bl bm j) + ((R ((ro + 1) + j)) * ((if R (ro + 1 + j) < 0 then bm j else bl j).toInt64)))), (8, .long (R ((ro + 1) + j))), (0, .ref xb), (1, .ref ar), (2, .int (nI ro)), (3, .long (R ro))]) hx hb dd_Box_isEndedBy_69 hl rfl (nI_1 _) (by decide) rfl (fun ls hl => ?_)
          refine lv_goto (tgt := 17) hx hb dd_Box_isEndedBy_72 (by decide) ?_
          exact IH17 (j + 1) (by omega) (by omega) ls H locs (lv_sub hl [3, 4, 5, 6, 1, 0] rfl) hP hD hS
        · skip
          rw [lg_cmp_lt (R ((ro + 1) + j)) (0 : Int64)] at h44
          refine lv_aload_n hx hb dd_Box_isEndedBy_47 rfl (lv_at hl 1 rfl) ?_
          refine va_get (D := D) (ci := 5) (v := .ref xl) (C := RR_Box) (T := FF_Box) (N := 5) hx hb htb hi_Box hown hK hP 0 rfl rfl 0 (by decide) hf_9 (fun _ h9 => h9) rfl dd_Box_isEndedBy_48 ?_
          refine lv_iload hx hb dd_Box_isEndedBy_51 (lv_at hl 6 rfl) ?_
          refine mm_iald hx hb hK hP 1 0 rfl rfl (j) (rfl) (by omega) (by first | decide | omega) dd_Box_isEndedBy_53 ?_
          refine mm_topi (y := if R (ro + 1 + j) < 0 then bm j else bl j) ((if_neg h44).symm) ?_
          refine lv_goto (tgt := 64) hx hb dd_Box_isEndedBy_54 (by decide) ?_
          refine lv_i2l (v := (if R (ro + 1 + j) < 0 then bm j else bl j).toInt64) hx hb dd_Box_isEndedBy_64 rfl ?_
          refine lv_lmul hx hb dd_Box_isEndedBy_65 ?_
          refine lv_ladd hx hb dd_Box_isEndedBy_66 ?_
          refine lv_lstore (lv' := [(5, .long ((ie_s R ro bl bm j) + ((R ((ro + 1) + j)) * ((if R (ro + 1 + j) < 0 then bm j else bl j).toInt64)))), (8, .long (R ((ro + 1) + j))), (0, .ref xb), (1, .ref ar), (2, .int (nI ro)), (3, .long (R ro)), (7, .int (nI j))]) hx hb dd_Box_isEndedBy_67 hl (by decide) rfl (fun ls hl => ?_)
          refine lv_iinc (k := 6) (v := nI (j + 1)) (lv' := [(7, .int (nI (j + 1))), (5, .long ((ie_s R ro bl bm j) + ((R ((ro + 1) + j)) * ((if R (ro + 1 + j) < 0 then bm j else bl j).toInt64)))), (8, .long (R ((ro + 1) + j))), (0, .ref xb), (1, .ref ar), (2, .int (nI ro)), (3, .long (R ro))]) hx hb dd_Box_isEndedBy_69 hl rfl (nI_1 _) (by decide) rfl (fun ls hl => ?_)
          refine lv_goto (tgt := 17) hx hb dd_Box_isEndedBy_72 (by decide) ?_
          exact IH17 (j + 1) (by omega) (by omega) ls H locs (lv_sub hl [3, 4, 5, 6, 1, 0] rfl) hP hD hS
  exact J17 _ 0 (Nat.lt_succ_self _) (by omega) ls _ _ (lv_sub hl [3, 4, 5, 2, 1, 0] rfl) hP hD hS
