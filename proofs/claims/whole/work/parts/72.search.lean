abbrev qq_Search_take (D : va_G) (cI cZ cL cQ : ClassId) (sr : Nat) (sb : Nat) (sq : Nat) (sx : Nat) (sy : Nat) (lz : Int32) (fo : Int32) (dv : Int32) (cs : Int32) (tc : Int32) (d : Int32) (best : Nat → Int32) (trial : Nat → Int32) (A : Nat → Prop) : Array Value → State → Outcome → State → Prop := va_Qv (fun u : (Nat → Int32) => u = mx_f trial best 4) (fun (u : (Nat → Int32)) t => mm_B D kc_all [(cI, .int), (cZ, .boolean), (cL, .long), (cQ, .array .int)] A [(sr, .inr (2, [.int 1, .ref sb, .int d, .int tc, .int lz, .ref sq, .ref sx, .ref sy])), (sb, .inl (cI, 4, .inl u)), (sy, .inl (cI, 4, .inl trial))] t) A
set_option maxHeartbeats 4000000 in
set_option maxRecDepth 100000 in
theorem cc_Search_take (l : Launch) (D : va_G) (cI cZ cL cQ : ClassId) (sz : Nat) (sr : Nat) (sb : Nat) (sq : Nat) (sx : Nat) (sy : Nat) (lz : Int32) (fo : Int32) (dv : Int32) (cs : Int32) (tc : Int32) (d : Int32) (best : Nat → Int32) (trial : Nat → Int32)  : Met l yy_Search_take ww_Search_take ({ frames := 0, cells := 0, slots := 0, locals := 0 } : Room) (mm_Pc D kc_all [(cI, .int), (cZ, .boolean), (cL, .long), (cQ, .array .int)] sz [(sr, .inr (2, [.int fo, .ref sb, .int dv, .int cs, .int lz, .ref sq, .ref sx, .ref sy])), (sb, .inl (cI, 4, .inl best)), (sy, .inl (cI, 4, .inl trial))] [.ref sr, .int tc, .int d]) (qq_Search_take D cI cZ cL cQ sr sb sq sx sy lz fo dv cs tc d best trial (va_A [(sr, .inr (2, [.int fo, .ref sb, .int dv, .int cs, .int lz, .ref sq, .ref sx, .ref sy])), (sb, .inl (cI, 4, .inl best)), (sy, .inl (cI, 4, .inl trial))] sz)) 0 0 (va_A [(sr, .inr (2, [.int fo, .ref sb, .int dv, .int cs, .int lz, .ref sq, .ref sx, .ref sy])), (sb, .inl (cI, 4, .inl best)), (sy, .inl (cI, 4, .inl trial))] sz) := by
  refine Met.ofW (cc := bb_Search_take) (maxL := 4) (ret := none) (by decide) rfl ?_
  intro p e s m args below meth c s₁ B hml hv
  obtain ⟨rfl, hsz, hP, hK, hD0⟩ := hv
  have hx := B.exec
  have hb := B.bytes
  have hr := B.returns
  have hts := atoms_spec (ws := ww_Search_take) B.pre
  have hown : s.vm.findClass RR_Search = some m.cls := findClass_of_methodNamed B.named
  have hlocks := B.notSynchronized
  subst hsz
  have hD := hD0.self (sz := s.heap.size)
  generalize hAe : va_A [(sr, .inr (2, [.int fo, .ref sb, .int dv, .int cs, .int lz, .ref sq, .ref sx, .ref sy])), (sb, .inl (cI, 4, .inl best)), (sy, .inl (cI, 4, .inl trial))] s.heap.size = A at hD ⊢
  have hA : ∀ q : Nat, s.heap.size ≤ q → A q := fun q h => by rw [← hAe]; exact Or.inr h
  have hS : va_S A s.heap s.heap [] := va_S.rf
  have hP : va_P D kc_all [(sr, .inr (2, [.int fo, .ref sb, .int dv, .int cs, .int lz, .ref sq, .ref sx, .ref sy])), (sb, .inl (cI, 4, .inl best)), (sy, .inl (cI, 4, .inl trial))] s.heap := hP
  have hl := lv_entry ([.ref sr, .int tc, .int d]) (n := 4) (Nat.le_of_ble_eq_true rfl)
  rw [lg_entry_eq]
  generalize (lg_sl ([.ref sr, .int tc, .int d]) ++ List.replicate (4 - (lg_sl ([.ref sr, .int tc, .int d])).length) Slot.unset).toArray = ls at hl ⊢
  have hl : lv_has ls 4 [(0, .ref sr), (1, .int tc), (2, .int d)] := hl
  have htb : ∀ w ∈ tb_all, w.before ([.ref sr, .int tc, .int d]).toArray s = true := fun w h => hts w (List.mem_cons_of_mem _ h)
  have hf_9 := htb _ fl_Search_9
  have hf_15 := htb _ fl_Search_15
  have hf_19 := htb _ fl_Search_19
  have hf_23 := htb _ fl_Search_23
  have hf_35 := htb _ fl_Search_35
  refine lv_aload_n hx hb dd_Search_take_0 rfl (lv_at hl 0 rfl) ?_
  refine lv_iconst (v := 1) hx hb dd_Search_take_1 (by decide) ?_
  refine va_put (D := D) (ci := 2) (v := .int (1 : Int32)) (ty := .boolean) (C := RR_Search) (T := FF_Search) (N := 8) hx hb htb hi_Search tt_Search tt_Search_ok nn_Search hown hK hP hD hS 0 rfl rfl 0 (by decide) hf_9 (fun _ h9 => h9) rfl (by decide +kernel) (rfl) (rfl) (Nat.le_of_ble_eq_true rfl) dd_Search_take_2 (fun H locs hP hD hS => ?_)
  have hP : va_P D kc_all [(sr, .inr (2, [.int (1 : Int32), .ref sb, .int dv, .int cs, .int lz, .ref sq, .ref sx, .ref sy])), (sb, .inl (cI, 4, .inl best)), (sy, .inl (cI, 4, .inl trial))] H := hP
  have hD : va_D A [(sr, .inr (2, [.int (1 : Int32), .ref sb, .int dv, .int cs, .int lz, .ref sq, .ref sx, .ref sy])), (sb, .inl (cI, 4, .inl best)), (sy, .inl (cI, 4, .inl trial))] := hD
  refine lv_aload_n hx hb dd_Search_take_5 rfl (lv_at hl 0 rfl) ?_
  refine lv_iload_n hx hb dd_Search_take_6 rfl (lv_at hl 1 rfl) ?_
  refine va_put (D := D) (ci := 2) (v := .int tc) (ty := .int) (C := RR_Search) (T := FF_Search) (N := 8) hx hb htb hi_Search tt_Search tt_Search_ok nn_Search hown hK hP hD hS 0 rfl rfl 3 (by decide) hf_23 (fun _ h9 => h9) rfl (by decide +kernel) (rfl) (rfl) (Nat.le_of_ble_eq_true rfl) dd_Search_take_7 (fun H locs hP hD hS => ?_)
  have hP : va_P D kc_all [(sr, .inr (2, [.int (1 : Int32), .ref sb, .int dv, .int tc, .int lz, .ref sq, .ref sx, .ref sy])), (sb, .inl (cI, 4, .inl best)), (sy, .inl (cI, 4, .inl trial))] H := hP
  have hD : va_D A [(sr, .inr (2, [.int (1 : Int32), .ref sb, .int dv, .int tc, .int lz, .ref sq, .ref sx, .ref sy])), (sb, .inl (cI, 4, .inl best)), (sy, .inl (cI, 4, .inl trial))] := hD
  refine lv_aload_n hx hb dd_Search_take_10 rfl (lv_at hl 0 rfl) ?_
  refine lv_iload_n hx hb dd_Search_take_11 rfl (lv_at hl 2 rfl) ?_
  refine va_put (D := D) (ci := 2) (v := .int d) (ty := .int) (C := RR_Search) (T := FF_Search) (N := 8) hx hb htb hi_Search tt_Search tt_Search_ok nn_Search hown hK hP hD hS 0 rfl rfl 2 (by decide) hf_19 (fun _ h9 => h9) rfl (by decide +kernel) (rfl) (rfl) (Nat.le_of_ble_eq_true rfl) dd_Search_take_12 (fun H locs hP hD hS => ?_)
  have hP : va_P D kc_all [(sr, .inr (2, [.int (1 : Int32), .ref sb, .int d, .int tc, .int lz, .ref sq, .ref sx, .ref sy])), (sb, .inl (cI, 4, .inl best)), (sy, .inl (cI, 4, .inl trial))] H := hP
  have hD : va_D A [(sr, .inr (2, [.int (1 : Int32), .ref sb, .int d, .int tc, .int lz, .ref sq, .ref sx, .ref sy])), (sb, .inl (cI, 4, .inl best)), (sy, .inl (cI, 4, .inl trial))] := hD
  refine lv_iconst (v := 0) hx hb dd_Search_take_15 (by decide) ?_
  refine lv_istore_n (lv' := [(3, .int (0 : Int32)), (0, .ref sr), (1, .int tc), (2, .int d)]) hx hb dd_Search_take_16 rfl hl (by decide) rfl (fun ls hl => ?_)
  have J17 : ∀ (N : Nat) (j : Nat) (best1 : Nat → Int32), (4 - j) < N → ∀ (hj : j ≤ 4) (hv : best1 = mx_f trial best j), ∀ (ls : Array Slot) (H : Heap) (locs : List Loc), lv_has ls 4 [(0, .ref sr), (3, .int (nI j))] → va_P D kc_all [(sr, .inr (2, [.int 1, .ref sb, .int d, .int tc, .int lz, .ref sq, .ref sx, .ref sy])), (sb, .inl (cI, 4, .inl best1)), (sy, .inl (cI, 4, .inl trial))] H → va_D A [(sr, .inr (2, [.int 1, .ref sb, .int d, .int tc, .int lz, .ref sq, .ref sx, .ref sy])), (sb, .inl (cI, 4, .inl best1)), (sy, .inl (cI, 4, .inl trial))] → va_S A s.heap H locs → W p l e (headSpec ww_Search_take ({ frames := 0, cells := 0, slots := 0, locals := 0 } : Room)).room s m ([.ref sr, .int tc, .int d]).toArray below meth c H locs 0 0 (MQ below (qq_Search_take D cI cZ cL cQ sr sb sq sx sy lz fo dv cs tc d best trial A) ([.ref sr, .int tc, .int d]).toArray s 0 0 A) (F0 m 17 ls []) := by
    intro N
    induction N with
    | zero => intro j best1 hN9; exact absurd hN9 (Nat.not_lt_zero _)
    | succ N IH17 =>
      intro j best1 hN9 hj hv ls H locs hl hP hD hS
      refine lv_iload_n hx hb dd_Search_take_17 rfl (lv_at hl 1 rfl) ?_
      refine lv_iconst (v := 4) hx hb dd_Search_take_18 (by decide) ?_
      refine lv_icmp_ge (tgt := 40) hx hb dd_Search_take_19 (by decide) (fun h19 => ?_) (fun h19 => ?_)
      · skip
        have h19 : 4 ≤ j := (nI_leI (a := 4) (b := j) (by omega) (by omega)).mp h19
        exact W.vret hx hb hr (fun t ht hW => ⟨⟨best1, rfl, by rw [show (4 : Nat) = j by omega]; exact hv, by rw [ht]; exact hP, va_K.moved hW.alike hK, hD⟩, hS.F ht⟩) hS.2.2 dd_Search_take_40
      · skip
        have h19 : ¬ (4 ≤ j) := fun q9 => h19 ((nI_leI (a := 4) (b := j) (by omega) (by omega)).mpr q9)
        refine lv_aload_n hx hb dd_Search_take_22 rfl (lv_at hl 0 rfl) ?_
        refine va_get (D := D) (ci := 2) (v := .ref sb) (C := RR_Search) (T := FF_Search) (N := 8) hx hb htb hi_Search hown hK hP 0 rfl rfl 1 (by decide) hf_15 (fun _ h9 => h9) rfl dd_Search_take_23 ?_
        refine lv_iload_n hx hb dd_Search_take_26 rfl (lv_at hl 1 rfl) ?_
        refine lv_aload_n hx hb dd_Search_take_27 rfl (lv_at hl 0 rfl) ?_
        refine va_get (D := D) (ci := 2) (v := .ref sy) (C := RR_Search) (T := FF_Search) (N := 8) hx hb htb hi_Search hown hK hP 0 rfl rfl 7 (by decide) hf_35 (fun _ h9 => h9) rfl dd_Search_take_28 ?_
        refine lv_iload_n hx hb dd_Search_take_31 rfl (lv_at hl 1 rfl) ?_
        refine mm_iald hx hb hK hP 2 0 rfl rfl (j) (rfl) (by omega) (by first | decide | omega) dd_Search_take_32 ?_
        refine mm_iast hx hb hK hP hD hS 1 0 rfl rfl (j) (rfl) (by omega) (by first | decide | omega) dd_Search_take_33 (fun H locs hP hD hS => ?_)
        have hP : va_P D kc_all [(sr, .inr (2, [.int 1, .ref sb, .int d, .int tc, .int lz, .ref sq, .ref sx, .ref sy])), (sb, .inl (cI, 4, .inl (upd best1 j (trial j)))), (sy, .inl (cI, 4, .inl trial))] H := hP
        have hD : va_D A [(sr, .inr (2, [.int 1, .ref sb, .int d, .int tc, .int lz, .ref sq, .ref sx, .ref sy])), (sb, .inl (cI, 4, .inl (upd best1 j (trial j)))), (sy, .inl (cI, 4, .inl trial))] := hD
        refine lv_iinc (k := 1) (v := nI (j + 1)) (lv' := [(3, .int (nI (j + 1))), (0, .ref sr)]) hx hb dd_Search_take_34 hl rfl (nI_1 _) (by decide) rfl (fun ls hl => ?_)
        refine lv_goto (tgt := 17) hx hb dd_Search_take_37 (by decide) ?_
        exact IH17 (j + 1) (upd best1 j (trial j)) (by omega) (by omega) (mx_u hv) ls H locs (lv_sub hl [1, 0] rfl) hP hD hS
  exact J17 _ 0 best (Nat.lt_succ_self _) (by omega) (mx_0.symm) ls H locs (lv_sub hl [1, 0] rfl) hP hD hS
abbrev qq_Search_isBetter (D : va_G) (cI cZ cL cQ : ClassId) (sr : Nat) (sb : Nat) (sq : Nat) (sx : Nat) (sy : Nat) (a : Nat) (al : Nat) (am : Nat) (aw : Nat) (ac : Nat) (ag : Nat) (ab : Nat) (n : Nat) (k : Nat) (lz : Int32) (fo : Int32) (dv : Int32) (cs : Int32) (ax : Nat) (xc : Int32) (d : Int32) (best : Nat → Int32) (x : Nat → Int32) (A : Nat → Prop) : Array Value → State → Outcome → State → Prop := va_Qi (fun (r : Int32) (u : Unit) => tl_ok (ib_ok fo best dv cs x xc d n) r) (fun (u : Unit) t => mm_B D kc_all [(cI, .int), (cZ, .boolean), (cL, .long), (cQ, .array .int)] A [(sr, .inr (2, [.int fo, .ref sb, .int dv, .int cs, .int lz, .ref sq, .ref sx, .ref sy])), (sb, .inl (cI, 4, .inl best)), (a, .inr (0, [.int (nI n), .int (nI k), .ref al, .ref am, .ref aw, .ref ac, .ref ag, .ref ab])), (ax, .inl (cI, 4, .inl x))] t) A
set_option maxHeartbeats 4000000 in
set_option maxRecDepth 100000 in
theorem cc_Search_isBetter (l : Launch) (D : va_G) (cI cZ cL cQ : ClassId) (sz : Nat) (sr : Nat) (sb : Nat) (sq : Nat) (sx : Nat) (sy : Nat) (a : Nat) (al : Nat) (am : Nat) (aw : Nat) (ac : Nat) (ag : Nat) (ab : Nat) (n : Nat) (k : Nat) (lz : Int32) (fo : Int32) (dv : Int32) (cs : Int32) (ax : Nat) (xc : Int32) (d : Int32) (best : Nat → Int32) (x : Nat → Int32) (hn : n ≤ 4) : Met l yy_Search_isBetter ww_Search_isBetter ({ frames := 0, cells := 0, slots := 0, locals := 0 } : Room) (mm_Pc D kc_all [(cI, .int), (cZ, .boolean), (cL, .long), (cQ, .array .int)] sz [(sr, .inr (2, [.int fo, .ref sb, .int dv, .int cs, .int lz, .ref sq, .ref sx, .ref sy])), (sb, .inl (cI, 4, .inl best)), (a, .inr (0, [.int (nI n), .int (nI k), .ref al, .ref am, .ref aw, .ref ac, .ref ag, .ref ab])), (ax, .inl (cI, 4, .inl x))] [.ref sr, .ref a, .ref ax, .int xc, .int d]) (qq_Search_isBetter D cI cZ cL cQ sr sb sq sx sy a al am aw ac ag ab n k lz fo dv cs ax xc d best x (va_A [(sr, .inr (2, [.int fo, .ref sb, .int dv, .int cs, .int lz, .ref sq, .ref sx, .ref sy])), (sb, .inl (cI, 4, .inl best)), (a, .inr (0, [.int (nI n), .int (nI k), .ref al, .ref am, .ref aw, .ref ac, .ref ag, .ref ab])), (ax, .inl (cI, 4, .inl x))] sz)) 0 0 (va_A [(sr, .inr (2, [.int fo, .ref sb, .int dv, .int cs, .int lz, .ref sq, .ref sx, .ref sy])), (sb, .inl (cI, 4, .inl best)), (a, .inr (0, [.int (nI n), .int (nI k), .ref al, .ref am, .ref aw, .ref ac, .ref ag, .ref ab])), (ax, .inl (cI, 4, .inl x))] sz) := by
  refine Met.ofW (cc := bb_Search_isBetter) (maxL := 8) (ret := (some .boolean)) (by decide) rfl ?_
  intro p e s m args below meth c s₁ B hml hv
  obtain ⟨rfl, hsz, hP, hK, hD0⟩ := hv
  have hx := B.exec
  have hb := B.bytes
  have hr := B.returns
  have hts := atoms_spec (ws := ww_Search_isBetter) B.pre
  have hown : s.vm.findClass RR_Search = some m.cls := findClass_of_methodNamed B.named
  have hlocks := B.notSynchronized
  subst hsz
  have hD := hD0.self (sz := s.heap.size)
  generalize hAe : va_A [(sr, .inr (2, [.int fo, .ref sb, .int dv, .int cs, .int lz, .ref sq, .ref sx, .ref sy])), (sb, .inl (cI, 4, .inl best)), (a, .inr (0, [.int (nI n), .int (nI k), .ref al, .ref am, .ref aw, .ref ac, .ref ag, .ref ab])), (ax, .inl (cI, 4, .inl x))] s.heap.size = A at hD ⊢
  have hA : ∀ q : Nat, s.heap.size ≤ q → A q := fun q h => by rw [← hAe]; exact Or.inr h
  have hS : va_S A s.heap s.heap [] := va_S.rf
  have hP : va_P D kc_all [(sr, .inr (2, [.int fo, .ref sb, .int dv, .int cs, .int lz, .ref sq, .ref sx, .ref sy])), (sb, .inl (cI, 4, .inl best)), (a, .inr (0, [.int (nI n), .int (nI k), .ref al, .ref am, .ref aw, .ref ac, .ref ag, .ref ab])), (ax, .inl (cI, 4, .inl x))] s.heap := hP
  have hl := lv_entry ([.ref sr, .ref a, .ref ax, .int xc, .int d]) (n := 8) (Nat.le_of_ble_eq_true rfl)
  rw [lg_entry_eq]
  generalize (lg_sl ([.ref sr, .ref a, .ref ax, .int xc, .int d]) ++ List.replicate (8 - (lg_sl ([.ref sr, .ref a, .ref ax, .int xc, .int d])).length) Slot.unset).toArray = ls at hl ⊢
  have hl : lv_has ls 8 [(0, .ref sr), (1, .ref a), (2, .ref ax), (3, .int xc), (4, .int d)] := hl
  have htb : ∀ w ∈ tb_all, w.before ([.ref sr, .ref a, .ref ax, .int xc, .int d]).toArray s = true := fun w h => hts w (List.mem_cons_of_mem _ h)
  have hf_9 := htb _ fl_Search_9
  have hf_15 := htb _ fl_Search_15
  have hf_19 := htb _ fl_Search_19
  have hf_23 := htb _ fl_Search_23
  have hf_38 := htb _ fl_Search_38
  refine lv_aload_n hx hb dd_Search_isBetter_0 rfl (lv_at hl 0 rfl) ?_
  refine va_get (D := D) (ci := 2) (v := .int fo) (C := RR_Search) (T := FF_Search) (N := 8) hx hb htb hi_Search hown hK hP 0 rfl rfl 0 (by decide) hf_9 (fun _ h9 => h9) rfl dd_Search_isBetter_1 ?_
  refine lv_if_ne (tgt := 9) hx hb dd_Search_isBetter_4 (by decide) (fun h4 => ?_) (fun h4 => ?_)
  · skip
    refine lv_aload_n hx hb dd_Search_isBetter_9 rfl (lv_at hl 0 rfl) ?_
    refine va_get (D := D) (ci := 2) (v := .int cs) (C := RR_Search) (T := FF_Search) (N := 8) hx hb htb hi_Search hown hK hP 0 rfl rfl 3 (by decide) hf_23 (fun _ h9 => h9) rfl dd_Search_isBetter_10 ?_
    refine lv_i2l (v := cs.toInt64) hx hb dd_Search_isBetter_13 rfl ?_
    refine lv_iload hx hb dd_Search_isBetter_14 (lv_at hl 4 rfl) ?_
    refine lv_i2l (v := d.toInt64) hx hb dd_Search_isBetter_16 rfl ?_
    refine lv_lmul hx hb dd_Search_isBetter_17 ?_
    refine lv_iload_n hx hb dd_Search_isBetter_18 rfl (lv_at hl 3 rfl) ?_
    refine lv_i2l (v := xc.toInt64) hx hb dd_Search_isBetter_19 rfl ?_
    refine lv_aload_n hx hb dd_Search_isBetter_20 rfl (lv_at hl 0 rfl) ?_
    refine va_get (D := D) (ci := 2) (v := .int dv) (C := RR_Search) (T := FF_Search) (N := 8) hx hb htb hi_Search hown hK hP 0 rfl rfl 2 (by decide) hf_19 (fun _ h9 => h9) rfl dd_Search_isBetter_21 ?_
    refine lv_i2l (v := dv.toInt64) hx hb dd_Search_isBetter_24 rfl ?_
    refine lv_lmul hx hb dd_Search_isBetter_25 ?_
    refine lv_lsub hx hb dd_Search_isBetter_26 ?_
    refine lv_lstore (lv' := [(5, .long ((cs.toInt64 * d.toInt64) - (xc.toInt64 * dv.toInt64))), (0, .ref sr), (1, .ref a), (2, .ref ax), (3, .int xc), (4, .int d)]) hx hb dd_Search_isBetter_27 hl (by decide) rfl (fun ls hl => ?_)
    refine lv_iconst (v := 0) hx hb dd_Search_isBetter_29 (by decide) ?_
    refine lv_istore (lv' := [(7, .int (0 : Int32)), (5, .long ((cs.toInt64 * d.toInt64) - (xc.toInt64 * dv.toInt64))), (0, .ref sr), (1, .ref a), (2, .ref ax), (3, .int xc), (4, .int d)]) hx hb dd_Search_isBetter_30 hl (by decide) rfl (fun ls hl => ?_)
    have J32 : ∀ (N : Nat) (j : Nat), (n - j) < N → ∀ (hj : j ≤ n) (hfo : ¬ fo = 0), ∀ (ls : Array Slot) (H : Heap) (locs : List Loc), lv_has ls 8 [(0, .ref sr), (1, .ref a), (2, .ref ax), (3, .int xc), (4, .int d), (5, .long (ib_l best x dv d (cs.toInt64 * d.toInt64 - xc.toInt64 * dv.toInt64) j)), (7, .int (nI j))] → va_P D kc_all [(sr, .inr (2, [.int fo, .ref sb, .int dv, .int cs, .int lz, .ref sq, .ref sx, .ref sy])), (sb, .inl (cI, 4, .inl best)), (a, .inr (0, [.int (nI n), .int (nI k), .ref al, .ref am, .ref aw, .ref ac, .ref ag, .ref ab])), (ax, .inl (cI, 4, .inl x))] H → va_D A [(sr, .inr (2, [.int fo, .ref sb, .int dv, .int cs, .int lz, .ref sq, .ref sx, .ref sy])), (sb, .inl (cI, 4, .inl best)), (a, .inr (0, [.int (nI n), .int (nI k), .ref al, .ref am, .ref aw, .ref ac, .ref ag, .ref ab])), (ax, .inl (cI, 4, .inl x))] → va_S A s.heap H locs → W p l e (headSpec ww_Search_isBetter ({ frames := 0, cells := 0, slots := 0, locals := 0 } : Room)).room s m ([.ref sr, .ref a, .ref ax, .int xc, .int d]).toArray below meth c H locs 0 0 (MQ below (qq_Search_isBetter D cI cZ cL cQ sr sb sq sx sy a al am aw ac ag ab n k lz fo dv cs ax xc d best x A) ([.ref sr, .ref a, .ref ax, .int xc, .int d]).toArray s 0 0 A) (F0 m 32 ls []) := by
      intro N
      induction N with
      | zero => intro j hN9; exact absurd hN9 (Nat.not_lt_zero _)
      | succ N IH32 =>
        intro j hN9 hj hfo ls H locs hl hP hD hS
        refine lv_iload hx hb dd_Search_isBetter_32 (lv_at hl 6 rfl) ?_
        refine lv_aload_n hx hb dd_Search_isBetter_34 rfl (lv_at hl 1 rfl) ?_
        refine va_get (D := D) (ci := 0) (v := .int (nI n)) (C := RR_Problem) (T := FF_Problem) (N := 8) hx hb htb hi_Problem hown hK hP 2 rfl rfl 0 (by decide) hf_38 (fun _ h9 => h9) rfl dd_Search_isBetter_35 ?_
        refine lv_icmp_ge (tgt := 80) hx hb dd_Search_isBetter_38 (by decide) (fun h38 => ?_) (fun h38 => ?_)
        · skip
          have h38 : n ≤ j := (nI_leI (a := n) (b := j) (by omega) (by omega)).mp h38
          have hz9 : ib_l best x dv d (cs.toInt64 * d.toInt64 - xc.toInt64 * dv.toInt64) n = ib_l best x dv d (cs.toInt64 * d.toInt64 - xc.toInt64 * dv.toInt64) j := by first | exact ib_stay h45 n hj | rw [show n = j by omega]
          refine lv_lload hx hb dd_Search_isBetter_80 (lv_at hl 5 rfl) ?_
          refine lv_lconst (v := 0) hx hb dd_Search_isBetter_82 (by decide) ?_
          refine W.lcmp hx hb dd_Search_isBetter_83 ?_
          refine lv_if_le (tgt := 91) hx hb dd_Search_isBetter_84 (by decide) (fun h84 => ?_) (fun h84 => ?_)
          · skip
            rw [lg_cmp_le (ib_l best x dv d (cs.toInt64 * d.toInt64 - xc.toInt64 * dv.toInt64) j) (0 : Int64)] at h84
            refine lv_iconst (v := 0) hx hb dd_Search_isBetter_91 (by decide) ?_
            exact W.zret (v := (0 : Int32)) hx hb hr (rfl) (fun t ht hW => ⟨⟨(0 : Int32), (), rfl, by first | exact tl_t (Or.inr (by rw [hz9]; exact h84)) | exact tl_f (fun q => q.elim hfo (fun z => z (by rw [hz9]; exact h84))), by rw [ht]; exact hP, va_K.moved hW.alike hK, hD⟩, hS.F ht⟩) hS.2.2 dd_Search_isBetter_92
          · skip
            rw [lg_cmp_le (ib_l best x dv d (cs.toInt64 * d.toInt64 - xc.toInt64 * dv.toInt64) j) (0 : Int64)] at h84
            refine lv_iconst (v := 1) hx hb dd_Search_isBetter_87 (by decide) ?_
            refine lv_goto (tgt := 92) hx hb dd_Search_isBetter_88 (by decide) ?_
            exact W.zret (v := (1 : Int32)) hx hb hr (rfl) (fun t ht hW => ⟨⟨(1 : Int32), (), rfl, by first | exact tl_t (Or.inr (by rw [hz9]; exact h84)) | exact tl_f (fun q => q.elim hfo (fun z => z (by rw [hz9]; exact h84))), by rw [ht]; exact hP, va_K.moved hW.alike hK, hD⟩, hS.F ht⟩) hS.2.2 dd_Search_isBetter_92
        · skip
          have h38 : ¬ (n ≤ j) := fun q9 => h38 ((nI_leI (a := n) (b := j) (by omega) (by omega)).mpr q9)
          refine lv_lload hx hb dd_Search_isBetter_41 (lv_at hl 5 rfl) ?_
          refine lv_lconst (v := 0) hx hb dd_Search_isBetter_43 (by decide) ?_
          refine W.lcmp hx hb dd_Search_isBetter_44 ?_
          refine lv_if_ne (tgt := 80) hx hb dd_Search_isBetter_45 (by decide) (fun h45 => ?_) (fun h45 => ?_)
          · skip
            rw [lg_cmp_eq (ib_l best x dv d (cs.toInt64 * d.toInt64 - xc.toInt64 * dv.toInt64) j) (0 : Int64)] at h45
            have hz9 : ib_l best x dv d (cs.toInt64 * d.toInt64 - xc.toInt64 * dv.toInt64) n = ib_l best x dv d (cs.toInt64 * d.toInt64 - xc.toInt64 * dv.toInt64) j := by first | exact ib_stay h45 n hj | rw [show n = j by omega]
            refine lv_lload hx hb dd_Search_isBetter_80 (lv_at hl 5 rfl) ?_
            refine lv_lconst (v := 0) hx hb dd_Search_isBetter_82 (by decide) ?_
            refine W.lcmp hx hb dd_Search_isBetter_83 ?_
            refine lv_if_le (tgt := 91) hx hb dd_Search_isBetter_84 (by decide) (fun h84 => ?_) (fun h84 => ?_)
            · skip
              rw [lg_cmp_le (ib_l best x dv d (cs.toInt64 * d.toInt64 - xc.toInt64 * dv.toInt64) j) (0 : Int64)] at h84
              refine lv_iconst (v := 0) hx hb dd_Search_isBetter_91 (by decide) ?_
              exact W.zret (v := (0 : Int32)) hx hb hr (rfl) (fun t ht hW => ⟨⟨(0 : Int32), (), rfl, by first | exact tl_t (Or.inr (by rw [hz9]; exact h84)) | exact tl_f (fun q => q.elim hfo (fun z => z (by rw [hz9]; exact h84))), by rw [ht]; exact hP, va_K.moved hW.alike hK, hD⟩, hS.F ht⟩) hS.2.2 dd_Search_isBetter_92
            · skip
              rw [lg_cmp_le (ib_l best x dv d (cs.toInt64 * d.toInt64 - xc.toInt64 * dv.toInt64) j) (0 : Int64)] at h84
              refine lv_iconst (v := 1) hx hb dd_Search_isBetter_87 (by decide) ?_
              refine lv_goto (tgt := 92) hx hb dd_Search_isBetter_88 (by decide) ?_
              exact W.zret (v := (1 : Int32)) hx hb hr (rfl) (fun t ht hW => ⟨⟨(1 : Int32), (), rfl, by first | exact tl_t (Or.inr (by rw [hz9]; exact h84)) | exact tl_f (fun q => q.elim hfo (fun z => z (by rw [hz9]; exact h84))), by rw [ht]; exact hP, va_K.moved hW.alike hK, hD⟩, hS.F ht⟩) hS.2.2 dd_Search_isBetter_92
          · skip
            rw [lg_cmp_eq (ib_l best x dv d (cs.toInt64 * d.toInt64 - xc.toInt64 * dv.toInt64) j) (0 : Int64)] at h45
            refine lv_aload_n hx hb dd_Search_isBetter_48 rfl (lv_at hl 0 rfl) ?_
            refine va_get (D := D) (ci := 2) (v := .ref sb) (C := RR_Search) (T := FF_Search) (N := 8) hx hb htb hi_Search hown hK hP 0 rfl rfl 1 (by decide) hf_15 (fun _ h9 => h9) rfl dd_Search_isBetter_49 ?_
            refine lv_iload hx hb dd_Search_isBetter_52 (lv_at hl 6 rfl) ?_
            refine mm_iald hx hb hK hP 1 0 rfl rfl (j) (rfl) (by omega) (by first | decide | omega) dd_Search_isBetter_54 ?_
            refine lv_i2l (v := (best j).toInt64) hx hb dd_Search_isBetter_55 rfl ?_
            refine lv_iload hx hb dd_Search_isBetter_56 (lv_at hl 4 rfl) ?_
            refine lv_i2l (v := d.toInt64) hx hb dd_Search_isBetter_58 rfl ?_
            refine lv_lmul hx hb dd_Search_isBetter_59 ?_
            refine lv_aload_n hx hb dd_Search_isBetter_60 rfl (lv_at hl 2 rfl) ?_
            refine lv_iload hx hb dd_Search_isBetter_61 (lv_at hl 6 rfl) ?_
            refine mm_iald hx hb hK hP 3 0 rfl rfl (j) (rfl) (by omega) (by first | decide | omega) dd_Search_isBetter_63 ?_
            refine lv_i2l (v := (x j).toInt64) hx hb dd_Search_isBetter_64 rfl ?_
            refine lv_aload_n hx hb dd_Search_isBetter_65 rfl (lv_at hl 0 rfl) ?_
            refine va_get (D := D) (ci := 2) (v := .int dv) (C := RR_Search) (T := FF_Search) (N := 8) hx hb htb hi_Search hown hK hP 0 rfl rfl 2 (by decide) hf_19 (fun _ h9 => h9) rfl dd_Search_isBetter_66 ?_
            refine lv_i2l (v := dv.toInt64) hx hb dd_Search_isBetter_69 rfl ?_
            refine lv_lmul hx hb dd_Search_isBetter_70 ?_
            refine lv_lsub hx hb dd_Search_isBetter_71 ?_
            refine mm_topl (y := ib_l best x dv d (cs.toInt64 * d.toInt64 - xc.toInt64 * dv.toInt64) (j + 1)) ((if_pos h45).symm) ?_
            refine lv_lstore (lv' := [(5, .long (ib_l best x dv d (cs.toInt64 * d.toInt64 - xc.toInt64 * dv.toInt64) (j + 1))), (0, .ref sr), (1, .ref a), (2, .ref ax), (3, .int xc), (4, .int d), (7, .int (nI j))]) hx hb dd_Search_isBetter_72 hl (by decide) rfl (fun ls hl => ?_)
            refine lv_iinc (k := 6) (v := nI (j + 1)) (lv' := [(7, .int (nI (j + 1))), (5, .long (ib_l best x dv d (cs.toInt64 * d.toInt64 - xc.toInt64 * dv.toInt64) (j + 1))), (0, .ref sr), (1, .ref a), (2, .ref ax), (3, .int xc), (4, .int d)]) hx hb dd_Search_isBetter_74 hl rfl (nI_1 _) (by decide) rfl (fun ls hl => ?_)
            refine lv_goto (tgt := 32) hx hb dd_Search_isBetter_77 (by decide) ?_
            exact IH32 (j + 1) (by omega) (by omega) (hfo) ls H locs (lv_sub hl [2, 3, 4, 5, 6, 1, 0] rfl) hP hD hS
    exact J32 _ 0 (Nat.lt_succ_self _) (by omega) (h4) ls _ _ (lv_sub hl [2, 3, 4, 5, 6, 1, 0] rfl) hP hD hS
  · skip
    refine lv_iconst (v := 1) hx hb dd_Search_isBetter_7 (by decide) ?_
    exact W.zret (v := (1 : Int32)) hx hb hr (rfl) (fun t ht hW => ⟨⟨(1 : Int32), (), rfl, tl_t (Or.inl h4), by rw [ht]; exact hP, va_K.moved hW.alike hK, hD⟩, hS.F ht⟩) hS.2.2 dd_Search_isBetter_8
abbrev qq_Search_canBeKept (D : va_G) (cI cZ cL cQ : ClassId) (sr : Nat) (sb : Nat) (sq : Nat) (sx : Nat) (sy : Nat) (a : Nat) (al : Nat) (am : Nat) (aw : Nat) (ac : Nat) (ag : Nat) (ab : Nat) (n : Nat) (k : Nat) (lz : Int32) (fo : Int32) (dv : Int32) (cs : Int32) (j : Nat) (fr : Nat) (hi : Nat → Int32) (se : Nat → Int32) (rw : Nat → Nat) (M : Nat → Nat → Int32) (bd : Nat → Int32) (A : Nat → Prop) : Array Value → State → Outcome → State → Prop := va_Qi (fun (r : Int32) (u : Unit) => tl_ok (cb_ok M bd hi se j fr n k) r) (fun (u : Unit) t => mm_B D kc_all [(cI, .int), (cZ, .boolean), (cL, .long), (cQ, .array .int)] A [(sr, .inr (2, [.int fo, .ref sb, .int dv, .int cs, .int lz, .ref sq, .ref sx, .ref sy])), (sq, .inl (cI, 4, .inl se)), (a, .inr (0, [.int (nI n), .int (nI k), .ref al, .ref am, .ref aw, .ref ac, .ref ag, .ref ab])), (am, .inl (cI, 4, .inl hi)), (ag, .inl (cQ, 6, .inr (.inr (.inr (.inr (fun i9 => some (rw i9))))))), (rw 0, .inl (cI, 4, .inl (M 0))), (rw 1, .inl (cI, 4, .inl (M 1))), (rw 2, .inl (cI, 4, .inl (M 2))), (rw 3, .inl (cI, 4, .inl (M 3))), (rw 4, .inl (cI, 4, .inl (M 4))), (rw 5, .inl (cI, 4, .inl (M 5))), (ab, .inl (cI, 6, .inl bd))] t) A
set_option maxHeartbeats 4000000 in
set_option maxRecDepth 100000 in
theorem cc_Search_canBeKept (l : Launch) (D : va_G) (cI cZ cL cQ : ClassId) (sz : Nat) (sr : Nat) (sb : Nat) (sq : Nat) (sx : Nat) (sy : Nat) (a : Nat) (al : Nat) (am : Nat) (aw : Nat) (ac : Nat) (ag : Nat) (ab : Nat) (n : Nat) (k : Nat) (lz : Int32) (fo : Int32) (dv : Int32) (cs : Int32) (j : Nat) (fr : Nat) (hi : Nat → Int32) (se : Nat → Int32) (rw : Nat → Nat) (M : Nat → Nat → Int32) (bd : Nat → Int32) (hn : n ≤ 4) (hk : k ≤ 6) (hj : j ≤ n) (hfr : fr < 16) : Met l yy_Search_canBeKept ww_Search_canBeKept ({ frames := 0, cells := 0, slots := 0, locals := 0 } : Room) (mm_Pc D kc_all [(cI, .int), (cZ, .boolean), (cL, .long), (cQ, .array .int)] sz [(sr, .inr (2, [.int fo, .ref sb, .int dv, .int cs, .int lz, .ref sq, .ref sx, .ref sy])), (sq, .inl (cI, 4, .inl se)), (a, .inr (0, [.int (nI n), .int (nI k), .ref al, .ref am, .ref aw, .ref ac, .ref ag, .ref ab])), (am, .inl (cI, 4, .inl hi)), (ag, .inl (cQ, 6, .inr (.inr (.inr (.inr (fun i9 => some (rw i9))))))), (rw 0, .inl (cI, 4, .inl (M 0))), (rw 1, .inl (cI, 4, .inl (M 1))), (rw 2, .inl (cI, 4, .inl (M 2))), (rw 3, .inl (cI, 4, .inl (M 3))), (rw 4, .inl (cI, 4, .inl (M 4))), (rw 5, .inl (cI, 4, .inl (M 5))), (ab, .inl (cI, 6, .inl bd))] [.ref sr, .ref a, .int (nI j), .int (nI fr)]) (qq_Search_canBeKept D cI cZ cL cQ sr sb sq sx sy a al am aw ac ag ab n k lz fo dv cs j fr hi se rw M bd (va_A [(sr, .inr (2, [.int fo, .ref sb, .int dv, .int cs, .int lz, .ref sq, .ref sx, .ref sy])), (sq, .inl (cI, 4, .inl se)), (a, .inr (0, [.int (nI n), .int (nI k), .ref al, .ref am, .ref aw, .ref ac, .ref ag, .ref ab])), (am, .inl (cI, 4, .inl hi)), (ag, .inl (cQ, 6, .inr (.inr (.inr (.inr (fun i9 => some (rw i9))))))), (rw 0, .inl (cI, 4, .inl (M 0))), (rw 1, .inl (cI, 4, .inl (M 1))), (rw 2, .inl (cI, 4, .inl (M 2))), (rw 3, .inl (cI, 4, .inl (M 3))), (rw 4, .inl (cI, 4, .inl (M 4))), (rw 5, .inl (cI, 4, .inl (M 5))), (ab, .inl (cI, 6, .inl bd))] sz)) 0 0 (va_A [(sr, .inr (2, [.int fo, .ref sb, .int dv, .int cs, .int lz, .ref sq, .ref sx, .ref sy])), (sq, .inl (cI, 4, .inl se)), (a, .inr (0, [.int (nI n), .int (nI k), .ref al, .ref am, .ref aw, .ref ac, .ref ag, .ref ab])), (am, .inl (cI, 4, .inl hi)), (ag, .inl (cQ, 6, .inr (.inr (.inr (.inr (fun i9 => some (rw i9))))))), (rw 0, .inl (cI, 4, .inl (M 0))), (rw 1, .inl (cI, 4, .inl (M 1))), (rw 2, .inl (cI, 4, .inl (M 2))), (rw 3, .inl (cI, 4, .inl (M 3))), (rw 4, .inl (cI, 4, .inl (M 4))), (rw 5, .inl (cI, 4, .inl (M 5))), (ab, .inl (cI, 6, .inl bd))] sz) := by
  refine Met.ofW (cc := bb_Search_canBeKept) (maxL := 9) (ret := (some .boolean)) (by decide) rfl ?_
  intro p e s m args below meth c s₁ B hml hv
  obtain ⟨rfl, hsz, hP, hK, hD0⟩ := hv
  have hx := B.exec
  have hb := B.bytes
  have hr := B.returns
  have hts := atoms_spec (ws := ww_Search_canBeKept) B.pre
  have hown : s.vm.findClass RR_Search = some m.cls := findClass_of_methodNamed B.named
  have hlocks := B.notSynchronized
  subst hsz
  have hD := hD0.self (sz := s.heap.size)
  generalize hAe : va_A [(sr, .inr (2, [.int fo, .ref sb, .int dv, .int cs, .int lz, .ref sq, .ref sx, .ref sy])), (sq, .inl (cI, 4, .inl se)), (a, .inr (0, [.int (nI n), .int (nI k), .ref al, .ref am, .ref aw, .ref ac, .ref ag, .ref ab])), (am, .inl (cI, 4, .inl hi)), (ag, .inl (cQ, 6, .inr (.inr (.inr (.inr (fun i9 => some (rw i9))))))), (rw 0, .inl (cI, 4, .inl (M 0))), (rw 1, .inl (cI, 4, .inl (M 1))), (rw 2, .inl (cI, 4, .inl (M 2))), (rw 3, .inl (cI, 4, .inl (M 3))), (rw 4, .inl (cI, 4, .inl (M 4))), (rw 5, .inl (cI, 4, .inl (M 5))), (ab, .inl (cI, 6, .inl bd))] s.heap.size = A at hD ⊢
  have hA : ∀ q : Nat, s.heap.size ≤ q → A q := fun q h => by rw [← hAe]; exact Or.inr h
  have hS : va_S A s.heap s.heap [] := va_S.rf
  have hP : va_P D kc_all [(sr, .inr (2, [.int fo, .ref sb, .int dv, .int cs, .int lz, .ref sq, .ref sx, .ref sy])), (sq, .inl (cI, 4, .inl se)), (a, .inr (0, [.int (nI n), .int (nI k), .ref al, .ref am, .ref aw, .ref ac, .ref ag, .ref ab])), (am, .inl (cI, 4, .inl hi)), (ag, .inl (cQ, 6, .inr (.inr (.inr (.inr (fun i9 => some (rw i9))))))), (rw 0, .inl (cI, 4, .inl (M 0))), (rw 1, .inl (cI, 4, .inl (M 1))), (rw 2, .inl (cI, 4, .inl (M 2))), (rw 3, .inl (cI, 4, .inl (M 3))), (rw 4, .inl (cI, 4, .inl (M 4))), (rw 5, .inl (cI, 4, .inl (M 5))), (ab, .inl (cI, 6, .inl bd))] s.heap := hP
  have hl := lv_entry ([.ref sr, .ref a, .int (nI j), .int (nI fr)]) (n := 9) (Nat.le_of_ble_eq_true rfl)
  rw [lg_entry_eq]
  generalize (lg_sl ([.ref sr, .ref a, .int (nI j), .int (nI fr)]) ++ List.replicate (9 - (lg_sl ([.ref sr, .ref a, .int (nI j), .int (nI fr)])).length) Slot.unset).toArray = ls at hl ⊢
  have hl : lv_has ls 9 [(0, .ref sr), (1, .ref a), (2, .int (nI j)), (3, .int (nI fr))] := hl
  have htb : ∀ w ∈ tb_all, w.before ([.ref sr, .ref a, .int (nI j), .int (nI fr)]).toArray s = true := fun w h => hts w (List.mem_cons_of_mem _ h)
  have hf_29 := htb _ fl_Search_29
  have hf_38 := htb _ fl_Search_38
  have hf_70 := htb _ fl_Search_70
  have hf_76 := htb _ fl_Search_76
  have hf_79 := htb _ fl_Search_79
  have hf_83 := htb _ fl_Search_83
  refine lv_iconst (v := 0) hx hb dd_Search_canBeKept_0 (by decide) ?_
  refine lv_istore (lv' := [(4, .int (0 : Int32)), (0, .ref sr), (1, .ref a), (2, .int (nI j)), (3, .int (nI fr))]) hx hb dd_Search_canBeKept_1 hl (by decide) rfl (fun ls hl => ?_)
  have J3 : ∀ (N : Nat) (i : Nat), (k - i) < N → ∀ (hi9 : i ≤ k) (hw : cb_ok M bd hi se j fr n i), ∀ (ls : Array Slot) (H : Heap) (locs : List Loc), lv_has ls 9 [(0, .ref sr), (1, .ref a), (2, .int (nI j)), (3, .int (nI fr)), (4, .int (nI i))] → va_P D kc_all [(sr, .inr (2, [.int fo, .ref sb, .int dv, .int cs, .int lz, .ref sq, .ref sx, .ref sy])), (sq, .inl (cI, 4, .inl se)), (a, .inr (0, [.int (nI n), .int (nI k), .ref al, .ref am, .ref aw, .ref ac, .ref ag, .ref ab])), (am, .inl (cI, 4, .inl hi)), (ag, .inl (cQ, 6, .inr (.inr (.inr (.inr (fun i9 => some (rw i9))))))), (rw 0, .inl (cI, 4, .inl (M 0))), (rw 1, .inl (cI, 4, .inl (M 1))), (rw 2, .inl (cI, 4, .inl (M 2))), (rw 3, .inl (cI, 4, .inl (M 3))), (rw 4, .inl (cI, 4, .inl (M 4))), (rw 5, .inl (cI, 4, .inl (M 5))), (ab, .inl (cI, 6, .inl bd))] H → va_D A [(sr, .inr (2, [.int fo, .ref sb, .int dv, .int cs, .int lz, .ref sq, .ref sx, .ref sy])), (sq, .inl (cI, 4, .inl se)), (a, .inr (0, [.int (nI n), .int (nI k), .ref al, .ref am, .ref aw, .ref ac, .ref ag, .ref ab])), (am, .inl (cI, 4, .inl hi)), (ag, .inl (cQ, 6, .inr (.inr (.inr (.inr (fun i9 => some (rw i9))))))), (rw 0, .inl (cI, 4, .inl (M 0))), (rw 1, .inl (cI, 4, .inl (M 1))), (rw 2, .inl (cI, 4, .inl (M 2))), (rw 3, .inl (cI, 4, .inl (M 3))), (rw 4, .inl (cI, 4, .inl (M 4))), (rw 5, .inl (cI, 4, .inl (M 5))), (ab, .inl (cI, 6, .inl bd))] → va_S A s.heap H locs → W p l e (headSpec ww_Search_canBeKept ({ frames := 0, cells := 0, slots := 0, locals := 0 } : Room)).room s m ([.ref sr, .ref a, .int (nI j), .int (nI fr)]).toArray below meth c H locs 0 0 (MQ below (qq_Search_canBeKept D cI cZ cL cQ sr sb sq sx sy a al am aw ac ag ab n k lz fo dv cs j fr hi se rw M bd A) ([.ref sr, .ref a, .int (nI j), .int (nI fr)]).toArray s 0 0 A) (F0 m 3 ls []) := by
    intro N
    induction N with
    | zero => intro i hN9; exact absurd hN9 (Nat.not_lt_zero _)
    | succ N IH3 =>
      intro i hN9 hi9 hw ls H locs hl hP hD hS
      refine lv_iload hx hb dd_Search_canBeKept_3 (lv_at hl 4 rfl) ?_
      refine lv_aload_n hx hb dd_Search_canBeKept_5 rfl (lv_at hl 1 rfl) ?_
      refine va_get (D := D) (ci := 0) (v := .int (nI k)) (C := RR_Problem) (T := FF_Problem) (N := 8) hx hb htb hi_Problem hown hK hP 2 rfl rfl 1 (by decide) hf_76 (fun _ h9 => h9) rfl dd_Search_canBeKept_6 ?_
      refine lv_icmp_ge (tgt := 122) hx hb dd_Search_canBeKept_9 (by decide) (fun h9 => ?_) (fun h9 => ?_)
      · skip
        have h9 : k ≤ i := (nI_leI (a := k) (b := i) (by omega) (by omega)).mp h9
        refine lv_iconst (v := 1) hx hb dd_Search_canBeKept_122 (by decide) ?_
        exact W.zret (v := (1 : Int32)) hx hb hr (rfl) (fun t ht hW => ⟨⟨(1 : Int32), (), rfl, tl_t (by rw [show k = i by omega]; exact hw), by rw [ht]; exact hP, va_K.moved hW.alike hK, hD⟩, hS.F ht⟩) hS.2.2 dd_Search_canBeKept_123
      · skip
        have h9 : ¬ (k ≤ i) := fun q9 => h9 ((nI_leI (a := k) (b := i) (by omega) (by omega)).mpr q9)
        refine lv_iconst (v := 0) hx hb dd_Search_canBeKept_12 (by decide) ?_
        refine lv_istore (lv' := [(5, .int (0 : Int32)), (0, .ref sr), (1, .ref a), (2, .int (nI j)), (3, .int (nI fr)), (4, .int (nI i))]) hx hb dd_Search_canBeKept_13 hl (by decide) rfl (fun ls hl => ?_)
        refine lv_iconst (v := 0) hx hb dd_Search_canBeKept_15 (by decide) ?_
        refine lv_istore (lv' := [(6, .int (0 : Int32)), (5, .int (0 : Int32)), (0, .ref sr), (1, .ref a), (2, .int (nI j)), (3, .int (nI fr)), (4, .int (nI i))]) hx hb dd_Search_canBeKept_16 hl (by decide) rfl (fun ls hl => ?_)
        have J18 : ∀ (N : Nat) (t0 : Nat), (n - t0) < N → ∀ (ht0 : t0 ≤ n), ∀ (ls : Array Slot) (H : Heap) (locs : List Loc), lv_has ls 9 [(0, .ref sr), (1, .ref a), (2, .int (nI j)), (3, .int (nI fr)), (4, .int (nI i)), (5, .int (cb_s (M i) hi se j fr t0)), (6, .int (nI t0))] → va_P D kc_all [(sr, .inr (2, [.int fo, .ref sb, .int dv, .int cs, .int lz, .ref sq, .ref sx, .ref sy])), (sq, .inl (cI, 4, .inl se)), (a, .inr (0, [.int (nI n), .int (nI k), .ref al, .ref am, .ref aw, .ref ac, .ref ag, .ref ab])), (am, .inl (cI, 4, .inl hi)), (ag, .inl (cQ, 6, .inr (.inr (.inr (.inr (fun i9 => some (rw i9))))))), (rw 0, .inl (cI, 4, .inl (M 0))), (rw 1, .inl (cI, 4, .inl (M 1))), (rw 2, .inl (cI, 4, .inl (M 2))), (rw 3, .inl (cI, 4, .inl (M 3))), (rw 4, .inl (cI, 4, .inl (M 4))), (rw 5, .inl (cI, 4, .inl (M 5))), (ab, .inl (cI, 6, .inl bd))] H → va_D A [(sr, .inr (2, [.int fo, .ref sb, .int dv, .int cs, .int lz, .ref sq, .ref sx, .ref sy])), (sq, .inl (cI, 4, .inl se)), (a, .inr (0, [.int (nI n), .int (nI k), .ref al, .ref am, .ref aw, .ref ac, .ref ag, .ref ab])), (am, .inl (cI, 4, .inl hi)), (ag, .inl (cQ, 6, .inr (.inr (.inr (.inr (fun i9 => some (rw i9))))))), (rw 0, .inl (cI, 4, .inl (M 0))), (rw 1, .inl (cI, 4, .inl (M 1))), (rw 2, .inl (cI, 4, .inl (M 2))), (rw 3, .inl (cI, 4, .inl (M 3))), (rw 4, .inl (cI, 4, .inl (M 4))), (rw 5, .inl (cI, 4, .inl (M 5))), (ab, .inl (cI, 6, .inl bd))] → va_S A s.heap H locs → W p l e (headSpec ww_Search_canBeKept ({ frames := 0, cells := 0, slots := 0, locals := 0 } : Room)).room s m ([.ref sr, .ref a, .int (nI j), .int (nI fr)]).toArray below meth c H locs 0 0 (MQ below (qq_Search_canBeKept D cI cZ cL cQ sr sb sq sx sy a al am aw ac ag ab n k lz fo dv cs j fr hi se rw M bd A) ([.ref sr, .ref a, .int (nI j), .int (nI fr)]).toArray s 0 0 A) (F0 m 18 ls []) := by
          intro N
          induction N with
          | zero => intro t0 hN9; exact absurd hN9 (Nat.not_lt_zero _)
          | succ N IH18 =>
            intro t0 hN9 ht0 ls H locs hl hP hD hS
            refine lv_iload hx hb dd_Search_canBeKept_18 (lv_at hl 6 rfl) ?_
            refine lv_aload_n hx hb dd_Search_canBeKept_20 rfl (lv_at hl 1 rfl) ?_
            refine va_get (D := D) (ci := 0) (v := .int (nI n)) (C := RR_Problem) (T := FF_Problem) (N := 8) hx hb htb hi_Problem hown hK hP 2 rfl rfl 0 (by decide) hf_38 (fun _ h9 => h9) rfl dd_Search_canBeKept_21 ?_
            refine lv_icmp_ge (tgt := 102) hx hb dd_Search_canBeKept_24 (by decide) (fun h24 => ?_) (fun h24 => ?_)
            · skip
              have h24 : n ≤ t0 := (nI_leI (a := n) (b := t0) (by omega) (by omega)).mp h24
              refine lv_iload hx hb dd_Search_canBeKept_102 (lv_at hl 5 rfl) ?_
              refine lv_aload_n hx hb dd_Search_canBeKept_104 rfl (lv_at hl 1 rfl) ?_
              refine va_get (D := D) (ci := 0) (v := .ref ab) (C := RR_Problem) (T := FF_Problem) (N := 8) hx hb htb hi_Problem hown hK hP 2 rfl rfl 7 (by decide) hf_83 (fun _ h9 => h9) rfl dd_Search_canBeKept_105 ?_
              refine lv_iload hx hb dd_Search_canBeKept_108 (lv_at hl 4 rfl) ?_
              refine mm_iald hx hb hK hP 11 0 rfl rfl (i) (rfl) (by omega) (by first | decide | omega) dd_Search_canBeKept_110 ?_
              refine lv_icmp_le (tgt := 116) hx hb dd_Search_canBeKept_111 (by decide) (fun h111 => ?_) (fun h111 => ?_)
              · skip
                refine lv_iinc (k := 4) (v := nI (i + 1)) (lv' := [(4, .int (nI (i + 1))), (0, .ref sr), (1, .ref a), (2, .int (nI j)), (3, .int (nI fr)), (5, .int (cb_s (M i) hi se j fr t0)), (6, .int (nI t0))]) hx hb dd_Search_canBeKept_116 hl rfl (nI_1 _) (by decide) rfl (fun ls hl => ?_)
                refine lv_goto (tgt := 3) hx hb dd_Search_canBeKept_119 (by decide) ?_
                exact IH3 (i + 1) (by omega) (by omega) (by intro i9 g9; rcases Nat.lt_or_eq_of_le (Nat.le_of_lt_succ g9) with h | rfl; exact hw i9 h; rw [show n = t0 by omega]; exact h111) ls H locs (lv_sub hl [1, 2, 3, 4, 0] rfl) hP hD hS
              · skip
                refine lv_iconst (v := 0) hx hb dd_Search_canBeKept_114 (by decide) ?_
                exact W.zret (v := (0 : Int32)) hx hb hr (rfl) (fun t ht hW => ⟨⟨(0 : Int32), (), rfl, tl_f (fun q => h111 (by rw [show t0 = n by omega]; exact q i (by omega))), by rw [ht]; exact hP, va_K.moved hW.alike hK, hD⟩, hS.F ht⟩) hS.2.2 dd_Search_canBeKept_115
            · skip
              have h24 : ¬ (n ≤ t0) := fun q9 => h24 ((nI_leI (a := n) (b := t0) (by omega) (by omega)).mpr q9)
              refine lv_aload_n hx hb dd_Search_canBeKept_27 rfl (lv_at hl 1 rfl) ?_
              refine va_get (D := D) (ci := 0) (v := .ref ag) (C := RR_Problem) (T := FF_Problem) (N := 8) hx hb htb hi_Problem hown hK hP 2 rfl rfl 6 (by decide) hf_79 (fun _ h9 => h9) rfl dd_Search_canBeKept_28 ?_
              refine lv_iload hx hb dd_Search_canBeKept_31 (lv_at hl 4 rfl) ?_
              refine mm_aald (r := rw i) hx hb hK hP 4 3 rfl rfl (i) (rfl) (by omega) (by decide) (rfl) dd_Search_canBeKept_33 ?_
              refine lv_iload hx hb dd_Search_canBeKept_34 (lv_at hl 6 rfl) ?_
              refine mm_iald hx hb hK hP (5 + (i)) 0 (f := M i) (mm_r6 (P := fun i9 => ([(sr, .inr (2, [.int fo, .ref sb, .int dv, .int cs, .int lz, .ref sq, .ref sx, .ref sy])), (sq, .inl (cI, 4, .inl se)), (a, .inr (0, [.int (nI n), .int (nI k), .ref al, .ref am, .ref aw, .ref ac, .ref ag, .ref ab])), (am, .inl (cI, 4, .inl hi)), (ag, .inl (cQ, 6, .inr (.inr (.inr (.inr (fun i9 => some (rw i9))))))), (rw 0, .inl (cI, 4, .inl (M 0))), (rw 1, .inl (cI, 4, .inl (M 1))), (rw 2, .inl (cI, 4, .inl (M 2))), (rw 3, .inl (cI, 4, .inl (M 3))), (rw 4, .inl (cI, 4, .inl (M 4))), (rw 5, .inl (cI, 4, .inl (M 5))), (ab, .inl (cI, 6, .inl bd))] : va_W)[5 + i9]? = some (rw i9, .inl (cI, 4, .inl (M i9)))) (by omega) rfl rfl rfl rfl rfl rfl) rfl (t0) (rfl) (by omega) (by decide) dd_Search_canBeKept_36 ?_
              refine lv_istore (lv' := [(7, .int (M i t0)), (0, .ref sr), (1, .ref a), (2, .int (nI j)), (3, .int (nI fr)), (4, .int (nI i)), (5, .int (cb_s (M i) hi se j fr t0)), (6, .int (nI t0))]) hx hb dd_Search_canBeKept_37 hl (by decide) rfl (fun ls hl => ?_)
              refine lv_iload hx hb dd_Search_canBeKept_39 (lv_at hl 7 rfl) ?_
              refine lv_iload_n hx hb dd_Search_canBeKept_41 rfl (lv_at hl 3 rfl) ?_
              refine lv_icmp_ge (tgt := 54) hx hb dd_Search_canBeKept_42 (by decide) (fun h42 => ?_) (fun h42 => ?_)
              · skip
                have h42 : j ≤ t0 := (nI_leI (a := j) (b := t0) (by omega) (by omega)).mp h42
                refine lv_iconst (v := 1) hx hb dd_Search_canBeKept_54 (by decide) ?_
                refine lv_goto (tgt := 59) hx hb dd_Search_canBeKept_55 (by decide) ?_
                refine lv_istore (lv' := [(8, .int (1 : Int32)), (7, .int (M i t0)), (0, .ref sr), (1, .ref a), (2, .int (nI j)), (3, .int (nI fr)), (4, .int (nI i)), (5, .int (cb_s (M i) hi se j fr t0)), (6, .int (nI t0))]) hx hb dd_Search_canBeKept_59 hl (by decide) rfl (fun ls hl => ?_)
                refine lv_iload hx hb dd_Search_canBeKept_61 (lv_at hl 7 rfl) ?_
                refine lv_iload hx hb dd_Search_canBeKept_63 (lv_at hl 1 rfl) ?_
                refine lv_iload hx hb dd_Search_canBeKept_65 (lv_at hl 0 rfl) ?_
                refine lv_if_eq (tgt := 85) hx hb dd_Search_canBeKept_67 (by decide) (fun h67 => ?_) (fun h67 => ?_)
                · skip
                  have h67 : 1 = 0 := (nI_eq (a := 1) (b := 0) (by omega) (by omega)).mp h67
                  omega
                · skip
                  have h67 : ¬ (1 = 0) := fun q9 => h67 ((nI_eq (a := 1) (b := 0) (by omega) (by omega)).mpr q9)
                  refine lv_iload hx hb dd_Search_canBeKept_70 (lv_at hl 1 rfl) ?_
                  refine lv_if_ge (tgt := 85) hx hb dd_Search_canBeKept_72 (by decide) (fun h72 => ?_) (fun h72 => ?_)
                  · skip
                    refine lv_aload_n hx hb dd_Search_canBeKept_85 rfl (lv_at hl 2 rfl) ?_
                    refine va_get (D := D) (ci := 2) (v := .ref sq) (C := RR_Search) (T := FF_Search) (N := 8) hx hb htb hi_Search hown hK hP 0 rfl rfl 5 (by decide) hf_29 (fun _ h9 => h9) rfl dd_Search_canBeKept_86 ?_
                    refine lv_iload hx hb dd_Search_canBeKept_89 (lv_at hl 8 rfl) ?_
                    refine mm_iald hx hb hK hP 1 0 rfl rfl (t0) (rfl) (by omega) (by first | decide | omega) dd_Search_canBeKept_91 ?_
                    refine mm_topi (y := if (j ≤ t0 ∨ ¬ fr / 2 ^ t0 % 2 = 0) ∧ ¬ 0 ≤ M i t0 then hi t0 else se t0) ((if_neg (by first | exact fun q => q.2 h72 | exact fun q => q.1.elim (fun z => by omega) (fun z => z h51))).symm) ?_
                    refine lv_imul hx hb dd_Search_canBeKept_92 ?_
                    refine lv_iadd hx hb dd_Search_canBeKept_93 ?_
                    refine lv_istore (lv' := [(5, .int ((cb_s (M i) hi se j fr t0) + ((M i t0) * (if (j ≤ t0 ∨ ¬ fr / 2 ^ t0 % 2 = 0) ∧ ¬ 0 ≤ M i t0 then hi t0 else se t0)))), (8, .int (1 : Int32)), (7, .int (M i t0)), (0, .ref sr), (1, .ref a), (2, .int (nI j)), (3, .int (nI fr)), (4, .int (nI i)), (6, .int (nI t0))]) hx hb dd_Search_canBeKept_94 hl (by decide) rfl (fun ls hl => ?_)
                    refine lv_iinc (k := 8) (v := nI (t0 + 1)) (lv' := [(6, .int (nI (t0 + 1))), (5, .int ((cb_s (M i) hi se j fr t0) + ((M i t0) * (if (j ≤ t0 ∨ ¬ fr / 2 ^ t0 % 2 = 0) ∧ ¬ 0 ≤ M i t0 then hi t0 else se t0)))), (8, .int (1 : Int32)), (7, .int (M i t0)), (0, .ref sr), (1, .ref a), (2, .int (nI j)), (3, .int (nI fr)), (4, .int (nI i))]) hx hb dd_Search_canBeKept_96 hl rfl (nI_1 _) (by decide) rfl (fun ls hl => ?_)
                    refine lv_goto (tgt := 18) hx hb dd_Search_canBeKept_99 (by decide) ?_
                    exact IH18 (t0 + 1) (by omega) (by omega) ls H locs (lv_sub hl [4, 5, 6, 7, 8, 1, 0] rfl) hP hD hS
                  · skip
                    refine lv_aload_n hx hb dd_Search_canBeKept_75 rfl (lv_at hl 3 rfl) ?_
                    refine va_get (D := D) (ci := 0) (v := .ref am) (C := RR_Problem) (T := FF_Problem) (N := 8) hx hb htb hi_Problem hown hK hP 2 rfl rfl 3 (by decide) hf_70 (fun _ h9 => h9) rfl dd_Search_canBeKept_76 ?_
                    refine lv_iload hx hb dd_Search_canBeKept_79 (lv_at hl 8 rfl) ?_
                    refine mm_iald hx hb hK hP 3 0 rfl rfl (t0) (rfl) (by omega) (by first | decide | omega) dd_Search_canBeKept_81 ?_
                    refine mm_topi (y := if (j ≤ t0 ∨ ¬ fr / 2 ^ t0 % 2 = 0) ∧ ¬ 0 ≤ M i t0 then hi t0 else se t0) ((if_pos ⟨by first | exact Or.inl (by omega) | exact Or.inr h51, h72⟩).symm) ?_
                    refine lv_goto (tgt := 92) hx hb dd_Search_canBeKept_82 (by decide) ?_
                    refine lv_imul hx hb dd_Search_canBeKept_92 ?_
                    refine lv_iadd hx hb dd_Search_canBeKept_93 ?_
                    refine lv_istore (lv' := [(5, .int ((cb_s (M i) hi se j fr t0) + ((M i t0) * (if (j ≤ t0 ∨ ¬ fr / 2 ^ t0 % 2 = 0) ∧ ¬ 0 ≤ M i t0 then hi t0 else se t0)))), (8, .int (1 : Int32)), (7, .int (M i t0)), (0, .ref sr), (1, .ref a), (2, .int (nI j)), (3, .int (nI fr)), (4, .int (nI i)), (6, .int (nI t0))]) hx hb dd_Search_canBeKept_94 hl (by decide) rfl (fun ls hl => ?_)
                    refine lv_iinc (k := 8) (v := nI (t0 + 1)) (lv' := [(6, .int (nI (t0 + 1))), (5, .int ((cb_s (M i) hi se j fr t0) + ((M i t0) * (if (j ≤ t0 ∨ ¬ fr / 2 ^ t0 % 2 = 0) ∧ ¬ 0 ≤ M i t0 then hi t0 else se t0)))), (8, .int (1 : Int32)), (7, .int (M i t0)), (0, .ref sr), (1, .ref a), (2, .int (nI j)), (3, .int (nI fr)), (4, .int (nI i))]) hx hb dd_Search_canBeKept_96 hl rfl (nI_1 _) (by decide) rfl (fun ls hl => ?_)
                    refine lv_goto (tgt := 18) hx hb dd_Search_canBeKept_99 (by decide) ?_
                    exact IH18 (t0 + 1) (by omega) (by omega) ls H locs (lv_sub hl [4, 5, 6, 7, 8, 1, 0] rfl) hP hD hS
              · skip
                have h42 : ¬ (j ≤ t0) := fun q9 => h42 ((nI_leI (a := j) (b := t0) (by omega) (by omega)).mpr q9)
                refine lv_iload_n hx hb dd_Search_canBeKept_45 rfl (lv_at hl 4 rfl) ?_
                refine lv_iload hx hb dd_Search_canBeKept_46 (lv_at hl 7 rfl) ?_
                refine lv_ishr hx hb dd_Search_canBeKept_48 ?_
                refine lv_iconst (v := 1) hx hb dd_Search_canBeKept_49 (by decide) ?_
                refine lv_iand hx hb dd_Search_canBeKept_50 ?_
                refine mm_topi (y := nI (fr / 2 ^ t0 % 2)) (bt_bit t0 (by omega) fr (by omega)) ?_
                refine lv_if_eq (tgt := 58) hx hb dd_Search_canBeKept_51 (by decide) (fun h51 => ?_) (fun h51 => ?_)
                · skip
                  have h51 : fr / 2 ^ t0 % 2 = 0 := (nI_eq (a := fr / 2 ^ t0 % 2) (b := 0) (by omega) (by omega)).mp h51
                  refine lv_iconst (v := 0) hx hb dd_Search_canBeKept_58 (by decide) ?_
                  refine lv_istore (lv' := [(8, .int (0 : Int32)), (7, .int (M i t0)), (0, .ref sr), (1, .ref a), (2, .int (nI j)), (3, .int (nI fr)), (4, .int (nI i)), (5, .int (cb_s (M i) hi se j fr t0)), (6, .int (nI t0))]) hx hb dd_Search_canBeKept_59 hl (by decide) rfl (fun ls hl => ?_)
                  refine lv_iload hx hb dd_Search_canBeKept_61 (lv_at hl 7 rfl) ?_
                  refine lv_iload hx hb dd_Search_canBeKept_63 (lv_at hl 1 rfl) ?_
                  refine lv_iload hx hb dd_Search_canBeKept_65 (lv_at hl 0 rfl) ?_
                  refine lv_if_eq (tgt := 85) hx hb dd_Search_canBeKept_67 (by decide) (fun h67 => ?_) (fun h67 => ?_)
                  · skip
                    have h67 : 0 = 0 := (nI_eq (a := 0) (b := 0) (by omega) (by omega)).mp h67
                    refine lv_aload_n hx hb dd_Search_canBeKept_85 rfl (lv_at hl 2 rfl) ?_
                    refine va_get (D := D) (ci := 2) (v := .ref sq) (C := RR_Search) (T := FF_Search) (N := 8) hx hb htb hi_Search hown hK hP 0 rfl rfl 5 (by decide) hf_29 (fun _ h9 => h9) rfl dd_Search_canBeKept_86 ?_
                    refine lv_iload hx hb dd_Search_canBeKept_89 (lv_at hl 8 rfl) ?_
                    refine mm_iald hx hb hK hP 1 0 rfl rfl (t0) (rfl) (by omega) (by first | decide | omega) dd_Search_canBeKept_91 ?_
                    refine mm_topi (y := if (j ≤ t0 ∨ ¬ fr / 2 ^ t0 % 2 = 0) ∧ ¬ 0 ≤ M i t0 then hi t0 else se t0) ((if_neg (by first | exact fun q => q.2 h72 | exact fun q => q.1.elim (fun z => by omega) (fun z => z h51))).symm) ?_
                    refine lv_imul hx hb dd_Search_canBeKept_92 ?_
                    refine lv_iadd hx hb dd_Search_canBeKept_93 ?_
                    refine lv_istore (lv' := [(5, .int ((cb_s (M i) hi se j fr t0) + ((M i t0) * (if (j ≤ t0 ∨ ¬ fr / 2 ^ t0 % 2 = 0) ∧ ¬ 0 ≤ M i t0 then hi t0 else se t0)))), (8, .int (0 : Int32)), (7, .int (M i t0)), (0, .ref sr), (1, .ref a), (2, .int (nI j)), (3, .int (nI fr)), (4, .int (nI i)), (6, .int (nI t0))]) hx hb dd_Search_canBeKept_94 hl (by decide) rfl (fun ls hl => ?_)
                    refine lv_iinc (k := 8) (v := nI (t0 + 1)) (lv' := [(6, .int (nI (t0 + 1))), (5, .int ((cb_s (M i) hi se j fr t0) + ((M i t0) * (if (j ≤ t0 ∨ ¬ fr / 2 ^ t0 % 2 = 0) ∧ ¬ 0 ≤ M i t0 then hi t0 else se t0)))), (8, .int (0 : Int32)), (7, .int (M i t0)), (0, .ref sr), (1, .ref a), (2, .int (nI j)), (3, .int (nI fr)), (4, .int (nI i))]) hx hb dd_Search_canBeKept_96 hl rfl (nI_1 _) (by decide) rfl (fun ls hl => ?_)
                    refine lv_goto (tgt := 18) hx hb dd_Search_canBeKept_99 (by decide) ?_
                    exact IH18 (t0 + 1) (by omega) (by omega) ls H locs (lv_sub hl [4, 5, 6, 7, 8, 1, 0] rfl) hP hD hS
                  · skip
                    have h67 : ¬ (0 = 0) := fun q9 => h67 ((nI_eq (a := 0) (b := 0) (by omega) (by omega)).mpr q9)
                    omega
                · skip
                  have h51 : ¬ (fr / 2 ^ t0 % 2 = 0) := fun q9 => h51 ((nI_eq (a := fr / 2 ^ t0 % 2) (b := 0) (by omega) (by omega)).mpr q9)
                  refine lv_iconst (v := 1) hx hb dd_Search_canBeKept_54 (by decide) ?_
                  refine lv_goto (tgt := 59) hx hb dd_Search_canBeKept_55 (by decide) ?_
                  refine lv_istore (lv' := [(8, .int (1 : Int32)), (7, .int (M i t0)), (0, .ref sr), (1, .ref a), (2, .int (nI j)), (3, .int (nI fr)), (4, .int (nI i)), (5, .int (cb_s (M i) hi se j fr t0)), (6, .int (nI t0))]) hx hb dd_Search_canBeKept_59 hl (by decide) rfl (fun ls hl => ?_)
                  refine lv_iload hx hb dd_Search_canBeKept_61 (lv_at hl 7 rfl) ?_
                  refine lv_iload hx hb dd_Search_canBeKept_63 (lv_at hl 1 rfl) ?_
                  refine lv_iload hx hb dd_Search_canBeKept_65 (lv_at hl 0 rfl) ?_
                  refine lv_if_eq (tgt := 85) hx hb dd_Search_canBeKept_67 (by decide) (fun h67 => ?_) (fun h67 => ?_)
                  · skip
                    have h67 : 1 = 0 := (nI_eq (a := 1) (b := 0) (by omega) (by omega)).mp h67
                    omega
                  · skip
                    have h67 : ¬ (1 = 0) := fun q9 => h67 ((nI_eq (a := 1) (b := 0) (by omega) (by omega)).mpr q9)
                    refine lv_iload hx hb dd_Search_canBeKept_70 (lv_at hl 1 rfl) ?_
                    refine lv_if_ge (tgt := 85) hx hb dd_Search_canBeKept_72 (by decide) (fun h72 => ?_) (fun h72 => ?_)
                    · skip
                      refine lv_aload_n hx hb dd_Search_canBeKept_85 rfl (lv_at hl 2 rfl) ?_
                      refine va_get (D := D) (ci := 2) (v := .ref sq) (C := RR_Search) (T := FF_Search) (N := 8) hx hb htb hi_Search hown hK hP 0 rfl rfl 5 (by decide) hf_29 (fun _ h9 => h9) rfl dd_Search_canBeKept_86 ?_
                      refine lv_iload hx hb dd_Search_canBeKept_89 (lv_at hl 8 rfl) ?_
                      refine mm_iald hx hb hK hP 1 0 rfl rfl (t0) (rfl) (by omega) (by first | decide | omega) dd_Search_canBeKept_91 ?_
                      refine mm_topi (y := if (j ≤ t0 ∨ ¬ fr / 2 ^ t0 % 2 = 0) ∧ ¬ 0 ≤ M i t0 then hi t0 else se t0) ((if_neg (by first | exact fun q => q.2 h72 | exact fun q => q.1.elim (fun z => by omega) (fun z => z h51))).symm) ?_
                      refine lv_imul hx hb dd_Search_canBeKept_92 ?_
                      refine lv_iadd hx hb dd_Search_canBeKept_93 ?_
                      refine lv_istore (lv' := [(5, .int ((cb_s (M i) hi se j fr t0) + ((M i t0) * (if (j ≤ t0 ∨ ¬ fr / 2 ^ t0 % 2 = 0) ∧ ¬ 0 ≤ M i t0 then hi t0 else se t0)))), (8, .int (1 : Int32)), (7, .int (M i t0)), (0, .ref sr), (1, .ref a), (2, .int (nI j)), (3, .int (nI fr)), (4, .int (nI i)), (6, .int (nI t0))]) hx hb dd_Search_canBeKept_94 hl (by decide) rfl (fun ls hl => ?_)
                      refine lv_iinc (k := 8) (v := nI (t0 + 1)) (lv' := [(6, .int (nI (t0 + 1))), (5, .int ((cb_s (M i) hi se j fr t0) + ((M i t0) * (if (j ≤ t0 ∨ ¬ fr / 2 ^ t0 % 2 = 0) ∧ ¬ 0 ≤ M i t0 then hi t0 else se t0)))), (8, .int (1 : Int32)), (7, .int (M i t0)), (0, .ref sr), (1, .ref a), (2, .int (nI j)), (3, .int (nI fr)), (4, .int (nI i))]) hx hb dd_Search_canBeKept_96 hl rfl (nI_1 _) (by decide) rfl (fun ls hl => ?_)
                      refine lv_goto (tgt := 18) hx hb dd_Search_canBeKept_99 (by decide) ?_
                      exact IH18 (t0 + 1) (by omega) (by omega) ls H locs (lv_sub hl [4, 5, 6, 7, 8, 1, 0] rfl) hP hD hS
                    · skip
                      refine lv_aload_n hx hb dd_Search_canBeKept_75 rfl (lv_at hl 3 rfl) ?_
                      refine va_get (D := D) (ci := 0) (v := .ref am) (C := RR_Problem) (T := FF_Problem) (N := 8) hx hb htb hi_Problem hown hK hP 2 rfl rfl 3 (by decide) hf_70 (fun _ h9 => h9) rfl dd_Search_canBeKept_76 ?_
                      refine lv_iload hx hb dd_Search_canBeKept_79 (lv_at hl 8 rfl) ?_
                      refine mm_iald hx hb hK hP 3 0 rfl rfl (t0) (rfl) (by omega) (by first | decide | omega) dd_Search_canBeKept_81 ?_
                      refine mm_topi (y := if (j ≤ t0 ∨ ¬ fr / 2 ^ t0 % 2 = 0) ∧ ¬ 0 ≤ M i t0 then hi t0 else se t0) ((if_pos ⟨by first | exact Or.inl (by omega) | exact Or.inr h51, h72⟩).symm) ?_
                      refine lv_goto (tgt := 92) hx hb dd_Search_canBeKept_82 (by decide) ?_
                      refine lv_imul hx hb dd_Search_canBeKept_92 ?_
                      refine lv_iadd hx hb dd_Search_canBeKept_93 ?_
                      refine lv_istore (lv' := [(5, .int ((cb_s (M i) hi se j fr t0) + ((M i t0) * (if (j ≤ t0 ∨ ¬ fr / 2 ^ t0 % 2 = 0) ∧ ¬ 0 ≤ M i t0 then hi t0 else se t0)))), (8, .int (1 : Int32)), (7, .int (M i t0)), (0, .ref sr), (1, .ref a), (2, .int (nI j)), (3, .int (nI fr)), (4, .int (nI i)), (6, .int (nI t0))]) hx hb dd_Search_canBeKept_94 hl (by decide) rfl (fun ls hl => ?_)
                      refine lv_iinc (k := 8) (v := nI (t0 + 1)) (lv' := [(6, .int (nI (t0 + 1))), (5, .int ((cb_s (M i) hi se j fr t0) + ((M i t0) * (if (j ≤ t0 ∨ ¬ fr / 2 ^ t0 % 2 = 0) ∧ ¬ 0 ≤ M i t0 then hi t0 else se t0)))), (8, .int (1 : Int32)), (7, .int (M i t0)), (0, .ref sr), (1, .ref a), (2, .int (nI j)), (3, .int (nI fr)), (4, .int (nI i))]) hx hb dd_Search_canBeKept_96 hl rfl (nI_1 _) (by decide) rfl (fun ls hl => ?_)
                      refine lv_goto (tgt := 18) hx hb dd_Search_canBeKept_99 (by decide) ?_
                      exact IH18 (t0 + 1) (by omega) (by omega) ls H locs (lv_sub hl [4, 5, 6, 7, 8, 1, 0] rfl) hP hD hS
        exact J18 _ 0 (Nat.lt_succ_self _) (by omega) ls H locs (lv_sub hl [2, 3, 4, 5, 6, 1, 0] rfl) hP hD hS
  exact J3 _ 0 (Nat.lt_succ_self _) (by omega) (fun _ h => absurd h (Nat.not_lt_zero _)) ls _ _ (lv_sub hl [1, 2, 3, 4, 0] rfl) hP hD hS
abbrev qq_Search_freeAmount (D : va_G) (cI cZ cL cQ : ClassId) (sr : Nat) (sb : Nat) (sq : Nat) (sx : Nat) (sy : Nat) (mi : Nat) (mv : Nat) (lz : Int32) (fo : Int32) (dv : Int32) (cs : Int32) (fr : Nat) (ti : Nat) (j : Nat) (rests : Nat → Int32) (vals : Nat → Int32) (A : Nat → Prop) : Array Value → State → Outcome → State → Prop := va_Qi (fun (r : Int32) (u : Unit) => r = fa_f rests vals fr ti j 6) (fun (u : Unit) t => mm_B D kc_all [(cI, .int), (cZ, .boolean), (cL, .long), (cQ, .array .int)] A [(sr, .inr (2, [.int fo, .ref sb, .int dv, .int cs, .int lz, .ref sq, .ref sx, .ref sy])), (sx, .inl (cI, 6, .inl rests)), (mi, .inr (1, [.ref mv])), (mv, .inl (cI, 2048, .inl vals))] t) A
set_option maxHeartbeats 4000000 in
set_option maxRecDepth 100000 in
theorem cc_Search_freeAmount (l : Launch) (D : va_G) (cI cZ cL cQ : ClassId) (sz : Nat) (sr : Nat) (sb : Nat) (sq : Nat) (sx : Nat) (sy : Nat) (mi : Nat) (mv : Nat) (lz : Int32) (fo : Int32) (dv : Int32) (cs : Int32) (fr : Nat) (ti : Nat) (j : Nat) (rests : Nat → Int32) (vals : Nat → Int32) (hfr : fr < 16) (hti : ti < 128) (hj : j < 4) : Met l yy_Search_freeAmount ww_Search_freeAmount ({ frames := 2, cells := 0, slots := 0, locals := 48 } : Room) (mm_Pc D kc_all [(cI, .int), (cZ, .boolean), (cL, .long), (cQ, .array .int)] sz [(sr, .inr (2, [.int fo, .ref sb, .int dv, .int cs, .int lz, .ref sq, .ref sx, .ref sy])), (sx, .inl (cI, 6, .inl rests)), (mi, .inr (1, [.ref mv])), (mv, .inl (cI, 2048, .inl vals))] [.ref sr, .ref mi, .int (nI fr), .int (nI ti), .int (nI j)]) (qq_Search_freeAmount D cI cZ cL cQ sr sb sq sx sy mi mv lz fo dv cs fr ti j rests vals (va_A [(sr, .inr (2, [.int fo, .ref sb, .int dv, .int cs, .int lz, .ref sq, .ref sx, .ref sy])), (sx, .inl (cI, 6, .inl rests)), (mi, .inr (1, [.ref mv])), (mv, .inl (cI, 2048, .inl vals))] sz)) 0 0 (va_A [(sr, .inr (2, [.int fo, .ref sb, .int dv, .int cs, .int lz, .ref sq, .ref sx, .ref sy])), (sx, .inl (cI, 6, .inl rests)), (mi, .inr (1, [.ref mv])), (mv, .inl (cI, 2048, .inl vals))] sz) := by
  refine Met.ofW (cc := bb_Search_freeAmount) (maxL := 7) (ret := (some .int)) (by decide) rfl ?_
  intro p e s m args below meth c s₁ B hml hv
  obtain ⟨rfl, hsz, hP, hK, hD0⟩ := hv
  have hx := B.exec
  have hb := B.bytes
  have hr := B.returns
  have hts := atoms_spec (ws := ww_Search_freeAmount) B.pre
  have hown : s.vm.findClass RR_Search = some m.cls := findClass_of_methodNamed B.named
  have hlocks := B.notSynchronized
  subst hsz
  have hD := hD0.self (sz := s.heap.size)
  generalize hAe : va_A [(sr, .inr (2, [.int fo, .ref sb, .int dv, .int cs, .int lz, .ref sq, .ref sx, .ref sy])), (sx, .inl (cI, 6, .inl rests)), (mi, .inr (1, [.ref mv])), (mv, .inl (cI, 2048, .inl vals))] s.heap.size = A at hD ⊢
  have hA : ∀ q : Nat, s.heap.size ≤ q → A q := fun q h => by rw [← hAe]; exact Or.inr h
  have hS : va_S A s.heap s.heap [] := va_S.rf
  have hP : va_P D kc_all [(sr, .inr (2, [.int fo, .ref sb, .int dv, .int cs, .int lz, .ref sq, .ref sx, .ref sy])), (sx, .inl (cI, 6, .inl rests)), (mi, .inr (1, [.ref mv])), (mv, .inl (cI, 2048, .inl vals))] s.heap := hP
  have hl := lv_entry ([.ref sr, .ref mi, .int (nI fr), .int (nI ti), .int (nI j)]) (n := 7) (Nat.le_of_ble_eq_true rfl)
  rw [lg_entry_eq]
  generalize (lg_sl ([.ref sr, .ref mi, .int (nI fr), .int (nI ti), .int (nI j)]) ++ List.replicate (7 - (lg_sl ([.ref sr, .ref mi, .int (nI fr), .int (nI ti), .int (nI j)])).length) Slot.unset).toArray = ls at hl ⊢
  have hl : lv_has ls 7 [(0, .ref sr), (1, .ref mi), (2, .int (nI fr)), (3, .int (nI ti)), (4, .int (nI j))] := hl
  have htb : ∀ w ∈ tb_all, w.before ([.ref sr, .ref mi, .int (nI fr), .int (nI ti), .int (nI j)]).toArray s = true := fun w h => hts w (List.mem_cons_of_mem _ h)
  have hf_32 := htb _ fl_Search_32
  refine lv_iconst (v := 0) hx hb dd_Search_freeAmount_0 (by decide) ?_
  refine lv_istore (lv' := [(5, .int (0 : Int32)), (0, .ref sr), (1, .ref mi), (2, .int (nI fr)), (3, .int (nI ti)), (4, .int (nI j))]) hx hb dd_Search_freeAmount_1 hl (by decide) rfl (fun ls hl => ?_)
  refine lv_iconst (v := 0) hx hb dd_Search_freeAmount_3 (by decide) ?_
  refine lv_istore (lv' := [(6, .int (0 : Int32)), (5, .int (0 : Int32)), (0, .ref sr), (1, .ref mi), (2, .int (nI fr)), (3, .int (nI ti)), (4, .int (nI j))]) hx hb dd_Search_freeAmount_4 hl (by decide) rfl (fun ls hl => ?_)
  have J6 : ∀ (N : Nat) (i : Nat), (6 - i) < N → ∀ (hi : i ≤ 6), ∀ (ls : Array Slot) (H : Heap) (locs : List Loc), lv_has ls 7 [(0, .ref sr), (1, .ref mi), (2, .int (nI fr)), (3, .int (nI ti)), (4, .int (nI j)), (5, .int (fa_f rests vals fr ti j i)), (6, .int (nI i))] → va_P D kc_all [(sr, .inr (2, [.int fo, .ref sb, .int dv, .int cs, .int lz, .ref sq, .ref sx, .ref sy])), (sx, .inl (cI, 6, .inl rests)), (mi, .inr (1, [.ref mv])), (mv, .inl (cI, 2048, .inl vals))] H → va_D A [(sr, .inr (2, [.int fo, .ref sb, .int dv, .int cs, .int lz, .ref sq, .ref sx, .ref sy])), (sx, .inl (cI, 6, .inl rests)), (mi, .inr (1, [.ref mv])), (mv, .inl (cI, 2048, .inl vals))] → va_S A s.heap H locs → W p l e (headSpec ww_Search_freeAmount ({ frames := 2, cells := 0, slots := 0, locals := 48 } : Room)).room s m ([.ref sr, .ref mi, .int (nI fr), .int (nI ti), .int (nI j)]).toArray below meth c H locs 0 0 (MQ below (qq_Search_freeAmount D cI cZ cL cQ sr sb sq sx sy mi mv lz fo dv cs fr ti j rests vals A) ([.ref sr, .ref mi, .int (nI fr), .int (nI ti), .int (nI j)]).toArray s 0 0 A) (F0 m 6 ls []) := by
    intro N
    induction N with
    | zero => intro i hN9; exact absurd hN9 (Nat.not_lt_zero _)
    | succ N IH6 =>
      intro i hN9 hi ls H locs hl hP hD hS
      refine lv_iload hx hb dd_Search_freeAmount_6 (lv_at hl 6 rfl) ?_
      refine lv_bipush (v := 6) hx hb dd_Search_freeAmount_8 (by decide) ?_
      refine lv_icmp_ge (tgt := 51) hx hb dd_Search_freeAmount_10 (by decide) (fun h10 => ?_) (fun h10 => ?_)
      · skip
        have h10 : 6 ≤ i := (nI_leI (a := 6) (b := i) (by omega) (by omega)).mp h10
        refine lv_iload hx hb dd_Search_freeAmount_51 (lv_at hl 5 rfl) ?_
        exact W.iret (v := (fa_f rests vals fr ti j i)) hx hb hr (fun t ht hW => ⟨⟨fa_f rests vals fr ti j i, (), rfl, by rw [show (6 : Nat) = i by omega], by rw [ht]; exact hP, va_K.moved hW.alike hK, hD⟩, hS.F ht⟩) hS.2.2 dd_Search_freeAmount_53
      · skip
        have h10 : ¬ (6 ≤ i) := fun q9 => h10 ((nI_leI (a := 6) (b := i) (by omega) (by omega)).mpr q9)
        refine lv_iload_n hx hb dd_Search_freeAmount_13 rfl (lv_at hl 3 rfl) ?_
        refine lv_iload hx hb dd_Search_freeAmount_14 (lv_at hl 6 rfl) ?_
        refine lv_ishr hx hb dd_Search_freeAmount_16 ?_
        refine lv_iconst (v := 1) hx hb dd_Search_freeAmount_17 (by decide) ?_
        refine lv_iand hx hb dd_Search_freeAmount_18 ?_
        refine mm_topi (y := nI (ti / 2 ^ i % 2)) (bt_bit i (by omega) ti hti) ?_
        refine lv_if_eq (tgt := 45) hx hb dd_Search_freeAmount_19 (by decide) (fun h19 => ?_) (fun h19 => ?_)
        · skip
          have h19 : ti / 2 ^ i % 2 = 0 := (nI_eq (a := ti / 2 ^ i % 2) (b := 0) (by omega) (by omega)).mp h19
          refine lv_iinc (k := 6) (v := nI (i + 1)) (lv' := [(6, .int (nI (i + 1))), (0, .ref sr), (1, .ref mi), (2, .int (nI fr)), (3, .int (nI ti)), (4, .int (nI j)), (5, .int (fa_f rests vals fr ti j i))]) hx hb dd_Search_freeAmount_45 hl rfl (nI_1 _) (by decide) rfl (fun ls hl => ?_)
          refine lv_goto (tgt := 6) hx hb dd_Search_freeAmount_48 (by decide) ?_
          try rw [show fa_f rests vals fr ti j i = fa_f rests vals fr ti j (i + 1) from (if_pos h19).symm] at hl
          exact IH6 (i + 1) (by omega) (by omega) ls H locs (lv_sub hl [1, 2, 3, 4, 5, 6, 0] rfl) hP hD hS
        · skip
          have h19 : ¬ (ti / 2 ^ i % 2 = 0) := fun q9 => h19 ((nI_eq (a := ti / 2 ^ i % 2) (b := 0) (by omega) (by omega)).mpr q9)
          refine lv_iload hx hb dd_Search_freeAmount_22 (lv_at hl 5 rfl) ?_
          refine lv_aload_n hx hb dd_Search_freeAmount_24 rfl (lv_at hl 0 rfl) ?_
          refine va_get (D := D) (ci := 2) (v := .ref sx) (C := RR_Search) (T := FF_Search) (N := 8) hx hb htb hi_Search hown hK hP 0 rfl rfl 6 (by decide) hf_32 (fun _ h9 => h9) rfl dd_Search_freeAmount_25 ?_
          refine lv_iload hx hb dd_Search_freeAmount_28 (lv_at hl 6 rfl) ?_
          refine mm_iald hx hb hK hP 1 0 rfl rfl (i) (rfl) (by omega) (by first | decide | omega) dd_Search_freeAmount_30 ?_
          refine lv_aload_n hx hb dd_Search_freeAmount_31 rfl (lv_at hl 1 rfl) ?_
          refine lv_iload_n hx hb dd_Search_freeAmount_32 rfl (lv_at hl 2 rfl) ?_
          refine lv_iload_n hx hb dd_Search_freeAmount_33 rfl (lv_at hl 3 rfl) ?_
          refine lv_iload hx hb dd_Search_freeAmount_34 (lv_at hl 4 rfl) ?_
          refine lv_iload hx hb dd_Search_freeAmount_36 (lv_at hl 6 rfl) ?_
          refine mm_i (wc := [(mi, .inr (1, [.ref mv])), (mv, .inl (cI, 2048, .inl vals))]) (wr := [(sr, .inr (2, [.int fo, .ref sb, .int dv, .int cs, .int lz, .ref sq, .ref sx, .ref sy])), (sx, .inl (cI, 6, .inl rests))]) (va_runV (As := [.int (nI fr), .int (nI ti), .int (nI j), .int (nI i)]) (rest := [.int (rests i), .int (fa_f rests vals fr ti j i)]) (C := RR_Minors) ⟨hx, hb, hml, hown, hts⟩ (cc_Minors_cofactor l D cI cZ cL cQ _ mi mv fr ti j i vals (by omega) (by omega) (by omega) (by omega)) (mm_cwV 4 hts ml_Search_121 im_Minors_cofactor se_Minors_cofactor ic_Minors cd_Minors_cofactor rfl rfl (by decide +kernel) ⟨Nat.le_of_ble_eq_true rfl, Nat.le_of_ble_eq_true rfl⟩) (mm_preV hK hP hD [2, 3] (by decide) rfl 2 rfl rfl) rfl rfl hl.1 rfl (lv_room (Nat.le_of_ble_eq_true rfl)) dd_Search_freeAmount_38 ⟨Nat.zero_le _, Nat.zero_le _⟩) hP hD hS hA [2, 3] [0, 1] rfl rfl (by decide) (by decide) (fun zr1 zu2 H locs p38 hP hD hS => ?_)
          have hP : va_P D kc_all [(sr, .inr (2, [.int fo, .ref sb, .int dv, .int cs, .int lz, .ref sq, .ref sx, .ref sy])), (sx, .inl (cI, 6, .inl rests)), (mi, .inr (1, [.ref mv])), (mv, .inl (cI, 2048, .inl vals))] H := hP
          have hD : va_D A [(sr, .inr (2, [.int fo, .ref sb, .int dv, .int cs, .int lz, .ref sq, .ref sx, .ref sy])), (sx, .inl (cI, 6, .inl rests)), (mi, .inr (1, [.ref mv])), (mv, .inl (cI, 2048, .inl vals))] := hD
          have p38 : zr1 = cf_f vals fr ti j i := p38
          refine mm_topi (y := cf_f vals fr ti j i) (p38) ?_
          refine lv_imul hx hb dd_Search_freeAmount_41 ?_
          refine lv_iadd hx hb dd_Search_freeAmount_42 ?_
          refine mm_topi (y := fa_f rests vals fr ti j (i + 1)) ((if_neg h19).symm) ?_
          refine lv_istore (lv' := [(5, .int (fa_f rests vals fr ti j (i + 1))), (0, .ref sr), (1, .ref mi), (2, .int (nI fr)), (3, .int (nI ti)), (4, .int (nI j)), (6, .int (nI i))]) hx hb dd_Search_freeAmount_43 hl (by decide) rfl (fun ls hl => ?_)
          refine lv_iinc (k := 6) (v := nI (i + 1)) (lv' := [(6, .int (nI (i + 1))), (5, .int (fa_f rests vals fr ti j (i + 1))), (0, .ref sr), (1, .ref mi), (2, .int (nI fr)), (3, .int (nI ti)), (4, .int (nI j))]) hx hb dd_Search_freeAmount_45 hl rfl (nI_1 _) (by decide) rfl (fun ls hl => ?_)
          refine lv_goto (tgt := 6) hx hb dd_Search_freeAmount_48 (by decide) ?_
          try rw [show fa_f rests vals fr ti j i = fa_f rests vals fr ti j (i + 1) from (if_pos h19).symm] at hl
          exact IH6 (i + 1) (by omega) (by omega) ls H locs (lv_sub hl [2, 3, 4, 5, 6, 1, 0] rfl) hP hD hS
  exact J6 _ 0 (Nat.lt_succ_self _) (by omega) ls _ _ (lv_sub hl [2, 3, 4, 5, 6, 1, 0] rfl) hP hD hS
abbrev qq_Search_setRests (D : va_G) (cI cZ cL cQ : ClassId) (sr : Nat) (sb : Nat) (sq : Nat) (sx : Nat) (sy : Nat) (a : Nat) (al : Nat) (am : Nat) (aw : Nat) (ac : Nat) (ag : Nat) (ab : Nat) (n : Nat) (k : Nat) (lz : Int32) (fo : Int32) (dv : Int32) (cs : Int32) (fr : Nat) (se : Nat → Int32) (rests : Nat → Int32) (trial : Nat → Int32) (rw : Nat → Nat) (M : Nat → Nat → Int32) (bd : Nat → Int32) (A : Nat → Prop) : Array Value → State → Outcome → State → Prop := va_Qv (fun u : (Nat → Int32) × (Nat → Int32) => u.2 = mx_f (rs_t se fr) trial n ∧ u.1 = mx_f (rs_r M bd (mx_f (rs_t se fr) trial n) n) rests k) (fun (u : (Nat → Int32) × (Nat → Int32)) t => mm_B D kc_all [(cI, .int), (cZ, .boolean), (cL, .long), (cQ, .array .int)] A [(sr, .inr (2, [.int fo, .ref sb, .int dv, .int cs, .int lz, .ref sq, .ref sx, .ref sy])), (sq, .inl (cI, 4, .inl se)), (sx, .inl (cI, 6, .inl u.1)), (sy, .inl (cI, 4, .inl u.2)), (a, .inr (0, [.int (nI n), .int (nI k), .ref al, .ref am, .ref aw, .ref ac, .ref ag, .ref ab])), (ag, .inl (cQ, 6, .inr (.inr (.inr (.inr (fun i9 => some (rw i9))))))), (rw 0, .inl (cI, 4, .inl (M 0))), (rw 1, .inl (cI, 4, .inl (M 1))), (rw 2, .inl (cI, 4, .inl (M 2))), (rw 3, .inl (cI, 4, .inl (M 3))), (rw 4, .inl (cI, 4, .inl (M 4))), (rw 5, .inl (cI, 4, .inl (M 5))), (ab, .inl (cI, 6, .inl bd))] t) A
set_option maxHeartbeats 4000000 in
set_option maxRecDepth 100000 in
theorem cc_Search_setRests (l : Launch) (D : va_G) (cI cZ cL cQ : ClassId) (sz : Nat) (sr : Nat) (sb : Nat) (sq : Nat) (sx : Nat) (sy : Nat) (a : Nat) (al : Nat) (am : Nat) (aw : Nat) (ac : Nat) (ag : Nat) (ab : Nat) (n : Nat) (k : Nat) (lz : Int32) (fo : Int32) (dv : Int32) (cs : Int32) (fr : Nat) (se : Nat → Int32) (rests : Nat → Int32) (trial : Nat → Int32) (rw : Nat → Nat) (M : Nat → Nat → Int32) (bd : Nat → Int32) (hn : n ≤ 4) (hk : k ≤ 6) (hfr : fr < 16) : Met l yy_Search_setRests ww_Search_setRests ({ frames := 1, cells := 0, slots := 0, locals := 25 } : Room) (mm_Pc D kc_all [(cI, .int), (cZ, .boolean), (cL, .long), (cQ, .array .int)] sz [(sr, .inr (2, [.int fo, .ref sb, .int dv, .int cs, .int lz, .ref sq, .ref sx, .ref sy])), (sq, .inl (cI, 4, .inl se)), (sx, .inl (cI, 6, .inl rests)), (sy, .inl (cI, 4, .inl trial)), (a, .inr (0, [.int (nI n), .int (nI k), .ref al, .ref am, .ref aw, .ref ac, .ref ag, .ref ab])), (ag, .inl (cQ, 6, .inr (.inr (.inr (.inr (fun i9 => some (rw i9))))))), (rw 0, .inl (cI, 4, .inl (M 0))), (rw 1, .inl (cI, 4, .inl (M 1))), (rw 2, .inl (cI, 4, .inl (M 2))), (rw 3, .inl (cI, 4, .inl (M 3))), (rw 4, .inl (cI, 4, .inl (M 4))), (rw 5, .inl (cI, 4, .inl (M 5))), (ab, .inl (cI, 6, .inl bd))] [.ref sr, .ref a, .int (nI fr)]) (qq_Search_setRests D cI cZ cL cQ sr sb sq sx sy a al am aw ac ag ab n k lz fo dv cs fr se rests trial rw M bd (va_A [(sr, .inr (2, [.int fo, .ref sb, .int dv, .int cs, .int lz, .ref sq, .ref sx, .ref sy])), (sq, .inl (cI, 4, .inl se)), (sx, .inl (cI, 6, .inl rests)), (sy, .inl (cI, 4, .inl trial)), (a, .inr (0, [.int (nI n), .int (nI k), .ref al, .ref am, .ref aw, .ref ac, .ref ag, .ref ab])), (ag, .inl (cQ, 6, .inr (.inr (.inr (.inr (fun i9 => some (rw i9))))))), (rw 0, .inl (cI, 4, .inl (M 0))), (rw 1, .inl (cI, 4, .inl (M 1))), (rw 2, .inl (cI, 4, .inl (M 2))), (rw 3, .inl (cI, 4, .inl (M 3))), (rw 4, .inl (cI, 4, .inl (M 4))), (rw 5, .inl (cI, 4, .inl (M 5))), (ab, .inl (cI, 6, .inl bd))] sz)) 0 0 (va_A [(sr, .inr (2, [.int fo, .ref sb, .int dv, .int cs, .int lz, .ref sq, .ref sx, .ref sy])), (sq, .inl (cI, 4, .inl se)), (sx, .inl (cI, 6, .inl rests)), (sy, .inl (cI, 4, .inl trial)), (a, .inr (0, [.int (nI n), .int (nI k), .ref al, .ref am, .ref aw, .ref ac, .ref ag, .ref ab])), (ag, .inl (cQ, 6, .inr (.inr (.inr (.inr (fun i9 => some (rw i9))))))), (rw 0, .inl (cI, 4, .inl (M 0))), (rw 1, .inl (cI, 4, .inl (M 1))), (rw 2, .inl (cI, 4, .inl (M 2))), (rw 3, .inl (cI, 4, .inl (M 3))), (rw 4, .inl (cI, 4, .inl (M 4))), (rw 5, .inl (cI, 4, .inl (M 5))), (ab, .inl (cI, 6, .inl bd))] sz) := by
  refine Met.ofW (cc := bb_Search_setRests) (maxL := 4) (ret := none) (by decide) rfl ?_
  intro p e s m args below meth c s₁ B hml hv
  obtain ⟨rfl, hsz, hP, hK, hD0⟩ := hv
  have hx := B.exec
  have hb := B.bytes
  have hr := B.returns
  have hts := atoms_spec (ws := ww_Search_setRests) B.pre
  have hown : s.vm.findClass RR_Search = some m.cls := findClass_of_methodNamed B.named
  have hlocks := B.notSynchronized
  subst hsz
  have hD := hD0.self (sz := s.heap.size)
  generalize hAe : va_A [(sr, .inr (2, [.int fo, .ref sb, .int dv, .int cs, .int lz, .ref sq, .ref sx, .ref sy])), (sq, .inl (cI, 4, .inl se)), (sx, .inl (cI, 6, .inl rests)), (sy, .inl (cI, 4, .inl trial)), (a, .inr (0, [.int (nI n), .int (nI k), .ref al, .ref am, .ref aw, .ref ac, .ref ag, .ref ab])), (ag, .inl (cQ, 6, .inr (.inr (.inr (.inr (fun i9 => some (rw i9))))))), (rw 0, .inl (cI, 4, .inl (M 0))), (rw 1, .inl (cI, 4, .inl (M 1))), (rw 2, .inl (cI, 4, .inl (M 2))), (rw 3, .inl (cI, 4, .inl (M 3))), (rw 4, .inl (cI, 4, .inl (M 4))), (rw 5, .inl (cI, 4, .inl (M 5))), (ab, .inl (cI, 6, .inl bd))] s.heap.size = A at hD ⊢
  have hA : ∀ q : Nat, s.heap.size ≤ q → A q := fun q h => by rw [← hAe]; exact Or.inr h
  have hS : va_S A s.heap s.heap [] := va_S.rf
  have hP : va_P D kc_all [(sr, .inr (2, [.int fo, .ref sb, .int dv, .int cs, .int lz, .ref sq, .ref sx, .ref sy])), (sq, .inl (cI, 4, .inl se)), (sx, .inl (cI, 6, .inl rests)), (sy, .inl (cI, 4, .inl trial)), (a, .inr (0, [.int (nI n), .int (nI k), .ref al, .ref am, .ref aw, .ref ac, .ref ag, .ref ab])), (ag, .inl (cQ, 6, .inr (.inr (.inr (.inr (fun i9 => some (rw i9))))))), (rw 0, .inl (cI, 4, .inl (M 0))), (rw 1, .inl (cI, 4, .inl (M 1))), (rw 2, .inl (cI, 4, .inl (M 2))), (rw 3, .inl (cI, 4, .inl (M 3))), (rw 4, .inl (cI, 4, .inl (M 4))), (rw 5, .inl (cI, 4, .inl (M 5))), (ab, .inl (cI, 6, .inl bd))] s.heap := hP
  have hl := lv_entry ([.ref sr, .ref a, .int (nI fr)]) (n := 4) (Nat.le_of_ble_eq_true rfl)
  rw [lg_entry_eq]
  generalize (lg_sl ([.ref sr, .ref a, .int (nI fr)]) ++ List.replicate (4 - (lg_sl ([.ref sr, .ref a, .int (nI fr)])).length) Slot.unset).toArray = ls at hl ⊢
  have hl : lv_has ls 4 [(0, .ref sr), (1, .ref a), (2, .int (nI fr))] := hl
  have htb : ∀ w ∈ tb_all, w.before ([.ref sr, .ref a, .int (nI fr)]).toArray s = true := fun w h => hts w (List.mem_cons_of_mem _ h)
  have hf_29 := htb _ fl_Search_29
  have hf_32 := htb _ fl_Search_32
  have hf_35 := htb _ fl_Search_35
  have hf_38 := htb _ fl_Search_38
  have hf_76 := htb _ fl_Search_76
  have hf_79 := htb _ fl_Search_79
  have hf_83 := htb _ fl_Search_83
  refine lv_iconst (v := 0) hx hb dd_Search_setRests_0 (by decide) ?_
  refine lv_istore_n (lv' := [(3, .int (0 : Int32)), (0, .ref sr), (1, .ref a), (2, .int (nI fr))]) hx hb dd_Search_setRests_1 rfl hl (by decide) rfl (fun ls hl => ?_)
  have J2 : ∀ (N : Nat) (j : Nat) (tr1 : Nat → Int32), (n - j) < N → ∀ (hj : j ≤ n) (hv : tr1 = mx_f (rs_t se fr) trial j), ∀ (ls : Array Slot) (H : Heap) (locs : List Loc), lv_has ls 4 [(0, .ref sr), (1, .ref a), (2, .int (nI fr)), (3, .int (nI j))] → va_P D kc_all [(sr, .inr (2, [.int fo, .ref sb, .int dv, .int cs, .int lz, .ref sq, .ref sx, .ref sy])), (sq, .inl (cI, 4, .inl se)), (sx, .inl (cI, 6, .inl rests)), (sy, .inl (cI, 4, .inl tr1)), (a, .inr (0, [.int (nI n), .int (nI k), .ref al, .ref am, .ref aw, .ref ac, .ref ag, .ref ab])), (ag, .inl (cQ, 6, .inr (.inr (.inr (.inr (fun i9 => some (rw i9))))))), (rw 0, .inl (cI, 4, .inl (M 0))), (rw 1, .inl (cI, 4, .inl (M 1))), (rw 2, .inl (cI, 4, .inl (M 2))), (rw 3, .inl (cI, 4, .inl (M 3))), (rw 4, .inl (cI, 4, .inl (M 4))), (rw 5, .inl (cI, 4, .inl (M 5))), (ab, .inl (cI, 6, .inl bd))] H → va_D A [(sr, .inr (2, [.int fo, .ref sb, .int dv, .int cs, .int lz, .ref sq, .ref sx, .ref sy])), (sq, .inl (cI, 4, .inl se)), (sx, .inl (cI, 6, .inl rests)), (sy, .inl (cI, 4, .inl tr1)), (a, .inr (0, [.int (nI n), .int (nI k), .ref al, .ref am, .ref aw, .ref ac, .ref ag, .ref ab])), (ag, .inl (cQ, 6, .inr (.inr (.inr (.inr (fun i9 => some (rw i9))))))), (rw 0, .inl (cI, 4, .inl (M 0))), (rw 1, .inl (cI, 4, .inl (M 1))), (rw 2, .inl (cI, 4, .inl (M 2))), (rw 3, .inl (cI, 4, .inl (M 3))), (rw 4, .inl (cI, 4, .inl (M 4))), (rw 5, .inl (cI, 4, .inl (M 5))), (ab, .inl (cI, 6, .inl bd))] → va_S A s.heap H locs → W p l e (headSpec ww_Search_setRests ({ frames := 1, cells := 0, slots := 0, locals := 25 } : Room)).room s m ([.ref sr, .ref a, .int (nI fr)]).toArray below meth c H locs 0 0 (MQ below (qq_Search_setRests D cI cZ cL cQ sr sb sq sx sy a al am aw ac ag ab n k lz fo dv cs fr se rests trial rw M bd A) ([.ref sr, .ref a, .int (nI fr)]).toArray s 0 0 A) (F0 m 2 ls []) := by
    intro N
    induction N with
    | zero => intro j tr1 hN9; exact absurd hN9 (Nat.not_lt_zero _)
    | succ N IH2 =>
      intro j tr1 hN9 hj hv ls H locs hl hP hD hS
      refine lv_iload_n hx hb dd_Search_setRests_2 rfl (lv_at hl 3 rfl) ?_
      refine lv_aload_n hx hb dd_Search_setRests_3 rfl (lv_at hl 1 rfl) ?_
      refine va_get (D := D) (ci := 0) (v := .int (nI n)) (C := RR_Problem) (T := FF_Problem) (N := 8) hx hb htb hi_Problem hown hK hP 4 rfl rfl 0 (by decide) hf_38 (fun _ h9 => h9) rfl dd_Search_setRests_4 ?_
      refine lv_icmp_ge (tgt := 40) hx hb dd_Search_setRests_7 (by decide) (fun h7 => ?_) (fun h7 => ?_)
      · skip
        have h7 : n ≤ j := (nI_leI (a := n) (b := j) (by omega) (by omega)).mp h7
        refine lv_iconst (v := 0) hx hb dd_Search_setRests_40 (by decide) ?_
        refine lv_istore_n (lv' := [(3, .int (0 : Int32)), (0, .ref sr), (1, .ref a), (2, .int (nI fr))]) hx hb dd_Search_setRests_41 rfl hl (by decide) rfl (fun ls hl => ?_)
        have J42 : ∀ (N : Nat) (i : Nat) (re1 : Nat → Int32), (k - i) < N → ∀ (hi : i ≤ k) (hw : re1 = mx_f (rs_r M bd (mx_f (rs_t se fr) trial n) n) rests i) (hv2 : tr1 = mx_f (rs_t se fr) trial n), ∀ (ls : Array Slot) (H : Heap) (locs : List Loc), lv_has ls 4 [(0, .ref sr), (1, .ref a), (3, .int (nI i))] → va_P D kc_all [(sr, .inr (2, [.int fo, .ref sb, .int dv, .int cs, .int lz, .ref sq, .ref sx, .ref sy])), (sq, .inl (cI, 4, .inl se)), (sx, .inl (cI, 6, .inl re1)), (sy, .inl (cI, 4, .inl tr1)), (a, .inr (0, [.int (nI n), .int (nI k), .ref al, .ref am, .ref aw, .ref ac, .ref ag, .ref ab])), (ag, .inl (cQ, 6, .inr (.inr (.inr (.inr (fun i9 => some (rw i9))))))), (rw 0, .inl (cI, 4, .inl (M 0))), (rw 1, .inl (cI, 4, .inl (M 1))), (rw 2, .inl (cI, 4, .inl (M 2))), (rw 3, .inl (cI, 4, .inl (M 3))), (rw 4, .inl (cI, 4, .inl (M 4))), (rw 5, .inl (cI, 4, .inl (M 5))), (ab, .inl (cI, 6, .inl bd))] H → va_D A [(sr, .inr (2, [.int fo, .ref sb, .int dv, .int cs, .int lz, .ref sq, .ref sx, .ref sy])), (sq, .inl (cI, 4, .inl se)), (sx, .inl (cI, 6, .inl re1)), (sy, .inl (cI, 4, .inl tr1)), (a, .inr (0, [.int (nI n), .int (nI k), .ref al, .ref am, .ref aw, .ref ac, .ref ag, .ref ab])), (ag, .inl (cQ, 6, .inr (.inr (.inr (.inr (fun i9 => some (rw i9))))))), (rw 0, .inl (cI, 4, .inl (M 0))), (rw 1, .inl (cI, 4, .inl (M 1))), (rw 2, .inl (cI, 4, .inl (M 2))), (rw 3, .inl (cI, 4, .inl (M 3))), (rw 4, .inl (cI, 4, .inl (M 4))), (rw 5, .inl (cI, 4, .inl (M 5))), (ab, .inl (cI, 6, .inl bd))] → va_S A s.heap H locs → W p l e (headSpec ww_Search_setRests ({ frames := 1, cells := 0, slots := 0, locals := 25 } : Room)).room s m ([.ref sr, .ref a, .int (nI fr)]).toArray below meth c H locs 0 0 (MQ below (qq_Search_setRests D cI cZ cL cQ sr sb sq sx sy a al am aw ac ag ab n k lz fo dv cs fr se rests trial rw M bd A) ([.ref sr, .ref a, .int (nI fr)]).toArray s 0 0 A) (F0 m 42 ls []) := by
          intro N
          induction N with
          | zero => intro i re1 hN9; exact absurd hN9 (Nat.not_lt_zero _)
          | succ N IH42 =>
            intro i re1 hN9 hi hw hv2 ls H locs hl hP hD hS
            refine lv_iload_n hx hb dd_Search_setRests_42 rfl (lv_at hl 2 rfl) ?_
            refine lv_aload_n hx hb dd_Search_setRests_43 rfl (lv_at hl 1 rfl) ?_
            refine va_get (D := D) (ci := 0) (v := .int (nI k)) (C := RR_Problem) (T := FF_Problem) (N := 8) hx hb htb hi_Problem hown hK hP 4 rfl rfl 1 (by decide) hf_76 (fun _ h9 => h9) rfl dd_Search_setRests_44 ?_
            refine lv_icmp_ge (tgt := 84) hx hb dd_Search_setRests_47 (by decide) (fun h47 => ?_) (fun h47 => ?_)
            · skip
              have h47 : k ≤ i := (nI_leI (a := k) (b := i) (by omega) (by omega)).mp h47
              exact W.vret hx hb hr (fun t ht hW => ⟨⟨(re1, tr1), rfl, ⟨hv2, by rw [show k = i by omega]; exact hw⟩, by rw [ht]; exact hP, va_K.moved hW.alike hK, hD⟩, hS.F ht⟩) hS.2.2 dd_Search_setRests_84
            · skip
              have h47 : ¬ (k ≤ i) := fun q9 => h47 ((nI_leI (a := k) (b := i) (by omega) (by omega)).mpr q9)
              refine lv_aload_n hx hb dd_Search_setRests_50 rfl (lv_at hl 0 rfl) ?_
              refine va_get (D := D) (ci := 2) (v := .ref sx) (C := RR_Search) (T := FF_Search) (N := 8) hx hb htb hi_Search hown hK hP 0 rfl rfl 6 (by decide) hf_32 (fun _ h9 => h9) rfl dd_Search_setRests_51 ?_
              refine lv_iload_n hx hb dd_Search_setRests_54 rfl (lv_at hl 2 rfl) ?_
              refine lv_aload_n hx hb dd_Search_setRests_55 rfl (lv_at hl 1 rfl) ?_
              refine va_get (D := D) (ci := 0) (v := .ref ab) (C := RR_Problem) (T := FF_Problem) (N := 8) hx hb htb hi_Problem hown hK hP 4 rfl rfl 7 (by decide) hf_83 (fun _ h9 => h9) rfl dd_Search_setRests_56 ?_
              refine lv_iload_n hx hb dd_Search_setRests_59 rfl (lv_at hl 2 rfl) ?_
              refine mm_iald hx hb hK hP 12 0 rfl rfl (i) (rfl) (by omega) (by first | decide | omega) dd_Search_setRests_60 ?_
              refine lv_aload_n hx hb dd_Search_setRests_61 rfl (lv_at hl 1 rfl) ?_
              refine lv_aload_n hx hb dd_Search_setRests_62 rfl (lv_at hl 1 rfl) ?_
              refine va_get (D := D) (ci := 0) (v := .ref ag) (C := RR_Problem) (T := FF_Problem) (N := 8) hx hb htb hi_Problem hown hK hP 4 rfl rfl 6 (by decide) hf_79 (fun _ h9 => h9) rfl dd_Search_setRests_63 ?_
              refine lv_iload_n hx hb dd_Search_setRests_66 rfl (lv_at hl 2 rfl) ?_
              refine mm_aald (r := rw i) hx hb hK hP 5 3 rfl rfl (i) (rfl) (by omega) (by decide) (rfl) dd_Search_setRests_67 ?_
              refine lv_aload_n hx hb dd_Search_setRests_68 rfl (lv_at hl 0 rfl) ?_
              refine va_get (D := D) (ci := 2) (v := .ref sy) (C := RR_Search) (T := FF_Search) (N := 8) hx hb htb hi_Search hown hK hP 0 rfl rfl 7 (by decide) hf_35 (fun _ h9 => h9) rfl dd_Search_setRests_69 ?_
              refine mm_l (wc := [(a, .inr (0, [.int (nI n), .int (nI k), .ref al, .ref am, .ref aw, .ref ac, .ref ag, .ref ab])), (rw 0, .inl (cI, 4, .inl (M 0))), (rw 1, .inl (cI, 4, .inl (M 1))), (rw 2, .inl (cI, 4, .inl (M 2))), (rw 3, .inl (cI, 4, .inl (M 3))), (rw 4, .inl (cI, 4, .inl (M 4))), (rw 5, .inl (cI, 4, .inl (M 5))), (sy, .inl (cI, 4, .inl tr1))]) (wr := [(sr, .inr (2, [.int fo, .ref sb, .int dv, .int cs, .int lz, .ref sq, .ref sx, .ref sy])), (sq, .inl (cI, 4, .inl se)), (sx, .inl (cI, 6, .inl re1)), (ag, .inl (cQ, 6, .inr (.inr (.inr (.inr (fun i9 => some (rw i9))))))), (ab, .inl (cI, 6, .inl bd))]) (va_runV (As := [.ref (rw i), .ref sy]) (rest := [.int (bd i), .int (nI i), .ref sx]) (C := RR_Problem) ⟨hx, hb, hml, hown, hts⟩ (cc_Problem_weighR l D cI cZ cL cQ _ a al am aw ac ag ab n k i sy rw M tr1 (by omega) (by omega)) (mm_cwV 2 hts ml_Search_99 im_Problem_weigh se_Problem_weigh ic_Problem cd_Problem_weigh rfl rfl (by decide +kernel) ⟨Nat.le_of_ble_eq_true rfl, Nat.le_of_ble_eq_true rfl⟩) (mm_preV hK hP hD [4, 6, 7, 8, 9, 10, 11, 3] (by decide) rfl 4 rfl rfl) rfl rfl hl.1 rfl (lv_room (Nat.le_of_ble_eq_true rfl)) dd_Search_setRests_72 ⟨Nat.zero_le _, Nat.zero_le _⟩) hP hD hS hA [4, 6, 7, 8, 9, 10, 11, 3] [0, 1, 2, 5, 12] rfl rfl (by decide) (by decide) (fun zr1 zu2 H locs p72 hP hD hS => ?_)
              have hP : va_P D kc_all [(sr, .inr (2, [.int fo, .ref sb, .int dv, .int cs, .int lz, .ref sq, .ref sx, .ref sy])), (sq, .inl (cI, 4, .inl se)), (sx, .inl (cI, 6, .inl re1)), (ag, .inl (cQ, 6, .inr (.inr (.inr (.inr (fun i9 => some (rw i9))))))), (ab, .inl (cI, 6, .inl bd)), (a, .inr (0, [.int (nI n), .int (nI k), .ref al, .ref am, .ref aw, .ref ac, .ref ag, .ref ab])), (rw 0, .inl (cI, 4, .inl (M 0))), (rw 1, .inl (cI, 4, .inl (M 1))), (rw 2, .inl (cI, 4, .inl (M 2))), (rw 3, .inl (cI, 4, .inl (M 3))), (rw 4, .inl (cI, 4, .inl (M 4))), (rw 5, .inl (cI, 4, .inl (M 5))), (sy, .inl (cI, 4, .inl tr1))] H := hP
              have hD : va_D A [(sr, .inr (2, [.int fo, .ref sb, .int dv, .int cs, .int lz, .ref sq, .ref sx, .ref sy])), (sq, .inl (cI, 4, .inl se)), (sx, .inl (cI, 6, .inl re1)), (ag, .inl (cQ, 6, .inr (.inr (.inr (.inr (fun i9 => some (rw i9))))))), (ab, .inl (cI, 6, .inl bd)), (a, .inr (0, [.int (nI n), .int (nI k), .ref al, .ref am, .ref aw, .ref ac, .ref ag, .ref ab])), (rw 0, .inl (cI, 4, .inl (M 0))), (rw 1, .inl (cI, 4, .inl (M 1))), (rw 2, .inl (cI, 4, .inl (M 2))), (rw 3, .inl (cI, 4, .inl (M 3))), (rw 4, .inl (cI, 4, .inl (M 4))), (rw 5, .inl (cI, 4, .inl (M 5))), (sy, .inl (cI, 4, .inl tr1))] := hD
              have hP : va_P D kc_all [(sr, .inr (2, [.int fo, .ref sb, .int dv, .int cs, .int lz, .ref sq, .ref sx, .ref sy])), (sq, .inl (cI, 4, .inl se)), (sx, .inl (cI, 6, .inl re1)), (sy, .inl (cI, 4, .inl tr1)), (a, .inr (0, [.int (nI n), .int (nI k), .ref al, .ref am, .ref aw, .ref ac, .ref ag, .ref ab])), (ag, .inl (cQ, 6, .inr (.inr (.inr (.inr (fun i9 => some (rw i9))))))), (rw 0, .inl (cI, 4, .inl (M 0))), (rw 1, .inl (cI, 4, .inl (M 1))), (rw 2, .inl (cI, 4, .inl (M 2))), (rw 3, .inl (cI, 4, .inl (M 3))), (rw 4, .inl (cI, 4, .inl (M 4))), (rw 5, .inl (cI, 4, .inl (M 5))), (ab, .inl (cI, 6, .inl bd))] H := hP.sub [0, 1, 2, 12, 5, 3, 6, 7, 8, 9, 10, 11, 4] rfl
              have hD : va_D A [(sr, .inr (2, [.int fo, .ref sb, .int dv, .int cs, .int lz, .ref sq, .ref sx, .ref sy])), (sq, .inl (cI, 4, .inl se)), (sx, .inl (cI, 6, .inl re1)), (sy, .inl (cI, 4, .inl tr1)), (a, .inr (0, [.int (nI n), .int (nI k), .ref al, .ref am, .ref aw, .ref ac, .ref ag, .ref ab])), (ag, .inl (cQ, 6, .inr (.inr (.inr (.inr (fun i9 => some (rw i9))))))), (rw 0, .inl (cI, 4, .inl (M 0))), (rw 1, .inl (cI, 4, .inl (M 1))), (rw 2, .inl (cI, 4, .inl (M 2))), (rw 3, .inl (cI, 4, .inl (M 3))), (rw 4, .inl (cI, 4, .inl (M 4))), (rw 5, .inl (cI, 4, .inl (M 5))), (ab, .inl (cI, 6, .inl bd))] := hD.sub [0, 1, 2, 12, 5, 3, 6, 7, 8, 9, 10, 11, 4] (by decide) rfl
              have p72 : zr1 = wg_sum (M i) tr1 n := p72
              refine mm_topl (y := wg_sum (M i) tr1 n) (p72) ?_
              refine lv_l2i (v := (wg_sum (M i) tr1 n).toInt32) hx hb dd_Search_setRests_75 rfl ?_
              refine lv_isub hx hb dd_Search_setRests_76 ?_
              refine mm_topi (y := rs_r M bd (mx_f (rs_t se fr) trial n) n i) (by rw [← hv2]; rfl) ?_
              refine mm_iast hx hb hK hP hD hS 2 0 rfl rfl (i) (rfl) (by omega) (by first | decide | omega) dd_Search_setRests_77 (fun H locs hP hD hS => ?_)
              have hP : va_P D kc_all [(sr, .inr (2, [.int fo, .ref sb, .int dv, .int cs, .int lz, .ref sq, .ref sx, .ref sy])), (sq, .inl (cI, 4, .inl se)), (sx, .inl (cI, 6, .inl (upd re1 i (rs_r M bd (mx_f (rs_t se fr) trial n) n i)))), (sy, .inl (cI, 4, .inl tr1)), (a, .inr (0, [.int (nI n), .int (nI k), .ref al, .ref am, .ref aw, .ref ac, .ref ag, .ref ab])), (ag, .inl (cQ, 6, .inr (.inr (.inr (.inr (fun i9 => some (rw i9))))))), (rw 0, .inl (cI, 4, .inl (M 0))), (rw 1, .inl (cI, 4, .inl (M 1))), (rw 2, .inl (cI, 4, .inl (M 2))), (rw 3, .inl (cI, 4, .inl (M 3))), (rw 4, .inl (cI, 4, .inl (M 4))), (rw 5, .inl (cI, 4, .inl (M 5))), (ab, .inl (cI, 6, .inl bd))] H := hP
              have hD : va_D A [(sr, .inr (2, [.int fo, .ref sb, .int dv, .int cs, .int lz, .ref sq, .ref sx, .ref sy])), (sq, .inl (cI, 4, .inl se)), (sx, .inl (cI, 6, .inl (upd re1 i (rs_r M bd (mx_f (rs_t se fr) trial n) n i)))), (sy, .inl (cI, 4, .inl tr1)), (a, .inr (0, [.int (nI n), .int (nI k), .ref al, .ref am, .ref aw, .ref ac, .ref ag, .ref ab])), (ag, .inl (cQ, 6, .inr (.inr (.inr (.inr (fun i9 => some (rw i9))))))), (rw 0, .inl (cI, 4, .inl (M 0))), (rw 1, .inl (cI, 4, .inl (M 1))), (rw 2, .inl (cI, 4, .inl (M 2))), (rw 3, .inl (cI, 4, .inl (M 3))), (rw 4, .inl (cI, 4, .inl (M 4))), (rw 5, .inl (cI, 4, .inl (M 5))), (ab, .inl (cI, 6, .inl bd))] := hD
              refine lv_iinc (k := 2) (v := nI (i + 1)) (lv' := [(3, .int (nI (i + 1))), (0, .ref sr), (1, .ref a)]) hx hb dd_Search_setRests_78 hl rfl (nI_1 _) (by decide) rfl (fun ls hl => ?_)
              refine lv_goto (tgt := 42) hx hb dd_Search_setRests_81 (by decide) ?_
              exact IH42 (i + 1) (upd re1 i (rs_r M bd (mx_f (rs_t se fr) trial n) n i)) (by omega) (by omega) (mx_u hw) (hv2) ls H locs (lv_sub hl [1, 2, 0] rfl) hP hD hS
        exact J42 _ 0 rests (Nat.lt_succ_self _) (by omega) (mx_0.symm) (by rw [show n = j by omega]; exact hv) ls H locs (lv_sub hl [1, 2, 0] rfl) hP hD hS
      · skip
        have h7 : ¬ (n ≤ j) := fun q9 => h7 ((nI_leI (a := n) (b := j) (by omega) (by omega)).mpr q9)
        refine lv_aload_n hx hb dd_Search_setRests_10 rfl (lv_at hl 0 rfl) ?_
        refine va_get (D := D) (ci := 2) (v := .ref sy) (C := RR_Search) (T := FF_Search) (N := 8) hx hb htb hi_Search hown hK hP 0 rfl rfl 7 (by decide) hf_35 (fun _ h9 => h9) rfl dd_Search_setRests_11 ?_
        refine lv_iload_n hx hb dd_Search_setRests_14 rfl (lv_at hl 3 rfl) ?_
        refine lv_iload_n hx hb dd_Search_setRests_15 rfl (lv_at hl 2 rfl) ?_
        refine lv_iload_n hx hb dd_Search_setRests_16 rfl (lv_at hl 3 rfl) ?_
        refine lv_ishr hx hb dd_Search_setRests_17 ?_
        refine lv_iconst (v := 1) hx hb dd_Search_setRests_18 (by decide) ?_
        refine lv_iand hx hb dd_Search_setRests_19 ?_
        refine mm_topi (y := nI (fr / 2 ^ j % 2)) (bt_bit j (by omega) fr (by omega)) ?_
        refine lv_if_eq (tgt := 27) hx hb dd_Search_setRests_20 (by decide) (fun h20 => ?_) (fun h20 => ?_)
        · skip
          have h20 : fr / 2 ^ j % 2 = 0 := (nI_eq (a := fr / 2 ^ j % 2) (b := 0) (by omega) (by omega)).mp h20
          refine lv_aload_n hx hb dd_Search_setRests_27 rfl (lv_at hl 0 rfl) ?_
          refine va_get (D := D) (ci := 2) (v := .ref sq) (C := RR_Search) (T := FF_Search) (N := 8) hx hb htb hi_Search hown hK hP 0 rfl rfl 5 (by decide) hf_29 (fun _ h9 => h9) rfl dd_Search_setRests_28 ?_
          refine lv_iload_n hx hb dd_Search_setRests_31 rfl (lv_at hl 3 rfl) ?_
          refine mm_iald hx hb hK hP 1 0 rfl rfl (j) (rfl) (by omega) (by first | decide | omega) dd_Search_setRests_32 ?_
          refine mm_topi (y := rs_t se fr j) (by first | exact (if_pos h20).symm | exact (if_neg h20).symm) ?_
          refine mm_iast hx hb hK hP hD hS 3 0 rfl rfl (j) (rfl) (by omega) (by first | decide | omega) dd_Search_setRests_33 (fun H locs hP hD hS => ?_)
          have hP : va_P D kc_all [(sr, .inr (2, [.int fo, .ref sb, .int dv, .int cs, .int lz, .ref sq, .ref sx, .ref sy])), (sq, .inl (cI, 4, .inl se)), (sx, .inl (cI, 6, .inl rests)), (sy, .inl (cI, 4, .inl (upd tr1 j (rs_t se fr j)))), (a, .inr (0, [.int (nI n), .int (nI k), .ref al, .ref am, .ref aw, .ref ac, .ref ag, .ref ab])), (ag, .inl (cQ, 6, .inr (.inr (.inr (.inr (fun i9 => some (rw i9))))))), (rw 0, .inl (cI, 4, .inl (M 0))), (rw 1, .inl (cI, 4, .inl (M 1))), (rw 2, .inl (cI, 4, .inl (M 2))), (rw 3, .inl (cI, 4, .inl (M 3))), (rw 4, .inl (cI, 4, .inl (M 4))), (rw 5, .inl (cI, 4, .inl (M 5))), (ab, .inl (cI, 6, .inl bd))] H := hP
          have hD : va_D A [(sr, .inr (2, [.int fo, .ref sb, .int dv, .int cs, .int lz, .ref sq, .ref sx, .ref sy])), (sq, .inl (cI, 4, .inl se)), (sx, .inl (cI, 6, .inl rests)), (sy, .inl (cI, 4, .inl (upd tr1 j (rs_t se fr j)))), (a, .inr (0, [.int (nI n), .int (nI k), .ref al, .ref am, .ref aw, .ref ac, .ref ag, .ref ab])), (ag, .inl (cQ, 6, .inr (.inr (.inr (.inr (fun i9 => some (rw i9))))))), (rw 0, .inl (cI, 4, .inl (M 0))), (rw 1, .inl (cI, 4, .inl (M 1))), (rw 2, .inl (cI, 4, .inl (M 2))), (rw 3, .inl (cI, 4, .inl (M 3))), (rw 4, .inl (cI, 4, .inl (M 4))), (rw 5, .inl (cI, 4, .inl (M 5))), (ab, .inl (cI, 6, .inl bd))] := hD
          refine lv_iinc (k := 3) (v := nI (j + 1)) (lv' := [(3, .int (nI (j + 1))), (0, .ref sr), (1, .ref a), (2, .int (nI fr))]) hx hb dd_Search_setRests_34 hl rfl (nI_1 _) (by decide) rfl (fun ls hl => ?_)
          refine lv_goto (tgt := 2) hx hb dd_Search_setRests_37 (by decide) ?_
          exact IH2 (j + 1) (upd tr1 j (rs_t se fr j)) (by omega) (by omega) (mx_u hv) ls H locs (lv_sub hl [1, 2, 3, 0] rfl) hP hD hS
        · skip
          have h20 : ¬ (fr / 2 ^ j % 2 = 0) := fun q9 => h20 ((nI_eq (a := fr / 2 ^ j % 2) (b := 0) (by omega) (by omega)).mpr q9)
          refine lv_iconst (v := 0) hx hb dd_Search_setRests_23 (by decide) ?_
          refine lv_goto (tgt := 33) hx hb dd_Search_setRests_24 (by decide) ?_
          refine mm_topi (y := rs_t se fr j) (by first | exact (if_pos h20).symm | exact (if_neg h20).symm) ?_
          refine mm_iast hx hb hK hP hD hS 3 0 rfl rfl (j) (rfl) (by omega) (by first | decide | omega) dd_Search_setRests_33 (fun H locs hP hD hS => ?_)
          have hP : va_P D kc_all [(sr, .inr (2, [.int fo, .ref sb, .int dv, .int cs, .int lz, .ref sq, .ref sx, .ref sy])), (sq, .inl (cI, 4, .inl se)), (sx, .inl (cI, 6, .inl rests)), (sy, .inl (cI, 4, .inl (upd tr1 j (rs_t se fr j)))), (a, .inr (0, [.int (nI n), .int (nI k), .ref al, .ref am, .ref aw, .ref ac, .ref ag, .ref ab])), (ag, .inl (cQ, 6, .inr (.inr (.inr (.inr (fun i9 => some (rw i9))))))), (rw 0, .inl (cI, 4, .inl (M 0))), (rw 1, .inl (cI, 4, .inl (M 1))), (rw 2, .inl (cI, 4, .inl (M 2))), (rw 3, .inl (cI, 4, .inl (M 3))), (rw 4, .inl (cI, 4, .inl (M 4))), (rw 5, .inl (cI, 4, .inl (M 5))), (ab, .inl (cI, 6, .inl bd))] H := hP
          have hD : va_D A [(sr, .inr (2, [.int fo, .ref sb, .int dv, .int cs, .int lz, .ref sq, .ref sx, .ref sy])), (sq, .inl (cI, 4, .inl se)), (sx, .inl (cI, 6, .inl rests)), (sy, .inl (cI, 4, .inl (upd tr1 j (rs_t se fr j)))), (a, .inr (0, [.int (nI n), .int (nI k), .ref al, .ref am, .ref aw, .ref ac, .ref ag, .ref ab])), (ag, .inl (cQ, 6, .inr (.inr (.inr (.inr (fun i9 => some (rw i9))))))), (rw 0, .inl (cI, 4, .inl (M 0))), (rw 1, .inl (cI, 4, .inl (M 1))), (rw 2, .inl (cI, 4, .inl (M 2))), (rw 3, .inl (cI, 4, .inl (M 3))), (rw 4, .inl (cI, 4, .inl (M 4))), (rw 5, .inl (cI, 4, .inl (M 5))), (ab, .inl (cI, 6, .inl bd))] := hD
          refine lv_iinc (k := 3) (v := nI (j + 1)) (lv' := [(3, .int (nI (j + 1))), (0, .ref sr), (1, .ref a), (2, .int (nI fr))]) hx hb dd_Search_setRests_34 hl rfl (nI_1 _) (by decide) rfl (fun ls hl => ?_)
          refine lv_goto (tgt := 2) hx hb dd_Search_setRests_37 (by decide) ?_
          exact IH2 (j + 1) (upd tr1 j (rs_t se fr j)) (by omega) (by omega) (mx_u hv) ls H locs (lv_sub hl [1, 2, 3, 0] rfl) hP hD hS
  exact J2 _ 0 trial (Nat.lt_succ_self _) (by omega) (mx_0.symm) ls _ _ (lv_sub hl [1, 2, 3, 0] rfl) hP hD hS
