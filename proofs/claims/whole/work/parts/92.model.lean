abbrev qq_Model_thrown (D : va_G) (cI cZ cL cQ : ClassId) (o : Nat) (ml : Nat) (mm : Nat) (mw : Nat) (mc : Nat) (mg : Nat) (md : Nat) (mb : Nat) (mt : Nat) (mr : Nat) (mo : Nat) (mx : Nat) (mp : Nat) (nk : Nat) (na : Nat) (nv : Nat) (nf : Nat) (ns : Nat) (ne : Nat) (nw : Nat) (mf : Nat) (thr : Int32) (n : Nat) (k : Nat) (so : Int32) (fo : Int32) (bb : Int64) (bc : Int64) (be : Int64) (rs : Nat) (rc : Nat) (A : Nat → Prop) : Array Value → State → Outcome → State → Prop := va_Qi (fun (r : Int32) (u : Unit) => r = thr) (fun (u : Unit) t => mm_B D kc_all [(cI, .int), (cZ, .boolean), (cL, .long), (cQ, .array .int)] A [(o, .inr (7, [.int thr, .int (nI n), .ref ml, .ref mm, .ref mw, .ref mc, .int (nI k), .ref mg, .ref md, .int so, .int fo, .ref mb, .long bb, .long bc, .ref mt, .long be, .ref mr, .int (nI rs), .ref mo, .int (nI rc), .ref mx, .ref mp, .ref nk, .ref na, .ref nv, .ref nf, .ref ns, .ref ne, .ref nw, .ref mf]))] t) A
set_option maxHeartbeats 4000000 in
set_option maxRecDepth 100000 in
theorem cc_Model_thrown (l : Launch) (D : va_G) (cI cZ cL cQ : ClassId) (sz : Nat) (o : Nat) (ml : Nat) (mm : Nat) (mw : Nat) (mc : Nat) (mg : Nat) (md : Nat) (mb : Nat) (mt : Nat) (mr : Nat) (mo : Nat) (mx : Nat) (mp : Nat) (nk : Nat) (na : Nat) (nv : Nat) (nf : Nat) (ns : Nat) (ne : Nat) (nw : Nat) (mf : Nat) (thr : Int32) (n : Nat) (k : Nat) (so : Int32) (fo : Int32) (bb : Int64) (bc : Int64) (be : Int64) (rs : Nat) (rc : Nat)  : Met l yy_Model_thrown ww_Model_thrown ({ frames := 0, cells := 0, slots := 0, locals := 0 } : Room) (mm_Pc D kc_all [(cI, .int), (cZ, .boolean), (cL, .long), (cQ, .array .int)] sz [(o, .inr (7, [.int thr, .int (nI n), .ref ml, .ref mm, .ref mw, .ref mc, .int (nI k), .ref mg, .ref md, .int so, .int fo, .ref mb, .long bb, .long bc, .ref mt, .long be, .ref mr, .int (nI rs), .ref mo, .int (nI rc), .ref mx, .ref mp, .ref nk, .ref na, .ref nv, .ref nf, .ref ns, .ref ne, .ref nw, .ref mf]))] [.ref o]) (qq_Model_thrown D cI cZ cL cQ o ml mm mw mc mg md mb mt mr mo mx mp nk na nv nf ns ne nw mf thr n k so fo bb bc be rs rc (va_A [(o, .inr (7, [.int thr, .int (nI n), .ref ml, .ref mm, .ref mw, .ref mc, .int (nI k), .ref mg, .ref md, .int so, .int fo, .ref mb, .long bb, .long bc, .ref mt, .long be, .ref mr, .int (nI rs), .ref mo, .int (nI rc), .ref mx, .ref mp, .ref nk, .ref na, .ref nv, .ref nf, .ref ns, .ref ne, .ref nw, .ref mf]))] sz)) 0 0 (va_A [(o, .inr (7, [.int thr, .int (nI n), .ref ml, .ref mm, .ref mw, .ref mc, .int (nI k), .ref mg, .ref md, .int so, .int fo, .ref mb, .long bb, .long bc, .ref mt, .long be, .ref mr, .int (nI rs), .ref mo, .int (nI rc), .ref mx, .ref mp, .ref nk, .ref na, .ref nv, .ref nf, .ref ns, .ref ne, .ref nw, .ref mf]))] sz) := by
  refine Met.ofW (cc := bb_Model_thrown) (maxL := 1) (ret := (some .int)) (by decide) rfl ?_
  intro p e s m args below meth c s₁ B hml hv
  obtain ⟨rfl, hsz, hP, hK, hD0⟩ := hv
  have hx := B.exec
  have hb := B.bytes
  have hr := B.returns
  have hts := atoms_spec (ws := ww_Model_thrown) B.pre
  have hown : s.vm.findClass RR_Model = some m.cls := findClass_of_methodNamed B.named
  have hlocks := B.notSynchronized
  subst hsz
  have hD := hD0.self (sz := s.heap.size)
  generalize hAe : va_A [(o, .inr (7, [.int thr, .int (nI n), .ref ml, .ref mm, .ref mw, .ref mc, .int (nI k), .ref mg, .ref md, .int so, .int fo, .ref mb, .long bb, .long bc, .ref mt, .long be, .ref mr, .int (nI rs), .ref mo, .int (nI rc), .ref mx, .ref mp, .ref nk, .ref na, .ref nv, .ref nf, .ref ns, .ref ne, .ref nw, .ref mf]))] s.heap.size = A at hD ⊢
  have hA : ∀ q : Nat, s.heap.size ≤ q → A q := fun q h => by rw [← hAe]; exact Or.inr h
  have hS : va_S A s.heap s.heap [] := va_S.rf
  have hP : va_P D kc_all [(o, .inr (7, [.int thr, .int (nI n), .ref ml, .ref mm, .ref mw, .ref mc, .int (nI k), .ref mg, .ref md, .int so, .int fo, .ref mb, .long bb, .long bc, .ref mt, .long be, .ref mr, .int (nI rs), .ref mo, .int (nI rc), .ref mx, .ref mp, .ref nk, .ref na, .ref nv, .ref nf, .ref ns, .ref ne, .ref nw, .ref mf]))] s.heap := hP
  have hl := lv_entry ([.ref o]) (n := 1) (Nat.le_of_ble_eq_true rfl)
  rw [lg_entry_eq]
  generalize (lg_sl ([.ref o]) ++ List.replicate (1 - (lg_sl ([.ref o])).length) Slot.unset).toArray = ls at hl ⊢
  have hl : lv_has ls 1 [(0, .ref o)] := hl
  have htb : ∀ w ∈ tb_all, w.before ([.ref o]).toArray s = true := fun w h => hts w (List.mem_cons_of_mem _ h)
  have hf_76 := htb _ fl_Model_76
  refine lv_aload_n hx hb dd_Model_thrown_0 rfl (lv_at hl 0 rfl) ?_
  refine va_get (D := D) (ci := 7) (v := .int thr) (C := RR_Model) (T := FF_Model) (N := 30) hx hb htb hi_Model hown hK hP 0 rfl rfl 0 (by decide) hf_76 (fun _ h9 => h9) rfl dd_Model_thrown_1 ?_
  exact W.iret (v := thr) hx hb hr (fun t ht hW => ⟨⟨thr, (), rfl, rfl, by rw [ht]; exact hP, va_K.moved hW.alike hK, hD⟩, hS.F ht⟩) hS.2.2 dd_Model_thrown_4
abbrev qq_Model_isIn (D : va_G) (cI cZ cL cQ : ClassId) (v : Int32) (x : Int32) (y : Int32) (A : Nat → Prop) : Array Value → State → Outcome → State → Prop := va_Qi (fun (r : Int32) (u : Unit) => tl_ok (in_ok v x y) r) (fun (u : Unit) t => mm_B D kc_all [(cI, .int), (cZ, .boolean), (cL, .long), (cQ, .array .int)] A [] t) A
set_option maxHeartbeats 4000000 in
set_option maxRecDepth 100000 in
theorem cc_Model_isIn (l : Launch) (D : va_G) (cI cZ cL cQ : ClassId) (sz : Nat) (v : Int32) (x : Int32) (y : Int32)  : Met l yy_Model_isIn ww_Model_isIn ({ frames := 0, cells := 0, slots := 0, locals := 0 } : Room) (mm_Pc D kc_all [(cI, .int), (cZ, .boolean), (cL, .long), (cQ, .array .int)] sz [] [.int v, .int x, .int y]) (qq_Model_isIn D cI cZ cL cQ v x y (va_A [] sz)) 0 0 (va_A [] sz) := by
  refine Met.ofW (cc := bb_Model_isIn) (maxL := 3) (ret := (some .boolean)) (by decide) rfl ?_
  intro p e s m args below meth c s₁ B hml hv
  obtain ⟨rfl, hsz, hP, hK, hD0⟩ := hv
  have hx := B.exec
  have hb := B.bytes
  have hr := B.returns
  have hts := atoms_spec (ws := ww_Model_isIn) B.pre
  have hown : s.vm.findClass RR_Model = some m.cls := findClass_of_methodNamed B.named
  have hlocks := B.notSynchronized
  subst hsz
  have hD := hD0.self (sz := s.heap.size)
  generalize hAe : va_A [] s.heap.size = A at hD ⊢
  have hA : ∀ q : Nat, s.heap.size ≤ q → A q := fun q h => by rw [← hAe]; exact Or.inr h
  have hS : va_S A s.heap s.heap [] := va_S.rf
  have hP : va_P D kc_all [] s.heap := hP
  have hl := lv_entry ([.int v, .int x, .int y]) (n := 3) (Nat.le_of_ble_eq_true rfl)
  rw [lg_entry_eq]
  generalize (lg_sl ([.int v, .int x, .int y]) ++ List.replicate (3 - (lg_sl ([.int v, .int x, .int y])).length) Slot.unset).toArray = ls at hl ⊢
  have hl : lv_has ls 3 [(0, .int v), (1, .int x), (2, .int y)] := hl
  have htb : ∀ w ∈ tb_all, w.before ([.int v, .int x, .int y]).toArray s = true := fun w h => hts w (List.mem_cons_of_mem _ h)
  refine lv_iload_n hx hb dd_Model_isIn_0 rfl (lv_at hl 0 rfl) ?_
  refine lv_iload_n hx hb dd_Model_isIn_1 rfl (lv_at hl 1 rfl) ?_
  refine lv_icmp_lt (tgt := 14) hx hb dd_Model_isIn_2 (by decide) (fun h2 => ?_) (fun h2 => ?_)
  · skip
    refine lv_iconst (v := 0) hx hb dd_Model_isIn_14 (by decide) ?_
    exact W.zret (v := (0 : Int32)) hx hb hr (rfl) (fun t ht hW => ⟨⟨(0 : Int32), (), rfl, by first | exact in_1 h2 | exact in_2 h7 | exact in_3 h2 h7, by rw [ht]; exact hP, va_K.moved hW.alike hK, hD⟩, hS.F ht⟩) hS.2.2 dd_Model_isIn_15
  · skip
    refine lv_iload_n hx hb dd_Model_isIn_5 rfl (lv_at hl 0 rfl) ?_
    refine lv_iload_n hx hb dd_Model_isIn_6 rfl (lv_at hl 2 rfl) ?_
    refine lv_icmp_gt (tgt := 14) hx hb dd_Model_isIn_7 (by decide) (fun h7 => ?_) (fun h7 => ?_)
    · skip
      refine lv_iconst (v := 0) hx hb dd_Model_isIn_14 (by decide) ?_
      exact W.zret (v := (0 : Int32)) hx hb hr (rfl) (fun t ht hW => ⟨⟨(0 : Int32), (), rfl, by first | exact in_1 h2 | exact in_2 h7 | exact in_3 h2 h7, by rw [ht]; exact hP, va_K.moved hW.alike hK, hD⟩, hS.F ht⟩) hS.2.2 dd_Model_isIn_15
    · skip
      refine lv_iconst (v := 1) hx hb dd_Model_isIn_10 (by decide) ?_
      refine lv_goto (tgt := 15) hx hb dd_Model_isIn_11 (by decide) ?_
      exact W.zret (v := (1 : Int32)) hx hb hr (rfl) (fun t ht hW => ⟨⟨(1 : Int32), (), rfl, by first | exact in_1 h2 | exact in_2 h7 | exact in_3 h2 h7, by rw [ht]; exact hP, va_K.moved hW.alike hK, hD⟩, hS.F ht⟩) hS.2.2 dd_Model_isIn_15
abbrev qq_Model_isNode (D : va_G) (cI cZ cL cQ : ClassId) (v : Int32) (A : Nat → Prop) : Array Value → State → Outcome → State → Prop := va_Qi (fun (r : Int32) (u : Unit) => tl_ok (0 ≤ v ∧ v < 40) r) (fun (u : Unit) t => mm_B D kc_all [(cI, .int), (cZ, .boolean), (cL, .long), (cQ, .array .int)] A [] t) A
set_option maxHeartbeats 4000000 in
set_option maxRecDepth 100000 in
theorem cc_Model_isNode (l : Launch) (D : va_G) (cI cZ cL cQ : ClassId) (sz : Nat) (v : Int32)  : Met l yy_Model_isNode ww_Model_isNode ({ frames := 0, cells := 0, slots := 0, locals := 0 } : Room) (mm_Pc D kc_all [(cI, .int), (cZ, .boolean), (cL, .long), (cQ, .array .int)] sz [] [.int v]) (qq_Model_isNode D cI cZ cL cQ v (va_A [] sz)) 0 0 (va_A [] sz) := by
  refine Met.ofW (cc := bb_Model_isNode) (maxL := 1) (ret := (some .boolean)) (by decide) rfl ?_
  intro p e s m args below meth c s₁ B hml hv
  obtain ⟨rfl, hsz, hP, hK, hD0⟩ := hv
  have hx := B.exec
  have hb := B.bytes
  have hr := B.returns
  have hts := atoms_spec (ws := ww_Model_isNode) B.pre
  have hown : s.vm.findClass RR_Model = some m.cls := findClass_of_methodNamed B.named
  have hlocks := B.notSynchronized
  subst hsz
  have hD := hD0.self (sz := s.heap.size)
  generalize hAe : va_A [] s.heap.size = A at hD ⊢
  have hA : ∀ q : Nat, s.heap.size ≤ q → A q := fun q h => by rw [← hAe]; exact Or.inr h
  have hS : va_S A s.heap s.heap [] := va_S.rf
  have hP : va_P D kc_all [] s.heap := hP
  have hl := lv_entry ([.int v]) (n := 1) (Nat.le_of_ble_eq_true rfl)
  rw [lg_entry_eq]
  generalize (lg_sl ([.int v]) ++ List.replicate (1 - (lg_sl ([.int v])).length) Slot.unset).toArray = ls at hl ⊢
  have hl : lv_has ls 1 [(0, .int v)] := hl
  have htb : ∀ w ∈ tb_all, w.before ([.int v]).toArray s = true := fun w h => hts w (List.mem_cons_of_mem _ h)
  refine lv_iload_n hx hb dd_Model_isNode_0 rfl (lv_at hl 0 rfl) ?_
  refine lv_if_lt (tgt := 14) hx hb dd_Model_isNode_1 (by decide) (fun h1 => ?_) (fun h1 => ?_)
  · skip
    refine lv_iconst (v := 0) hx hb dd_Model_isNode_14 (by decide) ?_
    exact W.zret (v := (0 : Int32)) hx hb hr (rfl) (fun t ht hW => ⟨⟨(0 : Int32), (), rfl, by first | exact tl_f (fun q => i3_ltn h1 q.1) | exact tl_f (fun q => i3_ltn q.2 h7) | exact tl_t ⟨i3_nlt h1, i3_nle h7⟩, by rw [ht]; exact hP, va_K.moved hW.alike hK, hD⟩, hS.F ht⟩) hS.2.2 dd_Model_isNode_15
  · skip
    refine lv_iload_n hx hb dd_Model_isNode_4 rfl (lv_at hl 0 rfl) ?_
    refine lv_bipush (v := 40) hx hb dd_Model_isNode_5 (by decide) ?_
    refine lv_icmp_ge (tgt := 14) hx hb dd_Model_isNode_7 (by decide) (fun h7 => ?_) (fun h7 => ?_)
    · skip
      refine lv_iconst (v := 0) hx hb dd_Model_isNode_14 (by decide) ?_
      exact W.zret (v := (0 : Int32)) hx hb hr (rfl) (fun t ht hW => ⟨⟨(0 : Int32), (), rfl, by first | exact tl_f (fun q => i3_ltn h1 q.1) | exact tl_f (fun q => i3_ltn q.2 h7) | exact tl_t ⟨i3_nlt h1, i3_nle h7⟩, by rw [ht]; exact hP, va_K.moved hW.alike hK, hD⟩, hS.F ht⟩) hS.2.2 dd_Model_isNode_15
    · skip
      refine lv_iconst (v := 1) hx hb dd_Model_isNode_10 (by decide) ?_
      refine lv_goto (tgt := 15) hx hb dd_Model_isNode_11 (by decide) ?_
      exact W.zret (v := (1 : Int32)) hx hb hr (rfl) (fun t ht hW => ⟨⟨(1 : Int32), (), rfl, by first | exact tl_f (fun q => i3_ltn h1 q.1) | exact tl_f (fun q => i3_ltn q.2 h7) | exact tl_t ⟨i3_nlt h1, i3_nle h7⟩, by rw [ht]; exact hP, va_K.moved hW.alike hK, hD⟩, hS.F ht⟩) hS.2.2 dd_Model_isNode_15
abbrev qq_Model_pick (D : va_G) (cI cZ cL cQ : ClassId) (j : Nat) (x0 : Int32) (x1 : Int32) (x2 : Int32) (x3 : Int32) (A : Nat → Prop) : Array Value → State → Outcome → State → Prop := va_Qi (fun (r : Int32) (u : Unit) => r = pk_f j x0 x1 x2 x3) (fun (u : Unit) t => mm_B D kc_all [(cI, .int), (cZ, .boolean), (cL, .long), (cQ, .array .int)] A [] t) A
set_option maxHeartbeats 4000000 in
set_option maxRecDepth 100000 in
theorem cc_Model_pick (l : Launch) (D : va_G) (cI cZ cL cQ : ClassId) (sz : Nat) (j : Nat) (x0 : Int32) (x1 : Int32) (x2 : Int32) (x3 : Int32) (hj : j < 4) : Met l yy_Model_pick ww_Model_pick ({ frames := 0, cells := 0, slots := 0, locals := 0 } : Room) (mm_Pc D kc_all [(cI, .int), (cZ, .boolean), (cL, .long), (cQ, .array .int)] sz [] [.int (nI j), .int x0, .int x1, .int x2, .int x3]) (qq_Model_pick D cI cZ cL cQ j x0 x1 x2 x3 (va_A [] sz)) 0 0 (va_A [] sz) := by
  refine Met.ofW (cc := bb_Model_pick) (maxL := 5) (ret := (some .int)) (by decide) rfl ?_
  intro p e s m args below meth c s₁ B hml hv
  obtain ⟨rfl, hsz, hP, hK, hD0⟩ := hv
  have hx := B.exec
  have hb := B.bytes
  have hr := B.returns
  have hts := atoms_spec (ws := ww_Model_pick) B.pre
  have hown : s.vm.findClass RR_Model = some m.cls := findClass_of_methodNamed B.named
  have hlocks := B.notSynchronized
  subst hsz
  have hD := hD0.self (sz := s.heap.size)
  generalize hAe : va_A [] s.heap.size = A at hD ⊢
  have hA : ∀ q : Nat, s.heap.size ≤ q → A q := fun q h => by rw [← hAe]; exact Or.inr h
  have hS : va_S A s.heap s.heap [] := va_S.rf
  have hP : va_P D kc_all [] s.heap := hP
  have hl := lv_entry ([.int (nI j), .int x0, .int x1, .int x2, .int x3]) (n := 5) (Nat.le_of_ble_eq_true rfl)
  rw [lg_entry_eq]
  generalize (lg_sl ([.int (nI j), .int x0, .int x1, .int x2, .int x3]) ++ List.replicate (5 - (lg_sl ([.int (nI j), .int x0, .int x1, .int x2, .int x3])).length) Slot.unset).toArray = ls at hl ⊢
  have hl : lv_has ls 5 [(0, .int (nI j)), (1, .int x0), (2, .int x1), (3, .int x2), (4, .int x3)] := hl
  have htb : ∀ w ∈ tb_all, w.before ([.int (nI j), .int x0, .int x1, .int x2, .int x3]).toArray s = true := fun w h => hts w (List.mem_cons_of_mem _ h)
  refine lv_iload_n hx hb dd_Model_pick_0 rfl (lv_at hl 0 rfl) ?_
  refine lv_if_ne (tgt := 8) hx hb dd_Model_pick_1 (by decide) (fun h1 => ?_) (fun h1 => ?_)
  · skip
    have h1 : ¬ (j = 0) := fun q9 => h1 ((nI_eq (a := j) (b := 0) (by omega) (by omega)).mpr q9)
    refine lv_iload_n hx hb dd_Model_pick_8 rfl (lv_at hl 0 rfl) ?_
    refine lv_iconst (v := 1) hx hb dd_Model_pick_9 (by decide) ?_
    refine lv_icmp_ne (tgt := 17) hx hb dd_Model_pick_10 (by decide) (fun h10 => ?_) (fun h10 => ?_)
    · skip
      have h10 : ¬ (j = 1) := fun q9 => h10 ((nI_eq (a := j) (b := 1) (by omega) (by omega)).mpr q9)
      refine lv_iload_n hx hb dd_Model_pick_17 rfl (lv_at hl 0 rfl) ?_
      refine lv_iconst (v := 2) hx hb dd_Model_pick_18 (by decide) ?_
      refine lv_icmp_ne (tgt := 26) hx hb dd_Model_pick_19 (by decide) (fun h19 => ?_) (fun h19 => ?_)
      · skip
        have h19 : ¬ (j = 2) := fun q9 => h19 ((nI_eq (a := j) (b := 2) (by omega) (by omega)).mpr q9)
        refine lv_iload hx hb dd_Model_pick_26 (lv_at hl 4 rfl) ?_
        exact W.iret (v := x3) hx hb hr (fun t ht hW => ⟨⟨x3, (), rfl, by first | exact pf_0 h1 | exact pf_1 h1 h10 | exact pf_2 h1 h10 h19 | exact pf_3 h1 h10 h19, by rw [ht]; exact hP, va_K.moved hW.alike hK, hD⟩, hS.F ht⟩) hS.2.2 dd_Model_pick_28
      · skip
        have h19 : j = 2 := (nI_eq (a := j) (b := 2) (by omega) (by omega)).mp h19
        refine lv_iload_n hx hb dd_Model_pick_22 rfl (lv_at hl 3 rfl) ?_
        refine lv_goto (tgt := 28) hx hb dd_Model_pick_23 (by decide) ?_
        exact W.iret (v := x2) hx hb hr (fun t ht hW => ⟨⟨x2, (), rfl, by first | exact pf_0 h1 | exact pf_1 h1 h10 | exact pf_2 h1 h10 h19 | exact pf_3 h1 h10 h19, by rw [ht]; exact hP, va_K.moved hW.alike hK, hD⟩, hS.F ht⟩) hS.2.2 dd_Model_pick_28
    · skip
      have h10 : j = 1 := (nI_eq (a := j) (b := 1) (by omega) (by omega)).mp h10
      refine lv_iload_n hx hb dd_Model_pick_13 rfl (lv_at hl 2 rfl) ?_
      refine lv_goto (tgt := 28) hx hb dd_Model_pick_14 (by decide) ?_
      exact W.iret (v := x1) hx hb hr (fun t ht hW => ⟨⟨x1, (), rfl, by first | exact pf_0 h1 | exact pf_1 h1 h10 | exact pf_2 h1 h10 h19 | exact pf_3 h1 h10 h19, by rw [ht]; exact hP, va_K.moved hW.alike hK, hD⟩, hS.F ht⟩) hS.2.2 dd_Model_pick_28
  · skip
    have h1 : j = 0 := (nI_eq (a := j) (b := 0) (by omega) (by omega)).mp h1
    refine lv_iload_n hx hb dd_Model_pick_4 rfl (lv_at hl 1 rfl) ?_
    refine lv_goto (tgt := 28) hx hb dd_Model_pick_5 (by decide) ?_
    exact W.iret (v := x0) hx hb hr (fun t ht hW => ⟨⟨x0, (), rfl, by first | exact pf_0 h1 | exact pf_1 h1 h10 | exact pf_2 h1 h10 h19 | exact pf_3 h1 h10 h19, by rw [ht]; exact hP, va_K.moved hW.alike hK, hD⟩, hS.F ht⟩) hS.2.2 dd_Model_pick_28
abbrev qq_Model_prove (D : va_G) (cI cZ cL cQ : ClassId) (o : Nat) (ml : Nat) (mm : Nat) (mw : Nat) (mc : Nat) (mg : Nat) (md : Nat) (mb : Nat) (mt : Nat) (mr : Nat) (mo : Nat) (mx : Nat) (mp : Nat) (nk : Nat) (na : Nat) (nv : Nat) (nf : Nat) (ns : Nat) (ne : Nat) (nw : Nat) (mf : Nat) (thr : Int32) (n : Nat) (k : Nat) (so : Int32) (fo : Int32) (bb : Int64) (bc : Int64) (be : Int64) (rs : Nat) (rc : Nat) (A : Nat → Prop) : Array Value → State → Outcome → State → Prop := va_Qi (fun (r : Int32) (u : Int32) => u = (if so = 1 then 0 else 1) ∧ r = (if so = 1 then 1 else 0)) (fun (u : Int32) t => mm_B D kc_all [(cI, .int), (cZ, .boolean), (cL, .long), (cQ, .array .int)] A [(o, .inr (7, [.int u, .int (nI n), .ref ml, .ref mm, .ref mw, .ref mc, .int (nI k), .ref mg, .ref md, .int so, .int fo, .ref mb, .long bb, .long bc, .ref mt, .long be, .ref mr, .int (nI rs), .ref mo, .int (nI rc), .ref mx, .ref mp, .ref nk, .ref na, .ref nv, .ref nf, .ref ns, .ref ne, .ref nw, .ref mf]))] t) A
set_option maxHeartbeats 4000000 in
set_option maxRecDepth 100000 in
theorem cc_Model_prove (l : Launch) (D : va_G) (cI cZ cL cQ : ClassId) (sz : Nat) (o : Nat) (ml : Nat) (mm : Nat) (mw : Nat) (mc : Nat) (mg : Nat) (md : Nat) (mb : Nat) (mt : Nat) (mr : Nat) (mo : Nat) (mx : Nat) (mp : Nat) (nk : Nat) (na : Nat) (nv : Nat) (nf : Nat) (ns : Nat) (ne : Nat) (nw : Nat) (mf : Nat) (thr : Int32) (n : Nat) (k : Nat) (so : Int32) (fo : Int32) (bb : Int64) (bc : Int64) (be : Int64) (rs : Nat) (rc : Nat)  : Met l yy_Model_prove ww_Model_prove ({ frames := 0, cells := 0, slots := 0, locals := 0 } : Room) (mm_Pc D kc_all [(cI, .int), (cZ, .boolean), (cL, .long), (cQ, .array .int)] sz [(o, .inr (7, [.int thr, .int (nI n), .ref ml, .ref mm, .ref mw, .ref mc, .int (nI k), .ref mg, .ref md, .int so, .int fo, .ref mb, .long bb, .long bc, .ref mt, .long be, .ref mr, .int (nI rs), .ref mo, .int (nI rc), .ref mx, .ref mp, .ref nk, .ref na, .ref nv, .ref nf, .ref ns, .ref ne, .ref nw, .ref mf]))] [.ref o]) (qq_Model_prove D cI cZ cL cQ o ml mm mw mc mg md mb mt mr mo mx mp nk na nv nf ns ne nw mf thr n k so fo bb bc be rs rc (va_A [(o, .inr (7, [.int thr, .int (nI n), .ref ml, .ref mm, .ref mw, .ref mc, .int (nI k), .ref mg, .ref md, .int so, .int fo, .ref mb, .long bb, .long bc, .ref mt, .long be, .ref mr, .int (nI rs), .ref mo, .int (nI rc), .ref mx, .ref mp, .ref nk, .ref na, .ref nv, .ref nf, .ref ns, .ref ne, .ref nw, .ref mf]))] sz)) 0 0 (va_A [(o, .inr (7, [.int thr, .int (nI n), .ref ml, .ref mm, .ref mw, .ref mc, .int (nI k), .ref mg, .ref md, .int so, .int fo, .ref mb, .long bb, .long bc, .ref mt, .long be, .ref mr, .int (nI rs), .ref mo, .int (nI rc), .ref mx, .ref mp, .ref nk, .ref na, .ref nv, .ref nf, .ref ns, .ref ne, .ref nw, .ref mf]))] sz) := by
  refine Met.ofW (cc := bb_Model_prove) (maxL := 1) (ret := (some .boolean)) (by decide) rfl ?_
  intro p e s m args below meth c s₁ B hml hv
  obtain ⟨rfl, hsz, hP, hK, hD0⟩ := hv
  have hx := B.exec
  have hb := B.bytes
  have hr := B.returns
  have hts := atoms_spec (ws := ww_Model_prove) B.pre
  have hown : s.vm.findClass RR_Model = some m.cls := findClass_of_methodNamed B.named
  have hlocks := B.notSynchronized
  subst hsz
  have hD := hD0.self (sz := s.heap.size)
  generalize hAe : va_A [(o, .inr (7, [.int thr, .int (nI n), .ref ml, .ref mm, .ref mw, .ref mc, .int (nI k), .ref mg, .ref md, .int so, .int fo, .ref mb, .long bb, .long bc, .ref mt, .long be, .ref mr, .int (nI rs), .ref mo, .int (nI rc), .ref mx, .ref mp, .ref nk, .ref na, .ref nv, .ref nf, .ref ns, .ref ne, .ref nw, .ref mf]))] s.heap.size = A at hD ⊢
  have hA : ∀ q : Nat, s.heap.size ≤ q → A q := fun q h => by rw [← hAe]; exact Or.inr h
  have hS : va_S A s.heap s.heap [] := va_S.rf
  have hP : va_P D kc_all [(o, .inr (7, [.int thr, .int (nI n), .ref ml, .ref mm, .ref mw, .ref mc, .int (nI k), .ref mg, .ref md, .int so, .int fo, .ref mb, .long bb, .long bc, .ref mt, .long be, .ref mr, .int (nI rs), .ref mo, .int (nI rc), .ref mx, .ref mp, .ref nk, .ref na, .ref nv, .ref nf, .ref ns, .ref ne, .ref nw, .ref mf]))] s.heap := hP
  have hl := lv_entry ([.ref o]) (n := 1) (Nat.le_of_ble_eq_true rfl)
  rw [lg_entry_eq]
  generalize (lg_sl ([.ref o]) ++ List.replicate (1 - (lg_sl ([.ref o])).length) Slot.unset).toArray = ls at hl ⊢
  have hl : lv_has ls 1 [(0, .ref o)] := hl
  have htb : ∀ w ∈ tb_all, w.before ([.ref o]).toArray s = true := fun w h => hts w (List.mem_cons_of_mem _ h)
  have hf_76 := htb _ fl_Model_76
  have hf_86 := htb _ fl_Model_86
  refine lv_aload_n hx hb dd_Model_prove_0 rfl (lv_at hl 0 rfl) ?_
  refine lv_aload_n hx hb dd_Model_prove_1 rfl (lv_at hl 0 rfl) ?_
  refine va_get (D := D) (ci := 7) (v := .int so) (C := RR_Model) (T := FF_Model) (N := 30) hx hb htb hi_Model hown hK hP 0 rfl rfl 9 (by decide) hf_86 (fun _ h9 => h9) rfl dd_Model_prove_2 ?_
  refine lv_iconst (v := 1) hx hb dd_Model_prove_5 (by decide) ?_
  refine lv_icmp_ne (tgt := 13) hx hb dd_Model_prove_6 (by decide) (fun h6 => ?_) (fun h6 => ?_)
  · skip
    refine lv_iconst (v := 1) hx hb dd_Model_prove_13 (by decide) ?_
    refine va_put (D := D) (ci := 7) (v := .int (1 : Int32)) (ty := .int) (C := RR_Model) (T := FF_Model) (N := 30) hx hb htb hi_Model tt_Model tt_Model_ok nn_Model hown hK hP hD hS 0 rfl rfl 0 (by decide) hf_76 (fun _ h9 => h9) rfl (by decide +kernel) (rfl) (rfl) (Nat.le_of_ble_eq_true rfl) dd_Model_prove_14 (fun H locs hP hD hS => ?_)
    have hP : va_P D kc_all [(o, .inr (7, [.int (1 : Int32), .int (nI n), .ref ml, .ref mm, .ref mw, .ref mc, .int (nI k), .ref mg, .ref md, .int so, .int fo, .ref mb, .long bb, .long bc, .ref mt, .long be, .ref mr, .int (nI rs), .ref mo, .int (nI rc), .ref mx, .ref mp, .ref nk, .ref na, .ref nv, .ref nf, .ref ns, .ref ne, .ref nw, .ref mf]))] H := hP
    have hD : va_D A [(o, .inr (7, [.int (1 : Int32), .int (nI n), .ref ml, .ref mm, .ref mw, .ref mc, .int (nI k), .ref mg, .ref md, .int so, .int fo, .ref mb, .long bb, .long bc, .ref mt, .long be, .ref mr, .int (nI rs), .ref mo, .int (nI rc), .ref mx, .ref mp, .ref nk, .ref na, .ref nv, .ref nf, .ref ns, .ref ne, .ref nw, .ref mf]))] := hD
    refine lv_aload_n hx hb dd_Model_prove_17 rfl (lv_at hl 0 rfl) ?_
    refine va_get (D := D) (ci := 7) (v := .int (1 : Int32)) (C := RR_Model) (T := FF_Model) (N := 30) hx hb htb hi_Model hown hK hP 0 rfl rfl 0 (by decide) hf_76 (fun _ h9 => h9) rfl dd_Model_prove_18 ?_
    refine lv_if_ne (tgt := 28) hx hb dd_Model_prove_21 (by decide) (fun h21 => ?_) (fun h21 => ?_)
    · skip
      have h21 : ¬ (1 = 0) := fun q9 => h21 ((nI_eq (a := 1) (b := 0) (by omega) (by omega)).mpr q9)
      refine lv_iconst (v := 0) hx hb dd_Model_prove_28 (by decide) ?_
      exact W.zret (v := (0 : Int32)) hx hb hr (rfl) (fun t ht hW => ⟨⟨(0 : Int32), (1 : Int32), rfl, by first | exact ⟨(if_pos h6).symm, (if_pos h6).symm⟩ | exact ⟨(if_neg h6).symm, (if_neg h6).symm⟩, by rw [ht]; exact hP, va_K.moved hW.alike hK, hD⟩, hS.F ht⟩) hS.2.2 dd_Model_prove_29
    · skip
      have h21 : 1 = 0 := (nI_eq (a := 1) (b := 0) (by omega) (by omega)).mp h21
      omega
  · skip
    refine lv_iconst (v := 0) hx hb dd_Model_prove_9 (by decide) ?_
    refine lv_goto (tgt := 14) hx hb dd_Model_prove_10 (by decide) ?_
    refine va_put (D := D) (ci := 7) (v := .int (0 : Int32)) (ty := .int) (C := RR_Model) (T := FF_Model) (N := 30) hx hb htb hi_Model tt_Model tt_Model_ok nn_Model hown hK hP hD hS 0 rfl rfl 0 (by decide) hf_76 (fun _ h9 => h9) rfl (by decide +kernel) (rfl) (rfl) (Nat.le_of_ble_eq_true rfl) dd_Model_prove_14 (fun H locs hP hD hS => ?_)
    have hP : va_P D kc_all [(o, .inr (7, [.int (0 : Int32), .int (nI n), .ref ml, .ref mm, .ref mw, .ref mc, .int (nI k), .ref mg, .ref md, .int so, .int fo, .ref mb, .long bb, .long bc, .ref mt, .long be, .ref mr, .int (nI rs), .ref mo, .int (nI rc), .ref mx, .ref mp, .ref nk, .ref na, .ref nv, .ref nf, .ref ns, .ref ne, .ref nw, .ref mf]))] H := hP
    have hD : va_D A [(o, .inr (7, [.int (0 : Int32), .int (nI n), .ref ml, .ref mm, .ref mw, .ref mc, .int (nI k), .ref mg, .ref md, .int so, .int fo, .ref mb, .long bb, .long bc, .ref mt, .long be, .ref mr, .int (nI rs), .ref mo, .int (nI rc), .ref mx, .ref mp, .ref nk, .ref na, .ref nv, .ref nf, .ref ns, .ref ne, .ref nw, .ref mf]))] := hD
    refine lv_aload_n hx hb dd_Model_prove_17 rfl (lv_at hl 0 rfl) ?_
    refine va_get (D := D) (ci := 7) (v := .int (0 : Int32)) (C := RR_Model) (T := FF_Model) (N := 30) hx hb htb hi_Model hown hK hP 0 rfl rfl 0 (by decide) hf_76 (fun _ h9 => h9) rfl dd_Model_prove_18 ?_
    refine lv_if_ne (tgt := 28) hx hb dd_Model_prove_21 (by decide) (fun h21 => ?_) (fun h21 => ?_)
    · skip
      have h21 : ¬ (0 = 0) := fun q9 => h21 ((nI_eq (a := 0) (b := 0) (by omega) (by omega)).mpr q9)
      omega
    · skip
      have h21 : 0 = 0 := (nI_eq (a := 0) (b := 0) (by omega) (by omega)).mp h21
      refine lv_iconst (v := 1) hx hb dd_Model_prove_24 (by decide) ?_
      refine lv_goto (tgt := 29) hx hb dd_Model_prove_25 (by decide) ?_
      exact W.zret (v := (1 : Int32)) hx hb hr (rfl) (fun t ht hW => ⟨⟨(1 : Int32), (0 : Int32), rfl, by first | exact ⟨(if_pos h6).symm, (if_pos h6).symm⟩ | exact ⟨(if_neg h6).symm, (if_neg h6).symm⟩, by rw [ht]; exact hP, va_K.moved hW.alike hK, hD⟩, hS.F ht⟩) hS.2.2 dd_Model_prove_29
abbrev qq_Model_start (D : va_G) (cI cZ cL cQ : ClassId) (o : Nat) (ml : Nat) (mm : Nat) (mw : Nat) (mc : Nat) (mg : Nat) (md : Nat) (mb : Nat) (mt : Nat) (mr : Nat) (mo : Nat) (mx : Nat) (mp : Nat) (nk : Nat) (na : Nat) (nv : Nat) (nf : Nat) (ns : Nat) (ne : Nat) (nw : Nat) (mf : Nat) (thr : Int32) (n : Nat) (k : Nat) (so : Int32) (fo : Int32) (bb : Int64) (bc : Int64) (be : Int64) (rs : Nat) (rc : Nat) (m1 : Nat) (lo : Nat → Int32) (hi : Nat → Int32) (wh : Nat → Int32) (co : Nat → Int32) (A : Nat → Prop) : Array Value → State → Outcome → State → Prop := va_Qv (fun u : (Nat → Int32) × (Nat → Int32) × (Nat → Int32) × (Nat → Int32) => ∀ j9, j9 < 4 → u.1 j9 = 0 ∧ u.2.1 j9 = 8 ∧ u.2.2.1 j9 = 1 ∧ u.2.2.2 j9 = 0) (fun (u : (Nat → Int32) × (Nat → Int32) × (Nat → Int32) × (Nat → Int32)) t => mm_B D kc_all [(cI, .int), (cZ, .boolean), (cL, .long), (cQ, .array .int)] A [(o, .inr (7, [.int 0, .int (nI m1), .ref ml, .ref mm, .ref mw, .ref mc, .int (nI 0), .ref mg, .ref md, .int 0, .int fo, .ref mb, .long bb, .long bc, .ref mt, .long be, .ref mr, .int (nI rs), .ref mo, .int (nI rc), .ref mx, .ref mp, .ref nk, .ref na, .ref nv, .ref nf, .ref ns, .ref ne, .ref nw, .ref mf])), (ml, .inl (cI, 4, .inl u.1)), (mm, .inl (cI, 4, .inl u.2.1)), (mw, .inl (cZ, 4, .inl u.2.2.1)), (mc, .inl (cI, 4, .inl u.2.2.2))] t) A
set_option maxHeartbeats 4000000 in
set_option maxRecDepth 100000 in
theorem cc_Model_start (l : Launch) (D : va_G) (cI cZ cL cQ : ClassId) (sz : Nat) (o : Nat) (ml : Nat) (mm : Nat) (mw : Nat) (mc : Nat) (mg : Nat) (md : Nat) (mb : Nat) (mt : Nat) (mr : Nat) (mo : Nat) (mx : Nat) (mp : Nat) (nk : Nat) (na : Nat) (nv : Nat) (nf : Nat) (ns : Nat) (ne : Nat) (nw : Nat) (mf : Nat) (thr : Int32) (n : Nat) (k : Nat) (so : Int32) (fo : Int32) (bb : Int64) (bc : Int64) (be : Int64) (rs : Nat) (rc : Nat) (m1 : Nat) (lo : Nat → Int32) (hi : Nat → Int32) (wh : Nat → Int32) (co : Nat → Int32) (hm : 1 ≤ m1 ∧ m1 ≤ 4) : Met l yy_Model_start ww_Model_start ({ frames := 1, cells := 0, slots := 0, locals := 22 } : Room) (mm_Pc D kc_all [(cI, .int), (cZ, .boolean), (cL, .long), (cQ, .array .int)] sz [(o, .inr (7, [.int thr, .int (nI n), .ref ml, .ref mm, .ref mw, .ref mc, .int (nI k), .ref mg, .ref md, .int so, .int fo, .ref mb, .long bb, .long bc, .ref mt, .long be, .ref mr, .int (nI rs), .ref mo, .int (nI rc), .ref mx, .ref mp, .ref nk, .ref na, .ref nv, .ref nf, .ref ns, .ref ne, .ref nw, .ref mf])), (ml, .inl (cI, 4, .inl lo)), (mm, .inl (cI, 4, .inl hi)), (mw, .inl (cZ, 4, .inl wh)), (mc, .inl (cI, 4, .inl co))] [.ref o, .int (nI m1)]) (qq_Model_start D cI cZ cL cQ o ml mm mw mc mg md mb mt mr mo mx mp nk na nv nf ns ne nw mf thr n k so fo bb bc be rs rc m1 lo hi wh co (va_A [(o, .inr (7, [.int thr, .int (nI n), .ref ml, .ref mm, .ref mw, .ref mc, .int (nI k), .ref mg, .ref md, .int so, .int fo, .ref mb, .long bb, .long bc, .ref mt, .long be, .ref mr, .int (nI rs), .ref mo, .int (nI rc), .ref mx, .ref mp, .ref nk, .ref na, .ref nv, .ref nf, .ref ns, .ref ne, .ref nw, .ref mf])), (ml, .inl (cI, 4, .inl lo)), (mm, .inl (cI, 4, .inl hi)), (mw, .inl (cZ, 4, .inl wh)), (mc, .inl (cI, 4, .inl co))] sz)) 0 0 (va_A [(o, .inr (7, [.int thr, .int (nI n), .ref ml, .ref mm, .ref mw, .ref mc, .int (nI k), .ref mg, .ref md, .int so, .int fo, .ref mb, .long bb, .long bc, .ref mt, .long be, .ref mr, .int (nI rs), .ref mo, .int (nI rc), .ref mx, .ref mp, .ref nk, .ref na, .ref nv, .ref nf, .ref ns, .ref ne, .ref nw, .ref mf])), (ml, .inl (cI, 4, .inl lo)), (mm, .inl (cI, 4, .inl hi)), (mw, .inl (cZ, 4, .inl wh)), (mc, .inl (cI, 4, .inl co))] sz) := by
  refine Met.ofW (cc := bb_Model_start) (maxL := 3) (ret := none) (by decide) rfl ?_
  intro p e s m args below meth c s₁ B hml hv
  obtain ⟨rfl, hsz, hP, hK, hD0⟩ := hv
  have hx := B.exec
  have hb := B.bytes
  have hr := B.returns
  have hts := atoms_spec (ws := ww_Model_start) B.pre
  have hown : s.vm.findClass RR_Model = some m.cls := findClass_of_methodNamed B.named
  have hlocks := B.notSynchronized
  subst hsz
  have hD := hD0.self (sz := s.heap.size)
  generalize hAe : va_A [(o, .inr (7, [.int thr, .int (nI n), .ref ml, .ref mm, .ref mw, .ref mc, .int (nI k), .ref mg, .ref md, .int so, .int fo, .ref mb, .long bb, .long bc, .ref mt, .long be, .ref mr, .int (nI rs), .ref mo, .int (nI rc), .ref mx, .ref mp, .ref nk, .ref na, .ref nv, .ref nf, .ref ns, .ref ne, .ref nw, .ref mf])), (ml, .inl (cI, 4, .inl lo)), (mm, .inl (cI, 4, .inl hi)), (mw, .inl (cZ, 4, .inl wh)), (mc, .inl (cI, 4, .inl co))] s.heap.size = A at hD ⊢
  have hA : ∀ q : Nat, s.heap.size ≤ q → A q := fun q h => by rw [← hAe]; exact Or.inr h
  have hS : va_S A s.heap s.heap [] := va_S.rf
  have hP : va_P D kc_all [(o, .inr (7, [.int thr, .int (nI n), .ref ml, .ref mm, .ref mw, .ref mc, .int (nI k), .ref mg, .ref md, .int so, .int fo, .ref mb, .long bb, .long bc, .ref mt, .long be, .ref mr, .int (nI rs), .ref mo, .int (nI rc), .ref mx, .ref mp, .ref nk, .ref na, .ref nv, .ref nf, .ref ns, .ref ne, .ref nw, .ref mf])), (ml, .inl (cI, 4, .inl lo)), (mm, .inl (cI, 4, .inl hi)), (mw, .inl (cZ, 4, .inl wh)), (mc, .inl (cI, 4, .inl co))] s.heap := hP
  have hl := lv_entry ([.ref o, .int (nI m1)]) (n := 3) (Nat.le_of_ble_eq_true rfl)
  rw [lg_entry_eq]
  generalize (lg_sl ([.ref o, .int (nI m1)]) ++ List.replicate (3 - (lg_sl ([.ref o, .int (nI m1)])).length) Slot.unset).toArray = ls at hl ⊢
  have hl : lv_has ls 3 [(0, .ref o), (1, .int (nI m1))] := hl
  have htb : ∀ w ∈ tb_all, w.before ([.ref o, .int (nI m1)]).toArray s = true := fun w h => hts w (List.mem_cons_of_mem _ h)
  have hf_7 := htb _ fl_Model_7
  have hf_13 := htb _ fl_Model_13
  have hf_17 := htb _ fl_Model_17
  have hf_20 := htb _ fl_Model_20
  have hf_24 := htb _ fl_Model_24
  have hf_76 := htb _ fl_Model_76
  have hf_83 := htb _ fl_Model_83
  have hf_86 := htb _ fl_Model_86
  refine lv_aload_n hx hb dd_Model_start_0 rfl (lv_at hl 0 rfl) ?_
  refine lv_iload_n hx hb dd_Model_start_1 rfl (lv_at hl 1 rfl) ?_
  refine lv_iconst (v := 1) hx hb dd_Model_start_2 (by decide) ?_
  refine lv_iconst (v := 4) hx hb dd_Model_start_3 (by decide) ?_
  refine mm_i (wc := []) (wr := [(o, .inr (7, [.int thr, .int (nI n), .ref ml, .ref mm, .ref mw, .ref mc, .int (nI k), .ref mg, .ref md, .int so, .int fo, .ref mb, .long bb, .long bc, .ref mt, .long be, .ref mr, .int (nI rs), .ref mo, .int (nI rc), .ref mx, .ref mp, .ref nk, .ref na, .ref nv, .ref nf, .ref ns, .ref ne, .ref nw, .ref mf])), (ml, .inl (cI, 4, .inl lo)), (mm, .inl (cI, 4, .inl hi)), (mw, .inl (cZ, 4, .inl wh)), (mc, .inl (cI, 4, .inl co))]) (va_runS (As := [.int (nI m1), .int (1 : Int32), .int (4 : Int32)]) (rest := [.ref o]) ⟨hx, hb, hml, hown, hts⟩ (cc_Model_isIn l D cI cZ cL cQ _ (nI m1) (1 : Int32) (4 : Int32) ) (mm_cwS 3 hts ml_Model_79 sm_Model_isIn ic_Model cd_Model_isIn rfl rfl (by decide +kernel) ⟨Nat.le_of_ble_eq_true rfl, Nat.le_of_ble_eq_true rfl⟩) (mm_preS hK hP hD [] (by decide) rfl) rfl rfl hl.1 rfl (lv_room (Nat.le_of_ble_eq_true rfl)) dd_Model_start_4 ⟨Nat.zero_le _, Nat.zero_le _⟩) hP hD hS hA [] [0, 1, 2, 3, 4] rfl rfl (by decide) (by decide) (fun zr1 zu2 H locs p4 hP hD hS => ?_)
  have hP : va_P D kc_all [(o, .inr (7, [.int thr, .int (nI n), .ref ml, .ref mm, .ref mw, .ref mc, .int (nI k), .ref mg, .ref md, .int so, .int fo, .ref mb, .long bb, .long bc, .ref mt, .long be, .ref mr, .int (nI rs), .ref mo, .int (nI rc), .ref mx, .ref mp, .ref nk, .ref na, .ref nv, .ref nf, .ref ns, .ref ne, .ref nw, .ref mf])), (ml, .inl (cI, 4, .inl lo)), (mm, .inl (cI, 4, .inl hi)), (mw, .inl (cZ, 4, .inl wh)), (mc, .inl (cI, 4, .inl co))] H := hP
  have hD : va_D A [(o, .inr (7, [.int thr, .int (nI n), .ref ml, .ref mm, .ref mw, .ref mc, .int (nI k), .ref mg, .ref md, .int so, .int fo, .ref mb, .long bb, .long bc, .ref mt, .long be, .ref mr, .int (nI rs), .ref mo, .int (nI rc), .ref mx, .ref mp, .ref nk, .ref na, .ref nv, .ref nf, .ref ns, .ref ne, .ref nw, .ref mf])), (ml, .inl (cI, 4, .inl lo)), (mm, .inl (cI, 4, .inl hi)), (mw, .inl (cZ, 4, .inl wh)), (mc, .inl (cI, 4, .inl co))] := hD
  have p4 : tl_ok (in_ok (nI m1) (1 : Int32) (4 : Int32)) zr1 := p4
  refine lv_if_eq (tgt := 14) hx hb dd_Model_start_7 (by decide) (fun h7 => ?_) (fun h7 => ?_)
  · skip
    exact absurd ⟨nI_le (a := 1) hm.1 (by omega), nI_le (b := 4) hm.2 (by omega)⟩ (tl_0 p4 h7)
  · skip
    refine lv_iconst (v := 0) hx hb dd_Model_start_10 (by decide) ?_
    refine lv_goto (tgt := 15) hx hb dd_Model_start_11 (by decide) ?_
    refine va_put (D := D) (ci := 7) (v := .int (0 : Int32)) (ty := .int) (C := RR_Model) (T := FF_Model) (N := 30) hx hb htb hi_Model tt_Model tt_Model_ok nn_Model hown hK hP hD hS 0 rfl rfl 0 (by decide) hf_76 (fun _ h9 => h9) rfl (by decide +kernel) (rfl) (rfl) (Nat.le_of_ble_eq_true rfl) dd_Model_start_15 (fun H locs hP hD hS => ?_)
    have hP : va_P D kc_all [(o, .inr (7, [.int (0 : Int32), .int (nI n), .ref ml, .ref mm, .ref mw, .ref mc, .int (nI k), .ref mg, .ref md, .int so, .int fo, .ref mb, .long bb, .long bc, .ref mt, .long be, .ref mr, .int (nI rs), .ref mo, .int (nI rc), .ref mx, .ref mp, .ref nk, .ref na, .ref nv, .ref nf, .ref ns, .ref ne, .ref nw, .ref mf])), (ml, .inl (cI, 4, .inl lo)), (mm, .inl (cI, 4, .inl hi)), (mw, .inl (cZ, 4, .inl wh)), (mc, .inl (cI, 4, .inl co))] H := hP
    have hD : va_D A [(o, .inr (7, [.int (0 : Int32), .int (nI n), .ref ml, .ref mm, .ref mw, .ref mc, .int (nI k), .ref mg, .ref md, .int so, .int fo, .ref mb, .long bb, .long bc, .ref mt, .long be, .ref mr, .int (nI rs), .ref mo, .int (nI rc), .ref mx, .ref mp, .ref nk, .ref na, .ref nv, .ref nf, .ref ns, .ref ne, .ref nw, .ref mf])), (ml, .inl (cI, 4, .inl lo)), (mm, .inl (cI, 4, .inl hi)), (mw, .inl (cZ, 4, .inl wh)), (mc, .inl (cI, 4, .inl co))] := hD
    refine lv_aload_n hx hb dd_Model_start_18 rfl (lv_at hl 0 rfl) ?_
    refine va_get (D := D) (ci := 7) (v := .int (0 : Int32)) (C := RR_Model) (T := FF_Model) (N := 30) hx hb htb hi_Model hown hK hP 0 rfl rfl 0 (by decide) hf_76 (fun _ h9 => h9) rfl dd_Model_start_19 ?_
    refine lv_if_le (tgt := 26) hx hb dd_Model_start_22 (by decide) (fun h22 => ?_) (fun h22 => ?_)
    · skip
      have h22 : 0 ≤ 0 := (nI_leI (a := 0) (b := 0) (by omega) (by omega)).mp h22
      refine lv_aload_n hx hb dd_Model_start_26 rfl (lv_at hl 0 rfl) ?_
      refine lv_iload_n hx hb dd_Model_start_27 rfl (lv_at hl 1 rfl) ?_
      refine va_put (D := D) (ci := 7) (v := .int (nI m1)) (ty := .int) (C := RR_Model) (T := FF_Model) (N := 30) hx hb htb hi_Model tt_Model tt_Model_ok nn_Model hown hK hP hD hS 0 rfl rfl 1 (by decide) hf_7 (fun _ h9 => h9) rfl (by decide +kernel) (rfl) (rfl) (Nat.le_of_ble_eq_true rfl) dd_Model_start_28 (fun H locs hP hD hS => ?_)
      have hP : va_P D kc_all [(o, .inr (7, [.int (0 : Int32), .int (nI m1), .ref ml, .ref mm, .ref mw, .ref mc, .int (nI k), .ref mg, .ref md, .int so, .int fo, .ref mb, .long bb, .long bc, .ref mt, .long be, .ref mr, .int (nI rs), .ref mo, .int (nI rc), .ref mx, .ref mp, .ref nk, .ref na, .ref nv, .ref nf, .ref ns, .ref ne, .ref nw, .ref mf])), (ml, .inl (cI, 4, .inl lo)), (mm, .inl (cI, 4, .inl hi)), (mw, .inl (cZ, 4, .inl wh)), (mc, .inl (cI, 4, .inl co))] H := hP
      have hD : va_D A [(o, .inr (7, [.int (0 : Int32), .int (nI m1), .ref ml, .ref mm, .ref mw, .ref mc, .int (nI k), .ref mg, .ref md, .int so, .int fo, .ref mb, .long bb, .long bc, .ref mt, .long be, .ref mr, .int (nI rs), .ref mo, .int (nI rc), .ref mx, .ref mp, .ref nk, .ref na, .ref nv, .ref nf, .ref ns, .ref ne, .ref nw, .ref mf])), (ml, .inl (cI, 4, .inl lo)), (mm, .inl (cI, 4, .inl hi)), (mw, .inl (cZ, 4, .inl wh)), (mc, .inl (cI, 4, .inl co))] := hD
      refine lv_aload_n hx hb dd_Model_start_31 rfl (lv_at hl 0 rfl) ?_
      refine lv_iconst (v := 0) hx hb dd_Model_start_32 (by decide) ?_
      refine va_put (D := D) (ci := 7) (v := .int (0 : Int32)) (ty := .int) (C := RR_Model) (T := FF_Model) (N := 30) hx hb htb hi_Model tt_Model tt_Model_ok nn_Model hown hK hP hD hS 0 rfl rfl 6 (by decide) hf_83 (fun _ h9 => h9) rfl (by decide +kernel) (rfl) (rfl) (Nat.le_of_ble_eq_true rfl) dd_Model_start_33 (fun H locs hP hD hS => ?_)
      have hP : va_P D kc_all [(o, .inr (7, [.int (0 : Int32), .int (nI m1), .ref ml, .ref mm, .ref mw, .ref mc, .int (0 : Int32), .ref mg, .ref md, .int so, .int fo, .ref mb, .long bb, .long bc, .ref mt, .long be, .ref mr, .int (nI rs), .ref mo, .int (nI rc), .ref mx, .ref mp, .ref nk, .ref na, .ref nv, .ref nf, .ref ns, .ref ne, .ref nw, .ref mf])), (ml, .inl (cI, 4, .inl lo)), (mm, .inl (cI, 4, .inl hi)), (mw, .inl (cZ, 4, .inl wh)), (mc, .inl (cI, 4, .inl co))] H := hP
      have hD : va_D A [(o, .inr (7, [.int (0 : Int32), .int (nI m1), .ref ml, .ref mm, .ref mw, .ref mc, .int (0 : Int32), .ref mg, .ref md, .int so, .int fo, .ref mb, .long bb, .long bc, .ref mt, .long be, .ref mr, .int (nI rs), .ref mo, .int (nI rc), .ref mx, .ref mp, .ref nk, .ref na, .ref nv, .ref nf, .ref ns, .ref ne, .ref nw, .ref mf])), (ml, .inl (cI, 4, .inl lo)), (mm, .inl (cI, 4, .inl hi)), (mw, .inl (cZ, 4, .inl wh)), (mc, .inl (cI, 4, .inl co))] := hD
      refine lv_aload_n hx hb dd_Model_start_36 rfl (lv_at hl 0 rfl) ?_
      refine lv_iconst (v := 0) hx hb dd_Model_start_37 (by decide) ?_
      refine va_put (D := D) (ci := 7) (v := .int (0 : Int32)) (ty := .int) (C := RR_Model) (T := FF_Model) (N := 30) hx hb htb hi_Model tt_Model tt_Model_ok nn_Model hown hK hP hD hS 0 rfl rfl 9 (by decide) hf_86 (fun _ h9 => h9) rfl (by decide +kernel) (rfl) (rfl) (Nat.le_of_ble_eq_true rfl) dd_Model_start_38 (fun H locs hP hD hS => ?_)
      have hP : va_P D kc_all [(o, .inr (7, [.int (0 : Int32), .int (nI m1), .ref ml, .ref mm, .ref mw, .ref mc, .int (0 : Int32), .ref mg, .ref md, .int (0 : Int32), .int fo, .ref mb, .long bb, .long bc, .ref mt, .long be, .ref mr, .int (nI rs), .ref mo, .int (nI rc), .ref mx, .ref mp, .ref nk, .ref na, .ref nv, .ref nf, .ref ns, .ref ne, .ref nw, .ref mf])), (ml, .inl (cI, 4, .inl lo)), (mm, .inl (cI, 4, .inl hi)), (mw, .inl (cZ, 4, .inl wh)), (mc, .inl (cI, 4, .inl co))] H := hP
      have hD : va_D A [(o, .inr (7, [.int (0 : Int32), .int (nI m1), .ref ml, .ref mm, .ref mw, .ref mc, .int (0 : Int32), .ref mg, .ref md, .int (0 : Int32), .int fo, .ref mb, .long bb, .long bc, .ref mt, .long be, .ref mr, .int (nI rs), .ref mo, .int (nI rc), .ref mx, .ref mp, .ref nk, .ref na, .ref nv, .ref nf, .ref ns, .ref ne, .ref nw, .ref mf])), (ml, .inl (cI, 4, .inl lo)), (mm, .inl (cI, 4, .inl hi)), (mw, .inl (cZ, 4, .inl wh)), (mc, .inl (cI, 4, .inl co))] := hD
      refine lv_iconst (v := 0) hx hb dd_Model_start_41 (by decide) ?_
      refine lv_istore_n (lv' := [(2, .int (0 : Int32)), (0, .ref o), (1, .int (nI m1))]) hx hb dd_Model_start_42 rfl hl (by decide) rfl (fun ls hl => ?_)
      have J43 : ∀ (N : Nat) (j : Nat) (lo1 : Nat → Int32) (hi1 : Nat → Int32) (wh1 : Nat → Int32) (co1 : Nat → Int32), (4 - j) < N → ∀ (hj : j ≤ 4) (hv : ∀ j9, j9 < j → lo1 j9 = 0 ∧ hi1 j9 = 8 ∧ wh1 j9 = 1 ∧ co1 j9 = 0), ∀ (ls : Array Slot) (H : Heap) (locs : List Loc), lv_has ls 3 [(0, .ref o), (2, .int (nI j))] → va_P D kc_all [(o, .inr (7, [.int 0, .int (nI m1), .ref ml, .ref mm, .ref mw, .ref mc, .int (nI 0), .ref mg, .ref md, .int 0, .int fo, .ref mb, .long bb, .long bc, .ref mt, .long be, .ref mr, .int (nI rs), .ref mo, .int (nI rc), .ref mx, .ref mp, .ref nk, .ref na, .ref nv, .ref nf, .ref ns, .ref ne, .ref nw, .ref mf])), (ml, .inl (cI, 4, .inl lo1)), (mm, .inl (cI, 4, .inl hi1)), (mw, .inl (cZ, 4, .inl wh1)), (mc, .inl (cI, 4, .inl co1))] H → va_D A [(o, .inr (7, [.int 0, .int (nI m1), .ref ml, .ref mm, .ref mw, .ref mc, .int (nI 0), .ref mg, .ref md, .int 0, .int fo, .ref mb, .long bb, .long bc, .ref mt, .long be, .ref mr, .int (nI rs), .ref mo, .int (nI rc), .ref mx, .ref mp, .ref nk, .ref na, .ref nv, .ref nf, .ref ns, .ref ne, .ref nw, .ref mf])), (ml, .inl (cI, 4, .inl lo1)), (mm, .inl (cI, 4, .inl hi1)), (mw, .inl (cZ, 4, .inl wh1)), (mc, .inl (cI, 4, .inl co1))] → va_S A s.heap H locs → W p l e (headSpec ww_Model_start ({ frames := 1, cells := 0, slots := 0, locals := 22 } : Room)).room s m ([.ref o, .int (nI m1)]).toArray below meth c H locs 0 0 (MQ below (qq_Model_start D cI cZ cL cQ o ml mm mw mc mg md mb mt mr mo mx mp nk na nv nf ns ne nw mf thr n k so fo bb bc be rs rc m1 lo hi wh co A) ([.ref o, .int (nI m1)]).toArray s 0 0 A) (F0 m 43 ls []) := by
        intro N
        induction N with
        | zero => intro j lo1 hi1 wh1 co1 hN9; exact absurd hN9 (Nat.not_lt_zero _)
        | succ N IH43 =>
          intro j lo1 hi1 wh1 co1 hN9 hj hv ls H locs hl hP hD hS
          refine lv_iload_n hx hb dd_Model_start_43 rfl (lv_at hl 1 rfl) ?_
          refine lv_iconst (v := 4) hx hb dd_Model_start_44 (by decide) ?_
          refine lv_icmp_ge (tgt := 83) hx hb dd_Model_start_45 (by decide) (fun h45 => ?_) (fun h45 => ?_)
          · skip
            have h45 : 4 ≤ j := (nI_leI (a := 4) (b := j) (by omega) (by omega)).mp h45
            exact W.vret hx hb hr (fun t ht hW => ⟨⟨(lo1, hi1, wh1, co1), rfl, fun j9 h9 => hv j9 (by omega), by rw [ht]; exact hP, va_K.moved hW.alike hK, hD⟩, hS.F ht⟩) hS.2.2 dd_Model_start_83
          · skip
            have h45 : ¬ (4 ≤ j) := fun q9 => h45 ((nI_leI (a := 4) (b := j) (by omega) (by omega)).mpr q9)
            refine lv_aload_n hx hb dd_Model_start_48 rfl (lv_at hl 0 rfl) ?_
            refine va_get (D := D) (ci := 7) (v := .ref ml) (C := RR_Model) (T := FF_Model) (N := 30) hx hb htb hi_Model hown hK hP 0 rfl rfl 2 (by decide) hf_13 (fun _ h9 => h9) rfl dd_Model_start_49 ?_
            refine lv_iload_n hx hb dd_Model_start_52 rfl (lv_at hl 1 rfl) ?_
            refine lv_iconst (v := 0) hx hb dd_Model_start_53 (by decide) ?_
            refine mm_iast hx hb hK hP hD hS 1 0 rfl rfl (j) (rfl) (by omega) (by first | decide | omega) dd_Model_start_54 (fun H locs hP hD hS => ?_)
            have hP : va_P D kc_all [(o, .inr (7, [.int 0, .int (nI m1), .ref ml, .ref mm, .ref mw, .ref mc, .int (nI 0), .ref mg, .ref md, .int 0, .int fo, .ref mb, .long bb, .long bc, .ref mt, .long be, .ref mr, .int (nI rs), .ref mo, .int (nI rc), .ref mx, .ref mp, .ref nk, .ref na, .ref nv, .ref nf, .ref ns, .ref ne, .ref nw, .ref mf])), (ml, .inl (cI, 4, .inl (upd lo1 j (0 : Int32)))), (mm, .inl (cI, 4, .inl hi1)), (mw, .inl (cZ, 4, .inl wh1)), (mc, .inl (cI, 4, .inl co1))] H := hP
            have hD : va_D A [(o, .inr (7, [.int 0, .int (nI m1), .ref ml, .ref mm, .ref mw, .ref mc, .int (nI 0), .ref mg, .ref md, .int 0, .int fo, .ref mb, .long bb, .long bc, .ref mt, .long be, .ref mr, .int (nI rs), .ref mo, .int (nI rc), .ref mx, .ref mp, .ref nk, .ref na, .ref nv, .ref nf, .ref ns, .ref ne, .ref nw, .ref mf])), (ml, .inl (cI, 4, .inl (upd lo1 j (0 : Int32)))), (mm, .inl (cI, 4, .inl hi1)), (mw, .inl (cZ, 4, .inl wh1)), (mc, .inl (cI, 4, .inl co1))] := hD
            refine lv_aload_n hx hb dd_Model_start_55 rfl (lv_at hl 0 rfl) ?_
            refine va_get (D := D) (ci := 7) (v := .ref mm) (C := RR_Model) (T := FF_Model) (N := 30) hx hb htb hi_Model hown hK hP 0 rfl rfl 3 (by decide) hf_17 (fun _ h9 => h9) rfl dd_Model_start_56 ?_
            refine lv_iload_n hx hb dd_Model_start_59 rfl (lv_at hl 1 rfl) ?_
            refine lv_bipush (v := 8) hx hb dd_Model_start_60 (by decide) ?_
            refine mm_iast hx hb hK hP hD hS 2 0 rfl rfl (j) (rfl) (by omega) (by first | decide | omega) dd_Model_start_62 (fun H locs hP hD hS => ?_)
            have hP : va_P D kc_all [(o, .inr (7, [.int 0, .int (nI m1), .ref ml, .ref mm, .ref mw, .ref mc, .int (nI 0), .ref mg, .ref md, .int 0, .int fo, .ref mb, .long bb, .long bc, .ref mt, .long be, .ref mr, .int (nI rs), .ref mo, .int (nI rc), .ref mx, .ref mp, .ref nk, .ref na, .ref nv, .ref nf, .ref ns, .ref ne, .ref nw, .ref mf])), (ml, .inl (cI, 4, .inl (upd lo1 j (0 : Int32)))), (mm, .inl (cI, 4, .inl (upd hi1 j (8 : Int32)))), (mw, .inl (cZ, 4, .inl wh1)), (mc, .inl (cI, 4, .inl co1))] H := hP
            have hD : va_D A [(o, .inr (7, [.int 0, .int (nI m1), .ref ml, .ref mm, .ref mw, .ref mc, .int (nI 0), .ref mg, .ref md, .int 0, .int fo, .ref mb, .long bb, .long bc, .ref mt, .long be, .ref mr, .int (nI rs), .ref mo, .int (nI rc), .ref mx, .ref mp, .ref nk, .ref na, .ref nv, .ref nf, .ref ns, .ref ne, .ref nw, .ref mf])), (ml, .inl (cI, 4, .inl (upd lo1 j (0 : Int32)))), (mm, .inl (cI, 4, .inl (upd hi1 j (8 : Int32)))), (mw, .inl (cZ, 4, .inl wh1)), (mc, .inl (cI, 4, .inl co1))] := hD
            refine lv_aload_n hx hb dd_Model_start_63 rfl (lv_at hl 0 rfl) ?_
            refine va_get (D := D) (ci := 7) (v := .ref mw) (C := RR_Model) (T := FF_Model) (N := 30) hx hb htb hi_Model hown hK hP 0 rfl rfl 4 (by decide) hf_20 (fun _ h9 => h9) rfl dd_Model_start_64 ?_
            refine lv_iload_n hx hb dd_Model_start_67 rfl (lv_at hl 1 rfl) ?_
            refine lv_iconst (v := 1) hx hb dd_Model_start_68 (by decide) ?_
            refine mm_zast hx hb hK hP hD hS 3 1 rfl rfl (j) (rfl) (by omega) (by first | decide | omega) (by decide) dd_Model_start_69 (fun H locs hP hD hS => ?_)
            have hP : va_P D kc_all [(o, .inr (7, [.int 0, .int (nI m1), .ref ml, .ref mm, .ref mw, .ref mc, .int (nI 0), .ref mg, .ref md, .int 0, .int fo, .ref mb, .long bb, .long bc, .ref mt, .long be, .ref mr, .int (nI rs), .ref mo, .int (nI rc), .ref mx, .ref mp, .ref nk, .ref na, .ref nv, .ref nf, .ref ns, .ref ne, .ref nw, .ref mf])), (ml, .inl (cI, 4, .inl (upd lo1 j (0 : Int32)))), (mm, .inl (cI, 4, .inl (upd hi1 j (8 : Int32)))), (mw, .inl (cZ, 4, .inl (upd wh1 j (1 : Int32)))), (mc, .inl (cI, 4, .inl co1))] H := hP
            have hD : va_D A [(o, .inr (7, [.int 0, .int (nI m1), .ref ml, .ref mm, .ref mw, .ref mc, .int (nI 0), .ref mg, .ref md, .int 0, .int fo, .ref mb, .long bb, .long bc, .ref mt, .long be, .ref mr, .int (nI rs), .ref mo, .int (nI rc), .ref mx, .ref mp, .ref nk, .ref na, .ref nv, .ref nf, .ref ns, .ref ne, .ref nw, .ref mf])), (ml, .inl (cI, 4, .inl (upd lo1 j (0 : Int32)))), (mm, .inl (cI, 4, .inl (upd hi1 j (8 : Int32)))), (mw, .inl (cZ, 4, .inl (upd wh1 j (1 : Int32)))), (mc, .inl (cI, 4, .inl co1))] := hD
            refine lv_aload_n hx hb dd_Model_start_70 rfl (lv_at hl 0 rfl) ?_
            refine va_get (D := D) (ci := 7) (v := .ref mc) (C := RR_Model) (T := FF_Model) (N := 30) hx hb htb hi_Model hown hK hP 0 rfl rfl 5 (by decide) hf_24 (fun _ h9 => h9) rfl dd_Model_start_71 ?_
            refine lv_iload_n hx hb dd_Model_start_74 rfl (lv_at hl 1 rfl) ?_
            refine lv_iconst (v := 0) hx hb dd_Model_start_75 (by decide) ?_
            refine mm_iast hx hb hK hP hD hS 4 0 rfl rfl (j) (rfl) (by omega) (by first | decide | omega) dd_Model_start_76 (fun H locs hP hD hS => ?_)
            have hP : va_P D kc_all [(o, .inr (7, [.int 0, .int (nI m1), .ref ml, .ref mm, .ref mw, .ref mc, .int (nI 0), .ref mg, .ref md, .int 0, .int fo, .ref mb, .long bb, .long bc, .ref mt, .long be, .ref mr, .int (nI rs), .ref mo, .int (nI rc), .ref mx, .ref mp, .ref nk, .ref na, .ref nv, .ref nf, .ref ns, .ref ne, .ref nw, .ref mf])), (ml, .inl (cI, 4, .inl (upd lo1 j (0 : Int32)))), (mm, .inl (cI, 4, .inl (upd hi1 j (8 : Int32)))), (mw, .inl (cZ, 4, .inl (upd wh1 j (1 : Int32)))), (mc, .inl (cI, 4, .inl (upd co1 j (0 : Int32))))] H := hP
            have hD : va_D A [(o, .inr (7, [.int 0, .int (nI m1), .ref ml, .ref mm, .ref mw, .ref mc, .int (nI 0), .ref mg, .ref md, .int 0, .int fo, .ref mb, .long bb, .long bc, .ref mt, .long be, .ref mr, .int (nI rs), .ref mo, .int (nI rc), .ref mx, .ref mp, .ref nk, .ref na, .ref nv, .ref nf, .ref ns, .ref ne, .ref nw, .ref mf])), (ml, .inl (cI, 4, .inl (upd lo1 j (0 : Int32)))), (mm, .inl (cI, 4, .inl (upd hi1 j (8 : Int32)))), (mw, .inl (cZ, 4, .inl (upd wh1 j (1 : Int32)))), (mc, .inl (cI, 4, .inl (upd co1 j (0 : Int32))))] := hD
            refine lv_iinc (k := 1) (v := nI (j + 1)) (lv' := [(2, .int (nI (j + 1))), (0, .ref o)]) hx hb dd_Model_start_77 hl rfl (nI_1 _) (by decide) rfl (fun ls hl => ?_)
            refine lv_goto (tgt := 43) hx hb dd_Model_start_80 (by decide) ?_
            exact IH43 (j + 1) (upd lo1 j (0 : Int32)) (upd hi1 j (8 : Int32)) (upd wh1 j (1 : Int32)) (upd co1 j (0 : Int32)) (by omega) (by omega) (bg_step hv) ls H locs (lv_sub hl [1, 0] rfl) hP hD hS
      exact J43 _ 0 lo hi wh co (Nat.lt_succ_self _) (by omega) (fun _ h => absurd h (Nat.not_lt_zero _)) ls H locs (lv_sub hl [1, 0] rfl) hP hD hS
    · skip
      have h22 : ¬ (0 ≤ 0) := fun q9 => h22 ((nI_leI (a := 0) (b := 0) (by omega) (by omega)).mpr q9)
      omega
abbrev qq_Model_startN (D : va_G) (cI cZ cL cQ : ClassId) (o : Nat) (ml : Nat) (mm : Nat) (mw : Nat) (mc : Nat) (mg : Nat) (md : Nat) (mb : Nat) (mt : Nat) (mr : Nat) (mo : Nat) (mx : Nat) (mp : Nat) (nk : Nat) (na : Nat) (nv : Nat) (nf : Nat) (ns : Nat) (ne : Nat) (nw : Nat) (mf : Nat) (thr : Int32) (n : Nat) (k : Nat) (so : Int32) (fo : Int32) (bb : Int64) (bc : Int64) (be : Int64) (rs : Nat) (rc : Nat) (mn : Int32) (A : Nat → Prop) : Array Value → State → Outcome → State → Prop := va_Qv (fun u : Unit => True) (fun (u : Unit) t => mm_B D kc_all [(cI, .int), (cZ, .boolean), (cL, .long), (cQ, .array .int)] A [(o, .inr (7, [.int 1, .int (nI n), .ref ml, .ref mm, .ref mw, .ref mc, .int (nI k), .ref mg, .ref md, .int so, .int fo, .ref mb, .long bb, .long bc, .ref mt, .long be, .ref mr, .int (nI rs), .ref mo, .int (nI rc), .ref mx, .ref mp, .ref nk, .ref na, .ref nv, .ref nf, .ref ns, .ref ne, .ref nw, .ref mf]))] t) A
set_option maxHeartbeats 4000000 in
set_option maxRecDepth 100000 in
theorem cc_Model_startN (l : Launch) (D : va_G) (cI cZ cL cQ : ClassId) (sz : Nat) (o : Nat) (ml : Nat) (mm : Nat) (mw : Nat) (mc : Nat) (mg : Nat) (md : Nat) (mb : Nat) (mt : Nat) (mr : Nat) (mo : Nat) (mx : Nat) (mp : Nat) (nk : Nat) (na : Nat) (nv : Nat) (nf : Nat) (ns : Nat) (ne : Nat) (nw : Nat) (mf : Nat) (thr : Int32) (n : Nat) (k : Nat) (so : Int32) (fo : Int32) (bb : Int64) (bc : Int64) (be : Int64) (rs : Nat) (rc : Nat) (mn : Int32) (hm : ¬ in_ok mn 1 4) : Met l yy_Model_start ww_Model_start ({ frames := 1, cells := 0, slots := 0, locals := 22 } : Room) (mm_Pc D kc_all [(cI, .int), (cZ, .boolean), (cL, .long), (cQ, .array .int)] sz [(o, .inr (7, [.int thr, .int (nI n), .ref ml, .ref mm, .ref mw, .ref mc, .int (nI k), .ref mg, .ref md, .int so, .int fo, .ref mb, .long bb, .long bc, .ref mt, .long be, .ref mr, .int (nI rs), .ref mo, .int (nI rc), .ref mx, .ref mp, .ref nk, .ref na, .ref nv, .ref nf, .ref ns, .ref ne, .ref nw, .ref mf]))] [.ref o, .int mn]) (qq_Model_startN D cI cZ cL cQ o ml mm mw mc mg md mb mt mr mo mx mp nk na nv nf ns ne nw mf thr n k so fo bb bc be rs rc mn (va_A [(o, .inr (7, [.int thr, .int (nI n), .ref ml, .ref mm, .ref mw, .ref mc, .int (nI k), .ref mg, .ref md, .int so, .int fo, .ref mb, .long bb, .long bc, .ref mt, .long be, .ref mr, .int (nI rs), .ref mo, .int (nI rc), .ref mx, .ref mp, .ref nk, .ref na, .ref nv, .ref nf, .ref ns, .ref ne, .ref nw, .ref mf]))] sz)) 0 0 (va_A [(o, .inr (7, [.int thr, .int (nI n), .ref ml, .ref mm, .ref mw, .ref mc, .int (nI k), .ref mg, .ref md, .int so, .int fo, .ref mb, .long bb, .long bc, .ref mt, .long be, .ref mr, .int (nI rs), .ref mo, .int (nI rc), .ref mx, .ref mp, .ref nk, .ref na, .ref nv, .ref nf, .ref ns, .ref ne, .ref nw, .ref mf]))] sz) := by
  refine Met.ofW (cc := bb_Model_start) (maxL := 3) (ret := none) (by decide) rfl ?_
  intro p e s m args below meth c s₁ B hml hv
  obtain ⟨rfl, hsz, hP, hK, hD0⟩ := hv
  have hx := B.exec
  have hb := B.bytes
  have hr := B.returns
  have hts := atoms_spec (ws := ww_Model_start) B.pre
  have hown : s.vm.findClass RR_Model = some m.cls := findClass_of_methodNamed B.named
  have hlocks := B.notSynchronized
  subst hsz
  have hD := hD0.self (sz := s.heap.size)
  generalize hAe : va_A [(o, .inr (7, [.int thr, .int (nI n), .ref ml, .ref mm, .ref mw, .ref mc, .int (nI k), .ref mg, .ref md, .int so, .int fo, .ref mb, .long bb, .long bc, .ref mt, .long be, .ref mr, .int (nI rs), .ref mo, .int (nI rc), .ref mx, .ref mp, .ref nk, .ref na, .ref nv, .ref nf, .ref ns, .ref ne, .ref nw, .ref mf]))] s.heap.size = A at hD ⊢
  have hA : ∀ q : Nat, s.heap.size ≤ q → A q := fun q h => by rw [← hAe]; exact Or.inr h
  have hS : va_S A s.heap s.heap [] := va_S.rf
  have hP : va_P D kc_all [(o, .inr (7, [.int thr, .int (nI n), .ref ml, .ref mm, .ref mw, .ref mc, .int (nI k), .ref mg, .ref md, .int so, .int fo, .ref mb, .long bb, .long bc, .ref mt, .long be, .ref mr, .int (nI rs), .ref mo, .int (nI rc), .ref mx, .ref mp, .ref nk, .ref na, .ref nv, .ref nf, .ref ns, .ref ne, .ref nw, .ref mf]))] s.heap := hP
  have hl := lv_entry ([.ref o, .int mn]) (n := 3) (Nat.le_of_ble_eq_true rfl)
  rw [lg_entry_eq]
  generalize (lg_sl ([.ref o, .int mn]) ++ List.replicate (3 - (lg_sl ([.ref o, .int mn])).length) Slot.unset).toArray = ls at hl ⊢
  have hl : lv_has ls 3 [(0, .ref o), (1, .int mn)] := hl
  have htb : ∀ w ∈ tb_all, w.before ([.ref o, .int mn]).toArray s = true := fun w h => hts w (List.mem_cons_of_mem _ h)
  have hf_7 := htb _ fl_Model_7
  have hf_13 := htb _ fl_Model_13
  have hf_17 := htb _ fl_Model_17
  have hf_20 := htb _ fl_Model_20
  have hf_24 := htb _ fl_Model_24
  have hf_76 := htb _ fl_Model_76
  have hf_83 := htb _ fl_Model_83
  have hf_86 := htb _ fl_Model_86
  refine lv_aload_n hx hb dd_Model_start_0 rfl (lv_at hl 0 rfl) ?_
  refine lv_iload_n hx hb dd_Model_start_1 rfl (lv_at hl 1 rfl) ?_
  refine lv_iconst (v := 1) hx hb dd_Model_start_2 (by decide) ?_
  refine lv_iconst (v := 4) hx hb dd_Model_start_3 (by decide) ?_
  refine mm_i (wc := []) (wr := [(o, .inr (7, [.int thr, .int (nI n), .ref ml, .ref mm, .ref mw, .ref mc, .int (nI k), .ref mg, .ref md, .int so, .int fo, .ref mb, .long bb, .long bc, .ref mt, .long be, .ref mr, .int (nI rs), .ref mo, .int (nI rc), .ref mx, .ref mp, .ref nk, .ref na, .ref nv, .ref nf, .ref ns, .ref ne, .ref nw, .ref mf]))]) (va_runS (As := [.int mn, .int (1 : Int32), .int (4 : Int32)]) (rest := [.ref o]) ⟨hx, hb, hml, hown, hts⟩ (cc_Model_isIn l D cI cZ cL cQ _ mn (1 : Int32) (4 : Int32) ) (mm_cwS 3 hts ml_Model_79 sm_Model_isIn ic_Model cd_Model_isIn rfl rfl (by decide +kernel) ⟨Nat.le_of_ble_eq_true rfl, Nat.le_of_ble_eq_true rfl⟩) (mm_preS hK hP hD [] (by decide) rfl) rfl rfl hl.1 rfl (lv_room (Nat.le_of_ble_eq_true rfl)) dd_Model_start_4 ⟨Nat.zero_le _, Nat.zero_le _⟩) hP hD hS hA [] [0] rfl rfl (by decide) (by decide) (fun zr1 zu2 H locs p4 hP hD hS => ?_)
  have hP : va_P D kc_all [(o, .inr (7, [.int thr, .int (nI n), .ref ml, .ref mm, .ref mw, .ref mc, .int (nI k), .ref mg, .ref md, .int so, .int fo, .ref mb, .long bb, .long bc, .ref mt, .long be, .ref mr, .int (nI rs), .ref mo, .int (nI rc), .ref mx, .ref mp, .ref nk, .ref na, .ref nv, .ref nf, .ref ns, .ref ne, .ref nw, .ref mf]))] H := hP
  have hD : va_D A [(o, .inr (7, [.int thr, .int (nI n), .ref ml, .ref mm, .ref mw, .ref mc, .int (nI k), .ref mg, .ref md, .int so, .int fo, .ref mb, .long bb, .long bc, .ref mt, .long be, .ref mr, .int (nI rs), .ref mo, .int (nI rc), .ref mx, .ref mp, .ref nk, .ref na, .ref nv, .ref nf, .ref ns, .ref ne, .ref nw, .ref mf]))] := hD
  have p4 : tl_ok (in_ok mn (1 : Int32) (4 : Int32)) zr1 := p4
  refine lv_if_eq (tgt := 14) hx hb dd_Model_start_7 (by decide) (fun h7 => ?_) (fun h7 => ?_)
  · skip
    refine lv_iconst (v := 1) hx hb dd_Model_start_14 (by decide) ?_
    refine va_put (D := D) (ci := 7) (v := .int (1 : Int32)) (ty := .int) (C := RR_Model) (T := FF_Model) (N := 30) hx hb htb hi_Model tt_Model tt_Model_ok nn_Model hown hK hP hD hS 0 rfl rfl 0 (by decide) hf_76 (fun _ h9 => h9) rfl (by decide +kernel) (rfl) (rfl) (Nat.le_of_ble_eq_true rfl) dd_Model_start_15 (fun H locs hP hD hS => ?_)
    have hP : va_P D kc_all [(o, .inr (7, [.int (1 : Int32), .int (nI n), .ref ml, .ref mm, .ref mw, .ref mc, .int (nI k), .ref mg, .ref md, .int so, .int fo, .ref mb, .long bb, .long bc, .ref mt, .long be, .ref mr, .int (nI rs), .ref mo, .int (nI rc), .ref mx, .ref mp, .ref nk, .ref na, .ref nv, .ref nf, .ref ns, .ref ne, .ref nw, .ref mf]))] H := hP
    have hD : va_D A [(o, .inr (7, [.int (1 : Int32), .int (nI n), .ref ml, .ref mm, .ref mw, .ref mc, .int (nI k), .ref mg, .ref md, .int so, .int fo, .ref mb, .long bb, .long bc, .ref mt, .long be, .ref mr, .int (nI rs), .ref mo, .int (nI rc), .ref mx, .ref mp, .ref nk, .ref na, .ref nv, .ref nf, .ref ns, .ref ne, .ref nw, .ref mf]))] := hD
    refine lv_aload_n hx hb dd_Model_start_18 rfl (lv_at hl 0 rfl) ?_
    refine va_get (D := D) (ci := 7) (v := .int (1 : Int32)) (C := RR_Model) (T := FF_Model) (N := 30) hx hb htb hi_Model hown hK hP 0 rfl rfl 0 (by decide) hf_76 (fun _ h9 => h9) rfl dd_Model_start_19 ?_
    refine lv_if_le (tgt := 26) hx hb dd_Model_start_22 (by decide) (fun h22 => ?_) (fun h22 => ?_)
    · skip
      have h22 : 1 ≤ 0 := (nI_leI (a := 1) (b := 0) (by omega) (by omega)).mp h22
      omega
    · skip
      have h22 : ¬ (1 ≤ 0) := fun q9 => h22 ((nI_leI (a := 1) (b := 0) (by omega) (by omega)).mpr q9)
      exact W.vret hx hb hr (fun t ht hW => ⟨⟨(), rfl, by first | rfl | trivial | assumption | omega, by rw [ht]; exact hP, va_K.moved hW.alike hK, hD⟩, hS.F ht⟩) hS.2.2 dd_Model_start_25
  · skip
    exact absurd (tl_1 p4 h7) hm
abbrev qq_Model_amount (D : va_G) (cI cZ cL cQ : ClassId) (o : Nat) (ml : Nat) (mm : Nat) (mw : Nat) (mc : Nat) (mg : Nat) (md : Nat) (mb : Nat) (mt : Nat) (mr : Nat) (mo : Nat) (mx : Nat) (mp : Nat) (nk : Nat) (na : Nat) (nv : Nat) (nf : Nat) (ns : Nat) (ne : Nat) (nw : Nat) (mf : Nat) (thr : Int32) (n : Nat) (k : Nat) (so : Int32) (fo : Int32) (bb : Int64) (bc : Int64) (be : Int64) (rs : Nat) (rc : Nat) (jv : Int32) (lsv : Int32) (msv : Int32) (wv : Int32) (lo : Nat → Int32) (hi : Nat → Int32) (wh : Nat → Int32) (A : Nat → Prop) : Array Value → State → Outcome → State → Prop := va_Qv (fun u : am_T => u = am_f n jv lsv msv wv lo hi wh so) (fun (u : am_T) t => mm_B D kc_all [(cI, .int), (cZ, .boolean), (cL, .long), (cQ, .array .int)] A [(o, .inr (7, [.int u.1, .int (nI n), .ref ml, .ref mm, .ref mw, .ref mc, .int (nI k), .ref mg, .ref md, .int u.2.2.2.2, .int fo, .ref mb, .long bb, .long bc, .ref mt, .long be, .ref mr, .int (nI rs), .ref mo, .int (nI rc), .ref mx, .ref mp, .ref nk, .ref na, .ref nv, .ref nf, .ref ns, .ref ne, .ref nw, .ref mf])), (ml, .inl (cI, 4, .inl u.2.1)), (mm, .inl (cI, 4, .inl u.2.2.1)), (mw, .inl (cZ, 4, .inl u.2.2.2.1))] t) A
set_option maxHeartbeats 4000000 in
set_option maxRecDepth 100000 in
theorem cc_Model_amount (l : Launch) (D : va_G) (cI cZ cL cQ : ClassId) (sz : Nat) (o : Nat) (ml : Nat) (mm : Nat) (mw : Nat) (mc : Nat) (mg : Nat) (md : Nat) (mb : Nat) (mt : Nat) (mr : Nat) (mo : Nat) (mx : Nat) (mp : Nat) (nk : Nat) (na : Nat) (nv : Nat) (nf : Nat) (ns : Nat) (ne : Nat) (nw : Nat) (mf : Nat) (thr : Int32) (n : Nat) (k : Nat) (so : Int32) (fo : Int32) (bb : Int64) (bc : Int64) (be : Int64) (rs : Nat) (rc : Nat) (jv : Int32) (lsv : Int32) (msv : Int32) (wv : Int32) (lo : Nat → Int32) (hi : Nat → Int32) (wh : Nat → Int32) (hn : 1 ≤ n ∧ n ≤ 4) (hwv : wv = 0 ∨ wv = 1) : Met l yy_Model_amount ww_Model_amount ({ frames := 1, cells := 0, slots := 0, locals := 22 } : Room) (mm_Pc D kc_all [(cI, .int), (cZ, .boolean), (cL, .long), (cQ, .array .int)] sz [(o, .inr (7, [.int thr, .int (nI n), .ref ml, .ref mm, .ref mw, .ref mc, .int (nI k), .ref mg, .ref md, .int so, .int fo, .ref mb, .long bb, .long bc, .ref mt, .long be, .ref mr, .int (nI rs), .ref mo, .int (nI rc), .ref mx, .ref mp, .ref nk, .ref na, .ref nv, .ref nf, .ref ns, .ref ne, .ref nw, .ref mf])), (ml, .inl (cI, 4, .inl lo)), (mm, .inl (cI, 4, .inl hi)), (mw, .inl (cZ, 4, .inl wh))] [.ref o, .int jv, .int lsv, .int msv, .int wv]) (qq_Model_amount D cI cZ cL cQ o ml mm mw mc mg md mb mt mr mo mx mp nk na nv nf ns ne nw mf thr n k so fo bb bc be rs rc jv lsv msv wv lo hi wh (va_A [(o, .inr (7, [.int thr, .int (nI n), .ref ml, .ref mm, .ref mw, .ref mc, .int (nI k), .ref mg, .ref md, .int so, .int fo, .ref mb, .long bb, .long bc, .ref mt, .long be, .ref mr, .int (nI rs), .ref mo, .int (nI rc), .ref mx, .ref mp, .ref nk, .ref na, .ref nv, .ref nf, .ref ns, .ref ne, .ref nw, .ref mf])), (ml, .inl (cI, 4, .inl lo)), (mm, .inl (cI, 4, .inl hi)), (mw, .inl (cZ, 4, .inl wh))] sz)) 0 0 (va_A [(o, .inr (7, [.int thr, .int (nI n), .ref ml, .ref mm, .ref mw, .ref mc, .int (nI k), .ref mg, .ref md, .int so, .int fo, .ref mb, .long bb, .long bc, .ref mt, .long be, .ref mr, .int (nI rs), .ref mo, .int (nI rc), .ref mx, .ref mp, .ref nk, .ref na, .ref nv, .ref nf, .ref ns, .ref ne, .ref nw, .ref mf])), (ml, .inl (cI, 4, .inl lo)), (mm, .inl (cI, 4, .inl hi)), (mw, .inl (cZ, 4, .inl wh))] sz) := by
  refine Met.ofW (cc := bb_Model_amount) (maxL := 6) (ret := none) (by decide) rfl ?_
  intro p e s m args below meth c s₁ B hml hv
  obtain ⟨rfl, hsz, hP, hK, hD0⟩ := hv
  have hx := B.exec
  have hb := B.bytes
  have hr := B.returns
  have hts := atoms_spec (ws := ww_Model_amount) B.pre
  have hown : s.vm.findClass RR_Model = some m.cls := findClass_of_methodNamed B.named
  have hlocks := B.notSynchronized
  subst hsz
  have hD := hD0.self (sz := s.heap.size)
  generalize hAe : va_A [(o, .inr (7, [.int thr, .int (nI n), .ref ml, .ref mm, .ref mw, .ref mc, .int (nI k), .ref mg, .ref md, .int so, .int fo, .ref mb, .long bb, .long bc, .ref mt, .long be, .ref mr, .int (nI rs), .ref mo, .int (nI rc), .ref mx, .ref mp, .ref nk, .ref na, .ref nv, .ref nf, .ref ns, .ref ne, .ref nw, .ref mf])), (ml, .inl (cI, 4, .inl lo)), (mm, .inl (cI, 4, .inl hi)), (mw, .inl (cZ, 4, .inl wh))] s.heap.size = A at hD ⊢
  have hA : ∀ q : Nat, s.heap.size ≤ q → A q := fun q h => by rw [← hAe]; exact Or.inr h
  have hS : va_S A s.heap s.heap [] := va_S.rf
  have hP : va_P D kc_all [(o, .inr (7, [.int thr, .int (nI n), .ref ml, .ref mm, .ref mw, .ref mc, .int (nI k), .ref mg, .ref md, .int so, .int fo, .ref mb, .long bb, .long bc, .ref mt, .long be, .ref mr, .int (nI rs), .ref mo, .int (nI rc), .ref mx, .ref mp, .ref nk, .ref na, .ref nv, .ref nf, .ref ns, .ref ne, .ref nw, .ref mf])), (ml, .inl (cI, 4, .inl lo)), (mm, .inl (cI, 4, .inl hi)), (mw, .inl (cZ, 4, .inl wh))] s.heap := hP
  have hl := lv_entry ([.ref o, .int jv, .int lsv, .int msv, .int wv]) (n := 6) (Nat.le_of_ble_eq_true rfl)
  rw [lg_entry_eq]
  generalize (lg_sl ([.ref o, .int jv, .int lsv, .int msv, .int wv]) ++ List.replicate (6 - (lg_sl ([.ref o, .int jv, .int lsv, .int msv, .int wv])).length) Slot.unset).toArray = ls at hl ⊢
  have hl : lv_has ls 6 [(0, .ref o), (1, .int jv), (2, .int lsv), (3, .int msv), (4, .int wv)] := hl
  have htb : ∀ w ∈ tb_all, w.before ([.ref o, .int jv, .int lsv, .int msv, .int wv]).toArray s = true := fun w h => hts w (List.mem_cons_of_mem _ h)
  have hf_7 := htb _ fl_Model_7
  have hf_13 := htb _ fl_Model_13
  have hf_17 := htb _ fl_Model_17
  have hf_20 := htb _ fl_Model_20
  have hf_76 := htb _ fl_Model_76
  have hf_86 := htb _ fl_Model_86
  have J45 : ∀ (g9 : Int32) (hg : tl_ok (ag_ok lsv msv wv) g9), ∀ (ls : Array Slot) (H : Heap) (locs : List Loc), lv_has ls 6 [(0, .ref o), (1, .int jv), (2, .int lsv), (3, .int msv), (4, .int wv)] → va_P D kc_all [(o, .inr (7, [.int thr, .int (nI n), .ref ml, .ref mm, .ref mw, .ref mc, .int (nI k), .ref mg, .ref md, .int so, .int fo, .ref mb, .long bb, .long bc, .ref mt, .long be, .ref mr, .int (nI rs), .ref mo, .int (nI rc), .ref mx, .ref mp, .ref nk, .ref na, .ref nv, .ref nf, .ref ns, .ref ne, .ref nw, .ref mf])), (ml, .inl (cI, 4, .inl lo)), (mm, .inl (cI, 4, .inl hi)), (mw, .inl (cZ, 4, .inl wh))] H → va_D A [(o, .inr (7, [.int thr, .int (nI n), .ref ml, .ref mm, .ref mw, .ref mc, .int (nI k), .ref mg, .ref md, .int so, .int fo, .ref mb, .long bb, .long bc, .ref mt, .long be, .ref mr, .int (nI rs), .ref mo, .int (nI rc), .ref mx, .ref mp, .ref nk, .ref na, .ref nv, .ref nf, .ref ns, .ref ne, .ref nw, .ref mf])), (ml, .inl (cI, 4, .inl lo)), (mm, .inl (cI, 4, .inl hi)), (mw, .inl (cZ, 4, .inl wh))] → va_S A s.heap H locs → W p l e (headSpec ww_Model_amount ({ frames := 1, cells := 0, slots := 0, locals := 22 } : Room)).room s m ([.ref o, .int jv, .int lsv, .int msv, .int wv]).toArray below meth c H locs 0 0 (MQ below (qq_Model_amount D cI cZ cL cQ o ml mm mw mc mg md mb mt mr mo mx mp nk na nv nf ns ne nw mf thr n k so fo bb bc be rs rc jv lsv msv wv lo hi wh A) ([.ref o, .int jv, .int lsv, .int msv, .int wv]).toArray s 0 0 A) (F0 m 45 ls [.int g9]) := by
    intro g9 hg ls H locs hl hP hD hS
    refine lv_istore (lv' := [(5, .int g9), (0, .ref o), (1, .int jv), (2, .int lsv), (3, .int msv), (4, .int wv)]) hx hb dd_Model_amount_45 hl (by decide) rfl (fun ls hl => ?_)
    refine lv_aload_n hx hb dd_Model_amount_47 rfl (lv_at hl 1 rfl) ?_
    refine lv_iload_n hx hb dd_Model_amount_48 rfl (lv_at hl 2 rfl) ?_
    refine lv_iconst (v := 0) hx hb dd_Model_amount_49 (by decide) ?_
    refine lv_aload_n hx hb dd_Model_amount_50 rfl (lv_at hl 1 rfl) ?_
    refine va_get (D := D) (ci := 7) (v := .int (nI n)) (C := RR_Model) (T := FF_Model) (N := 30) hx hb htb hi_Model hown hK hP 0 rfl rfl 1 (by decide) hf_7 (fun _ h9 => h9) rfl dd_Model_amount_51 ?_
    refine lv_iconst (v := 1) hx hb dd_Model_amount_54 (by decide) ?_
    refine lv_isub hx hb dd_Model_amount_55 ?_
    refine mm_topi (y := nI (n - 1)) (pk_sub (a := n) (b := 1) (by omega)) ?_
    refine mm_i (wc := []) (wr := [(o, .inr (7, [.int thr, .int (nI n), .ref ml, .ref mm, .ref mw, .ref mc, .int (nI k), .ref mg, .ref md, .int so, .int fo, .ref mb, .long bb, .long bc, .ref mt, .long be, .ref mr, .int (nI rs), .ref mo, .int (nI rc), .ref mx, .ref mp, .ref nk, .ref na, .ref nv, .ref nf, .ref ns, .ref ne, .ref nw, .ref mf])), (ml, .inl (cI, 4, .inl lo)), (mm, .inl (cI, 4, .inl hi)), (mw, .inl (cZ, 4, .inl wh))]) (va_runS (As := [.int jv, .int (0 : Int32), .int (nI (n - 1))]) (rest := [.ref o]) ⟨hx, hb, hml, hown, hts⟩ (cc_Model_isIn l D cI cZ cL cQ _ jv (0 : Int32) (nI (n - 1)) ) (mm_cwS 3 hts ml_Model_79 sm_Model_isIn ic_Model cd_Model_isIn rfl rfl (by decide +kernel) ⟨Nat.le_of_ble_eq_true rfl, Nat.le_of_ble_eq_true rfl⟩) (mm_preS hK hP hD [] (by decide) rfl) rfl rfl hl.1 rfl (lv_room (Nat.le_of_ble_eq_true rfl)) dd_Model_amount_56 ⟨Nat.zero_le _, Nat.zero_le _⟩) hP hD hS hA [] [0, 1, 2, 3] rfl rfl (by decide) (by decide) (fun zr1 zu2 H locs p56 hP hD hS => ?_)
    have hP : va_P D kc_all [(o, .inr (7, [.int thr, .int (nI n), .ref ml, .ref mm, .ref mw, .ref mc, .int (nI k), .ref mg, .ref md, .int so, .int fo, .ref mb, .long bb, .long bc, .ref mt, .long be, .ref mr, .int (nI rs), .ref mo, .int (nI rc), .ref mx, .ref mp, .ref nk, .ref na, .ref nv, .ref nf, .ref ns, .ref ne, .ref nw, .ref mf])), (ml, .inl (cI, 4, .inl lo)), (mm, .inl (cI, 4, .inl hi)), (mw, .inl (cZ, 4, .inl wh))] H := hP
    have hD : va_D A [(o, .inr (7, [.int thr, .int (nI n), .ref ml, .ref mm, .ref mw, .ref mc, .int (nI k), .ref mg, .ref md, .int so, .int fo, .ref mb, .long bb, .long bc, .ref mt, .long be, .ref mr, .int (nI rs), .ref mo, .int (nI rc), .ref mx, .ref mp, .ref nk, .ref na, .ref nv, .ref nf, .ref ns, .ref ne, .ref nw, .ref mf])), (ml, .inl (cI, 4, .inl lo)), (mm, .inl (cI, 4, .inl hi)), (mw, .inl (cZ, 4, .inl wh))] := hD
    have p56 : tl_ok (in_ok jv (0 : Int32) (nI (n - 1))) zr1 := p56
    refine lv_if_ne (tgt := 66) hx hb dd_Model_amount_59 (by decide) (fun h59 => ?_) (fun h59 => ?_)
    · skip
      refine lv_iload hx hb dd_Model_amount_66 (lv_at hl 0 rfl) ?_
      refine lv_if_eq (tgt := 75) hx hb dd_Model_amount_68 (by decide) (fun h68 => ?_) (fun h68 => ?_)
      · skip
        refine lv_iconst (v := 2) hx hb dd_Model_amount_75 (by decide) ?_
        refine va_put (D := D) (ci := 7) (v := .int (2 : Int32)) (ty := .int) (C := RR_Model) (T := FF_Model) (N := 30) hx hb htb hi_Model tt_Model tt_Model_ok nn_Model hown hK hP hD hS 0 rfl rfl 0 (by decide) hf_76 (fun _ h9 => h9) rfl (by decide +kernel) (rfl) (rfl) (Nat.le_of_ble_eq_true rfl) dd_Model_amount_76 (fun H locs hP hD hS => ?_)
        have hP : va_P D kc_all [(o, .inr (7, [.int (2 : Int32), .int (nI n), .ref ml, .ref mm, .ref mw, .ref mc, .int (nI k), .ref mg, .ref md, .int so, .int fo, .ref mb, .long bb, .long bc, .ref mt, .long be, .ref mr, .int (nI rs), .ref mo, .int (nI rc), .ref mx, .ref mp, .ref nk, .ref na, .ref nv, .ref nf, .ref ns, .ref ne, .ref nw, .ref mf])), (ml, .inl (cI, 4, .inl lo)), (mm, .inl (cI, 4, .inl hi)), (mw, .inl (cZ, 4, .inl wh))] H := hP
        have hD : va_D A [(o, .inr (7, [.int (2 : Int32), .int (nI n), .ref ml, .ref mm, .ref mw, .ref mc, .int (nI k), .ref mg, .ref md, .int so, .int fo, .ref mb, .long bb, .long bc, .ref mt, .long be, .ref mr, .int (nI rs), .ref mo, .int (nI rc), .ref mx, .ref mp, .ref nk, .ref na, .ref nv, .ref nf, .ref ns, .ref ne, .ref nw, .ref mf])), (ml, .inl (cI, 4, .inl lo)), (mm, .inl (cI, 4, .inl hi)), (mw, .inl (cZ, 4, .inl wh))] := hD
        refine lv_aload_n hx hb dd_Model_amount_79 rfl (lv_at hl 1 rfl) ?_
        refine va_get (D := D) (ci := 7) (v := .int (2 : Int32)) (C := RR_Model) (T := FF_Model) (N := 30) hx hb htb hi_Model hown hK hP 0 rfl rfl 0 (by decide) hf_76 (fun _ h9 => h9) rfl dd_Model_amount_80 ?_
        refine lv_if_ne (tgt := 113) hx hb dd_Model_amount_83 (by decide) (fun h83 => ?_) (fun h83 => ?_)
        · skip
          have h83 : ¬ (2 = 0) := fun q9 => h83 ((nI_eq (a := 2) (b := 0) (by omega) (by omega)).mpr q9)
          exact W.vret hx hb hr (fun t ht hW => ⟨⟨((2 : Int32), lo, hi, wh, so), rfl, by first | exact (ci_n (tl_0 p56 h59)).symm | exact ((ci_t (tl_1 p56 h59)).trans (ci_n (tl_0 hg h68))).symm | exact ((ci_t (tl_1 p56 h59)).trans (ci_t (tl_1 hg h68))).symm, by rw [ht]; exact hP, va_K.moved hW.alike hK, hD⟩, hS.F ht⟩) hS.2.2 dd_Model_amount_113
        · skip
          have h83 : 2 = 0 := (nI_eq (a := 2) (b := 0) (by omega) (by omega)).mp h83
          omega
      · skip
        refine lv_iconst (v := 0) hx hb dd_Model_amount_71 (by decide) ?_
        refine lv_goto (tgt := 76) hx hb dd_Model_amount_72 (by decide) ?_
        refine va_put (D := D) (ci := 7) (v := .int (0 : Int32)) (ty := .int) (C := RR_Model) (T := FF_Model) (N := 30) hx hb htb hi_Model tt_Model tt_Model_ok nn_Model hown hK hP hD hS 0 rfl rfl 0 (by decide) hf_76 (fun _ h9 => h9) rfl (by decide +kernel) (rfl) (rfl) (Nat.le_of_ble_eq_true rfl) dd_Model_amount_76 (fun H locs hP hD hS => ?_)
        have hP : va_P D kc_all [(o, .inr (7, [.int (0 : Int32), .int (nI n), .ref ml, .ref mm, .ref mw, .ref mc, .int (nI k), .ref mg, .ref md, .int so, .int fo, .ref mb, .long bb, .long bc, .ref mt, .long be, .ref mr, .int (nI rs), .ref mo, .int (nI rc), .ref mx, .ref mp, .ref nk, .ref na, .ref nv, .ref nf, .ref ns, .ref ne, .ref nw, .ref mf])), (ml, .inl (cI, 4, .inl lo)), (mm, .inl (cI, 4, .inl hi)), (mw, .inl (cZ, 4, .inl wh))] H := hP
        have hD : va_D A [(o, .inr (7, [.int (0 : Int32), .int (nI n), .ref ml, .ref mm, .ref mw, .ref mc, .int (nI k), .ref mg, .ref md, .int so, .int fo, .ref mb, .long bb, .long bc, .ref mt, .long be, .ref mr, .int (nI rs), .ref mo, .int (nI rc), .ref mx, .ref mp, .ref nk, .ref na, .ref nv, .ref nf, .ref ns, .ref ne, .ref nw, .ref mf])), (ml, .inl (cI, 4, .inl lo)), (mm, .inl (cI, 4, .inl hi)), (mw, .inl (cZ, 4, .inl wh))] := hD
        refine lv_aload_n hx hb dd_Model_amount_79 rfl (lv_at hl 1 rfl) ?_
        refine va_get (D := D) (ci := 7) (v := .int (0 : Int32)) (C := RR_Model) (T := FF_Model) (N := 30) hx hb htb hi_Model hown hK hP 0 rfl rfl 0 (by decide) hf_76 (fun _ h9 => h9) rfl dd_Model_amount_80 ?_
        refine lv_if_ne (tgt := 113) hx hb dd_Model_amount_83 (by decide) (fun h83 => ?_) (fun h83 => ?_)
        · skip
          have h83 : ¬ (0 = 0) := fun q9 => h83 ((nI_eq (a := 0) (b := 0) (by omega) (by omega)).mpr q9)
          omega
        · skip
          have h83 : 0 = 0 := (nI_eq (a := 0) (b := 0) (by omega) (by omega)).mp h83
          have hjn := in_nat (n := n - 1) (by omega) (tl_1 p56 h59)
          refine lv_aload_n hx hb dd_Model_amount_86 rfl (lv_at hl 1 rfl) ?_
          refine va_get (D := D) (ci := 7) (v := .ref ml) (C := RR_Model) (T := FF_Model) (N := 30) hx hb htb hi_Model hown hK hP 0 rfl rfl 2 (by decide) hf_13 (fun _ h9 => h9) rfl dd_Model_amount_87 ?_
          refine lv_iload_n hx hb dd_Model_amount_90 rfl (lv_at hl 2 rfl) ?_
          refine lv_iload_n hx hb dd_Model_amount_91 rfl (lv_at hl 3 rfl) ?_
          refine mm_iast hx hb hK hP hD hS 1 0 rfl rfl (jv.toNatClampNeg) (hjn.1) (by omega) (by first | decide | omega) dd_Model_amount_92 (fun H locs hP hD hS => ?_)
          have hP : va_P D kc_all [(o, .inr (7, [.int (0 : Int32), .int (nI n), .ref ml, .ref mm, .ref mw, .ref mc, .int (nI k), .ref mg, .ref md, .int so, .int fo, .ref mb, .long bb, .long bc, .ref mt, .long be, .ref mr, .int (nI rs), .ref mo, .int (nI rc), .ref mx, .ref mp, .ref nk, .ref na, .ref nv, .ref nf, .ref ns, .ref ne, .ref nw, .ref mf])), (ml, .inl (cI, 4, .inl (upd lo jv.toNatClampNeg lsv))), (mm, .inl (cI, 4, .inl hi)), (mw, .inl (cZ, 4, .inl wh))] H := hP
          have hD : va_D A [(o, .inr (7, [.int (0 : Int32), .int (nI n), .ref ml, .ref mm, .ref mw, .ref mc, .int (nI k), .ref mg, .ref md, .int so, .int fo, .ref mb, .long bb, .long bc, .ref mt, .long be, .ref mr, .int (nI rs), .ref mo, .int (nI rc), .ref mx, .ref mp, .ref nk, .ref na, .ref nv, .ref nf, .ref ns, .ref ne, .ref nw, .ref mf])), (ml, .inl (cI, 4, .inl (upd lo jv.toNatClampNeg lsv))), (mm, .inl (cI, 4, .inl hi)), (mw, .inl (cZ, 4, .inl wh))] := hD
          refine lv_aload_n hx hb dd_Model_amount_93 rfl (lv_at hl 1 rfl) ?_
          refine va_get (D := D) (ci := 7) (v := .ref mm) (C := RR_Model) (T := FF_Model) (N := 30) hx hb htb hi_Model hown hK hP 0 rfl rfl 3 (by decide) hf_17 (fun _ h9 => h9) rfl dd_Model_amount_94 ?_
          refine lv_iload_n hx hb dd_Model_amount_97 rfl (lv_at hl 2 rfl) ?_
          refine lv_iload_n hx hb dd_Model_amount_98 rfl (lv_at hl 4 rfl) ?_
          refine mm_iast hx hb hK hP hD hS 2 0 rfl rfl (jv.toNatClampNeg) (hjn.1) (by omega) (by first | decide | omega) dd_Model_amount_99 (fun H locs hP hD hS => ?_)
          have hP : va_P D kc_all [(o, .inr (7, [.int (0 : Int32), .int (nI n), .ref ml, .ref mm, .ref mw, .ref mc, .int (nI k), .ref mg, .ref md, .int so, .int fo, .ref mb, .long bb, .long bc, .ref mt, .long be, .ref mr, .int (nI rs), .ref mo, .int (nI rc), .ref mx, .ref mp, .ref nk, .ref na, .ref nv, .ref nf, .ref ns, .ref ne, .ref nw, .ref mf])), (ml, .inl (cI, 4, .inl (upd lo jv.toNatClampNeg lsv))), (mm, .inl (cI, 4, .inl (upd hi jv.toNatClampNeg msv))), (mw, .inl (cZ, 4, .inl wh))] H := hP
          have hD : va_D A [(o, .inr (7, [.int (0 : Int32), .int (nI n), .ref ml, .ref mm, .ref mw, .ref mc, .int (nI k), .ref mg, .ref md, .int so, .int fo, .ref mb, .long bb, .long bc, .ref mt, .long be, .ref mr, .int (nI rs), .ref mo, .int (nI rc), .ref mx, .ref mp, .ref nk, .ref na, .ref nv, .ref nf, .ref ns, .ref ne, .ref nw, .ref mf])), (ml, .inl (cI, 4, .inl (upd lo jv.toNatClampNeg lsv))), (mm, .inl (cI, 4, .inl (upd hi jv.toNatClampNeg msv))), (mw, .inl (cZ, 4, .inl wh))] := hD
          refine lv_aload_n hx hb dd_Model_amount_100 rfl (lv_at hl 1 rfl) ?_
          refine va_get (D := D) (ci := 7) (v := .ref mw) (C := RR_Model) (T := FF_Model) (N := 30) hx hb htb hi_Model hown hK hP 0 rfl rfl 4 (by decide) hf_20 (fun _ h9 => h9) rfl dd_Model_amount_101 ?_
          refine lv_iload_n hx hb dd_Model_amount_104 rfl (lv_at hl 2 rfl) ?_
          refine lv_iload hx hb dd_Model_amount_105 (lv_at hl 5 rfl) ?_
          refine mm_zast hx hb hK hP hD hS 3 1 rfl rfl (jv.toNatClampNeg) (hjn.1) (by omega) (by first | decide | omega) (by rcases hwv with rfl | rfl <;> decide) dd_Model_amount_107 (fun H locs hP hD hS => ?_)
          have hP : va_P D kc_all [(o, .inr (7, [.int (0 : Int32), .int (nI n), .ref ml, .ref mm, .ref mw, .ref mc, .int (nI k), .ref mg, .ref md, .int so, .int fo, .ref mb, .long bb, .long bc, .ref mt, .long be, .ref mr, .int (nI rs), .ref mo, .int (nI rc), .ref mx, .ref mp, .ref nk, .ref na, .ref nv, .ref nf, .ref ns, .ref ne, .ref nw, .ref mf])), (ml, .inl (cI, 4, .inl (upd lo jv.toNatClampNeg lsv))), (mm, .inl (cI, 4, .inl (upd hi jv.toNatClampNeg msv))), (mw, .inl (cZ, 4, .inl (upd wh jv.toNatClampNeg wv)))] H := hP
          have hD : va_D A [(o, .inr (7, [.int (0 : Int32), .int (nI n), .ref ml, .ref mm, .ref mw, .ref mc, .int (nI k), .ref mg, .ref md, .int so, .int fo, .ref mb, .long bb, .long bc, .ref mt, .long be, .ref mr, .int (nI rs), .ref mo, .int (nI rc), .ref mx, .ref mp, .ref nk, .ref na, .ref nv, .ref nf, .ref ns, .ref ne, .ref nw, .ref mf])), (ml, .inl (cI, 4, .inl (upd lo jv.toNatClampNeg lsv))), (mm, .inl (cI, 4, .inl (upd hi jv.toNatClampNeg msv))), (mw, .inl (cZ, 4, .inl (upd wh jv.toNatClampNeg wv)))] := hD
          refine lv_aload_n hx hb dd_Model_amount_108 rfl (lv_at hl 1 rfl) ?_
          refine lv_iconst (v := 0) hx hb dd_Model_amount_109 (by decide) ?_
          refine va_put (D := D) (ci := 7) (v := .int (0 : Int32)) (ty := .int) (C := RR_Model) (T := FF_Model) (N := 30) hx hb htb hi_Model tt_Model tt_Model_ok nn_Model hown hK hP hD hS 0 rfl rfl 9 (by decide) hf_86 (fun _ h9 => h9) rfl (by decide +kernel) (rfl) (rfl) (Nat.le_of_ble_eq_true rfl) dd_Model_amount_110 (fun H locs hP hD hS => ?_)
          have hP : va_P D kc_all [(o, .inr (7, [.int (0 : Int32), .int (nI n), .ref ml, .ref mm, .ref mw, .ref mc, .int (nI k), .ref mg, .ref md, .int (0 : Int32), .int fo, .ref mb, .long bb, .long bc, .ref mt, .long be, .ref mr, .int (nI rs), .ref mo, .int (nI rc), .ref mx, .ref mp, .ref nk, .ref na, .ref nv, .ref nf, .ref ns, .ref ne, .ref nw, .ref mf])), (ml, .inl (cI, 4, .inl (upd lo jv.toNatClampNeg lsv))), (mm, .inl (cI, 4, .inl (upd hi jv.toNatClampNeg msv))), (mw, .inl (cZ, 4, .inl (upd wh jv.toNatClampNeg wv)))] H := hP
          have hD : va_D A [(o, .inr (7, [.int (0 : Int32), .int (nI n), .ref ml, .ref mm, .ref mw, .ref mc, .int (nI k), .ref mg, .ref md, .int (0 : Int32), .int fo, .ref mb, .long bb, .long bc, .ref mt, .long be, .ref mr, .int (nI rs), .ref mo, .int (nI rc), .ref mx, .ref mp, .ref nk, .ref na, .ref nv, .ref nf, .ref ns, .ref ne, .ref nw, .ref mf])), (ml, .inl (cI, 4, .inl (upd lo jv.toNatClampNeg lsv))), (mm, .inl (cI, 4, .inl (upd hi jv.toNatClampNeg msv))), (mw, .inl (cZ, 4, .inl (upd wh jv.toNatClampNeg wv)))] := hD
          exact W.vret hx hb hr (fun t ht hW => ⟨⟨((0 : Int32), upd lo jv.toNatClampNeg lsv, upd hi jv.toNatClampNeg msv, upd wh jv.toNatClampNeg wv, (0 : Int32)), rfl, by first | exact (ci_n (tl_0 p56 h59)).symm | exact ((ci_t (tl_1 p56 h59)).trans (ci_n (tl_0 hg h68))).symm | exact ((ci_t (tl_1 p56 h59)).trans (ci_t (tl_1 hg h68))).symm, by rw [ht]; exact hP, va_K.moved hW.alike hK, hD⟩, hS.F ht⟩) hS.2.2 dd_Model_amount_113
    · skip
      refine lv_iconst (v := 1) hx hb dd_Model_amount_62 (by decide) ?_
      refine lv_goto (tgt := 76) hx hb dd_Model_amount_63 (by decide) ?_
      refine va_put (D := D) (ci := 7) (v := .int (1 : Int32)) (ty := .int) (C := RR_Model) (T := FF_Model) (N := 30) hx hb htb hi_Model tt_Model tt_Model_ok nn_Model hown hK hP hD hS 0 rfl rfl 0 (by decide) hf_76 (fun _ h9 => h9) rfl (by decide +kernel) (rfl) (rfl) (Nat.le_of_ble_eq_true rfl) dd_Model_amount_76 (fun H locs hP hD hS => ?_)
      have hP : va_P D kc_all [(o, .inr (7, [.int (1 : Int32), .int (nI n), .ref ml, .ref mm, .ref mw, .ref mc, .int (nI k), .ref mg, .ref md, .int so, .int fo, .ref mb, .long bb, .long bc, .ref mt, .long be, .ref mr, .int (nI rs), .ref mo, .int (nI rc), .ref mx, .ref mp, .ref nk, .ref na, .ref nv, .ref nf, .ref ns, .ref ne, .ref nw, .ref mf])), (ml, .inl (cI, 4, .inl lo)), (mm, .inl (cI, 4, .inl hi)), (mw, .inl (cZ, 4, .inl wh))] H := hP
      have hD : va_D A [(o, .inr (7, [.int (1 : Int32), .int (nI n), .ref ml, .ref mm, .ref mw, .ref mc, .int (nI k), .ref mg, .ref md, .int so, .int fo, .ref mb, .long bb, .long bc, .ref mt, .long be, .ref mr, .int (nI rs), .ref mo, .int (nI rc), .ref mx, .ref mp, .ref nk, .ref na, .ref nv, .ref nf, .ref ns, .ref ne, .ref nw, .ref mf])), (ml, .inl (cI, 4, .inl lo)), (mm, .inl (cI, 4, .inl hi)), (mw, .inl (cZ, 4, .inl wh))] := hD
      refine lv_aload_n hx hb dd_Model_amount_79 rfl (lv_at hl 1 rfl) ?_
      refine va_get (D := D) (ci := 7) (v := .int (1 : Int32)) (C := RR_Model) (T := FF_Model) (N := 30) hx hb htb hi_Model hown hK hP 0 rfl rfl 0 (by decide) hf_76 (fun _ h9 => h9) rfl dd_Model_amount_80 ?_
      refine lv_if_ne (tgt := 113) hx hb dd_Model_amount_83 (by decide) (fun h83 => ?_) (fun h83 => ?_)
      · skip
        have h83 : ¬ (1 = 0) := fun q9 => h83 ((nI_eq (a := 1) (b := 0) (by omega) (by omega)).mpr q9)
        exact W.vret hx hb hr (fun t ht hW => ⟨⟨((1 : Int32), lo, hi, wh, so), rfl, by first | exact (ci_n (tl_0 p56 h59)).symm | exact ((ci_t (tl_1 p56 h59)).trans (ci_n (tl_0 hg h68))).symm | exact ((ci_t (tl_1 p56 h59)).trans (ci_t (tl_1 hg h68))).symm, by rw [ht]; exact hP, va_K.moved hW.alike hK, hD⟩, hS.F ht⟩) hS.2.2 dd_Model_amount_113
      · skip
        have h83 : 1 = 0 := (nI_eq (a := 1) (b := 0) (by omega) (by omega)).mp h83
        omega
  refine lv_iload_n hx hb dd_Model_amount_0 rfl (lv_at hl 2 rfl) ?_
  refine lv_bipush (v := (-20)) hx hb dd_Model_amount_1 (by decide) ?_
  refine lv_bipush (v := 20) hx hb dd_Model_amount_3 (by decide) ?_
  refine mm_i (wc := []) (wr := [(o, .inr (7, [.int thr, .int (nI n), .ref ml, .ref mm, .ref mw, .ref mc, .int (nI k), .ref mg, .ref md, .int so, .int fo, .ref mb, .long bb, .long bc, .ref mt, .long be, .ref mr, .int (nI rs), .ref mo, .int (nI rc), .ref mx, .ref mp, .ref nk, .ref na, .ref nv, .ref nf, .ref ns, .ref ne, .ref nw, .ref mf])), (ml, .inl (cI, 4, .inl lo)), (mm, .inl (cI, 4, .inl hi)), (mw, .inl (cZ, 4, .inl wh))]) (va_runS (As := [.int lsv, .int (-20 : Int32), .int (20 : Int32)]) (rest := []) ⟨hx, hb, hml, hown, hts⟩ (cc_Model_isIn l D cI cZ cL cQ _ lsv (-20 : Int32) (20 : Int32) ) (mm_cwS 3 hts ml_Model_79 sm_Model_isIn ic_Model cd_Model_isIn rfl rfl (by decide +kernel) ⟨Nat.le_of_ble_eq_true rfl, Nat.le_of_ble_eq_true rfl⟩) (mm_preS hK hP hD [] (by decide) rfl) rfl rfl hl.1 rfl (lv_room (Nat.le_of_ble_eq_true rfl)) dd_Model_amount_5 ⟨Nat.zero_le _, Nat.zero_le _⟩) hP hD hS hA [] [0, 1, 2, 3] rfl rfl (by decide) (by decide) (fun zr3 zu4 H locs p5 hP hD hS => ?_)
  have hP : va_P D kc_all [(o, .inr (7, [.int thr, .int (nI n), .ref ml, .ref mm, .ref mw, .ref mc, .int (nI k), .ref mg, .ref md, .int so, .int fo, .ref mb, .long bb, .long bc, .ref mt, .long be, .ref mr, .int (nI rs), .ref mo, .int (nI rc), .ref mx, .ref mp, .ref nk, .ref na, .ref nv, .ref nf, .ref ns, .ref ne, .ref nw, .ref mf])), (ml, .inl (cI, 4, .inl lo)), (mm, .inl (cI, 4, .inl hi)), (mw, .inl (cZ, 4, .inl wh))] H := hP
  have hD : va_D A [(o, .inr (7, [.int thr, .int (nI n), .ref ml, .ref mm, .ref mw, .ref mc, .int (nI k), .ref mg, .ref md, .int so, .int fo, .ref mb, .long bb, .long bc, .ref mt, .long be, .ref mr, .int (nI rs), .ref mo, .int (nI rc), .ref mx, .ref mp, .ref nk, .ref na, .ref nv, .ref nf, .ref ns, .ref ne, .ref nw, .ref mf])), (ml, .inl (cI, 4, .inl lo)), (mm, .inl (cI, 4, .inl hi)), (mw, .inl (cZ, 4, .inl wh))] := hD
  have p5 : tl_ok (in_ok lsv (-20 : Int32) (20 : Int32)) zr3 := p5
  refine lv_if_eq (tgt := 44) hx hb dd_Model_amount_8 (by decide) (fun h8 => ?_) (fun h8 => ?_)
  · skip
    refine lv_iconst (v := 0) hx hb dd_Model_amount_44 (by decide) ?_
    exact J45 (0 : Int32) (by first | exact ag_1 p5 h8 | exact ag_2 p16 h19 | exact ag_3 h24 | exact ag_4 h29 h37 | exact ag_5 p5 h8 p16 h19 h24 h29 | exact ag_6 p5 h8 p16 h19 h24 h37) ls H locs (lv_sub hl [0, 1, 2, 3, 4] rfl) hP hD hS
  · skip
    refine lv_iload_n hx hb dd_Model_amount_11 rfl (lv_at hl 3 rfl) ?_
    refine lv_bipush (v := (-20)) hx hb dd_Model_amount_12 (by decide) ?_
    refine lv_bipush (v := 20) hx hb dd_Model_amount_14 (by decide) ?_
    refine mm_i (wc := []) (wr := [(o, .inr (7, [.int thr, .int (nI n), .ref ml, .ref mm, .ref mw, .ref mc, .int (nI k), .ref mg, .ref md, .int so, .int fo, .ref mb, .long bb, .long bc, .ref mt, .long be, .ref mr, .int (nI rs), .ref mo, .int (nI rc), .ref mx, .ref mp, .ref nk, .ref na, .ref nv, .ref nf, .ref ns, .ref ne, .ref nw, .ref mf])), (ml, .inl (cI, 4, .inl lo)), (mm, .inl (cI, 4, .inl hi)), (mw, .inl (cZ, 4, .inl wh))]) (va_runS (As := [.int msv, .int (-20 : Int32), .int (20 : Int32)]) (rest := []) ⟨hx, hb, hml, hown, hts⟩ (cc_Model_isIn l D cI cZ cL cQ _ msv (-20 : Int32) (20 : Int32) ) (mm_cwS 3 hts ml_Model_79 sm_Model_isIn ic_Model cd_Model_isIn rfl rfl (by decide +kernel) ⟨Nat.le_of_ble_eq_true rfl, Nat.le_of_ble_eq_true rfl⟩) (mm_preS hK hP hD [] (by decide) rfl) rfl rfl hl.1 rfl (lv_room (Nat.le_of_ble_eq_true rfl)) dd_Model_amount_16 ⟨Nat.zero_le _, Nat.zero_le _⟩) hP hD hS hA [] [0, 1, 2, 3] rfl rfl (by decide) (by decide) (fun zr5 zu6 H locs p16 hP hD hS => ?_)
    have hP : va_P D kc_all [(o, .inr (7, [.int thr, .int (nI n), .ref ml, .ref mm, .ref mw, .ref mc, .int (nI k), .ref mg, .ref md, .int so, .int fo, .ref mb, .long bb, .long bc, .ref mt, .long be, .ref mr, .int (nI rs), .ref mo, .int (nI rc), .ref mx, .ref mp, .ref nk, .ref na, .ref nv, .ref nf, .ref ns, .ref ne, .ref nw, .ref mf])), (ml, .inl (cI, 4, .inl lo)), (mm, .inl (cI, 4, .inl hi)), (mw, .inl (cZ, 4, .inl wh))] H := hP
    have hD : va_D A [(o, .inr (7, [.int thr, .int (nI n), .ref ml, .ref mm, .ref mw, .ref mc, .int (nI k), .ref mg, .ref md, .int so, .int fo, .ref mb, .long bb, .long bc, .ref mt, .long be, .ref mr, .int (nI rs), .ref mo, .int (nI rc), .ref mx, .ref mp, .ref nk, .ref na, .ref nv, .ref nf, .ref ns, .ref ne, .ref nw, .ref mf])), (ml, .inl (cI, 4, .inl lo)), (mm, .inl (cI, 4, .inl hi)), (mw, .inl (cZ, 4, .inl wh))] := hD
    have p16 : tl_ok (in_ok msv (-20 : Int32) (20 : Int32)) zr5 := p16
    refine lv_if_eq (tgt := 44) hx hb dd_Model_amount_19 (by decide) (fun h19 => ?_) (fun h19 => ?_)
    · skip
      refine lv_iconst (v := 0) hx hb dd_Model_amount_44 (by decide) ?_
      exact J45 (0 : Int32) (by first | exact ag_1 p5 h8 | exact ag_2 p16 h19 | exact ag_3 h24 | exact ag_4 h29 h37 | exact ag_5 p5 h8 p16 h19 h24 h29 | exact ag_6 p5 h8 p16 h19 h24 h37) ls H locs (lv_sub hl [0, 1, 2, 3, 4] rfl) hP hD hS
    · skip
      refine lv_iload_n hx hb dd_Model_amount_22 rfl (lv_at hl 2 rfl) ?_
      refine lv_iload_n hx hb dd_Model_amount_23 rfl (lv_at hl 3 rfl) ?_
      refine lv_icmp_gt (tgt := 44) hx hb dd_Model_amount_24 (by decide) (fun h24 => ?_) (fun h24 => ?_)
      · skip
        refine lv_iconst (v := 0) hx hb dd_Model_amount_44 (by decide) ?_
        exact J45 (0 : Int32) (by first | exact ag_1 p5 h8 | exact ag_2 p16 h19 | exact ag_3 h24 | exact ag_4 h29 h37 | exact ag_5 p5 h8 p16 h19 h24 h29 | exact ag_6 p5 h8 p16 h19 h24 h37) ls H locs (lv_sub hl [0, 1, 2, 3, 4] rfl) hP hD hS
      · skip
        refine lv_iload hx hb dd_Model_amount_27 (lv_at hl 4 rfl) ?_
        refine lv_if_eq (tgt := 40) hx hb dd_Model_amount_29 (by decide) (fun h29 => ?_) (fun h29 => ?_)
        · skip
          refine lv_iconst (v := 1) hx hb dd_Model_amount_40 (by decide) ?_
          refine lv_goto (tgt := 45) hx hb dd_Model_amount_41 (by decide) ?_
          exact J45 (1 : Int32) (by first | exact ag_1 p5 h8 | exact ag_2 p16 h19 | exact ag_3 h24 | exact ag_4 h29 h37 | exact ag_5 p5 h8 p16 h19 h24 h29 | exact ag_6 p5 h8 p16 h19 h24 h37) ls H locs (lv_sub hl [0, 1, 2, 3, 4] rfl) hP hD hS
        · skip
          refine lv_iload_n hx hb dd_Model_amount_32 rfl (lv_at hl 3 rfl) ?_
          refine lv_iload_n hx hb dd_Model_amount_33 rfl (lv_at hl 2 rfl) ?_
          refine lv_isub hx hb dd_Model_amount_34 ?_
          refine lv_bipush (v := 8) hx hb dd_Model_amount_35 (by decide) ?_
          refine lv_icmp_gt (tgt := 44) hx hb dd_Model_amount_37 (by decide) (fun h37 => ?_) (fun h37 => ?_)
          · skip
            refine lv_iconst (v := 0) hx hb dd_Model_amount_44 (by decide) ?_
            exact J45 (0 : Int32) (by first | exact ag_1 p5 h8 | exact ag_2 p16 h19 | exact ag_3 h24 | exact ag_4 h29 h37 | exact ag_5 p5 h8 p16 h19 h24 h29 | exact ag_6 p5 h8 p16 h19 h24 h37) ls H locs (lv_sub hl [0, 1, 2, 3, 4] rfl) hP hD hS
          · skip
            refine lv_iconst (v := 1) hx hb dd_Model_amount_40 (by decide) ?_
            refine lv_goto (tgt := 45) hx hb dd_Model_amount_41 (by decide) ?_
            exact J45 (1 : Int32) (by first | exact ag_1 p5 h8 | exact ag_2 p16 h19 | exact ag_3 h24 | exact ag_4 h29 h37 | exact ag_5 p5 h8 p16 h19 h24 h29 | exact ag_6 p5 h8 p16 h19 h24 h37) ls H locs (lv_sub hl [0, 1, 2, 3, 4] rfl) hP hD hS
abbrev qq_Model_cost (D : va_G) (cI cZ cL cQ : ClassId) (o : Nat) (ml : Nat) (mm : Nat) (mw : Nat) (mc : Nat) (mg : Nat) (md : Nat) (mb : Nat) (mt : Nat) (mr : Nat) (mo : Nat) (mx : Nat) (mp : Nat) (nk : Nat) (na : Nat) (nv : Nat) (nf : Nat) (ns : Nat) (ne : Nat) (nw : Nat) (mf : Nat) (thr : Int32) (n : Nat) (k : Nat) (so : Int32) (fo : Int32) (bb : Int64) (bc : Int64) (be : Int64) (rs : Nat) (rc : Nat) (jv : Int32) (cv : Int32) (co : Nat → Int32) (A : Nat → Prop) : Array Value → State → Outcome → State → Prop := va_Qv (fun u : cs_T => u = cs_f n jv cv co so) (fun (u : cs_T) t => mm_B D kc_all [(cI, .int), (cZ, .boolean), (cL, .long), (cQ, .array .int)] A [(o, .inr (7, [.int u.1, .int (nI n), .ref ml, .ref mm, .ref mw, .ref mc, .int (nI k), .ref mg, .ref md, .int u.2.2, .int fo, .ref mb, .long bb, .long bc, .ref mt, .long be, .ref mr, .int (nI rs), .ref mo, .int (nI rc), .ref mx, .ref mp, .ref nk, .ref na, .ref nv, .ref nf, .ref ns, .ref ne, .ref nw, .ref mf])), (mc, .inl (cI, 4, .inl u.2.1))] t) A
set_option maxHeartbeats 4000000 in
set_option maxRecDepth 100000 in
theorem cc_Model_cost (l : Launch) (D : va_G) (cI cZ cL cQ : ClassId) (sz : Nat) (o : Nat) (ml : Nat) (mm : Nat) (mw : Nat) (mc : Nat) (mg : Nat) (md : Nat) (mb : Nat) (mt : Nat) (mr : Nat) (mo : Nat) (mx : Nat) (mp : Nat) (nk : Nat) (na : Nat) (nv : Nat) (nf : Nat) (ns : Nat) (ne : Nat) (nw : Nat) (mf : Nat) (thr : Int32) (n : Nat) (k : Nat) (so : Int32) (fo : Int32) (bb : Int64) (bc : Int64) (be : Int64) (rs : Nat) (rc : Nat) (jv : Int32) (cv : Int32) (co : Nat → Int32) (hn : 1 ≤ n ∧ n ≤ 4) : Met l yy_Model_cost ww_Model_cost ({ frames := 1, cells := 0, slots := 0, locals := 22 } : Room) (mm_Pc D kc_all [(cI, .int), (cZ, .boolean), (cL, .long), (cQ, .array .int)] sz [(o, .inr (7, [.int thr, .int (nI n), .ref ml, .ref mm, .ref mw, .ref mc, .int (nI k), .ref mg, .ref md, .int so, .int fo, .ref mb, .long bb, .long bc, .ref mt, .long be, .ref mr, .int (nI rs), .ref mo, .int (nI rc), .ref mx, .ref mp, .ref nk, .ref na, .ref nv, .ref nf, .ref ns, .ref ne, .ref nw, .ref mf])), (mc, .inl (cI, 4, .inl co))] [.ref o, .int jv, .int cv]) (qq_Model_cost D cI cZ cL cQ o ml mm mw mc mg md mb mt mr mo mx mp nk na nv nf ns ne nw mf thr n k so fo bb bc be rs rc jv cv co (va_A [(o, .inr (7, [.int thr, .int (nI n), .ref ml, .ref mm, .ref mw, .ref mc, .int (nI k), .ref mg, .ref md, .int so, .int fo, .ref mb, .long bb, .long bc, .ref mt, .long be, .ref mr, .int (nI rs), .ref mo, .int (nI rc), .ref mx, .ref mp, .ref nk, .ref na, .ref nv, .ref nf, .ref ns, .ref ne, .ref nw, .ref mf])), (mc, .inl (cI, 4, .inl co))] sz)) 0 0 (va_A [(o, .inr (7, [.int thr, .int (nI n), .ref ml, .ref mm, .ref mw, .ref mc, .int (nI k), .ref mg, .ref md, .int so, .int fo, .ref mb, .long bb, .long bc, .ref mt, .long be, .ref mr, .int (nI rs), .ref mo, .int (nI rc), .ref mx, .ref mp, .ref nk, .ref na, .ref nv, .ref nf, .ref ns, .ref ne, .ref nw, .ref mf])), (mc, .inl (cI, 4, .inl co))] sz) := by
  refine Met.ofW (cc := bb_Model_cost) (maxL := 3) (ret := none) (by decide) rfl ?_
  intro p e s m args below meth c s₁ B hml hv
  obtain ⟨rfl, hsz, hP, hK, hD0⟩ := hv
  have hx := B.exec
  have hb := B.bytes
  have hr := B.returns
  have hts := atoms_spec (ws := ww_Model_cost) B.pre
  have hown : s.vm.findClass RR_Model = some m.cls := findClass_of_methodNamed B.named
  have hlocks := B.notSynchronized
  subst hsz
  have hD := hD0.self (sz := s.heap.size)
  generalize hAe : va_A [(o, .inr (7, [.int thr, .int (nI n), .ref ml, .ref mm, .ref mw, .ref mc, .int (nI k), .ref mg, .ref md, .int so, .int fo, .ref mb, .long bb, .long bc, .ref mt, .long be, .ref mr, .int (nI rs), .ref mo, .int (nI rc), .ref mx, .ref mp, .ref nk, .ref na, .ref nv, .ref nf, .ref ns, .ref ne, .ref nw, .ref mf])), (mc, .inl (cI, 4, .inl co))] s.heap.size = A at hD ⊢
  have hA : ∀ q : Nat, s.heap.size ≤ q → A q := fun q h => by rw [← hAe]; exact Or.inr h
  have hS : va_S A s.heap s.heap [] := va_S.rf
  have hP : va_P D kc_all [(o, .inr (7, [.int thr, .int (nI n), .ref ml, .ref mm, .ref mw, .ref mc, .int (nI k), .ref mg, .ref md, .int so, .int fo, .ref mb, .long bb, .long bc, .ref mt, .long be, .ref mr, .int (nI rs), .ref mo, .int (nI rc), .ref mx, .ref mp, .ref nk, .ref na, .ref nv, .ref nf, .ref ns, .ref ne, .ref nw, .ref mf])), (mc, .inl (cI, 4, .inl co))] s.heap := hP
  have hl := lv_entry ([.ref o, .int jv, .int cv]) (n := 3) (Nat.le_of_ble_eq_true rfl)
  rw [lg_entry_eq]
  generalize (lg_sl ([.ref o, .int jv, .int cv]) ++ List.replicate (3 - (lg_sl ([.ref o, .int jv, .int cv])).length) Slot.unset).toArray = ls at hl ⊢
  have hl : lv_has ls 3 [(0, .ref o), (1, .int jv), (2, .int cv)] := hl
  have htb : ∀ w ∈ tb_all, w.before ([.ref o, .int jv, .int cv]).toArray s = true := fun w h => hts w (List.mem_cons_of_mem _ h)
  have hf_7 := htb _ fl_Model_7
  have hf_24 := htb _ fl_Model_24
  have hf_76 := htb _ fl_Model_76
  have hf_86 := htb _ fl_Model_86
  refine lv_aload_n hx hb dd_Model_cost_0 rfl (lv_at hl 0 rfl) ?_
  refine lv_iload_n hx hb dd_Model_cost_1 rfl (lv_at hl 1 rfl) ?_
  refine lv_iconst (v := 0) hx hb dd_Model_cost_2 (by decide) ?_
  refine lv_aload_n hx hb dd_Model_cost_3 rfl (lv_at hl 0 rfl) ?_
  refine va_get (D := D) (ci := 7) (v := .int (nI n)) (C := RR_Model) (T := FF_Model) (N := 30) hx hb htb hi_Model hown hK hP 0 rfl rfl 1 (by decide) hf_7 (fun _ h9 => h9) rfl dd_Model_cost_4 ?_
  refine lv_iconst (v := 1) hx hb dd_Model_cost_7 (by decide) ?_
  refine lv_isub hx hb dd_Model_cost_8 ?_
  refine mm_topi (y := nI (n - 1)) (pk_sub (a := n) (b := 1) (by omega)) ?_
  refine mm_i (wc := []) (wr := [(o, .inr (7, [.int thr, .int (nI n), .ref ml, .ref mm, .ref mw, .ref mc, .int (nI k), .ref mg, .ref md, .int so, .int fo, .ref mb, .long bb, .long bc, .ref mt, .long be, .ref mr, .int (nI rs), .ref mo, .int (nI rc), .ref mx, .ref mp, .ref nk, .ref na, .ref nv, .ref nf, .ref ns, .ref ne, .ref nw, .ref mf])), (mc, .inl (cI, 4, .inl co))]) (va_runS (As := [.int jv, .int (0 : Int32), .int (nI (n - 1))]) (rest := [.ref o]) ⟨hx, hb, hml, hown, hts⟩ (cc_Model_isIn l D cI cZ cL cQ _ jv (0 : Int32) (nI (n - 1)) ) (mm_cwS 3 hts ml_Model_79 sm_Model_isIn ic_Model cd_Model_isIn rfl rfl (by decide +kernel) ⟨Nat.le_of_ble_eq_true rfl, Nat.le_of_ble_eq_true rfl⟩) (mm_preS hK hP hD [] (by decide) rfl) rfl rfl hl.1 rfl (lv_room (Nat.le_of_ble_eq_true rfl)) dd_Model_cost_9 ⟨Nat.zero_le _, Nat.zero_le _⟩) hP hD hS hA [] [0, 1] rfl rfl (by decide) (by decide) (fun zr1 zu2 H locs p9 hP hD hS => ?_)
  have hP : va_P D kc_all [(o, .inr (7, [.int thr, .int (nI n), .ref ml, .ref mm, .ref mw, .ref mc, .int (nI k), .ref mg, .ref md, .int so, .int fo, .ref mb, .long bb, .long bc, .ref mt, .long be, .ref mr, .int (nI rs), .ref mo, .int (nI rc), .ref mx, .ref mp, .ref nk, .ref na, .ref nv, .ref nf, .ref ns, .ref ne, .ref nw, .ref mf])), (mc, .inl (cI, 4, .inl co))] H := hP
  have hD : va_D A [(o, .inr (7, [.int thr, .int (nI n), .ref ml, .ref mm, .ref mw, .ref mc, .int (nI k), .ref mg, .ref md, .int so, .int fo, .ref mb, .long bb, .long bc, .ref mt, .long be, .ref mr, .int (nI rs), .ref mo, .int (nI rc), .ref mx, .ref mp, .ref nk, .ref na, .ref nv, .ref nf, .ref ns, .ref ne, .ref nw, .ref mf])), (mc, .inl (cI, 4, .inl co))] := hD
  have p9 : tl_ok (in_ok jv (0 : Int32) (nI (n - 1))) zr1 := p9
  refine lv_if_ne (tgt := 19) hx hb dd_Model_cost_12 (by decide) (fun h12 => ?_) (fun h12 => ?_)
  · skip
    refine lv_iload_n hx hb dd_Model_cost_19 rfl (lv_at hl 2 rfl) ?_
    refine lv_bipush (v := (-9)) hx hb dd_Model_cost_20 (by decide) ?_
    refine lv_bipush (v := 9) hx hb dd_Model_cost_22 (by decide) ?_
    refine mm_i (wc := []) (wr := [(o, .inr (7, [.int thr, .int (nI n), .ref ml, .ref mm, .ref mw, .ref mc, .int (nI k), .ref mg, .ref md, .int so, .int fo, .ref mb, .long bb, .long bc, .ref mt, .long be, .ref mr, .int (nI rs), .ref mo, .int (nI rc), .ref mx, .ref mp, .ref nk, .ref na, .ref nv, .ref nf, .ref ns, .ref ne, .ref nw, .ref mf])), (mc, .inl (cI, 4, .inl co))]) (va_runS (As := [.int cv, .int (-9 : Int32), .int (9 : Int32)]) (rest := [.ref o]) ⟨hx, hb, hml, hown, hts⟩ (cc_Model_isIn l D cI cZ cL cQ _ cv (-9 : Int32) (9 : Int32) ) (mm_cwS 3 hts ml_Model_79 sm_Model_isIn ic_Model cd_Model_isIn rfl rfl (by decide +kernel) ⟨Nat.le_of_ble_eq_true rfl, Nat.le_of_ble_eq_true rfl⟩) (mm_preS hK hP hD [] (by decide) rfl) rfl rfl hl.1 rfl (lv_room (Nat.le_of_ble_eq_true rfl)) dd_Model_cost_24 ⟨Nat.zero_le _, Nat.zero_le _⟩) hP hD hS hA [] [0, 1] rfl rfl (by decide) (by decide) (fun zr3 zu4 H locs p24 hP hD hS => ?_)
    have hP : va_P D kc_all [(o, .inr (7, [.int thr, .int (nI n), .ref ml, .ref mm, .ref mw, .ref mc, .int (nI k), .ref mg, .ref md, .int so, .int fo, .ref mb, .long bb, .long bc, .ref mt, .long be, .ref mr, .int (nI rs), .ref mo, .int (nI rc), .ref mx, .ref mp, .ref nk, .ref na, .ref nv, .ref nf, .ref ns, .ref ne, .ref nw, .ref mf])), (mc, .inl (cI, 4, .inl co))] H := hP
    have hD : va_D A [(o, .inr (7, [.int thr, .int (nI n), .ref ml, .ref mm, .ref mw, .ref mc, .int (nI k), .ref mg, .ref md, .int so, .int fo, .ref mb, .long bb, .long bc, .ref mt, .long be, .ref mr, .int (nI rs), .ref mo, .int (nI rc), .ref mx, .ref mp, .ref nk, .ref na, .ref nv, .ref nf, .ref ns, .ref ne, .ref nw, .ref mf])), (mc, .inl (cI, 4, .inl co))] := hD
    have p24 : tl_ok (in_ok cv (-9 : Int32) (9 : Int32)) zr3 := p24
    refine lv_if_eq (tgt := 34) hx hb dd_Model_cost_27 (by decide) (fun h27 => ?_) (fun h27 => ?_)
    · skip
      refine lv_iconst (v := 2) hx hb dd_Model_cost_34 (by decide) ?_
      refine va_put (D := D) (ci := 7) (v := .int (2 : Int32)) (ty := .int) (C := RR_Model) (T := FF_Model) (N := 30) hx hb htb hi_Model tt_Model tt_Model_ok nn_Model hown hK hP hD hS 0 rfl rfl 0 (by decide) hf_76 (fun _ h9 => h9) rfl (by decide +kernel) (rfl) (rfl) (Nat.le_of_ble_eq_true rfl) dd_Model_cost_35 (fun H locs hP hD hS => ?_)
      have hP : va_P D kc_all [(o, .inr (7, [.int (2 : Int32), .int (nI n), .ref ml, .ref mm, .ref mw, .ref mc, .int (nI k), .ref mg, .ref md, .int so, .int fo, .ref mb, .long bb, .long bc, .ref mt, .long be, .ref mr, .int (nI rs), .ref mo, .int (nI rc), .ref mx, .ref mp, .ref nk, .ref na, .ref nv, .ref nf, .ref ns, .ref ne, .ref nw, .ref mf])), (mc, .inl (cI, 4, .inl co))] H := hP
      have hD : va_D A [(o, .inr (7, [.int (2 : Int32), .int (nI n), .ref ml, .ref mm, .ref mw, .ref mc, .int (nI k), .ref mg, .ref md, .int so, .int fo, .ref mb, .long bb, .long bc, .ref mt, .long be, .ref mr, .int (nI rs), .ref mo, .int (nI rc), .ref mx, .ref mp, .ref nk, .ref na, .ref nv, .ref nf, .ref ns, .ref ne, .ref nw, .ref mf])), (mc, .inl (cI, 4, .inl co))] := hD
      refine lv_aload_n hx hb dd_Model_cost_38 rfl (lv_at hl 0 rfl) ?_
      refine va_get (D := D) (ci := 7) (v := .int (2 : Int32)) (C := RR_Model) (T := FF_Model) (N := 30) hx hb htb hi_Model hown hK hP 0 rfl rfl 0 (by decide) hf_76 (fun _ h9 => h9) rfl dd_Model_cost_39 ?_
      refine lv_if_ne (tgt := 57) hx hb dd_Model_cost_42 (by decide) (fun h42 => ?_) (fun h42 => ?_)
      · skip
        have h42 : ¬ (2 = 0) := fun q9 => h42 ((nI_eq (a := 2) (b := 0) (by omega) (by omega)).mpr q9)
        exact W.vret hx hb hr (fun t ht hW => ⟨⟨((2 : Int32), co, so), rfl, by first | exact (ci_n (tl_0 p9 h12)).symm | exact ((ci_t (tl_1 p9 h12)).trans (ci_n (tl_0 p24 h27))).symm | exact ((ci_t (tl_1 p9 h12)).trans (ci_t (tl_1 p24 h27))).symm, by rw [ht]; exact hP, va_K.moved hW.alike hK, hD⟩, hS.F ht⟩) hS.2.2 dd_Model_cost_57
      · skip
        have h42 : 2 = 0 := (nI_eq (a := 2) (b := 0) (by omega) (by omega)).mp h42
        omega
    · skip
      refine lv_iconst (v := 0) hx hb dd_Model_cost_30 (by decide) ?_
      refine lv_goto (tgt := 35) hx hb dd_Model_cost_31 (by decide) ?_
      refine va_put (D := D) (ci := 7) (v := .int (0 : Int32)) (ty := .int) (C := RR_Model) (T := FF_Model) (N := 30) hx hb htb hi_Model tt_Model tt_Model_ok nn_Model hown hK hP hD hS 0 rfl rfl 0 (by decide) hf_76 (fun _ h9 => h9) rfl (by decide +kernel) (rfl) (rfl) (Nat.le_of_ble_eq_true rfl) dd_Model_cost_35 (fun H locs hP hD hS => ?_)
      have hP : va_P D kc_all [(o, .inr (7, [.int (0 : Int32), .int (nI n), .ref ml, .ref mm, .ref mw, .ref mc, .int (nI k), .ref mg, .ref md, .int so, .int fo, .ref mb, .long bb, .long bc, .ref mt, .long be, .ref mr, .int (nI rs), .ref mo, .int (nI rc), .ref mx, .ref mp, .ref nk, .ref na, .ref nv, .ref nf, .ref ns, .ref ne, .ref nw, .ref mf])), (mc, .inl (cI, 4, .inl co))] H := hP
      have hD : va_D A [(o, .inr (7, [.int (0 : Int32), .int (nI n), .ref ml, .ref mm, .ref mw, .ref mc, .int (nI k), .ref mg, .ref md, .int so, .int fo, .ref mb, .long bb, .long bc, .ref mt, .long be, .ref mr, .int (nI rs), .ref mo, .int (nI rc), .ref mx, .ref mp, .ref nk, .ref na, .ref nv, .ref nf, .ref ns, .ref ne, .ref nw, .ref mf])), (mc, .inl (cI, 4, .inl co))] := hD
      refine lv_aload_n hx hb dd_Model_cost_38 rfl (lv_at hl 0 rfl) ?_
      refine va_get (D := D) (ci := 7) (v := .int (0 : Int32)) (C := RR_Model) (T := FF_Model) (N := 30) hx hb htb hi_Model hown hK hP 0 rfl rfl 0 (by decide) hf_76 (fun _ h9 => h9) rfl dd_Model_cost_39 ?_
      refine lv_if_ne (tgt := 57) hx hb dd_Model_cost_42 (by decide) (fun h42 => ?_) (fun h42 => ?_)
      · skip
        have h42 : ¬ (0 = 0) := fun q9 => h42 ((nI_eq (a := 0) (b := 0) (by omega) (by omega)).mpr q9)
        omega
      · skip
        have h42 : 0 = 0 := (nI_eq (a := 0) (b := 0) (by omega) (by omega)).mp h42
        have hjn := in_nat (n := n - 1) (by omega) (tl_1 p9 h12)
        refine lv_aload_n hx hb dd_Model_cost_45 rfl (lv_at hl 0 rfl) ?_
        refine va_get (D := D) (ci := 7) (v := .ref mc) (C := RR_Model) (T := FF_Model) (N := 30) hx hb htb hi_Model hown hK hP 0 rfl rfl 5 (by decide) hf_24 (fun _ h9 => h9) rfl dd_Model_cost_46 ?_
        refine lv_iload_n hx hb dd_Model_cost_49 rfl (lv_at hl 1 rfl) ?_
        refine lv_iload_n hx hb dd_Model_cost_50 rfl (lv_at hl 2 rfl) ?_
        refine mm_iast hx hb hK hP hD hS 1 0 rfl rfl (jv.toNatClampNeg) (hjn.1) (by omega) (by first | decide | omega) dd_Model_cost_51 (fun H locs hP hD hS => ?_)
        have hP : va_P D kc_all [(o, .inr (7, [.int (0 : Int32), .int (nI n), .ref ml, .ref mm, .ref mw, .ref mc, .int (nI k), .ref mg, .ref md, .int so, .int fo, .ref mb, .long bb, .long bc, .ref mt, .long be, .ref mr, .int (nI rs), .ref mo, .int (nI rc), .ref mx, .ref mp, .ref nk, .ref na, .ref nv, .ref nf, .ref ns, .ref ne, .ref nw, .ref mf])), (mc, .inl (cI, 4, .inl (upd co jv.toNatClampNeg cv)))] H := hP
        have hD : va_D A [(o, .inr (7, [.int (0 : Int32), .int (nI n), .ref ml, .ref mm, .ref mw, .ref mc, .int (nI k), .ref mg, .ref md, .int so, .int fo, .ref mb, .long bb, .long bc, .ref mt, .long be, .ref mr, .int (nI rs), .ref mo, .int (nI rc), .ref mx, .ref mp, .ref nk, .ref na, .ref nv, .ref nf, .ref ns, .ref ne, .ref nw, .ref mf])), (mc, .inl (cI, 4, .inl (upd co jv.toNatClampNeg cv)))] := hD
        refine lv_aload_n hx hb dd_Model_cost_52 rfl (lv_at hl 0 rfl) ?_
        refine lv_iconst (v := 0) hx hb dd_Model_cost_53 (by decide) ?_
        refine va_put (D := D) (ci := 7) (v := .int (0 : Int32)) (ty := .int) (C := RR_Model) (T := FF_Model) (N := 30) hx hb htb hi_Model tt_Model tt_Model_ok nn_Model hown hK hP hD hS 0 rfl rfl 9 (by decide) hf_86 (fun _ h9 => h9) rfl (by decide +kernel) (rfl) (rfl) (Nat.le_of_ble_eq_true rfl) dd_Model_cost_54 (fun H locs hP hD hS => ?_)
        have hP : va_P D kc_all [(o, .inr (7, [.int (0 : Int32), .int (nI n), .ref ml, .ref mm, .ref mw, .ref mc, .int (nI k), .ref mg, .ref md, .int (0 : Int32), .int fo, .ref mb, .long bb, .long bc, .ref mt, .long be, .ref mr, .int (nI rs), .ref mo, .int (nI rc), .ref mx, .ref mp, .ref nk, .ref na, .ref nv, .ref nf, .ref ns, .ref ne, .ref nw, .ref mf])), (mc, .inl (cI, 4, .inl (upd co jv.toNatClampNeg cv)))] H := hP
        have hD : va_D A [(o, .inr (7, [.int (0 : Int32), .int (nI n), .ref ml, .ref mm, .ref mw, .ref mc, .int (nI k), .ref mg, .ref md, .int (0 : Int32), .int fo, .ref mb, .long bb, .long bc, .ref mt, .long be, .ref mr, .int (nI rs), .ref mo, .int (nI rc), .ref mx, .ref mp, .ref nk, .ref na, .ref nv, .ref nf, .ref ns, .ref ne, .ref nw, .ref mf])), (mc, .inl (cI, 4, .inl (upd co jv.toNatClampNeg cv)))] := hD
        exact W.vret hx hb hr (fun t ht hW => ⟨⟨((0 : Int32), upd co jv.toNatClampNeg cv, (0 : Int32)), rfl, by first | exact (ci_n (tl_0 p9 h12)).symm | exact ((ci_t (tl_1 p9 h12)).trans (ci_n (tl_0 p24 h27))).symm | exact ((ci_t (tl_1 p9 h12)).trans (ci_t (tl_1 p24 h27))).symm, by rw [ht]; exact hP, va_K.moved hW.alike hK, hD⟩, hS.F ht⟩) hS.2.2 dd_Model_cost_57
  · skip
    refine lv_iconst (v := 1) hx hb dd_Model_cost_15 (by decide) ?_
    refine lv_goto (tgt := 35) hx hb dd_Model_cost_16 (by decide) ?_
    refine va_put (D := D) (ci := 7) (v := .int (1 : Int32)) (ty := .int) (C := RR_Model) (T := FF_Model) (N := 30) hx hb htb hi_Model tt_Model tt_Model_ok nn_Model hown hK hP hD hS 0 rfl rfl 0 (by decide) hf_76 (fun _ h9 => h9) rfl (by decide +kernel) (rfl) (rfl) (Nat.le_of_ble_eq_true rfl) dd_Model_cost_35 (fun H locs hP hD hS => ?_)
    have hP : va_P D kc_all [(o, .inr (7, [.int (1 : Int32), .int (nI n), .ref ml, .ref mm, .ref mw, .ref mc, .int (nI k), .ref mg, .ref md, .int so, .int fo, .ref mb, .long bb, .long bc, .ref mt, .long be, .ref mr, .int (nI rs), .ref mo, .int (nI rc), .ref mx, .ref mp, .ref nk, .ref na, .ref nv, .ref nf, .ref ns, .ref ne, .ref nw, .ref mf])), (mc, .inl (cI, 4, .inl co))] H := hP
    have hD : va_D A [(o, .inr (7, [.int (1 : Int32), .int (nI n), .ref ml, .ref mm, .ref mw, .ref mc, .int (nI k), .ref mg, .ref md, .int so, .int fo, .ref mb, .long bb, .long bc, .ref mt, .long be, .ref mr, .int (nI rs), .ref mo, .int (nI rc), .ref mx, .ref mp, .ref nk, .ref na, .ref nv, .ref nf, .ref ns, .ref ne, .ref nw, .ref mf])), (mc, .inl (cI, 4, .inl co))] := hD
    refine lv_aload_n hx hb dd_Model_cost_38 rfl (lv_at hl 0 rfl) ?_
    refine va_get (D := D) (ci := 7) (v := .int (1 : Int32)) (C := RR_Model) (T := FF_Model) (N := 30) hx hb htb hi_Model hown hK hP 0 rfl rfl 0 (by decide) hf_76 (fun _ h9 => h9) rfl dd_Model_cost_39 ?_
    refine lv_if_ne (tgt := 57) hx hb dd_Model_cost_42 (by decide) (fun h42 => ?_) (fun h42 => ?_)
    · skip
      have h42 : ¬ (1 = 0) := fun q9 => h42 ((nI_eq (a := 1) (b := 0) (by omega) (by omega)).mpr q9)
      exact W.vret hx hb hr (fun t ht hW => ⟨⟨((1 : Int32), co, so), rfl, by first | exact (ci_n (tl_0 p9 h12)).symm | exact ((ci_t (tl_1 p9 h12)).trans (ci_n (tl_0 p24 h27))).symm | exact ((ci_t (tl_1 p9 h12)).trans (ci_t (tl_1 p24 h27))).symm, by rw [ht]; exact hP, va_K.moved hW.alike hK, hD⟩, hS.F ht⟩) hS.2.2 dd_Model_cost_57
    · skip
      have h42 : 1 = 0 := (nI_eq (a := 1) (b := 0) (by omega) (by omega)).mp h42
      omega
abbrev qq_Model_limit (D : va_G) (cI cZ cL cQ : ClassId) (o : Nat) (ml : Nat) (mm : Nat) (mw : Nat) (mc : Nat) (mg : Nat) (md : Nat) (mb : Nat) (mt : Nat) (mr : Nat) (mo : Nat) (mx : Nat) (mp : Nat) (nk : Nat) (na : Nat) (nv : Nat) (nf : Nat) (ns : Nat) (ne : Nat) (nw : Nat) (mf : Nat) (thr : Int32) (n : Nat) (k : Nat) (so : Int32) (fo : Int32) (bb : Int64) (bc : Int64) (be : Int64) (rs : Nat) (rc : Nat) (x0 : Int32) (x1 : Int32) (x2 : Int32) (x3 : Int32) (bo : Int32) (wt : Nat → Int32) (bd : Nat → Int32) (A : Nat → Prop) : Array Value → State → Outcome → State → Prop := va_Qi (fun (r : Int32) (u : Unit) => r = nI k) (fun (u : Unit) t => mm_B D kc_all [(cI, .int), (cZ, .boolean), (cL, .long), (cQ, .array .int)] A [(o, .inr (7, [.int 0, .int (nI n), .ref ml, .ref mm, .ref mw, .ref mc, .int (nI (k + 1)), .ref mg, .ref md, .int 0, .int fo, .ref mb, .long bb, .long bc, .ref mt, .long be, .ref mr, .int (nI rs), .ref mo, .int (nI rc), .ref mx, .ref mp, .ref nk, .ref na, .ref nv, .ref nf, .ref ns, .ref ne, .ref nw, .ref mf])), (mg, .inl (cI, 24, .inl (lm_w wt k x0 x1 x2 x3 4))), (md, .inl (cI, 6, .inl (upd bd k bo)))] t) A
set_option maxHeartbeats 4000000 in
set_option maxRecDepth 100000 in
theorem cc_Model_limit (l : Launch) (D : va_G) (cI cZ cL cQ : ClassId) (sz : Nat) (o : Nat) (ml : Nat) (mm : Nat) (mw : Nat) (mc : Nat) (mg : Nat) (md : Nat) (mb : Nat) (mt : Nat) (mr : Nat) (mo : Nat) (mx : Nat) (mp : Nat) (nk : Nat) (na : Nat) (nv : Nat) (nf : Nat) (ns : Nat) (ne : Nat) (nw : Nat) (mf : Nat) (thr : Int32) (n : Nat) (k : Nat) (so : Int32) (fo : Int32) (bb : Int64) (bc : Int64) (be : Int64) (rs : Nat) (rc : Nat) (x0 : Int32) (x1 : Int32) (x2 : Int32) (x3 : Int32) (bo : Int32) (wt : Nat → Int32) (bd : Nat → Int32) (hn : n ≤ 4) (hk : k ≤ 6) (hok : lw_ok n x0 x1 x2 x3 bo 4 ∧ ¬ k = 6) : Met l yy_Model_limit ww_Model_limit ({ frames := 1, cells := 0, slots := 0, locals := 24 } : Room) (mm_Pc D kc_all [(cI, .int), (cZ, .boolean), (cL, .long), (cQ, .array .int)] sz [(o, .inr (7, [.int thr, .int (nI n), .ref ml, .ref mm, .ref mw, .ref mc, .int (nI k), .ref mg, .ref md, .int so, .int fo, .ref mb, .long bb, .long bc, .ref mt, .long be, .ref mr, .int (nI rs), .ref mo, .int (nI rc), .ref mx, .ref mp, .ref nk, .ref na, .ref nv, .ref nf, .ref ns, .ref ne, .ref nw, .ref mf])), (mg, .inl (cI, 24, .inl wt)), (md, .inl (cI, 6, .inl bd))] [.ref o, .int x0, .int x1, .int x2, .int x3, .int bo]) (qq_Model_limit D cI cZ cL cQ o ml mm mw mc mg md mb mt mr mo mx mp nk na nv nf ns ne nw mf thr n k so fo bb bc be rs rc x0 x1 x2 x3 bo wt bd (va_A [(o, .inr (7, [.int thr, .int (nI n), .ref ml, .ref mm, .ref mw, .ref mc, .int (nI k), .ref mg, .ref md, .int so, .int fo, .ref mb, .long bb, .long bc, .ref mt, .long be, .ref mr, .int (nI rs), .ref mo, .int (nI rc), .ref mx, .ref mp, .ref nk, .ref na, .ref nv, .ref nf, .ref ns, .ref ne, .ref nw, .ref mf])), (mg, .inl (cI, 24, .inl wt)), (md, .inl (cI, 6, .inl bd))] sz)) 0 0 (va_A [(o, .inr (7, [.int thr, .int (nI n), .ref ml, .ref mm, .ref mw, .ref mc, .int (nI k), .ref mg, .ref md, .int so, .int fo, .ref mb, .long bb, .long bc, .ref mt, .long be, .ref mr, .int (nI rs), .ref mo, .int (nI rc), .ref mx, .ref mp, .ref nk, .ref na, .ref nv, .ref nf, .ref ns, .ref ne, .ref nw, .ref mf])), (mg, .inl (cI, 24, .inl wt)), (md, .inl (cI, 6, .inl bd))] sz) := by
  refine Met.ofW (cc := bb_Model_limit) (maxL := 9) (ret := (some .int)) (by decide) rfl ?_
  intro p e s m args below meth c s₁ B hml hv
  obtain ⟨rfl, hsz, hP, hK, hD0⟩ := hv
  have hx := B.exec
  have hb := B.bytes
  have hr := B.returns
  have hts := atoms_spec (ws := ww_Model_limit) B.pre
  have hown : s.vm.findClass RR_Model = some m.cls := findClass_of_methodNamed B.named
  have hlocks := B.notSynchronized
  subst hsz
  have hD := hD0.self (sz := s.heap.size)
  generalize hAe : va_A [(o, .inr (7, [.int thr, .int (nI n), .ref ml, .ref mm, .ref mw, .ref mc, .int (nI k), .ref mg, .ref md, .int so, .int fo, .ref mb, .long bb, .long bc, .ref mt, .long be, .ref mr, .int (nI rs), .ref mo, .int (nI rc), .ref mx, .ref mp, .ref nk, .ref na, .ref nv, .ref nf, .ref ns, .ref ne, .ref nw, .ref mf])), (mg, .inl (cI, 24, .inl wt)), (md, .inl (cI, 6, .inl bd))] s.heap.size = A at hD ⊢
  have hA : ∀ q : Nat, s.heap.size ≤ q → A q := fun q h => by rw [← hAe]; exact Or.inr h
  have hS : va_S A s.heap s.heap [] := va_S.rf
  have hP : va_P D kc_all [(o, .inr (7, [.int thr, .int (nI n), .ref ml, .ref mm, .ref mw, .ref mc, .int (nI k), .ref mg, .ref md, .int so, .int fo, .ref mb, .long bb, .long bc, .ref mt, .long be, .ref mr, .int (nI rs), .ref mo, .int (nI rc), .ref mx, .ref mp, .ref nk, .ref na, .ref nv, .ref nf, .ref ns, .ref ne, .ref nw, .ref mf])), (mg, .inl (cI, 24, .inl wt)), (md, .inl (cI, 6, .inl bd))] s.heap := hP
  have hl := lv_entry ([.ref o, .int x0, .int x1, .int x2, .int x3, .int bo]) (n := 9) (Nat.le_of_ble_eq_true rfl)
  rw [lg_entry_eq]
  generalize (lg_sl ([.ref o, .int x0, .int x1, .int x2, .int x3, .int bo]) ++ List.replicate (9 - (lg_sl ([.ref o, .int x0, .int x1, .int x2, .int x3, .int bo])).length) Slot.unset).toArray = ls at hl ⊢
  have hl : lv_has ls 9 [(0, .ref o), (1, .int x0), (2, .int x1), (3, .int x2), (4, .int x3), (5, .int bo)] := hl
  have htb : ∀ w ∈ tb_all, w.before ([.ref o, .int x0, .int x1, .int x2, .int x3, .int bo]).toArray s = true := fun w h => hts w (List.mem_cons_of_mem _ h)
  have hf_7 := htb _ fl_Model_7
  have hf_27 := htb _ fl_Model_27
  have hf_30 := htb _ fl_Model_30
  have hf_76 := htb _ fl_Model_76
  have hf_83 := htb _ fl_Model_83
  have hf_86 := htb _ fl_Model_86
  refine lv_iload hx hb dd_Model_limit_0 (lv_at hl 5 rfl) ?_
  refine lv_bipush (v := (-99)) hx hb dd_Model_limit_2 (by decide) ?_
  refine lv_bipush (v := 99) hx hb dd_Model_limit_4 (by decide) ?_
  refine mm_i (wc := []) (wr := [(o, .inr (7, [.int thr, .int (nI n), .ref ml, .ref mm, .ref mw, .ref mc, .int (nI k), .ref mg, .ref md, .int so, .int fo, .ref mb, .long bb, .long bc, .ref mt, .long be, .ref mr, .int (nI rs), .ref mo, .int (nI rc), .ref mx, .ref mp, .ref nk, .ref na, .ref nv, .ref nf, .ref ns, .ref ne, .ref nw, .ref mf])), (mg, .inl (cI, 24, .inl wt)), (md, .inl (cI, 6, .inl bd))]) (va_runS (As := [.int bo, .int (-99 : Int32), .int (99 : Int32)]) (rest := []) ⟨hx, hb, hml, hown, hts⟩ (cc_Model_isIn l D cI cZ cL cQ _ bo (-99 : Int32) (99 : Int32) ) (mm_cwS 3 hts ml_Model_79 sm_Model_isIn ic_Model cd_Model_isIn rfl rfl (by decide +kernel) ⟨Nat.le_of_ble_eq_true rfl, Nat.le_of_ble_eq_true rfl⟩) (mm_preS hK hP hD [] (by decide) rfl) rfl rfl hl.1 rfl (lv_room (Nat.le_of_ble_eq_true rfl)) dd_Model_limit_6 ⟨Nat.zero_le _, Nat.zero_le _⟩) hP hD hS hA [] [0, 1, 2] rfl rfl (by decide) (by decide) (fun zr1 zu2 H locs p6 hP hD hS => ?_)
  have hP : va_P D kc_all [(o, .inr (7, [.int thr, .int (nI n), .ref ml, .ref mm, .ref mw, .ref mc, .int (nI k), .ref mg, .ref md, .int so, .int fo, .ref mb, .long bb, .long bc, .ref mt, .long be, .ref mr, .int (nI rs), .ref mo, .int (nI rc), .ref mx, .ref mp, .ref nk, .ref na, .ref nv, .ref nf, .ref ns, .ref ne, .ref nw, .ref mf])), (mg, .inl (cI, 24, .inl wt)), (md, .inl (cI, 6, .inl bd))] H := hP
  have hD : va_D A [(o, .inr (7, [.int thr, .int (nI n), .ref ml, .ref mm, .ref mw, .ref mc, .int (nI k), .ref mg, .ref md, .int so, .int fo, .ref mb, .long bb, .long bc, .ref mt, .long be, .ref mr, .int (nI rs), .ref mo, .int (nI rc), .ref mx, .ref mp, .ref nk, .ref na, .ref nv, .ref nf, .ref ns, .ref ne, .ref nw, .ref mf])), (mg, .inl (cI, 24, .inl wt)), (md, .inl (cI, 6, .inl bd))] := hD
  have p6 : tl_ok (in_ok bo (-99 : Int32) (99 : Int32)) zr1 := p6
  refine lv_istore (lv' := [(6, .int zr1), (0, .ref o), (1, .int x0), (2, .int x1), (3, .int x2), (4, .int x3), (5, .int bo)]) hx hb dd_Model_limit_9 hl (by decide) rfl (fun ls hl => ?_)
  refine lv_iconst (v := 0) hx hb dd_Model_limit_11 (by decide) ?_
  refine lv_istore (lv' := [(7, .int (0 : Int32)), (6, .int zr1), (0, .ref o), (1, .int x0), (2, .int x1), (3, .int x2), (4, .int x3), (5, .int bo)]) hx hb dd_Model_limit_12 hl (by decide) rfl (fun ls hl => ?_)
  have J14 : ∀ (N : Nat) (j : Nat) (g9 : Int32), (4 - j) < N → ∀ (hj : j ≤ 4) (hg : tl_ok (lw_ok n x0 x1 x2 x3 bo j) g9), ∀ (ls : Array Slot) (H : Heap) (locs : List Loc), lv_has ls 9 [(0, .ref o), (1, .int x0), (2, .int x1), (3, .int x2), (4, .int x3), (5, .int bo), (6, .int g9), (7, .int (nI j))] → va_P D kc_all [(o, .inr (7, [.int thr, .int (nI n), .ref ml, .ref mm, .ref mw, .ref mc, .int (nI k), .ref mg, .ref md, .int so, .int fo, .ref mb, .long bb, .long bc, .ref mt, .long be, .ref mr, .int (nI rs), .ref mo, .int (nI rc), .ref mx, .ref mp, .ref nk, .ref na, .ref nv, .ref nf, .ref ns, .ref ne, .ref nw, .ref mf])), (mg, .inl (cI, 24, .inl wt)), (md, .inl (cI, 6, .inl bd))] H → va_D A [(o, .inr (7, [.int thr, .int (nI n), .ref ml, .ref mm, .ref mw, .ref mc, .int (nI k), .ref mg, .ref md, .int so, .int fo, .ref mb, .long bb, .long bc, .ref mt, .long be, .ref mr, .int (nI rs), .ref mo, .int (nI rc), .ref mx, .ref mp, .ref nk, .ref na, .ref nv, .ref nf, .ref ns, .ref ne, .ref nw, .ref mf])), (mg, .inl (cI, 24, .inl wt)), (md, .inl (cI, 6, .inl bd))] → va_S A s.heap H locs → W p l e (headSpec ww_Model_limit ({ frames := 1, cells := 0, slots := 0, locals := 24 } : Room)).room s m ([.ref o, .int x0, .int x1, .int x2, .int x3, .int bo]).toArray below meth c H locs 0 0 (MQ below (qq_Model_limit D cI cZ cL cQ o ml mm mw mc mg md mb mt mr mo mx mp nk na nv nf ns ne nw mf thr n k so fo bb bc be rs rc x0 x1 x2 x3 bo wt bd A) ([.ref o, .int x0, .int x1, .int x2, .int x3, .int bo]).toArray s 0 0 A) (F0 m 14 ls []) := by
    intro N
    induction N with
    | zero => intro j g9 hN9; exact absurd hN9 (Nat.not_lt_zero _)
    | succ N IH14 =>
      intro j g9 hN9 hj hg ls H locs hl hP hD hS
      refine lv_iload hx hb dd_Model_limit_14 (lv_at hl 7 rfl) ?_
      refine lv_iconst (v := 4) hx hb dd_Model_limit_16 (by decide) ?_
      refine lv_icmp_ge (tgt := 76) hx hb dd_Model_limit_17 (by decide) (fun h17 => ?_) (fun h17 => ?_)
      · skip
        have h17 : 4 ≤ j := (nI_leI (a := 4) (b := j) (by omega) (by omega)).mp h17
        have hg4 : tl_ok (lw_ok n x0 x1 x2 x3 bo 4) g9 := by rw [show 4 = j by omega]; exact hg
        refine lv_aload_n hx hb dd_Model_limit_76 rfl (lv_at hl 0 rfl) ?_
        refine lv_iload hx hb dd_Model_limit_77 (lv_at hl 6 rfl) ?_
        refine lv_if_ne (tgt := 86) hx hb dd_Model_limit_79 (by decide) (fun h79 => ?_) (fun h79 => ?_)
        · skip
          refine lv_aload_n hx hb dd_Model_limit_86 rfl (lv_at hl 0 rfl) ?_
          refine va_get (D := D) (ci := 7) (v := .int (nI k)) (C := RR_Model) (T := FF_Model) (N := 30) hx hb htb hi_Model hown hK hP 0 rfl rfl 6 (by decide) hf_83 (fun _ h9 => h9) rfl dd_Model_limit_87 ?_
          refine lv_bipush (v := 6) hx hb dd_Model_limit_90 (by decide) ?_
          refine lv_icmp_ne (tgt := 99) hx hb dd_Model_limit_92 (by decide) (fun h92 => ?_) (fun h92 => ?_)
          · skip
            have h92 : ¬ (k = 6) := fun q9 => h92 ((nI_eq (a := k) (b := 6) (by omega) (by omega)).mpr q9)
            refine lv_iconst (v := 0) hx hb dd_Model_limit_99 (by decide) ?_
            refine va_put (D := D) (ci := 7) (v := .int (0 : Int32)) (ty := .int) (C := RR_Model) (T := FF_Model) (N := 30) hx hb htb hi_Model tt_Model tt_Model_ok nn_Model hown hK hP hD hS 0 rfl rfl 0 (by decide) hf_76 (fun _ h9 => h9) rfl (by decide +kernel) (rfl) (rfl) (Nat.le_of_ble_eq_true rfl) dd_Model_limit_100 (fun H locs hP hD hS => ?_)
            have hP : va_P D kc_all [(o, .inr (7, [.int (0 : Int32), .int (nI n), .ref ml, .ref mm, .ref mw, .ref mc, .int (nI k), .ref mg, .ref md, .int so, .int fo, .ref mb, .long bb, .long bc, .ref mt, .long be, .ref mr, .int (nI rs), .ref mo, .int (nI rc), .ref mx, .ref mp, .ref nk, .ref na, .ref nv, .ref nf, .ref ns, .ref ne, .ref nw, .ref mf])), (mg, .inl (cI, 24, .inl wt)), (md, .inl (cI, 6, .inl bd))] H := hP
            have hD : va_D A [(o, .inr (7, [.int (0 : Int32), .int (nI n), .ref ml, .ref mm, .ref mw, .ref mc, .int (nI k), .ref mg, .ref md, .int so, .int fo, .ref mb, .long bb, .long bc, .ref mt, .long be, .ref mr, .int (nI rs), .ref mo, .int (nI rc), .ref mx, .ref mp, .ref nk, .ref na, .ref nv, .ref nf, .ref ns, .ref ne, .ref nw, .ref mf])), (mg, .inl (cI, 24, .inl wt)), (md, .inl (cI, 6, .inl bd))] := hD
            refine lv_aload_n hx hb dd_Model_limit_103 rfl (lv_at hl 0 rfl) ?_
            refine va_get (D := D) (ci := 7) (v := .int (0 : Int32)) (C := RR_Model) (T := FF_Model) (N := 30) hx hb htb hi_Model hown hK hP 0 rfl rfl 0 (by decide) hf_76 (fun _ h9 => h9) rfl dd_Model_limit_104 ?_
            refine lv_if_le (tgt := 112) hx hb dd_Model_limit_107 (by decide) (fun h107 => ?_) (fun h107 => ?_)
            · skip
              have h107 : 0 ≤ 0 := (nI_leI (a := 0) (b := 0) (by omega) (by omega)).mp h107
              refine lv_iconst (v := 0) hx hb dd_Model_limit_112 (by decide) ?_
              refine lv_istore (lv' := [(7, .int (0 : Int32)), (0, .ref o), (1, .int x0), (2, .int x1), (3, .int x2), (4, .int x3), (5, .int bo), (6, .int g9)]) hx hb dd_Model_limit_113 hl (by decide) rfl (fun ls hl => ?_)
              have J115 : ∀ (N : Nat) (i : Nat) (w1 : Nat → Int32), (4 - i) < N → ∀ (hi : i ≤ 4) (hw : w1 = lm_w wt k x0 x1 x2 x3 i), ∀ (ls : Array Slot) (H : Heap) (locs : List Loc), lv_has ls 9 [(0, .ref o), (1, .int x0), (2, .int x1), (3, .int x2), (4, .int x3), (5, .int bo), (7, .int (nI i))] → va_P D kc_all [(o, .inr (7, [.int 0, .int (nI n), .ref ml, .ref mm, .ref mw, .ref mc, .int (nI k), .ref mg, .ref md, .int so, .int fo, .ref mb, .long bb, .long bc, .ref mt, .long be, .ref mr, .int (nI rs), .ref mo, .int (nI rc), .ref mx, .ref mp, .ref nk, .ref na, .ref nv, .ref nf, .ref ns, .ref ne, .ref nw, .ref mf])), (mg, .inl (cI, 24, .inl w1)), (md, .inl (cI, 6, .inl bd))] H → va_D A [(o, .inr (7, [.int 0, .int (nI n), .ref ml, .ref mm, .ref mw, .ref mc, .int (nI k), .ref mg, .ref md, .int so, .int fo, .ref mb, .long bb, .long bc, .ref mt, .long be, .ref mr, .int (nI rs), .ref mo, .int (nI rc), .ref mx, .ref mp, .ref nk, .ref na, .ref nv, .ref nf, .ref ns, .ref ne, .ref nw, .ref mf])), (mg, .inl (cI, 24, .inl w1)), (md, .inl (cI, 6, .inl bd))] → va_S A s.heap H locs → W p l e (headSpec ww_Model_limit ({ frames := 1, cells := 0, slots := 0, locals := 24 } : Room)).room s m ([.ref o, .int x0, .int x1, .int x2, .int x3, .int bo]).toArray below meth c H locs 0 0 (MQ below (qq_Model_limit D cI cZ cL cQ o ml mm mw mc mg md mb mt mr mo mx mp nk na nv nf ns ne nw mf thr n k so fo bb bc be rs rc x0 x1 x2 x3 bo wt bd A) ([.ref o, .int x0, .int x1, .int x2, .int x3, .int bo]).toArray s 0 0 A) (F0 m 115 ls []) := by
                intro N
                induction N with
                | zero => intro i w1 hN9; exact absurd hN9 (Nat.not_lt_zero _)
                | succ N IH115 =>
                  intro i w1 hN9 hi hw ls H locs hl hP hD hS
                  refine lv_iload hx hb dd_Model_limit_115 (lv_at hl 6 rfl) ?_
                  refine lv_iconst (v := 4) hx hb dd_Model_limit_117 (by decide) ?_
                  refine lv_icmp_ge (tgt := 151) hx hb dd_Model_limit_118 (by decide) (fun h118 => ?_) (fun h118 => ?_)
                  · skip
                    have h118 : 4 ≤ i := (nI_leI (a := 4) (b := i) (by omega) (by omega)).mp h118
                    have hw4 : w1 = lm_w wt k x0 x1 x2 x3 4 := by rw [show 4 = i by omega]; exact hw
                    rw [hw4] at hP hD
                    have hP : va_P D kc_all [(o, .inr (7, [.int 0, .int (nI n), .ref ml, .ref mm, .ref mw, .ref mc, .int (nI k), .ref mg, .ref md, .int so, .int fo, .ref mb, .long bb, .long bc, .ref mt, .long be, .ref mr, .int (nI rs), .ref mo, .int (nI rc), .ref mx, .ref mp, .ref nk, .ref na, .ref nv, .ref nf, .ref ns, .ref ne, .ref nw, .ref mf])), (mg, .inl (cI, 24, .inl (lm_w wt k x0 x1 x2 x3 4))), (md, .inl (cI, 6, .inl bd))] H := hP
                    have hD : va_D A [(o, .inr (7, [.int 0, .int (nI n), .ref ml, .ref mm, .ref mw, .ref mc, .int (nI k), .ref mg, .ref md, .int so, .int fo, .ref mb, .long bb, .long bc, .ref mt, .long be, .ref mr, .int (nI rs), .ref mo, .int (nI rc), .ref mx, .ref mp, .ref nk, .ref na, .ref nv, .ref nf, .ref ns, .ref ne, .ref nw, .ref mf])), (mg, .inl (cI, 24, .inl (lm_w wt k x0 x1 x2 x3 4))), (md, .inl (cI, 6, .inl bd))] := hD
                    refine lv_aload_n hx hb dd_Model_limit_151 rfl (lv_at hl 0 rfl) ?_
                    refine va_get (D := D) (ci := 7) (v := .ref md) (C := RR_Model) (T := FF_Model) (N := 30) hx hb htb hi_Model hown hK hP 0 rfl rfl 8 (by decide) hf_30 (fun _ h9 => h9) rfl dd_Model_limit_152 ?_
                    refine lv_aload_n hx hb dd_Model_limit_155 rfl (lv_at hl 0 rfl) ?_
                    refine va_get (D := D) (ci := 7) (v := .int (nI k)) (C := RR_Model) (T := FF_Model) (N := 30) hx hb htb hi_Model hown hK hP 0 rfl rfl 6 (by decide) hf_83 (fun _ h9 => h9) rfl dd_Model_limit_156 ?_
                    refine lv_iload hx hb dd_Model_limit_159 (lv_at hl 5 rfl) ?_
                    refine mm_iast hx hb hK hP hD hS 2 0 rfl rfl (k) (rfl) (by omega) (by first | decide | omega) dd_Model_limit_161 (fun H locs hP hD hS => ?_)
                    have hP : va_P D kc_all [(o, .inr (7, [.int 0, .int (nI n), .ref ml, .ref mm, .ref mw, .ref mc, .int (nI k), .ref mg, .ref md, .int so, .int fo, .ref mb, .long bb, .long bc, .ref mt, .long be, .ref mr, .int (nI rs), .ref mo, .int (nI rc), .ref mx, .ref mp, .ref nk, .ref na, .ref nv, .ref nf, .ref ns, .ref ne, .ref nw, .ref mf])), (mg, .inl (cI, 24, .inl (lm_w wt k x0 x1 x2 x3 4))), (md, .inl (cI, 6, .inl (upd bd k bo)))] H := hP
                    have hD : va_D A [(o, .inr (7, [.int 0, .int (nI n), .ref ml, .ref mm, .ref mw, .ref mc, .int (nI k), .ref mg, .ref md, .int so, .int fo, .ref mb, .long bb, .long bc, .ref mt, .long be, .ref mr, .int (nI rs), .ref mo, .int (nI rc), .ref mx, .ref mp, .ref nk, .ref na, .ref nv, .ref nf, .ref ns, .ref ne, .ref nw, .ref mf])), (mg, .inl (cI, 24, .inl (lm_w wt k x0 x1 x2 x3 4))), (md, .inl (cI, 6, .inl (upd bd k bo)))] := hD
                    refine lv_aload_n hx hb dd_Model_limit_162 rfl (lv_at hl 0 rfl) ?_
                    refine lv_dup hx hb dd_Model_limit_163 rfl ?_
                    refine va_get (D := D) (ci := 7) (v := .int (nI k)) (C := RR_Model) (T := FF_Model) (N := 30) hx hb htb hi_Model hown hK hP 0 rfl rfl 6 (by decide) hf_83 (fun _ h9 => h9) rfl dd_Model_limit_164 ?_
                    refine lv_iconst (v := 1) hx hb dd_Model_limit_167 (by decide) ?_
                    refine lv_iadd hx hb dd_Model_limit_168 ?_
                    refine mm_topi (y := nI (k + 1)) (nI_add k 1) ?_
                    refine va_put (D := D) (ci := 7) (v := .int (nI (k + 1))) (ty := .int) (C := RR_Model) (T := FF_Model) (N := 30) hx hb htb hi_Model tt_Model tt_Model_ok nn_Model hown hK hP hD hS 0 rfl rfl 6 (by decide) hf_83 (fun _ h9 => h9) rfl (by decide +kernel) (rfl) (rfl) (Nat.le_of_ble_eq_true rfl) dd_Model_limit_169 (fun H locs hP hD hS => ?_)
                    have hP : va_P D kc_all [(o, .inr (7, [.int 0, .int (nI n), .ref ml, .ref mm, .ref mw, .ref mc, .int (nI (k + 1)), .ref mg, .ref md, .int so, .int fo, .ref mb, .long bb, .long bc, .ref mt, .long be, .ref mr, .int (nI rs), .ref mo, .int (nI rc), .ref mx, .ref mp, .ref nk, .ref na, .ref nv, .ref nf, .ref ns, .ref ne, .ref nw, .ref mf])), (mg, .inl (cI, 24, .inl (lm_w wt k x0 x1 x2 x3 4))), (md, .inl (cI, 6, .inl (upd bd k bo)))] H := hP
                    have hD : va_D A [(o, .inr (7, [.int 0, .int (nI n), .ref ml, .ref mm, .ref mw, .ref mc, .int (nI (k + 1)), .ref mg, .ref md, .int so, .int fo, .ref mb, .long bb, .long bc, .ref mt, .long be, .ref mr, .int (nI rs), .ref mo, .int (nI rc), .ref mx, .ref mp, .ref nk, .ref na, .ref nv, .ref nf, .ref ns, .ref ne, .ref nw, .ref mf])), (mg, .inl (cI, 24, .inl (lm_w wt k x0 x1 x2 x3 4))), (md, .inl (cI, 6, .inl (upd bd k bo)))] := hD
                    refine lv_aload_n hx hb dd_Model_limit_172 rfl (lv_at hl 0 rfl) ?_
                    refine lv_iconst (v := 0) hx hb dd_Model_limit_173 (by decide) ?_
                    refine va_put (D := D) (ci := 7) (v := .int (0 : Int32)) (ty := .int) (C := RR_Model) (T := FF_Model) (N := 30) hx hb htb hi_Model tt_Model tt_Model_ok nn_Model hown hK hP hD hS 0 rfl rfl 9 (by decide) hf_86 (fun _ h9 => h9) rfl (by decide +kernel) (rfl) (rfl) (Nat.le_of_ble_eq_true rfl) dd_Model_limit_174 (fun H locs hP hD hS => ?_)
                    have hP : va_P D kc_all [(o, .inr (7, [.int 0, .int (nI n), .ref ml, .ref mm, .ref mw, .ref mc, .int (nI (k + 1)), .ref mg, .ref md, .int (0 : Int32), .int fo, .ref mb, .long bb, .long bc, .ref mt, .long be, .ref mr, .int (nI rs), .ref mo, .int (nI rc), .ref mx, .ref mp, .ref nk, .ref na, .ref nv, .ref nf, .ref ns, .ref ne, .ref nw, .ref mf])), (mg, .inl (cI, 24, .inl (lm_w wt k x0 x1 x2 x3 4))), (md, .inl (cI, 6, .inl (upd bd k bo)))] H := hP
                    have hD : va_D A [(o, .inr (7, [.int 0, .int (nI n), .ref ml, .ref mm, .ref mw, .ref mc, .int (nI (k + 1)), .ref mg, .ref md, .int (0 : Int32), .int fo, .ref mb, .long bb, .long bc, .ref mt, .long be, .ref mr, .int (nI rs), .ref mo, .int (nI rc), .ref mx, .ref mp, .ref nk, .ref na, .ref nv, .ref nf, .ref ns, .ref ne, .ref nw, .ref mf])), (mg, .inl (cI, 24, .inl (lm_w wt k x0 x1 x2 x3 4))), (md, .inl (cI, 6, .inl (upd bd k bo)))] := hD
                    refine lv_aload_n hx hb dd_Model_limit_177 rfl (lv_at hl 0 rfl) ?_
                    refine va_get (D := D) (ci := 7) (v := .int (nI (k + 1))) (C := RR_Model) (T := FF_Model) (N := 30) hx hb htb hi_Model hown hK hP 0 rfl rfl 6 (by decide) hf_83 (fun _ h9 => h9) rfl dd_Model_limit_178 ?_
                    refine lv_iconst (v := 1) hx hb dd_Model_limit_181 (by decide) ?_
                    refine lv_isub hx hb dd_Model_limit_182 ?_
                    refine mm_topi (y := nI k) (nI_pred k) ?_
                    exact W.iret (v := (nI k)) hx hb hr (fun t ht hW => ⟨⟨nI k, (), rfl, rfl, by rw [ht]; exact hP, va_K.moved hW.alike hK, hD⟩, hS.F ht⟩) hS.2.2 dd_Model_limit_183
                  · skip
                    have h118 : ¬ (4 ≤ i) := fun q9 => h118 ((nI_leI (a := 4) (b := i) (by omega) (by omega)).mpr q9)
                    refine lv_aload_n hx hb dd_Model_limit_121 rfl (lv_at hl 0 rfl) ?_
                    refine va_get (D := D) (ci := 7) (v := .ref mg) (C := RR_Model) (T := FF_Model) (N := 30) hx hb htb hi_Model hown hK hP 0 rfl rfl 7 (by decide) hf_27 (fun _ h9 => h9) rfl dd_Model_limit_122 ?_
                    refine lv_iconst (v := 4) hx hb dd_Model_limit_125 (by decide) ?_
                    refine lv_aload_n hx hb dd_Model_limit_126 rfl (lv_at hl 0 rfl) ?_
                    refine va_get (D := D) (ci := 7) (v := .int (nI k)) (C := RR_Model) (T := FF_Model) (N := 30) hx hb htb hi_Model hown hK hP 0 rfl rfl 6 (by decide) hf_83 (fun _ h9 => h9) rfl dd_Model_limit_127 ?_
                    refine lv_imul hx hb dd_Model_limit_130 ?_
                    refine mm_topi (y := nI (4 * k)) (pk_mul 4 k) ?_
                    refine lv_iload hx hb dd_Model_limit_131 (lv_at hl 6 rfl) ?_
                    refine lv_iadd hx hb dd_Model_limit_133 ?_
                    refine mm_topi (y := nI ((4 * k) + i)) (nI_add (4 * k) i) ?_
                    refine lv_iload hx hb dd_Model_limit_134 (lv_at hl 6 rfl) ?_
                    refine lv_iload_n hx hb dd_Model_limit_136 rfl (lv_at hl 1 rfl) ?_
                    refine lv_iload_n hx hb dd_Model_limit_137 rfl (lv_at hl 2 rfl) ?_
                    refine lv_iload_n hx hb dd_Model_limit_138 rfl (lv_at hl 3 rfl) ?_
                    refine lv_iload hx hb dd_Model_limit_139 (lv_at hl 4 rfl) ?_
                    refine mm_i (wc := []) (wr := [(o, .inr (7, [.int 0, .int (nI n), .ref ml, .ref mm, .ref mw, .ref mc, .int (nI k), .ref mg, .ref md, .int so, .int fo, .ref mb, .long bb, .long bc, .ref mt, .long be, .ref mr, .int (nI rs), .ref mo, .int (nI rc), .ref mx, .ref mp, .ref nk, .ref na, .ref nv, .ref nf, .ref ns, .ref ne, .ref nw, .ref mf])), (mg, .inl (cI, 24, .inl w1)), (md, .inl (cI, 6, .inl bd))]) (va_runS (As := [.int (nI i), .int x0, .int x1, .int x2, .int x3]) (rest := [.int (nI ((4 * k) + i)), .ref mg]) ⟨hx, hb, hml, hown, hts⟩ (cc_Model_pick l D cI cZ cL cQ _ i x0 x1 x2 x3 (by omega)) (mm_cwS 5 hts ml_Model_89 sm_Model_pick ic_Model cd_Model_pick rfl rfl (by decide +kernel) ⟨Nat.le_of_ble_eq_true rfl, Nat.le_of_ble_eq_true rfl⟩) (mm_preS hK hP hD [] (by decide) rfl) rfl rfl hl.1 rfl (lv_room (Nat.le_of_ble_eq_true rfl)) dd_Model_limit_141 ⟨Nat.zero_le _, Nat.zero_le _⟩) hP hD hS hA [] [0, 1, 2] rfl rfl (by decide) (by decide) (fun zr3 zu4 H locs p141 hP hD hS => ?_)
                    have hP : va_P D kc_all [(o, .inr (7, [.int 0, .int (nI n), .ref ml, .ref mm, .ref mw, .ref mc, .int (nI k), .ref mg, .ref md, .int so, .int fo, .ref mb, .long bb, .long bc, .ref mt, .long be, .ref mr, .int (nI rs), .ref mo, .int (nI rc), .ref mx, .ref mp, .ref nk, .ref na, .ref nv, .ref nf, .ref ns, .ref ne, .ref nw, .ref mf])), (mg, .inl (cI, 24, .inl w1)), (md, .inl (cI, 6, .inl bd))] H := hP
                    have hD : va_D A [(o, .inr (7, [.int 0, .int (nI n), .ref ml, .ref mm, .ref mw, .ref mc, .int (nI k), .ref mg, .ref md, .int so, .int fo, .ref mb, .long bb, .long bc, .ref mt, .long be, .ref mr, .int (nI rs), .ref mo, .int (nI rc), .ref mx, .ref mp, .ref nk, .ref na, .ref nv, .ref nf, .ref ns, .ref ne, .ref nw, .ref mf])), (mg, .inl (cI, 24, .inl w1)), (md, .inl (cI, 6, .inl bd))] := hD
                    have p141 : zr3 = pk_f i x0 x1 x2 x3 := p141
                    refine mm_topi (y := pk_f i x0 x1 x2 x3) (p141) ?_
                    refine mm_iast hx hb hK hP hD hS 1 0 rfl rfl ((4 * k) + i) (rfl) (by omega) (by first | decide | omega) dd_Model_limit_144 (fun H locs hP hD hS => ?_)
                    have hP : va_P D kc_all [(o, .inr (7, [.int 0, .int (nI n), .ref ml, .ref mm, .ref mw, .ref mc, .int (nI k), .ref mg, .ref md, .int so, .int fo, .ref mb, .long bb, .long bc, .ref mt, .long be, .ref mr, .int (nI rs), .ref mo, .int (nI rc), .ref mx, .ref mp, .ref nk, .ref na, .ref nv, .ref nf, .ref ns, .ref ne, .ref nw, .ref mf])), (mg, .inl (cI, 24, .inl (upd w1 ((4 * k) + i) (pk_f i x0 x1 x2 x3)))), (md, .inl (cI, 6, .inl bd))] H := hP
                    have hD : va_D A [(o, .inr (7, [.int 0, .int (nI n), .ref ml, .ref mm, .ref mw, .ref mc, .int (nI k), .ref mg, .ref md, .int so, .int fo, .ref mb, .long bb, .long bc, .ref mt, .long be, .ref mr, .int (nI rs), .ref mo, .int (nI rc), .ref mx, .ref mp, .ref nk, .ref na, .ref nv, .ref nf, .ref ns, .ref ne, .ref nw, .ref mf])), (mg, .inl (cI, 24, .inl (upd w1 ((4 * k) + i) (pk_f i x0 x1 x2 x3)))), (md, .inl (cI, 6, .inl bd))] := hD
                    refine lv_iinc (k := 6) (v := nI (i + 1)) (lv' := [(7, .int (nI (i + 1))), (0, .ref o), (1, .int x0), (2, .int x1), (3, .int x2), (4, .int x3), (5, .int bo)]) hx hb dd_Model_limit_145 hl rfl (nI_1 _) (by decide) rfl (fun ls hl => ?_)
                    refine lv_goto (tgt := 115) hx hb dd_Model_limit_148 (by decide) ?_
                    exact IH115 (i + 1) (upd w1 ((4 * k) + i) (pk_f i x0 x1 x2 x3)) (by omega) (by omega) (lm_s hw) ls H locs (lv_sub hl [1, 2, 3, 4, 5, 6, 0] rfl) hP hD hS
              exact J115 _ 0 wt (Nat.lt_succ_self _) (by omega) (lm_0) ls H locs (lv_sub hl [1, 2, 3, 4, 5, 6, 0] rfl) hP hD hS
            · skip
              have h107 : ¬ (0 ≤ 0) := fun q9 => h107 ((nI_leI (a := 0) (b := 0) (by omega) (by omega)).mpr q9)
              omega
          · skip
            have h92 : k = 6 := (nI_eq (a := k) (b := 6) (by omega) (by omega)).mp h92
            exact absurd h92 hok.2
        · skip
          exact absurd hok.1 (tl_0 hg4 h79)
      · skip
        have h17 : ¬ (4 ≤ j) := fun q9 => h17 ((nI_leI (a := 4) (b := j) (by omega) (by omega)).mpr q9)
        refine lv_iload hx hb dd_Model_limit_20 (lv_at hl 7 rfl) ?_
        refine lv_iload_n hx hb dd_Model_limit_22 rfl (lv_at hl 1 rfl) ?_
        refine lv_iload_n hx hb dd_Model_limit_23 rfl (lv_at hl 2 rfl) ?_
        refine lv_iload_n hx hb dd_Model_limit_24 rfl (lv_at hl 3 rfl) ?_
        refine lv_iload hx hb dd_Model_limit_25 (lv_at hl 4 rfl) ?_
        refine mm_i (wc := []) (wr := [(o, .inr (7, [.int thr, .int (nI n), .ref ml, .ref mm, .ref mw, .ref mc, .int (nI k), .ref mg, .ref md, .int so, .int fo, .ref mb, .long bb, .long bc, .ref mt, .long be, .ref mr, .int (nI rs), .ref mo, .int (nI rc), .ref mx, .ref mp, .ref nk, .ref na, .ref nv, .ref nf, .ref ns, .ref ne, .ref nw, .ref mf])), (mg, .inl (cI, 24, .inl wt)), (md, .inl (cI, 6, .inl bd))]) (va_runS (As := [.int (nI j), .int x0, .int x1, .int x2, .int x3]) (rest := []) ⟨hx, hb, hml, hown, hts⟩ (cc_Model_pick l D cI cZ cL cQ _ j x0 x1 x2 x3 (by omega)) (mm_cwS 5 hts ml_Model_89 sm_Model_pick ic_Model cd_Model_pick rfl rfl (by decide +kernel) ⟨Nat.le_of_ble_eq_true rfl, Nat.le_of_ble_eq_true rfl⟩) (mm_preS hK hP hD [] (by decide) rfl) rfl rfl hl.1 rfl (lv_room (Nat.le_of_ble_eq_true rfl)) dd_Model_limit_27 ⟨Nat.zero_le _, Nat.zero_le _⟩) hP hD hS hA [] [0, 1, 2] rfl rfl (by decide) (by decide) (fun zr5 zu6 H locs p27 hP hD hS => ?_)
        have hP : va_P D kc_all [(o, .inr (7, [.int thr, .int (nI n), .ref ml, .ref mm, .ref mw, .ref mc, .int (nI k), .ref mg, .ref md, .int so, .int fo, .ref mb, .long bb, .long bc, .ref mt, .long be, .ref mr, .int (nI rs), .ref mo, .int (nI rc), .ref mx, .ref mp, .ref nk, .ref na, .ref nv, .ref nf, .ref ns, .ref ne, .ref nw, .ref mf])), (mg, .inl (cI, 24, .inl wt)), (md, .inl (cI, 6, .inl bd))] H := hP
        have hD : va_D A [(o, .inr (7, [.int thr, .int (nI n), .ref ml, .ref mm, .ref mw, .ref mc, .int (nI k), .ref mg, .ref md, .int so, .int fo, .ref mb, .long bb, .long bc, .ref mt, .long be, .ref mr, .int (nI rs), .ref mo, .int (nI rc), .ref mx, .ref mp, .ref nk, .ref na, .ref nv, .ref nf, .ref ns, .ref ne, .ref nw, .ref mf])), (mg, .inl (cI, 24, .inl wt)), (md, .inl (cI, 6, .inl bd))] := hD
        have p27 : zr5 = pk_f j x0 x1 x2 x3 := p27
        refine mm_topi (y := pk_f j x0 x1 x2 x3) (p27) ?_
        refine lv_istore (lv' := [(8, .int (pk_f j x0 x1 x2 x3)), (0, .ref o), (1, .int x0), (2, .int x1), (3, .int x2), (4, .int x3), (5, .int bo), (6, .int g9), (7, .int (nI j))]) hx hb dd_Model_limit_30 hl (by decide) rfl (fun ls hl => ?_)
        refine lv_iload hx hb dd_Model_limit_32 (lv_at hl 7 rfl) ?_
        refine lv_if_eq (tgt := 67) hx hb dd_Model_limit_34 (by decide) (fun h34 => ?_) (fun h34 => ?_)
        · skip
          refine lv_iconst (v := 0) hx hb dd_Model_limit_67 (by decide) ?_
          refine lv_istore (lv' := [(6, .int (0 : Int32)), (8, .int (pk_f j x0 x1 x2 x3)), (0, .ref o), (1, .int x0), (2, .int x1), (3, .int x2), (4, .int x3), (5, .int bo), (7, .int (nI j))]) hx hb dd_Model_limit_68 hl (by decide) rfl (fun ls hl => ?_)
          refine lv_iinc (k := 8) (v := nI (j + 1)) (lv' := [(7, .int (nI (j + 1))), (6, .int (0 : Int32)), (8, .int (pk_f j x0 x1 x2 x3)), (0, .ref o), (1, .int x0), (2, .int x1), (3, .int x2), (4, .int x3), (5, .int bo)]) hx hb dd_Model_limit_70 hl rfl (nI_1 _) (by decide) rfl (fun ls hl => ?_)
          refine lv_goto (tgt := 14) hx hb dd_Model_limit_73 (by decide) ?_
          exact IH14 (j + 1) (0 : Int32) (by omega) (by omega) (by first | exact lo_a hg h34 | exact lo_b p43 h46 | exact lo_c h55 h60 | exact lo_d hg h34 p43 h46 (Or.inl h55) | exact lo_d hg h34 p43 h46 (Or.inr h60)) ls H locs (lv_sub hl [3, 4, 5, 6, 7, 8, 1, 0] rfl) hP hD hS
        · skip
          refine lv_iload hx hb dd_Model_limit_37 (lv_at hl 0 rfl) ?_
          refine lv_bipush (v := (-9)) hx hb dd_Model_limit_39 (by decide) ?_
          refine lv_bipush (v := 9) hx hb dd_Model_limit_41 (by decide) ?_
          refine mm_i (wc := []) (wr := [(o, .inr (7, [.int thr, .int (nI n), .ref ml, .ref mm, .ref mw, .ref mc, .int (nI k), .ref mg, .ref md, .int so, .int fo, .ref mb, .long bb, .long bc, .ref mt, .long be, .ref mr, .int (nI rs), .ref mo, .int (nI rc), .ref mx, .ref mp, .ref nk, .ref na, .ref nv, .ref nf, .ref ns, .ref ne, .ref nw, .ref mf])), (mg, .inl (cI, 24, .inl wt)), (md, .inl (cI, 6, .inl bd))]) (va_runS (As := [.int (pk_f j x0 x1 x2 x3), .int (-9 : Int32), .int (9 : Int32)]) (rest := []) ⟨hx, hb, hml, hown, hts⟩ (cc_Model_isIn l D cI cZ cL cQ _ (pk_f j x0 x1 x2 x3) (-9 : Int32) (9 : Int32) ) (mm_cwS 3 hts ml_Model_79 sm_Model_isIn ic_Model cd_Model_isIn rfl rfl (by decide +kernel) ⟨Nat.le_of_ble_eq_true rfl, Nat.le_of_ble_eq_true rfl⟩) (mm_preS hK hP hD [] (by decide) rfl) rfl rfl hl.1 rfl (lv_room (Nat.le_of_ble_eq_true rfl)) dd_Model_limit_43 ⟨Nat.zero_le _, Nat.zero_le _⟩) hP hD hS hA [] [0, 1, 2] rfl rfl (by decide) (by decide) (fun zr7 zu8 H locs p43 hP hD hS => ?_)
          have hP : va_P D kc_all [(o, .inr (7, [.int thr, .int (nI n), .ref ml, .ref mm, .ref mw, .ref mc, .int (nI k), .ref mg, .ref md, .int so, .int fo, .ref mb, .long bb, .long bc, .ref mt, .long be, .ref mr, .int (nI rs), .ref mo, .int (nI rc), .ref mx, .ref mp, .ref nk, .ref na, .ref nv, .ref nf, .ref ns, .ref ne, .ref nw, .ref mf])), (mg, .inl (cI, 24, .inl wt)), (md, .inl (cI, 6, .inl bd))] H := hP
          have hD : va_D A [(o, .inr (7, [.int thr, .int (nI n), .ref ml, .ref mm, .ref mw, .ref mc, .int (nI k), .ref mg, .ref md, .int so, .int fo, .ref mb, .long bb, .long bc, .ref mt, .long be, .ref mr, .int (nI rs), .ref mo, .int (nI rc), .ref mx, .ref mp, .ref nk, .ref na, .ref nv, .ref nf, .ref ns, .ref ne, .ref nw, .ref mf])), (mg, .inl (cI, 24, .inl wt)), (md, .inl (cI, 6, .inl bd))] := hD
          have p43 : tl_ok (in_ok (pk_f j x0 x1 x2 x3) (-9 : Int32) (9 : Int32)) zr7 := p43
          refine lv_if_eq (tgt := 67) hx hb dd_Model_limit_46 (by decide) (fun h46 => ?_) (fun h46 => ?_)
          · skip
            refine lv_iconst (v := 0) hx hb dd_Model_limit_67 (by decide) ?_
            refine lv_istore (lv' := [(6, .int (0 : Int32)), (8, .int (pk_f j x0 x1 x2 x3)), (0, .ref o), (1, .int x0), (2, .int x1), (3, .int x2), (4, .int x3), (5, .int bo), (7, .int (nI j))]) hx hb dd_Model_limit_68 hl (by decide) rfl (fun ls hl => ?_)
            refine lv_iinc (k := 8) (v := nI (j + 1)) (lv' := [(7, .int (nI (j + 1))), (6, .int (0 : Int32)), (8, .int (pk_f j x0 x1 x2 x3)), (0, .ref o), (1, .int x0), (2, .int x1), (3, .int x2), (4, .int x3), (5, .int bo)]) hx hb dd_Model_limit_70 hl rfl (nI_1 _) (by decide) rfl (fun ls hl => ?_)
            refine lv_goto (tgt := 14) hx hb dd_Model_limit_73 (by decide) ?_
            exact IH14 (j + 1) (0 : Int32) (by omega) (by omega) (by first | exact lo_a hg h34 | exact lo_b p43 h46 | exact lo_c h55 h60 | exact lo_d hg h34 p43 h46 (Or.inl h55) | exact lo_d hg h34 p43 h46 (Or.inr h60)) ls H locs (lv_sub hl [3, 4, 5, 6, 7, 8, 1, 0] rfl) hP hD hS
          · skip
            refine lv_iload hx hb dd_Model_limit_49 (lv_at hl 8 rfl) ?_
            refine lv_aload_n hx hb dd_Model_limit_51 rfl (lv_at hl 1 rfl) ?_
            refine va_get (D := D) (ci := 7) (v := .int (nI n)) (C := RR_Model) (T := FF_Model) (N := 30) hx hb htb hi_Model hown hK hP 0 rfl rfl 1 (by decide) hf_7 (fun _ h9 => h9) rfl dd_Model_limit_52 ?_
            refine lv_icmp_lt (tgt := 63) hx hb dd_Model_limit_55 (by decide) (fun h55 => ?_) (fun h55 => ?_)
            · skip
              have h55 : j < n := (nI_ltI (a := j) (b := n) (by omega) (by omega)).mp h55
              refine lv_iconst (v := 1) hx hb dd_Model_limit_63 (by decide) ?_
              refine lv_goto (tgt := 68) hx hb dd_Model_limit_64 (by decide) ?_
              refine lv_istore (lv' := [(6, .int (1 : Int32)), (8, .int (pk_f j x0 x1 x2 x3)), (0, .ref o), (1, .int x0), (2, .int x1), (3, .int x2), (4, .int x3), (5, .int bo), (7, .int (nI j))]) hx hb dd_Model_limit_68 hl (by decide) rfl (fun ls hl => ?_)
              refine lv_iinc (k := 8) (v := nI (j + 1)) (lv' := [(7, .int (nI (j + 1))), (6, .int (1 : Int32)), (8, .int (pk_f j x0 x1 x2 x3)), (0, .ref o), (1, .int x0), (2, .int x1), (3, .int x2), (4, .int x3), (5, .int bo)]) hx hb dd_Model_limit_70 hl rfl (nI_1 _) (by decide) rfl (fun ls hl => ?_)
              refine lv_goto (tgt := 14) hx hb dd_Model_limit_73 (by decide) ?_
              exact IH14 (j + 1) (1 : Int32) (by omega) (by omega) (by first | exact lo_a hg h34 | exact lo_b p43 h46 | exact lo_c h55 h60 | exact lo_d hg h34 p43 h46 (Or.inl h55) | exact lo_d hg h34 p43 h46 (Or.inr h60)) ls H locs (lv_sub hl [3, 4, 5, 6, 7, 8, 1, 0] rfl) hP hD hS
            · skip
              have h55 : ¬ (j < n) := fun q9 => h55 ((nI_ltI (a := j) (b := n) (by omega) (by omega)).mpr q9)
              refine lv_iload hx hb dd_Model_limit_58 (lv_at hl 0 rfl) ?_
              refine lv_if_ne (tgt := 67) hx hb dd_Model_limit_60 (by decide) (fun h60 => ?_) (fun h60 => ?_)
              · skip
                refine lv_iconst (v := 0) hx hb dd_Model_limit_67 (by decide) ?_
                refine lv_istore (lv' := [(6, .int (0 : Int32)), (8, .int (pk_f j x0 x1 x2 x3)), (0, .ref o), (1, .int x0), (2, .int x1), (3, .int x2), (4, .int x3), (5, .int bo), (7, .int (nI j))]) hx hb dd_Model_limit_68 hl (by decide) rfl (fun ls hl => ?_)
                refine lv_iinc (k := 8) (v := nI (j + 1)) (lv' := [(7, .int (nI (j + 1))), (6, .int (0 : Int32)), (8, .int (pk_f j x0 x1 x2 x3)), (0, .ref o), (1, .int x0), (2, .int x1), (3, .int x2), (4, .int x3), (5, .int bo)]) hx hb dd_Model_limit_70 hl rfl (nI_1 _) (by decide) rfl (fun ls hl => ?_)
                refine lv_goto (tgt := 14) hx hb dd_Model_limit_73 (by decide) ?_
                exact IH14 (j + 1) (0 : Int32) (by omega) (by omega) (by first | exact lo_a hg h34 | exact lo_b p43 h46 | exact lo_c h55 h60 | exact lo_d hg h34 p43 h46 (Or.inl h55) | exact lo_d hg h34 p43 h46 (Or.inr h60)) ls H locs (lv_sub hl [3, 4, 5, 6, 7, 8, 1, 0] rfl) hP hD hS
              · skip
                refine lv_iconst (v := 1) hx hb dd_Model_limit_63 (by decide) ?_
                refine lv_goto (tgt := 68) hx hb dd_Model_limit_64 (by decide) ?_
                refine lv_istore (lv' := [(6, .int (1 : Int32)), (8, .int (pk_f j x0 x1 x2 x3)), (0, .ref o), (1, .int x0), (2, .int x1), (3, .int x2), (4, .int x3), (5, .int bo), (7, .int (nI j))]) hx hb dd_Model_limit_68 hl (by decide) rfl (fun ls hl => ?_)
                refine lv_iinc (k := 8) (v := nI (j + 1)) (lv' := [(7, .int (nI (j + 1))), (6, .int (1 : Int32)), (8, .int (pk_f j x0 x1 x2 x3)), (0, .ref o), (1, .int x0), (2, .int x1), (3, .int x2), (4, .int x3), (5, .int bo)]) hx hb dd_Model_limit_70 hl rfl (nI_1 _) (by decide) rfl (fun ls hl => ?_)
                refine lv_goto (tgt := 14) hx hb dd_Model_limit_73 (by decide) ?_
                exact IH14 (j + 1) (1 : Int32) (by omega) (by omega) (by first | exact lo_a hg h34 | exact lo_b p43 h46 | exact lo_c h55 h60 | exact lo_d hg h34 p43 h46 (Or.inl h55) | exact lo_d hg h34 p43 h46 (Or.inr h60)) ls H locs (lv_sub hl [3, 4, 5, 6, 7, 8, 1, 0] rfl) hP hD hS
  exact J14 _ 0 zr1 (Nat.lt_succ_self _) (by omega) (lo_0 p6) ls H locs (lv_sub hl [2, 3, 4, 5, 6, 7, 1, 0] rfl) hP hD hS
abbrev qq_Model_limitN (D : va_G) (cI cZ cL cQ : ClassId) (o : Nat) (ml : Nat) (mm : Nat) (mw : Nat) (mc : Nat) (mg : Nat) (md : Nat) (mb : Nat) (mt : Nat) (mr : Nat) (mo : Nat) (mx : Nat) (mp : Nat) (nk : Nat) (na : Nat) (nv : Nat) (nf : Nat) (ns : Nat) (ne : Nat) (nw : Nat) (mf : Nat) (thr : Int32) (n : Nat) (k : Nat) (so : Int32) (fo : Int32) (bb : Int64) (bc : Int64) (be : Int64) (rs : Nat) (rc : Nat) (x0 : Int32) (x1 : Int32) (x2 : Int32) (x3 : Int32) (bo : Int32) (A : Nat → Prop) : Array Value → State → Outcome → State → Prop := va_Qi (fun (r : Int32) (u : Int32) => (¬ lw_ok n x0 x1 x2 x3 bo 4 → u = 1) ∧ (lw_ok n x0 x1 x2 x3 bo 4 → k = 6 → u = 2)) (fun (u : Int32) t => mm_B D kc_all [(cI, .int), (cZ, .boolean), (cL, .long), (cQ, .array .int)] A [(o, .inr (7, [.int u, .int (nI n), .ref ml, .ref mm, .ref mw, .ref mc, .int (nI k), .ref mg, .ref md, .int so, .int fo, .ref mb, .long bb, .long bc, .ref mt, .long be, .ref mr, .int (nI rs), .ref mo, .int (nI rc), .ref mx, .ref mp, .ref nk, .ref na, .ref nv, .ref nf, .ref ns, .ref ne, .ref nw, .ref mf]))] t) A
set_option maxHeartbeats 4000000 in
set_option maxRecDepth 100000 in
theorem cc_Model_limitN (l : Launch) (D : va_G) (cI cZ cL cQ : ClassId) (sz : Nat) (o : Nat) (ml : Nat) (mm : Nat) (mw : Nat) (mc : Nat) (mg : Nat) (md : Nat) (mb : Nat) (mt : Nat) (mr : Nat) (mo : Nat) (mx : Nat) (mp : Nat) (nk : Nat) (na : Nat) (nv : Nat) (nf : Nat) (ns : Nat) (ne : Nat) (nw : Nat) (mf : Nat) (thr : Int32) (n : Nat) (k : Nat) (so : Int32) (fo : Int32) (bb : Int64) (bc : Int64) (be : Int64) (rs : Nat) (rc : Nat) (x0 : Int32) (x1 : Int32) (x2 : Int32) (x3 : Int32) (bo : Int32) (hn : n ≤ 4) (hk : k ≤ 6) (hno : ¬ (lw_ok n x0 x1 x2 x3 bo 4 ∧ ¬ k = 6)) : Met l yy_Model_limit ww_Model_limit ({ frames := 1, cells := 0, slots := 0, locals := 24 } : Room) (mm_Pc D kc_all [(cI, .int), (cZ, .boolean), (cL, .long), (cQ, .array .int)] sz [(o, .inr (7, [.int thr, .int (nI n), .ref ml, .ref mm, .ref mw, .ref mc, .int (nI k), .ref mg, .ref md, .int so, .int fo, .ref mb, .long bb, .long bc, .ref mt, .long be, .ref mr, .int (nI rs), .ref mo, .int (nI rc), .ref mx, .ref mp, .ref nk, .ref na, .ref nv, .ref nf, .ref ns, .ref ne, .ref nw, .ref mf]))] [.ref o, .int x0, .int x1, .int x2, .int x3, .int bo]) (qq_Model_limitN D cI cZ cL cQ o ml mm mw mc mg md mb mt mr mo mx mp nk na nv nf ns ne nw mf thr n k so fo bb bc be rs rc x0 x1 x2 x3 bo (va_A [(o, .inr (7, [.int thr, .int (nI n), .ref ml, .ref mm, .ref mw, .ref mc, .int (nI k), .ref mg, .ref md, .int so, .int fo, .ref mb, .long bb, .long bc, .ref mt, .long be, .ref mr, .int (nI rs), .ref mo, .int (nI rc), .ref mx, .ref mp, .ref nk, .ref na, .ref nv, .ref nf, .ref ns, .ref ne, .ref nw, .ref mf]))] sz)) 0 0 (va_A [(o, .inr (7, [.int thr, .int (nI n), .ref ml, .ref mm, .ref mw, .ref mc, .int (nI k), .ref mg, .ref md, .int so, .int fo, .ref mb, .long bb, .long bc, .ref mt, .long be, .ref mr, .int (nI rs), .ref mo, .int (nI rc), .ref mx, .ref mp, .ref nk, .ref na, .ref nv, .ref nf, .ref ns, .ref ne, .ref nw, .ref mf]))] sz) := by
  refine Met.ofW (cc := bb_Model_limit) (maxL := 9) (ret := (some .int)) (by decide) rfl ?_
  intro p e s m args below meth c s₁ B hml hv
  obtain ⟨rfl, hsz, hP, hK, hD0⟩ := hv
  have hx := B.exec
  have hb := B.bytes
  have hr := B.returns
  have hts := atoms_spec (ws := ww_Model_limit) B.pre
  have hown : s.vm.findClass RR_Model = some m.cls := findClass_of_methodNamed B.named
  have hlocks := B.notSynchronized
  subst hsz
  have hD := hD0.self (sz := s.heap.size)
  generalize hAe : va_A [(o, .inr (7, [.int thr, .int (nI n), .ref ml, .ref mm, .ref mw, .ref mc, .int (nI k), .ref mg, .ref md, .int so, .int fo, .ref mb, .long bb, .long bc, .ref mt, .long be, .ref mr, .int (nI rs), .ref mo, .int (nI rc), .ref mx, .ref mp, .ref nk, .ref na, .ref nv, .ref nf, .ref ns, .ref ne, .ref nw, .ref mf]))] s.heap.size = A at hD ⊢
  have hA : ∀ q : Nat, s.heap.size ≤ q → A q := fun q h => by rw [← hAe]; exact Or.inr h
  have hS : va_S A s.heap s.heap [] := va_S.rf
  have hP : va_P D kc_all [(o, .inr (7, [.int thr, .int (nI n), .ref ml, .ref mm, .ref mw, .ref mc, .int (nI k), .ref mg, .ref md, .int so, .int fo, .ref mb, .long bb, .long bc, .ref mt, .long be, .ref mr, .int (nI rs), .ref mo, .int (nI rc), .ref mx, .ref mp, .ref nk, .ref na, .ref nv, .ref nf, .ref ns, .ref ne, .ref nw, .ref mf]))] s.heap := hP
  have hl := lv_entry ([.ref o, .int x0, .int x1, .int x2, .int x3, .int bo]) (n := 9) (Nat.le_of_ble_eq_true rfl)
  rw [lg_entry_eq]
  generalize (lg_sl ([.ref o, .int x0, .int x1, .int x2, .int x3, .int bo]) ++ List.replicate (9 - (lg_sl ([.ref o, .int x0, .int x1, .int x2, .int x3, .int bo])).length) Slot.unset).toArray = ls at hl ⊢
  have hl : lv_has ls 9 [(0, .ref o), (1, .int x0), (2, .int x1), (3, .int x2), (4, .int x3), (5, .int bo)] := hl
  have htb : ∀ w ∈ tb_all, w.before ([.ref o, .int x0, .int x1, .int x2, .int x3, .int bo]).toArray s = true := fun w h => hts w (List.mem_cons_of_mem _ h)
  have hf_7 := htb _ fl_Model_7
  have hf_27 := htb _ fl_Model_27
  have hf_30 := htb _ fl_Model_30
  have hf_76 := htb _ fl_Model_76
  have hf_83 := htb _ fl_Model_83
  have hf_86 := htb _ fl_Model_86
  refine lv_iload hx hb dd_Model_limit_0 (lv_at hl 5 rfl) ?_
  refine lv_bipush (v := (-99)) hx hb dd_Model_limit_2 (by decide) ?_
  refine lv_bipush (v := 99) hx hb dd_Model_limit_4 (by decide) ?_
  refine mm_i (wc := []) (wr := [(o, .inr (7, [.int thr, .int (nI n), .ref ml, .ref mm, .ref mw, .ref mc, .int (nI k), .ref mg, .ref md, .int so, .int fo, .ref mb, .long bb, .long bc, .ref mt, .long be, .ref mr, .int (nI rs), .ref mo, .int (nI rc), .ref mx, .ref mp, .ref nk, .ref na, .ref nv, .ref nf, .ref ns, .ref ne, .ref nw, .ref mf]))]) (va_runS (As := [.int bo, .int (-99 : Int32), .int (99 : Int32)]) (rest := []) ⟨hx, hb, hml, hown, hts⟩ (cc_Model_isIn l D cI cZ cL cQ _ bo (-99 : Int32) (99 : Int32) ) (mm_cwS 3 hts ml_Model_79 sm_Model_isIn ic_Model cd_Model_isIn rfl rfl (by decide +kernel) ⟨Nat.le_of_ble_eq_true rfl, Nat.le_of_ble_eq_true rfl⟩) (mm_preS hK hP hD [] (by decide) rfl) rfl rfl hl.1 rfl (lv_room (Nat.le_of_ble_eq_true rfl)) dd_Model_limit_6 ⟨Nat.zero_le _, Nat.zero_le _⟩) hP hD hS hA [] [0] rfl rfl (by decide) (by decide) (fun zr1 zu2 H locs p6 hP hD hS => ?_)
  have hP : va_P D kc_all [(o, .inr (7, [.int thr, .int (nI n), .ref ml, .ref mm, .ref mw, .ref mc, .int (nI k), .ref mg, .ref md, .int so, .int fo, .ref mb, .long bb, .long bc, .ref mt, .long be, .ref mr, .int (nI rs), .ref mo, .int (nI rc), .ref mx, .ref mp, .ref nk, .ref na, .ref nv, .ref nf, .ref ns, .ref ne, .ref nw, .ref mf]))] H := hP
  have hD : va_D A [(o, .inr (7, [.int thr, .int (nI n), .ref ml, .ref mm, .ref mw, .ref mc, .int (nI k), .ref mg, .ref md, .int so, .int fo, .ref mb, .long bb, .long bc, .ref mt, .long be, .ref mr, .int (nI rs), .ref mo, .int (nI rc), .ref mx, .ref mp, .ref nk, .ref na, .ref nv, .ref nf, .ref ns, .ref ne, .ref nw, .ref mf]))] := hD
  have p6 : tl_ok (in_ok bo (-99 : Int32) (99 : Int32)) zr1 := p6
  refine lv_istore (lv' := [(6, .int zr1), (0, .ref o), (1, .int x0), (2, .int x1), (3, .int x2), (4, .int x3), (5, .int bo)]) hx hb dd_Model_limit_9 hl (by decide) rfl (fun ls hl => ?_)
  refine lv_iconst (v := 0) hx hb dd_Model_limit_11 (by decide) ?_
  refine lv_istore (lv' := [(7, .int (0 : Int32)), (6, .int zr1), (0, .ref o), (1, .int x0), (2, .int x1), (3, .int x2), (4, .int x3), (5, .int bo)]) hx hb dd_Model_limit_12 hl (by decide) rfl (fun ls hl => ?_)
  have J14 : ∀ (N : Nat) (j : Nat) (g9 : Int32), (4 - j) < N → ∀ (hj : j ≤ 4) (hg : tl_ok (lw_ok n x0 x1 x2 x3 bo j) g9), ∀ (ls : Array Slot) (H : Heap) (locs : List Loc), lv_has ls 9 [(0, .ref o), (1, .int x0), (2, .int x1), (3, .int x2), (4, .int x3), (5, .int bo), (6, .int g9), (7, .int (nI j))] → va_P D kc_all [(o, .inr (7, [.int thr, .int (nI n), .ref ml, .ref mm, .ref mw, .ref mc, .int (nI k), .ref mg, .ref md, .int so, .int fo, .ref mb, .long bb, .long bc, .ref mt, .long be, .ref mr, .int (nI rs), .ref mo, .int (nI rc), .ref mx, .ref mp, .ref nk, .ref na, .ref nv, .ref nf, .ref ns, .ref ne, .ref nw, .ref mf]))] H → va_D A [(o, .inr (7, [.int thr, .int (nI n), .ref ml, .ref mm, .ref mw, .ref mc, .int (nI k), .ref mg, .ref md, .int so, .int fo, .ref mb, .long bb, .long bc, .ref mt, .long be, .ref mr, .int (nI rs), .ref mo, .int (nI rc), .ref mx, .ref mp, .ref nk, .ref na, .ref nv, .ref nf, .ref ns, .ref ne, .ref nw, .ref mf]))] → va_S A s.heap H locs → W p l e (headSpec ww_Model_limit ({ frames := 1, cells := 0, slots := 0, locals := 24 } : Room)).room s m ([.ref o, .int x0, .int x1, .int x2, .int x3, .int bo]).toArray below meth c H locs 0 0 (MQ below (qq_Model_limitN D cI cZ cL cQ o ml mm mw mc mg md mb mt mr mo mx mp nk na nv nf ns ne nw mf thr n k so fo bb bc be rs rc x0 x1 x2 x3 bo A) ([.ref o, .int x0, .int x1, .int x2, .int x3, .int bo]).toArray s 0 0 A) (F0 m 14 ls []) := by
    intro N
    induction N with
    | zero => intro j g9 hN9; exact absurd hN9 (Nat.not_lt_zero _)
    | succ N IH14 =>
      intro j g9 hN9 hj hg ls H locs hl hP hD hS
      refine lv_iload hx hb dd_Model_limit_14 (lv_at hl 7 rfl) ?_
      refine lv_iconst (v := 4) hx hb dd_Model_limit_16 (by decide) ?_
      refine lv_icmp_ge (tgt := 76) hx hb dd_Model_limit_17 (by decide) (fun h17 => ?_) (fun h17 => ?_)
      · skip
        have h17 : 4 ≤ j := (nI_leI (a := 4) (b := j) (by omega) (by omega)).mp h17
        have hg4 : tl_ok (lw_ok n x0 x1 x2 x3 bo 4) g9 := by rw [show 4 = j by omega]; exact hg
        refine lv_aload_n hx hb dd_Model_limit_76 rfl (lv_at hl 0 rfl) ?_
        refine lv_iload hx hb dd_Model_limit_77 (lv_at hl 6 rfl) ?_
        refine lv_if_ne (tgt := 86) hx hb dd_Model_limit_79 (by decide) (fun h79 => ?_) (fun h79 => ?_)
        · skip
          refine lv_aload_n hx hb dd_Model_limit_86 rfl (lv_at hl 0 rfl) ?_
          refine va_get (D := D) (ci := 7) (v := .int (nI k)) (C := RR_Model) (T := FF_Model) (N := 30) hx hb htb hi_Model hown hK hP 0 rfl rfl 6 (by decide) hf_83 (fun _ h9 => h9) rfl dd_Model_limit_87 ?_
          refine lv_bipush (v := 6) hx hb dd_Model_limit_90 (by decide) ?_
          refine lv_icmp_ne (tgt := 99) hx hb dd_Model_limit_92 (by decide) (fun h92 => ?_) (fun h92 => ?_)
          · skip
            have h92 : ¬ (k = 6) := fun q9 => h92 ((nI_eq (a := k) (b := 6) (by omega) (by omega)).mpr q9)
            exact absurd ⟨tl_1 hg4 h79, h92⟩ hno
          · skip
            have h92 : k = 6 := (nI_eq (a := k) (b := 6) (by omega) (by omega)).mp h92
            refine lv_iconst (v := 2) hx hb dd_Model_limit_95 (by decide) ?_
            refine lv_goto (tgt := 100) hx hb dd_Model_limit_96 (by decide) ?_
            refine va_put (D := D) (ci := 7) (v := .int (2 : Int32)) (ty := .int) (C := RR_Model) (T := FF_Model) (N := 30) hx hb htb hi_Model tt_Model tt_Model_ok nn_Model hown hK hP hD hS 0 rfl rfl 0 (by decide) hf_76 (fun _ h9 => h9) rfl (by decide +kernel) (rfl) (rfl) (Nat.le_of_ble_eq_true rfl) dd_Model_limit_100 (fun H locs hP hD hS => ?_)
            have hP : va_P D kc_all [(o, .inr (7, [.int (2 : Int32), .int (nI n), .ref ml, .ref mm, .ref mw, .ref mc, .int (nI k), .ref mg, .ref md, .int so, .int fo, .ref mb, .long bb, .long bc, .ref mt, .long be, .ref mr, .int (nI rs), .ref mo, .int (nI rc), .ref mx, .ref mp, .ref nk, .ref na, .ref nv, .ref nf, .ref ns, .ref ne, .ref nw, .ref mf]))] H := hP
            have hD : va_D A [(o, .inr (7, [.int (2 : Int32), .int (nI n), .ref ml, .ref mm, .ref mw, .ref mc, .int (nI k), .ref mg, .ref md, .int so, .int fo, .ref mb, .long bb, .long bc, .ref mt, .long be, .ref mr, .int (nI rs), .ref mo, .int (nI rc), .ref mx, .ref mp, .ref nk, .ref na, .ref nv, .ref nf, .ref ns, .ref ne, .ref nw, .ref mf]))] := hD
            refine lv_aload_n hx hb dd_Model_limit_103 rfl (lv_at hl 0 rfl) ?_
            refine va_get (D := D) (ci := 7) (v := .int (2 : Int32)) (C := RR_Model) (T := FF_Model) (N := 30) hx hb htb hi_Model hown hK hP 0 rfl rfl 0 (by decide) hf_76 (fun _ h9 => h9) rfl dd_Model_limit_104 ?_
            refine lv_if_le (tgt := 112) hx hb dd_Model_limit_107 (by decide) (fun h107 => ?_) (fun h107 => ?_)
            · skip
              have h107 : 2 ≤ 0 := (nI_leI (a := 2) (b := 0) (by omega) (by omega)).mp h107
              omega
            · skip
              have h107 : ¬ (2 ≤ 0) := fun q9 => h107 ((nI_leI (a := 2) (b := 0) (by omega) (by omega)).mpr q9)
              refine lv_iconst (v := 0) hx hb dd_Model_limit_110 (by decide) ?_
              exact W.iret (v := (0 : Int32)) hx hb hr (fun t ht hW => ⟨⟨(0 : Int32), (2 : Int32), rfl, by first | exact ⟨fun _ => rfl, fun q => absurd q (tl_0 hg4 h79)⟩ | exact ⟨fun q => absurd (tl_1 hg4 h79) q, fun _ _ => rfl⟩, by rw [ht]; exact hP, va_K.moved hW.alike hK, hD⟩, hS.F ht⟩) hS.2.2 dd_Model_limit_111
        · skip
          refine lv_iconst (v := 1) hx hb dd_Model_limit_82 (by decide) ?_
          refine lv_goto (tgt := 100) hx hb dd_Model_limit_83 (by decide) ?_
          refine va_put (D := D) (ci := 7) (v := .int (1 : Int32)) (ty := .int) (C := RR_Model) (T := FF_Model) (N := 30) hx hb htb hi_Model tt_Model tt_Model_ok nn_Model hown hK hP hD hS 0 rfl rfl 0 (by decide) hf_76 (fun _ h9 => h9) rfl (by decide +kernel) (rfl) (rfl) (Nat.le_of_ble_eq_true rfl) dd_Model_limit_100 (fun H locs hP hD hS => ?_)
          have hP : va_P D kc_all [(o, .inr (7, [.int (1 : Int32), .int (nI n), .ref ml, .ref mm, .ref mw, .ref mc, .int (nI k), .ref mg, .ref md, .int so, .int fo, .ref mb, .long bb, .long bc, .ref mt, .long be, .ref mr, .int (nI rs), .ref mo, .int (nI rc), .ref mx, .ref mp, .ref nk, .ref na, .ref nv, .ref nf, .ref ns, .ref ne, .ref nw, .ref mf]))] H := hP
          have hD : va_D A [(o, .inr (7, [.int (1 : Int32), .int (nI n), .ref ml, .ref mm, .ref mw, .ref mc, .int (nI k), .ref mg, .ref md, .int so, .int fo, .ref mb, .long bb, .long bc, .ref mt, .long be, .ref mr, .int (nI rs), .ref mo, .int (nI rc), .ref mx, .ref mp, .ref nk, .ref na, .ref nv, .ref nf, .ref ns, .ref ne, .ref nw, .ref mf]))] := hD
          refine lv_aload_n hx hb dd_Model_limit_103 rfl (lv_at hl 0 rfl) ?_
          refine va_get (D := D) (ci := 7) (v := .int (1 : Int32)) (C := RR_Model) (T := FF_Model) (N := 30) hx hb htb hi_Model hown hK hP 0 rfl rfl 0 (by decide) hf_76 (fun _ h9 => h9) rfl dd_Model_limit_104 ?_
          refine lv_if_le (tgt := 112) hx hb dd_Model_limit_107 (by decide) (fun h107 => ?_) (fun h107 => ?_)
          · skip
            have h107 : 1 ≤ 0 := (nI_leI (a := 1) (b := 0) (by omega) (by omega)).mp h107
            omega
          · skip
            have h107 : ¬ (1 ≤ 0) := fun q9 => h107 ((nI_leI (a := 1) (b := 0) (by omega) (by omega)).mpr q9)
            refine lv_iconst (v := 0) hx hb dd_Model_limit_110 (by decide) ?_
            exact W.iret (v := (0 : Int32)) hx hb hr (fun t ht hW => ⟨⟨(0 : Int32), (1 : Int32), rfl, by first | exact ⟨fun _ => rfl, fun q => absurd q (tl_0 hg4 h79)⟩ | exact ⟨fun q => absurd (tl_1 hg4 h79) q, fun _ _ => rfl⟩, by rw [ht]; exact hP, va_K.moved hW.alike hK, hD⟩, hS.F ht⟩) hS.2.2 dd_Model_limit_111
      · skip
        have h17 : ¬ (4 ≤ j) := fun q9 => h17 ((nI_leI (a := 4) (b := j) (by omega) (by omega)).mpr q9)
        refine lv_iload hx hb dd_Model_limit_20 (lv_at hl 7 rfl) ?_
        refine lv_iload_n hx hb dd_Model_limit_22 rfl (lv_at hl 1 rfl) ?_
        refine lv_iload_n hx hb dd_Model_limit_23 rfl (lv_at hl 2 rfl) ?_
        refine lv_iload_n hx hb dd_Model_limit_24 rfl (lv_at hl 3 rfl) ?_
        refine lv_iload hx hb dd_Model_limit_25 (lv_at hl 4 rfl) ?_
        refine mm_i (wc := []) (wr := [(o, .inr (7, [.int thr, .int (nI n), .ref ml, .ref mm, .ref mw, .ref mc, .int (nI k), .ref mg, .ref md, .int so, .int fo, .ref mb, .long bb, .long bc, .ref mt, .long be, .ref mr, .int (nI rs), .ref mo, .int (nI rc), .ref mx, .ref mp, .ref nk, .ref na, .ref nv, .ref nf, .ref ns, .ref ne, .ref nw, .ref mf]))]) (va_runS (As := [.int (nI j), .int x0, .int x1, .int x2, .int x3]) (rest := []) ⟨hx, hb, hml, hown, hts⟩ (cc_Model_pick l D cI cZ cL cQ _ j x0 x1 x2 x3 (by omega)) (mm_cwS 5 hts ml_Model_89 sm_Model_pick ic_Model cd_Model_pick rfl rfl (by decide +kernel) ⟨Nat.le_of_ble_eq_true rfl, Nat.le_of_ble_eq_true rfl⟩) (mm_preS hK hP hD [] (by decide) rfl) rfl rfl hl.1 rfl (lv_room (Nat.le_of_ble_eq_true rfl)) dd_Model_limit_27 ⟨Nat.zero_le _, Nat.zero_le _⟩) hP hD hS hA [] [0] rfl rfl (by decide) (by decide) (fun zr3 zu4 H locs p27 hP hD hS => ?_)
        have hP : va_P D kc_all [(o, .inr (7, [.int thr, .int (nI n), .ref ml, .ref mm, .ref mw, .ref mc, .int (nI k), .ref mg, .ref md, .int so, .int fo, .ref mb, .long bb, .long bc, .ref mt, .long be, .ref mr, .int (nI rs), .ref mo, .int (nI rc), .ref mx, .ref mp, .ref nk, .ref na, .ref nv, .ref nf, .ref ns, .ref ne, .ref nw, .ref mf]))] H := hP
        have hD : va_D A [(o, .inr (7, [.int thr, .int (nI n), .ref ml, .ref mm, .ref mw, .ref mc, .int (nI k), .ref mg, .ref md, .int so, .int fo, .ref mb, .long bb, .long bc, .ref mt, .long be, .ref mr, .int (nI rs), .ref mo, .int (nI rc), .ref mx, .ref mp, .ref nk, .ref na, .ref nv, .ref nf, .ref ns, .ref ne, .ref nw, .ref mf]))] := hD
        have p27 : zr3 = pk_f j x0 x1 x2 x3 := p27
        refine mm_topi (y := pk_f j x0 x1 x2 x3) (p27) ?_
        refine lv_istore (lv' := [(8, .int (pk_f j x0 x1 x2 x3)), (0, .ref o), (1, .int x0), (2, .int x1), (3, .int x2), (4, .int x3), (5, .int bo), (6, .int g9), (7, .int (nI j))]) hx hb dd_Model_limit_30 hl (by decide) rfl (fun ls hl => ?_)
        refine lv_iload hx hb dd_Model_limit_32 (lv_at hl 7 rfl) ?_
        refine lv_if_eq (tgt := 67) hx hb dd_Model_limit_34 (by decide) (fun h34 => ?_) (fun h34 => ?_)
        · skip
          refine lv_iconst (v := 0) hx hb dd_Model_limit_67 (by decide) ?_
          refine lv_istore (lv' := [(6, .int (0 : Int32)), (8, .int (pk_f j x0 x1 x2 x3)), (0, .ref o), (1, .int x0), (2, .int x1), (3, .int x2), (4, .int x3), (5, .int bo), (7, .int (nI j))]) hx hb dd_Model_limit_68 hl (by decide) rfl (fun ls hl => ?_)
          refine lv_iinc (k := 8) (v := nI (j + 1)) (lv' := [(7, .int (nI (j + 1))), (6, .int (0 : Int32)), (8, .int (pk_f j x0 x1 x2 x3)), (0, .ref o), (1, .int x0), (2, .int x1), (3, .int x2), (4, .int x3), (5, .int bo)]) hx hb dd_Model_limit_70 hl rfl (nI_1 _) (by decide) rfl (fun ls hl => ?_)
          refine lv_goto (tgt := 14) hx hb dd_Model_limit_73 (by decide) ?_
          exact IH14 (j + 1) (0 : Int32) (by omega) (by omega) (by first | exact lo_a hg h34 | exact lo_b p43 h46 | exact lo_c h55 h60 | exact lo_d hg h34 p43 h46 (Or.inl h55) | exact lo_d hg h34 p43 h46 (Or.inr h60)) ls H locs (lv_sub hl [3, 4, 5, 6, 7, 8, 1, 0] rfl) hP hD hS
        · skip
          refine lv_iload hx hb dd_Model_limit_37 (lv_at hl 0 rfl) ?_
          refine lv_bipush (v := (-9)) hx hb dd_Model_limit_39 (by decide) ?_
          refine lv_bipush (v := 9) hx hb dd_Model_limit_41 (by decide) ?_
          refine mm_i (wc := []) (wr := [(o, .inr (7, [.int thr, .int (nI n), .ref ml, .ref mm, .ref mw, .ref mc, .int (nI k), .ref mg, .ref md, .int so, .int fo, .ref mb, .long bb, .long bc, .ref mt, .long be, .ref mr, .int (nI rs), .ref mo, .int (nI rc), .ref mx, .ref mp, .ref nk, .ref na, .ref nv, .ref nf, .ref ns, .ref ne, .ref nw, .ref mf]))]) (va_runS (As := [.int (pk_f j x0 x1 x2 x3), .int (-9 : Int32), .int (9 : Int32)]) (rest := []) ⟨hx, hb, hml, hown, hts⟩ (cc_Model_isIn l D cI cZ cL cQ _ (pk_f j x0 x1 x2 x3) (-9 : Int32) (9 : Int32) ) (mm_cwS 3 hts ml_Model_79 sm_Model_isIn ic_Model cd_Model_isIn rfl rfl (by decide +kernel) ⟨Nat.le_of_ble_eq_true rfl, Nat.le_of_ble_eq_true rfl⟩) (mm_preS hK hP hD [] (by decide) rfl) rfl rfl hl.1 rfl (lv_room (Nat.le_of_ble_eq_true rfl)) dd_Model_limit_43 ⟨Nat.zero_le _, Nat.zero_le _⟩) hP hD hS hA [] [0] rfl rfl (by decide) (by decide) (fun zr5 zu6 H locs p43 hP hD hS => ?_)
          have hP : va_P D kc_all [(o, .inr (7, [.int thr, .int (nI n), .ref ml, .ref mm, .ref mw, .ref mc, .int (nI k), .ref mg, .ref md, .int so, .int fo, .ref mb, .long bb, .long bc, .ref mt, .long be, .ref mr, .int (nI rs), .ref mo, .int (nI rc), .ref mx, .ref mp, .ref nk, .ref na, .ref nv, .ref nf, .ref ns, .ref ne, .ref nw, .ref mf]))] H := hP
          have hD : va_D A [(o, .inr (7, [.int thr, .int (nI n), .ref ml, .ref mm, .ref mw, .ref mc, .int (nI k), .ref mg, .ref md, .int so, .int fo, .ref mb, .long bb, .long bc, .ref mt, .long be, .ref mr, .int (nI rs), .ref mo, .int (nI rc), .ref mx, .ref mp, .ref nk, .ref na, .ref nv, .ref nf, .ref ns, .ref ne, .ref nw, .ref mf]))] := hD
          have p43 : tl_ok (in_ok (pk_f j x0 x1 x2 x3) (-9 : Int32) (9 : Int32)) zr5 := p43
          refine lv_if_eq (tgt := 67) hx hb dd_Model_limit_46 (by decide) (fun h46 => ?_) (fun h46 => ?_)
          · skip
            refine lv_iconst (v := 0) hx hb dd_Model_limit_67 (by decide) ?_
            refine lv_istore (lv' := [(6, .int (0 : Int32)), (8, .int (pk_f j x0 x1 x2 x3)), (0, .ref o), (1, .int x0), (2, .int x1), (3, .int x2), (4, .int x3), (5, .int bo), (7, .int (nI j))]) hx hb dd_Model_limit_68 hl (by decide) rfl (fun ls hl => ?_)
            refine lv_iinc (k := 8) (v := nI (j + 1)) (lv' := [(7, .int (nI (j + 1))), (6, .int (0 : Int32)), (8, .int (pk_f j x0 x1 x2 x3)), (0, .ref o), (1, .int x0), (2, .int x1), (3, .int x2), (4, .int x3), (5, .int bo)]) hx hb dd_Model_limit_70 hl rfl (nI_1 _) (by decide) rfl (fun ls hl => ?_)
            refine lv_goto (tgt := 14) hx hb dd_Model_limit_73 (by decide) ?_
            exact IH14 (j + 1) (0 : Int32) (by omega) (by omega) (by first | exact lo_a hg h34 | exact lo_b p43 h46 | exact lo_c h55 h60 | exact lo_d hg h34 p43 h46 (Or.inl h55) | exact lo_d hg h34 p43 h46 (Or.inr h60)) ls H locs (lv_sub hl [3, 4, 5, 6, 7, 8, 1, 0] rfl) hP hD hS
          · skip
            refine lv_iload hx hb dd_Model_limit_49 (lv_at hl 8 rfl) ?_
            refine lv_aload_n hx hb dd_Model_limit_51 rfl (lv_at hl 1 rfl) ?_
            refine va_get (D := D) (ci := 7) (v := .int (nI n)) (C := RR_Model) (T := FF_Model) (N := 30) hx hb htb hi_Model hown hK hP 0 rfl rfl 1 (by decide) hf_7 (fun _ h9 => h9) rfl dd_Model_limit_52 ?_
            refine lv_icmp_lt (tgt := 63) hx hb dd_Model_limit_55 (by decide) (fun h55 => ?_) (fun h55 => ?_)
            · skip
              have h55 : j < n := (nI_ltI (a := j) (b := n) (by omega) (by omega)).mp h55
              refine lv_iconst (v := 1) hx hb dd_Model_limit_63 (by decide) ?_
              refine lv_goto (tgt := 68) hx hb dd_Model_limit_64 (by decide) ?_
              refine lv_istore (lv' := [(6, .int (1 : Int32)), (8, .int (pk_f j x0 x1 x2 x3)), (0, .ref o), (1, .int x0), (2, .int x1), (3, .int x2), (4, .int x3), (5, .int bo), (7, .int (nI j))]) hx hb dd_Model_limit_68 hl (by decide) rfl (fun ls hl => ?_)
              refine lv_iinc (k := 8) (v := nI (j + 1)) (lv' := [(7, .int (nI (j + 1))), (6, .int (1 : Int32)), (8, .int (pk_f j x0 x1 x2 x3)), (0, .ref o), (1, .int x0), (2, .int x1), (3, .int x2), (4, .int x3), (5, .int bo)]) hx hb dd_Model_limit_70 hl rfl (nI_1 _) (by decide) rfl (fun ls hl => ?_)
              refine lv_goto (tgt := 14) hx hb dd_Model_limit_73 (by decide) ?_
              exact IH14 (j + 1) (1 : Int32) (by omega) (by omega) (by first | exact lo_a hg h34 | exact lo_b p43 h46 | exact lo_c h55 h60 | exact lo_d hg h34 p43 h46 (Or.inl h55) | exact lo_d hg h34 p43 h46 (Or.inr h60)) ls H locs (lv_sub hl [3, 4, 5, 6, 7, 8, 1, 0] rfl) hP hD hS
            · skip
              have h55 : ¬ (j < n) := fun q9 => h55 ((nI_ltI (a := j) (b := n) (by omega) (by omega)).mpr q9)
              refine lv_iload hx hb dd_Model_limit_58 (lv_at hl 0 rfl) ?_
              refine lv_if_ne (tgt := 67) hx hb dd_Model_limit_60 (by decide) (fun h60 => ?_) (fun h60 => ?_)
              · skip
                refine lv_iconst (v := 0) hx hb dd_Model_limit_67 (by decide) ?_
                refine lv_istore (lv' := [(6, .int (0 : Int32)), (8, .int (pk_f j x0 x1 x2 x3)), (0, .ref o), (1, .int x0), (2, .int x1), (3, .int x2), (4, .int x3), (5, .int bo), (7, .int (nI j))]) hx hb dd_Model_limit_68 hl (by decide) rfl (fun ls hl => ?_)
                refine lv_iinc (k := 8) (v := nI (j + 1)) (lv' := [(7, .int (nI (j + 1))), (6, .int (0 : Int32)), (8, .int (pk_f j x0 x1 x2 x3)), (0, .ref o), (1, .int x0), (2, .int x1), (3, .int x2), (4, .int x3), (5, .int bo)]) hx hb dd_Model_limit_70 hl rfl (nI_1 _) (by decide) rfl (fun ls hl => ?_)
                refine lv_goto (tgt := 14) hx hb dd_Model_limit_73 (by decide) ?_
                exact IH14 (j + 1) (0 : Int32) (by omega) (by omega) (by first | exact lo_a hg h34 | exact lo_b p43 h46 | exact lo_c h55 h60 | exact lo_d hg h34 p43 h46 (Or.inl h55) | exact lo_d hg h34 p43 h46 (Or.inr h60)) ls H locs (lv_sub hl [3, 4, 5, 6, 7, 8, 1, 0] rfl) hP hD hS
              · skip
                refine lv_iconst (v := 1) hx hb dd_Model_limit_63 (by decide) ?_
                refine lv_goto (tgt := 68) hx hb dd_Model_limit_64 (by decide) ?_
                refine lv_istore (lv' := [(6, .int (1 : Int32)), (8, .int (pk_f j x0 x1 x2 x3)), (0, .ref o), (1, .int x0), (2, .int x1), (3, .int x2), (4, .int x3), (5, .int bo), (7, .int (nI j))]) hx hb dd_Model_limit_68 hl (by decide) rfl (fun ls hl => ?_)
                refine lv_iinc (k := 8) (v := nI (j + 1)) (lv' := [(7, .int (nI (j + 1))), (6, .int (1 : Int32)), (8, .int (pk_f j x0 x1 x2 x3)), (0, .ref o), (1, .int x0), (2, .int x1), (3, .int x2), (4, .int x3), (5, .int bo)]) hx hb dd_Model_limit_70 hl rfl (nI_1 _) (by decide) rfl (fun ls hl => ?_)
                refine lv_goto (tgt := 14) hx hb dd_Model_limit_73 (by decide) ?_
                exact IH14 (j + 1) (1 : Int32) (by omega) (by omega) (by first | exact lo_a hg h34 | exact lo_b p43 h46 | exact lo_c h55 h60 | exact lo_d hg h34 p43 h46 (Or.inl h55) | exact lo_d hg h34 p43 h46 (Or.inr h60)) ls H locs (lv_sub hl [3, 4, 5, 6, 7, 8, 1, 0] rfl) hP hD hS
  exact J14 _ 0 zr1 (Nat.lt_succ_self _) (by omega) (lo_0 p6) ls H locs (lv_sub hl [2, 3, 4, 5, 6, 7, 1, 0] rfl) hP hD hS
