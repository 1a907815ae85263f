abbrev qq_Planner_isWeightP (D : va_G) (cI cZ cL cQ : ClassId) (pl : Nat) (tl : Nat) (a : Nat) (mi : Nat) (sr : Nat) (tr : Nat) (pf : Nat) (xb : Nat) (so : Int32) (sl : Int32) (al : Nat) (am : Nat) (aw : Nat) (ac : Nat) (ag : Nat) (ab : Nat) (n : Nat) (k : Nat) (j : Nat) (x : Int32) (A : Nat → Prop) : Array Value → State → Outcome → State → Prop := va_Qi (fun (r : Int32) (u : Unit) => tl_ok (wg_ok n j x) r) (fun (u : Unit) t => True) A
set_option maxHeartbeats 4000000 in
set_option maxRecDepth 100000 in
theorem cc_Planner_isWeightP (l : Launch) (D : va_G) (cI cZ cL cQ : ClassId) (sz : Nat) (pl : Nat) (tl : Nat) (a : Nat) (mi : Nat) (sr : Nat) (tr : Nat) (pf : Nat) (xb : Nat) (so : Int32) (sl : Int32) (al : Nat) (am : Nat) (aw : Nat) (ac : Nat) (ag : Nat) (ab : Nat) (n : Nat) (k : Nat) (j : Nat) (x : Int32) (hn : n ≤ 4) (hj : j < 4) : Met l yy_Planner_isWeight ww_Planner_isWeight ({ frames := 1, cells := 0, slots := 0, locals := 21 } : Room) (mm_Pc D kc_all [(cI, .int), (cZ, .boolean), (cL, .long), (cQ, .array .int)] sz [(pl, .inr (6, [.ref a, .ref mi, .ref sr, .ref tr, .ref pf, .ref xb, .ref tl, .int so, .int sl])), (a, .inr (0, [.int (nI n), .int (nI k), .ref al, .ref am, .ref aw, .ref ac, .ref ag, .ref ab]))] [.ref pl, .int (nI j), .int x]) (qq_Planner_isWeightP D cI cZ cL cQ pl tl a mi sr tr pf xb so sl al am aw ac ag ab n k j x (mx_A sz)) 0 0 (mx_A sz) := by
  refine Met.ofW (cc := bb_Planner_isWeight) (maxL := 3) (ret := (some .boolean)) (by decide) rfl ?_
  intro p e s m args below meth c s₁ B hml hv
  obtain ⟨rfl, hsz, hP, hK, hD0⟩ := hv
  have hx := B.exec
  have hb := B.bytes
  have hr := B.returns
  have hts := atoms_spec (ws := ww_Planner_isWeight) B.pre
  have hown : s.vm.findClass RR_Planner = some m.cls := findClass_of_methodNamed B.named
  have hlocks := B.notSynchronized
  subst hsz
  have hD := hD0
  have hS0 : va_S (mx_A s.heap.size) s.heap s.heap [] := va_S.rf
  have hP : va_P D kc_all [(pl, .inr (6, [.ref a, .ref mi, .ref sr, .ref tr, .ref pf, .ref xb, .ref tl, .int so, .int sl])), (a, .inr (0, [.int (nI n), .int (nI k), .ref al, .ref am, .ref aw, .ref ac, .ref ag, .ref ab]))] s.heap := hP
  have hl := lv_entry ([.ref pl, .int (nI j), .int x]) (n := 3) (Nat.le_of_ble_eq_true rfl)
  rw [lg_entry_eq]
  generalize (lg_sl ([.ref pl, .int (nI j), .int x]) ++ List.replicate (3 - (lg_sl ([.ref pl, .int (nI j), .int x])).length) Slot.unset).toArray = ls at hl ⊢
  have hl : lv_has ls 3 [(0, .ref pl), (1, .int (nI j)), (2, .int x)] := hl
  have htb : ∀ w ∈ tb_all, w.before ([.ref pl, .int (nI j), .int x]).toArray s = true := fun w h => hts w (List.mem_cons_of_mem _ h)
  have hf_12 := htb _ fl_Planner_12
  have hf_216 := htb _ fl_Planner_216
  refine lv_iload_n hx hb dd_Planner_isWeight_0 rfl (lv_at hl 1 rfl) ?_
  refine lv_aload_n hx hb dd_Planner_isWeight_1 rfl (lv_at hl 0 rfl) ?_
  refine va_get (D := D) (ci := 6) (v := .ref a) (C := RR_Planner) (T := FF_Planner) (N := 9) hx hb htb hi_Planner hown hK hP 0 rfl rfl 0 (by decide) hf_12 (fun _ h9 => h9) rfl dd_Planner_isWeight_2 ?_
  refine va_get (D := D) (ci := 0) (v := .int (nI n)) (C := RR_Problem) (T := FF_Problem) (N := 8) hx hb htb hi_Problem hown hK hP 1 rfl rfl 0 (by decide) hf_216 (fun _ h9 => h9) rfl dd_Planner_isWeight_5 ?_
  refine lv_icmp_ge (tgt := 20) hx hb dd_Planner_isWeight_8 (by decide) (fun h8 => ?_) (fun h8 => ?_)
  · skip
    have h8 : n ≤ j := (nI_leI (a := n) (b := j) (by omega) (by omega)).mp h8
    refine lv_iload_n hx hb dd_Planner_isWeight_20 rfl (lv_at hl 2 rfl) ?_
    refine lv_if_ne (tgt := 28) hx hb dd_Planner_isWeight_21 (by decide) (fun h21 => ?_) (fun h21 => ?_)
    · skip
      refine lv_iconst (v := 0) hx hb dd_Planner_isWeight_28 (by decide) ?_
      exact W.zret (v := (0 : Int32)) hx hb hr (by first | exact tl_nar p14 | rfl) (fun t ht hW => ⟨⟨(0 : Int32), (), rfl, by first | exact wg_1 (by omega) p14 | exact wg_2 (by omega) h21 | exact wg_3 (by omega) h21, trivial⟩, hS0.F ht⟩) hS0.2.2 dd_Planner_isWeight_29
    · skip
      refine lv_iconst (v := 1) hx hb dd_Planner_isWeight_24 (by decide) ?_
      refine lv_goto (tgt := 29) hx hb dd_Planner_isWeight_25 (by decide) ?_
      exact W.zret (v := (1 : Int32)) hx hb hr (by first | exact tl_nar p14 | rfl) (fun t ht hW => ⟨⟨(1 : Int32), (), rfl, by first | exact wg_1 (by omega) p14 | exact wg_2 (by omega) h21 | exact wg_3 (by omega) h21, trivial⟩, hS0.F ht⟩) hS0.2.2 dd_Planner_isWeight_29
  · skip
    have h8 : ¬ (n ≤ j) := fun q9 => h8 ((nI_leI (a := n) (b := j) (by omega) (by omega)).mpr q9)
    refine lv_iload_n hx hb dd_Planner_isWeight_11 rfl (lv_at hl 2 rfl) ?_
    refine lv_bipush (v := 9) hx hb dd_Planner_isWeight_12 (by decide) ?_
    refine mx_pi (va_runS (As := [.int x, .int (9 : Int32)]) (rest := []) ⟨hx, hb, hml, hown, hts⟩ (cc_Planner_isWithin l D cI cZ cL cQ _ x (9 : Int32) ) (mm_cwS 2 hts ml_Planner_77 sm_Planner_isWithin ic_Planner cd_Planner_isWithin rfl rfl (by decide +kernel) ⟨Nat.le_of_ble_eq_true rfl, Nat.le_of_ble_eq_true rfl⟩) (mm_preS hK hP hD [] (by decide) rfl) rfl rfl hl.1 rfl (lv_room (Nat.le_of_ble_eq_true rfl)) dd_Planner_isWeight_14 ⟨Nat.zero_le _, Nat.zero_le _⟩) (fun _ h => mx_A0 h) hP hS0 (fun zr1 zu2 H locs p14 hP hS0 => ?_)
    have p14 : tl_ok (iw_ok x (9 : Int32)) zr1 := p14
    refine lv_goto (tgt := 29) hx hb dd_Planner_isWeight_17 (by decide) ?_
    exact W.zret (v := zr1) hx hb hr (by first | exact tl_nar p14 | rfl) (fun t ht hW => ⟨⟨zr1, (), rfl, by first | exact wg_1 (by omega) p14 | exact wg_2 (by omega) h21 | exact wg_3 (by omega) h21, trivial⟩, hS0.F ht⟩) hS0.2.2 dd_Planner_isWeight_29
abbrev qq_Planner_checkAmount (D : va_G) (cI cZ cL cQ : ClassId) (pl : Nat) (tl : Nat) (a : Nat) (mi : Nat) (sr : Nat) (tr : Nat) (pf : Nat) (xb : Nat) (so : Int32) (sl : Int32) (al : Nat) (am : Nat) (aw : Nat) (ac : Nat) (ag : Nat) (ab : Nat) (n : Nat) (k : Nat) (j : Nat) (A : Nat → Prop) : Array Value → State → Outcome → State → Prop := va_Qv (fun u : Unit => True) (fun (u : Unit) t => mm_B D kc_all [(cI, .int), (cZ, .boolean), (cL, .long), (cQ, .array .int)] A [(pl, .inr (6, [.ref a, .ref mi, .ref sr, .ref tr, .ref pf, .ref xb, .ref tl, .int so, .int sl])), (a, .inr (0, [.int (nI n), .int (nI k), .ref al, .ref am, .ref aw, .ref ac, .ref ag, .ref ab]))] t) A
set_option maxHeartbeats 4000000 in
set_option maxRecDepth 100000 in
theorem cc_Planner_checkAmount (l : Launch) (D : va_G) (cI cZ cL cQ : ClassId) (sz : Nat) (pl : Nat) (tl : Nat) (a : Nat) (mi : Nat) (sr : Nat) (tr : Nat) (pf : Nat) (xb : Nat) (so : Int32) (sl : Int32) (al : Nat) (am : Nat) (aw : Nat) (ac : Nat) (ag : Nat) (ab : Nat) (n : Nat) (k : Nat) (j : Nat) (hn : n ≤ 4) (hj : j < n) : Met l yy_Planner_checkAmount ww_Planner_checkAmount ({ frames := 0, cells := 0, slots := 0, locals := 0 } : Room) (mm_Pc D kc_all [(cI, .int), (cZ, .boolean), (cL, .long), (cQ, .array .int)] sz [(pl, .inr (6, [.ref a, .ref mi, .ref sr, .ref tr, .ref pf, .ref xb, .ref tl, .int so, .int sl])), (a, .inr (0, [.int (nI n), .int (nI k), .ref al, .ref am, .ref aw, .ref ac, .ref ag, .ref ab]))] [.ref pl, .int (nI j)]) (qq_Planner_checkAmount D cI cZ cL cQ pl tl a mi sr tr pf xb so sl al am aw ac ag ab n k j (va_A [(pl, .inr (6, [.ref a, .ref mi, .ref sr, .ref tr, .ref pf, .ref xb, .ref tl, .int so, .int sl])), (a, .inr (0, [.int (nI n), .int (nI k), .ref al, .ref am, .ref aw, .ref ac, .ref ag, .ref ab]))] sz)) 0 0 (va_A [(pl, .inr (6, [.ref a, .ref mi, .ref sr, .ref tr, .ref pf, .ref xb, .ref tl, .int so, .int sl])), (a, .inr (0, [.int (nI n), .int (nI k), .ref al, .ref am, .ref aw, .ref ac, .ref ag, .ref ab]))] sz) := by
  refine Met.ofW (cc := bb_Planner_checkAmount) (maxL := 2) (ret := none) (by decide) rfl ?_
  intro p e s m args below meth c s₁ B hml hv
  obtain ⟨rfl, hsz, hP, hK, hD0⟩ := hv
  have hx := B.exec
  have hb := B.bytes
  have hr := B.returns
  have hts := atoms_spec (ws := ww_Planner_checkAmount) B.pre
  have hown : s.vm.findClass RR_Planner = some m.cls := findClass_of_methodNamed B.named
  have hlocks := B.notSynchronized
  subst hsz
  have hD := hD0.self (sz := s.heap.size)
  generalize hAe : va_A [(pl, .inr (6, [.ref a, .ref mi, .ref sr, .ref tr, .ref pf, .ref xb, .ref tl, .int so, .int sl])), (a, .inr (0, [.int (nI n), .int (nI k), .ref al, .ref am, .ref aw, .ref ac, .ref ag, .ref ab]))] s.heap.size = A at hD ⊢
  have hA : ∀ q : Nat, s.heap.size ≤ q → A q := fun q h => by rw [← hAe]; exact Or.inr h
  have hS : va_S A s.heap s.heap [] := va_S.rf
  have hP : va_P D kc_all [(pl, .inr (6, [.ref a, .ref mi, .ref sr, .ref tr, .ref pf, .ref xb, .ref tl, .int so, .int sl])), (a, .inr (0, [.int (nI n), .int (nI k), .ref al, .ref am, .ref aw, .ref ac, .ref ag, .ref ab]))] s.heap := hP
  have hl := lv_entry ([.ref pl, .int (nI j)]) (n := 2) (Nat.le_of_ble_eq_true rfl)
  rw [lg_entry_eq]
  generalize (lg_sl ([.ref pl, .int (nI j)]) ++ List.replicate (2 - (lg_sl ([.ref pl, .int (nI j)])).length) Slot.unset).toArray = ls at hl ⊢
  have hl : lv_has ls 2 [(0, .ref pl), (1, .int (nI j))] := hl
  have htb : ∀ w ∈ tb_all, w.before ([.ref pl, .int (nI j)]).toArray s = true := fun w h => hts w (List.mem_cons_of_mem _ h)
  have hf_12 := htb _ fl_Planner_12
  have hf_216 := htb _ fl_Planner_216
  refine lv_iload_n hx hb dd_Planner_checkAmount_0 rfl (lv_at hl 1 rfl) ?_
  refine lv_if_lt (tgt := 15) hx hb dd_Planner_checkAmount_1 (by decide) (fun h1 => ?_) (fun h1 => ?_)
  · skip
    have h1 : j < 0 := (nI_ltI (a := j) (b := 0) (by omega) (by omega)).mp h1
    omega
  · skip
    have h1 : ¬ (j < 0) := fun q9 => h1 ((nI_ltI (a := j) (b := 0) (by omega) (by omega)).mpr q9)
    refine lv_iload_n hx hb dd_Planner_checkAmount_4 rfl (lv_at hl 1 rfl) ?_
    refine lv_aload_n hx hb dd_Planner_checkAmount_5 rfl (lv_at hl 0 rfl) ?_
    refine va_get (D := D) (ci := 6) (v := .ref a) (C := RR_Planner) (T := FF_Planner) (N := 9) hx hb htb hi_Planner hown hK hP 0 rfl rfl 0 (by decide) hf_12 (fun _ h9 => h9) rfl dd_Planner_checkAmount_6 ?_
    refine va_get (D := D) (ci := 0) (v := .int (nI n)) (C := RR_Problem) (T := FF_Problem) (N := 8) hx hb htb hi_Problem hown hK hP 1 rfl rfl 0 (by decide) hf_216 (fun _ h9 => h9) rfl dd_Planner_checkAmount_9 ?_
    refine lv_icmp_lt (tgt := 25) hx hb dd_Planner_checkAmount_12 (by decide) (fun h12 => ?_) (fun h12 => ?_)
    · skip
      have h12 : j < n := (nI_ltI (a := j) (b := n) (by omega) (by omega)).mp h12
      exact W.vret hx hb hr (fun t ht hW => ⟨⟨(), rfl, by first | rfl | trivial | assumption | omega, by rw [ht]; exact hP, va_K.moved hW.alike hK, hD⟩, hS.F ht⟩) hS.2.2 dd_Planner_checkAmount_25
    · skip
      have h12 : ¬ (j < n) := fun q9 => h12 ((nI_ltI (a := j) (b := n) (by omega) (by omega)).mpr q9)
      omega
abbrev qq_Planner_checkAmountP (D : va_G) (cI cZ cL cQ : ClassId) (pl : Nat) (tl : Nat) (a : Nat) (mi : Nat) (sr : Nat) (tr : Nat) (pf : Nat) (xb : Nat) (so : Int32) (sl : Int32) (al : Nat) (am : Nat) (aw : Nat) (ac : Nat) (ag : Nat) (ab : Nat) (n : Nat) (k : Nat) (j : Nat) (A : Nat → Prop) : Array Value → State → Outcome → State → Prop := va_Qv (fun u : Unit => True) (fun (u : Unit) t => True) A
set_option maxHeartbeats 4000000 in
set_option maxRecDepth 100000 in
theorem cc_Planner_checkAmountP (l : Launch) (D : va_G) (cI cZ cL cQ : ClassId) (sz : Nat) (pl : Nat) (tl : Nat) (a : Nat) (mi : Nat) (sr : Nat) (tr : Nat) (pf : Nat) (xb : Nat) (so : Int32) (sl : Int32) (al : Nat) (am : Nat) (aw : Nat) (ac : Nat) (ag : Nat) (ab : Nat) (n : Nat) (k : Nat) (j : Nat) (hn : n ≤ 4) (hj : j < n) : Met l yy_Planner_checkAmount ww_Planner_checkAmount ({ frames := 0, cells := 0, slots := 0, locals := 0 } : Room) (mm_Pc D kc_all [(cI, .int), (cZ, .boolean), (cL, .long), (cQ, .array .int)] sz [(pl, .inr (6, [.ref a, .ref mi, .ref sr, .ref tr, .ref pf, .ref xb, .ref tl, .int so, .int sl])), (a, .inr (0, [.int (nI n), .int (nI k), .ref al, .ref am, .ref aw, .ref ac, .ref ag, .ref ab]))] [.ref pl, .int (nI j)]) (qq_Planner_checkAmountP D cI cZ cL cQ pl tl a mi sr tr pf xb so sl al am aw ac ag ab n k j (mx_A sz)) 0 0 (mx_A sz) := by
  refine Met.ofW (cc := bb_Planner_checkAmount) (maxL := 2) (ret := none) (by decide) rfl ?_
  intro p e s m args below meth c s₁ B hml hv
  obtain ⟨rfl, hsz, hP, hK, hD0⟩ := hv
  have hx := B.exec
  have hb := B.bytes
  have hr := B.returns
  have hts := atoms_spec (ws := ww_Planner_checkAmount) B.pre
  have hown : s.vm.findClass RR_Planner = some m.cls := findClass_of_methodNamed B.named
  have hlocks := B.notSynchronized
  subst hsz
  have hD := hD0
  have hS0 : va_S (mx_A s.heap.size) s.heap s.heap [] := va_S.rf
  have hP : va_P D kc_all [(pl, .inr (6, [.ref a, .ref mi, .ref sr, .ref tr, .ref pf, .ref xb, .ref tl, .int so, .int sl])), (a, .inr (0, [.int (nI n), .int (nI k), .ref al, .ref am, .ref aw, .ref ac, .ref ag, .ref ab]))] s.heap := hP
  have hl := lv_entry ([.ref pl, .int (nI j)]) (n := 2) (Nat.le_of_ble_eq_true rfl)
  rw [lg_entry_eq]
  generalize (lg_sl ([.ref pl, .int (nI j)]) ++ List.replicate (2 - (lg_sl ([.ref pl, .int (nI j)])).length) Slot.unset).toArray = ls at hl ⊢
  have hl : lv_has ls 2 [(0, .ref pl), (1, .int (nI j))] := hl
  have htb : ∀ w ∈ tb_all, w.before ([.ref pl, .int (nI j)]).toArray s = true := fun w h => hts w (List.mem_cons_of_mem _ h)
  have hf_12 := htb _ fl_Planner_12
  have hf_216 := htb _ fl_Planner_216
  refine lv_iload_n hx hb dd_Planner_checkAmount_0 rfl (lv_at hl 1 rfl) ?_
  refine lv_if_lt (tgt := 15) hx hb dd_Planner_checkAmount_1 (by decide) (fun h1 => ?_) (fun h1 => ?_)
  · skip
    have h1 : j < 0 := (nI_ltI (a := j) (b := 0) (by omega) (by omega)).mp h1
    omega
  · skip
    have h1 : ¬ (j < 0) := fun q9 => h1 ((nI_ltI (a := j) (b := 0) (by omega) (by omega)).mpr q9)
    refine lv_iload_n hx hb dd_Planner_checkAmount_4 rfl (lv_at hl 1 rfl) ?_
    refine lv_aload_n hx hb dd_Planner_checkAmount_5 rfl (lv_at hl 0 rfl) ?_
    refine va_get (D := D) (ci := 6) (v := .ref a) (C := RR_Planner) (T := FF_Planner) (N := 9) hx hb htb hi_Planner hown hK hP 0 rfl rfl 0 (by decide) hf_12 (fun _ h9 => h9) rfl dd_Planner_checkAmount_6 ?_
    refine va_get (D := D) (ci := 0) (v := .int (nI n)) (C := RR_Problem) (T := FF_Problem) (N := 8) hx hb htb hi_Problem hown hK hP 1 rfl rfl 0 (by decide) hf_216 (fun _ h9 => h9) rfl dd_Planner_checkAmount_9 ?_
    refine lv_icmp_lt (tgt := 25) hx hb dd_Planner_checkAmount_12 (by decide) (fun h12 => ?_) (fun h12 => ?_)
    · skip
      have h12 : j < n := (nI_ltI (a := j) (b := n) (by omega) (by omega)).mp h12
      exact W.vret hx hb hr (fun t ht hW => ⟨⟨(), rfl, by first | rfl | trivial | assumption | omega, trivial⟩, hS0.F ht⟩) hS0.2.2 dd_Planner_checkAmount_25
    · skip
      have h12 : ¬ (j < n) := fun q9 => h12 ((nI_ltI (a := j) (b := n) (by omega) (by omega)).mpr q9)
      omega
set_option maxHeartbeats 4000000 in
set_option maxRecDepth 100000 in
theorem cc_Planner_checkAmountX (l : Launch) (hnt : l.stackTraces = false) (D : va_G) (cI cZ cL cQ : ClassId) (sz : Nat) (pl : Nat) (tl : Nat) (a : Nat) (mi : Nat) (sr : Nat) (tr : Nat) (pf : Nat) (xb : Nat) (so : Int32) (sl : Int32) (al : Nat) (am : Nat) (aw : Nat) (ac : Nat) (ag : Nat) (ab : Nat) (n : Nat) (k : Nat) (jv : Int32) (hno : ¬ (0 ≤ jv ∧ jv < nI n)) : mx_Met l yy_Planner_checkAmount ww_Planner_checkAmount ({ frames := 6, cells := 1, slots := 6, locals := 82 } : Room) (mx_Pc D kc_all [(cI, .int), (cZ, .boolean), (cL, .long), (cQ, .array .int)] sz [(pl, .inr (6, [.ref a, .ref mi, .ref sr, .ref tr, .ref pf, .ref xb, .ref tl, .int so, .int sl])), (a, .inr (0, [.int (nI n), .int (nI k), .ref al, .ref am, .ref aw, .ref ac, .ref ag, .ref ab]))] [.ref pl, .int jv]) (mx_Xq (fun E9 => E9 = "java/lang/IndexOutOfBoundsException")) 1 6 (mx_A sz) := by
  refine mx_ofW (cc := bb_Planner_checkAmount) (maxL := 2) (ret := none) (by decide) rfl ?_
  intro p e s m args below meth c s₁ B hml hex hv
  obtain ⟨rfl, hsz, hP, hK, hD, hTr⟩ := hv
  have hx := B.exec
  have hb := B.bytes
  have hr := B.returns
  have hts := atoms_spec (ws := ww_Planner_checkAmount) B.pre
  have hown : s.vm.findClass RR_Planner = some m.cls := findClass_of_methodNamed B.named
  have hlocks := B.notSynchronized
  subst hsz
  have hS0 : va_S (mx_A s.heap.size) s.heap s.heap [] := va_S.rf
  have hP : va_P D kc_all [(pl, .inr (6, [.ref a, .ref mi, .ref sr, .ref tr, .ref pf, .ref xb, .ref tl, .int so, .int sl])), (a, .inr (0, [.int (nI n), .int (nI k), .ref al, .ref am, .ref aw, .ref ac, .ref ag, .ref ab]))] s.heap := hP
  have hl := lv_entry ([.ref pl, .int jv]) (n := 2) (Nat.le_of_ble_eq_true rfl)
  rw [lg_entry_eq]
  generalize (lg_sl ([.ref pl, .int jv]) ++ List.replicate (2 - (lg_sl ([.ref pl, .int jv])).length) Slot.unset).toArray = ls at hl ⊢
  have hl : lv_has ls 2 [(0, .ref pl), (1, .int jv)] := hl
  have htb : ∀ w ∈ tb_all, w.before ([.ref pl, .int jv]).toArray s = true := fun w h => hts w (List.mem_cons_of_mem _ h)
  have hf_12 := htb _ fl_Planner_12
  have hf_216 := htb _ fl_Planner_216
  refine lv_iload_n hx hb dd_Planner_checkAmount_0 rfl (lv_at hl 1 rfl) ?_
  refine lv_if_lt (tgt := 15) hx hb dd_Planner_checkAmount_1 (by decide) (fun h1 => ?_) (fun h1 => ?_)
  · skip
    exact mx_throw (cls := "java/lang/IndexOutOfBoundsException") (names := tx_up) hx hb hnt hown (by decide +kernel) (by decide +kernel) (htb _ kl_B) (htb _ ki_B) (mx_str hTr 1 219 _ rfl) (mx_own htb hTr ow_B) hex hlocks hS0 (hl.1.trans hml.symm) dd_Planner_checkAmount_15 dd_Planner_checkAmount_18 dd_Planner_checkAmount_19 dd_Planner_checkAmount_21 dd_Planner_checkAmount_24 (Nat.le_of_ble_eq_true rfl) (Nat.le_of_ble_eq_true rfl) (Nat.le_of_ble_eq_true rfl) (Nat.le_of_ble_eq_true rfl) (fun _ _ h => h) (fun _ h => h)
  · skip
    refine lv_iload_n hx hb dd_Planner_checkAmount_4 rfl (lv_at hl 1 rfl) ?_
    refine lv_aload_n hx hb dd_Planner_checkAmount_5 rfl (lv_at hl 0 rfl) ?_
    refine va_get (D := D) (ci := 6) (v := .ref a) (C := RR_Planner) (T := FF_Planner) (N := 9) hx hb htb hi_Planner hown hK hP 0 rfl rfl 0 (by decide) hf_12 (fun _ h9 => h9) rfl dd_Planner_checkAmount_6 ?_
    refine va_get (D := D) (ci := 0) (v := .int (nI n)) (C := RR_Problem) (T := FF_Problem) (N := 8) hx hb htb hi_Problem hown hK hP 1 rfl rfl 0 (by decide) hf_216 (fun _ h9 => h9) rfl dd_Planner_checkAmount_9 ?_
    refine lv_icmp_lt (tgt := 25) hx hb dd_Planner_checkAmount_12 (by decide) (fun h12 => ?_) (fun h12 => ?_)
    · skip
      exact absurd ⟨i3_nlt h1, h12⟩ hno
    · skip
      exact mx_throw (cls := "java/lang/IndexOutOfBoundsException") (names := tx_up) hx hb hnt hown (by decide +kernel) (by decide +kernel) (htb _ kl_B) (htb _ ki_B) (mx_str hTr 1 219 _ rfl) (mx_own htb hTr ow_B) hex hlocks hS0 (hl.1.trans hml.symm) dd_Planner_checkAmount_15 dd_Planner_checkAmount_18 dd_Planner_checkAmount_19 dd_Planner_checkAmount_21 dd_Planner_checkAmount_24 (Nat.le_of_ble_eq_true rfl) (Nat.le_of_ble_eq_true rfl) (Nat.le_of_ble_eq_true rfl) (Nat.le_of_ble_eq_true rfl) (fun _ _ h => h) (fun _ h => h)
abbrev qq_Planner_checkNode (D : va_G) (cI cZ cL cQ : ClassId) (nd : Nat) (A : Nat → Prop) : Array Value → State → Outcome → State → Prop := va_Qv (fun u : Unit => True) (fun (u : Unit) t => mm_B D kc_all [(cI, .int), (cZ, .boolean), (cL, .long), (cQ, .array .int)] A [] t) A
set_option maxHeartbeats 4000000 in
set_option maxRecDepth 100000 in
theorem cc_Planner_checkNode (l : Launch) (D : va_G) (cI cZ cL cQ : ClassId) (sz : Nat) (nd : Nat) (hnd : nd < 40) : Met l yy_Planner_checkNode ww_Planner_checkNode ({ frames := 0, cells := 0, slots := 0, locals := 0 } : Room) (mm_Pc D kc_all [(cI, .int), (cZ, .boolean), (cL, .long), (cQ, .array .int)] sz [] [.int (nI nd)]) (qq_Planner_checkNode D cI cZ cL cQ nd (va_A [] sz)) 0 0 (va_A [] sz) := by
  refine Met.ofW (cc := bb_Planner_checkNode) (maxL := 1) (ret := none) (by decide) rfl ?_
  intro p e s m args below meth c s₁ B hml hv
  obtain ⟨rfl, hsz, hP, hK, hD0⟩ := hv
  have hx := B.exec
  have hb := B.bytes
  have hr := B.returns
  have hts := atoms_spec (ws := ww_Planner_checkNode) B.pre
  have hown : s.vm.findClass RR_Planner = some m.cls := findClass_of_methodNamed B.named
  have hlocks := B.notSynchronized
  subst hsz
  have hD := hD0.self (sz := s.heap.size)
  generalize hAe : va_A [] s.heap.size = A at hD ⊢
  have hA : ∀ q : Nat, s.heap.size ≤ q → A q := fun q h => by rw [← hAe]; exact Or.inr h
  have hS : va_S A s.heap s.heap [] := va_S.rf
  have hP : va_P D kc_all [] s.heap := hP
  have hl := lv_entry ([.int (nI nd)]) (n := 1) (Nat.le_of_ble_eq_true rfl)
  rw [lg_entry_eq]
  generalize (lg_sl ([.int (nI nd)]) ++ List.replicate (1 - (lg_sl ([.int (nI nd)])).length) Slot.unset).toArray = ls at hl ⊢
  have hl : lv_has ls 1 [(0, .int (nI nd))] := hl
  have htb : ∀ w ∈ tb_all, w.before ([.int (nI nd)]).toArray s = true := fun w h => hts w (List.mem_cons_of_mem _ h)
  refine lv_iload_n hx hb dd_Planner_checkNode_0 rfl (lv_at hl 0 rfl) ?_
  refine lv_if_lt (tgt := 10) hx hb dd_Planner_checkNode_1 (by decide) (fun h1 => ?_) (fun h1 => ?_)
  · skip
    have h1 : nd < 0 := (nI_ltI (a := nd) (b := 0) (by omega) (by omega)).mp h1
    omega
  · skip
    have h1 : ¬ (nd < 0) := fun q9 => h1 ((nI_ltI (a := nd) (b := 0) (by omega) (by omega)).mpr q9)
    refine lv_iload_n hx hb dd_Planner_checkNode_4 rfl (lv_at hl 0 rfl) ?_
    refine lv_bipush (v := 40) hx hb dd_Planner_checkNode_5 (by decide) ?_
    refine lv_icmp_lt (tgt := 20) hx hb dd_Planner_checkNode_7 (by decide) (fun h7 => ?_) (fun h7 => ?_)
    · skip
      have h7 : nd < 40 := (nI_ltI (a := nd) (b := 40) (by omega) (by omega)).mp h7
      exact W.vret hx hb hr (fun t ht hW => ⟨⟨(), rfl, by first | rfl | trivial | assumption | omega, by rw [ht]; exact hP, va_K.moved hW.alike hK, hD⟩, hS.F ht⟩) hS.2.2 dd_Planner_checkNode_20
    · skip
      have h7 : ¬ (nd < 40) := fun q9 => h7 ((nI_ltI (a := nd) (b := 40) (by omega) (by omega)).mpr q9)
      omega
set_option maxHeartbeats 4000000 in
set_option maxRecDepth 100000 in
theorem cc_Planner_checkNodeX (l : Launch) (hnt : l.stackTraces = false) (D : va_G) (cI cZ cL cQ : ClassId) (sz : Nat) (nv0 : Int32) (hno : ¬ nd_ok nv0) : mx_Met l yy_Planner_checkNode ww_Planner_checkNode ({ frames := 6, cells := 1, slots := 6, locals := 82 } : Room) (mx_Pc D kc_all [(cI, .int), (cZ, .boolean), (cL, .long), (cQ, .array .int)] sz [] [.int nv0]) (mx_Xq (fun E9 => E9 = "java/lang/IndexOutOfBoundsException")) 1 6 (mx_A sz) := by
  refine mx_ofW (cc := bb_Planner_checkNode) (maxL := 1) (ret := none) (by decide) rfl ?_
  intro p e s m args below meth c s₁ B hml hex hv
  obtain ⟨rfl, hsz, hP, hK, hD, hTr⟩ := hv
  have hx := B.exec
  have hb := B.bytes
  have hr := B.returns
  have hts := atoms_spec (ws := ww_Planner_checkNode) B.pre
  have hown : s.vm.findClass RR_Planner = some m.cls := findClass_of_methodNamed B.named
  have hlocks := B.notSynchronized
  subst hsz
  have hS0 : va_S (mx_A s.heap.size) s.heap s.heap [] := va_S.rf
  have hP : va_P D kc_all [] s.heap := hP
  have hl := lv_entry ([.int nv0]) (n := 1) (Nat.le_of_ble_eq_true rfl)
  rw [lg_entry_eq]
  generalize (lg_sl ([.int nv0]) ++ List.replicate (1 - (lg_sl ([.int nv0])).length) Slot.unset).toArray = ls at hl ⊢
  have hl : lv_has ls 1 [(0, .int nv0)] := hl
  have htb : ∀ w ∈ tb_all, w.before ([.int nv0]).toArray s = true := fun w h => hts w (List.mem_cons_of_mem _ h)
  refine lv_iload_n hx hb dd_Planner_checkNode_0 rfl (lv_at hl 0 rfl) ?_
  refine lv_if_lt (tgt := 10) hx hb dd_Planner_checkNode_1 (by decide) (fun h1 => ?_) (fun h1 => ?_)
  · skip
    exact mx_throw (cls := "java/lang/IndexOutOfBoundsException") (names := tx_up) hx hb hnt hown (by decide +kernel) (by decide +kernel) (htb _ kl_B) (htb _ ki_B) (mx_str hTr 13 221 _ rfl) (mx_own htb hTr ow_B) hex hlocks hS0 (hl.1.trans hml.symm) dd_Planner_checkNode_10 dd_Planner_checkNode_13 dd_Planner_checkNode_14 dd_Planner_checkNode_16 dd_Planner_checkNode_19 (Nat.le_of_ble_eq_true rfl) (Nat.le_of_ble_eq_true rfl) (Nat.le_of_ble_eq_true rfl) (Nat.le_of_ble_eq_true rfl) (fun _ _ h => h) (fun _ h => h)
  · skip
    refine lv_iload_n hx hb dd_Planner_checkNode_4 rfl (lv_at hl 0 rfl) ?_
    refine lv_bipush (v := 40) hx hb dd_Planner_checkNode_5 (by decide) ?_
    refine lv_icmp_lt (tgt := 20) hx hb dd_Planner_checkNode_7 (by decide) (fun h7 => ?_) (fun h7 => ?_)
    · skip
      exact absurd ⟨i3_nlt h1, h7⟩ hno
    · skip
      exact mx_throw (cls := "java/lang/IndexOutOfBoundsException") (names := tx_up) hx hb hnt hown (by decide +kernel) (by decide +kernel) (htb _ kl_B) (htb _ ki_B) (mx_str hTr 13 221 _ rfl) (mx_own htb hTr ow_B) hex hlocks hS0 (hl.1.trans hml.symm) dd_Planner_checkNode_10 dd_Planner_checkNode_13 dd_Planner_checkNode_14 dd_Planner_checkNode_16 dd_Planner_checkNode_19 (Nat.le_of_ble_eq_true rfl) (Nat.le_of_ble_eq_true rfl) (Nat.le_of_ble_eq_true rfl) (Nat.le_of_ble_eq_true rfl) (fun _ _ h => h) (fun _ h => h)
abbrev qq_Planner_checkWhich (D : va_G) (cI cZ cL cQ : ClassId) (wv : Int32) (A : Nat → Prop) : Array Value → State → Outcome → State → Prop := va_Qv (fun u : Unit => True) (fun (u : Unit) t => mm_B D kc_all [(cI, .int), (cZ, .boolean), (cL, .long), (cQ, .array .int)] A [] t) A
set_option maxHeartbeats 4000000 in
set_option maxRecDepth 100000 in
theorem cc_Planner_checkWhich (l : Launch) (D : va_G) (cI cZ cL cQ : ClassId) (sz : Nat) (wv : Int32) (hw : wv = 0 ∨ wv = 1) : Met l yy_Planner_checkWhich ww_Planner_checkWhich ({ frames := 0, cells := 0, slots := 0, locals := 0 } : Room) (mm_Pc D kc_all [(cI, .int), (cZ, .boolean), (cL, .long), (cQ, .array .int)] sz [] [.int wv]) (qq_Planner_checkWhich D cI cZ cL cQ wv (va_A [] sz)) 0 0 (va_A [] sz) := by
  refine Met.ofW (cc := bb_Planner_checkWhich) (maxL := 1) (ret := none) (by decide) rfl ?_
  intro p e s m args below meth c s₁ B hml hv
  obtain ⟨rfl, hsz, hP, hK, hD0⟩ := hv
  have hx := B.exec
  have hb := B.bytes
  have hr := B.returns
  have hts := atoms_spec (ws := ww_Planner_checkWhich) B.pre
  have hown : s.vm.findClass RR_Planner = some m.cls := findClass_of_methodNamed B.named
  have hlocks := B.notSynchronized
  subst hsz
  have hD := hD0.self (sz := s.heap.size)
  generalize hAe : va_A [] s.heap.size = A at hD ⊢
  have hA : ∀ q : Nat, s.heap.size ≤ q → A q := fun q h => by rw [← hAe]; exact Or.inr h
  have hS : va_S A s.heap s.heap [] := va_S.rf
  have hP : va_P D kc_all [] s.heap := hP
  have hl := lv_entry ([.int wv]) (n := 1) (Nat.le_of_ble_eq_true rfl)
  rw [lg_entry_eq]
  generalize (lg_sl ([.int wv]) ++ List.replicate (1 - (lg_sl ([.int wv])).length) Slot.unset).toArray = ls at hl ⊢
  have hl : lv_has ls 1 [(0, .int wv)] := hl
  have htb : ∀ w ∈ tb_all, w.before ([.int wv]).toArray s = true := fun w h => hts w (List.mem_cons_of_mem _ h)
  refine lv_iload_n hx hb dd_Planner_checkWhich_0 rfl (lv_at hl 0 rfl) ?_
  refine lv_if_lt (tgt := 9) hx hb dd_Planner_checkWhich_1 (by decide) (fun h1 => ?_) (fun h1 => ?_)
  · skip
    rcases hw with rfl | rfl <;> exact absurd h1 (by decide)
  · skip
    refine lv_iload_n hx hb dd_Planner_checkWhich_4 rfl (lv_at hl 0 rfl) ?_
    refine lv_iconst (v := 1) hx hb dd_Planner_checkWhich_5 (by decide) ?_
    refine lv_icmp_le (tgt := 19) hx hb dd_Planner_checkWhich_6 (by decide) (fun h6 => ?_) (fun h6 => ?_)
    · skip
      exact W.vret hx hb hr (fun t ht hW => ⟨⟨(), rfl, by first | rfl | trivial | assumption | omega, by rw [ht]; exact hP, va_K.moved hW.alike hK, hD⟩, hS.F ht⟩) hS.2.2 dd_Planner_checkWhich_19
    · skip
      rcases hw with rfl | rfl <;> exact absurd (by decide) h6
set_option maxHeartbeats 4000000 in
set_option maxRecDepth 100000 in
theorem cc_Planner_checkWhichX (l : Launch) (hnt : l.stackTraces = false) (D : va_G) (cI cZ cL cQ : ClassId) (sz : Nat) (wv : Int32) (hno : ¬ (wv = 0 ∨ wv = 1)) : mx_Met l yy_Planner_checkWhich ww_Planner_checkWhich ({ frames := 6, cells := 1, slots := 6, locals := 82 } : Room) (mx_Pc D kc_all [(cI, .int), (cZ, .boolean), (cL, .long), (cQ, .array .int)] sz [] [.int wv]) (mx_Xq (fun E9 => E9 = "java/lang/IllegalArgumentException")) 1 6 (mx_A sz) := by
  refine mx_ofW (cc := bb_Planner_checkWhich) (maxL := 1) (ret := none) (by decide) rfl ?_
  intro p e s m args below meth c s₁ B hml hex hv
  obtain ⟨rfl, hsz, hP, hK, hD, hTr⟩ := hv
  have hx := B.exec
  have hb := B.bytes
  have hr := B.returns
  have hts := atoms_spec (ws := ww_Planner_checkWhich) B.pre
  have hown : s.vm.findClass RR_Planner = some m.cls := findClass_of_methodNamed B.named
  have hlocks := B.notSynchronized
  subst hsz
  have hS0 : va_S (mx_A s.heap.size) s.heap s.heap [] := va_S.rf
  have hP : va_P D kc_all [] s.heap := hP
  have hl := lv_entry ([.int wv]) (n := 1) (Nat.le_of_ble_eq_true rfl)
  rw [lg_entry_eq]
  generalize (lg_sl ([.int wv]) ++ List.replicate (1 - (lg_sl ([.int wv])).length) Slot.unset).toArray = ls at hl ⊢
  have hl : lv_has ls 1 [(0, .int wv)] := hl
  have htb : ∀ w ∈ tb_all, w.before ([.int wv]).toArray s = true := fun w h => hts w (List.mem_cons_of_mem _ h)
  refine lv_iload_n hx hb dd_Planner_checkWhich_0 rfl (lv_at hl 0 rfl) ?_
  refine lv_if_lt (tgt := 9) hx hb dd_Planner_checkWhich_1 (by decide) (fun h1 => ?_) (fun h1 => ?_)
  · skip
    exact mx_throw (cls := "java/lang/IllegalArgumentException") (names := tx_up) hx hb hnt hown (by decide +kernel) (by decide +kernel) (htb _ kl_A) (htb _ ki_A) (mx_str hTr 9 223 _ rfl) (mx_own htb hTr ow_A) hex hlocks hS0 (hl.1.trans hml.symm) dd_Planner_checkWhich_9 dd_Planner_checkWhich_12 dd_Planner_checkWhich_13 dd_Planner_checkWhich_15 dd_Planner_checkWhich_18 (Nat.le_of_ble_eq_true rfl) (Nat.le_of_ble_eq_true rfl) (Nat.le_of_ble_eq_true rfl) (Nat.le_of_ble_eq_true rfl) (fun _ _ h => h) (fun _ h => h)
  · skip
    refine lv_iload_n hx hb dd_Planner_checkWhich_4 rfl (lv_at hl 0 rfl) ?_
    refine lv_iconst (v := 1) hx hb dd_Planner_checkWhich_5 (by decide) ?_
    refine lv_icmp_le (tgt := 19) hx hb dd_Planner_checkWhich_6 (by decide) (fun h6 => ?_) (fun h6 => ?_)
    · skip
      exact absurd (wh_01 h1 h6) hno
    · skip
      exact mx_throw (cls := "java/lang/IllegalArgumentException") (names := tx_up) hx hb hnt hown (by decide +kernel) (by decide +kernel) (htb _ kl_A) (htb _ ki_A) (mx_str hTr 9 223 _ rfl) (mx_own htb hTr ow_A) hex hlocks hS0 (hl.1.trans hml.symm) dd_Planner_checkWhich_9 dd_Planner_checkWhich_12 dd_Planner_checkWhich_13 dd_Planner_checkWhich_15 dd_Planner_checkWhich_18 (Nat.le_of_ble_eq_true rfl) (Nat.le_of_ble_eq_true rfl) (Nat.le_of_ble_eq_true rfl) (Nat.le_of_ble_eq_true rfl) (fun _ _ h => h) (fun _ h => h)
abbrev qq_Planner_checkPlan (D : va_G) (cI cZ cL cQ : ClassId) (pl : Nat) (tl : Nat) (a : Nat) (mi : Nat) (sr : Nat) (tr : Nat) (pf : Nat) (xb : Nat) (so : Int32) (sl : Int32) (sb : Nat) (sq : Nat) (sx : Nat) (sy : Nat) (fo : Int32) (dv : Int32) (cs : Int32) (lz : Int32) (A : Nat → Prop) : Array Value → State → Outcome → State → Prop := va_Qv (fun u : Unit => True) (fun (u : Unit) t => mm_B D kc_all [(cI, .int), (cZ, .boolean), (cL, .long), (cQ, .array .int)] A [(pl, .inr (6, [.ref a, .ref mi, .ref sr, .ref tr, .ref pf, .ref xb, .ref tl, .int so, .int sl])), (sr, .inr (2, [.int fo, .ref sb, .int dv, .int cs, .int lz, .ref sq, .ref sx, .ref sy]))] t) A
set_option maxHeartbeats 4000000 in
set_option maxRecDepth 100000 in
theorem cc_Planner_checkPlan (l : Launch) (D : va_G) (cI cZ cL cQ : ClassId) (sz : Nat) (pl : Nat) (tl : Nat) (a : Nat) (mi : Nat) (sr : Nat) (tr : Nat) (pf : Nat) (xb : Nat) (so : Int32) (sl : Int32) (sb : Nat) (sq : Nat) (sx : Nat) (sy : Nat) (fo : Int32) (dv : Int32) (cs : Int32) (lz : Int32) (hok : ¬ so = 0 ∧ ¬ fo = 0) : Met l yy_Planner_checkPlan ww_Planner_checkPlan ({ frames := 0, cells := 0, slots := 0, locals := 0 } : Room) (mm_Pc D kc_all [(cI, .int), (cZ, .boolean), (cL, .long), (cQ, .array .int)] sz [(pl, .inr (6, [.ref a, .ref mi, .ref sr, .ref tr, .ref pf, .ref xb, .ref tl, .int so, .int sl])), (sr, .inr (2, [.int fo, .ref sb, .int dv, .int cs, .int lz, .ref sq, .ref sx, .ref sy]))] [.ref pl]) (qq_Planner_checkPlan D cI cZ cL cQ pl tl a mi sr tr pf xb so sl sb sq sx sy fo dv cs lz (va_A [(pl, .inr (6, [.ref a, .ref mi, .ref sr, .ref tr, .ref pf, .ref xb, .ref tl, .int so, .int sl])), (sr, .inr (2, [.int fo, .ref sb, .int dv, .int cs, .int lz, .ref sq, .ref sx, .ref sy]))] sz)) 0 0 (va_A [(pl, .inr (6, [.ref a, .ref mi, .ref sr, .ref tr, .ref pf, .ref xb, .ref tl, .int so, .int sl])), (sr, .inr (2, [.int fo, .ref sb, .int dv, .int cs, .int lz, .ref sq, .ref sx, .ref sy]))] sz) := by
  refine Met.ofW (cc := bb_Planner_checkPlan) (maxL := 1) (ret := none) (by decide) rfl ?_
  intro p e s m args below meth c s₁ B hml hv
  obtain ⟨rfl, hsz, hP, hK, hD0⟩ := hv
  have hx := B.exec
  have hb := B.bytes
  have hr := B.returns
  have hts := atoms_spec (ws := ww_Planner_checkPlan) B.pre
  have hown : s.vm.findClass RR_Planner = some m.cls := findClass_of_methodNamed B.named
  have hlocks := B.notSynchronized
  subst hsz
  have hD := hD0.self (sz := s.heap.size)
  generalize hAe : va_A [(pl, .inr (6, [.ref a, .ref mi, .ref sr, .ref tr, .ref pf, .ref xb, .ref tl, .int so, .int sl])), (sr, .inr (2, [.int fo, .ref sb, .int dv, .int cs, .int lz, .ref sq, .ref sx, .ref sy]))] s.heap.size = A at hD ⊢
  have hA : ∀ q : Nat, s.heap.size ≤ q → A q := fun q h => by rw [← hAe]; exact Or.inr h
  have hS : va_S A s.heap s.heap [] := va_S.rf
  have hP : va_P D kc_all [(pl, .inr (6, [.ref a, .ref mi, .ref sr, .ref tr, .ref pf, .ref xb, .ref tl, .int so, .int sl])), (sr, .inr (2, [.int fo, .ref sb, .int dv, .int cs, .int lz, .ref sq, .ref sx, .ref sy]))] s.heap := hP
  have hl := lv_entry ([.ref pl]) (n := 1) (Nat.le_of_ble_eq_true rfl)
  rw [lg_entry_eq]
  generalize (lg_sl ([.ref pl]) ++ List.replicate (1 - (lg_sl ([.ref pl])).length) Slot.unset).toArray = ls at hl ⊢
  have hl : lv_has ls 1 [(0, .ref pl)] := hl
  have htb : ∀ w ∈ tb_all, w.before ([.ref pl]).toArray s = true := fun w h => hts w (List.mem_cons_of_mem _ h)
  have hf_26 := htb _ fl_Planner_26
  have hf_55 := htb _ fl_Planner_55
  have hf_140 := htb _ fl_Planner_140
  refine lv_aload_n hx hb dd_Planner_checkPlan_0 rfl (lv_at hl 0 rfl) ?_
  refine va_get (D := D) (ci := 6) (v := .int so) (C := RR_Planner) (T := FF_Planner) (N := 9) hx hb htb hi_Planner hown hK hP 0 rfl rfl 7 (by decide) hf_55 (fun _ h9 => h9) rfl dd_Planner_checkPlan_1 ?_
  refine lv_if_eq (tgt := 17) hx hb dd_Planner_checkPlan_4 (by decide) (fun h4 => ?_) (fun h4 => ?_)
  · skip
    exact absurd h4 hok.1
  · skip
    refine lv_aload_n hx hb dd_Planner_checkPlan_7 rfl (lv_at hl 0 rfl) ?_
    refine va_get (D := D) (ci := 6) (v := .ref sr) (C := RR_Planner) (T := FF_Planner) (N := 9) hx hb htb hi_Planner hown hK hP 0 rfl rfl 2 (by decide) hf_26 (fun _ h9 => h9) rfl dd_Planner_checkPlan_8 ?_
    refine va_get (D := D) (ci := 2) (v := .int fo) (C := RR_Search) (T := FF_Search) (N := 8) hx hb htb hi_Search hown hK hP 1 rfl rfl 0 (by decide) hf_140 (fun _ h9 => h9) rfl dd_Planner_checkPlan_11 ?_
    refine lv_if_ne (tgt := 27) hx hb dd_Planner_checkPlan_14 (by decide) (fun h14 => ?_) (fun h14 => ?_)
    · skip
      exact W.vret hx hb hr (fun t ht hW => ⟨⟨(), rfl, by first | rfl | trivial | assumption | omega, by rw [ht]; exact hP, va_K.moved hW.alike hK, hD⟩, hS.F ht⟩) hS.2.2 dd_Planner_checkPlan_27
    · skip
      exact absurd h14 hok.2
set_option maxHeartbeats 4000000 in
set_option maxRecDepth 100000 in
theorem cc_Planner_checkPlanX (l : Launch) (hnt : l.stackTraces = false) (D : va_G) (cI cZ cL cQ : ClassId) (sz : Nat) (pl : Nat) (tl : Nat) (a : Nat) (mi : Nat) (sr : Nat) (tr : Nat) (pf : Nat) (xb : Nat) (so : Int32) (sl : Int32) (sb : Nat) (sq : Nat) (sx : Nat) (sy : Nat) (fo : Int32) (dv : Int32) (cs : Int32) (lz : Int32) (hno : ¬ (¬ so = 0 ∧ ¬ fo = 0)) : mx_Met l yy_Planner_checkPlan ww_Planner_checkPlan ({ frames := 6, cells := 1, slots := 6, locals := 82 } : Room) (mx_Pc D kc_all [(cI, .int), (cZ, .boolean), (cL, .long), (cQ, .array .int)] sz [(pl, .inr (6, [.ref a, .ref mi, .ref sr, .ref tr, .ref pf, .ref xb, .ref tl, .int so, .int sl])), (sr, .inr (2, [.int fo, .ref sb, .int dv, .int cs, .int lz, .ref sq, .ref sx, .ref sy]))] [.ref pl]) (mx_Xq (fun E9 => E9 = "java/lang/IllegalStateException")) 1 6 (mx_A sz) := by
  refine mx_ofW (cc := bb_Planner_checkPlan) (maxL := 1) (ret := none) (by decide) rfl ?_
  intro p e s m args below meth c s₁ B hml hex hv
  obtain ⟨rfl, hsz, hP, hK, hD, hTr⟩ := hv
  have hx := B.exec
  have hb := B.bytes
  have hr := B.returns
  have hts := atoms_spec (ws := ww_Planner_checkPlan) B.pre
  have hown : s.vm.findClass RR_Planner = some m.cls := findClass_of_methodNamed B.named
  have hlocks := B.notSynchronized
  subst hsz
  have hS0 : va_S (mx_A s.heap.size) s.heap s.heap [] := va_S.rf
  have hP : va_P D kc_all [(pl, .inr (6, [.ref a, .ref mi, .ref sr, .ref tr, .ref pf, .ref xb, .ref tl, .int so, .int sl])), (sr, .inr (2, [.int fo, .ref sb, .int dv, .int cs, .int lz, .ref sq, .ref sx, .ref sy]))] s.heap := hP
  have hl := lv_entry ([.ref pl]) (n := 1) (Nat.le_of_ble_eq_true rfl)
  rw [lg_entry_eq]
  generalize (lg_sl ([.ref pl]) ++ List.replicate (1 - (lg_sl ([.ref pl])).length) Slot.unset).toArray = ls at hl ⊢
  have hl : lv_has ls 1 [(0, .ref pl)] := hl
  have htb : ∀ w ∈ tb_all, w.before ([.ref pl]).toArray s = true := fun w h => hts w (List.mem_cons_of_mem _ h)
  have hf_26 := htb _ fl_Planner_26
  have hf_55 := htb _ fl_Planner_55
  have hf_140 := htb _ fl_Planner_140
  refine lv_aload_n hx hb dd_Planner_checkPlan_0 rfl (lv_at hl 0 rfl) ?_
  refine va_get (D := D) (ci := 6) (v := .int so) (C := RR_Planner) (T := FF_Planner) (N := 9) hx hb htb hi_Planner hown hK hP 0 rfl rfl 7 (by decide) hf_55 (fun _ h9 => h9) rfl dd_Planner_checkPlan_1 ?_
  refine lv_if_eq (tgt := 17) hx hb dd_Planner_checkPlan_4 (by decide) (fun h4 => ?_) (fun h4 => ?_)
  · skip
    exact mx_throw (cls := "java/lang/IllegalStateException") (names := tx_up) hx hb hnt hown (by decide +kernel) (by decide +kernel) (htb _ kl_C) (htb _ ki_C) (mx_str hTr 10 225 _ rfl) (mx_own htb hTr ow_C) hex hlocks hS0 (hl.1.trans hml.symm) dd_Planner_checkPlan_17 dd_Planner_checkPlan_20 dd_Planner_checkPlan_21 dd_Planner_checkPlan_23 dd_Planner_checkPlan_26 (Nat.le_of_ble_eq_true rfl) (Nat.le_of_ble_eq_true rfl) (Nat.le_of_ble_eq_true rfl) (Nat.le_of_ble_eq_true rfl) (fun _ _ h => h) (fun _ h => h)
  · skip
    refine lv_aload_n hx hb dd_Planner_checkPlan_7 rfl (lv_at hl 0 rfl) ?_
    refine va_get (D := D) (ci := 6) (v := .ref sr) (C := RR_Planner) (T := FF_Planner) (N := 9) hx hb htb hi_Planner hown hK hP 0 rfl rfl 2 (by decide) hf_26 (fun _ h9 => h9) rfl dd_Planner_checkPlan_8 ?_
    refine va_get (D := D) (ci := 2) (v := .int fo) (C := RR_Search) (T := FF_Search) (N := 8) hx hb htb hi_Search hown hK hP 1 rfl rfl 0 (by decide) hf_140 (fun _ h9 => h9) rfl dd_Planner_checkPlan_11 ?_
    refine lv_if_ne (tgt := 27) hx hb dd_Planner_checkPlan_14 (by decide) (fun h14 => ?_) (fun h14 => ?_)
    · skip
      exact absurd ⟨h4, h14⟩ hno
    · skip
      exact mx_throw (cls := "java/lang/IllegalStateException") (names := tx_up) hx hb hnt hown (by decide +kernel) (by decide +kernel) (htb _ kl_C) (htb _ ki_C) (mx_str hTr 10 225 _ rfl) (mx_own htb hTr ow_C) hex hlocks hS0 (hl.1.trans hml.symm) dd_Planner_checkPlan_17 dd_Planner_checkPlan_20 dd_Planner_checkPlan_21 dd_Planner_checkPlan_23 dd_Planner_checkPlan_26 (Nat.le_of_ble_eq_true rfl) (Nat.le_of_ble_eq_true rfl) (Nat.le_of_ble_eq_true rfl) (Nat.le_of_ble_eq_true rfl) (fun _ _ h => h) (fun _ h => h)
abbrev qq_Planner_start (D : va_G) (cI cZ cL cQ : ClassId) (pl : Nat) (tl : Nat) (a : Nat) (mi : Nat) (sr : Nat) (tr : Nat) (pf : Nat) (xb : Nat) (so : Int32) (sl : Int32) (al : Nat) (am : Nat) (aw : Nat) (ac : Nat) (ag : Nat) (ab : Nat) (n0 : Int32) (k0 : Int32) (m1 : Nat) (lo : Nat → Int32) (hi : Nat → Int32) (wh : Nat → Int32) (co : Nat → Int32) (A : Nat → Prop) : Array Value → State → Outcome → State → Prop := va_Qv (fun u : (Nat → Int32) × (Nat → Int32) × (Nat → Int32) × (Nat → Int32) => ∀ j9, j9 < 4 → u.1 j9 = 0 ∧ u.2.1 j9 = 8 ∧ u.2.2.1 j9 = 1 ∧ u.2.2.2 j9 = 0) (fun (u : (Nat → Int32) × (Nat → Int32) × (Nat → Int32) × (Nat → Int32)) t => mm_B D kc_all [(cI, .int), (cZ, .boolean), (cL, .long), (cQ, .array .int)] A [(pl, .inr (6, [.ref a, .ref mi, .ref sr, .ref tr, .ref pf, .ref xb, .ref tl, .int 0, .int sl])), (a, .inr (0, [.int (nI m1), .int (nI 0), .ref al, .ref am, .ref aw, .ref ac, .ref ag, .ref ab])), (al, .inl (cI, 4, .inl u.1)), (am, .inl (cI, 4, .inl u.2.1)), (aw, .inl (cZ, 4, .inl u.2.2.1)), (ac, .inl (cI, 4, .inl u.2.2.2))] t) A
set_option maxHeartbeats 4000000 in
set_option maxRecDepth 100000 in
theorem cc_Planner_start (l : Launch) (D : va_G) (cI cZ cL cQ : ClassId) (sz : Nat) (pl : Nat) (tl : Nat) (a : Nat) (mi : Nat) (sr : Nat) (tr : Nat) (pf : Nat) (xb : Nat) (so : Int32) (sl : Int32) (al : Nat) (am : Nat) (aw : Nat) (ac : Nat) (ag : Nat) (ab : Nat) (n0 : Int32) (k0 : Int32) (m1 : Nat) (lo : Nat → Int32) (hi : Nat → Int32) (wh : Nat → Int32) (co : Nat → Int32) (hm : 1 ≤ m1 ∧ m1 ≤ 4) : Met l yy_Planner_start ww_Planner_start ({ frames := 1, cells := 0, slots := 0, locals := 23 } : Room) (mm_Pc D kc_all [(cI, .int), (cZ, .boolean), (cL, .long), (cQ, .array .int)] sz [(pl, .inr (6, [.ref a, .ref mi, .ref sr, .ref tr, .ref pf, .ref xb, .ref tl, .int so, .int sl])), (a, .inr (0, [.int n0, .int k0, .ref al, .ref am, .ref aw, .ref ac, .ref ag, .ref ab])), (al, .inl (cI, 4, .inl lo)), (am, .inl (cI, 4, .inl hi)), (aw, .inl (cZ, 4, .inl wh)), (ac, .inl (cI, 4, .inl co))] [.ref pl, .int (nI m1)]) (qq_Planner_start D cI cZ cL cQ pl tl a mi sr tr pf xb so sl al am aw ac ag ab n0 k0 m1 lo hi wh co (va_A [(pl, .inr (6, [.ref a, .ref mi, .ref sr, .ref tr, .ref pf, .ref xb, .ref tl, .int so, .int sl])), (a, .inr (0, [.int n0, .int k0, .ref al, .ref am, .ref aw, .ref ac, .ref ag, .ref ab])), (al, .inl (cI, 4, .inl lo)), (am, .inl (cI, 4, .inl hi)), (aw, .inl (cZ, 4, .inl wh)), (ac, .inl (cI, 4, .inl co))] sz)) 0 0 (va_A [(pl, .inr (6, [.ref a, .ref mi, .ref sr, .ref tr, .ref pf, .ref xb, .ref tl, .int so, .int sl])), (a, .inr (0, [.int n0, .int k0, .ref al, .ref am, .ref aw, .ref ac, .ref ag, .ref ab])), (al, .inl (cI, 4, .inl lo)), (am, .inl (cI, 4, .inl hi)), (aw, .inl (cZ, 4, .inl wh)), (ac, .inl (cI, 4, .inl co))] sz) := by
  refine Met.ofW (cc := bb_Planner_start) (maxL := 2) (ret := none) (by decide) rfl ?_
  intro p e s m args below meth c s₁ B hml hv
  obtain ⟨rfl, hsz, hP, hK, hD0⟩ := hv
  have hx := B.exec
  have hb := B.bytes
  have hr := B.returns
  have hts := atoms_spec (ws := ww_Planner_start) B.pre
  have hown : s.vm.findClass RR_Planner = some m.cls := findClass_of_methodNamed B.named
  have hlocks := B.notSynchronized
  subst hsz
  have hD := hD0.self (sz := s.heap.size)
  generalize hAe : va_A [(pl, .inr (6, [.ref a, .ref mi, .ref sr, .ref tr, .ref pf, .ref xb, .ref tl, .int so, .int sl])), (a, .inr (0, [.int n0, .int k0, .ref al, .ref am, .ref aw, .ref ac, .ref ag, .ref ab])), (al, .inl (cI, 4, .inl lo)), (am, .inl (cI, 4, .inl hi)), (aw, .inl (cZ, 4, .inl wh)), (ac, .inl (cI, 4, .inl co))] s.heap.size = A at hD ⊢
  have hA : ∀ q : Nat, s.heap.size ≤ q → A q := fun q h => by rw [← hAe]; exact Or.inr h
  have hS : va_S A s.heap s.heap [] := va_S.rf
  have hP : va_P D kc_all [(pl, .inr (6, [.ref a, .ref mi, .ref sr, .ref tr, .ref pf, .ref xb, .ref tl, .int so, .int sl])), (a, .inr (0, [.int n0, .int k0, .ref al, .ref am, .ref aw, .ref ac, .ref ag, .ref ab])), (al, .inl (cI, 4, .inl lo)), (am, .inl (cI, 4, .inl hi)), (aw, .inl (cZ, 4, .inl wh)), (ac, .inl (cI, 4, .inl co))] s.heap := hP
  have hl := lv_entry ([.ref pl, .int (nI m1)]) (n := 2) (Nat.le_of_ble_eq_true rfl)
  rw [lg_entry_eq]
  generalize (lg_sl ([.ref pl, .int (nI m1)]) ++ List.replicate (2 - (lg_sl ([.ref pl, .int (nI m1)])).length) Slot.unset).toArray = ls at hl ⊢
  have hl : lv_has ls 2 [(0, .ref pl), (1, .int (nI m1))] := hl
  have htb : ∀ w ∈ tb_all, w.before ([.ref pl, .int (nI m1)]).toArray s = true := fun w h => hts w (List.mem_cons_of_mem _ h)
  have hf_12 := htb _ fl_Planner_12
  have hf_55 := htb _ fl_Planner_55
  refine lv_iload_n hx hb dd_Planner_start_0 rfl (lv_at hl 1 rfl) ?_
  refine lv_iconst (v := 1) hx hb dd_Planner_start_1 (by decide) ?_
  refine lv_icmp_lt (tgt := 10) hx hb dd_Planner_start_2 (by decide) (fun h2 => ?_) (fun h2 => ?_)
  · skip
    have h2 : m1 < 1 := (nI_ltI (a := m1) (b := 1) (by omega) (by omega)).mp h2
    omega
  · skip
    have h2 : ¬ (m1 < 1) := fun q9 => h2 ((nI_ltI (a := m1) (b := 1) (by omega) (by omega)).mpr q9)
    refine lv_iload_n hx hb dd_Planner_start_5 rfl (lv_at hl 1 rfl) ?_
    refine lv_iconst (v := 4) hx hb dd_Planner_start_6 (by decide) ?_
    refine lv_icmp_le (tgt := 20) hx hb dd_Planner_start_7 (by decide) (fun h7 => ?_) (fun h7 => ?_)
    · skip
      have h7 : m1 ≤ 4 := (nI_leI (a := m1) (b := 4) (by omega) (by omega)).mp h7
      refine lv_aload_n hx hb dd_Planner_start_20 rfl (lv_at hl 0 rfl) ?_
      refine va_get (D := D) (ci := 6) (v := .ref a) (C := RR_Planner) (T := FF_Planner) (N := 9) hx hb htb hi_Planner hown hK hP 0 rfl rfl 0 (by decide) hf_12 (fun _ h9 => h9) rfl dd_Planner_start_21 ?_
      refine lv_iload_n hx hb dd_Planner_start_24 rfl (lv_at hl 1 rfl) ?_
      refine lv_bipush (v := 8) hx hb dd_Planner_start_25 (by decide) ?_
      refine mm_v (wc := [(a, .inr (0, [.int n0, .int k0, .ref al, .ref am, .ref aw, .ref ac, .ref ag, .ref ab])), (al, .inl (cI, 4, .inl lo)), (am, .inl (cI, 4, .inl hi)), (aw, .inl (cZ, 4, .inl wh)), (ac, .inl (cI, 4, .inl co))]) (wr := [(pl, .inr (6, [.ref a, .ref mi, .ref sr, .ref tr, .ref pf, .ref xb, .ref tl, .int so, .int sl]))]) (va_runV (As := [.int (nI m1), .int (8 : Int32)]) (rest := []) (C := RR_Problem) ⟨hx, hb, hml, hown, hts⟩ (cc_Problem_begin l D cI cZ cL cQ _ a al am aw ac ag ab n0 k0 m1 (8 : Int32) lo hi wh co ) (mm_cwV 2 hts ml_Planner_62 im_Problem_begin se_Problem_begin ic_Problem cd_Problem_begin rfl rfl (by decide +kernel) ⟨Nat.le_of_ble_eq_true rfl, Nat.le_of_ble_eq_true rfl⟩) (mm_preV hK hP hD [1, 2, 3, 4, 5] (by decide) rfl 1 rfl rfl) rfl rfl hl.1 rfl (lv_room (Nat.le_of_ble_eq_true rfl)) dd_Planner_start_27 ⟨Nat.zero_le _, Nat.zero_le _⟩) hP hD hS hA [1, 2, 3, 4, 5] [0] rfl rfl (by decide) (by decide) (fun zu2 H locs p27 hP hD hS => ?_)
      have hP : va_P D kc_all [(pl, .inr (6, [.ref a, .ref mi, .ref sr, .ref tr, .ref pf, .ref xb, .ref tl, .int so, .int sl])), (a, .inr (0, [.int (nI m1), .int (nI 0), .ref al, .ref am, .ref aw, .ref ac, .ref ag, .ref ab])), (al, .inl (cI, 4, .inl zu2.1)), (am, .inl (cI, 4, .inl zu2.2.1)), (aw, .inl (cZ, 4, .inl zu2.2.2.1)), (ac, .inl (cI, 4, .inl zu2.2.2.2))] H := hP
      have hD : va_D A [(pl, .inr (6, [.ref a, .ref mi, .ref sr, .ref tr, .ref pf, .ref xb, .ref tl, .int so, .int sl])), (a, .inr (0, [.int (nI m1), .int (nI 0), .ref al, .ref am, .ref aw, .ref ac, .ref ag, .ref ab])), (al, .inl (cI, 4, .inl zu2.1)), (am, .inl (cI, 4, .inl zu2.2.1)), (aw, .inl (cZ, 4, .inl zu2.2.2.1)), (ac, .inl (cI, 4, .inl zu2.2.2.2))] := hD
      have p27 : ∀ j9, j9 < 4 → zu2.1 j9 = 0 ∧ zu2.2.1 j9 = (8 : Int32) ∧ zu2.2.2.1 j9 = 1 ∧ zu2.2.2.2 j9 = 0 := p27
      refine lv_aload_n hx hb dd_Planner_start_30 rfl (lv_at hl 0 rfl) ?_
      refine lv_iconst (v := 0) hx hb dd_Planner_start_31 (by decide) ?_
      refine va_put (D := D) (ci := 6) (v := .int (0 : Int32)) (ty := .boolean) (C := RR_Planner) (T := FF_Planner) (N := 9) hx hb htb hi_Planner tt_Planner tt_Planner_ok nn_Planner hown hK hP hD hS 0 rfl rfl 7 (by decide) hf_55 (fun _ h9 => h9) rfl (by decide +kernel) (rfl) (rfl) (Nat.le_of_ble_eq_true rfl) dd_Planner_start_32 (fun H locs hP hD hS => ?_)
      have hP : va_P D kc_all [(pl, .inr (6, [.ref a, .ref mi, .ref sr, .ref tr, .ref pf, .ref xb, .ref tl, .int (0 : Int32), .int sl])), (a, .inr (0, [.int (nI m1), .int (nI 0), .ref al, .ref am, .ref aw, .ref ac, .ref ag, .ref ab])), (al, .inl (cI, 4, .inl zu2.1)), (am, .inl (cI, 4, .inl zu2.2.1)), (aw, .inl (cZ, 4, .inl zu2.2.2.1)), (ac, .inl (cI, 4, .inl zu2.2.2.2))] H := hP
      have hD : va_D A [(pl, .inr (6, [.ref a, .ref mi, .ref sr, .ref tr, .ref pf, .ref xb, .ref tl, .int (0 : Int32), .int sl])), (a, .inr (0, [.int (nI m1), .int (nI 0), .ref al, .ref am, .ref aw, .ref ac, .ref ag, .ref ab])), (al, .inl (cI, 4, .inl zu2.1)), (am, .inl (cI, 4, .inl zu2.2.1)), (aw, .inl (cZ, 4, .inl zu2.2.2.1)), (ac, .inl (cI, 4, .inl zu2.2.2.2))] := hD
      exact W.vret hx hb hr (fun t ht hW => ⟨⟨(zu2.1, zu2.2.1, zu2.2.2.1, zu2.2.2.2), rfl, p27, by rw [ht]; exact hP, va_K.moved hW.alike hK, hD⟩, hS.F ht⟩) hS.2.2 dd_Planner_start_35
    · skip
      have h7 : ¬ (m1 ≤ 4) := fun q9 => h7 ((nI_leI (a := m1) (b := 4) (by omega) (by omega)).mpr q9)
      omega
set_option maxHeartbeats 4000000 in
set_option maxRecDepth 100000 in
theorem cc_Planner_startX (l : Launch) (hnt : l.stackTraces = false) (D : va_G) (cI cZ cL cQ : ClassId) (sz : Nat) (pl : Nat) (tl : Nat) (a : Nat) (mi : Nat) (sr : Nat) (tr : Nat) (pf : Nat) (xb : Nat) (so : Int32) (sl : Int32) (mn : Int32) (hno : ¬ in_ok mn 1 4) : mx_Met l yy_Planner_start ww_Planner_start ({ frames := 6, cells := 1, slots := 6, locals := 82 } : Room) (mx_Pc D kc_all [(cI, .int), (cZ, .boolean), (cL, .long), (cQ, .array .int)] sz [(pl, .inr (6, [.ref a, .ref mi, .ref sr, .ref tr, .ref pf, .ref xb, .ref tl, .int so, .int sl]))] [.ref pl, .int mn]) (mx_Xq (fun E9 => E9 = "java/lang/IllegalArgumentException")) 1 6 (mx_A sz) := by
  refine mx_ofW (cc := bb_Planner_start) (maxL := 2) (ret := none) (by decide) rfl ?_
  intro p e s m args below meth c s₁ B hml hex hv
  obtain ⟨rfl, hsz, hP, hK, hD, hTr⟩ := hv
  have hx := B.exec
  have hb := B.bytes
  have hr := B.returns
  have hts := atoms_spec (ws := ww_Planner_start) B.pre
  have hown : s.vm.findClass RR_Planner = some m.cls := findClass_of_methodNamed B.named
  have hlocks := B.notSynchronized
  subst hsz
  have hS0 : va_S (mx_A s.heap.size) s.heap s.heap [] := va_S.rf
  have hP : va_P D kc_all [(pl, .inr (6, [.ref a, .ref mi, .ref sr, .ref tr, .ref pf, .ref xb, .ref tl, .int so, .int sl]))] s.heap := hP
  have hl := lv_entry ([.ref pl, .int mn]) (n := 2) (Nat.le_of_ble_eq_true rfl)
  rw [lg_entry_eq]
  generalize (lg_sl ([.ref pl, .int mn]) ++ List.replicate (2 - (lg_sl ([.ref pl, .int mn])).length) Slot.unset).toArray = ls at hl ⊢
  have hl : lv_has ls 2 [(0, .ref pl), (1, .int mn)] := hl
  have htb : ∀ w ∈ tb_all, w.before ([.ref pl, .int mn]).toArray s = true := fun w h => hts w (List.mem_cons_of_mem _ h)
  have hf_12 := htb _ fl_Planner_12
  have hf_55 := htb _ fl_Planner_55
  refine lv_iload_n hx hb dd_Planner_start_0 rfl (lv_at hl 1 rfl) ?_
  refine lv_iconst (v := 1) hx hb dd_Planner_start_1 (by decide) ?_
  refine lv_icmp_lt (tgt := 10) hx hb dd_Planner_start_2 (by decide) (fun h2 => ?_) (fun h2 => ?_)
  · skip
    exact mx_throw (cls := "java/lang/IllegalArgumentException") (names := tx_up) hx hb hnt hown (by decide +kernel) (by decide +kernel) (htb _ kl_A) (htb _ ki_A) (mx_str hTr 0 68 _ rfl) (mx_own htb hTr ow_A) hex hlocks hS0 (hl.1.trans hml.symm) dd_Planner_start_10 dd_Planner_start_13 dd_Planner_start_14 dd_Planner_start_16 dd_Planner_start_19 (Nat.le_of_ble_eq_true rfl) (Nat.le_of_ble_eq_true rfl) (Nat.le_of_ble_eq_true rfl) (Nat.le_of_ble_eq_true rfl) (fun _ _ h => h) (fun _ h => h)
  · skip
    refine lv_iload_n hx hb dd_Planner_start_5 rfl (lv_at hl 1 rfl) ?_
    refine lv_iconst (v := 4) hx hb dd_Planner_start_6 (by decide) ?_
    refine lv_icmp_le (tgt := 20) hx hb dd_Planner_start_7 (by decide) (fun h7 => ?_) (fun h7 => ?_)
    · skip
      exact absurd ⟨i3_nlt h2, h7⟩ hno
    · skip
      exact mx_throw (cls := "java/lang/IllegalArgumentException") (names := tx_up) hx hb hnt hown (by decide +kernel) (by decide +kernel) (htb _ kl_A) (htb _ ki_A) (mx_str hTr 0 68 _ rfl) (mx_own htb hTr ow_A) hex hlocks hS0 (hl.1.trans hml.symm) dd_Planner_start_10 dd_Planner_start_13 dd_Planner_start_14 dd_Planner_start_16 dd_Planner_start_19 (Nat.le_of_ble_eq_true rfl) (Nat.le_of_ble_eq_true rfl) (Nat.le_of_ble_eq_true rfl) (Nat.le_of_ble_eq_true rfl) (fun _ _ h => h) (fun _ h => h)
abbrev qq_Planner_amount (D : va_G) (cI cZ cL cQ : ClassId) (pl : Nat) (tl : Nat) (a : Nat) (mi : Nat) (sr : Nat) (tr : Nat) (pf : Nat) (xb : Nat) (so : Int32) (sl : Int32) (al : Nat) (am : Nat) (aw : Nat) (ac : Nat) (ag : Nat) (ab : Nat) (n : Nat) (k : Nat) (j : Nat) (lsv : Int32) (msv : Int32) (wv : Int32) (lo : Nat → Int32) (hi : Nat → Int32) (wh : Nat → Int32) (A : Nat → Prop) : Array Value → State → Outcome → State → Prop := va_Qv (fun u : Unit => True) (fun (u : Unit) t => mm_B D kc_all [(cI, .int), (cZ, .boolean), (cL, .long), (cQ, .array .int)] A [(pl, .inr (6, [.ref a, .ref mi, .ref sr, .ref tr, .ref pf, .ref xb, .ref tl, .int 0, .int sl])), (a, .inr (0, [.int (nI n), .int (nI k), .ref al, .ref am, .ref aw, .ref ac, .ref ag, .ref ab])), (al, .inl (cI, 4, .inl (upd lo j lsv))), (am, .inl (cI, 4, .inl (upd hi j msv))), (aw, .inl (cZ, 4, .inl (upd wh j wv)))] t) A
set_option maxHeartbeats 4000000 in
set_option maxRecDepth 100000 in
theorem cc_Planner_amount (l : Launch) (D : va_G) (cI cZ cL cQ : ClassId) (sz : Nat) (pl : Nat) (tl : Nat) (a : Nat) (mi : Nat) (sr : Nat) (tr : Nat) (pf : Nat) (xb : Nat) (so : Int32) (sl : Int32) (al : Nat) (am : Nat) (aw : Nat) (ac : Nat) (ag : Nat) (ab : Nat) (n : Nat) (k : Nat) (j : Nat) (lsv : Int32) (msv : Int32) (wv : Int32) (lo : Nat → Int32) (hi : Nat → Int32) (wh : Nat → Int32) (hn : 1 ≤ n ∧ n ≤ 4) (hj : j < n) (hwv : wv = 0 ∨ wv = 1) (hok : ag_ok lsv msv wv) : Met l yy_Planner_amount ww_Planner_amount ({ frames := 7, cells := 0, slots := 0, locals := 103 } : Room) (mm_Pc D kc_all [(cI, .int), (cZ, .boolean), (cL, .long), (cQ, .array .int)] sz [(pl, .inr (6, [.ref a, .ref mi, .ref sr, .ref tr, .ref pf, .ref xb, .ref tl, .int so, .int sl])), (a, .inr (0, [.int (nI n), .int (nI k), .ref al, .ref am, .ref aw, .ref ac, .ref ag, .ref ab])), (al, .inl (cI, 4, .inl lo)), (am, .inl (cI, 4, .inl hi)), (aw, .inl (cZ, 4, .inl wh))] [.ref pl, .int (nI j), .int lsv, .int msv, .int wv]) (qq_Planner_amount D cI cZ cL cQ pl tl a mi sr tr pf xb so sl al am aw ac ag ab n k j lsv msv wv lo hi wh (va_A [(pl, .inr (6, [.ref a, .ref mi, .ref sr, .ref tr, .ref pf, .ref xb, .ref tl, .int so, .int sl])), (a, .inr (0, [.int (nI n), .int (nI k), .ref al, .ref am, .ref aw, .ref ac, .ref ag, .ref ab])), (al, .inl (cI, 4, .inl lo)), (am, .inl (cI, 4, .inl hi)), (aw, .inl (cZ, 4, .inl wh))] sz)) 0 0 (va_A [(pl, .inr (6, [.ref a, .ref mi, .ref sr, .ref tr, .ref pf, .ref xb, .ref tl, .int so, .int sl])), (a, .inr (0, [.int (nI n), .int (nI k), .ref al, .ref am, .ref aw, .ref ac, .ref ag, .ref ab])), (al, .inl (cI, 4, .inl lo)), (am, .inl (cI, 4, .inl hi)), (aw, .inl (cZ, 4, .inl wh))] sz) := by
  refine Met.ofW (cc := bb_Planner_amount) (maxL := 5) (ret := none) (by decide) rfl ?_
  intro p e s m args below meth c s₁ B hml hv
  obtain ⟨rfl, hsz, hP, hK, hD0⟩ := hv
  have hx := B.exec
  have hb := B.bytes
  have hr := B.returns
  have hts := atoms_spec (ws := ww_Planner_amount) B.pre
  have hown : s.vm.findClass RR_Planner = some m.cls := findClass_of_methodNamed B.named
  have hlocks := B.notSynchronized
  subst hsz
  have hD := hD0.self (sz := s.heap.size)
  generalize hAe : va_A [(pl, .inr (6, [.ref a, .ref mi, .ref sr, .ref tr, .ref pf, .ref xb, .ref tl, .int so, .int sl])), (a, .inr (0, [.int (nI n), .int (nI k), .ref al, .ref am, .ref aw, .ref ac, .ref ag, .ref ab])), (al, .inl (cI, 4, .inl lo)), (am, .inl (cI, 4, .inl hi)), (aw, .inl (cZ, 4, .inl wh))] s.heap.size = A at hD ⊢
  have hA : ∀ q : Nat, s.heap.size ≤ q → A q := fun q h => by rw [← hAe]; exact Or.inr h
  have hS : va_S A s.heap s.heap [] := va_S.rf
  have hP : va_P D kc_all [(pl, .inr (6, [.ref a, .ref mi, .ref sr, .ref tr, .ref pf, .ref xb, .ref tl, .int so, .int sl])), (a, .inr (0, [.int (nI n), .int (nI k), .ref al, .ref am, .ref aw, .ref ac, .ref ag, .ref ab])), (al, .inl (cI, 4, .inl lo)), (am, .inl (cI, 4, .inl hi)), (aw, .inl (cZ, 4, .inl wh))] s.heap := hP
  have hl := lv_entry ([.ref pl, .int (nI j), .int lsv, .int msv, .int wv]) (n := 5) (Nat.le_of_ble_eq_true rfl)
  rw [lg_entry_eq]
  generalize (lg_sl ([.ref pl, .int (nI j), .int lsv, .int msv, .int wv]) ++ List.replicate (5 - (lg_sl ([.ref pl, .int (nI j), .int lsv, .int msv, .int wv])).length) Slot.unset).toArray = ls at hl ⊢
  have hl : lv_has ls 5 [(0, .ref pl), (1, .int (nI j)), (2, .int lsv), (3, .int msv), (4, .int wv)] := hl
  have htb : ∀ w ∈ tb_all, w.before ([.ref pl, .int (nI j), .int lsv, .int msv, .int wv]).toArray s = true := fun w h => hts w (List.mem_cons_of_mem _ h)
  have hf_12 := htb _ fl_Planner_12
  have hf_55 := htb _ fl_Planner_55
  have hf_85 := htb _ fl_Planner_85
  have hf_88 := htb _ fl_Planner_88
  have hf_91 := htb _ fl_Planner_91
  refine lv_aload_n hx hb dd_Planner_amount_0 rfl (lv_at hl 0 rfl) ?_
  refine lv_iload_n hx hb dd_Planner_amount_1 rfl (lv_at hl 1 rfl) ?_
  refine mm_v (wc := [(pl, .inr (6, [.ref a, .ref mi, .ref sr, .ref tr, .ref pf, .ref xb, .ref tl, .int so, .int sl])), (a, .inr (0, [.int (nI n), .int (nI k), .ref al, .ref am, .ref aw, .ref ac, .ref ag, .ref ab]))]) (wr := [(al, .inl (cI, 4, .inl lo)), (am, .inl (cI, 4, .inl hi)), (aw, .inl (cZ, 4, .inl wh))]) (va_runV (As := [.int (nI j)]) (rest := []) (C := RR_Planner) ⟨hx, hb, hml, hown, hts⟩ (cc_Planner_checkAmount l D cI cZ cL cQ _ pl tl a mi sr tr pf xb so sl al am aw ac ag ab n k j (by omega) (by omega)) (mm_cwV 1 hts ml_Planner_73 im_Planner_checkAmount se_Planner_checkAmount ic_Planner cd_Planner_checkAmount rfl rfl (by decide +kernel) ⟨Nat.le_of_ble_eq_true rfl, Nat.le_of_ble_eq_true rfl⟩) (mm_preV hK hP hD [0, 1] (by decide) rfl 0 rfl rfl) rfl rfl hl.1 rfl (lv_room (Nat.le_of_ble_eq_true rfl)) dd_Planner_amount_2 ⟨Nat.zero_le _, Nat.zero_le _⟩) hP hD hS hA [0, 1] [2, 3, 4] rfl rfl (by decide) (by decide) (fun zu2 H locs p2 hP hD hS => ?_)
  have hP : va_P D kc_all [(al, .inl (cI, 4, .inl lo)), (am, .inl (cI, 4, .inl hi)), (aw, .inl (cZ, 4, .inl wh)), (pl, .inr (6, [.ref a, .ref mi, .ref sr, .ref tr, .ref pf, .ref xb, .ref tl, .int so, .int sl])), (a, .inr (0, [.int (nI n), .int (nI k), .ref al, .ref am, .ref aw, .ref ac, .ref ag, .ref ab]))] H := hP
  have hD : va_D A [(al, .inl (cI, 4, .inl lo)), (am, .inl (cI, 4, .inl hi)), (aw, .inl (cZ, 4, .inl wh)), (pl, .inr (6, [.ref a, .ref mi, .ref sr, .ref tr, .ref pf, .ref xb, .ref tl, .int so, .int sl])), (a, .inr (0, [.int (nI n), .int (nI k), .ref al, .ref am, .ref aw, .ref ac, .ref ag, .ref ab]))] := hD
  have hP : va_P D kc_all [(pl, .inr (6, [.ref a, .ref mi, .ref sr, .ref tr, .ref pf, .ref xb, .ref tl, .int so, .int sl])), (a, .inr (0, [.int (nI n), .int (nI k), .ref al, .ref am, .ref aw, .ref ac, .ref ag, .ref ab])), (al, .inl (cI, 4, .inl lo)), (am, .inl (cI, 4, .inl hi)), (aw, .inl (cZ, 4, .inl wh))] H := hP.sub [3, 4, 0, 1, 2] rfl
  have hD : va_D A [(pl, .inr (6, [.ref a, .ref mi, .ref sr, .ref tr, .ref pf, .ref xb, .ref tl, .int so, .int sl])), (a, .inr (0, [.int (nI n), .int (nI k), .ref al, .ref am, .ref aw, .ref ac, .ref ag, .ref ab])), (al, .inl (cI, 4, .inl lo)), (am, .inl (cI, 4, .inl hi)), (aw, .inl (cZ, 4, .inl wh))] := hD.sub [3, 4, 0, 1, 2] (by decide) rfl
  have p2 : True := p2
  refine lv_iload_n hx hb dd_Planner_amount_5 rfl (lv_at hl 2 rfl) ?_
  refine lv_bipush (v := 20) hx hb dd_Planner_amount_6 (by decide) ?_
  refine mm_i (wc := []) (wr := [(pl, .inr (6, [.ref a, .ref mi, .ref sr, .ref tr, .ref pf, .ref xb, .ref tl, .int so, .int sl])), (a, .inr (0, [.int (nI n), .int (nI k), .ref al, .ref am, .ref aw, .ref ac, .ref ag, .ref ab])), (al, .inl (cI, 4, .inl lo)), (am, .inl (cI, 4, .inl hi)), (aw, .inl (cZ, 4, .inl wh))]) (va_runS (As := [.int lsv, .int (20 : Int32)]) (rest := []) ⟨hx, hb, hml, hown, hts⟩ (cc_Planner_isWithin l D cI cZ cL cQ _ lsv (20 : Int32) ) (mm_cwS 2 hts ml_Planner_77 sm_Planner_isWithin ic_Planner cd_Planner_isWithin rfl rfl (by decide +kernel) ⟨Nat.le_of_ble_eq_true rfl, Nat.le_of_ble_eq_true rfl⟩) (mm_preS hK hP hD [] (by decide) rfl) rfl rfl hl.1 rfl (lv_room (Nat.le_of_ble_eq_true rfl)) dd_Planner_amount_8 ⟨Nat.zero_le _, Nat.zero_le _⟩) hP hD hS hA [] [0, 1, 2, 3, 4] rfl rfl (by decide) (by decide) (fun zr3 zu4 H locs p8 hP hD hS => ?_)
  have hP : va_P D kc_all [(pl, .inr (6, [.ref a, .ref mi, .ref sr, .ref tr, .ref pf, .ref xb, .ref tl, .int so, .int sl])), (a, .inr (0, [.int (nI n), .int (nI k), .ref al, .ref am, .ref aw, .ref ac, .ref ag, .ref ab])), (al, .inl (cI, 4, .inl lo)), (am, .inl (cI, 4, .inl hi)), (aw, .inl (cZ, 4, .inl wh))] H := hP
  have hD : va_D A [(pl, .inr (6, [.ref a, .ref mi, .ref sr, .ref tr, .ref pf, .ref xb, .ref tl, .int so, .int sl])), (a, .inr (0, [.int (nI n), .int (nI k), .ref al, .ref am, .ref aw, .ref ac, .ref ag, .ref ab])), (al, .inl (cI, 4, .inl lo)), (am, .inl (cI, 4, .inl hi)), (aw, .inl (cZ, 4, .inl wh))] := hD
  have p8 : tl_ok (iw_ok lsv (20 : Int32)) zr3 := p8
  refine lv_if_eq (tgt := 28) hx hb dd_Planner_amount_11 (by decide) (fun h11 => ?_) (fun h11 => ?_)
  · skip
    exact absurd (iw_of hok.1.1) (tl_0 p8 h11)
  · skip
    refine lv_iload_n hx hb dd_Planner_amount_14 rfl (lv_at hl 3 rfl) ?_
    refine lv_bipush (v := 20) hx hb dd_Planner_amount_15 (by decide) ?_
    refine mm_i (wc := []) (wr := [(pl, .inr (6, [.ref a, .ref mi, .ref sr, .ref tr, .ref pf, .ref xb, .ref tl, .int so, .int sl])), (a, .inr (0, [.int (nI n), .int (nI k), .ref al, .ref am, .ref aw, .ref ac, .ref ag, .ref ab])), (al, .inl (cI, 4, .inl lo)), (am, .inl (cI, 4, .inl hi)), (aw, .inl (cZ, 4, .inl wh))]) (va_runS (As := [.int msv, .int (20 : Int32)]) (rest := []) ⟨hx, hb, hml, hown, hts⟩ (cc_Planner_isWithin l D cI cZ cL cQ _ msv (20 : Int32) ) (mm_cwS 2 hts ml_Planner_77 sm_Planner_isWithin ic_Planner cd_Planner_isWithin rfl rfl (by decide +kernel) ⟨Nat.le_of_ble_eq_true rfl, Nat.le_of_ble_eq_true rfl⟩) (mm_preS hK hP hD [] (by decide) rfl) rfl rfl hl.1 rfl (lv_room (Nat.le_of_ble_eq_true rfl)) dd_Planner_amount_17 ⟨Nat.zero_le _, Nat.zero_le _⟩) hP hD hS hA [] [0, 1, 2, 3, 4] rfl rfl (by decide) (by decide) (fun zr5 zu6 H locs p17 hP hD hS => ?_)
    have hP : va_P D kc_all [(pl, .inr (6, [.ref a, .ref mi, .ref sr, .ref tr, .ref pf, .ref xb, .ref tl, .int so, .int sl])), (a, .inr (0, [.int (nI n), .int (nI k), .ref al, .ref am, .ref aw, .ref ac, .ref ag, .ref ab])), (al, .inl (cI, 4, .inl lo)), (am, .inl (cI, 4, .inl hi)), (aw, .inl (cZ, 4, .inl wh))] H := hP
    have hD : va_D A [(pl, .inr (6, [.ref a, .ref mi, .ref sr, .ref tr, .ref pf, .ref xb, .ref tl, .int so, .int sl])), (a, .inr (0, [.int (nI n), .int (nI k), .ref al, .ref am, .ref aw, .ref ac, .ref ag, .ref ab])), (al, .inl (cI, 4, .inl lo)), (am, .inl (cI, 4, .inl hi)), (aw, .inl (cZ, 4, .inl wh))] := hD
    have p17 : tl_ok (iw_ok msv (20 : Int32)) zr5 := p17
    refine lv_if_eq (tgt := 28) hx hb dd_Planner_amount_20 (by decide) (fun h20 => ?_) (fun h20 => ?_)
    · skip
      exact absurd (iw_of hok.1.2) (tl_0 p17 h20)
    · skip
      refine lv_iload_n hx hb dd_Planner_amount_23 rfl (lv_at hl 2 rfl) ?_
      refine lv_iload_n hx hb dd_Planner_amount_24 rfl (lv_at hl 3 rfl) ?_
      refine lv_icmp_le (tgt := 38) hx hb dd_Planner_amount_25 (by decide) (fun h25 => ?_) (fun h25 => ?_)
      · skip
        refine lv_iload hx hb dd_Planner_amount_38 (lv_at hl 4 rfl) ?_
        refine lv_if_eq (tgt := 61) hx hb dd_Planner_amount_40 (by decide) (fun h40 => ?_) (fun h40 => ?_)
        · skip
          refine lv_aload_n hx hb dd_Planner_amount_61 rfl (lv_at hl 0 rfl) ?_
          refine va_get (D := D) (ci := 6) (v := .ref a) (C := RR_Planner) (T := FF_Planner) (N := 9) hx hb htb hi_Planner hown hK hP 0 rfl rfl 0 (by decide) hf_12 (fun _ h9 => h9) rfl dd_Planner_amount_62 ?_
          refine va_get (D := D) (ci := 0) (v := .ref al) (C := RR_Problem) (T := FF_Problem) (N := 8) hx hb htb hi_Problem hown hK hP 1 rfl rfl 2 (by decide) hf_85 (fun _ h9 => h9) rfl dd_Planner_amount_65 ?_
          refine lv_iload_n hx hb dd_Planner_amount_68 rfl (lv_at hl 1 rfl) ?_
          refine lv_iload_n hx hb dd_Planner_amount_69 rfl (lv_at hl 2 rfl) ?_
          refine mm_iast hx hb hK hP hD hS 2 0 rfl rfl (j) (rfl) (by omega) (by first | decide | omega) dd_Planner_amount_70 (fun H locs hP hD hS => ?_)
          have hP : va_P D kc_all [(pl, .inr (6, [.ref a, .ref mi, .ref sr, .ref tr, .ref pf, .ref xb, .ref tl, .int so, .int sl])), (a, .inr (0, [.int (nI n), .int (nI k), .ref al, .ref am, .ref aw, .ref ac, .ref ag, .ref ab])), (al, .inl (cI, 4, .inl (upd lo j lsv))), (am, .inl (cI, 4, .inl hi)), (aw, .inl (cZ, 4, .inl wh))] H := hP
          have hD : va_D A [(pl, .inr (6, [.ref a, .ref mi, .ref sr, .ref tr, .ref pf, .ref xb, .ref tl, .int so, .int sl])), (a, .inr (0, [.int (nI n), .int (nI k), .ref al, .ref am, .ref aw, .ref ac, .ref ag, .ref ab])), (al, .inl (cI, 4, .inl (upd lo j lsv))), (am, .inl (cI, 4, .inl hi)), (aw, .inl (cZ, 4, .inl wh))] := hD
          refine lv_aload_n hx hb dd_Planner_amount_71 rfl (lv_at hl 0 rfl) ?_
          refine va_get (D := D) (ci := 6) (v := .ref a) (C := RR_Planner) (T := FF_Planner) (N := 9) hx hb htb hi_Planner hown hK hP 0 rfl rfl 0 (by decide) hf_12 (fun _ h9 => h9) rfl dd_Planner_amount_72 ?_
          refine va_get (D := D) (ci := 0) (v := .ref am) (C := RR_Problem) (T := FF_Problem) (N := 8) hx hb htb hi_Problem hown hK hP 1 rfl rfl 3 (by decide) hf_88 (fun _ h9 => h9) rfl dd_Planner_amount_75 ?_
          refine lv_iload_n hx hb dd_Planner_amount_78 rfl (lv_at hl 1 rfl) ?_
          refine lv_iload_n hx hb dd_Planner_amount_79 rfl (lv_at hl 3 rfl) ?_
          refine mm_iast hx hb hK hP hD hS 3 0 rfl rfl (j) (rfl) (by omega) (by first | decide | omega) dd_Planner_amount_80 (fun H locs hP hD hS => ?_)
          have hP : va_P D kc_all [(pl, .inr (6, [.ref a, .ref mi, .ref sr, .ref tr, .ref pf, .ref xb, .ref tl, .int so, .int sl])), (a, .inr (0, [.int (nI n), .int (nI k), .ref al, .ref am, .ref aw, .ref ac, .ref ag, .ref ab])), (al, .inl (cI, 4, .inl (upd lo j lsv))), (am, .inl (cI, 4, .inl (upd hi j msv))), (aw, .inl (cZ, 4, .inl wh))] H := hP
          have hD : va_D A [(pl, .inr (6, [.ref a, .ref mi, .ref sr, .ref tr, .ref pf, .ref xb, .ref tl, .int so, .int sl])), (a, .inr (0, [.int (nI n), .int (nI k), .ref al, .ref am, .ref aw, .ref ac, .ref ag, .ref ab])), (al, .inl (cI, 4, .inl (upd lo j lsv))), (am, .inl (cI, 4, .inl (upd hi j msv))), (aw, .inl (cZ, 4, .inl wh))] := hD
          refine lv_aload_n hx hb dd_Planner_amount_81 rfl (lv_at hl 0 rfl) ?_
          refine va_get (D := D) (ci := 6) (v := .ref a) (C := RR_Planner) (T := FF_Planner) (N := 9) hx hb htb hi_Planner hown hK hP 0 rfl rfl 0 (by decide) hf_12 (fun _ h9 => h9) rfl dd_Planner_amount_82 ?_
          refine va_get (D := D) (ci := 0) (v := .ref aw) (C := RR_Problem) (T := FF_Problem) (N := 8) hx hb htb hi_Problem hown hK hP 1 rfl rfl 4 (by decide) hf_91 (fun _ h9 => h9) rfl dd_Planner_amount_85 ?_
          refine lv_iload_n hx hb dd_Planner_amount_88 rfl (lv_at hl 1 rfl) ?_
          refine lv_iload hx hb dd_Planner_amount_89 (lv_at hl 4 rfl) ?_
          refine mm_zast hx hb hK hP hD hS 4 1 rfl rfl (j) (rfl) (by omega) (by first | decide | omega) (by rcases hwv with rfl | rfl <;> decide) dd_Planner_amount_91 (fun H locs hP hD hS => ?_)
          have hP : va_P D kc_all [(pl, .inr (6, [.ref a, .ref mi, .ref sr, .ref tr, .ref pf, .ref xb, .ref tl, .int so, .int sl])), (a, .inr (0, [.int (nI n), .int (nI k), .ref al, .ref am, .ref aw, .ref ac, .ref ag, .ref ab])), (al, .inl (cI, 4, .inl (upd lo j lsv))), (am, .inl (cI, 4, .inl (upd hi j msv))), (aw, .inl (cZ, 4, .inl (upd wh j wv)))] H := hP
          have hD : va_D A [(pl, .inr (6, [.ref a, .ref mi, .ref sr, .ref tr, .ref pf, .ref xb, .ref tl, .int so, .int sl])), (a, .inr (0, [.int (nI n), .int (nI k), .ref al, .ref am, .ref aw, .ref ac, .ref ag, .ref ab])), (al, .inl (cI, 4, .inl (upd lo j lsv))), (am, .inl (cI, 4, .inl (upd hi j msv))), (aw, .inl (cZ, 4, .inl (upd wh j wv)))] := hD
          refine lv_aload_n hx hb dd_Planner_amount_92 rfl (lv_at hl 0 rfl) ?_
          refine lv_iconst (v := 0) hx hb dd_Planner_amount_93 (by decide) ?_
          refine va_put (D := D) (ci := 6) (v := .int (0 : Int32)) (ty := .boolean) (C := RR_Planner) (T := FF_Planner) (N := 9) hx hb htb hi_Planner tt_Planner tt_Planner_ok nn_Planner hown hK hP hD hS 0 rfl rfl 7 (by decide) hf_55 (fun _ h9 => h9) rfl (by decide +kernel) (rfl) (rfl) (Nat.le_of_ble_eq_true rfl) dd_Planner_amount_94 (fun H locs hP hD hS => ?_)
          have hP : va_P D kc_all [(pl, .inr (6, [.ref a, .ref mi, .ref sr, .ref tr, .ref pf, .ref xb, .ref tl, .int (0 : Int32), .int sl])), (a, .inr (0, [.int (nI n), .int (nI k), .ref al, .ref am, .ref aw, .ref ac, .ref ag, .ref ab])), (al, .inl (cI, 4, .inl (upd lo j lsv))), (am, .inl (cI, 4, .inl (upd hi j msv))), (aw, .inl (cZ, 4, .inl (upd wh j wv)))] H := hP
          have hD : va_D A [(pl, .inr (6, [.ref a, .ref mi, .ref sr, .ref tr, .ref pf, .ref xb, .ref tl, .int (0 : Int32), .int sl])), (a, .inr (0, [.int (nI n), .int (nI k), .ref al, .ref am, .ref aw, .ref ac, .ref ag, .ref ab])), (al, .inl (cI, 4, .inl (upd lo j lsv))), (am, .inl (cI, 4, .inl (upd hi j msv))), (aw, .inl (cZ, 4, .inl (upd wh j wv)))] := hD
          exact W.vret hx hb hr (fun t ht hW => ⟨⟨(), rfl, by first | rfl | trivial | assumption | omega, by rw [ht]; exact hP, va_K.moved hW.alike hK, hD⟩, hS.F ht⟩) hS.2.2 dd_Planner_amount_97
        · skip
          refine lv_iload_n hx hb dd_Planner_amount_43 rfl (lv_at hl 3 rfl) ?_
          refine lv_iload_n hx hb dd_Planner_amount_44 rfl (lv_at hl 2 rfl) ?_
          refine lv_isub hx hb dd_Planner_amount_45 ?_
          refine lv_bipush (v := 8) hx hb dd_Planner_amount_46 (by decide) ?_
          refine lv_icmp_le (tgt := 61) hx hb dd_Planner_amount_48 (by decide) (fun h48 => ?_) (fun h48 => ?_)
          · skip
            refine lv_aload_n hx hb dd_Planner_amount_61 rfl (lv_at hl 0 rfl) ?_
            refine va_get (D := D) (ci := 6) (v := .ref a) (C := RR_Planner) (T := FF_Planner) (N := 9) hx hb htb hi_Planner hown hK hP 0 rfl rfl 0 (by decide) hf_12 (fun _ h9 => h9) rfl dd_Planner_amount_62 ?_
            refine va_get (D := D) (ci := 0) (v := .ref al) (C := RR_Problem) (T := FF_Problem) (N := 8) hx hb htb hi_Problem hown hK hP 1 rfl rfl 2 (by decide) hf_85 (fun _ h9 => h9) rfl dd_Planner_amount_65 ?_
            refine lv_iload_n hx hb dd_Planner_amount_68 rfl (lv_at hl 1 rfl) ?_
            refine lv_iload_n hx hb dd_Planner_amount_69 rfl (lv_at hl 2 rfl) ?_
            refine mm_iast hx hb hK hP hD hS 2 0 rfl rfl (j) (rfl) (by omega) (by first | decide | omega) dd_Planner_amount_70 (fun H locs hP hD hS => ?_)
            have hP : va_P D kc_all [(pl, .inr (6, [.ref a, .ref mi, .ref sr, .ref tr, .ref pf, .ref xb, .ref tl, .int so, .int sl])), (a, .inr (0, [.int (nI n), .int (nI k), .ref al, .ref am, .ref aw, .ref ac, .ref ag, .ref ab])), (al, .inl (cI, 4, .inl (upd lo j lsv))), (am, .inl (cI, 4, .inl hi)), (aw, .inl (cZ, 4, .inl wh))] H := hP
            have hD : va_D A [(pl, .inr (6, [.ref a, .ref mi, .ref sr, .ref tr, .ref pf, .ref xb, .ref tl, .int so, .int sl])), (a, .inr (0, [.int (nI n), .int (nI k), .ref al, .ref am, .ref aw, .ref ac, .ref ag, .ref ab])), (al, .inl (cI, 4, .inl (upd lo j lsv))), (am, .inl (cI, 4, .inl hi)), (aw, .inl (cZ, 4, .inl wh))] := hD
            refine lv_aload_n hx hb dd_Planner_amount_71 rfl (lv_at hl 0 rfl) ?_
            refine va_get (D := D) (ci := 6) (v := .ref a) (C := RR_Planner) (T := FF_Planner) (N := 9) hx hb htb hi_Planner hown hK hP 0 rfl rfl 0 (by decide) hf_12 (fun _ h9 => h9) rfl dd_Planner_amount_72 ?_
            refine va_get (D := D) (ci := 0) (v := .ref am) (C := RR_Problem) (T := FF_Problem) (N := 8) hx hb htb hi_Problem hown hK hP 1 rfl rfl 3 (by decide) hf_88 (fun _ h9 => h9) rfl dd_Planner_amount_75 ?_
            refine lv_iload_n hx hb dd_Planner_amount_78 rfl (lv_at hl 1 rfl) ?_
            refine lv_iload_n hx hb dd_Planner_amount_79 rfl (lv_at hl 3 rfl) ?_
            refine mm_iast hx hb hK hP hD hS 3 0 rfl rfl (j) (rfl) (by omega) (by first | decide | omega) dd_Planner_amount_80 (fun H locs hP hD hS => ?_)
            have hP : va_P D kc_all [(pl, .inr (6, [.ref a, .ref mi, .ref sr, .ref tr, .ref pf, .ref xb, .ref tl, .int so, .int sl])), (a, .inr (0, [.int (nI n), .int (nI k), .ref al, .ref am, .ref aw, .ref ac, .ref ag, .ref ab])), (al, .inl (cI, 4, .inl (upd lo j lsv))), (am, .inl (cI, 4, .inl (upd hi j msv))), (aw, .inl (cZ, 4, .inl wh))] H := hP
            have hD : va_D A [(pl, .inr (6, [.ref a, .ref mi, .ref sr, .ref tr, .ref pf, .ref xb, .ref tl, .int so, .int sl])), (a, .inr (0, [.int (nI n), .int (nI k), .ref al, .ref am, .ref aw, .ref ac, .ref ag, .ref ab])), (al, .inl (cI, 4, .inl (upd lo j lsv))), (am, .inl (cI, 4, .inl (upd hi j msv))), (aw, .inl (cZ, 4, .inl wh))] := hD
            refine lv_aload_n hx hb dd_Planner_amount_81 rfl (lv_at hl 0 rfl) ?_
            refine va_get (D := D) (ci := 6) (v := .ref a) (C := RR_Planner) (T := FF_Planner) (N := 9) hx hb htb hi_Planner hown hK hP 0 rfl rfl 0 (by decide) hf_12 (fun _ h9 => h9) rfl dd_Planner_amount_82 ?_
            refine va_get (D := D) (ci := 0) (v := .ref aw) (C := RR_Problem) (T := FF_Problem) (N := 8) hx hb htb hi_Problem hown hK hP 1 rfl rfl 4 (by decide) hf_91 (fun _ h9 => h9) rfl dd_Planner_amount_85 ?_
            refine lv_iload_n hx hb dd_Planner_amount_88 rfl (lv_at hl 1 rfl) ?_
            refine lv_iload hx hb dd_Planner_amount_89 (lv_at hl 4 rfl) ?_
            refine mm_zast hx hb hK hP hD hS 4 1 rfl rfl (j) (rfl) (by omega) (by first | decide | omega) (by rcases hwv with rfl | rfl <;> decide) dd_Planner_amount_91 (fun H locs hP hD hS => ?_)
            have hP : va_P D kc_all [(pl, .inr (6, [.ref a, .ref mi, .ref sr, .ref tr, .ref pf, .ref xb, .ref tl, .int so, .int sl])), (a, .inr (0, [.int (nI n), .int (nI k), .ref al, .ref am, .ref aw, .ref ac, .ref ag, .ref ab])), (al, .inl (cI, 4, .inl (upd lo j lsv))), (am, .inl (cI, 4, .inl (upd hi j msv))), (aw, .inl (cZ, 4, .inl (upd wh j wv)))] H := hP
            have hD : va_D A [(pl, .inr (6, [.ref a, .ref mi, .ref sr, .ref tr, .ref pf, .ref xb, .ref tl, .int so, .int sl])), (a, .inr (0, [.int (nI n), .int (nI k), .ref al, .ref am, .ref aw, .ref ac, .ref ag, .ref ab])), (al, .inl (cI, 4, .inl (upd lo j lsv))), (am, .inl (cI, 4, .inl (upd hi j msv))), (aw, .inl (cZ, 4, .inl (upd wh j wv)))] := hD
            refine lv_aload_n hx hb dd_Planner_amount_92 rfl (lv_at hl 0 rfl) ?_
            refine lv_iconst (v := 0) hx hb dd_Planner_amount_93 (by decide) ?_
            refine va_put (D := D) (ci := 6) (v := .int (0 : Int32)) (ty := .boolean) (C := RR_Planner) (T := FF_Planner) (N := 9) hx hb htb hi_Planner tt_Planner tt_Planner_ok nn_Planner hown hK hP hD hS 0 rfl rfl 7 (by decide) hf_55 (fun _ h9 => h9) rfl (by decide +kernel) (rfl) (rfl) (Nat.le_of_ble_eq_true rfl) dd_Planner_amount_94 (fun H locs hP hD hS => ?_)
            have hP : va_P D kc_all [(pl, .inr (6, [.ref a, .ref mi, .ref sr, .ref tr, .ref pf, .ref xb, .ref tl, .int (0 : Int32), .int sl])), (a, .inr (0, [.int (nI n), .int (nI k), .ref al, .ref am, .ref aw, .ref ac, .ref ag, .ref ab])), (al, .inl (cI, 4, .inl (upd lo j lsv))), (am, .inl (cI, 4, .inl (upd hi j msv))), (aw, .inl (cZ, 4, .inl (upd wh j wv)))] H := hP
            have hD : va_D A [(pl, .inr (6, [.ref a, .ref mi, .ref sr, .ref tr, .ref pf, .ref xb, .ref tl, .int (0 : Int32), .int sl])), (a, .inr (0, [.int (nI n), .int (nI k), .ref al, .ref am, .ref aw, .ref ac, .ref ag, .ref ab])), (al, .inl (cI, 4, .inl (upd lo j lsv))), (am, .inl (cI, 4, .inl (upd hi j msv))), (aw, .inl (cZ, 4, .inl (upd wh j wv)))] := hD
            exact W.vret hx hb hr (fun t ht hW => ⟨⟨(), rfl, by first | rfl | trivial | assumption | omega, by rw [ht]; exact hP, va_K.moved hW.alike hK, hD⟩, hS.F ht⟩) hS.2.2 dd_Planner_amount_97
          · skip
            exact absurd hok.2.2 (fun z => z.elim h40 (fun y9 => y9 (i3_nle h48)))
      · skip
        exact absurd (i3_nle h25) hok.2.1
set_option maxHeartbeats 4000000 in
set_option maxRecDepth 100000 in
theorem cc_Planner_amountX (l : Launch) (hnt : l.stackTraces = false) (D : va_G) (cI cZ cL cQ : ClassId) (sz : Nat) (pl : Nat) (tl : Nat) (a : Nat) (mi : Nat) (sr : Nat) (tr : Nat) (pf : Nat) (xb : Nat) (so : Int32) (sl : Int32) (al : Nat) (am : Nat) (aw : Nat) (ac : Nat) (ag : Nat) (ab : Nat) (n : Nat) (k : Nat) (jv : Int32) (lsv : Int32) (msv : Int32) (wv : Int32) (hno : ¬ (0 ≤ jv ∧ jv < nI n)) : mx_Met l yy_Planner_amount ww_Planner_amount ({ frames := 7, cells := 1, slots := 6, locals := 103 } : Room) (mx_Pc D kc_all [(cI, .int), (cZ, .boolean), (cL, .long), (cQ, .array .int)] sz [(pl, .inr (6, [.ref a, .ref mi, .ref sr, .ref tr, .ref pf, .ref xb, .ref tl, .int so, .int sl])), (a, .inr (0, [.int (nI n), .int (nI k), .ref al, .ref am, .ref aw, .ref ac, .ref ag, .ref ab]))] [.ref pl, .int jv, .int lsv, .int msv, .int wv]) (mx_Xq (fun E9 => E9 = "java/lang/IndexOutOfBoundsException")) 1 6 (mx_A sz) := by
  refine mx_ofW (cc := bb_Planner_amount) (maxL := 5) (ret := none) (by decide) rfl ?_
  intro p e s m args below meth c s₁ B hml hex hv
  obtain ⟨rfl, hsz, hP, hK, hD, hTr⟩ := hv
  have hx := B.exec
  have hb := B.bytes
  have hr := B.returns
  have hts := atoms_spec (ws := ww_Planner_amount) B.pre
  have hown : s.vm.findClass RR_Planner = some m.cls := findClass_of_methodNamed B.named
  have hlocks := B.notSynchronized
  subst hsz
  have hS0 : va_S (mx_A s.heap.size) s.heap s.heap [] := va_S.rf
  have hP : va_P D kc_all [(pl, .inr (6, [.ref a, .ref mi, .ref sr, .ref tr, .ref pf, .ref xb, .ref tl, .int so, .int sl])), (a, .inr (0, [.int (nI n), .int (nI k), .ref al, .ref am, .ref aw, .ref ac, .ref ag, .ref ab]))] s.heap := hP
  have hl := lv_entry ([.ref pl, .int jv, .int lsv, .int msv, .int wv]) (n := 5) (Nat.le_of_ble_eq_true rfl)
  rw [lg_entry_eq]
  generalize (lg_sl ([.ref pl, .int jv, .int lsv, .int msv, .int wv]) ++ List.replicate (5 - (lg_sl ([.ref pl, .int jv, .int lsv, .int msv, .int wv])).length) Slot.unset).toArray = ls at hl ⊢
  have hl : lv_has ls 5 [(0, .ref pl), (1, .int jv), (2, .int lsv), (3, .int msv), (4, .int wv)] := hl
  have htb : ∀ w ∈ tb_all, w.before ([.ref pl, .int jv, .int lsv, .int msv, .int wv]).toArray s = true := fun w h => hts w (List.mem_cons_of_mem _ h)
  have hf_12 := htb _ fl_Planner_12
  have hf_55 := htb _ fl_Planner_55
  have hf_85 := htb _ fl_Planner_85
  have hf_88 := htb _ fl_Planner_88
  have hf_91 := htb _ fl_Planner_91
  refine lv_aload_n hx hb dd_Planner_amount_0 rfl (lv_at hl 0 rfl) ?_
  refine lv_iload_n hx hb dd_Planner_amount_1 rfl (lv_at hl 1 rfl) ?_
  exact mx_pass (mx_runV (As := [.int jv]) (rest := []) (C := RR_Planner) ⟨hx, hb, hml, hown, hts⟩ (cc_Planner_checkAmountX l hnt D cI cZ cL cQ _ pl tl a mi sr tr pf xb so sl al am aw ac ag ab n k jv (hno)) (mm_cwV 1 hts ml_Planner_73 im_Planner_checkAmount se_Planner_checkAmount ic_Planner cd_Planner_checkAmount rfl rfl (by decide +kernel) ⟨Nat.le_of_ble_eq_true rfl, Nat.le_of_ble_eq_true rfl⟩) (mx_preV hTr hS0 hK hP hD [0, 1] (by decide) rfl 0 rfl rfl) rfl rfl hl.1 rfl (lv_room (Nat.le_of_ble_eq_true rfl)) dd_Planner_amount_2 ⟨Nat.le_of_ble_eq_true rfl, Nat.le_of_ble_eq_true rfl⟩) hS0 (fun _ h => h) hex hlocks (fun _ h => h)
set_option maxHeartbeats 4000000 in
set_option maxRecDepth 100000 in
theorem cc_Planner_amountY (l : Launch) (hnt : l.stackTraces = false) (D : va_G) (cI cZ cL cQ : ClassId) (sz : Nat) (pl : Nat) (tl : Nat) (a : Nat) (mi : Nat) (sr : Nat) (tr : Nat) (pf : Nat) (xb : Nat) (so : Int32) (sl : Int32) (al : Nat) (am : Nat) (aw : Nat) (ac : Nat) (ag : Nat) (ab : Nat) (n : Nat) (k : Nat) (j : Nat) (lsv : Int32) (msv : Int32) (wv : Int32) (hn : 1 ≤ n ∧ n ≤ 4) (hj : j < n) (hno : ¬ ag_ok lsv msv wv) : mx_Met l yy_Planner_amount ww_Planner_amount ({ frames := 7, cells := 1, slots := 6, locals := 103 } : Room) (mx_Pc D kc_all [(cI, .int), (cZ, .boolean), (cL, .long), (cQ, .array .int)] sz [(pl, .inr (6, [.ref a, .ref mi, .ref sr, .ref tr, .ref pf, .ref xb, .ref tl, .int so, .int sl])), (a, .inr (0, [.int (nI n), .int (nI k), .ref al, .ref am, .ref aw, .ref ac, .ref ag, .ref ab]))] [.ref pl, .int (nI j), .int lsv, .int msv, .int wv]) (mx_Xq (fun E9 => E9 = "java/lang/IllegalArgumentException")) 1 6 (mx_A sz) := by
  refine mx_ofW (cc := bb_Planner_amount) (maxL := 5) (ret := none) (by decide) rfl ?_
  intro p e s m args below meth c s₁ B hml hex hv
  obtain ⟨rfl, hsz, hP, hK, hD, hTr⟩ := hv
  have hx := B.exec
  have hb := B.bytes
  have hr := B.returns
  have hts := atoms_spec (ws := ww_Planner_amount) B.pre
  have hown : s.vm.findClass RR_Planner = some m.cls := findClass_of_methodNamed B.named
  have hlocks := B.notSynchronized
  subst hsz
  have hS0 : va_S (mx_A s.heap.size) s.heap s.heap [] := va_S.rf
  have hP : va_P D kc_all [(pl, .inr (6, [.ref a, .ref mi, .ref sr, .ref tr, .ref pf, .ref xb, .ref tl, .int so, .int sl])), (a, .inr (0, [.int (nI n), .int (nI k), .ref al, .ref am, .ref aw, .ref ac, .ref ag, .ref ab]))] s.heap := hP
  have hl := lv_entry ([.ref pl, .int (nI j), .int lsv, .int msv, .int wv]) (n := 5) (Nat.le_of_ble_eq_true rfl)
  rw [lg_entry_eq]
  generalize (lg_sl ([.ref pl, .int (nI j), .int lsv, .int msv, .int wv]) ++ List.replicate (5 - (lg_sl ([.ref pl, .int (nI j), .int lsv, .int msv, .int wv])).length) Slot.unset).toArray = ls at hl ⊢
  have hl : lv_has ls 5 [(0, .ref pl), (1, .int (nI j)), (2, .int lsv), (3, .int msv), (4, .int wv)] := hl
  have htb : ∀ w ∈ tb_all, w.before ([.ref pl, .int (nI j), .int lsv, .int msv, .int wv]).toArray s = true := fun w h => hts w (List.mem_cons_of_mem _ h)
  have hf_12 := htb _ fl_Planner_12
  have hf_55 := htb _ fl_Planner_55
  have hf_85 := htb _ fl_Planner_85
  have hf_88 := htb _ fl_Planner_88
  have hf_91 := htb _ fl_Planner_91
  refine lv_aload_n hx hb dd_Planner_amount_0 rfl (lv_at hl 0 rfl) ?_
  refine lv_iload_n hx hb dd_Planner_amount_1 rfl (lv_at hl 1 rfl) ?_
  refine mx_pv (va_runV (As := [.int (nI j)]) (rest := []) (C := RR_Planner) ⟨hx, hb, hml, hown, hts⟩ (cc_Planner_checkAmountP l D cI cZ cL cQ _ pl tl a mi sr tr pf xb so sl al am aw ac ag ab n k j (by omega) (by omega)) (mm_cwV 1 hts ml_Planner_73 im_Planner_checkAmount se_Planner_checkAmount ic_Planner cd_Planner_checkAmount rfl rfl (by decide +kernel) ⟨Nat.le_of_ble_eq_true rfl, Nat.le_of_ble_eq_true rfl⟩) (mm_preV hK hP hD [0, 1] (by decide) rfl 0 rfl rfl) rfl rfl hl.1 rfl (lv_room (Nat.le_of_ble_eq_true rfl)) dd_Planner_amount_2 ⟨Nat.zero_le _, Nat.zero_le _⟩) (fun _ h => h) hP hS0 (fun zu2 H locs p2 hP hS0 => ?_)
  have p2 : True := p2
  refine lv_iload_n hx hb dd_Planner_amount_5 rfl (lv_at hl 2 rfl) ?_
  refine lv_bipush (v := 20) hx hb dd_Planner_amount_6 (by decide) ?_
  refine mx_pi (va_runS (As := [.int lsv, .int (20 : Int32)]) (rest := []) ⟨hx, hb, hml, hown, hts⟩ (cc_Planner_isWithin l D cI cZ cL cQ _ lsv (20 : Int32) ) (mm_cwS 2 hts ml_Planner_77 sm_Planner_isWithin ic_Planner cd_Planner_isWithin rfl rfl (by decide +kernel) ⟨Nat.le_of_ble_eq_true rfl, Nat.le_of_ble_eq_true rfl⟩) (mm_preS hK hP hD [] (by decide) rfl) rfl rfl hl.1 rfl (lv_room (Nat.le_of_ble_eq_true rfl)) dd_Planner_amount_8 ⟨Nat.zero_le _, Nat.zero_le _⟩) (fun _ h => mx_A0 h) hP hS0 (fun zr3 zu4 H locs p8 hP hS0 => ?_)
  have p8 : tl_ok (iw_ok lsv (20 : Int32)) zr3 := p8
  refine lv_if_eq (tgt := 28) hx hb dd_Planner_amount_11 (by decide) (fun h11 => ?_) (fun h11 => ?_)
  · skip
    exact mx_throw (cls := "java/lang/IllegalArgumentException") (names := tx_up) hx hb hnt hown (by decide +kernel) (by decide +kernel) (htb _ kl_A) (htb _ ki_A) (mx_str hTr 2 81 _ rfl) (mx_own htb hTr ow_A) hex hlocks hS0 (hl.1.trans hml.symm) dd_Planner_amount_28 dd_Planner_amount_31 dd_Planner_amount_32 dd_Planner_amount_34 dd_Planner_amount_37 (Nat.le_of_ble_eq_true rfl) (Nat.le_of_ble_eq_true rfl) (Nat.le_of_ble_eq_true rfl) (Nat.le_of_ble_eq_true rfl) (fun _ _ h => h) (fun _ h => h)
  · skip
    refine lv_iload_n hx hb dd_Planner_amount_14 rfl (lv_at hl 3 rfl) ?_
    refine lv_bipush (v := 20) hx hb dd_Planner_amount_15 (by decide) ?_
    refine mx_pi (va_runS (As := [.int msv, .int (20 : Int32)]) (rest := []) ⟨hx, hb, hml, hown, hts⟩ (cc_Planner_isWithin l D cI cZ cL cQ _ msv (20 : Int32) ) (mm_cwS 2 hts ml_Planner_77 sm_Planner_isWithin ic_Planner cd_Planner_isWithin rfl rfl (by decide +kernel) ⟨Nat.le_of_ble_eq_true rfl, Nat.le_of_ble_eq_true rfl⟩) (mm_preS hK hP hD [] (by decide) rfl) rfl rfl hl.1 rfl (lv_room (Nat.le_of_ble_eq_true rfl)) dd_Planner_amount_17 ⟨Nat.zero_le _, Nat.zero_le _⟩) (fun _ h => mx_A0 h) hP hS0 (fun zr5 zu6 H locs p17 hP hS0 => ?_)
    have p17 : tl_ok (iw_ok msv (20 : Int32)) zr5 := p17
    refine lv_if_eq (tgt := 28) hx hb dd_Planner_amount_20 (by decide) (fun h20 => ?_) (fun h20 => ?_)
    · skip
      exact mx_throw (cls := "java/lang/IllegalArgumentException") (names := tx_up) hx hb hnt hown (by decide +kernel) (by decide +kernel) (htb _ kl_A) (htb _ ki_A) (mx_str hTr 2 81 _ rfl) (mx_own htb hTr ow_A) hex hlocks hS0 (hl.1.trans hml.symm) dd_Planner_amount_28 dd_Planner_amount_31 dd_Planner_amount_32 dd_Planner_amount_34 dd_Planner_amount_37 (Nat.le_of_ble_eq_true rfl) (Nat.le_of_ble_eq_true rfl) (Nat.le_of_ble_eq_true rfl) (Nat.le_of_ble_eq_true rfl) (fun _ _ h => h) (fun _ h => h)
    · skip
      refine lv_iload_n hx hb dd_Planner_amount_23 rfl (lv_at hl 2 rfl) ?_
      refine lv_iload_n hx hb dd_Planner_amount_24 rfl (lv_at hl 3 rfl) ?_
      refine lv_icmp_le (tgt := 38) hx hb dd_Planner_amount_25 (by decide) (fun h25 => ?_) (fun h25 => ?_)
      · skip
        have hb9 := (⟨⟨of_iw (tl_1 p8 h11), of_iw (tl_1 p17 h20)⟩, i3_len h25⟩ : (in_ok lsv (-20) 20 ∧ in_ok msv (-20) 20) ∧ ¬ msv < lsv)
        refine lv_iload hx hb dd_Planner_amount_38 (lv_at hl 4 rfl) ?_
        refine lv_if_eq (tgt := 61) hx hb dd_Planner_amount_40 (by decide) (fun h40 => ?_) (fun h40 => ?_)
        · skip
          exact absurd ⟨hb9.1, hb9.2, Or.inl h40⟩ hno
        · skip
          refine lv_iload_n hx hb dd_Planner_amount_43 rfl (lv_at hl 3 rfl) ?_
          refine lv_iload_n hx hb dd_Planner_amount_44 rfl (lv_at hl 2 rfl) ?_
          refine lv_isub hx hb dd_Planner_amount_45 ?_
          refine lv_bipush (v := 8) hx hb dd_Planner_amount_46 (by decide) ?_
          refine lv_icmp_le (tgt := 61) hx hb dd_Planner_amount_48 (by decide) (fun h48 => ?_) (fun h48 => ?_)
          · skip
            exact absurd ⟨hb9.1, hb9.2, Or.inr (i3_len h48)⟩ hno
          · skip
            exact mx_throw (cls := "java/lang/IllegalArgumentException") (names := tx_up) hx hb hnt hown (by decide +kernel) (by decide +kernel) (htb _ kl_A) (htb _ ki_A) (mx_str hTr 3 83 _ rfl) (mx_own htb hTr ow_A) hex hlocks hS0 (hl.1.trans hml.symm) dd_Planner_amount_51 dd_Planner_amount_54 dd_Planner_amount_55 dd_Planner_amount_57 dd_Planner_amount_60 (Nat.le_of_ble_eq_true rfl) (Nat.le_of_ble_eq_true rfl) (Nat.le_of_ble_eq_true rfl) (Nat.le_of_ble_eq_true rfl) (fun _ _ h => h) (fun _ h => h)
      · skip
        exact mx_throw (cls := "java/lang/IllegalArgumentException") (names := tx_up) hx hb hnt hown (by decide +kernel) (by decide +kernel) (htb _ kl_A) (htb _ ki_A) (mx_str hTr 2 81 _ rfl) (mx_own htb hTr ow_A) hex hlocks hS0 (hl.1.trans hml.symm) dd_Planner_amount_28 dd_Planner_amount_31 dd_Planner_amount_32 dd_Planner_amount_34 dd_Planner_amount_37 (Nat.le_of_ble_eq_true rfl) (Nat.le_of_ble_eq_true rfl) (Nat.le_of_ble_eq_true rfl) (Nat.le_of_ble_eq_true rfl) (fun _ _ h => h) (fun _ h => h)
abbrev qq_Planner_cost (D : va_G) (cI cZ cL cQ : ClassId) (pl : Nat) (tl : Nat) (a : Nat) (mi : Nat) (sr : Nat) (tr : Nat) (pf : Nat) (xb : Nat) (so : Int32) (sl : Int32) (al : Nat) (am : Nat) (aw : Nat) (ac : Nat) (ag : Nat) (ab : Nat) (n : Nat) (k : Nat) (j : Nat) (cv : Int32) (co : Nat → Int32) (A : Nat → Prop) : Array Value → State → Outcome → State → Prop := va_Qv (fun u : Unit => True) (fun (u : Unit) t => mm_B D kc_all [(cI, .int), (cZ, .boolean), (cL, .long), (cQ, .array .int)] A [(pl, .inr (6, [.ref a, .ref mi, .ref sr, .ref tr, .ref pf, .ref xb, .ref tl, .int 0, .int sl])), (a, .inr (0, [.int (nI n), .int (nI k), .ref al, .ref am, .ref aw, .ref ac, .ref ag, .ref ab])), (ac, .inl (cI, 4, .inl (upd co j cv)))] t) A
set_option maxHeartbeats 4000000 in
set_option maxRecDepth 100000 in
theorem cc_Planner_cost (l : Launch) (D : va_G) (cI cZ cL cQ : ClassId) (sz : Nat) (pl : Nat) (tl : Nat) (a : Nat) (mi : Nat) (sr : Nat) (tr : Nat) (pf : Nat) (xb : Nat) (so : Int32) (sl : Int32) (al : Nat) (am : Nat) (aw : Nat) (ac : Nat) (ag : Nat) (ab : Nat) (n : Nat) (k : Nat) (j : Nat) (cv : Int32) (co : Nat → Int32) (hn : 1 ≤ n ∧ n ≤ 4) (hj : j < n) (hok : in_ok cv (-9) 9) : Met l yy_Planner_cost ww_Planner_cost ({ frames := 7, cells := 0, slots := 0, locals := 103 } : Room) (mm_Pc D kc_all [(cI, .int), (cZ, .boolean), (cL, .long), (cQ, .array .int)] sz [(pl, .inr (6, [.ref a, .ref mi, .ref sr, .ref tr, .ref pf, .ref xb, .ref tl, .int so, .int sl])), (a, .inr (0, [.int (nI n), .int (nI k), .ref al, .ref am, .ref aw, .ref ac, .ref ag, .ref ab])), (ac, .inl (cI, 4, .inl co))] [.ref pl, .int (nI j), .int cv]) (qq_Planner_cost D cI cZ cL cQ pl tl a mi sr tr pf xb so sl al am aw ac ag ab n k j cv co (va_A [(pl, .inr (6, [.ref a, .ref mi, .ref sr, .ref tr, .ref pf, .ref xb, .ref tl, .int so, .int sl])), (a, .inr (0, [.int (nI n), .int (nI k), .ref al, .ref am, .ref aw, .ref ac, .ref ag, .ref ab])), (ac, .inl (cI, 4, .inl co))] sz)) 0 0 (va_A [(pl, .inr (6, [.ref a, .ref mi, .ref sr, .ref tr, .ref pf, .ref xb, .ref tl, .int so, .int sl])), (a, .inr (0, [.int (nI n), .int (nI k), .ref al, .ref am, .ref aw, .ref ac, .ref ag, .ref ab])), (ac, .inl (cI, 4, .inl co))] sz) := by
  refine Met.ofW (cc := bb_Planner_cost) (maxL := 3) (ret := none) (by decide) rfl ?_
  intro p e s m args below meth c s₁ B hml hv
  obtain ⟨rfl, hsz, hP, hK, hD0⟩ := hv
  have hx := B.exec
  have hb := B.bytes
  have hr := B.returns
  have hts := atoms_spec (ws := ww_Planner_cost) B.pre
  have hown : s.vm.findClass RR_Planner = some m.cls := findClass_of_methodNamed B.named
  have hlocks := B.notSynchronized
  subst hsz
  have hD := hD0.self (sz := s.heap.size)
  generalize hAe : va_A [(pl, .inr (6, [.ref a, .ref mi, .ref sr, .ref tr, .ref pf, .ref xb, .ref tl, .int so, .int sl])), (a, .inr (0, [.int (nI n), .int (nI k), .ref al, .ref am, .ref aw, .ref ac, .ref ag, .ref ab])), (ac, .inl (cI, 4, .inl co))] s.heap.size = A at hD ⊢
  have hA : ∀ q : Nat, s.heap.size ≤ q → A q := fun q h => by rw [← hAe]; exact Or.inr h
  have hS : va_S A s.heap s.heap [] := va_S.rf
  have hP : va_P D kc_all [(pl, .inr (6, [.ref a, .ref mi, .ref sr, .ref tr, .ref pf, .ref xb, .ref tl, .int so, .int sl])), (a, .inr (0, [.int (nI n), .int (nI k), .ref al, .ref am, .ref aw, .ref ac, .ref ag, .ref ab])), (ac, .inl (cI, 4, .inl co))] s.heap := hP
  have hl := lv_entry ([.ref pl, .int (nI j), .int cv]) (n := 3) (Nat.le_of_ble_eq_true rfl)
  rw [lg_entry_eq]
  generalize (lg_sl ([.ref pl, .int (nI j), .int cv]) ++ List.replicate (3 - (lg_sl ([.ref pl, .int (nI j), .int cv])).length) Slot.unset).toArray = ls at hl ⊢
  have hl : lv_has ls 3 [(0, .ref pl), (1, .int (nI j)), (2, .int cv)] := hl
  have htb : ∀ w ∈ tb_all, w.before ([.ref pl, .int (nI j), .int cv]).toArray s = true := fun w h => hts w (List.mem_cons_of_mem _ h)
  have hf_12 := htb _ fl_Planner_12
  have hf_55 := htb _ fl_Planner_55
  have hf_97 := htb _ fl_Planner_97
  refine lv_aload_n hx hb dd_Planner_cost_0 rfl (lv_at hl 0 rfl) ?_
  refine lv_iload_n hx hb dd_Planner_cost_1 rfl (lv_at hl 1 rfl) ?_
  refine mm_v (wc := [(pl, .inr (6, [.ref a, .ref mi, .ref sr, .ref tr, .ref pf, .ref xb, .ref tl, .int so, .int sl])), (a, .inr (0, [.int (nI n), .int (nI k), .ref al, .ref am, .ref aw, .ref ac, .ref ag, .ref ab]))]) (wr := [(ac, .inl (cI, 4, .inl co))]) (va_runV (As := [.int (nI j)]) (rest := []) (C := RR_Planner) ⟨hx, hb, hml, hown, hts⟩ (cc_Planner_checkAmount l D cI cZ cL cQ _ pl tl a mi sr tr pf xb so sl al am aw ac ag ab n k j (by omega) (by omega)) (mm_cwV 1 hts ml_Planner_73 im_Planner_checkAmount se_Planner_checkAmount ic_Planner cd_Planner_checkAmount rfl rfl (by decide +kernel) ⟨Nat.le_of_ble_eq_true rfl, Nat.le_of_ble_eq_true rfl⟩) (mm_preV hK hP hD [0, 1] (by decide) rfl 0 rfl rfl) rfl rfl hl.1 rfl (lv_room (Nat.le_of_ble_eq_true rfl)) dd_Planner_cost_2 ⟨Nat.zero_le _, Nat.zero_le _⟩) hP hD hS hA [0, 1] [2] rfl rfl (by decide) (by decide) (fun zu2 H locs p2 hP hD hS => ?_)
  have hP : va_P D kc_all [(ac, .inl (cI, 4, .inl co)), (pl, .inr (6, [.ref a, .ref mi, .ref sr, .ref tr, .ref pf, .ref xb, .ref tl, .int so, .int sl])), (a, .inr (0, [.int (nI n), .int (nI k), .ref al, .ref am, .ref aw, .ref ac, .ref ag, .ref ab]))] H := hP
  have hD : va_D A [(ac, .inl (cI, 4, .inl co)), (pl, .inr (6, [.ref a, .ref mi, .ref sr, .ref tr, .ref pf, .ref xb, .ref tl, .int so, .int sl])), (a, .inr (0, [.int (nI n), .int (nI k), .ref al, .ref am, .ref aw, .ref ac, .ref ag, .ref ab]))] := hD
  have hP : va_P D kc_all [(pl, .inr (6, [.ref a, .ref mi, .ref sr, .ref tr, .ref pf, .ref xb, .ref tl, .int so, .int sl])), (a, .inr (0, [.int (nI n), .int (nI k), .ref al, .ref am, .ref aw, .ref ac, .ref ag, .ref ab])), (ac, .inl (cI, 4, .inl co))] H := hP.sub [1, 2, 0] rfl
  have hD : va_D A [(pl, .inr (6, [.ref a, .ref mi, .ref sr, .ref tr, .ref pf, .ref xb, .ref tl, .int so, .int sl])), (a, .inr (0, [.int (nI n), .int (nI k), .ref al, .ref am, .ref aw, .ref ac, .ref ag, .ref ab])), (ac, .inl (cI, 4, .inl co))] := hD.sub [1, 2, 0] (by decide) rfl
  have p2 : True := p2
  refine lv_iload_n hx hb dd_Planner_cost_5 rfl (lv_at hl 2 rfl) ?_
  refine lv_bipush (v := 9) hx hb dd_Planner_cost_6 (by decide) ?_
  refine mm_i (wc := []) (wr := [(pl, .inr (6, [.ref a, .ref mi, .ref sr, .ref tr, .ref pf, .ref xb, .ref tl, .int so, .int sl])), (a, .inr (0, [.int (nI n), .int (nI k), .ref al, .ref am, .ref aw, .ref ac, .ref ag, .ref ab])), (ac, .inl (cI, 4, .inl co))]) (va_runS (As := [.int cv, .int (9 : Int32)]) (rest := []) ⟨hx, hb, hml, hown, hts⟩ (cc_Planner_isWithin l D cI cZ cL cQ _ cv (9 : Int32) ) (mm_cwS 2 hts ml_Planner_77 sm_Planner_isWithin ic_Planner cd_Planner_isWithin rfl rfl (by decide +kernel) ⟨Nat.le_of_ble_eq_true rfl, Nat.le_of_ble_eq_true rfl⟩) (mm_preS hK hP hD [] (by decide) rfl) rfl rfl hl.1 rfl (lv_room (Nat.le_of_ble_eq_true rfl)) dd_Planner_cost_8 ⟨Nat.zero_le _, Nat.zero_le _⟩) hP hD hS hA [] [0, 1, 2] rfl rfl (by decide) (by decide) (fun zr3 zu4 H locs p8 hP hD hS => ?_)
  have hP : va_P D kc_all [(pl, .inr (6, [.ref a, .ref mi, .ref sr, .ref tr, .ref pf, .ref xb, .ref tl, .int so, .int sl])), (a, .inr (0, [.int (nI n), .int (nI k), .ref al, .ref am, .ref aw, .ref ac, .ref ag, .ref ab])), (ac, .inl (cI, 4, .inl co))] H := hP
  have hD : va_D A [(pl, .inr (6, [.ref a, .ref mi, .ref sr, .ref tr, .ref pf, .ref xb, .ref tl, .int so, .int sl])), (a, .inr (0, [.int (nI n), .int (nI k), .ref al, .ref am, .ref aw, .ref ac, .ref ag, .ref ab])), (ac, .inl (cI, 4, .inl co))] := hD
  have p8 : tl_ok (iw_ok cv (9 : Int32)) zr3 := p8
  refine lv_if_ne (tgt := 24) hx hb dd_Planner_cost_11 (by decide) (fun h11 => ?_) (fun h11 => ?_)
  · skip
    refine lv_aload_n hx hb dd_Planner_cost_24 rfl (lv_at hl 0 rfl) ?_
    refine va_get (D := D) (ci := 6) (v := .ref a) (C := RR_Planner) (T := FF_Planner) (N := 9) hx hb htb hi_Planner hown hK hP 0 rfl rfl 0 (by decide) hf_12 (fun _ h9 => h9) rfl dd_Planner_cost_25 ?_
    refine va_get (D := D) (ci := 0) (v := .ref ac) (C := RR_Problem) (T := FF_Problem) (N := 8) hx hb htb hi_Problem hown hK hP 1 rfl rfl 5 (by decide) hf_97 (fun _ h9 => h9) rfl dd_Planner_cost_28 ?_
    refine lv_iload_n hx hb dd_Planner_cost_31 rfl (lv_at hl 1 rfl) ?_
    refine lv_iload_n hx hb dd_Planner_cost_32 rfl (lv_at hl 2 rfl) ?_
    refine mm_iast hx hb hK hP hD hS 2 0 rfl rfl (j) (rfl) (by omega) (by first | decide | omega) dd_Planner_cost_33 (fun H locs hP hD hS => ?_)
    have hP : va_P D kc_all [(pl, .inr (6, [.ref a, .ref mi, .ref sr, .ref tr, .ref pf, .ref xb, .ref tl, .int so, .int sl])), (a, .inr (0, [.int (nI n), .int (nI k), .ref al, .ref am, .ref aw, .ref ac, .ref ag, .ref ab])), (ac, .inl (cI, 4, .inl (upd co j cv)))] H := hP
    have hD : va_D A [(pl, .inr (6, [.ref a, .ref mi, .ref sr, .ref tr, .ref pf, .ref xb, .ref tl, .int so, .int sl])), (a, .inr (0, [.int (nI n), .int (nI k), .ref al, .ref am, .ref aw, .ref ac, .ref ag, .ref ab])), (ac, .inl (cI, 4, .inl (upd co j cv)))] := hD
    refine lv_aload_n hx hb dd_Planner_cost_34 rfl (lv_at hl 0 rfl) ?_
    refine lv_iconst (v := 0) hx hb dd_Planner_cost_35 (by decide) ?_
    refine va_put (D := D) (ci := 6) (v := .int (0 : Int32)) (ty := .boolean) (C := RR_Planner) (T := FF_Planner) (N := 9) hx hb htb hi_Planner tt_Planner tt_Planner_ok nn_Planner hown hK hP hD hS 0 rfl rfl 7 (by decide) hf_55 (fun _ h9 => h9) rfl (by decide +kernel) (rfl) (rfl) (Nat.le_of_ble_eq_true rfl) dd_Planner_cost_36 (fun H locs hP hD hS => ?_)
    have hP : va_P D kc_all [(pl, .inr (6, [.ref a, .ref mi, .ref sr, .ref tr, .ref pf, .ref xb, .ref tl, .int (0 : Int32), .int sl])), (a, .inr (0, [.int (nI n), .int (nI k), .ref al, .ref am, .ref aw, .ref ac, .ref ag, .ref ab])), (ac, .inl (cI, 4, .inl (upd co j cv)))] H := hP
    have hD : va_D A [(pl, .inr (6, [.ref a, .ref mi, .ref sr, .ref tr, .ref pf, .ref xb, .ref tl, .int (0 : Int32), .int sl])), (a, .inr (0, [.int (nI n), .int (nI k), .ref al, .ref am, .ref aw, .ref ac, .ref ag, .ref ab])), (ac, .inl (cI, 4, .inl (upd co j cv)))] := hD
    exact W.vret hx hb hr (fun t ht hW => ⟨⟨(), rfl, by first | rfl | trivial | assumption | omega, by rw [ht]; exact hP, va_K.moved hW.alike hK, hD⟩, hS.F ht⟩) hS.2.2 dd_Planner_cost_39
  · skip
    exact absurd (iw_of hok) (tl_0 p8 h11)
set_option maxHeartbeats 4000000 in
set_option maxRecDepth 100000 in
theorem cc_Planner_costX (l : Launch) (hnt : l.stackTraces = false) (D : va_G) (cI cZ cL cQ : ClassId) (sz : Nat) (pl : Nat) (tl : Nat) (a : Nat) (mi : Nat) (sr : Nat) (tr : Nat) (pf : Nat) (xb : Nat) (so : Int32) (sl : Int32) (al : Nat) (am : Nat) (aw : Nat) (ac : Nat) (ag : Nat) (ab : Nat) (n : Nat) (k : Nat) (jv : Int32) (cv : Int32) (hno : ¬ (0 ≤ jv ∧ jv < nI n)) : mx_Met l yy_Planner_cost ww_Planner_cost ({ frames := 7, cells := 1, slots := 6, locals := 103 } : Room) (mx_Pc D kc_all [(cI, .int), (cZ, .boolean), (cL, .long), (cQ, .array .int)] sz [(pl, .inr (6, [.ref a, .ref mi, .ref sr, .ref tr, .ref pf, .ref xb, .ref tl, .int so, .int sl])), (a, .inr (0, [.int (nI n), .int (nI k), .ref al, .ref am, .ref aw, .ref ac, .ref ag, .ref ab]))] [.ref pl, .int jv, .int cv]) (mx_Xq (fun E9 => E9 = "java/lang/IndexOutOfBoundsException")) 1 6 (mx_A sz) := by
  refine mx_ofW (cc := bb_Planner_cost) (maxL := 3) (ret := none) (by decide) rfl ?_
  intro p e s m args below meth c s₁ B hml hex hv
  obtain ⟨rfl, hsz, hP, hK, hD, hTr⟩ := hv
  have hx := B.exec
  have hb := B.bytes
  have hr := B.returns
  have hts := atoms_spec (ws := ww_Planner_cost) B.pre
  have hown : s.vm.findClass RR_Planner = some m.cls := findClass_of_methodNamed B.named
  have hlocks := B.notSynchronized
  subst hsz
  have hS0 : va_S (mx_A s.heap.size) s.heap s.heap [] := va_S.rf
  have hP : va_P D kc_all [(pl, .inr (6, [.ref a, .ref mi, .ref sr, .ref tr, .ref pf, .ref xb, .ref tl, .int so, .int sl])), (a, .inr (0, [.int (nI n), .int (nI k), .ref al, .ref am, .ref aw, .ref ac, .ref ag, .ref ab]))] s.heap := hP
  have hl := lv_entry ([.ref pl, .int jv, .int cv]) (n := 3) (Nat.le_of_ble_eq_true rfl)
  rw [lg_entry_eq]
  generalize (lg_sl ([.ref pl, .int jv, .int cv]) ++ List.replicate (3 - (lg_sl ([.ref pl, .int jv, .int cv])).length) Slot.unset).toArray = ls at hl ⊢
  have hl : lv_has ls 3 [(0, .ref pl), (1, .int jv), (2, .int cv)] := hl
  have htb : ∀ w ∈ tb_all, w.before ([.ref pl, .int jv, .int cv]).toArray s = true := fun w h => hts w (List.mem_cons_of_mem _ h)
  have hf_12 := htb _ fl_Planner_12
  have hf_55 := htb _ fl_Planner_55
  have hf_97 := htb _ fl_Planner_97
  refine lv_aload_n hx hb dd_Planner_cost_0 rfl (lv_at hl 0 rfl) ?_
  refine lv_iload_n hx hb dd_Planner_cost_1 rfl (lv_at hl 1 rfl) ?_
  exact mx_pass (mx_runV (As := [.int jv]) (rest := []) (C := RR_Planner) ⟨hx, hb, hml, hown, hts⟩ (cc_Planner_checkAmountX l hnt D cI cZ cL cQ _ pl tl a mi sr tr pf xb so sl al am aw ac ag ab n k jv (hno)) (mm_cwV 1 hts ml_Planner_73 im_Planner_checkAmount se_Planner_checkAmount ic_Planner cd_Planner_checkAmount rfl rfl (by decide +kernel) ⟨Nat.le_of_ble_eq_true rfl, Nat.le_of_ble_eq_true rfl⟩) (mx_preV hTr hS0 hK hP hD [0, 1] (by decide) rfl 0 rfl rfl) rfl rfl hl.1 rfl (lv_room (Nat.le_of_ble_eq_true rfl)) dd_Planner_cost_2 ⟨Nat.le_of_ble_eq_true rfl, Nat.le_of_ble_eq_true rfl⟩) hS0 (fun _ h => h) hex hlocks (fun _ h => h)
set_option maxHeartbeats 4000000 in
set_option maxRecDepth 100000 in
theorem cc_Planner_costY (l : Launch) (hnt : l.stackTraces = false) (D : va_G) (cI cZ cL cQ : ClassId) (sz : Nat) (pl : Nat) (tl : Nat) (a : Nat) (mi : Nat) (sr : Nat) (tr : Nat) (pf : Nat) (xb : Nat) (so : Int32) (sl : Int32) (al : Nat) (am : Nat) (aw : Nat) (ac : Nat) (ag : Nat) (ab : Nat) (n : Nat) (k : Nat) (j : Nat) (cv : Int32) (hn : 1 ≤ n ∧ n ≤ 4) (hj : j < n) (hno : ¬ in_ok cv (-9) 9) : mx_Met l yy_Planner_cost ww_Planner_cost ({ frames := 7, cells := 1, slots := 6, locals := 103 } : Room) (mx_Pc D kc_all [(cI, .int), (cZ, .boolean), (cL, .long), (cQ, .array .int)] sz [(pl, .inr (6, [.ref a, .ref mi, .ref sr, .ref tr, .ref pf, .ref xb, .ref tl, .int so, .int sl])), (a, .inr (0, [.int (nI n), .int (nI k), .ref al, .ref am, .ref aw, .ref ac, .ref ag, .ref ab]))] [.ref pl, .int (nI j), .int cv]) (mx_Xq (fun E9 => E9 = "java/lang/IllegalArgumentException")) 1 6 (mx_A sz) := by
  refine mx_ofW (cc := bb_Planner_cost) (maxL := 3) (ret := none) (by decide) rfl ?_
  intro p e s m args below meth c s₁ B hml hex hv
  obtain ⟨rfl, hsz, hP, hK, hD, hTr⟩ := hv
  have hx := B.exec
  have hb := B.bytes
  have hr := B.returns
  have hts := atoms_spec (ws := ww_Planner_cost) B.pre
  have hown : s.vm.findClass RR_Planner = some m.cls := findClass_of_methodNamed B.named
  have hlocks := B.notSynchronized
  subst hsz
  have hS0 : va_S (mx_A s.heap.size) s.heap s.heap [] := va_S.rf
  have hP : va_P D kc_all [(pl, .inr (6, [.ref a, .ref mi, .ref sr, .ref tr, .ref pf, .ref xb, .ref tl, .int so, .int sl])), (a, .inr (0, [.int (nI n), .int (nI k), .ref al, .ref am, .ref aw, .ref ac, .ref ag, .ref ab]))] s.heap := hP
  have hl := lv_entry ([.ref pl, .int (nI j), .int cv]) (n := 3) (Nat.le_of_ble_eq_true rfl)
  rw [lg_entry_eq]
  generalize (lg_sl ([.ref pl, .int (nI j), .int cv]) ++ List.replicate (3 - (lg_sl ([.ref pl, .int (nI j), .int cv])).length) Slot.unset).toArray = ls at hl ⊢
  have hl : lv_has ls 3 [(0, .ref pl), (1, .int (nI j)), (2, .int cv)] := hl
  have htb : ∀ w ∈ tb_all, w.before ([.ref pl, .int (nI j), .int cv]).toArray s = true := fun w h => hts w (List.mem_cons_of_mem _ h)
  have hf_12 := htb _ fl_Planner_12
  have hf_55 := htb _ fl_Planner_55
  have hf_97 := htb _ fl_Planner_97
  refine lv_aload_n hx hb dd_Planner_cost_0 rfl (lv_at hl 0 rfl) ?_
  refine lv_iload_n hx hb dd_Planner_cost_1 rfl (lv_at hl 1 rfl) ?_
  refine mx_pv (va_runV (As := [.int (nI j)]) (rest := []) (C := RR_Planner) ⟨hx, hb, hml, hown, hts⟩ (cc_Planner_checkAmountP l D cI cZ cL cQ _ pl tl a mi sr tr pf xb so sl al am aw ac ag ab n k j (by omega) (by omega)) (mm_cwV 1 hts ml_Planner_73 im_Planner_checkAmount se_Planner_checkAmount ic_Planner cd_Planner_checkAmount rfl rfl (by decide +kernel) ⟨Nat.le_of_ble_eq_true rfl, Nat.le_of_ble_eq_true rfl⟩) (mm_preV hK hP hD [0, 1] (by decide) rfl 0 rfl rfl) rfl rfl hl.1 rfl (lv_room (Nat.le_of_ble_eq_true rfl)) dd_Planner_cost_2 ⟨Nat.zero_le _, Nat.zero_le _⟩) (fun _ h => h) hP hS0 (fun zu2 H locs p2 hP hS0 => ?_)
  have p2 : True := p2
  refine lv_iload_n hx hb dd_Planner_cost_5 rfl (lv_at hl 2 rfl) ?_
  refine lv_bipush (v := 9) hx hb dd_Planner_cost_6 (by decide) ?_
  refine mx_pi (va_runS (As := [.int cv, .int (9 : Int32)]) (rest := []) ⟨hx, hb, hml, hown, hts⟩ (cc_Planner_isWithin l D cI cZ cL cQ _ cv (9 : Int32) ) (mm_cwS 2 hts ml_Planner_77 sm_Planner_isWithin ic_Planner cd_Planner_isWithin rfl rfl (by decide +kernel) ⟨Nat.le_of_ble_eq_true rfl, Nat.le_of_ble_eq_true rfl⟩) (mm_preS hK hP hD [] (by decide) rfl) rfl rfl hl.1 rfl (lv_room (Nat.le_of_ble_eq_true rfl)) dd_Planner_cost_8 ⟨Nat.zero_le _, Nat.zero_le _⟩) (fun _ h => mx_A0 h) hP hS0 (fun zr3 zu4 H locs p8 hP hS0 => ?_)
  have p8 : tl_ok (iw_ok cv (9 : Int32)) zr3 := p8
  refine lv_if_ne (tgt := 24) hx hb dd_Planner_cost_11 (by decide) (fun h11 => ?_) (fun h11 => ?_)
  · skip
    exact absurd (of_iw (tl_1 p8 h11)) hno
  · skip
    exact mx_throw (cls := "java/lang/IllegalArgumentException") (names := tx_up) hx hb hnt hown (by decide +kernel) (by decide +kernel) (htb _ kl_A) (htb _ ki_A) (mx_str hTr 4 95 _ rfl) (mx_own htb hTr ow_A) hex hlocks hS0 (hl.1.trans hml.symm) dd_Planner_cost_14 dd_Planner_cost_17 dd_Planner_cost_18 dd_Planner_cost_20 dd_Planner_cost_23 (Nat.le_of_ble_eq_true rfl) (Nat.le_of_ble_eq_true rfl) (Nat.le_of_ble_eq_true rfl) (Nat.le_of_ble_eq_true rfl) (fun _ _ h => h) (fun _ h => h)
abbrev qq_Planner_limit (D : va_G) (cI cZ cL cQ : ClassId) (pl : Nat) (tl : Nat) (a : Nat) (mi : Nat) (sr : Nat) (tr : Nat) (pf : Nat) (xb : Nat) (so : Int32) (sl : Int32) (al : Nat) (am : Nat) (aw : Nat) (ac : Nat) (ag : Nat) (ab : Nat) (n : Nat) (k : Nat) (x0 : Int32) (x1 : Int32) (x2 : Int32) (x3 : Int32) (bo : Int32) (td : Nat → Int32) (rw : Nat → Nat) (M : Nat → Nat → Int32) (bd : Nat → Int32) (A : Nat → Prop) : Array Value → State → Outcome → State → Prop := va_Qi (fun (r : Int32) (u : (Nat → Nat → Int32)) => r = nI k ∧ ∀ a9 c9, c9 < 4 → u a9 c9 = if a9 = k then pk_f c9 x0 x1 x2 x3 else M a9 c9) (fun (u : (Nat → Nat → Int32)) t => mm_B D kc_all [(cI, .int), (cZ, .boolean), (cL, .long), (cQ, .array .int)] A [(pl, .inr (6, [.ref a, .ref mi, .ref sr, .ref tr, .ref pf, .ref xb, .ref tl, .int 0, .int sl])), (tl, .inl (cI, 4, .inl (upd (upd (upd (upd td 0 x0) 1 x1) 2 x2) 3 x3))), (a, .inr (0, [.int (nI n), .int (nI (k + 1)), .ref al, .ref am, .ref aw, .ref ac, .ref ag, .ref ab])), (ag, .inl (cQ, 6, .inr (.inr (.inr (.inr (fun i9 => some (rw i9))))))), (rw 0, .inl (cI, 4, .inl (u 0))), (rw 1, .inl (cI, 4, .inl (u 1))), (rw 2, .inl (cI, 4, .inl (u 2))), (rw 3, .inl (cI, 4, .inl (u 3))), (rw 4, .inl (cI, 4, .inl (u 4))), (rw 5, .inl (cI, 4, .inl (u 5))), (ab, .inl (cI, 6, .inl (upd bd k bo)))] t) A
set_option maxHeartbeats 4000000 in
set_option maxRecDepth 100000 in
theorem cc_Planner_limit (l : Launch) (D : va_G) (cI cZ cL cQ : ClassId) (sz : Nat) (pl : Nat) (tl : Nat) (a : Nat) (mi : Nat) (sr : Nat) (tr : Nat) (pf : Nat) (xb : Nat) (so : Int32) (sl : Int32) (al : Nat) (am : Nat) (aw : Nat) (ac : Nat) (ag : Nat) (ab : Nat) (n : Nat) (k : Nat) (x0 : Int32) (x1 : Int32) (x2 : Int32) (x3 : Int32) (bo : Int32) (td : Nat → Int32) (rw : Nat → Nat) (M : Nat → Nat → Int32) (bd : Nat → Int32) (hn : n ≤ 4) (hk : k ≤ 6) (hok : lw_ok n x0 x1 x2 x3 bo 4 ∧ ¬ k = 6) : Met l yy_Planner_limit ww_Planner_limit ({ frames := 2, cells := 0, slots := 0, locals := 46 } : Room) (mm_Pc D kc_all [(cI, .int), (cZ, .boolean), (cL, .long), (cQ, .array .int)] sz [(pl, .inr (6, [.ref a, .ref mi, .ref sr, .ref tr, .ref pf, .ref xb, .ref tl, .int so, .int sl])), (tl, .inl (cI, 4, .inl td)), (a, .inr (0, [.int (nI n), .int (nI k), .ref al, .ref am, .ref aw, .ref ac, .ref ag, .ref ab])), (ag, .inl (cQ, 6, .inr (.inr (.inr (.inr (fun i9 => some (rw i9))))))), (rw 0, .inl (cI, 4, .inl (M 0))), (rw 1, .inl (cI, 4, .inl (M 1))), (rw 2, .inl (cI, 4, .inl (M 2))), (rw 3, .inl (cI, 4, .inl (M 3))), (rw 4, .inl (cI, 4, .inl (M 4))), (rw 5, .inl (cI, 4, .inl (M 5))), (ab, .inl (cI, 6, .inl bd))] [.ref pl, .int x0, .int x1, .int x2, .int x3, .int bo]) (qq_Planner_limit D cI cZ cL cQ pl tl a mi sr tr pf xb so sl al am aw ac ag ab n k x0 x1 x2 x3 bo td rw M bd (va_A [(pl, .inr (6, [.ref a, .ref mi, .ref sr, .ref tr, .ref pf, .ref xb, .ref tl, .int so, .int sl])), (tl, .inl (cI, 4, .inl td)), (a, .inr (0, [.int (nI n), .int (nI k), .ref al, .ref am, .ref aw, .ref ac, .ref ag, .ref ab])), (ag, .inl (cQ, 6, .inr (.inr (.inr (.inr (fun i9 => some (rw i9))))))), (rw 0, .inl (cI, 4, .inl (M 0))), (rw 1, .inl (cI, 4, .inl (M 1))), (rw 2, .inl (cI, 4, .inl (M 2))), (rw 3, .inl (cI, 4, .inl (M 3))), (rw 4, .inl (cI, 4, .inl (M 4))), (rw 5, .inl (cI, 4, .inl (M 5))), (ab, .inl (cI, 6, .inl bd))] sz)) 0 0 (va_A [(pl, .inr (6, [.ref a, .ref mi, .ref sr, .ref tr, .ref pf, .ref xb, .ref tl, .int so, .int sl])), (tl, .inl (cI, 4, .inl td)), (a, .inr (0, [.int (nI n), .int (nI k), .ref al, .ref am, .ref aw, .ref ac, .ref ag, .ref ab])), (ag, .inl (cQ, 6, .inr (.inr (.inr (.inr (fun i9 => some (rw i9))))))), (rw 0, .inl (cI, 4, .inl (M 0))), (rw 1, .inl (cI, 4, .inl (M 1))), (rw 2, .inl (cI, 4, .inl (M 2))), (rw 3, .inl (cI, 4, .inl (M 3))), (rw 4, .inl (cI, 4, .inl (M 4))), (rw 5, .inl (cI, 4, .inl (M 5))), (ab, .inl (cI, 6, .inl bd))] sz) := by
  refine Met.ofW (cc := bb_Planner_limit) (maxL := 6) (ret := (some .int)) (by decide) rfl ?_
  intro p e s m args below meth c s₁ B hml hv
  obtain ⟨rfl, hsz, hP, hK, hD0⟩ := hv
  have hx := B.exec
  have hb := B.bytes
  have hr := B.returns
  have hts := atoms_spec (ws := ww_Planner_limit) B.pre
  have hown : s.vm.findClass RR_Planner = some m.cls := findClass_of_methodNamed B.named
  have hlocks := B.notSynchronized
  subst hsz
  have hD := hD0.self (sz := s.heap.size)
  generalize hAe : va_A [(pl, .inr (6, [.ref a, .ref mi, .ref sr, .ref tr, .ref pf, .ref xb, .ref tl, .int so, .int sl])), (tl, .inl (cI, 4, .inl td)), (a, .inr (0, [.int (nI n), .int (nI k), .ref al, .ref am, .ref aw, .ref ac, .ref ag, .ref ab])), (ag, .inl (cQ, 6, .inr (.inr (.inr (.inr (fun i9 => some (rw i9))))))), (rw 0, .inl (cI, 4, .inl (M 0))), (rw 1, .inl (cI, 4, .inl (M 1))), (rw 2, .inl (cI, 4, .inl (M 2))), (rw 3, .inl (cI, 4, .inl (M 3))), (rw 4, .inl (cI, 4, .inl (M 4))), (rw 5, .inl (cI, 4, .inl (M 5))), (ab, .inl (cI, 6, .inl bd))] s.heap.size = A at hD ⊢
  have hA : ∀ q : Nat, s.heap.size ≤ q → A q := fun q h => by rw [← hAe]; exact Or.inr h
  have hS : va_S A s.heap s.heap [] := va_S.rf
  have hP : va_P D kc_all [(pl, .inr (6, [.ref a, .ref mi, .ref sr, .ref tr, .ref pf, .ref xb, .ref tl, .int so, .int sl])), (tl, .inl (cI, 4, .inl td)), (a, .inr (0, [.int (nI n), .int (nI k), .ref al, .ref am, .ref aw, .ref ac, .ref ag, .ref ab])), (ag, .inl (cQ, 6, .inr (.inr (.inr (.inr (fun i9 => some (rw i9))))))), (rw 0, .inl (cI, 4, .inl (M 0))), (rw 1, .inl (cI, 4, .inl (M 1))), (rw 2, .inl (cI, 4, .inl (M 2))), (rw 3, .inl (cI, 4, .inl (M 3))), (rw 4, .inl (cI, 4, .inl (M 4))), (rw 5, .inl (cI, 4, .inl (M 5))), (ab, .inl (cI, 6, .inl bd))] s.heap := hP
  have hl := lv_entry ([.ref pl, .int x0, .int x1, .int x2, .int x3, .int bo]) (n := 6) (Nat.le_of_ble_eq_true rfl)
  rw [lg_entry_eq]
  generalize (lg_sl ([.ref pl, .int x0, .int x1, .int x2, .int x3, .int bo]) ++ List.replicate (6 - (lg_sl ([.ref pl, .int x0, .int x1, .int x2, .int x3, .int bo])).length) Slot.unset).toArray = ls at hl ⊢
  have hl : lv_has ls 6 [(0, .ref pl), (1, .int x0), (2, .int x1), (3, .int x2), (4, .int x3), (5, .int bo)] := hl
  have htb : ∀ w ∈ tb_all, w.before ([.ref pl, .int x0, .int x1, .int x2, .int x3, .int bo]).toArray s = true := fun w h => hts w (List.mem_cons_of_mem _ h)
  have hf_12 := htb _ fl_Planner_12
  have hf_51 := htb _ fl_Planner_51
  have hf_55 := htb _ fl_Planner_55
  have hf_107 := htb _ fl_Planner_107
  refine lv_aload_n hx hb dd_Planner_limit_0 rfl (lv_at hl 0 rfl) ?_
  refine lv_iconst (v := 0) hx hb dd_Planner_limit_1 (by decide) ?_
  refine lv_iload_n hx hb dd_Planner_limit_2 rfl (lv_at hl 1 rfl) ?_
  refine mm_i (wc := [(pl, .inr (6, [.ref a, .ref mi, .ref sr, .ref tr, .ref pf, .ref xb, .ref tl, .int so, .int sl])), (a, .inr (0, [.int (nI n), .int (nI k), .ref al, .ref am, .ref aw, .ref ac, .ref ag, .ref ab]))]) (wr := [(tl, .inl (cI, 4, .inl td)), (ag, .inl (cQ, 6, .inr (.inr (.inr (.inr (fun i9 => some (rw i9))))))), (rw 0, .inl (cI, 4, .inl (M 0))), (rw 1, .inl (cI, 4, .inl (M 1))), (rw 2, .inl (cI, 4, .inl (M 2))), (rw 3, .inl (cI, 4, .inl (M 3))), (rw 4, .inl (cI, 4, .inl (M 4))), (rw 5, .inl (cI, 4, .inl (M 5))), (ab, .inl (cI, 6, .inl bd))]) (va_runV (As := [.int (0 : Int32), .int x0]) (rest := []) (C := RR_Planner) ⟨hx, hb, hml, hown, hts⟩ (cc_Planner_isWeight l D cI cZ cL cQ _ pl tl a mi sr tr pf xb so sl al am aw ac ag ab n k 0 x0 (by omega) (by omega)) (mm_cwV 2 hts ml_Planner_100 im_Planner_isWeight se_Planner_isWeight ic_Planner cd_Planner_isWeight rfl rfl (by decide +kernel) ⟨Nat.le_of_ble_eq_true rfl, Nat.le_of_ble_eq_true rfl⟩) (mm_preV hK hP hD [0, 2] (by decide) rfl 0 rfl rfl) rfl rfl hl.1 rfl (lv_room (Nat.le_of_ble_eq_true rfl)) dd_Planner_limit_3 ⟨Nat.zero_le _, Nat.zero_le _⟩) hP hD hS hA [0, 2] [1, 3, 4, 5, 6, 7, 8, 9, 10] rfl rfl (by decide) (by decide) (fun zr1 zu2 H locs p3 hP hD hS => ?_)
  have hP : va_P D kc_all [(tl, .inl (cI, 4, .inl td)), (ag, .inl (cQ, 6, .inr (.inr (.inr (.inr (fun i9 => some (rw i9))))))), (rw 0, .inl (cI, 4, .inl (M 0))), (rw 1, .inl (cI, 4, .inl (M 1))), (rw 2, .inl (cI, 4, .inl (M 2))), (rw 3, .inl (cI, 4, .inl (M 3))), (rw 4, .inl (cI, 4, .inl (M 4))), (rw 5, .inl (cI, 4, .inl (M 5))), (ab, .inl (cI, 6, .inl bd)), (pl, .inr (6, [.ref a, .ref mi, .ref sr, .ref tr, .ref pf, .ref xb, .ref tl, .int so, .int sl])), (a, .inr (0, [.int (nI n), .int (nI k), .ref al, .ref am, .ref aw, .ref ac, .ref ag, .ref ab]))] H := hP
  have hD : va_D A [(tl, .inl (cI, 4, .inl td)), (ag, .inl (cQ, 6, .inr (.inr (.inr (.inr (fun i9 => some (rw i9))))))), (rw 0, .inl (cI, 4, .inl (M 0))), (rw 1, .inl (cI, 4, .inl (M 1))), (rw 2, .inl (cI, 4, .inl (M 2))), (rw 3, .inl (cI, 4, .inl (M 3))), (rw 4, .inl (cI, 4, .inl (M 4))), (rw 5, .inl (cI, 4, .inl (M 5))), (ab, .inl (cI, 6, .inl bd)), (pl, .inr (6, [.ref a, .ref mi, .ref sr, .ref tr, .ref pf, .ref xb, .ref tl, .int so, .int sl])), (a, .inr (0, [.int (nI n), .int (nI k), .ref al, .ref am, .ref aw, .ref ac, .ref ag, .ref ab]))] := hD
  have hP : va_P D kc_all [(pl, .inr (6, [.ref a, .ref mi, .ref sr, .ref tr, .ref pf, .ref xb, .ref tl, .int so, .int sl])), (tl, .inl (cI, 4, .inl td)), (a, .inr (0, [.int (nI n), .int (nI k), .ref al, .ref am, .ref aw, .ref ac, .ref ag, .ref ab])), (ag, .inl (cQ, 6, .inr (.inr (.inr (.inr (fun i9 => some (rw i9))))))), (rw 0, .inl (cI, 4, .inl (M 0))), (rw 1, .inl (cI, 4, .inl (M 1))), (rw 2, .inl (cI, 4, .inl (M 2))), (rw 3, .inl (cI, 4, .inl (M 3))), (rw 4, .inl (cI, 4, .inl (M 4))), (rw 5, .inl (cI, 4, .inl (M 5))), (ab, .inl (cI, 6, .inl bd))] H := hP.sub [9, 0, 10, 1, 2, 3, 4, 5, 6, 7, 8] rfl
  have hD : va_D A [(pl, .inr (6, [.ref a, .ref mi, .ref sr, .ref tr, .ref pf, .ref xb, .ref tl, .int so, .int sl])), (tl, .inl (cI, 4, .inl td)), (a, .inr (0, [.int (nI n), .int (nI k), .ref al, .ref am, .ref aw, .ref ac, .ref ag, .ref ab])), (ag, .inl (cQ, 6, .inr (.inr (.inr (.inr (fun i9 => some (rw i9))))))), (rw 0, .inl (cI, 4, .inl (M 0))), (rw 1, .inl (cI, 4, .inl (M 1))), (rw 2, .inl (cI, 4, .inl (M 2))), (rw 3, .inl (cI, 4, .inl (M 3))), (rw 4, .inl (cI, 4, .inl (M 4))), (rw 5, .inl (cI, 4, .inl (M 5))), (ab, .inl (cI, 6, .inl bd))] := hD.sub [9, 0, 10, 1, 2, 3, 4, 5, 6, 7, 8] (by decide) rfl
  have p3 : tl_ok (wg_ok n 0 x0) zr1 := p3
  refine lv_if_eq (tgt := 37) hx hb dd_Planner_limit_6 (by decide) (fun h6 => ?_) (fun h6 => ?_)
  · skip
    exact absurd (lw_at hok.1 0 (by decide)) (tl_0 p3 h6)
  · skip
    refine lv_aload_n hx hb dd_Planner_limit_9 rfl (lv_at hl 0 rfl) ?_
    refine lv_iconst (v := 1) hx hb dd_Planner_limit_10 (by decide) ?_
    refine lv_iload_n hx hb dd_Planner_limit_11 rfl (lv_at hl 2 rfl) ?_
    refine mm_i (wc := [(pl, .inr (6, [.ref a, .ref mi, .ref sr, .ref tr, .ref pf, .ref xb, .ref tl, .int so, .int sl])), (a, .inr (0, [.int (nI n), .int (nI k), .ref al, .ref am, .ref aw, .ref ac, .ref ag, .ref ab]))]) (wr := [(tl, .inl (cI, 4, .inl td)), (ag, .inl (cQ, 6, .inr (.inr (.inr (.inr (fun i9 => some (rw i9))))))), (rw 0, .inl (cI, 4, .inl (M 0))), (rw 1, .inl (cI, 4, .inl (M 1))), (rw 2, .inl (cI, 4, .inl (M 2))), (rw 3, .inl (cI, 4, .inl (M 3))), (rw 4, .inl (cI, 4, .inl (M 4))), (rw 5, .inl (cI, 4, .inl (M 5))), (ab, .inl (cI, 6, .inl bd))]) (va_runV (As := [.int (1 : Int32), .int x1]) (rest := []) (C := RR_Planner) ⟨hx, hb, hml, hown, hts⟩ (cc_Planner_isWeight l D cI cZ cL cQ _ pl tl a mi sr tr pf xb so sl al am aw ac ag ab n k 1 x1 (by omega) (by omega)) (mm_cwV 2 hts ml_Planner_100 im_Planner_isWeight se_Planner_isWeight ic_Planner cd_Planner_isWeight rfl rfl (by decide +kernel) ⟨Nat.le_of_ble_eq_true rfl, Nat.le_of_ble_eq_true rfl⟩) (mm_preV hK hP hD [0, 2] (by decide) rfl 0 rfl rfl) rfl rfl hl.1 rfl (lv_room (Nat.le_of_ble_eq_true rfl)) dd_Planner_limit_12 ⟨Nat.zero_le _, Nat.zero_le _⟩) hP hD hS hA [0, 2] [1, 3, 4, 5, 6, 7, 8, 9, 10] rfl rfl (by decide) (by decide) (fun zr3 zu4 H locs p12 hP hD hS => ?_)
    have hP : va_P D kc_all [(tl, .inl (cI, 4, .inl td)), (ag, .inl (cQ, 6, .inr (.inr (.inr (.inr (fun i9 => some (rw i9))))))), (rw 0, .inl (cI, 4, .inl (M 0))), (rw 1, .inl (cI, 4, .inl (M 1))), (rw 2, .inl (cI, 4, .inl (M 2))), (rw 3, .inl (cI, 4, .inl (M 3))), (rw 4, .inl (cI, 4, .inl (M 4))), (rw 5, .inl (cI, 4, .inl (M 5))), (ab, .inl (cI, 6, .inl bd)), (pl, .inr (6, [.ref a, .ref mi, .ref sr, .ref tr, .ref pf, .ref xb, .ref tl, .int so, .int sl])), (a, .inr (0, [.int (nI n), .int (nI k), .ref al, .ref am, .ref aw, .ref ac, .ref ag, .ref ab]))] H := hP
    have hD : va_D A [(tl, .inl (cI, 4, .inl td)), (ag, .inl (cQ, 6, .inr (.inr (.inr (.inr (fun i9 => some (rw i9))))))), (rw 0, .inl (cI, 4, .inl (M 0))), (rw 1, .inl (cI, 4, .inl (M 1))), (rw 2, .inl (cI, 4, .inl (M 2))), (rw 3, .inl (cI, 4, .inl (M 3))), (rw 4, .inl (cI, 4, .inl (M 4))), (rw 5, .inl (cI, 4, .inl (M 5))), (ab, .inl (cI, 6, .inl bd)), (pl, .inr (6, [.ref a, .ref mi, .ref sr, .ref tr, .ref pf, .ref xb, .ref tl, .int so, .int sl])), (a, .inr (0, [.int (nI n), .int (nI k), .ref al, .ref am, .ref aw, .ref ac, .ref ag, .ref ab]))] := hD
    have hP : va_P D kc_all [(pl, .inr (6, [.ref a, .ref mi, .ref sr, .ref tr, .ref pf, .ref xb, .ref tl, .int so, .int sl])), (tl, .inl (cI, 4, .inl td)), (a, .inr (0, [.int (nI n), .int (nI k), .ref al, .ref am, .ref aw, .ref ac, .ref ag, .ref ab])), (ag, .inl (cQ, 6, .inr (.inr (.inr (.inr (fun i9 => some (rw i9))))))), (rw 0, .inl (cI, 4, .inl (M 0))), (rw 1, .inl (cI, 4, .inl (M 1))), (rw 2, .inl (cI, 4, .inl (M 2))), (rw 3, .inl (cI, 4, .inl (M 3))), (rw 4, .inl (cI, 4, .inl (M 4))), (rw 5, .inl (cI, 4, .inl (M 5))), (ab, .inl (cI, 6, .inl bd))] H := hP.sub [9, 0, 10, 1, 2, 3, 4, 5, 6, 7, 8] rfl
    have hD : va_D A [(pl, .inr (6, [.ref a, .ref mi, .ref sr, .ref tr, .ref pf, .ref xb, .ref tl, .int so, .int sl])), (tl, .inl (cI, 4, .inl td)), (a, .inr (0, [.int (nI n), .int (nI k), .ref al, .ref am, .ref aw, .ref ac, .ref ag, .ref ab])), (ag, .inl (cQ, 6, .inr (.inr (.inr (.inr (fun i9 => some (rw i9))))))), (rw 0, .inl (cI, 4, .inl (M 0))), (rw 1, .inl (cI, 4, .inl (M 1))), (rw 2, .inl (cI, 4, .inl (M 2))), (rw 3, .inl (cI, 4, .inl (M 3))), (rw 4, .inl (cI, 4, .inl (M 4))), (rw 5, .inl (cI, 4, .inl (M 5))), (ab, .inl (cI, 6, .inl bd))] := hD.sub [9, 0, 10, 1, 2, 3, 4, 5, 6, 7, 8] (by decide) rfl
    have p12 : tl_ok (wg_ok n 1 x1) zr3 := p12
    refine lv_if_eq (tgt := 37) hx hb dd_Planner_limit_15 (by decide) (fun h15 => ?_) (fun h15 => ?_)
    · skip
      exact absurd (lw_at hok.1 1 (by decide)) (tl_0 p12 h15)
    · skip
      refine lv_aload_n hx hb dd_Planner_limit_18 rfl (lv_at hl 0 rfl) ?_
      refine lv_iconst (v := 2) hx hb dd_Planner_limit_19 (by decide) ?_
      refine lv_iload_n hx hb dd_Planner_limit_20 rfl (lv_at hl 3 rfl) ?_
      refine mm_i (wc := [(pl, .inr (6, [.ref a, .ref mi, .ref sr, .ref tr, .ref pf, .ref xb, .ref tl, .int so, .int sl])), (a, .inr (0, [.int (nI n), .int (nI k), .ref al, .ref am, .ref aw, .ref ac, .ref ag, .ref ab]))]) (wr := [(tl, .inl (cI, 4, .inl td)), (ag, .inl (cQ, 6, .inr (.inr (.inr (.inr (fun i9 => some (rw i9))))))), (rw 0, .inl (cI, 4, .inl (M 0))), (rw 1, .inl (cI, 4, .inl (M 1))), (rw 2, .inl (cI, 4, .inl (M 2))), (rw 3, .inl (cI, 4, .inl (M 3))), (rw 4, .inl (cI, 4, .inl (M 4))), (rw 5, .inl (cI, 4, .inl (M 5))), (ab, .inl (cI, 6, .inl bd))]) (va_runV (As := [.int (2 : Int32), .int x2]) (rest := []) (C := RR_Planner) ⟨hx, hb, hml, hown, hts⟩ (cc_Planner_isWeight l D cI cZ cL cQ _ pl tl a mi sr tr pf xb so sl al am aw ac ag ab n k 2 x2 (by omega) (by omega)) (mm_cwV 2 hts ml_Planner_100 im_Planner_isWeight se_Planner_isWeight ic_Planner cd_Planner_isWeight rfl rfl (by decide +kernel) ⟨Nat.le_of_ble_eq_true rfl, Nat.le_of_ble_eq_true rfl⟩) (mm_preV hK hP hD [0, 2] (by decide) rfl 0 rfl rfl) rfl rfl hl.1 rfl (lv_room (Nat.le_of_ble_eq_true rfl)) dd_Planner_limit_21 ⟨Nat.zero_le _, Nat.zero_le _⟩) hP hD hS hA [0, 2] [1, 3, 4, 5, 6, 7, 8, 9, 10] rfl rfl (by decide) (by decide) (fun zr5 zu6 H locs p21 hP hD hS => ?_)
      have hP : va_P D kc_all [(tl, .inl (cI, 4, .inl td)), (ag, .inl (cQ, 6, .inr (.inr (.inr (.inr (fun i9 => some (rw i9))))))), (rw 0, .inl (cI, 4, .inl (M 0))), (rw 1, .inl (cI, 4, .inl (M 1))), (rw 2, .inl (cI, 4, .inl (M 2))), (rw 3, .inl (cI, 4, .inl (M 3))), (rw 4, .inl (cI, 4, .inl (M 4))), (rw 5, .inl (cI, 4, .inl (M 5))), (ab, .inl (cI, 6, .inl bd)), (pl, .inr (6, [.ref a, .ref mi, .ref sr, .ref tr, .ref pf, .ref xb, .ref tl, .int so, .int sl])), (a, .inr (0, [.int (nI n), .int (nI k), .ref al, .ref am, .ref aw, .ref ac, .ref ag, .ref ab]))] H := hP
      have hD : va_D A [(tl, .inl (cI, 4, .inl td)), (ag, .inl (cQ, 6, .inr (.inr (.inr (.inr (fun i9 => some (rw i9))))))), (rw 0, .inl (cI, 4, .inl (M 0))), (rw 1, .inl (cI, 4, .inl (M 1))), (rw 2, .inl (cI, 4, .inl (M 2))), (rw 3, .inl (cI, 4, .inl (M 3))), (rw 4, .inl (cI, 4, .inl (M 4))), (rw 5, .inl (cI, 4, .inl (M 5))), (ab, .inl (cI, 6, .inl bd)), (pl, .inr (6, [.ref a, .ref mi, .ref sr, .ref tr, .ref pf, .ref xb, .ref tl, .int so, .int sl])), (a, .inr (0, [.int (nI n), .int (nI k), .ref al, .ref am, .ref aw, .ref ac, .ref ag, .ref ab]))] := hD
      have hP : va_P D kc_all [(pl, .inr (6, [.ref a, .ref mi, .ref sr, .ref tr, .ref pf, .ref xb, .ref tl, .int so, .int sl])), (tl, .inl (cI, 4, .inl td)), (a, .inr (0, [.int (nI n), .int (nI k), .ref al, .ref am, .ref aw, .ref ac, .ref ag, .ref ab])), (ag, .inl (cQ, 6, .inr (.inr (.inr (.inr (fun i9 => some (rw i9))))))), (rw 0, .inl (cI, 4, .inl (M 0))), (rw 1, .inl (cI, 4, .inl (M 1))), (rw 2, .inl (cI, 4, .inl (M 2))), (rw 3, .inl (cI, 4, .inl (M 3))), (rw 4, .inl (cI, 4, .inl (M 4))), (rw 5, .inl (cI, 4, .inl (M 5))), (ab, .inl (cI, 6, .inl bd))] H := hP.sub [9, 0, 10, 1, 2, 3, 4, 5, 6, 7, 8] rfl
      have hD : va_D A [(pl, .inr (6, [.ref a, .ref mi, .ref sr, .ref tr, .ref pf, .ref xb, .ref tl, .int so, .int sl])), (tl, .inl (cI, 4, .inl td)), (a, .inr (0, [.int (nI n), .int (nI k), .ref al, .ref am, .ref aw, .ref ac, .ref ag, .ref ab])), (ag, .inl (cQ, 6, .inr (.inr (.inr (.inr (fun i9 => some (rw i9))))))), (rw 0, .inl (cI, 4, .inl (M 0))), (rw 1, .inl (cI, 4, .inl (M 1))), (rw 2, .inl (cI, 4, .inl (M 2))), (rw 3, .inl (cI, 4, .inl (M 3))), (rw 4, .inl (cI, 4, .inl (M 4))), (rw 5, .inl (cI, 4, .inl (M 5))), (ab, .inl (cI, 6, .inl bd))] := hD.sub [9, 0, 10, 1, 2, 3, 4, 5, 6, 7, 8] (by decide) rfl
      have p21 : tl_ok (wg_ok n 2 x2) zr5 := p21
      refine lv_if_eq (tgt := 37) hx hb dd_Planner_limit_24 (by decide) (fun h24 => ?_) (fun h24 => ?_)
      · skip
        exact absurd (lw_at hok.1 2 (by decide)) (tl_0 p21 h24)
      · skip
        refine lv_aload_n hx hb dd_Planner_limit_27 rfl (lv_at hl 0 rfl) ?_
        refine lv_iconst (v := 3) hx hb dd_Planner_limit_28 (by decide) ?_
        refine lv_iload hx hb dd_Planner_limit_29 (lv_at hl 4 rfl) ?_
        refine mm_i (wc := [(pl, .inr (6, [.ref a, .ref mi, .ref sr, .ref tr, .ref pf, .ref xb, .ref tl, .int so, .int sl])), (a, .inr (0, [.int (nI n), .int (nI k), .ref al, .ref am, .ref aw, .ref ac, .ref ag, .ref ab]))]) (wr := [(tl, .inl (cI, 4, .inl td)), (ag, .inl (cQ, 6, .inr (.inr (.inr (.inr (fun i9 => some (rw i9))))))), (rw 0, .inl (cI, 4, .inl (M 0))), (rw 1, .inl (cI, 4, .inl (M 1))), (rw 2, .inl (cI, 4, .inl (M 2))), (rw 3, .inl (cI, 4, .inl (M 3))), (rw 4, .inl (cI, 4, .inl (M 4))), (rw 5, .inl (cI, 4, .inl (M 5))), (ab, .inl (cI, 6, .inl bd))]) (va_runV (As := [.int (3 : Int32), .int x3]) (rest := []) (C := RR_Planner) ⟨hx, hb, hml, hown, hts⟩ (cc_Planner_isWeight l D cI cZ cL cQ _ pl tl a mi sr tr pf xb so sl al am aw ac ag ab n k 3 x3 (by omega) (by omega)) (mm_cwV 2 hts ml_Planner_100 im_Planner_isWeight se_Planner_isWeight ic_Planner cd_Planner_isWeight rfl rfl (by decide +kernel) ⟨Nat.le_of_ble_eq_true rfl, Nat.le_of_ble_eq_true rfl⟩) (mm_preV hK hP hD [0, 2] (by decide) rfl 0 rfl rfl) rfl rfl hl.1 rfl (lv_room (Nat.le_of_ble_eq_true rfl)) dd_Planner_limit_31 ⟨Nat.zero_le _, Nat.zero_le _⟩) hP hD hS hA [0, 2] [1, 3, 4, 5, 6, 7, 8, 9, 10] rfl rfl (by decide) (by decide) (fun zr7 zu8 H locs p31 hP hD hS => ?_)
        have hP : va_P D kc_all [(tl, .inl (cI, 4, .inl td)), (ag, .inl (cQ, 6, .inr (.inr (.inr (.inr (fun i9 => some (rw i9))))))), (rw 0, .inl (cI, 4, .inl (M 0))), (rw 1, .inl (cI, 4, .inl (M 1))), (rw 2, .inl (cI, 4, .inl (M 2))), (rw 3, .inl (cI, 4, .inl (M 3))), (rw 4, .inl (cI, 4, .inl (M 4))), (rw 5, .inl (cI, 4, .inl (M 5))), (ab, .inl (cI, 6, .inl bd)), (pl, .inr (6, [.ref a, .ref mi, .ref sr, .ref tr, .ref pf, .ref xb, .ref tl, .int so, .int sl])), (a, .inr (0, [.int (nI n), .int (nI k), .ref al, .ref am, .ref aw, .ref ac, .ref ag, .ref ab]))] H := hP
        have hD : va_D A [(tl, .inl (cI, 4, .inl td)), (ag, .inl (cQ, 6, .inr (.inr (.inr (.inr (fun i9 => some (rw i9))))))), (rw 0, .inl (cI, 4, .inl (M 0))), (rw 1, .inl (cI, 4, .inl (M 1))), (rw 2, .inl (cI, 4, .inl (M 2))), (rw 3, .inl (cI, 4, .inl (M 3))), (rw 4, .inl (cI, 4, .inl (M 4))), (rw 5, .inl (cI, 4, .inl (M 5))), (ab, .inl (cI, 6, .inl bd)), (pl, .inr (6, [.ref a, .ref mi, .ref sr, .ref tr, .ref pf, .ref xb, .ref tl, .int so, .int sl])), (a, .inr (0, [.int (nI n), .int (nI k), .ref al, .ref am, .ref aw, .ref ac, .ref ag, .ref ab]))] := hD
        have hP : va_P D kc_all [(pl, .inr (6, [.ref a, .ref mi, .ref sr, .ref tr, .ref pf, .ref xb, .ref tl, .int so, .int sl])), (tl, .inl (cI, 4, .inl td)), (a, .inr (0, [.int (nI n), .int (nI k), .ref al, .ref am, .ref aw, .ref ac, .ref ag, .ref ab])), (ag, .inl (cQ, 6, .inr (.inr (.inr (.inr (fun i9 => some (rw i9))))))), (rw 0, .inl (cI, 4, .inl (M 0))), (rw 1, .inl (cI, 4, .inl (M 1))), (rw 2, .inl (cI, 4, .inl (M 2))), (rw 3, .inl (cI, 4, .inl (M 3))), (rw 4, .inl (cI, 4, .inl (M 4))), (rw 5, .inl (cI, 4, .inl (M 5))), (ab, .inl (cI, 6, .inl bd))] H := hP.sub [9, 0, 10, 1, 2, 3, 4, 5, 6, 7, 8] rfl
        have hD : va_D A [(pl, .inr (6, [.ref a, .ref mi, .ref sr, .ref tr, .ref pf, .ref xb, .ref tl, .int so, .int sl])), (tl, .inl (cI, 4, .inl td)), (a, .inr (0, [.int (nI n), .int (nI k), .ref al, .ref am, .ref aw, .ref ac, .ref ag, .ref ab])), (ag, .inl (cQ, 6, .inr (.inr (.inr (.inr (fun i9 => some (rw i9))))))), (rw 0, .inl (cI, 4, .inl (M 0))), (rw 1, .inl (cI, 4, .inl (M 1))), (rw 2, .inl (cI, 4, .inl (M 2))), (rw 3, .inl (cI, 4, .inl (M 3))), (rw 4, .inl (cI, 4, .inl (M 4))), (rw 5, .inl (cI, 4, .inl (M 5))), (ab, .inl (cI, 6, .inl bd))] := hD.sub [9, 0, 10, 1, 2, 3, 4, 5, 6, 7, 8] (by decide) rfl
        have p31 : tl_ok (wg_ok n 3 x3) zr7 := p31
        refine lv_if_ne (tgt := 47) hx hb dd_Planner_limit_34 (by decide) (fun h34 => ?_) (fun h34 => ?_)
        · skip
          refine lv_iload hx hb dd_Planner_limit_47 (lv_at hl 5 rfl) ?_
          refine lv_bipush (v := 99) hx hb dd_Planner_limit_49 (by decide) ?_
          refine mm_i (wc := []) (wr := [(pl, .inr (6, [.ref a, .ref mi, .ref sr, .ref tr, .ref pf, .ref xb, .ref tl, .int so, .int sl])), (tl, .inl (cI, 4, .inl td)), (a, .inr (0, [.int (nI n), .int (nI k), .ref al, .ref am, .ref aw, .ref ac, .ref ag, .ref ab])), (ag, .inl (cQ, 6, .inr (.inr (.inr (.inr (fun i9 => some (rw i9))))))), (rw 0, .inl (cI, 4, .inl (M 0))), (rw 1, .inl (cI, 4, .inl (M 1))), (rw 2, .inl (cI, 4, .inl (M 2))), (rw 3, .inl (cI, 4, .inl (M 3))), (rw 4, .inl (cI, 4, .inl (M 4))), (rw 5, .inl (cI, 4, .inl (M 5))), (ab, .inl (cI, 6, .inl bd))]) (va_runS (As := [.int bo, .int (99 : Int32)]) (rest := []) ⟨hx, hb, hml, hown, hts⟩ (cc_Planner_isWithin l D cI cZ cL cQ _ bo (99 : Int32) ) (mm_cwS 2 hts ml_Planner_77 sm_Planner_isWithin ic_Planner cd_Planner_isWithin rfl rfl (by decide +kernel) ⟨Nat.le_of_ble_eq_true rfl, Nat.le_of_ble_eq_true rfl⟩) (mm_preS hK hP hD [] (by decide) rfl) rfl rfl hl.1 rfl (lv_room (Nat.le_of_ble_eq_true rfl)) dd_Planner_limit_51 ⟨Nat.zero_le _, Nat.zero_le _⟩) hP hD hS hA [] [0, 1, 2, 3, 4, 5, 6, 7, 8, 9, 10] rfl rfl (by decide) (by decide) (fun zr9 zu10 H locs p51 hP hD hS => ?_)
          have hP : va_P D kc_all [(pl, .inr (6, [.ref a, .ref mi, .ref sr, .ref tr, .ref pf, .ref xb, .ref tl, .int so, .int sl])), (tl, .inl (cI, 4, .inl td)), (a, .inr (0, [.int (nI n), .int (nI k), .ref al, .ref am, .ref aw, .ref ac, .ref ag, .ref ab])), (ag, .inl (cQ, 6, .inr (.inr (.inr (.inr (fun i9 => some (rw i9))))))), (rw 0, .inl (cI, 4, .inl (M 0))), (rw 1, .inl (cI, 4, .inl (M 1))), (rw 2, .inl (cI, 4, .inl (M 2))), (rw 3, .inl (cI, 4, .inl (M 3))), (rw 4, .inl (cI, 4, .inl (M 4))), (rw 5, .inl (cI, 4, .inl (M 5))), (ab, .inl (cI, 6, .inl bd))] H := hP
          have hD : va_D A [(pl, .inr (6, [.ref a, .ref mi, .ref sr, .ref tr, .ref pf, .ref xb, .ref tl, .int so, .int sl])), (tl, .inl (cI, 4, .inl td)), (a, .inr (0, [.int (nI n), .int (nI k), .ref al, .ref am, .ref aw, .ref ac, .ref ag, .ref ab])), (ag, .inl (cQ, 6, .inr (.inr (.inr (.inr (fun i9 => some (rw i9))))))), (rw 0, .inl (cI, 4, .inl (M 0))), (rw 1, .inl (cI, 4, .inl (M 1))), (rw 2, .inl (cI, 4, .inl (M 2))), (rw 3, .inl (cI, 4, .inl (M 3))), (rw 4, .inl (cI, 4, .inl (M 4))), (rw 5, .inl (cI, 4, .inl (M 5))), (ab, .inl (cI, 6, .inl bd))] := hD
          have p51 : tl_ok (iw_ok bo (99 : Int32)) zr9 := p51
          refine lv_if_ne (tgt := 67) hx hb dd_Planner_limit_54 (by decide) (fun h54 => ?_) (fun h54 => ?_)
          · skip
            refine lv_aload_n hx hb dd_Planner_limit_67 rfl (lv_at hl 0 rfl) ?_
            refine va_get (D := D) (ci := 6) (v := .ref a) (C := RR_Planner) (T := FF_Planner) (N := 9) hx hb htb hi_Planner hown hK hP 0 rfl rfl 0 (by decide) hf_12 (fun _ h9 => h9) rfl dd_Planner_limit_68 ?_
            refine va_get (D := D) (ci := 0) (v := .int (nI k)) (C := RR_Problem) (T := FF_Problem) (N := 8) hx hb htb hi_Problem hown hK hP 2 rfl rfl 1 (by decide) hf_107 (fun _ h9 => h9) rfl dd_Planner_limit_71 ?_
            refine lv_bipush (v := 6) hx hb dd_Planner_limit_74 (by decide) ?_
            refine lv_icmp_lt (tgt := 89) hx hb dd_Planner_limit_76 (by decide) (fun h76 => ?_) (fun h76 => ?_)
            · skip
              have h76 : k < 6 := (nI_ltI (a := k) (b := 6) (by omega) (by omega)).mp h76
              refine lv_aload_n hx hb dd_Planner_limit_89 rfl (lv_at hl 0 rfl) ?_
              refine lv_iload_n hx hb dd_Planner_limit_90 rfl (lv_at hl 1 rfl) ?_
              refine lv_iload_n hx hb dd_Planner_limit_91 rfl (lv_at hl 2 rfl) ?_
              refine lv_iload_n hx hb dd_Planner_limit_92 rfl (lv_at hl 3 rfl) ?_
              refine lv_iload hx hb dd_Planner_limit_93 (lv_at hl 4 rfl) ?_
              refine mm_v (wc := [(pl, .inr (6, [.ref a, .ref mi, .ref sr, .ref tr, .ref pf, .ref xb, .ref tl, .int so, .int sl])), (tl, .inl (cI, 4, .inl td))]) (wr := [(a, .inr (0, [.int (nI n), .int (nI k), .ref al, .ref am, .ref aw, .ref ac, .ref ag, .ref ab])), (ag, .inl (cQ, 6, .inr (.inr (.inr (.inr (fun i9 => some (rw i9))))))), (rw 0, .inl (cI, 4, .inl (M 0))), (rw 1, .inl (cI, 4, .inl (M 1))), (rw 2, .inl (cI, 4, .inl (M 2))), (rw 3, .inl (cI, 4, .inl (M 3))), (rw 4, .inl (cI, 4, .inl (M 4))), (rw 5, .inl (cI, 4, .inl (M 5))), (ab, .inl (cI, 6, .inl bd))]) (va_runV (As := [.int x0, .int x1, .int x2, .int x3]) (rest := []) (C := RR_Planner) ⟨hx, hb, hml, hown, hts⟩ (cc_Planner_tell l D cI cZ cL cQ _ pl tl a mi sr tr pf xb so sl x0 x1 x2 x3 td ) (mm_cwV 4 hts ml_Planner_116 im_Planner_tell se_Planner_tell ic_Planner cd_Planner_tell rfl rfl (by decide +kernel) ⟨Nat.le_of_ble_eq_true rfl, Nat.le_of_ble_eq_true rfl⟩) (mm_preV hK hP hD [0, 1] (by decide) rfl 0 rfl rfl) rfl rfl hl.1 rfl (lv_room (Nat.le_of_ble_eq_true rfl)) dd_Planner_limit_95 ⟨Nat.zero_le _, Nat.zero_le _⟩) hP hD hS hA [0, 1] [2, 3, 4, 5, 6, 7, 8, 9, 10] rfl rfl (by decide) (by decide) (fun zu12 H locs p95 hP hD hS => ?_)
              have hP : va_P D kc_all [(a, .inr (0, [.int (nI n), .int (nI k), .ref al, .ref am, .ref aw, .ref ac, .ref ag, .ref ab])), (ag, .inl (cQ, 6, .inr (.inr (.inr (.inr (fun i9 => some (rw i9))))))), (rw 0, .inl (cI, 4, .inl (M 0))), (rw 1, .inl (cI, 4, .inl (M 1))), (rw 2, .inl (cI, 4, .inl (M 2))), (rw 3, .inl (cI, 4, .inl (M 3))), (rw 4, .inl (cI, 4, .inl (M 4))), (rw 5, .inl (cI, 4, .inl (M 5))), (ab, .inl (cI, 6, .inl bd)), (pl, .inr (6, [.ref a, .ref mi, .ref sr, .ref tr, .ref pf, .ref xb, .ref tl, .int so, .int sl])), (tl, .inl (cI, 4, .inl (upd (upd (upd (upd td 0 x0) 1 x1) 2 x2) 3 x3)))] H := hP
              have hD : va_D A [(a, .inr (0, [.int (nI n), .int (nI k), .ref al, .ref am, .ref aw, .ref ac, .ref ag, .ref ab])), (ag, .inl (cQ, 6, .inr (.inr (.inr (.inr (fun i9 => some (rw i9))))))), (rw 0, .inl (cI, 4, .inl (M 0))), (rw 1, .inl (cI, 4, .inl (M 1))), (rw 2, .inl (cI, 4, .inl (M 2))), (rw 3, .inl (cI, 4, .inl (M 3))), (rw 4, .inl (cI, 4, .inl (M 4))), (rw 5, .inl (cI, 4, .inl (M 5))), (ab, .inl (cI, 6, .inl bd)), (pl, .inr (6, [.ref a, .ref mi, .ref sr, .ref tr, .ref pf, .ref xb, .ref tl, .int so, .int sl])), (tl, .inl (cI, 4, .inl (upd (upd (upd (upd td 0 x0) 1 x1) 2 x2) 3 x3)))] := hD
              have hP : va_P D kc_all [(pl, .inr (6, [.ref a, .ref mi, .ref sr, .ref tr, .ref pf, .ref xb, .ref tl, .int so, .int sl])), (tl, .inl (cI, 4, .inl (upd (upd (upd (upd td 0 x0) 1 x1) 2 x2) 3 x3))), (a, .inr (0, [.int (nI n), .int (nI k), .ref al, .ref am, .ref aw, .ref ac, .ref ag, .ref ab])), (ag, .inl (cQ, 6, .inr (.inr (.inr (.inr (fun i9 => some (rw i9))))))), (rw 0, .inl (cI, 4, .inl (M 0))), (rw 1, .inl (cI, 4, .inl (M 1))), (rw 2, .inl (cI, 4, .inl (M 2))), (rw 3, .inl (cI, 4, .inl (M 3))), (rw 4, .inl (cI, 4, .inl (M 4))), (rw 5, .inl (cI, 4, .inl (M 5))), (ab, .inl (cI, 6, .inl bd))] H := hP.sub [9, 10, 0, 1, 2, 3, 4, 5, 6, 7, 8] rfl
              have hD : va_D A [(pl, .inr (6, [.ref a, .ref mi, .ref sr, .ref tr, .ref pf, .ref xb, .ref tl, .int so, .int sl])), (tl, .inl (cI, 4, .inl (upd (upd (upd (upd td 0 x0) 1 x1) 2 x2) 3 x3))), (a, .inr (0, [.int (nI n), .int (nI k), .ref al, .ref am, .ref aw, .ref ac, .ref ag, .ref ab])), (ag, .inl (cQ, 6, .inr (.inr (.inr (.inr (fun i9 => some (rw i9))))))), (rw 0, .inl (cI, 4, .inl (M 0))), (rw 1, .inl (cI, 4, .inl (M 1))), (rw 2, .inl (cI, 4, .inl (M 2))), (rw 3, .inl (cI, 4, .inl (M 3))), (rw 4, .inl (cI, 4, .inl (M 4))), (rw 5, .inl (cI, 4, .inl (M 5))), (ab, .inl (cI, 6, .inl bd))] := hD.sub [9, 10, 0, 1, 2, 3, 4, 5, 6, 7, 8] (by decide) rfl
              have p95 : True := p95
              refine lv_aload_n hx hb dd_Planner_limit_98 rfl (lv_at hl 0 rfl) ?_
              refine va_get (D := D) (ci := 6) (v := .ref a) (C := RR_Planner) (T := FF_Planner) (N := 9) hx hb htb hi_Planner hown hK hP 0 rfl rfl 0 (by decide) hf_12 (fun _ h9 => h9) rfl dd_Planner_limit_99 ?_
              refine lv_aload_n hx hb dd_Planner_limit_102 rfl (lv_at hl 0 rfl) ?_
              refine va_get (D := D) (ci := 6) (v := .ref tl) (C := RR_Planner) (T := FF_Planner) (N := 9) hx hb htb hi_Planner hown hK hP 0 rfl rfl 6 (by decide) hf_51 (fun _ h9 => h9) rfl dd_Planner_limit_103 ?_
              refine lv_iload hx hb dd_Planner_limit_106 (lv_at hl 5 rfl) ?_
              refine mm_v (wc := [(a, .inr (0, [.int (nI n), .int (nI k), .ref al, .ref am, .ref aw, .ref ac, .ref ag, .ref ab])), (ag, .inl (cQ, 6, .inr (.inr (.inr (.inr (fun i9 => some (rw i9))))))), (rw 0, .inl (cI, 4, .inl (M 0))), (rw 1, .inl (cI, 4, .inl (M 1))), (rw 2, .inl (cI, 4, .inl (M 2))), (rw 3, .inl (cI, 4, .inl (M 3))), (rw 4, .inl (cI, 4, .inl (M 4))), (rw 5, .inl (cI, 4, .inl (M 5))), (ab, .inl (cI, 6, .inl bd)), (tl, .inl (cI, 4, .inl (upd (upd (upd (upd td 0 x0) 1 x1) 2 x2) 3 x3)))]) (wr := [(pl, .inr (6, [.ref a, .ref mi, .ref sr, .ref tr, .ref pf, .ref xb, .ref tl, .int so, .int sl]))]) (va_runV (As := [.ref tl, .int bo]) (rest := []) (C := RR_Problem) ⟨hx, hb, hml, hown, hts⟩ (cc_Problem_addLimit l D cI cZ cL cQ _ a al am aw ac ag ab n k tl bo rw M bd (upd (upd (upd (upd td 0 x0) 1 x1) 2 x2) 3 x3) (by omega)) (mm_cwV 2 hts ml_Planner_120 im_Problem_addLimit se_Problem_addLimit ic_Problem cd_Problem_addLimit rfl rfl (by decide +kernel) ⟨Nat.le_of_ble_eq_true rfl, Nat.le_of_ble_eq_true rfl⟩) (mm_preV hK hP hD [2, 3, 4, 5, 6, 7, 8, 9, 10, 1] (by decide) rfl 2 rfl rfl) rfl rfl hl.1 rfl (lv_room (Nat.le_of_ble_eq_true rfl)) dd_Planner_limit_108 ⟨Nat.zero_le _, Nat.zero_le _⟩) hP hD hS hA [2, 3, 4, 5, 6, 7, 8, 9, 10, 1] [0] rfl rfl (by decide) (by decide) (fun zu14 H locs p108 hP hD hS => ?_)
              have hP : va_P D kc_all [(pl, .inr (6, [.ref a, .ref mi, .ref sr, .ref tr, .ref pf, .ref xb, .ref tl, .int so, .int sl])), (a, .inr (0, [.int (nI n), .int (nI (k + 1)), .ref al, .ref am, .ref aw, .ref ac, .ref ag, .ref ab])), (ag, .inl (cQ, 6, .inr (.inr (.inr (.inr (fun i9 => some (rw i9))))))), (rw 0, .inl (cI, 4, .inl (zu14 0))), (rw 1, .inl (cI, 4, .inl (zu14 1))), (rw 2, .inl (cI, 4, .inl (zu14 2))), (rw 3, .inl (cI, 4, .inl (zu14 3))), (rw 4, .inl (cI, 4, .inl (zu14 4))), (rw 5, .inl (cI, 4, .inl (zu14 5))), (ab, .inl (cI, 6, .inl (upd bd k bo))), (tl, .inl (cI, 4, .inl (upd (upd (upd (upd td 0 x0) 1 x1) 2 x2) 3 x3)))] H := hP
              have hD : va_D A [(pl, .inr (6, [.ref a, .ref mi, .ref sr, .ref tr, .ref pf, .ref xb, .ref tl, .int so, .int sl])), (a, .inr (0, [.int (nI n), .int (nI (k + 1)), .ref al, .ref am, .ref aw, .ref ac, .ref ag, .ref ab])), (ag, .inl (cQ, 6, .inr (.inr (.inr (.inr (fun i9 => some (rw i9))))))), (rw 0, .inl (cI, 4, .inl (zu14 0))), (rw 1, .inl (cI, 4, .inl (zu14 1))), (rw 2, .inl (cI, 4, .inl (zu14 2))), (rw 3, .inl (cI, 4, .inl (zu14 3))), (rw 4, .inl (cI, 4, .inl (zu14 4))), (rw 5, .inl (cI, 4, .inl (zu14 5))), (ab, .inl (cI, 6, .inl (upd bd k bo))), (tl, .inl (cI, 4, .inl (upd (upd (upd (upd td 0 x0) 1 x1) 2 x2) 3 x3)))] := hD
              have hP : va_P D kc_all [(pl, .inr (6, [.ref a, .ref mi, .ref sr, .ref tr, .ref pf, .ref xb, .ref tl, .int so, .int sl])), (tl, .inl (cI, 4, .inl (upd (upd (upd (upd td 0 x0) 1 x1) 2 x2) 3 x3))), (a, .inr (0, [.int (nI n), .int (nI (k + 1)), .ref al, .ref am, .ref aw, .ref ac, .ref ag, .ref ab])), (ag, .inl (cQ, 6, .inr (.inr (.inr (.inr (fun i9 => some (rw i9))))))), (rw 0, .inl (cI, 4, .inl (zu14 0))), (rw 1, .inl (cI, 4, .inl (zu14 1))), (rw 2, .inl (cI, 4, .inl (zu14 2))), (rw 3, .inl (cI, 4, .inl (zu14 3))), (rw 4, .inl (cI, 4, .inl (zu14 4))), (rw 5, .inl (cI, 4, .inl (zu14 5))), (ab, .inl (cI, 6, .inl (upd bd k bo)))] H := hP.sub [0, 10, 1, 2, 3, 4, 5, 6, 7, 8, 9] rfl
              have hD : va_D A [(pl, .inr (6, [.ref a, .ref mi, .ref sr, .ref tr, .ref pf, .ref xb, .ref tl, .int so, .int sl])), (tl, .inl (cI, 4, .inl (upd (upd (upd (upd td 0 x0) 1 x1) 2 x2) 3 x3))), (a, .inr (0, [.int (nI n), .int (nI (k + 1)), .ref al, .ref am, .ref aw, .ref ac, .ref ag, .ref ab])), (ag, .inl (cQ, 6, .inr (.inr (.inr (.inr (fun i9 => some (rw i9))))))), (rw 0, .inl (cI, 4, .inl (zu14 0))), (rw 1, .inl (cI, 4, .inl (zu14 1))), (rw 2, .inl (cI, 4, .inl (zu14 2))), (rw 3, .inl (cI, 4, .inl (zu14 3))), (rw 4, .inl (cI, 4, .inl (zu14 4))), (rw 5, .inl (cI, 4, .inl (zu14 5))), (ab, .inl (cI, 6, .inl (upd bd k bo)))] := hD.sub [0, 10, 1, 2, 3, 4, 5, 6, 7, 8, 9] (by decide) rfl
              have p108 : ∀ a9 c9, c9 < 4 → zu14 a9 c9 = if a9 = k then (upd (upd (upd (upd td 0 x0) 1 x1) 2 x2) 3 x3) c9 else M a9 c9 := p108
              refine lv_aload_n hx hb dd_Planner_limit_111 rfl (lv_at hl 0 rfl) ?_
              refine lv_iconst (v := 0) hx hb dd_Planner_limit_112 (by decide) ?_
              refine va_put (D := D) (ci := 6) (v := .int (0 : Int32)) (ty := .boolean) (C := RR_Planner) (T := FF_Planner) (N := 9) hx hb htb hi_Planner tt_Planner tt_Planner_ok nn_Planner hown hK hP hD hS 0 rfl rfl 7 (by decide) hf_55 (fun _ h9 => h9) rfl (by decide +kernel) (rfl) (rfl) (Nat.le_of_ble_eq_true rfl) dd_Planner_limit_113 (fun H locs hP hD hS => ?_)
              have hP : va_P D kc_all [(pl, .inr (6, [.ref a, .ref mi, .ref sr, .ref tr, .ref pf, .ref xb, .ref tl, .int (0 : Int32), .int sl])), (tl, .inl (cI, 4, .inl (upd (upd (upd (upd td 0 x0) 1 x1) 2 x2) 3 x3))), (a, .inr (0, [.int (nI n), .int (nI (k + 1)), .ref al, .ref am, .ref aw, .ref ac, .ref ag, .ref ab])), (ag, .inl (cQ, 6, .inr (.inr (.inr (.inr (fun i9 => some (rw i9))))))), (rw 0, .inl (cI, 4, .inl (zu14 0))), (rw 1, .inl (cI, 4, .inl (zu14 1))), (rw 2, .inl (cI, 4, .inl (zu14 2))), (rw 3, .inl (cI, 4, .inl (zu14 3))), (rw 4, .inl (cI, 4, .inl (zu14 4))), (rw 5, .inl (cI, 4, .inl (zu14 5))), (ab, .inl (cI, 6, .inl (upd bd k bo)))] H := hP
              have hD : va_D A [(pl, .inr (6, [.ref a, .ref mi, .ref sr, .ref tr, .ref pf, .ref xb, .ref tl, .int (0 : Int32), .int sl])), (tl, .inl (cI, 4, .inl (upd (upd (upd (upd td 0 x0) 1 x1) 2 x2) 3 x3))), (a, .inr (0, [.int (nI n), .int (nI (k + 1)), .ref al, .ref am, .ref aw, .ref ac, .ref ag, .ref ab])), (ag, .inl (cQ, 6, .inr (.inr (.inr (.inr (fun i9 => some (rw i9))))))), (rw 0, .inl (cI, 4, .inl (zu14 0))), (rw 1, .inl (cI, 4, .inl (zu14 1))), (rw 2, .inl (cI, 4, .inl (zu14 2))), (rw 3, .inl (cI, 4, .inl (zu14 3))), (rw 4, .inl (cI, 4, .inl (zu14 4))), (rw 5, .inl (cI, 4, .inl (zu14 5))), (ab, .inl (cI, 6, .inl (upd bd k bo)))] := hD
              refine lv_aload_n hx hb dd_Planner_limit_116 rfl (lv_at hl 0 rfl) ?_
              refine va_get (D := D) (ci := 6) (v := .ref a) (C := RR_Planner) (T := FF_Planner) (N := 9) hx hb htb hi_Planner hown hK hP 0 rfl rfl 0 (by decide) hf_12 (fun _ h9 => h9) rfl dd_Planner_limit_117 ?_
              refine va_get (D := D) (ci := 0) (v := .int (nI (k + 1))) (C := RR_Problem) (T := FF_Problem) (N := 8) hx hb htb hi_Problem hown hK hP 2 rfl rfl 1 (by decide) hf_107 (fun _ h9 => h9) rfl dd_Planner_limit_120 ?_
              refine lv_iconst (v := 1) hx hb dd_Planner_limit_123 (by decide) ?_
              refine lv_isub hx hb dd_Planner_limit_124 ?_
              refine mm_topi (y := nI k) (nI_pred k) ?_
              exact W.iret (v := (nI k)) hx hb hr (fun t ht hW => ⟨⟨nI k, zu14, rfl, ⟨rfl, lm_pk p108⟩, by rw [ht]; exact hP, va_K.moved hW.alike hK, hD⟩, hS.F ht⟩) hS.2.2 dd_Planner_limit_125
            · skip
              have h76 : ¬ (k < 6) := fun q9 => h76 ((nI_ltI (a := k) (b := 6) (by omega) (by omega)).mpr q9)
              omega
          · skip
            exact absurd (iw_of hok.1.1) (tl_0 p51 h54)
        · skip
          exact absurd (lw_at hok.1 3 (by decide)) (tl_0 p31 h34)
set_option maxHeartbeats 4000000 in
set_option maxRecDepth 100000 in
theorem cc_Planner_limitX (l : Launch) (hnt : l.stackTraces = false) (D : va_G) (cI cZ cL cQ : ClassId) (sz : Nat) (pl : Nat) (tl : Nat) (a : Nat) (mi : Nat) (sr : Nat) (tr : Nat) (pf : Nat) (xb : Nat) (so : Int32) (sl : Int32) (al : Nat) (am : Nat) (aw : Nat) (ac : Nat) (ag : Nat) (ab : Nat) (n : Nat) (k : Nat) (x0 : Int32) (x1 : Int32) (x2 : Int32) (x3 : Int32) (bo : Int32) (hn : n ≤ 4) (hk : k ≤ 6) (hno : ¬ lw_ok n x0 x1 x2 x3 bo 4) : mx_Met l yy_Planner_limit ww_Planner_limit ({ frames := 6, cells := 1, slots := 6, locals := 82 } : Room) (mx_Pc D kc_all [(cI, .int), (cZ, .boolean), (cL, .long), (cQ, .array .int)] sz [(pl, .inr (6, [.ref a, .ref mi, .ref sr, .ref tr, .ref pf, .ref xb, .ref tl, .int so, .int sl])), (a, .inr (0, [.int (nI n), .int (nI k), .ref al, .ref am, .ref aw, .ref ac, .ref ag, .ref ab]))] [.ref pl, .int x0, .int x1, .int x2, .int x3, .int bo]) (mx_Xq (fun E9 => E9 = "java/lang/IllegalArgumentException")) 1 6 (mx_A sz) := by
  refine mx_ofW (cc := bb_Planner_limit) (maxL := 6) (ret := (some .int)) (by decide) rfl ?_
  intro p e s m args below meth c s₁ B hml hex hv
  obtain ⟨rfl, hsz, hP, hK, hD, hTr⟩ := hv
  have hx := B.exec
  have hb := B.bytes
  have hr := B.returns
  have hts := atoms_spec (ws := ww_Planner_limit) B.pre
  have hown : s.vm.findClass RR_Planner = some m.cls := findClass_of_methodNamed B.named
  have hlocks := B.notSynchronized
  subst hsz
  have hS0 : va_S (mx_A s.heap.size) s.heap s.heap [] := va_S.rf
  have hP : va_P D kc_all [(pl, .inr (6, [.ref a, .ref mi, .ref sr, .ref tr, .ref pf, .ref xb, .ref tl, .int so, .int sl])), (a, .inr (0, [.int (nI n), .int (nI k), .ref al, .ref am, .ref aw, .ref ac, .ref ag, .ref ab]))] s.heap := hP
  have hl := lv_entry ([.ref pl, .int x0, .int x1, .int x2, .int x3, .int bo]) (n := 6) (Nat.le_of_ble_eq_true rfl)
  rw [lg_entry_eq]
  generalize (lg_sl ([.ref pl, .int x0, .int x1, .int x2, .int x3, .int bo]) ++ List.replicate (6 - (lg_sl ([.ref pl, .int x0, .int x1, .int x2, .int x3, .int bo])).length) Slot.unset).toArray = ls at hl ⊢
  have hl : lv_has ls 6 [(0, .ref pl), (1, .int x0), (2, .int x1), (3, .int x2), (4, .int x3), (5, .int bo)] := hl
  have htb : ∀ w ∈ tb_all, w.before ([.ref pl, .int x0, .int x1, .int x2, .int x3, .int bo]).toArray s = true := fun w h => hts w (List.mem_cons_of_mem _ h)
  have hf_12 := htb _ fl_Planner_12
  have hf_51 := htb _ fl_Planner_51
  have hf_55 := htb _ fl_Planner_55
  have hf_107 := htb _ fl_Planner_107
  refine lv_aload_n hx hb dd_Planner_limit_0 rfl (lv_at hl 0 rfl) ?_
  refine lv_iconst (v := 0) hx hb dd_Planner_limit_1 (by decide) ?_
  refine lv_iload_n hx hb dd_Planner_limit_2 rfl (lv_at hl 1 rfl) ?_
  refine mx_pi (va_runV (As := [.int (0 : Int32), .int x0]) (rest := []) (C := RR_Planner) ⟨hx, hb, hml, hown, hts⟩ (cc_Planner_isWeightP l D cI cZ cL cQ _ pl tl a mi sr tr pf xb so sl al am aw ac ag ab n k 0 x0 (by omega) (by omega)) (mm_cwV 2 hts ml_Planner_100 im_Planner_isWeight se_Planner_isWeight ic_Planner cd_Planner_isWeight rfl rfl (by decide +kernel) ⟨Nat.le_of_ble_eq_true rfl, Nat.le_of_ble_eq_true rfl⟩) (mm_preV hK hP hD [0, 1] (by decide) rfl 0 rfl rfl) rfl rfl hl.1 rfl (lv_room (Nat.le_of_ble_eq_true rfl)) dd_Planner_limit_3 ⟨Nat.zero_le _, Nat.zero_le _⟩) (fun _ h => h) hP hS0 (fun zr1 zu2 H locs p3 hP hS0 => ?_)
  have p3 : tl_ok (wg_ok n 0 x0) zr1 := p3
  refine lv_if_eq (tgt := 37) hx hb dd_Planner_limit_6 (by decide) (fun h6 => ?_) (fun h6 => ?_)
  · skip
    exact mx_throw (cls := "java/lang/IllegalArgumentException") (names := tx_up) hx hb hnt hown (by decide +kernel) (by decide +kernel) (htb _ kl_A) (htb _ ki_A) (mx_str hTr 5 103 _ rfl) (mx_own htb hTr ow_A) hex hlocks hS0 (hl.1.trans hml.symm) dd_Planner_limit_37 dd_Planner_limit_40 dd_Planner_limit_41 dd_Planner_limit_43 dd_Planner_limit_46 (Nat.le_of_ble_eq_true rfl) (Nat.le_of_ble_eq_true rfl) (Nat.le_of_ble_eq_true rfl) (Nat.le_of_ble_eq_true rfl) (fun _ _ h => h) (fun _ h => h)
  · skip
    refine lv_aload_n hx hb dd_Planner_limit_9 rfl (lv_at hl 0 rfl) ?_
    refine lv_iconst (v := 1) hx hb dd_Planner_limit_10 (by decide) ?_
    refine lv_iload_n hx hb dd_Planner_limit_11 rfl (lv_at hl 2 rfl) ?_
    refine mx_pi (va_runV (As := [.int (1 : Int32), .int x1]) (rest := []) (C := RR_Planner) ⟨hx, hb, hml, hown, hts⟩ (cc_Planner_isWeightP l D cI cZ cL cQ _ pl tl a mi sr tr pf xb so sl al am aw ac ag ab n k 1 x1 (by omega) (by omega)) (mm_cwV 2 hts ml_Planner_100 im_Planner_isWeight se_Planner_isWeight ic_Planner cd_Planner_isWeight rfl rfl (by decide +kernel) ⟨Nat.le_of_ble_eq_true rfl, Nat.le_of_ble_eq_true rfl⟩) (mm_preV hK hP hD [0, 1] (by decide) rfl 0 rfl rfl) rfl rfl hl.1 rfl (lv_room (Nat.le_of_ble_eq_true rfl)) dd_Planner_limit_12 ⟨Nat.zero_le _, Nat.zero_le _⟩) (fun _ h => h) hP hS0 (fun zr3 zu4 H locs p12 hP hS0 => ?_)
    have p12 : tl_ok (wg_ok n 1 x1) zr3 := p12
    refine lv_if_eq (tgt := 37) hx hb dd_Planner_limit_15 (by decide) (fun h15 => ?_) (fun h15 => ?_)
    · skip
      exact mx_throw (cls := "java/lang/IllegalArgumentException") (names := tx_up) hx hb hnt hown (by decide +kernel) (by decide +kernel) (htb _ kl_A) (htb _ ki_A) (mx_str hTr 5 103 _ rfl) (mx_own htb hTr ow_A) hex hlocks hS0 (hl.1.trans hml.symm) dd_Planner_limit_37 dd_Planner_limit_40 dd_Planner_limit_41 dd_Planner_limit_43 dd_Planner_limit_46 (Nat.le_of_ble_eq_true rfl) (Nat.le_of_ble_eq_true rfl) (Nat.le_of_ble_eq_true rfl) (Nat.le_of_ble_eq_true rfl) (fun _ _ h => h) (fun _ h => h)
    · skip
      refine lv_aload_n hx hb dd_Planner_limit_18 rfl (lv_at hl 0 rfl) ?_
      refine lv_iconst (v := 2) hx hb dd_Planner_limit_19 (by decide) ?_
      refine lv_iload_n hx hb dd_Planner_limit_20 rfl (lv_at hl 3 rfl) ?_
      refine mx_pi (va_runV (As := [.int (2 : Int32), .int x2]) (rest := []) (C := RR_Planner) ⟨hx, hb, hml, hown, hts⟩ (cc_Planner_isWeightP l D cI cZ cL cQ _ pl tl a mi sr tr pf xb so sl al am aw ac ag ab n k 2 x2 (by omega) (by omega)) (mm_cwV 2 hts ml_Planner_100 im_Planner_isWeight se_Planner_isWeight ic_Planner cd_Planner_isWeight rfl rfl (by decide +kernel) ⟨Nat.le_of_ble_eq_true rfl, Nat.le_of_ble_eq_true rfl⟩) (mm_preV hK hP hD [0, 1] (by decide) rfl 0 rfl rfl) rfl rfl hl.1 rfl (lv_room (Nat.le_of_ble_eq_true rfl)) dd_Planner_limit_21 ⟨Nat.zero_le _, Nat.zero_le _⟩) (fun _ h => h) hP hS0 (fun zr5 zu6 H locs p21 hP hS0 => ?_)
      have p21 : tl_ok (wg_ok n 2 x2) zr5 := p21
      refine lv_if_eq (tgt := 37) hx hb dd_Planner_limit_24 (by decide) (fun h24 => ?_) (fun h24 => ?_)
      · skip
        exact mx_throw (cls := "java/lang/IllegalArgumentException") (names := tx_up) hx hb hnt hown (by decide +kernel) (by decide +kernel) (htb _ kl_A) (htb _ ki_A) (mx_str hTr 5 103 _ rfl) (mx_own htb hTr ow_A) hex hlocks hS0 (hl.1.trans hml.symm) dd_Planner_limit_37 dd_Planner_limit_40 dd_Planner_limit_41 dd_Planner_limit_43 dd_Planner_limit_46 (Nat.le_of_ble_eq_true rfl) (Nat.le_of_ble_eq_true rfl) (Nat.le_of_ble_eq_true rfl) (Nat.le_of_ble_eq_true rfl) (fun _ _ h => h) (fun _ h => h)
      · skip
        refine lv_aload_n hx hb dd_Planner_limit_27 rfl (lv_at hl 0 rfl) ?_
        refine lv_iconst (v := 3) hx hb dd_Planner_limit_28 (by decide) ?_
        refine lv_iload hx hb dd_Planner_limit_29 (lv_at hl 4 rfl) ?_
        refine mx_pi (va_runV (As := [.int (3 : Int32), .int x3]) (rest := []) (C := RR_Planner) ⟨hx, hb, hml, hown, hts⟩ (cc_Planner_isWeightP l D cI cZ cL cQ _ pl tl a mi sr tr pf xb so sl al am aw ac ag ab n k 3 x3 (by omega) (by omega)) (mm_cwV 2 hts ml_Planner_100 im_Planner_isWeight se_Planner_isWeight ic_Planner cd_Planner_isWeight rfl rfl (by decide +kernel) ⟨Nat.le_of_ble_eq_true rfl, Nat.le_of_ble_eq_true rfl⟩) (mm_preV hK hP hD [0, 1] (by decide) rfl 0 rfl rfl) rfl rfl hl.1 rfl (lv_room (Nat.le_of_ble_eq_true rfl)) dd_Planner_limit_31 ⟨Nat.zero_le _, Nat.zero_le _⟩) (fun _ h => h) hP hS0 (fun zr7 zu8 H locs p31 hP hS0 => ?_)
        have p31 : tl_ok (wg_ok n 3 x3) zr7 := p31
        refine lv_if_ne (tgt := 47) hx hb dd_Planner_limit_34 (by decide) (fun h34 => ?_) (fun h34 => ?_)
        · skip
          have hw4 := lw_mk (n := n) (tl_1 p3 h6) (tl_1 p12 h15) (tl_1 p21 h24) (tl_1 p31 h34)
          refine lv_iload hx hb dd_Planner_limit_47 (lv_at hl 5 rfl) ?_
          refine lv_bipush (v := 99) hx hb dd_Planner_limit_49 (by decide) ?_
          refine mx_pi (va_runS (As := [.int bo, .int (99 : Int32)]) (rest := []) ⟨hx, hb, hml, hown, hts⟩ (cc_Planner_isWithin l D cI cZ cL cQ _ bo (99 : Int32) ) (mm_cwS 2 hts ml_Planner_77 sm_Planner_isWithin ic_Planner cd_Planner_isWithin rfl rfl (by decide +kernel) ⟨Nat.le_of_ble_eq_true rfl, Nat.le_of_ble_eq_true rfl⟩) (mm_preS hK hP hD [] (by decide) rfl) rfl rfl hl.1 rfl (lv_room (Nat.le_of_ble_eq_true rfl)) dd_Planner_limit_51 ⟨Nat.zero_le _, Nat.zero_le _⟩) (fun _ h => mx_A0 h) hP hS0 (fun zr9 zu10 H locs p51 hP hS0 => ?_)
          have p51 : tl_ok (iw_ok bo (99 : Int32)) zr9 := p51
          refine lv_if_ne (tgt := 67) hx hb dd_Planner_limit_54 (by decide) (fun h54 => ?_) (fun h54 => ?_)
          · skip
            exact absurd ⟨of_iw (tl_1 p51 h54), hw4⟩ hno
          · skip
            exact mx_throw (cls := "java/lang/IllegalArgumentException") (names := tx_up) hx hb hnt hown (by decide +kernel) (by decide +kernel) (htb _ kl_A) (htb _ ki_A) (mx_str hTr 6 105 _ rfl) (mx_own htb hTr ow_A) hex hlocks hS0 (hl.1.trans hml.symm) dd_Planner_limit_57 dd_Planner_limit_60 dd_Planner_limit_61 dd_Planner_limit_63 dd_Planner_limit_66 (Nat.le_of_ble_eq_true rfl) (Nat.le_of_ble_eq_true rfl) (Nat.le_of_ble_eq_true rfl) (Nat.le_of_ble_eq_true rfl) (fun _ _ h => h) (fun _ h => h)
        · skip
          exact mx_throw (cls := "java/lang/IllegalArgumentException") (names := tx_up) hx hb hnt hown (by decide +kernel) (by decide +kernel) (htb _ kl_A) (htb _ ki_A) (mx_str hTr 5 103 _ rfl) (mx_own htb hTr ow_A) hex hlocks hS0 (hl.1.trans hml.symm) dd_Planner_limit_37 dd_Planner_limit_40 dd_Planner_limit_41 dd_Planner_limit_43 dd_Planner_limit_46 (Nat.le_of_ble_eq_true rfl) (Nat.le_of_ble_eq_true rfl) (Nat.le_of_ble_eq_true rfl) (Nat.le_of_ble_eq_true rfl) (fun _ _ h => h) (fun _ h => h)
set_option maxHeartbeats 4000000 in
set_option maxRecDepth 100000 in
theorem cc_Planner_limitY (l : Launch) (hnt : l.stackTraces = false) (D : va_G) (cI cZ cL cQ : ClassId) (sz : Nat) (pl : Nat) (tl : Nat) (a : Nat) (mi : Nat) (sr : Nat) (tr : Nat) (pf : Nat) (xb : Nat) (so : Int32) (sl : Int32) (al : Nat) (am : Nat) (aw : Nat) (ac : Nat) (ag : Nat) (ab : Nat) (n : Nat) (k : Nat) (x0 : Int32) (x1 : Int32) (x2 : Int32) (x3 : Int32) (bo : Int32) (hn : n ≤ 4) (hk : k ≤ 6) (hok : lw_ok n x0 x1 x2 x3 bo 4 ∧ k = 6) : mx_Met l yy_Planner_limit ww_Planner_limit ({ frames := 6, cells := 1, slots := 6, locals := 82 } : Room) (mx_Pc D kc_all [(cI, .int), (cZ, .boolean), (cL, .long), (cQ, .array .int)] sz [(pl, .inr (6, [.ref a, .ref mi, .ref sr, .ref tr, .ref pf, .ref xb, .ref tl, .int so, .int sl])), (a, .inr (0, [.int (nI n), .int (nI k), .ref al, .ref am, .ref aw, .ref ac, .ref ag, .ref ab]))] [.ref pl, .int x0, .int x1, .int x2, .int x3, .int bo]) (mx_Xq (fun E9 => E9 = "java/lang/IllegalStateException")) 1 6 (mx_A sz) := by
  refine mx_ofW (cc := bb_Planner_limit) (maxL := 6) (ret := (some .int)) (by decide) rfl ?_
  intro p e s m args below meth c s₁ B hml hex hv
  obtain ⟨rfl, hsz, hP, hK, hD, hTr⟩ := hv
  have hx := B.exec
  have hb := B.bytes
  have hr := B.returns
  have hts := atoms_spec (ws := ww_Planner_limit) B.pre
  have hown : s.vm.findClass RR_Planner = some m.cls := findClass_of_methodNamed B.named
  have hlocks := B.notSynchronized
  subst hsz
  have hS0 : va_S (mx_A s.heap.size) s.heap s.heap [] := va_S.rf
  have hP : va_P D kc_all [(pl, .inr (6, [.ref a, .ref mi, .ref sr, .ref tr, .ref pf, .ref xb, .ref tl, .int so, .int sl])), (a, .inr (0, [.int (nI n), .int (nI k), .ref al, .ref am, .ref aw, .ref ac, .ref ag, .ref ab]))] s.heap := hP
  have hl := lv_entry ([.ref pl, .int x0, .int x1, .int x2, .int x3, .int bo]) (n := 6) (Nat.le_of_ble_eq_true rfl)
  rw [lg_entry_eq]
  generalize (lg_sl ([.ref pl, .int x0, .int x1, .int x2, .int x3, .int bo]) ++ List.replicate (6 - (lg_sl ([.ref pl, .int x0, .int x1, .int x2, .int x3, .int bo])).length) Slot.unset).toArray = ls at hl ⊢
  have hl : lv_has ls 6 [(0, .ref pl), (1, .int x0), (2, .int x1), (3, .int x2), (4, .int x3), (5, .int bo)] := hl
  have htb : ∀ w ∈ tb_all, w.before ([.ref pl, .int x0, .int x1, .int x2, .int x3, .int bo]).toArray s = true := fun w h => hts w (List.mem_cons_of_mem _ h)
  have hf_12 := htb _ fl_Planner_12
  have hf_51 := htb _ fl_Planner_51
  have hf_55 := htb _ fl_Planner_55
  have hf_107 := htb _ fl_Planner_107
  refine lv_aload_n hx hb dd_Planner_limit_0 rfl (lv_at hl 0 rfl) ?_
  refine lv_iconst (v := 0) hx hb dd_Planner_limit_1 (by decide) ?_
  refine lv_iload_n hx hb dd_Planner_limit_2 rfl (lv_at hl 1 rfl) ?_
  refine mx_pi (va_runV (As := [.int (0 : Int32), .int x0]) (rest := []) (C := RR_Planner) ⟨hx, hb, hml, hown, hts⟩ (cc_Planner_isWeightP l D cI cZ cL cQ _ pl tl a mi sr tr pf xb so sl al am aw ac ag ab n k 0 x0 (by omega) (by omega)) (mm_cwV 2 hts ml_Planner_100 im_Planner_isWeight se_Planner_isWeight ic_Planner cd_Planner_isWeight rfl rfl (by decide +kernel) ⟨Nat.le_of_ble_eq_true rfl, Nat.le_of_ble_eq_true rfl⟩) (mm_preV hK hP hD [0, 1] (by decide) rfl 0 rfl rfl) rfl rfl hl.1 rfl (lv_room (Nat.le_of_ble_eq_true rfl)) dd_Planner_limit_3 ⟨Nat.zero_le _, Nat.zero_le _⟩) (fun _ h => h) hP hS0 (fun zr1 zu2 H locs p3 hP hS0 => ?_)
  have p3 : tl_ok (wg_ok n 0 x0) zr1 := p3
  refine lv_if_eq (tgt := 37) hx hb dd_Planner_limit_6 (by decide) (fun h6 => ?_) (fun h6 => ?_)
  · skip
    exact absurd (lw_at hok.1 0 (by decide)) (tl_0 p3 h6)
  · skip
    refine lv_aload_n hx hb dd_Planner_limit_9 rfl (lv_at hl 0 rfl) ?_
    refine lv_iconst (v := 1) hx hb dd_Planner_limit_10 (by decide) ?_
    refine lv_iload_n hx hb dd_Planner_limit_11 rfl (lv_at hl 2 rfl) ?_
    refine mx_pi (va_runV (As := [.int (1 : Int32), .int x1]) (rest := []) (C := RR_Planner) ⟨hx, hb, hml, hown, hts⟩ (cc_Planner_isWeightP l D cI cZ cL cQ _ pl tl a mi sr tr pf xb so sl al am aw ac ag ab n k 1 x1 (by omega) (by omega)) (mm_cwV 2 hts ml_Planner_100 im_Planner_isWeight se_Planner_isWeight ic_Planner cd_Planner_isWeight rfl rfl (by decide +kernel) ⟨Nat.le_of_ble_eq_true rfl, Nat.le_of_ble_eq_true rfl⟩) (mm_preV hK hP hD [0, 1] (by decide) rfl 0 rfl rfl) rfl rfl hl.1 rfl (lv_room (Nat.le_of_ble_eq_true rfl)) dd_Planner_limit_12 ⟨Nat.zero_le _, Nat.zero_le _⟩) (fun _ h => h) hP hS0 (fun zr3 zu4 H locs p12 hP hS0 => ?_)
    have p12 : tl_ok (wg_ok n 1 x1) zr3 := p12
    refine lv_if_eq (tgt := 37) hx hb dd_Planner_limit_15 (by decide) (fun h15 => ?_) (fun h15 => ?_)
    · skip
      exact absurd (lw_at hok.1 1 (by decide)) (tl_0 p12 h15)
    · skip
      refine lv_aload_n hx hb dd_Planner_limit_18 rfl (lv_at hl 0 rfl) ?_
      refine lv_iconst (v := 2) hx hb dd_Planner_limit_19 (by decide) ?_
      refine lv_iload_n hx hb dd_Planner_limit_20 rfl (lv_at hl 3 rfl) ?_
      refine mx_pi (va_runV (As := [.int (2 : Int32), .int x2]) (rest := []) (C := RR_Planner) ⟨hx, hb, hml, hown, hts⟩ (cc_Planner_isWeightP l D cI cZ cL cQ _ pl tl a mi sr tr pf xb so sl al am aw ac ag ab n k 2 x2 (by omega) (by omega)) (mm_cwV 2 hts ml_Planner_100 im_Planner_isWeight se_Planner_isWeight ic_Planner cd_Planner_isWeight rfl rfl (by decide +kernel) ⟨Nat.le_of_ble_eq_true rfl, Nat.le_of_ble_eq_true rfl⟩) (mm_preV hK hP hD [0, 1] (by decide) rfl 0 rfl rfl) rfl rfl hl.1 rfl (lv_room (Nat.le_of_ble_eq_true rfl)) dd_Planner_limit_21 ⟨Nat.zero_le _, Nat.zero_le _⟩) (fun _ h => h) hP hS0 (fun zr5 zu6 H locs p21 hP hS0 => ?_)
      have p21 : tl_ok (wg_ok n 2 x2) zr5 := p21
      refine lv_if_eq (tgt := 37) hx hb dd_Planner_limit_24 (by decide) (fun h24 => ?_) (fun h24 => ?_)
      · skip
        exact absurd (lw_at hok.1 2 (by decide)) (tl_0 p21 h24)
      · skip
        refine lv_aload_n hx hb dd_Planner_limit_27 rfl (lv_at hl 0 rfl) ?_
        refine lv_iconst (v := 3) hx hb dd_Planner_limit_28 (by decide) ?_
        refine lv_iload hx hb dd_Planner_limit_29 (lv_at hl 4 rfl) ?_
        refine mx_pi (va_runV (As := [.int (3 : Int32), .int x3]) (rest := []) (C := RR_Planner) ⟨hx, hb, hml, hown, hts⟩ (cc_Planner_isWeightP l D cI cZ cL cQ _ pl tl a mi sr tr pf xb so sl al am aw ac ag ab n k 3 x3 (by omega) (by omega)) (mm_cwV 2 hts ml_Planner_100 im_Planner_isWeight se_Planner_isWeight ic_Planner cd_Planner_isWeight rfl rfl (by decide +kernel) ⟨Nat.le_of_ble_eq_true rfl, Nat.le_of_ble_eq_true rfl⟩) (mm_preV hK hP hD [0, 1] (by decide) rfl 0 rfl rfl) rfl rfl hl.1 rfl (lv_room (Nat.le_of_ble_eq_true rfl)) dd_Planner_limit_31 ⟨Nat.zero_le _, Nat.zero_le _⟩) (fun _ h => h) hP hS0 (fun zr7 zu8 H locs p31 hP hS0 => ?_)
        have p31 : tl_ok (wg_ok n 3 x3) zr7 := p31
        refine lv_if_ne (tgt := 47) hx hb dd_Planner_limit_34 (by decide) (fun h34 => ?_) (fun h34 => ?_)
        · skip
          refine lv_iload hx hb dd_Planner_limit_47 (lv_at hl 5 rfl) ?_
          refine lv_bipush (v := 99) hx hb dd_Planner_limit_49 (by decide) ?_
          refine mx_pi (va_runS (As := [.int bo, .int (99 : Int32)]) (rest := []) ⟨hx, hb, hml, hown, hts⟩ (cc_Planner_isWithin l D cI cZ cL cQ _ bo (99 : Int32) ) (mm_cwS 2 hts ml_Planner_77 sm_Planner_isWithin ic_Planner cd_Planner_isWithin rfl rfl (by decide +kernel) ⟨Nat.le_of_ble_eq_true rfl, Nat.le_of_ble_eq_true rfl⟩) (mm_preS hK hP hD [] (by decide) rfl) rfl rfl hl.1 rfl (lv_room (Nat.le_of_ble_eq_true rfl)) dd_Planner_limit_51 ⟨Nat.zero_le _, Nat.zero_le _⟩) (fun _ h => mx_A0 h) hP hS0 (fun zr9 zu10 H locs p51 hP hS0 => ?_)
          have p51 : tl_ok (iw_ok bo (99 : Int32)) zr9 := p51
          refine lv_if_ne (tgt := 67) hx hb dd_Planner_limit_54 (by decide) (fun h54 => ?_) (fun h54 => ?_)
          · skip
            refine lv_aload_n hx hb dd_Planner_limit_67 rfl (lv_at hl 0 rfl) ?_
            refine va_get (D := D) (ci := 6) (v := .ref a) (C := RR_Planner) (T := FF_Planner) (N := 9) hx hb htb hi_Planner hown hK hP 0 rfl rfl 0 (by decide) hf_12 (fun _ h9 => h9) rfl dd_Planner_limit_68 ?_
            refine va_get (D := D) (ci := 0) (v := .int (nI k)) (C := RR_Problem) (T := FF_Problem) (N := 8) hx hb htb hi_Problem hown hK hP 1 rfl rfl 1 (by decide) hf_107 (fun _ h9 => h9) rfl dd_Planner_limit_71 ?_
            refine lv_bipush (v := 6) hx hb dd_Planner_limit_74 (by decide) ?_
            refine lv_icmp_lt (tgt := 89) hx hb dd_Planner_limit_76 (by decide) (fun h76 => ?_) (fun h76 => ?_)
            · skip
              have h76 : k < 6 := (nI_ltI (a := k) (b := 6) (by omega) (by omega)).mp h76
              omega
            · skip
              have h76 : ¬ (k < 6) := fun q9 => h76 ((nI_ltI (a := k) (b := 6) (by omega) (by omega)).mpr q9)
              exact mx_throw (cls := "java/lang/IllegalStateException") (names := tx_up) hx hb hnt hown (by decide +kernel) (by decide +kernel) (htb _ kl_C) (htb _ ki_C) (mx_str hTr 7 113 _ rfl) (mx_own htb hTr ow_C) hex hlocks hS0 (hl.1.trans hml.symm) dd_Planner_limit_79 dd_Planner_limit_82 dd_Planner_limit_83 dd_Planner_limit_85 dd_Planner_limit_88 (Nat.le_of_ble_eq_true rfl) (Nat.le_of_ble_eq_true rfl) (Nat.le_of_ble_eq_true rfl) (Nat.le_of_ble_eq_true rfl) (fun _ _ h => h) (fun _ h => h)
          · skip
            exact absurd (iw_of hok.1.1) (tl_0 p51 h54)
        · skip
          exact absurd (lw_at hok.1 3 (by decide)) (tl_0 p31 h34)
abbrev qq_Planner_drop (D : va_G) (cI cZ cL cQ : ClassId) (pl : Nat) (tl : Nat) (a : Nat) (mi : Nat) (sr : Nat) (tr : Nat) (pf : Nat) (xb : Nat) (so : Int32) (sl : Int32) (al : Nat) (am : Nat) (aw : Nat) (ac : Nat) (ag : Nat) (ab : Nat) (n : Nat) (k : Nat) (i : Nat) (rw : Nat → Nat) (M : Nat → Nat → Int32) (bd : Nat → Int32) (A : Nat → Prop) : Array Value → State → Outcome → State → Prop := va_Qi (fun (r : Int32) (u : (Nat → Nat → Int32) × (Nat → Int32)) => r = nI (k - 1) ∧ rl_ok M u.1 bd u.2 i (k - 1)) (fun (u : (Nat → Nat → Int32) × (Nat → Int32)) t => mm_B D kc_all [(cI, .int), (cZ, .boolean), (cL, .long), (cQ, .array .int)] A [(pl, .inr (6, [.ref a, .ref mi, .ref sr, .ref tr, .ref pf, .ref xb, .ref tl, .int 0, .int sl])), (a, .inr (0, [.int (nI n), .int (nI (k - 1)), .ref al, .ref am, .ref aw, .ref ac, .ref ag, .ref ab])), (ag, .inl (cQ, 6, .inr (.inr (.inr (.inr (fun i9 => some (rw i9))))))), (rw 0, .inl (cI, 4, .inl (u.1 0))), (rw 1, .inl (cI, 4, .inl (u.1 1))), (rw 2, .inl (cI, 4, .inl (u.1 2))), (rw 3, .inl (cI, 4, .inl (u.1 3))), (rw 4, .inl (cI, 4, .inl (u.1 4))), (rw 5, .inl (cI, 4, .inl (u.1 5))), (ab, .inl (cI, 6, .inl u.2))] t) A
set_option maxHeartbeats 4000000 in
set_option maxRecDepth 100000 in
theorem cc_Planner_drop (l : Launch) (D : va_G) (cI cZ cL cQ : ClassId) (sz : Nat) (pl : Nat) (tl : Nat) (a : Nat) (mi : Nat) (sr : Nat) (tr : Nat) (pf : Nat) (xb : Nat) (so : Int32) (sl : Int32) (al : Nat) (am : Nat) (aw : Nat) (ac : Nat) (ag : Nat) (ab : Nat) (n : Nat) (k : Nat) (i : Nat) (rw : Nat → Nat) (M : Nat → Nat → Int32) (bd : Nat → Int32) (hk : k ≤ 6) (hi : i < k) : Met l yy_Planner_drop ww_Planner_drop ({ frames := 2, cells := 0, slots := 0, locals := 46 } : Room) (mm_Pc D kc_all [(cI, .int), (cZ, .boolean), (cL, .long), (cQ, .array .int)] sz [(pl, .inr (6, [.ref a, .ref mi, .ref sr, .ref tr, .ref pf, .ref xb, .ref tl, .int so, .int sl])), (a, .inr (0, [.int (nI n), .int (nI k), .ref al, .ref am, .ref aw, .ref ac, .ref ag, .ref ab])), (ag, .inl (cQ, 6, .inr (.inr (.inr (.inr (fun i9 => some (rw i9))))))), (rw 0, .inl (cI, 4, .inl (M 0))), (rw 1, .inl (cI, 4, .inl (M 1))), (rw 2, .inl (cI, 4, .inl (M 2))), (rw 3, .inl (cI, 4, .inl (M 3))), (rw 4, .inl (cI, 4, .inl (M 4))), (rw 5, .inl (cI, 4, .inl (M 5))), (ab, .inl (cI, 6, .inl bd))] [.ref pl, .int (nI i)]) (qq_Planner_drop D cI cZ cL cQ pl tl a mi sr tr pf xb so sl al am aw ac ag ab n k i rw M bd (va_A [(pl, .inr (6, [.ref a, .ref mi, .ref sr, .ref tr, .ref pf, .ref xb, .ref tl, .int so, .int sl])), (a, .inr (0, [.int (nI n), .int (nI k), .ref al, .ref am, .ref aw, .ref ac, .ref ag, .ref ab])), (ag, .inl (cQ, 6, .inr (.inr (.inr (.inr (fun i9 => some (rw i9))))))), (rw 0, .inl (cI, 4, .inl (M 0))), (rw 1, .inl (cI, 4, .inl (M 1))), (rw 2, .inl (cI, 4, .inl (M 2))), (rw 3, .inl (cI, 4, .inl (M 3))), (rw 4, .inl (cI, 4, .inl (M 4))), (rw 5, .inl (cI, 4, .inl (M 5))), (ab, .inl (cI, 6, .inl bd))] sz)) 0 0 (va_A [(pl, .inr (6, [.ref a, .ref mi, .ref sr, .ref tr, .ref pf, .ref xb, .ref tl, .int so, .int sl])), (a, .inr (0, [.int (nI n), .int (nI k), .ref al, .ref am, .ref aw, .ref ac, .ref ag, .ref ab])), (ag, .inl (cQ, 6, .inr (.inr (.inr (.inr (fun i9 => some (rw i9))))))), (rw 0, .inl (cI, 4, .inl (M 0))), (rw 1, .inl (cI, 4, .inl (M 1))), (rw 2, .inl (cI, 4, .inl (M 2))), (rw 3, .inl (cI, 4, .inl (M 3))), (rw 4, .inl (cI, 4, .inl (M 4))), (rw 5, .inl (cI, 4, .inl (M 5))), (ab, .inl (cI, 6, .inl bd))] sz) := by
  refine Met.ofW (cc := bb_Planner_drop) (maxL := 2) (ret := (some .int)) (by decide) rfl ?_
  intro p e s m args below meth c s₁ B hml hv
  obtain ⟨rfl, hsz, hP, hK, hD0⟩ := hv
  have hx := B.exec
  have hb := B.bytes
  have hr := B.returns
  have hts := atoms_spec (ws := ww_Planner_drop) B.pre
  have hown : s.vm.findClass RR_Planner = some m.cls := findClass_of_methodNamed B.named
  have hlocks := B.notSynchronized
  subst hsz
  have hD := hD0.self (sz := s.heap.size)
  generalize hAe : va_A [(pl, .inr (6, [.ref a, .ref mi, .ref sr, .ref tr, .ref pf, .ref xb, .ref tl, .int so, .int sl])), (a, .inr (0, [.int (nI n), .int (nI k), .ref al, .ref am, .ref aw, .ref ac, .ref ag, .ref ab])), (ag, .inl (cQ, 6, .inr (.inr (.inr (.inr (fun i9 => some (rw i9))))))), (rw 0, .inl (cI, 4, .inl (M 0))), (rw 1, .inl (cI, 4, .inl (M 1))), (rw 2, .inl (cI, 4, .inl (M 2))), (rw 3, .inl (cI, 4, .inl (M 3))), (rw 4, .inl (cI, 4, .inl (M 4))), (rw 5, .inl (cI, 4, .inl (M 5))), (ab, .inl (cI, 6, .inl bd))] s.heap.size = A at hD ⊢
  have hA : ∀ q : Nat, s.heap.size ≤ q → A q := fun q h => by rw [← hAe]; exact Or.inr h
  have hS : va_S A s.heap s.heap [] := va_S.rf
  have hP : va_P D kc_all [(pl, .inr (6, [.ref a, .ref mi, .ref sr, .ref tr, .ref pf, .ref xb, .ref tl, .int so, .int sl])), (a, .inr (0, [.int (nI n), .int (nI k), .ref al, .ref am, .ref aw, .ref ac, .ref ag, .ref ab])), (ag, .inl (cQ, 6, .inr (.inr (.inr (.inr (fun i9 => some (rw i9))))))), (rw 0, .inl (cI, 4, .inl (M 0))), (rw 1, .inl (cI, 4, .inl (M 1))), (rw 2, .inl (cI, 4, .inl (M 2))), (rw 3, .inl (cI, 4, .inl (M 3))), (rw 4, .inl (cI, 4, .inl (M 4))), (rw 5, .inl (cI, 4, .inl (M 5))), (ab, .inl (cI, 6, .inl bd))] s.heap := hP
  have hl := lv_entry ([.ref pl, .int (nI i)]) (n := 2) (Nat.le_of_ble_eq_true rfl)
  rw [lg_entry_eq]
  generalize (lg_sl ([.ref pl, .int (nI i)]) ++ List.replicate (2 - (lg_sl ([.ref pl, .int (nI i)])).length) Slot.unset).toArray = ls at hl ⊢
  have hl : lv_has ls 2 [(0, .ref pl), (1, .int (nI i))] := hl
  have htb : ∀ w ∈ tb_all, w.before ([.ref pl, .int (nI i)]).toArray s = true := fun w h => hts w (List.mem_cons_of_mem _ h)
  have hf_12 := htb _ fl_Planner_12
  have hf_55 := htb _ fl_Planner_55
  have hf_107 := htb _ fl_Planner_107
  refine lv_iload_n hx hb dd_Planner_drop_0 rfl (lv_at hl 1 rfl) ?_
  refine lv_if_lt (tgt := 15) hx hb dd_Planner_drop_1 (by decide) (fun h1 => ?_) (fun h1 => ?_)
  · skip
    have h1 : i < 0 := (nI_ltI (a := i) (b := 0) (by omega) (by omega)).mp h1
    omega
  · skip
    have h1 : ¬ (i < 0) := fun q9 => h1 ((nI_ltI (a := i) (b := 0) (by omega) (by omega)).mpr q9)
    refine lv_iload_n hx hb dd_Planner_drop_4 rfl (lv_at hl 1 rfl) ?_
    refine lv_aload_n hx hb dd_Planner_drop_5 rfl (lv_at hl 0 rfl) ?_
    refine va_get (D := D) (ci := 6) (v := .ref a) (C := RR_Planner) (T := FF_Planner) (N := 9) hx hb htb hi_Planner hown hK hP 0 rfl rfl 0 (by decide) hf_12 (fun _ h9 => h9) rfl dd_Planner_drop_6 ?_
    refine va_get (D := D) (ci := 0) (v := .int (nI k)) (C := RR_Problem) (T := FF_Problem) (N := 8) hx hb htb hi_Problem hown hK hP 1 rfl rfl 1 (by decide) hf_107 (fun _ h9 => h9) rfl dd_Planner_drop_9 ?_
    refine lv_icmp_lt (tgt := 25) hx hb dd_Planner_drop_12 (by decide) (fun h12 => ?_) (fun h12 => ?_)
    · skip
      have h12 : i < k := (nI_ltI (a := i) (b := k) (by omega) (by omega)).mp h12
      refine lv_aload_n hx hb dd_Planner_drop_25 rfl (lv_at hl 0 rfl) ?_
      refine va_get (D := D) (ci := 6) (v := .ref a) (C := RR_Planner) (T := FF_Planner) (N := 9) hx hb htb hi_Planner hown hK hP 0 rfl rfl 0 (by decide) hf_12 (fun _ h9 => h9) rfl dd_Planner_drop_26 ?_
      refine lv_iload_n hx hb dd_Planner_drop_29 rfl (lv_at hl 1 rfl) ?_
      refine mm_v (wc := [(a, .inr (0, [.int (nI n), .int (nI k), .ref al, .ref am, .ref aw, .ref ac, .ref ag, .ref ab])), (ag, .inl (cQ, 6, .inr (.inr (.inr (.inr (fun i9 => some (rw i9))))))), (rw 0, .inl (cI, 4, .inl (M 0))), (rw 1, .inl (cI, 4, .inl (M 1))), (rw 2, .inl (cI, 4, .inl (M 2))), (rw 3, .inl (cI, 4, .inl (M 3))), (rw 4, .inl (cI, 4, .inl (M 4))), (rw 5, .inl (cI, 4, .inl (M 5))), (ab, .inl (cI, 6, .inl bd))]) (wr := [(pl, .inr (6, [.ref a, .ref mi, .ref sr, .ref tr, .ref pf, .ref xb, .ref tl, .int so, .int sl]))]) (va_runV (As := [.int (nI i)]) (rest := []) (C := RR_Problem) ⟨hx, hb, hml, hown, hts⟩ (cc_Problem_removeLimit l D cI cZ cL cQ _ a al am aw ac ag ab n k i rw M bd (by omega) (by omega)) (mm_cwV 1 hts ml_Planner_129 im_Problem_removeLimit se_Problem_removeLimit ic_Problem cd_Problem_removeLimit rfl rfl (by decide +kernel) ⟨Nat.le_of_ble_eq_true rfl, Nat.le_of_ble_eq_true rfl⟩) (mm_preV hK hP hD [1, 2, 3, 4, 5, 6, 7, 8, 9] (by decide) rfl 1 rfl rfl) rfl rfl hl.1 rfl (lv_room (Nat.le_of_ble_eq_true rfl)) dd_Planner_drop_30 ⟨Nat.zero_le _, Nat.zero_le _⟩) hP hD hS hA [1, 2, 3, 4, 5, 6, 7, 8, 9] [0] rfl rfl (by decide) (by decide) (fun zu2 H locs p30 hP hD hS => ?_)
      have hP : va_P D kc_all [(pl, .inr (6, [.ref a, .ref mi, .ref sr, .ref tr, .ref pf, .ref xb, .ref tl, .int so, .int sl])), (a, .inr (0, [.int (nI n), .int (nI (k - 1)), .ref al, .ref am, .ref aw, .ref ac, .ref ag, .ref ab])), (ag, .inl (cQ, 6, .inr (.inr (.inr (.inr (fun i9 => some (rw i9))))))), (rw 0, .inl (cI, 4, .inl (zu2.1 0))), (rw 1, .inl (cI, 4, .inl (zu2.1 1))), (rw 2, .inl (cI, 4, .inl (zu2.1 2))), (rw 3, .inl (cI, 4, .inl (zu2.1 3))), (rw 4, .inl (cI, 4, .inl (zu2.1 4))), (rw 5, .inl (cI, 4, .inl (zu2.1 5))), (ab, .inl (cI, 6, .inl zu2.2))] H := hP
      have hD : va_D A [(pl, .inr (6, [.ref a, .ref mi, .ref sr, .ref tr, .ref pf, .ref xb, .ref tl, .int so, .int sl])), (a, .inr (0, [.int (nI n), .int (nI (k - 1)), .ref al, .ref am, .ref aw, .ref ac, .ref ag, .ref ab])), (ag, .inl (cQ, 6, .inr (.inr (.inr (.inr (fun i9 => some (rw i9))))))), (rw 0, .inl (cI, 4, .inl (zu2.1 0))), (rw 1, .inl (cI, 4, .inl (zu2.1 1))), (rw 2, .inl (cI, 4, .inl (zu2.1 2))), (rw 3, .inl (cI, 4, .inl (zu2.1 3))), (rw 4, .inl (cI, 4, .inl (zu2.1 4))), (rw 5, .inl (cI, 4, .inl (zu2.1 5))), (ab, .inl (cI, 6, .inl zu2.2))] := hD
      have p30 : rl_ok M zu2.1 bd zu2.2 i (k - 1) := p30
      refine lv_aload_n hx hb dd_Planner_drop_33 rfl (lv_at hl 0 rfl) ?_
      refine lv_iconst (v := 0) hx hb dd_Planner_drop_34 (by decide) ?_
      refine va_put (D := D) (ci := 6) (v := .int (0 : Int32)) (ty := .boolean) (C := RR_Planner) (T := FF_Planner) (N := 9) hx hb htb hi_Planner tt_Planner tt_Planner_ok nn_Planner hown hK hP hD hS 0 rfl rfl 7 (by decide) hf_55 (fun _ h9 => h9) rfl (by decide +kernel) (rfl) (rfl) (Nat.le_of_ble_eq_true rfl) dd_Planner_drop_35 (fun H locs hP hD hS => ?_)
      have hP : va_P D kc_all [(pl, .inr (6, [.ref a, .ref mi, .ref sr, .ref tr, .ref pf, .ref xb, .ref tl, .int (0 : Int32), .int sl])), (a, .inr (0, [.int (nI n), .int (nI (k - 1)), .ref al, .ref am, .ref aw, .ref ac, .ref ag, .ref ab])), (ag, .inl (cQ, 6, .inr (.inr (.inr (.inr (fun i9 => some (rw i9))))))), (rw 0, .inl (cI, 4, .inl (zu2.1 0))), (rw 1, .inl (cI, 4, .inl (zu2.1 1))), (rw 2, .inl (cI, 4, .inl (zu2.1 2))), (rw 3, .inl (cI, 4, .inl (zu2.1 3))), (rw 4, .inl (cI, 4, .inl (zu2.1 4))), (rw 5, .inl (cI, 4, .inl (zu2.1 5))), (ab, .inl (cI, 6, .inl zu2.2))] H := hP
      have hD : va_D A [(pl, .inr (6, [.ref a, .ref mi, .ref sr, .ref tr, .ref pf, .ref xb, .ref tl, .int (0 : Int32), .int sl])), (a, .inr (0, [.int (nI n), .int (nI (k - 1)), .ref al, .ref am, .ref aw, .ref ac, .ref ag, .ref ab])), (ag, .inl (cQ, 6, .inr (.inr (.inr (.inr (fun i9 => some (rw i9))))))), (rw 0, .inl (cI, 4, .inl (zu2.1 0))), (rw 1, .inl (cI, 4, .inl (zu2.1 1))), (rw 2, .inl (cI, 4, .inl (zu2.1 2))), (rw 3, .inl (cI, 4, .inl (zu2.1 3))), (rw 4, .inl (cI, 4, .inl (zu2.1 4))), (rw 5, .inl (cI, 4, .inl (zu2.1 5))), (ab, .inl (cI, 6, .inl zu2.2))] := hD
      refine lv_aload_n hx hb dd_Planner_drop_38 rfl (lv_at hl 0 rfl) ?_
      refine va_get (D := D) (ci := 6) (v := .ref a) (C := RR_Planner) (T := FF_Planner) (N := 9) hx hb htb hi_Planner hown hK hP 0 rfl rfl 0 (by decide) hf_12 (fun _ h9 => h9) rfl dd_Planner_drop_39 ?_
      refine va_get (D := D) (ci := 0) (v := .int (nI (k - 1))) (C := RR_Problem) (T := FF_Problem) (N := 8) hx hb htb hi_Problem hown hK hP 1 rfl rfl 1 (by decide) hf_107 (fun _ h9 => h9) rfl dd_Planner_drop_42 ?_
      exact W.iret (v := (nI (k - 1))) hx hb hr (fun t ht hW => ⟨⟨nI (k - 1), (zu2.1, zu2.2), rfl, ⟨rfl, p30⟩, by rw [ht]; exact hP, va_K.moved hW.alike hK, hD⟩, hS.F ht⟩) hS.2.2 dd_Planner_drop_45
    · skip
      have h12 : ¬ (i < k) := fun q9 => h12 ((nI_ltI (a := i) (b := k) (by omega) (by omega)).mpr q9)
      omega
set_option maxHeartbeats 4000000 in
set_option maxRecDepth 100000 in
theorem cc_Planner_dropX (l : Launch) (hnt : l.stackTraces = false) (D : va_G) (cI cZ cL cQ : ClassId) (sz : Nat) (pl : Nat) (tl : Nat) (a : Nat) (mi : Nat) (sr : Nat) (tr : Nat) (pf : Nat) (xb : Nat) (so : Int32) (sl : Int32) (al : Nat) (am : Nat) (aw : Nat) (ac : Nat) (ag : Nat) (ab : Nat) (n : Nat) (k : Nat) (iv : Int32) (hno : ¬ (0 ≤ iv ∧ iv < nI k)) : mx_Met l yy_Planner_drop ww_Planner_drop ({ frames := 6, cells := 1, slots := 6, locals := 82 } : Room) (mx_Pc D kc_all [(cI, .int), (cZ, .boolean), (cL, .long), (cQ, .array .int)] sz [(pl, .inr (6, [.ref a, .ref mi, .ref sr, .ref tr, .ref pf, .ref xb, .ref tl, .int so, .int sl])), (a, .inr (0, [.int (nI n), .int (nI k), .ref al, .ref am, .ref aw, .ref ac, .ref ag, .ref ab]))] [.ref pl, .int iv]) (mx_Xq (fun E9 => E9 = "java/lang/IndexOutOfBoundsException")) 1 6 (mx_A sz) := by
  refine mx_ofW (cc := bb_Planner_drop) (maxL := 2) (ret := (some .int)) (by decide) rfl ?_
  intro p e s m args below meth c s₁ B hml hex hv
  obtain ⟨rfl, hsz, hP, hK, hD, hTr⟩ := hv
  have hx := B.exec
  have hb := B.bytes
  have hr := B.returns
  have hts := atoms_spec (ws := ww_Planner_drop) B.pre
  have hown : s.vm.findClass RR_Planner = some m.cls := findClass_of_methodNamed B.named
  have hlocks := B.notSynchronized
  subst hsz
  have hS0 : va_S (mx_A s.heap.size) s.heap s.heap [] := va_S.rf
  have hP : va_P D kc_all [(pl, .inr (6, [.ref a, .ref mi, .ref sr, .ref tr, .ref pf, .ref xb, .ref tl, .int so, .int sl])), (a, .inr (0, [.int (nI n), .int (nI k), .ref al, .ref am, .ref aw, .ref ac, .ref ag, .ref ab]))] s.heap := hP
  have hl := lv_entry ([.ref pl, .int iv]) (n := 2) (Nat.le_of_ble_eq_true rfl)
  rw [lg_entry_eq]
  generalize (lg_sl ([.ref pl, .int iv]) ++ List.replicate (2 - (lg_sl ([.ref pl, .int iv])).length) Slot.unset).toArray = ls at hl ⊢
  have hl : lv_has ls 2 [(0, .ref pl), (1, .int iv)] := hl
  have htb : ∀ w ∈ tb_all, w.before ([.ref pl, .int iv]).toArray s = true := fun w h => hts w (List.mem_cons_of_mem _ h)
  have hf_12 := htb _ fl_Planner_12
  have hf_55 := htb _ fl_Planner_55
  have hf_107 := htb _ fl_Planner_107
  refine lv_iload_n hx hb dd_Planner_drop_0 rfl (lv_at hl 1 rfl) ?_
  refine lv_if_lt (tgt := 15) hx hb dd_Planner_drop_1 (by decide) (fun h1 => ?_) (fun h1 => ?_)
  · skip
    exact mx_throw (cls := "java/lang/IndexOutOfBoundsException") (names := tx_up) hx hb hnt hown (by decide +kernel) (by decide +kernel) (htb _ kl_B) (htb _ ki_B) (mx_str hTr 8 126 _ rfl) (mx_own htb hTr ow_B) hex hlocks hS0 (hl.1.trans hml.symm) dd_Planner_drop_15 dd_Planner_drop_18 dd_Planner_drop_19 dd_Planner_drop_21 dd_Planner_drop_24 (Nat.le_of_ble_eq_true rfl) (Nat.le_of_ble_eq_true rfl) (Nat.le_of_ble_eq_true rfl) (Nat.le_of_ble_eq_true rfl) (fun _ _ h => h) (fun _ h => h)
  · skip
    refine lv_iload_n hx hb dd_Planner_drop_4 rfl (lv_at hl 1 rfl) ?_
    refine lv_aload_n hx hb dd_Planner_drop_5 rfl (lv_at hl 0 rfl) ?_
    refine va_get (D := D) (ci := 6) (v := .ref a) (C := RR_Planner) (T := FF_Planner) (N := 9) hx hb htb hi_Planner hown hK hP 0 rfl rfl 0 (by decide) hf_12 (fun _ h9 => h9) rfl dd_Planner_drop_6 ?_
    refine va_get (D := D) (ci := 0) (v := .int (nI k)) (C := RR_Problem) (T := FF_Problem) (N := 8) hx hb htb hi_Problem hown hK hP 1 rfl rfl 1 (by decide) hf_107 (fun _ h9 => h9) rfl dd_Planner_drop_9 ?_
    refine lv_icmp_lt (tgt := 25) hx hb dd_Planner_drop_12 (by decide) (fun h12 => ?_) (fun h12 => ?_)
    · skip
      exact absurd ⟨i3_nlt h1, h12⟩ hno
    · skip
      exact mx_throw (cls := "java/lang/IndexOutOfBoundsException") (names := tx_up) hx hb hnt hown (by decide +kernel) (by decide +kernel) (htb _ kl_B) (htb _ ki_B) (mx_str hTr 8 126 _ rfl) (mx_own htb hTr ow_B) hex hlocks hS0 (hl.1.trans hml.symm) dd_Planner_drop_15 dd_Planner_drop_18 dd_Planner_drop_19 dd_Planner_drop_21 dd_Planner_drop_24 (Nat.le_of_ble_eq_true rfl) (Nat.le_of_ble_eq_true rfl) (Nat.le_of_ble_eq_true rfl) (Nat.le_of_ble_eq_true rfl) (fun _ _ h => h) (fun _ h => h)
abbrev qq_Planner_total (D : va_G) (cI cZ cL cQ : ClassId) (pl : Nat) (tl : Nat) (a : Nat) (mi : Nat) (sr : Nat) (tr : Nat) (pf : Nat) (xb : Nat) (so : Int32) (sl : Int32) (sb : Nat) (sq : Nat) (sx : Nat) (sy : Nat) (fo : Int32) (dv : Int32) (cs : Int32) (lz : Int32) (wv : Int32) (A : Nat → Prop) : Array Value → State → Outcome → State → Prop := va_Qi (fun (r : Int32) (u : Unit) => r = pt_f cs dv wv) (fun (u : Unit) t => mm_B D kc_all [(cI, .int), (cZ, .boolean), (cL, .long), (cQ, .array .int)] A [(pl, .inr (6, [.ref a, .ref mi, .ref sr, .ref tr, .ref pf, .ref xb, .ref tl, .int so, .int sl])), (sr, .inr (2, [.int fo, .ref sb, .int dv, .int cs, .int lz, .ref sq, .ref sx, .ref sy]))] t) A
set_option maxHeartbeats 4000000 in
set_option maxRecDepth 100000 in
theorem cc_Planner_total (l : Launch) (D : va_G) (cI cZ cL cQ : ClassId) (sz : Nat) (pl : Nat) (tl : Nat) (a : Nat) (mi : Nat) (sr : Nat) (tr : Nat) (pf : Nat) (xb : Nat) (so : Int32) (sl : Int32) (sb : Nat) (sq : Nat) (sx : Nat) (sy : Nat) (fo : Int32) (dv : Int32) (cs : Int32) (lz : Int32) (wv : Int32) (hw : wv = 0 ∨ wv = 1) (hok : ¬ so = 0 ∧ ¬ fo = 0) : Met l yy_Planner_total ww_Planner_total ({ frames := 7, cells := 0, slots := 0, locals := 102 } : Room) (mm_Pc D kc_all [(cI, .int), (cZ, .boolean), (cL, .long), (cQ, .array .int)] sz [(pl, .inr (6, [.ref a, .ref mi, .ref sr, .ref tr, .ref pf, .ref xb, .ref tl, .int so, .int sl])), (sr, .inr (2, [.int fo, .ref sb, .int dv, .int cs, .int lz, .ref sq, .ref sx, .ref sy]))] [.ref pl, .int wv]) (qq_Planner_total D cI cZ cL cQ pl tl a mi sr tr pf xb so sl sb sq sx sy fo dv cs lz wv (va_A [(pl, .inr (6, [.ref a, .ref mi, .ref sr, .ref tr, .ref pf, .ref xb, .ref tl, .int so, .int sl])), (sr, .inr (2, [.int fo, .ref sb, .int dv, .int cs, .int lz, .ref sq, .ref sx, .ref sy]))] sz)) 0 0 (va_A [(pl, .inr (6, [.ref a, .ref mi, .ref sr, .ref tr, .ref pf, .ref xb, .ref tl, .int so, .int sl])), (sr, .inr (2, [.int fo, .ref sb, .int dv, .int cs, .int lz, .ref sq, .ref sx, .ref sy]))] sz) := by
  refine Met.ofW (cc := bb_Planner_total) (maxL := 2) (ret := (some .int)) (by decide) rfl ?_
  intro p e s m args below meth c s₁ B hml hv
  obtain ⟨rfl, hsz, hP, hK, hD0⟩ := hv
  have hx := B.exec
  have hb := B.bytes
  have hr := B.returns
  have hts := atoms_spec (ws := ww_Planner_total) B.pre
  have hown : s.vm.findClass RR_Planner = some m.cls := findClass_of_methodNamed B.named
  have hlocks := B.notSynchronized
  subst hsz
  have hD := hD0.self (sz := s.heap.size)
  generalize hAe : va_A [(pl, .inr (6, [.ref a, .ref mi, .ref sr, .ref tr, .ref pf, .ref xb, .ref tl, .int so, .int sl])), (sr, .inr (2, [.int fo, .ref sb, .int dv, .int cs, .int lz, .ref sq, .ref sx, .ref sy]))] s.heap.size = A at hD ⊢
  have hA : ∀ q : Nat, s.heap.size ≤ q → A q := fun q h => by rw [← hAe]; exact Or.inr h
  have hS : va_S A s.heap s.heap [] := va_S.rf
  have hP : va_P D kc_all [(pl, .inr (6, [.ref a, .ref mi, .ref sr, .ref tr, .ref pf, .ref xb, .ref tl, .int so, .int sl])), (sr, .inr (2, [.int fo, .ref sb, .int dv, .int cs, .int lz, .ref sq, .ref sx, .ref sy]))] s.heap := hP
  have hl := lv_entry ([.ref pl, .int wv]) (n := 2) (Nat.le_of_ble_eq_true rfl)
  rw [lg_entry_eq]
  generalize (lg_sl ([.ref pl, .int wv]) ++ List.replicate (2 - (lg_sl ([.ref pl, .int wv])).length) Slot.unset).toArray = ls at hl ⊢
  have hl : lv_has ls 2 [(0, .ref pl), (1, .int wv)] := hl
  have htb : ∀ w ∈ tb_all, w.before ([.ref pl, .int wv]).toArray s = true := fun w h => hts w (List.mem_cons_of_mem _ h)
  have hf_26 := htb _ fl_Planner_26
  have hf_149 := htb _ fl_Planner_149
  have hf_152 := htb _ fl_Planner_152
  refine lv_iload_n hx hb dd_Planner_total_0 rfl (lv_at hl 1 rfl) ?_
  refine mm_v (wc := []) (wr := [(pl, .inr (6, [.ref a, .ref mi, .ref sr, .ref tr, .ref pf, .ref xb, .ref tl, .int so, .int sl])), (sr, .inr (2, [.int fo, .ref sb, .int dv, .int cs, .int lz, .ref sq, .ref sx, .ref sy]))]) (va_runS (As := [.int wv]) (rest := []) ⟨hx, hb, hml, hown, hts⟩ (cc_Planner_checkWhich l D cI cZ cL cQ _ wv (hw)) (mm_cwS 1 hts ml_Planner_143 sm_Planner_checkWhich ic_Planner cd_Planner_checkWhich rfl rfl (by decide +kernel) ⟨Nat.le_of_ble_eq_true rfl, Nat.le_of_ble_eq_true rfl⟩) (mm_preS hK hP hD [] (by decide) rfl) rfl rfl hl.1 rfl (lv_room (Nat.le_of_ble_eq_true rfl)) dd_Planner_total_1 ⟨Nat.zero_le _, Nat.zero_le _⟩) hP hD hS hA [] [0, 1] rfl rfl (by decide) (by decide) (fun zu2 H locs p1 hP hD hS => ?_)
  have hP : va_P D kc_all [(pl, .inr (6, [.ref a, .ref mi, .ref sr, .ref tr, .ref pf, .ref xb, .ref tl, .int so, .int sl])), (sr, .inr (2, [.int fo, .ref sb, .int dv, .int cs, .int lz, .ref sq, .ref sx, .ref sy]))] H := hP
  have hD : va_D A [(pl, .inr (6, [.ref a, .ref mi, .ref sr, .ref tr, .ref pf, .ref xb, .ref tl, .int so, .int sl])), (sr, .inr (2, [.int fo, .ref sb, .int dv, .int cs, .int lz, .ref sq, .ref sx, .ref sy]))] := hD
  have p1 : True := p1
  refine lv_aload_n hx hb dd_Planner_total_4 rfl (lv_at hl 0 rfl) ?_
  refine mm_v (wc := [(pl, .inr (6, [.ref a, .ref mi, .ref sr, .ref tr, .ref pf, .ref xb, .ref tl, .int so, .int sl])), (sr, .inr (2, [.int fo, .ref sb, .int dv, .int cs, .int lz, .ref sq, .ref sx, .ref sy]))]) (wr := []) (va_runV (As := []) (rest := []) (C := RR_Planner) ⟨hx, hb, hml, hown, hts⟩ (cc_Planner_checkPlan l D cI cZ cL cQ _ pl tl a mi sr tr pf xb so sl sb sq sx sy fo dv cs lz (hok)) (mm_cwV 0 hts ml_Planner_146 im_Planner_checkPlan se_Planner_checkPlan ic_Planner cd_Planner_checkPlan rfl rfl (by decide +kernel) ⟨Nat.le_of_ble_eq_true rfl, Nat.le_of_ble_eq_true rfl⟩) (mm_preV hK hP hD [0, 1] (by decide) rfl 0 rfl rfl) rfl rfl hl.1 rfl (lv_room (Nat.le_of_ble_eq_true rfl)) dd_Planner_total_5 ⟨Nat.zero_le _, Nat.zero_le _⟩) hP hD hS hA [0, 1] [] rfl rfl (by decide) (by decide) (fun zu4 H locs p5 hP hD hS => ?_)
  have hP : va_P D kc_all [(pl, .inr (6, [.ref a, .ref mi, .ref sr, .ref tr, .ref pf, .ref xb, .ref tl, .int so, .int sl])), (sr, .inr (2, [.int fo, .ref sb, .int dv, .int cs, .int lz, .ref sq, .ref sx, .ref sy]))] H := hP
  have hD : va_D A [(pl, .inr (6, [.ref a, .ref mi, .ref sr, .ref tr, .ref pf, .ref xb, .ref tl, .int so, .int sl])), (sr, .inr (2, [.int fo, .ref sb, .int dv, .int cs, .int lz, .ref sq, .ref sx, .ref sy]))] := hD
  have p5 : True := p5
  refine lv_aload_n hx hb dd_Planner_total_8 rfl (lv_at hl 0 rfl) ?_
  refine va_get (D := D) (ci := 6) (v := .ref sr) (C := RR_Planner) (T := FF_Planner) (N := 9) hx hb htb hi_Planner hown hK hP 0 rfl rfl 2 (by decide) hf_26 (fun _ h9 => h9) rfl dd_Planner_total_9 ?_
  refine va_get (D := D) (ci := 2) (v := .int cs) (C := RR_Search) (T := FF_Search) (N := 8) hx hb htb hi_Search hown hK hP 1 rfl rfl 3 (by decide) hf_149 (fun _ h9 => h9) rfl dd_Planner_total_12 ?_
  refine lv_aload_n hx hb dd_Planner_total_15 rfl (lv_at hl 0 rfl) ?_
  refine va_get (D := D) (ci := 6) (v := .ref sr) (C := RR_Planner) (T := FF_Planner) (N := 9) hx hb htb hi_Planner hown hK hP 0 rfl rfl 2 (by decide) hf_26 (fun _ h9 => h9) rfl dd_Planner_total_16 ?_
  refine va_get (D := D) (ci := 2) (v := .int dv) (C := RR_Search) (T := FF_Search) (N := 8) hx hb htb hi_Search hown hK hP 1 rfl rfl 2 (by decide) hf_152 (fun _ h9 => h9) rfl dd_Planner_total_19 ?_
  refine lv_iload_n hx hb dd_Planner_total_22 rfl (lv_at hl 1 rfl) ?_
  refine mm_i (wc := []) (wr := [(pl, .inr (6, [.ref a, .ref mi, .ref sr, .ref tr, .ref pf, .ref xb, .ref tl, .int so, .int sl])), (sr, .inr (2, [.int fo, .ref sb, .int dv, .int cs, .int lz, .ref sq, .ref sx, .ref sy]))]) (va_runS (As := [.int cs, .int dv, .int wv]) (rest := []) ⟨hx, hb, hml, hown, hts⟩ (cc_Planner_part l D cI cZ cL cQ _ cs dv wv ) (mm_cwS 3 hts ml_Planner_155 sm_Planner_part ic_Planner cd_Planner_part rfl rfl (by decide +kernel) ⟨Nat.le_of_ble_eq_true rfl, Nat.le_of_ble_eq_true rfl⟩) (mm_preS hK hP hD [] (by decide) rfl) rfl rfl hl.1 rfl (lv_room (Nat.le_of_ble_eq_true rfl)) dd_Planner_total_23 ⟨Nat.zero_le _, Nat.zero_le _⟩) hP hD hS hA [] [0, 1] rfl rfl (by decide) (by decide) (fun zr5 zu6 H locs p23 hP hD hS => ?_)
  have hP : va_P D kc_all [(pl, .inr (6, [.ref a, .ref mi, .ref sr, .ref tr, .ref pf, .ref xb, .ref tl, .int so, .int sl])), (sr, .inr (2, [.int fo, .ref sb, .int dv, .int cs, .int lz, .ref sq, .ref sx, .ref sy]))] H := hP
  have hD : va_D A [(pl, .inr (6, [.ref a, .ref mi, .ref sr, .ref tr, .ref pf, .ref xb, .ref tl, .int so, .int sl])), (sr, .inr (2, [.int fo, .ref sb, .int dv, .int cs, .int lz, .ref sq, .ref sx, .ref sy]))] := hD
  have p23 : zr5 = pt_f cs dv wv := p23
  exact W.iret (v := zr5) hx hb hr (fun t ht hW => ⟨⟨zr5, (), rfl, p23, by rw [ht]; exact hP, va_K.moved hW.alike hK, hD⟩, hS.F ht⟩) hS.2.2 dd_Planner_total_26
set_option maxHeartbeats 4000000 in
set_option maxRecDepth 100000 in
theorem cc_Planner_totalX (l : Launch) (hnt : l.stackTraces = false) (D : va_G) (cI cZ cL cQ : ClassId) (sz : Nat) (pl : Nat) (tl : Nat) (a : Nat) (mi : Nat) (sr : Nat) (tr : Nat) (pf : Nat) (xb : Nat) (so : Int32) (sl : Int32) (sb : Nat) (sq : Nat) (sx : Nat) (sy : Nat) (fo : Int32) (dv : Int32) (cs : Int32) (lz : Int32) (wv : Int32) (hno : ¬ (wv = 0 ∨ wv = 1)) : mx_Met l yy_Planner_total ww_Planner_total ({ frames := 7, cells := 1, slots := 6, locals := 102 } : Room) (mx_Pc D kc_all [(cI, .int), (cZ, .boolean), (cL, .long), (cQ, .array .int)] sz [(pl, .inr (6, [.ref a, .ref mi, .ref sr, .ref tr, .ref pf, .ref xb, .ref tl, .int so, .int sl])), (sr, .inr (2, [.int fo, .ref sb, .int dv, .int cs, .int lz, .ref sq, .ref sx, .ref sy]))] [.ref pl, .int wv]) (mx_Xq (fun E9 => E9 = "java/lang/IllegalArgumentException")) 1 6 (mx_A sz) := by
  refine mx_ofW (cc := bb_Planner_total) (maxL := 2) (ret := (some .int)) (by decide) rfl ?_
  intro p e s m args below meth c s₁ B hml hex hv
  obtain ⟨rfl, hsz, hP, hK, hD, hTr⟩ := hv
  have hx := B.exec
  have hb := B.bytes
  have hr := B.returns
  have hts := atoms_spec (ws := ww_Planner_total) B.pre
  have hown : s.vm.findClass RR_Planner = some m.cls := findClass_of_methodNamed B.named
  have hlocks := B.notSynchronized
  subst hsz
  have hS0 : va_S (mx_A s.heap.size) s.heap s.heap [] := va_S.rf
  have hP : va_P D kc_all [(pl, .inr (6, [.ref a, .ref mi, .ref sr, .ref tr, .ref pf, .ref xb, .ref tl, .int so, .int sl])), (sr, .inr (2, [.int fo, .ref sb, .int dv, .int cs, .int lz, .ref sq, .ref sx, .ref sy]))] s.heap := hP
  have hl := lv_entry ([.ref pl, .int wv]) (n := 2) (Nat.le_of_ble_eq_true rfl)
  rw [lg_entry_eq]
  generalize (lg_sl ([.ref pl, .int wv]) ++ List.replicate (2 - (lg_sl ([.ref pl, .int wv])).length) Slot.unset).toArray = ls at hl ⊢
  have hl : lv_has ls 2 [(0, .ref pl), (1, .int wv)] := hl
  have htb : ∀ w ∈ tb_all, w.before ([.ref pl, .int wv]).toArray s = true := fun w h => hts w (List.mem_cons_of_mem _ h)
  have hf_26 := htb _ fl_Planner_26
  have hf_149 := htb _ fl_Planner_149
  have hf_152 := htb _ fl_Planner_152
  refine lv_iload_n hx hb dd_Planner_total_0 rfl (lv_at hl 1 rfl) ?_
  exact mx_pass (mx_runS (As := [.int wv]) (rest := []) ⟨hx, hb, hml, hown, hts⟩ (cc_Planner_checkWhichX l hnt D cI cZ cL cQ _ wv (hno)) (mm_cwS 1 hts ml_Planner_143 sm_Planner_checkWhich ic_Planner cd_Planner_checkWhich rfl rfl (by decide +kernel) ⟨Nat.le_of_ble_eq_true rfl, Nat.le_of_ble_eq_true rfl⟩) (mx_preS hTr hS0 hK hP hD [] (by decide) rfl) rfl rfl hl.1 rfl (lv_room (Nat.le_of_ble_eq_true rfl)) dd_Planner_total_1 ⟨Nat.le_of_ble_eq_true rfl, Nat.le_of_ble_eq_true rfl⟩) hS0 (fun _ h => h) hex hlocks (fun _ h => h)
set_option maxHeartbeats 4000000 in
set_option maxRecDepth 100000 in
theorem cc_Planner_totalY (l : Launch) (hnt : l.stackTraces = false) (D : va_G) (cI cZ cL cQ : ClassId) (sz : Nat) (pl : Nat) (tl : Nat) (a : Nat) (mi : Nat) (sr : Nat) (tr : Nat) (pf : Nat) (xb : Nat) (so : Int32) (sl : Int32) (sb : Nat) (sq : Nat) (sx : Nat) (sy : Nat) (fo : Int32) (dv : Int32) (cs : Int32) (lz : Int32) (wv : Int32) (hw : wv = 0 ∨ wv = 1) (hno : ¬ (¬ so = 0 ∧ ¬ fo = 0)) : mx_Met l yy_Planner_total ww_Planner_total ({ frames := 7, cells := 1, slots := 6, locals := 102 } : Room) (mx_Pc D kc_all [(cI, .int), (cZ, .boolean), (cL, .long), (cQ, .array .int)] sz [(pl, .inr (6, [.ref a, .ref mi, .ref sr, .ref tr, .ref pf, .ref xb, .ref tl, .int so, .int sl])), (sr, .inr (2, [.int fo, .ref sb, .int dv, .int cs, .int lz, .ref sq, .ref sx, .ref sy]))] [.ref pl, .int wv]) (mx_Xq (fun E9 => E9 = "java/lang/IllegalStateException")) 1 6 (mx_A sz) := by
  refine mx_ofW (cc := bb_Planner_total) (maxL := 2) (ret := (some .int)) (by decide) rfl ?_
  intro p e s m args below meth c s₁ B hml hex hv
  obtain ⟨rfl, hsz, hP, hK, hD, hTr⟩ := hv
  have hx := B.exec
  have hb := B.bytes
  have hr := B.returns
  have hts := atoms_spec (ws := ww_Planner_total) B.pre
  have hown : s.vm.findClass RR_Planner = some m.cls := findClass_of_methodNamed B.named
  have hlocks := B.notSynchronized
  subst hsz
  have hS0 : va_S (mx_A s.heap.size) s.heap s.heap [] := va_S.rf
  have hP : va_P D kc_all [(pl, .inr (6, [.ref a, .ref mi, .ref sr, .ref tr, .ref pf, .ref xb, .ref tl, .int so, .int sl])), (sr, .inr (2, [.int fo, .ref sb, .int dv, .int cs, .int lz, .ref sq, .ref sx, .ref sy]))] s.heap := hP
  have hl := lv_entry ([.ref pl, .int wv]) (n := 2) (Nat.le_of_ble_eq_true rfl)
  rw [lg_entry_eq]
  generalize (lg_sl ([.ref pl, .int wv]) ++ List.replicate (2 - (lg_sl ([.ref pl, .int wv])).length) Slot.unset).toArray = ls at hl ⊢
  have hl : lv_has ls 2 [(0, .ref pl), (1, .int wv)] := hl
  have htb : ∀ w ∈ tb_all, w.before ([.ref pl, .int wv]).toArray s = true := fun w h => hts w (List.mem_cons_of_mem _ h)
  have hf_26 := htb _ fl_Planner_26
  have hf_149 := htb _ fl_Planner_149
  have hf_152 := htb _ fl_Planner_152
  refine lv_iload_n hx hb dd_Planner_total_0 rfl (lv_at hl 1 rfl) ?_
  refine mx_pv (va_runS (As := [.int wv]) (rest := []) ⟨hx, hb, hml, hown, hts⟩ (cc_Planner_checkWhich l D cI cZ cL cQ _ wv (hw)) (mm_cwS 1 hts ml_Planner_143 sm_Planner_checkWhich ic_Planner cd_Planner_checkWhich rfl rfl (by decide +kernel) ⟨Nat.le_of_ble_eq_true rfl, Nat.le_of_ble_eq_true rfl⟩) (mm_preS hK hP hD [] (by decide) rfl) rfl rfl hl.1 rfl (lv_room (Nat.le_of_ble_eq_true rfl)) dd_Planner_total_1 ⟨Nat.zero_le _, Nat.zero_le _⟩) (fun _ h => mx_A0 h) hP hS0 (fun zu2 H locs p1 hP hS0 => ?_)
  have p1 : True := p1
  refine lv_aload_n hx hb dd_Planner_total_4 rfl (lv_at hl 0 rfl) ?_
  exact mx_pass (mx_runV (As := []) (rest := []) (C := RR_Planner) ⟨hx, hb, hml, hown, hts⟩ (cc_Planner_checkPlanX l hnt D cI cZ cL cQ _ pl tl a mi sr tr pf xb so sl sb sq sx sy fo dv cs lz (hno)) (mm_cwV 0 hts ml_Planner_146 im_Planner_checkPlan se_Planner_checkPlan ic_Planner cd_Planner_checkPlan rfl rfl (by decide +kernel) ⟨Nat.le_of_ble_eq_true rfl, Nat.le_of_ble_eq_true rfl⟩) (mx_preV hTr hS0 hK hP hD [0, 1] (by decide) rfl 0 rfl rfl) rfl rfl hl.1 rfl (lv_room (Nat.le_of_ble_eq_true rfl)) dd_Planner_total_5 ⟨Nat.le_of_ble_eq_true rfl, Nat.le_of_ble_eq_true rfl⟩) hS0 (fun _ h => h) hex hlocks (fun _ h => h)
abbrev qq_Planner_plan (D : va_G) (cI cZ cL cQ : ClassId) (pl : Nat) (tl : Nat) (a : Nat) (mi : Nat) (sr : Nat) (tr : Nat) (pf : Nat) (xb : Nat) (so : Int32) (sl : Int32) (al : Nat) (am : Nat) (aw : Nat) (ac : Nat) (ag : Nat) (ab : Nat) (n : Nat) (k : Nat) (sb : Nat) (sq : Nat) (sx : Nat) (sy : Nat) (fo : Int32) (dv : Int32) (cs : Int32) (lz : Int32) (j : Nat) (wv : Int32) (best : Nat → Int32) (A : Nat → Prop) : Array Value → State → Outcome → State → Prop := va_Qi (fun (r : Int32) (u : Unit) => r = pt_f (best j) dv wv) (fun (u : Unit) t => mm_B D kc_all [(cI, .int), (cZ, .boolean), (cL, .long), (cQ, .array .int)] A [(pl, .inr (6, [.ref a, .ref mi, .ref sr, .ref tr, .ref pf, .ref xb, .ref tl, .int so, .int sl])), (a, .inr (0, [.int (nI n), .int (nI k), .ref al, .ref am, .ref aw, .ref ac, .ref ag, .ref ab])), (sr, .inr (2, [.int fo, .ref sb, .int dv, .int cs, .int lz, .ref sq, .ref sx, .ref sy])), (sb, .inl (cI, 4, .inl best))] t) A
set_option maxHeartbeats 4000000 in
set_option maxRecDepth 100000 in
theorem cc_Planner_plan (l : Launch) (D : va_G) (cI cZ cL cQ : ClassId) (sz : Nat) (pl : Nat) (tl : Nat) (a : Nat) (mi : Nat) (sr : Nat) (tr : Nat) (pf : Nat) (xb : Nat) (so : Int32) (sl : Int32) (al : Nat) (am : Nat) (aw : Nat) (ac : Nat) (ag : Nat) (ab : Nat) (n : Nat) (k : Nat) (sb : Nat) (sq : Nat) (sx : Nat) (sy : Nat) (fo : Int32) (dv : Int32) (cs : Int32) (lz : Int32) (j : Nat) (wv : Int32) (best : Nat → Int32) (hn : 1 ≤ n ∧ n ≤ 4) (hj : j < n) (hw : wv = 0 ∨ wv = 1) (hok : ¬ so = 0 ∧ ¬ fo = 0) : Met l yy_Planner_plan ww_Planner_plan ({ frames := 7, cells := 0, slots := 0, locals := 103 } : Room) (mm_Pc D kc_all [(cI, .int), (cZ, .boolean), (cL, .long), (cQ, .array .int)] sz [(pl, .inr (6, [.ref a, .ref mi, .ref sr, .ref tr, .ref pf, .ref xb, .ref tl, .int so, .int sl])), (a, .inr (0, [.int (nI n), .int (nI k), .ref al, .ref am, .ref aw, .ref ac, .ref ag, .ref ab])), (sr, .inr (2, [.int fo, .ref sb, .int dv, .int cs, .int lz, .ref sq, .ref sx, .ref sy])), (sb, .inl (cI, 4, .inl best))] [.ref pl, .int (nI j), .int wv]) (qq_Planner_plan D cI cZ cL cQ pl tl a mi sr tr pf xb so sl al am aw ac ag ab n k sb sq sx sy fo dv cs lz j wv best (va_A [(pl, .inr (6, [.ref a, .ref mi, .ref sr, .ref tr, .ref pf, .ref xb, .ref tl, .int so, .int sl])), (a, .inr (0, [.int (nI n), .int (nI k), .ref al, .ref am, .ref aw, .ref ac, .ref ag, .ref ab])), (sr, .inr (2, [.int fo, .ref sb, .int dv, .int cs, .int lz, .ref sq, .ref sx, .ref sy])), (sb, .inl (cI, 4, .inl best))] sz)) 0 0 (va_A [(pl, .inr (6, [.ref a, .ref mi, .ref sr, .ref tr, .ref pf, .ref xb, .ref tl, .int so, .int sl])), (a, .inr (0, [.int (nI n), .int (nI k), .ref al, .ref am, .ref aw, .ref ac, .ref ag, .ref ab])), (sr, .inr (2, [.int fo, .ref sb, .int dv, .int cs, .int lz, .ref sq, .ref sx, .ref sy])), (sb, .inl (cI, 4, .inl best))] sz) := by
  refine Met.ofW (cc := bb_Planner_plan) (maxL := 3) (ret := (some .int)) (by decide) rfl ?_
  intro p e s m args below meth c s₁ B hml hv
  obtain ⟨rfl, hsz, hP, hK, hD0⟩ := hv
  have hx := B.exec
  have hb := B.bytes
  have hr := B.returns
  have hts := atoms_spec (ws := ww_Planner_plan) B.pre
  have hown : s.vm.findClass RR_Planner = some m.cls := findClass_of_methodNamed B.named
  have hlocks := B.notSynchronized
  subst hsz
  have hD := hD0.self (sz := s.heap.size)
  generalize hAe : va_A [(pl, .inr (6, [.ref a, .ref mi, .ref sr, .ref tr, .ref pf, .ref xb, .ref tl, .int so, .int sl])), (a, .inr (0, [.int (nI n), .int (nI k), .ref al, .ref am, .ref aw, .ref ac, .ref ag, .ref ab])), (sr, .inr (2, [.int fo, .ref sb, .int dv, .int cs, .int lz, .ref sq, .ref sx, .ref sy])), (sb, .inl (cI, 4, .inl best))] s.heap.size = A at hD ⊢
  have hA : ∀ q : Nat, s.heap.size ≤ q → A q := fun q h => by rw [← hAe]; exact Or.inr h
  have hS : va_S A s.heap s.heap [] := va_S.rf
  have hP : va_P D kc_all [(pl, .inr (6, [.ref a, .ref mi, .ref sr, .ref tr, .ref pf, .ref xb, .ref tl, .int so, .int sl])), (a, .inr (0, [.int (nI n), .int (nI k), .ref al, .ref am, .ref aw, .ref ac, .ref ag, .ref ab])), (sr, .inr (2, [.int fo, .ref sb, .int dv, .int cs, .int lz, .ref sq, .ref sx, .ref sy])), (sb, .inl (cI, 4, .inl best))] s.heap := hP
  have hl := lv_entry ([.ref pl, .int (nI j), .int wv]) (n := 3) (Nat.le_of_ble_eq_true rfl)
  rw [lg_entry_eq]
  generalize (lg_sl ([.ref pl, .int (nI j), .int wv]) ++ List.replicate (3 - (lg_sl ([.ref pl, .int (nI j), .int wv])).length) Slot.unset).toArray = ls at hl ⊢
  have hl : lv_has ls 3 [(0, .ref pl), (1, .int (nI j)), (2, .int wv)] := hl
  have htb : ∀ w ∈ tb_all, w.before ([.ref pl, .int (nI j), .int wv]).toArray s = true := fun w h => hts w (List.mem_cons_of_mem _ h)
  have hf_26 := htb _ fl_Planner_26
  have hf_152 := htb _ fl_Planner_152
  have hf_159 := htb _ fl_Planner_159
  refine lv_aload_n hx hb dd_Planner_plan_0 rfl (lv_at hl 0 rfl) ?_
  refine lv_iload_n hx hb dd_Planner_plan_1 rfl (lv_at hl 1 rfl) ?_
  refine mm_v (wc := [(pl, .inr (6, [.ref a, .ref mi, .ref sr, .ref tr, .ref pf, .ref xb, .ref tl, .int so, .int sl])), (a, .inr (0, [.int (nI n), .int (nI k), .ref al, .ref am, .ref aw, .ref ac, .ref ag, .ref ab]))]) (wr := [(sr, .inr (2, [.int fo, .ref sb, .int dv, .int cs, .int lz, .ref sq, .ref sx, .ref sy])), (sb, .inl (cI, 4, .inl best))]) (va_runV (As := [.int (nI j)]) (rest := []) (C := RR_Planner) ⟨hx, hb, hml, hown, hts⟩ (cc_Planner_checkAmount l D cI cZ cL cQ _ pl tl a mi sr tr pf xb so sl al am aw ac ag ab n k j (by omega) (by omega)) (mm_cwV 1 hts ml_Planner_73 im_Planner_checkAmount se_Planner_checkAmount ic_Planner cd_Planner_checkAmount rfl rfl (by decide +kernel) ⟨Nat.le_of_ble_eq_true rfl, Nat.le_of_ble_eq_true rfl⟩) (mm_preV hK hP hD [0, 1] (by decide) rfl 0 rfl rfl) rfl rfl hl.1 rfl (lv_room (Nat.le_of_ble_eq_true rfl)) dd_Planner_plan_2 ⟨Nat.zero_le _, Nat.zero_le _⟩) hP hD hS hA [0, 1] [2, 3] rfl rfl (by decide) (by decide) (fun zu2 H locs p2 hP hD hS => ?_)
  have hP : va_P D kc_all [(sr, .inr (2, [.int fo, .ref sb, .int dv, .int cs, .int lz, .ref sq, .ref sx, .ref sy])), (sb, .inl (cI, 4, .inl best)), (pl, .inr (6, [.ref a, .ref mi, .ref sr, .ref tr, .ref pf, .ref xb, .ref tl, .int so, .int sl])), (a, .inr (0, [.int (nI n), .int (nI k), .ref al, .ref am, .ref aw, .ref ac, .ref ag, .ref ab]))] H := hP
  have hD : va_D A [(sr, .inr (2, [.int fo, .ref sb, .int dv, .int cs, .int lz, .ref sq, .ref sx, .ref sy])), (sb, .inl (cI, 4, .inl best)), (pl, .inr (6, [.ref a, .ref mi, .ref sr, .ref tr, .ref pf, .ref xb, .ref tl, .int so, .int sl])), (a, .inr (0, [.int (nI n), .int (nI k), .ref al, .ref am, .ref aw, .ref ac, .ref ag, .ref ab]))] := hD
  have hP : va_P D kc_all [(pl, .inr (6, [.ref a, .ref mi, .ref sr, .ref tr, .ref pf, .ref xb, .ref tl, .int so, .int sl])), (a, .inr (0, [.int (nI n), .int (nI k), .ref al, .ref am, .ref aw, .ref ac, .ref ag, .ref ab])), (sr, .inr (2, [.int fo, .ref sb, .int dv, .int cs, .int lz, .ref sq, .ref sx, .ref sy])), (sb, .inl (cI, 4, .inl best))] H := hP.sub [2, 3, 0, 1] rfl
  have hD : va_D A [(pl, .inr (6, [.ref a, .ref mi, .ref sr, .ref tr, .ref pf, .ref xb, .ref tl, .int so, .int sl])), (a, .inr (0, [.int (nI n), .int (nI k), .ref al, .ref am, .ref aw, .ref ac, .ref ag, .ref ab])), (sr, .inr (2, [.int fo, .ref sb, .int dv, .int cs, .int lz, .ref sq, .ref sx, .ref sy])), (sb, .inl (cI, 4, .inl best))] := hD.sub [2, 3, 0, 1] (by decide) rfl
  have p2 : True := p2
  refine lv_iload_n hx hb dd_Planner_plan_5 rfl (lv_at hl 2 rfl) ?_
  refine mm_v (wc := []) (wr := [(pl, .inr (6, [.ref a, .ref mi, .ref sr, .ref tr, .ref pf, .ref xb, .ref tl, .int so, .int sl])), (a, .inr (0, [.int (nI n), .int (nI k), .ref al, .ref am, .ref aw, .ref ac, .ref ag, .ref ab])), (sr, .inr (2, [.int fo, .ref sb, .int dv, .int cs, .int lz, .ref sq, .ref sx, .ref sy])), (sb, .inl (cI, 4, .inl best))]) (va_runS (As := [.int wv]) (rest := []) ⟨hx, hb, hml, hown, hts⟩ (cc_Planner_checkWhich l D cI cZ cL cQ _ wv (hw)) (mm_cwS 1 hts ml_Planner_143 sm_Planner_checkWhich ic_Planner cd_Planner_checkWhich rfl rfl (by decide +kernel) ⟨Nat.le_of_ble_eq_true rfl, Nat.le_of_ble_eq_true rfl⟩) (mm_preS hK hP hD [] (by decide) rfl) rfl rfl hl.1 rfl (lv_room (Nat.le_of_ble_eq_true rfl)) dd_Planner_plan_6 ⟨Nat.zero_le _, Nat.zero_le _⟩) hP hD hS hA [] [0, 1, 2, 3] rfl rfl (by decide) (by decide) (fun zu4 H locs p6 hP hD hS => ?_)
  have hP : va_P D kc_all [(pl, .inr (6, [.ref a, .ref mi, .ref sr, .ref tr, .ref pf, .ref xb, .ref tl, .int so, .int sl])), (a, .inr (0, [.int (nI n), .int (nI k), .ref al, .ref am, .ref aw, .ref ac, .ref ag, .ref ab])), (sr, .inr (2, [.int fo, .ref sb, .int dv, .int cs, .int lz, .ref sq, .ref sx, .ref sy])), (sb, .inl (cI, 4, .inl best))] H := hP
  have hD : va_D A [(pl, .inr (6, [.ref a, .ref mi, .ref sr, .ref tr, .ref pf, .ref xb, .ref tl, .int so, .int sl])), (a, .inr (0, [.int (nI n), .int (nI k), .ref al, .ref am, .ref aw, .ref ac, .ref ag, .ref ab])), (sr, .inr (2, [.int fo, .ref sb, .int dv, .int cs, .int lz, .ref sq, .ref sx, .ref sy])), (sb, .inl (cI, 4, .inl best))] := hD
  have p6 : True := p6
  refine lv_aload_n hx hb dd_Planner_plan_9 rfl (lv_at hl 0 rfl) ?_
  refine mm_v (wc := [(pl, .inr (6, [.ref a, .ref mi, .ref sr, .ref tr, .ref pf, .ref xb, .ref tl, .int so, .int sl])), (sr, .inr (2, [.int fo, .ref sb, .int dv, .int cs, .int lz, .ref sq, .ref sx, .ref sy]))]) (wr := [(a, .inr (0, [.int (nI n), .int (nI k), .ref al, .ref am, .ref aw, .ref ac, .ref ag, .ref ab])), (sb, .inl (cI, 4, .inl best))]) (va_runV (As := []) (rest := []) (C := RR_Planner) ⟨hx, hb, hml, hown, hts⟩ (cc_Planner_checkPlan l D cI cZ cL cQ _ pl tl a mi sr tr pf xb so sl sb sq sx sy fo dv cs lz (hok)) (mm_cwV 0 hts ml_Planner_146 im_Planner_checkPlan se_Planner_checkPlan ic_Planner cd_Planner_checkPlan rfl rfl (by decide +kernel) ⟨Nat.le_of_ble_eq_true rfl, Nat.le_of_ble_eq_true rfl⟩) (mm_preV hK hP hD [0, 2] (by decide) rfl 0 rfl rfl) rfl rfl hl.1 rfl (lv_room (Nat.le_of_ble_eq_true rfl)) dd_Planner_plan_10 ⟨Nat.zero_le _, Nat.zero_le _⟩) hP hD hS hA [0, 2] [1, 3] rfl rfl (by decide) (by decide) (fun zu6 H locs p10 hP hD hS => ?_)
  have hP : va_P D kc_all [(a, .inr (0, [.int (nI n), .int (nI k), .ref al, .ref am, .ref aw, .ref ac, .ref ag, .ref ab])), (sb, .inl (cI, 4, .inl best)), (pl, .inr (6, [.ref a, .ref mi, .ref sr, .ref tr, .ref pf, .ref xb, .ref tl, .int so, .int sl])), (sr, .inr (2, [.int fo, .ref sb, .int dv, .int cs, .int lz, .ref sq, .ref sx, .ref sy]))] H := hP
  have hD : va_D A [(a, .inr (0, [.int (nI n), .int (nI k), .ref al, .ref am, .ref aw, .ref ac, .ref ag, .ref ab])), (sb, .inl (cI, 4, .inl best)), (pl, .inr (6, [.ref a, .ref mi, .ref sr, .ref tr, .ref pf, .ref xb, .ref tl, .int so, .int sl])), (sr, .inr (2, [.int fo, .ref sb, .int dv, .int cs, .int lz, .ref sq, .ref sx, .ref sy]))] := hD
  have hP : va_P D kc_all [(pl, .inr (6, [.ref a, .ref mi, .ref sr, .ref tr, .ref pf, .ref xb, .ref tl, .int so, .int sl])), (a, .inr (0, [.int (nI n), .int (nI k), .ref al, .ref am, .ref aw, .ref ac, .ref ag, .ref ab])), (sr, .inr (2, [.int fo, .ref sb, .int dv, .int cs, .int lz, .ref sq, .ref sx, .ref sy])), (sb, .inl (cI, 4, .inl best))] H := hP.sub [2, 0, 3, 1] rfl
  have hD : va_D A [(pl, .inr (6, [.ref a, .ref mi, .ref sr, .ref tr, .ref pf, .ref xb, .ref tl, .int so, .int sl])), (a, .inr (0, [.int (nI n), .int (nI k), .ref al, .ref am, .ref aw, .ref ac, .ref ag, .ref ab])), (sr, .inr (2, [.int fo, .ref sb, .int dv, .int cs, .int lz, .ref sq, .ref sx, .ref sy])), (sb, .inl (cI, 4, .inl best))] := hD.sub [2, 0, 3, 1] (by decide) rfl
  have p10 : True := p10
  refine lv_aload_n hx hb dd_Planner_plan_13 rfl (lv_at hl 0 rfl) ?_
  refine va_get (D := D) (ci := 6) (v := .ref sr) (C := RR_Planner) (T := FF_Planner) (N := 9) hx hb htb hi_Planner hown hK hP 0 rfl rfl 2 (by decide) hf_26 (fun _ h9 => h9) rfl dd_Planner_plan_14 ?_
  refine va_get (D := D) (ci := 2) (v := .ref sb) (C := RR_Search) (T := FF_Search) (N := 8) hx hb htb hi_Search hown hK hP 2 rfl rfl 1 (by decide) hf_159 (fun _ h9 => h9) rfl dd_Planner_plan_17 ?_
  refine lv_iload_n hx hb dd_Planner_plan_20 rfl (lv_at hl 1 rfl) ?_
  refine mm_iald hx hb hK hP 3 0 rfl rfl (j) (rfl) (by omega) (by first | decide | omega) dd_Planner_plan_21 ?_
  refine lv_aload_n hx hb dd_Planner_plan_22 rfl (lv_at hl 0 rfl) ?_
  refine va_get (D := D) (ci := 6) (v := .ref sr) (C := RR_Planner) (T := FF_Planner) (N := 9) hx hb htb hi_Planner hown hK hP 0 rfl rfl 2 (by decide) hf_26 (fun _ h9 => h9) rfl dd_Planner_plan_23 ?_
  refine va_get (D := D) (ci := 2) (v := .int dv) (C := RR_Search) (T := FF_Search) (N := 8) hx hb htb hi_Search hown hK hP 2 rfl rfl 2 (by decide) hf_152 (fun _ h9 => h9) rfl dd_Planner_plan_26 ?_
  refine lv_iload_n hx hb dd_Planner_plan_29 rfl (lv_at hl 2 rfl) ?_
  refine mm_i (wc := []) (wr := [(pl, .inr (6, [.ref a, .ref mi, .ref sr, .ref tr, .ref pf, .ref xb, .ref tl, .int so, .int sl])), (a, .inr (0, [.int (nI n), .int (nI k), .ref al, .ref am, .ref aw, .ref ac, .ref ag, .ref ab])), (sr, .inr (2, [.int fo, .ref sb, .int dv, .int cs, .int lz, .ref sq, .ref sx, .ref sy])), (sb, .inl (cI, 4, .inl best))]) (va_runS (As := [.int (best j), .int dv, .int wv]) (rest := []) ⟨hx, hb, hml, hown, hts⟩ (cc_Planner_part l D cI cZ cL cQ _ (best j) dv wv ) (mm_cwS 3 hts ml_Planner_155 sm_Planner_part ic_Planner cd_Planner_part rfl rfl (by decide +kernel) ⟨Nat.le_of_ble_eq_true rfl, Nat.le_of_ble_eq_true rfl⟩) (mm_preS hK hP hD [] (by decide) rfl) rfl rfl hl.1 rfl (lv_room (Nat.le_of_ble_eq_true rfl)) dd_Planner_plan_30 ⟨Nat.zero_le _, Nat.zero_le _⟩) hP hD hS hA [] [0, 1, 2, 3] rfl rfl (by decide) (by decide) (fun zr7 zu8 H locs p30 hP hD hS => ?_)
  have hP : va_P D kc_all [(pl, .inr (6, [.ref a, .ref mi, .ref sr, .ref tr, .ref pf, .ref xb, .ref tl, .int so, .int sl])), (a, .inr (0, [.int (nI n), .int (nI k), .ref al, .ref am, .ref aw, .ref ac, .ref ag, .ref ab])), (sr, .inr (2, [.int fo, .ref sb, .int dv, .int cs, .int lz, .ref sq, .ref sx, .ref sy])), (sb, .inl (cI, 4, .inl best))] H := hP
  have hD : va_D A [(pl, .inr (6, [.ref a, .ref mi, .ref sr, .ref tr, .ref pf, .ref xb, .ref tl, .int so, .int sl])), (a, .inr (0, [.int (nI n), .int (nI k), .ref al, .ref am, .ref aw, .ref ac, .ref ag, .ref ab])), (sr, .inr (2, [.int fo, .ref sb, .int dv, .int cs, .int lz, .ref sq, .ref sx, .ref sy])), (sb, .inl (cI, 4, .inl best))] := hD
  have p30 : zr7 = pt_f (best j) dv wv := p30
  exact W.iret (v := zr7) hx hb hr (fun t ht hW => ⟨⟨zr7, (), rfl, p30, by rw [ht]; exact hP, va_K.moved hW.alike hK, hD⟩, hS.F ht⟩) hS.2.2 dd_Planner_plan_33
set_option maxHeartbeats 4000000 in
set_option maxRecDepth 100000 in
theorem cc_Planner_planX (l : Launch) (hnt : l.stackTraces = false) (D : va_G) (cI cZ cL cQ : ClassId) (sz : Nat) (pl : Nat) (tl : Nat) (a : Nat) (mi : Nat) (sr : Nat) (tr : Nat) (pf : Nat) (xb : Nat) (so : Int32) (sl : Int32) (al : Nat) (am : Nat) (aw : Nat) (ac : Nat) (ag : Nat) (ab : Nat) (n : Nat) (k : Nat) (sb : Nat) (sq : Nat) (sx : Nat) (sy : Nat) (fo : Int32) (dv : Int32) (cs : Int32) (lz : Int32) (jv : Int32) (wv : Int32) (hno : ¬ (0 ≤ jv ∧ jv < nI n)) : mx_Met l yy_Planner_plan ww_Planner_plan ({ frames := 7, cells := 1, slots := 6, locals := 103 } : Room) (mx_Pc D kc_all [(cI, .int), (cZ, .boolean), (cL, .long), (cQ, .array .int)] sz [(pl, .inr (6, [.ref a, .ref mi, .ref sr, .ref tr, .ref pf, .ref xb, .ref tl, .int so, .int sl])), (a, .inr (0, [.int (nI n), .int (nI k), .ref al, .ref am, .ref aw, .ref ac, .ref ag, .ref ab])), (sr, .inr (2, [.int fo, .ref sb, .int dv, .int cs, .int lz, .ref sq, .ref sx, .ref sy]))] [.ref pl, .int jv, .int wv]) (mx_Xq (fun E9 => E9 = "java/lang/IndexOutOfBoundsException")) 1 6 (mx_A sz) := by
  refine mx_ofW (cc := bb_Planner_plan) (maxL := 3) (ret := (some .int)) (by decide) rfl ?_
  intro p e s m args below meth c s₁ B hml hex hv
  obtain ⟨rfl, hsz, hP, hK, hD, hTr⟩ := hv
  have hx := B.exec
  have hb := B.bytes
  have hr := B.returns
  have hts := atoms_spec (ws := ww_Planner_plan) B.pre
  have hown : s.vm.findClass RR_Planner = some m.cls := findClass_of_methodNamed B.named
  have hlocks := B.notSynchronized
  subst hsz
  have hS0 : va_S (mx_A s.heap.size) s.heap s.heap [] := va_S.rf
  have hP : va_P D kc_all [(pl, .inr (6, [.ref a, .ref mi, .ref sr, .ref tr, .ref pf, .ref xb, .ref tl, .int so, .int sl])), (a, .inr (0, [.int (nI n), .int (nI k), .ref al, .ref am, .ref aw, .ref ac, .ref ag, .ref ab])), (sr, .inr (2, [.int fo, .ref sb, .int dv, .int cs, .int lz, .ref sq, .ref sx, .ref sy]))] s.heap := hP
  have hl := lv_entry ([.ref pl, .int jv, .int wv]) (n := 3) (Nat.le_of_ble_eq_true rfl)
  rw [lg_entry_eq]
  generalize (lg_sl ([.ref pl, .int jv, .int wv]) ++ List.replicate (3 - (lg_sl ([.ref pl, .int jv, .int wv])).length) Slot.unset).toArray = ls at hl ⊢
  have hl : lv_has ls 3 [(0, .ref pl), (1, .int jv), (2, .int wv)] := hl
  have htb : ∀ w ∈ tb_all, w.before ([.ref pl, .int jv, .int wv]).toArray s = true := fun w h => hts w (List.mem_cons_of_mem _ h)
  have hf_26 := htb _ fl_Planner_26
  have hf_152 := htb _ fl_Planner_152
  have hf_159 := htb _ fl_Planner_159
  refine lv_aload_n hx hb dd_Planner_plan_0 rfl (lv_at hl 0 rfl) ?_
  refine lv_iload_n hx hb dd_Planner_plan_1 rfl (lv_at hl 1 rfl) ?_
  exact mx_pass (mx_runV (As := [.int jv]) (rest := []) (C := RR_Planner) ⟨hx, hb, hml, hown, hts⟩ (cc_Planner_checkAmountX l hnt D cI cZ cL cQ _ pl tl a mi sr tr pf xb so sl al am aw ac ag ab n k jv (hno)) (mm_cwV 1 hts ml_Planner_73 im_Planner_checkAmount se_Planner_checkAmount ic_Planner cd_Planner_checkAmount rfl rfl (by decide +kernel) ⟨Nat.le_of_ble_eq_true rfl, Nat.le_of_ble_eq_true rfl⟩) (mx_preV hTr hS0 hK hP hD [0, 1] (by decide) rfl 0 rfl rfl) rfl rfl hl.1 rfl (lv_room (Nat.le_of_ble_eq_true rfl)) dd_Planner_plan_2 ⟨Nat.le_of_ble_eq_true rfl, Nat.le_of_ble_eq_true rfl⟩) hS0 (fun _ h => h) hex hlocks (fun _ h => h)
set_option maxHeartbeats 4000000 in
set_option maxRecDepth 100000 in
theorem cc_Planner_planY (l : Launch) (hnt : l.stackTraces = false) (D : va_G) (cI cZ cL cQ : ClassId) (sz : Nat) (pl : Nat) (tl : Nat) (a : Nat) (mi : Nat) (sr : Nat) (tr : Nat) (pf : Nat) (xb : Nat) (so : Int32) (sl : Int32) (al : Nat) (am : Nat) (aw : Nat) (ac : Nat) (ag : Nat) (ab : Nat) (n : Nat) (k : Nat) (sb : Nat) (sq : Nat) (sx : Nat) (sy : Nat) (fo : Int32) (dv : Int32) (cs : Int32) (lz : Int32) (j : Nat) (wv : Int32) (hn : 1 ≤ n ∧ n ≤ 4) (hj : j < n) (hno : ¬ (wv = 0 ∨ wv = 1)) : mx_Met l yy_Planner_plan ww_Planner_plan ({ frames := 7, cells := 1, slots := 6, locals := 103 } : Room) (mx_Pc D kc_all [(cI, .int), (cZ, .boolean), (cL, .long), (cQ, .array .int)] sz [(pl, .inr (6, [.ref a, .ref mi, .ref sr, .ref tr, .ref pf, .ref xb, .ref tl, .int so, .int sl])), (a, .inr (0, [.int (nI n), .int (nI k), .ref al, .ref am, .ref aw, .ref ac, .ref ag, .ref ab])), (sr, .inr (2, [.int fo, .ref sb, .int dv, .int cs, .int lz, .ref sq, .ref sx, .ref sy]))] [.ref pl, .int (nI j), .int wv]) (mx_Xq (fun E9 => E9 = "java/lang/IllegalArgumentException")) 1 6 (mx_A sz) := by
  refine mx_ofW (cc := bb_Planner_plan) (maxL := 3) (ret := (some .int)) (by decide) rfl ?_
  intro p e s m args below meth c s₁ B hml hex hv
  obtain ⟨rfl, hsz, hP, hK, hD, hTr⟩ := hv
  have hx := B.exec
  have hb := B.bytes
  have hr := B.returns
  have hts := atoms_spec (ws := ww_Planner_plan) B.pre
  have hown : s.vm.findClass RR_Planner = some m.cls := findClass_of_methodNamed B.named
  have hlocks := B.notSynchronized
  subst hsz
  have hS0 : va_S (mx_A s.heap.size) s.heap s.heap [] := va_S.rf
  have hP : va_P D kc_all [(pl, .inr (6, [.ref a, .ref mi, .ref sr, .ref tr, .ref pf, .ref xb, .ref tl, .int so, .int sl])), (a, .inr (0, [.int (nI n), .int (nI k), .ref al, .ref am, .ref aw, .ref ac, .ref ag, .ref ab])), (sr, .inr (2, [.int fo, .ref sb, .int dv, .int cs, .int lz, .ref sq, .ref sx, .ref sy]))] s.heap := hP
  have hl := lv_entry ([.ref pl, .int (nI j), .int wv]) (n := 3) (Nat.le_of_ble_eq_true rfl)
  rw [lg_entry_eq]
  generalize (lg_sl ([.ref pl, .int (nI j), .int wv]) ++ List.replicate (3 - (lg_sl ([.ref pl, .int (nI j), .int wv])).length) Slot.unset).toArray = ls at hl ⊢
  have hl : lv_has ls 3 [(0, .ref pl), (1, .int (nI j)), (2, .int wv)] := hl
  have htb : ∀ w ∈ tb_all, w.before ([.ref pl, .int (nI j), .int wv]).toArray s = true := fun w h => hts w (List.mem_cons_of_mem _ h)
  have hf_26 := htb _ fl_Planner_26
  have hf_152 := htb _ fl_Planner_152
  have hf_159 := htb _ fl_Planner_159
  refine lv_aload_n hx hb dd_Planner_plan_0 rfl (lv_at hl 0 rfl) ?_
  refine lv_iload_n hx hb dd_Planner_plan_1 rfl (lv_at hl 1 rfl) ?_
  refine mx_pv (va_runV (As := [.int (nI j)]) (rest := []) (C := RR_Planner) ⟨hx, hb, hml, hown, hts⟩ (cc_Planner_checkAmountP l D cI cZ cL cQ _ pl tl a mi sr tr pf xb so sl al am aw ac ag ab n k j (by omega) (by omega)) (mm_cwV 1 hts ml_Planner_73 im_Planner_checkAmount se_Planner_checkAmount ic_Planner cd_Planner_checkAmount rfl rfl (by decide +kernel) ⟨Nat.le_of_ble_eq_true rfl, Nat.le_of_ble_eq_true rfl⟩) (mm_preV hK hP hD [0, 1] (by decide) rfl 0 rfl rfl) rfl rfl hl.1 rfl (lv_room (Nat.le_of_ble_eq_true rfl)) dd_Planner_plan_2 ⟨Nat.zero_le _, Nat.zero_le _⟩) (fun _ h => h) hP hS0 (fun zu2 H locs p2 hP hS0 => ?_)
  have p2 : True := p2
  refine lv_iload_n hx hb dd_Planner_plan_5 rfl (lv_at hl 2 rfl) ?_
  exact mx_pass (mx_runS (As := [.int wv]) (rest := []) ⟨hx, hb, hml, hown, hts⟩ (cc_Planner_checkWhichX l hnt D cI cZ cL cQ _ wv (hno)) (mm_cwS 1 hts ml_Planner_143 sm_Planner_checkWhich ic_Planner cd_Planner_checkWhich rfl rfl (by decide +kernel) ⟨Nat.le_of_ble_eq_true rfl, Nat.le_of_ble_eq_true rfl⟩) (mx_preS hTr hS0 hK hP hD [] (by decide) rfl) rfl rfl hl.1 rfl (lv_room (Nat.le_of_ble_eq_true rfl)) dd_Planner_plan_6 ⟨Nat.le_of_ble_eq_true rfl, Nat.le_of_ble_eq_true rfl⟩) hS0 (fun _ h => h) hex hlocks (fun _ h => h)
set_option maxHeartbeats 4000000 in
set_option maxRecDepth 100000 in
theorem cc_Planner_planZ (l : Launch) (hnt : l.stackTraces = false) (D : va_G) (cI cZ cL cQ : ClassId) (sz : Nat) (pl : Nat) (tl : Nat) (a : Nat) (mi : Nat) (sr : Nat) (tr : Nat) (pf : Nat) (xb : Nat) (so : Int32) (sl : Int32) (al : Nat) (am : Nat) (aw : Nat) (ac : Nat) (ag : Nat) (ab : Nat) (n : Nat) (k : Nat) (sb : Nat) (sq : Nat) (sx : Nat) (sy : Nat) (fo : Int32) (dv : Int32) (cs : Int32) (lz : Int32) (j : Nat) (wv : Int32) (hn : 1 ≤ n ∧ n ≤ 4) (hj : j < n) (hw : wv = 0 ∨ wv = 1) (hno : ¬ (¬ so = 0 ∧ ¬ fo = 0)) : mx_Met l yy_Planner_plan ww_Planner_plan ({ frames := 7, cells := 1, slots := 6, locals := 103 } : Room) (mx_Pc D kc_all [(cI, .int), (cZ, .boolean), (cL, .long), (cQ, .array .int)] sz [(pl, .inr (6, [.ref a, .ref mi, .ref sr, .ref tr, .ref pf, .ref xb, .ref tl, .int so, .int sl])), (a, .inr (0, [.int (nI n), .int (nI k), .ref al, .ref am, .ref aw, .ref ac, .ref ag, .ref ab])), (sr, .inr (2, [.int fo, .ref sb, .int dv, .int cs, .int lz, .ref sq, .ref sx, .ref sy]))] [.ref pl, .int (nI j), .int wv]) (mx_Xq (fun E9 => E9 = "java/lang/IllegalStateException")) 1 6 (mx_A sz) := by
  refine mx_ofW (cc := bb_Planner_plan) (maxL := 3) (ret := (some .int)) (by decide) rfl ?_
  intro p e s m args below meth c s₁ B hml hex hv
  obtain ⟨rfl, hsz, hP, hK, hD, hTr⟩ := hv
  have hx := B.exec
  have hb := B.bytes
  have hr := B.returns
  have hts := atoms_spec (ws := ww_Planner_plan) B.pre
  have hown : s.vm.findClass RR_Planner = some m.cls := findClass_of_methodNamed B.named
  have hlocks := B.notSynchronized
  subst hsz
  have hS0 : va_S (mx_A s.heap.size) s.heap s.heap [] := va_S.rf
  have hP : va_P D kc_all [(pl, .inr (6, [.ref a, .ref mi, .ref sr, .ref tr, .ref pf, .ref xb, .ref tl, .int so, .int sl])), (a, .inr (0, [.int (nI n), .int (nI k), .ref al, .ref am, .ref aw, .ref ac, .ref ag, .ref ab])), (sr, .inr (2, [.int fo, .ref sb, .int dv, .int cs, .int lz, .ref sq, .ref sx, .ref sy]))] s.heap := hP
  have hl := lv_entry ([.ref pl, .int (nI j), .int wv]) (n := 3) (Nat.le_of_ble_eq_true rfl)
  rw [lg_entry_eq]
  generalize (lg_sl ([.ref pl, .int (nI j), .int wv]) ++ List.replicate (3 - (lg_sl ([.ref pl, .int (nI j), .int wv])).length) Slot.unset).toArray = ls at hl ⊢
  have hl : lv_has ls 3 [(0, .ref pl), (1, .int (nI j)), (2, .int wv)] := hl
  have htb : ∀ w ∈ tb_all, w.before ([.ref pl, .int (nI j), .int wv]).toArray s = true := fun w h => hts w (List.mem_cons_of_mem _ h)
  have hf_26 := htb _ fl_Planner_26
  have hf_152 := htb _ fl_Planner_152
  have hf_159 := htb _ fl_Planner_159
  refine lv_aload_n hx hb dd_Planner_plan_0 rfl (lv_at hl 0 rfl) ?_
  refine lv_iload_n hx hb dd_Planner_plan_1 rfl (lv_at hl 1 rfl) ?_
  refine mx_pv (va_runV (As := [.int (nI j)]) (rest := []) (C := RR_Planner) ⟨hx, hb, hml, hown, hts⟩ (cc_Planner_checkAmountP l D cI cZ cL cQ _ pl tl a mi sr tr pf xb so sl al am aw ac ag ab n k j (by omega) (by omega)) (mm_cwV 1 hts ml_Planner_73 im_Planner_checkAmount se_Planner_checkAmount ic_Planner cd_Planner_checkAmount rfl rfl (by decide +kernel) ⟨Nat.le_of_ble_eq_true rfl, Nat.le_of_ble_eq_true rfl⟩) (mm_preV hK hP hD [0, 1] (by decide) rfl 0 rfl rfl) rfl rfl hl.1 rfl (lv_room (Nat.le_of_ble_eq_true rfl)) dd_Planner_plan_2 ⟨Nat.zero_le _, Nat.zero_le _⟩) (fun _ h => h) hP hS0 (fun zu2 H locs p2 hP hS0 => ?_)
  have p2 : True := p2
  refine lv_iload_n hx hb dd_Planner_plan_5 rfl (lv_at hl 2 rfl) ?_
  refine mx_pv (va_runS (As := [.int wv]) (rest := []) ⟨hx, hb, hml, hown, hts⟩ (cc_Planner_checkWhich l D cI cZ cL cQ _ wv (hw)) (mm_cwS 1 hts ml_Planner_143 sm_Planner_checkWhich ic_Planner cd_Planner_checkWhich rfl rfl (by decide +kernel) ⟨Nat.le_of_ble_eq_true rfl, Nat.le_of_ble_eq_true rfl⟩) (mm_preS hK hP hD [] (by decide) rfl) rfl rfl hl.1 rfl (lv_room (Nat.le_of_ble_eq_true rfl)) dd_Planner_plan_6 ⟨Nat.zero_le _, Nat.zero_le _⟩) (fun _ h => mx_A0 h) hP hS0 (fun zu4 H locs p6 hP hS0 => ?_)
  have p6 : True := p6
  refine lv_aload_n hx hb dd_Planner_plan_9 rfl (lv_at hl 0 rfl) ?_
  exact mx_pass (mx_runV (As := []) (rest := []) (C := RR_Planner) ⟨hx, hb, hml, hown, hts⟩ (cc_Planner_checkPlanX l hnt D cI cZ cL cQ _ pl tl a mi sr tr pf xb so sl sb sq sx sy fo dv cs lz (hno)) (mm_cwV 0 hts ml_Planner_146 im_Planner_checkPlan se_Planner_checkPlan ic_Planner cd_Planner_checkPlan rfl rfl (by decide +kernel) ⟨Nat.le_of_ble_eq_true rfl, Nat.le_of_ble_eq_true rfl⟩) (mx_preV hTr hS0 hK hP hD [0, 2] (by decide) rfl 0 rfl rfl) rfl rfl hl.1 rfl (lv_room (Nat.le_of_ble_eq_true rfl)) dd_Planner_plan_10 ⟨Nat.le_of_ble_eq_true rfl, Nat.le_of_ble_eq_true rfl⟩) hS0 (fun _ h => h) hex hlocks (fun _ h => h)
