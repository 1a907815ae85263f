abbrev qq_Law_start (D : va_G) (cI cZ cL cQ : ClassId) (pl : Nat) (tl : Nat) (a : Nat) (mi : Nat) (sr : Nat) (tr : Nat) (pf : Nat) (xb : Nat) (so : Int32) (sl : Int32) (al : Nat) (am : Nat) (aw : Nat) (ac : Nat) (ag : Nat) (ab : Nat) (n0 : Int32) (k0 : Int32) (m1 : Nat) (lo : Nat → Int32) (hi : Nat → Int32) (wh : Nat → Int32) (co : Nat → Int32) (A : Nat → Prop) : Array Value → State → Outcome → State → Prop := va_Qi (fun (r : Int32) (u : (Nat → Int32) × (Nat → Int32) × (Nat → Int32) × (Nat → Int32)) => r = 0 ∧ ∀ j9, j9 < 4 → u.1 j9 = 0 ∧ u.2.1 j9 = 8 ∧ u.2.2.1 j9 = 1 ∧ u.2.2.2 j9 = 0) (fun (u : (Nat → Int32) × (Nat → Int32) × (Nat → Int32) × (Nat → Int32)) t => mm_B D kc_all [(cI, .int), (cZ, .boolean), (cL, .long), (cQ, .array .int)] A [(pl, .inr (6, [.ref a, .ref mi, .ref sr, .ref tr, .ref pf, .ref xb, .ref tl, .int 0, .int sl])), (a, .inr (0, [.int (nI m1), .int (nI 0), .ref al, .ref am, .ref aw, .ref ac, .ref ag, .ref ab])), (al, .inl (cI, 4, .inl u.1)), (am, .inl (cI, 4, .inl u.2.1)), (aw, .inl (cZ, 4, .inl u.2.2.1)), (ac, .inl (cI, 4, .inl u.2.2.2))] t) A
set_option maxHeartbeats 4000000 in
set_option maxRecDepth 100000 in
theorem cc_Law_start (l : Launch) (D : va_G) (cI cZ cL cQ : ClassId) (sz : Nat) (pl : Nat) (tl : Nat) (a : Nat) (mi : Nat) (sr : Nat) (tr : Nat) (pf : Nat) (xb : Nat) (so : Int32) (sl : Int32) (al : Nat) (am : Nat) (aw : Nat) (ac : Nat) (ag : Nat) (ab : Nat) (n0 : Int32) (k0 : Int32) (m1 : Nat) (lo : Nat → Int32) (hi : Nat → Int32) (wh : Nat → Int32) (co : Nat → Int32) (hm : 1 ≤ m1 ∧ m1 ≤ 4) : Met l yy_Law_start ww_Law_start ({ frames := 7, cells := 0, slots := 0, locals := 103 } : Room) (mm_Pc D kc_all [(cI, .int), (cZ, .boolean), (cL, .long), (cQ, .array .int)] sz [(pl, .inr (6, [.ref a, .ref mi, .ref sr, .ref tr, .ref pf, .ref xb, .ref tl, .int so, .int sl])), (a, .inr (0, [.int n0, .int k0, .ref al, .ref am, .ref aw, .ref ac, .ref ag, .ref ab])), (al, .inl (cI, 4, .inl lo)), (am, .inl (cI, 4, .inl hi)), (aw, .inl (cZ, 4, .inl wh)), (ac, .inl (cI, 4, .inl co))] [.ref pl, .int (nI m1)]) (qq_Law_start D cI cZ cL cQ pl tl a mi sr tr pf xb so sl al am aw ac ag ab n0 k0 m1 lo hi wh co (va_A [(pl, .inr (6, [.ref a, .ref mi, .ref sr, .ref tr, .ref pf, .ref xb, .ref tl, .int so, .int sl])), (a, .inr (0, [.int n0, .int k0, .ref al, .ref am, .ref aw, .ref ac, .ref ag, .ref ab])), (al, .inl (cI, 4, .inl lo)), (am, .inl (cI, 4, .inl hi)), (aw, .inl (cZ, 4, .inl wh)), (ac, .inl (cI, 4, .inl co))] sz)) 0 0 (va_A [(pl, .inr (6, [.ref a, .ref mi, .ref sr, .ref tr, .ref pf, .ref xb, .ref tl, .int so, .int sl])), (a, .inr (0, [.int n0, .int k0, .ref al, .ref am, .ref aw, .ref ac, .ref ag, .ref ab])), (al, .inl (cI, 4, .inl lo)), (am, .inl (cI, 4, .inl hi)), (aw, .inl (cZ, 4, .inl wh)), (ac, .inl (cI, 4, .inl co))] sz) := by
  refine mx_MetW (cc := bb_Law_start) (maxL := 3) (ret := (some .int)) (by decide) rfl ?_
  intro p e s m args below meth c s₁ B hml htab hv
  obtain ⟨rfl, hsz, hP, hK, hD0⟩ := hv
  have hx := B.exec
  have hb := B.bytes
  have hr := B.returns
  have hts := atoms_spec (ws := ww_Law_start) B.pre
  have hown : s.vm.findClass RR_Law = some m.cls := findClass_of_methodNamed B.named
  have hlocks := B.notSynchronized
  subst hsz
  have hD := hD0.self (sz := s.heap.size)
  generalize hAe : va_A [(pl, .inr (6, [.ref a, .ref mi, .ref sr, .ref tr, .ref pf, .ref xb, .ref tl, .int so, .int sl])), (a, .inr (0, [.int n0, .int k0, .ref al, .ref am, .ref aw, .ref ac, .ref ag, .ref ab])), (al, .inl (cI, 4, .inl lo)), (am, .inl (cI, 4, .inl hi)), (aw, .inl (cZ, 4, .inl wh)), (ac, .inl (cI, 4, .inl co))] s.heap.size = A at hD ⊢
  have hA : ∀ q : Nat, s.heap.size ≤ q → A q := fun q h => by rw [← hAe]; exact Or.inr h
  have hS : va_S A s.heap s.heap [] := va_S.rf
  have hP : va_P D kc_all [(pl, .inr (6, [.ref a, .ref mi, .ref sr, .ref tr, .ref pf, .ref xb, .ref tl, .int so, .int sl])), (a, .inr (0, [.int n0, .int k0, .ref al, .ref am, .ref aw, .ref ac, .ref ag, .ref ab])), (al, .inl (cI, 4, .inl lo)), (am, .inl (cI, 4, .inl hi)), (aw, .inl (cZ, 4, .inl wh)), (ac, .inl (cI, 4, .inl co))] s.heap := hP
  have hl := lv_entry ([.ref pl, .int (nI m1)]) (n := 3) (Nat.le_of_ble_eq_true rfl)
  rw [lg_entry_eq]
  generalize (lg_sl ([.ref pl, .int (nI m1)]) ++ List.replicate (3 - (lg_sl ([.ref pl, .int (nI m1)])).length) Slot.unset).toArray = ls at hl ⊢
  have hl : lv_has ls 3 [(0, .ref pl), (1, .int (nI m1))] := hl
  have htb : ∀ w ∈ tb_all, w.before ([.ref pl, .int (nI m1)]).toArray s = true := fun w h => hts w (List.mem_cons_of_mem _ h)
  refine lv_aload_n hx hb dd_Law_start_0 rfl (lv_at hl 0 rfl) ?_
  refine lv_iload_n hx hb dd_Law_start_1 rfl (lv_at hl 1 rfl) ?_
  refine mm_v (wc := [(pl, .inr (6, [.ref a, .ref mi, .ref sr, .ref tr, .ref pf, .ref xb, .ref tl, .int so, .int sl])), (a, .inr (0, [.int n0, .int k0, .ref al, .ref am, .ref aw, .ref ac, .ref ag, .ref ab])), (al, .inl (cI, 4, .inl lo)), (am, .inl (cI, 4, .inl hi)), (aw, .inl (cZ, 4, .inl wh)), (ac, .inl (cI, 4, .inl co))]) (wr := []) (va_runV (As := [.int (nI m1)]) (rest := []) (C := RR_Planner) ⟨hx, hb, hml, hown, hts⟩ (cc_Planner_start l D cI cZ cL cQ _ pl tl a mi sr tr pf xb so sl al am aw ac ag ab n0 k0 m1 lo hi wh co (hm)) (mm_cwV 1 hts ml_Law_7 im_Planner_start se_Planner_start ic_Planner cd_Planner_start rfl rfl (by decide +kernel) ⟨Nat.le_of_ble_eq_true rfl, Nat.le_of_ble_eq_true rfl⟩) (mm_preV hK hP hD [0, 1, 2, 3, 4, 5] (by decide) rfl 0 rfl rfl) rfl rfl hl.1 rfl (lv_room (Nat.le_of_ble_eq_true rfl)) dd_Law_start_2 ⟨Nat.zero_le _, Nat.zero_le _⟩) hP hD hS hA [0, 1, 2, 3, 4, 5] [] rfl rfl (by decide) (by decide) (fun zu2 H locs p2 hP hD hS => ?_)
  have hP : va_P D kc_all [(pl, .inr (6, [.ref a, .ref mi, .ref sr, .ref tr, .ref pf, .ref xb, .ref tl, .int 0, .int sl])), (a, .inr (0, [.int (nI m1), .int (nI 0), .ref al, .ref am, .ref aw, .ref ac, .ref ag, .ref ab])), (al, .inl (cI, 4, .inl zu2.1)), (am, .inl (cI, 4, .inl zu2.2.1)), (aw, .inl (cZ, 4, .inl zu2.2.2.1)), (ac, .inl (cI, 4, .inl zu2.2.2.2))] H := hP
  have hD : va_D A [(pl, .inr (6, [.ref a, .ref mi, .ref sr, .ref tr, .ref pf, .ref xb, .ref tl, .int 0, .int sl])), (a, .inr (0, [.int (nI m1), .int (nI 0), .ref al, .ref am, .ref aw, .ref ac, .ref ag, .ref ab])), (al, .inl (cI, 4, .inl zu2.1)), (am, .inl (cI, 4, .inl zu2.2.1)), (aw, .inl (cZ, 4, .inl zu2.2.2.1)), (ac, .inl (cI, 4, .inl zu2.2.2.2))] := hD
  have p2 : ∀ j9, j9 < 4 → zu2.1 j9 = 0 ∧ zu2.2.1 j9 = 8 ∧ zu2.2.2.1 j9 = 1 ∧ zu2.2.2.2 j9 = 0 := p2
  refine lv_goto (tgt := 11) hx hb dd_Law_start_5 (by decide) ?_
  refine lv_iconst (v := 0) hx hb dd_Law_start_11 (by decide) ?_
  exact W.iret (v := (0 : Int32)) hx hb hr (fun t ht hW => ⟨⟨(0 : Int32), (zu2.1, zu2.2.1, zu2.2.2.1, zu2.2.2.2), rfl, ⟨rfl, p2⟩, by rw [ht]; exact hP, va_K.moved hW.alike hK, hD⟩, hS.F ht⟩) hS.2.2 dd_Law_start_12
abbrev qq_Law_startX (D : va_G) (cI cZ cL cQ : ClassId) (pl : Nat) (tl : Nat) (a : Nat) (mi : Nat) (sr : Nat) (tr : Nat) (pf : Nat) (xb : Nat) (so : Int32) (sl : Int32) (mn : Int32) (A : Nat → Prop) : Array Value → State → Outcome → State → Prop := va_Qi (fun (r : Int32) (u : Unit) => r = 1) (fun (u : Unit) t => mm_B D kc_all [(cI, .int), (cZ, .boolean), (cL, .long), (cQ, .array .int)] A [(pl, .inr (6, [.ref a, .ref mi, .ref sr, .ref tr, .ref pf, .ref xb, .ref tl, .int so, .int sl]))] t) A
set_option maxHeartbeats 4000000 in
set_option maxRecDepth 100000 in
theorem cc_Law_startX (l : Launch) (hnt : l.stackTraces = false) (D : va_G) (cI cZ cL cQ : ClassId) (sz : Nat) (pl : Nat) (tl : Nat) (a : Nat) (mi : Nat) (sr : Nat) (tr : Nat) (pf : Nat) (xb : Nat) (so : Int32) (sl : Int32) (mn : Int32) (hno : ¬ in_ok mn 1 4) : Met l yy_Law_start ww_Law_start ({ frames := 7, cells := 1, slots := 6, locals := 103 } : Room) (mx_Pc D kc_all [(cI, .int), (cZ, .boolean), (cL, .long), (cQ, .array .int)] sz [(pl, .inr (6, [.ref a, .ref mi, .ref sr, .ref tr, .ref pf, .ref xb, .ref tl, .int so, .int sl]))] [.ref pl, .int mn]) (qq_Law_startX D cI cZ cL cQ pl tl a mi sr tr pf xb so sl mn (va_A [(pl, .inr (6, [.ref a, .ref mi, .ref sr, .ref tr, .ref pf, .ref xb, .ref tl, .int so, .int sl]))] sz)) 1 6 (va_A [(pl, .inr (6, [.ref a, .ref mi, .ref sr, .ref tr, .ref pf, .ref xb, .ref tl, .int so, .int sl]))] sz) := by
  refine mx_MetW (cc := bb_Law_start) (maxL := 3) (ret := (some .int)) (by decide) rfl ?_
  intro p e s m args below meth c s₁ B hml htab hv
  obtain ⟨rfl, hsz, hP, hK, hD0, hTr⟩ := hv
  have hx := B.exec
  have hb := B.bytes
  have hr := B.returns
  have hts := atoms_spec (ws := ww_Law_start) B.pre
  have hown : s.vm.findClass RR_Law = some m.cls := findClass_of_methodNamed B.named
  have hlocks := B.notSynchronized
  subst hsz
  have hD := hD0.self (sz := s.heap.size)
  generalize hAe : va_A [(pl, .inr (6, [.ref a, .ref mi, .ref sr, .ref tr, .ref pf, .ref xb, .ref tl, .int so, .int sl]))] s.heap.size = A at hD ⊢
  have hA : ∀ q : Nat, s.heap.size ≤ q → A q := fun q h => by rw [← hAe]; exact Or.inr h
  have hS : va_S A s.heap s.heap [] := va_S.rf
  have hS0 : va_S (mx_A s.heap.size) s.heap s.heap [] := va_S.rf
  have hP : va_P D kc_all [(pl, .inr (6, [.ref a, .ref mi, .ref sr, .ref tr, .ref pf, .ref xb, .ref tl, .int so, .int sl]))] s.heap := hP
  have hl := lv_entry ([.ref pl, .int mn]) (n := 3) (Nat.le_of_ble_eq_true rfl)
  rw [lg_entry_eq]
  generalize (lg_sl ([.ref pl, .int mn]) ++ List.replicate (3 - (lg_sl ([.ref pl, .int mn])).length) Slot.unset).toArray = ls at hl ⊢
  have hl : lv_has ls 3 [(0, .ref pl), (1, .int mn)] := hl
  have htb : ∀ w ∈ tb_all, w.before ([.ref pl, .int mn]).toArray s = true := fun w h => hts w (List.mem_cons_of_mem _ h)
  refine lv_aload_n hx hb dd_Law_start_0 rfl (lv_at hl 0 rfl) ?_
  refine lv_iload_n hx hb dd_Law_start_1 rfl (lv_at hl 1 rfl) ?_
  refine mx_cat htab [] (0, 5, 8, 13) [] rfl (mx_runV (As := [.int mn]) (rest := []) (C := RR_Planner) ⟨hx, hb, hml, hown, hts⟩ (cc_Planner_startX l hnt D cI cZ cL cQ _ pl tl a mi sr tr pf xb so sl mn (hno)) (mm_cwV 1 hts ml_Law_7 im_Planner_start se_Planner_start ic_Planner cd_Planner_start rfl rfl (by decide +kernel) ⟨Nat.le_of_ble_eq_true rfl, Nat.le_of_ble_eq_true rfl⟩) (mx_preV hTr hS0 hK hP hD [0] (by decide) rfl 0 rfl rfl) rfl rfl hl.1 rfl (lv_room (Nat.le_of_ble_eq_true rfl)) dd_Law_start_2 ⟨Nat.le_of_ble_eq_true rfl, Nat.le_of_ble_eq_true rfl⟩) hS hA hP hown (E := "java/lang/IllegalArgumentException") (fun _ h => h) (fun _ h => absurd h List.not_mem_nil) ⟨⟨by decide, by decide⟩, by decide⟩ (htb _ kl_Law_13) (ca_A hTr) (fun zx3 H locs hP hS => ?_)
  refine lv_astore_n (lv' := [(2, .ref zx3), (0, .ref pl), (1, .int mn)]) hx hb dd_Law_start_8 rfl hl (by decide) rfl (fun ls hl => ?_)
  refine lv_iconst (v := 1) hx hb dd_Law_start_9 (by decide) ?_
  exact W.iret (v := (1 : Int32)) hx hb hr (fun t ht hW => ⟨⟨(1 : Int32), (), rfl, rfl, by rw [ht]; exact hP, va_K.moved hW.alike hK, hD⟩, hS.F ht⟩) hS.2.2 dd_Law_start_10
abbrev qq_Law_amount (D : va_G) (cI cZ cL cQ : ClassId) (pl : Nat) (tl : Nat) (a : Nat) (mi : Nat) (sr : Nat) (tr : Nat) (pf : Nat) (xb : Nat) (so : Int32) (sl : Int32) (al : Nat) (am : Nat) (aw : Nat) (ac : Nat) (ag : Nat) (ab : Nat) (n : Nat) (k : Nat) (j : Nat) (lsv : Int32) (msv : Int32) (wv : Int32) (lo : Nat → Int32) (hi : Nat → Int32) (wh : Nat → Int32) (A : Nat → Prop) : Array Value → State → Outcome → State → Prop := va_Qi (fun (r : Int32) (u : Unit) => r = 0) (fun (u : Unit) t => mm_B D kc_all [(cI, .int), (cZ, .boolean), (cL, .long), (cQ, .array .int)] A [(pl, .inr (6, [.ref a, .ref mi, .ref sr, .ref tr, .ref pf, .ref xb, .ref tl, .int 0, .int sl])), (a, .inr (0, [.int (nI n), .int (nI k), .ref al, .ref am, .ref aw, .ref ac, .ref ag, .ref ab])), (al, .inl (cI, 4, .inl (upd lo j lsv))), (am, .inl (cI, 4, .inl (upd hi j msv))), (aw, .inl (cZ, 4, .inl (upd wh j wv)))] t) A
set_option maxHeartbeats 4000000 in
set_option maxRecDepth 100000 in
theorem cc_Law_amount (l : Launch) (D : va_G) (cI cZ cL cQ : ClassId) (sz : Nat) (pl : Nat) (tl : Nat) (a : Nat) (mi : Nat) (sr : Nat) (tr : Nat) (pf : Nat) (xb : Nat) (so : Int32) (sl : Int32) (al : Nat) (am : Nat) (aw : Nat) (ac : Nat) (ag : Nat) (ab : Nat) (n : Nat) (k : Nat) (j : Nat) (lsv : Int32) (msv : Int32) (wv : Int32) (lo : Nat → Int32) (hi : Nat → Int32) (wh : Nat → Int32) (hn : 1 ≤ n ∧ n ≤ 4) (hj : j < n) (hwv : wv = 0 ∨ wv = 1) (hok : ag_ok lsv msv wv) : Met l yy_Law_amount ww_Law_amount ({ frames := 8, cells := 0, slots := 0, locals := 127 } : Room) (mm_Pc D kc_all [(cI, .int), (cZ, .boolean), (cL, .long), (cQ, .array .int)] sz [(pl, .inr (6, [.ref a, .ref mi, .ref sr, .ref tr, .ref pf, .ref xb, .ref tl, .int so, .int sl])), (a, .inr (0, [.int (nI n), .int (nI k), .ref al, .ref am, .ref aw, .ref ac, .ref ag, .ref ab])), (al, .inl (cI, 4, .inl lo)), (am, .inl (cI, 4, .inl hi)), (aw, .inl (cZ, 4, .inl wh))] [.ref pl, .int (nI j), .int lsv, .int msv, .int wv]) (qq_Law_amount D cI cZ cL cQ pl tl a mi sr tr pf xb so sl al am aw ac ag ab n k j lsv msv wv lo hi wh (va_A [(pl, .inr (6, [.ref a, .ref mi, .ref sr, .ref tr, .ref pf, .ref xb, .ref tl, .int so, .int sl])), (a, .inr (0, [.int (nI n), .int (nI k), .ref al, .ref am, .ref aw, .ref ac, .ref ag, .ref ab])), (al, .inl (cI, 4, .inl lo)), (am, .inl (cI, 4, .inl hi)), (aw, .inl (cZ, 4, .inl wh))] sz)) 0 0 (va_A [(pl, .inr (6, [.ref a, .ref mi, .ref sr, .ref tr, .ref pf, .ref xb, .ref tl, .int so, .int sl])), (a, .inr (0, [.int (nI n), .int (nI k), .ref al, .ref am, .ref aw, .ref ac, .ref ag, .ref ab])), (al, .inl (cI, 4, .inl lo)), (am, .inl (cI, 4, .inl hi)), (aw, .inl (cZ, 4, .inl wh))] sz) := by
  refine mx_MetW (cc := bb_Law_amount) (maxL := 6) (ret := (some .int)) (by decide) rfl ?_
  intro p e s m args below meth c s₁ B hml htab hv
  obtain ⟨rfl, hsz, hP, hK, hD0⟩ := hv
  have hx := B.exec
  have hb := B.bytes
  have hr := B.returns
  have hts := atoms_spec (ws := ww_Law_amount) B.pre
  have hown : s.vm.findClass RR_Law = some m.cls := findClass_of_methodNamed B.named
  have hlocks := B.notSynchronized
  subst hsz
  have hD := hD0.self (sz := s.heap.size)
  generalize hAe : va_A [(pl, .inr (6, [.ref a, .ref mi, .ref sr, .ref tr, .ref pf, .ref xb, .ref tl, .int so, .int sl])), (a, .inr (0, [.int (nI n), .int (nI k), .ref al, .ref am, .ref aw, .ref ac, .ref ag, .ref ab])), (al, .inl (cI, 4, .inl lo)), (am, .inl (cI, 4, .inl hi)), (aw, .inl (cZ, 4, .inl wh))] s.heap.size = A at hD ⊢
  have hA : ∀ q : Nat, s.heap.size ≤ q → A q := fun q h => by rw [← hAe]; exact Or.inr h
  have hS : va_S A s.heap s.heap [] := va_S.rf
  have hP : va_P D kc_all [(pl, .inr (6, [.ref a, .ref mi, .ref sr, .ref tr, .ref pf, .ref xb, .ref tl, .int so, .int sl])), (a, .inr (0, [.int (nI n), .int (nI k), .ref al, .ref am, .ref aw, .ref ac, .ref ag, .ref ab])), (al, .inl (cI, 4, .inl lo)), (am, .inl (cI, 4, .inl hi)), (aw, .inl (cZ, 4, .inl wh))] s.heap := hP
  have hl := lv_entry ([.ref pl, .int (nI j), .int lsv, .int msv, .int wv]) (n := 6) (Nat.le_of_ble_eq_true rfl)
  rw [lg_entry_eq]
  generalize (lg_sl ([.ref pl, .int (nI j), .int lsv, .int msv, .int wv]) ++ List.replicate (6 - (lg_sl ([.ref pl, .int (nI j), .int lsv, .int msv, .int wv])).length) Slot.unset).toArray = ls at hl ⊢
  have hl : lv_has ls 6 [(0, .ref pl), (1, .int (nI j)), (2, .int lsv), (3, .int msv), (4, .int wv)] := hl
  have htb : ∀ w ∈ tb_all, w.before ([.ref pl, .int (nI j), .int lsv, .int msv, .int wv]).toArray s = true := fun w h => hts w (List.mem_cons_of_mem _ h)
  refine lv_aload_n hx hb dd_Law_amount_0 rfl (lv_at hl 0 rfl) ?_
  refine lv_iload_n hx hb dd_Law_amount_1 rfl (lv_at hl 1 rfl) ?_
  refine lv_iload_n hx hb dd_Law_amount_2 rfl (lv_at hl 2 rfl) ?_
  refine lv_iload_n hx hb dd_Law_amount_3 rfl (lv_at hl 3 rfl) ?_
  refine lv_iload hx hb dd_Law_amount_4 (lv_at hl 4 rfl) ?_
  refine mm_v (wc := [(pl, .inr (6, [.ref a, .ref mi, .ref sr, .ref tr, .ref pf, .ref xb, .ref tl, .int so, .int sl])), (a, .inr (0, [.int (nI n), .int (nI k), .ref al, .ref am, .ref aw, .ref ac, .ref ag, .ref ab])), (al, .inl (cI, 4, .inl lo)), (am, .inl (cI, 4, .inl hi)), (aw, .inl (cZ, 4, .inl wh))]) (wr := []) (va_runV (As := [.int (nI j), .int lsv, .int msv, .int wv]) (rest := []) (C := RR_Planner) ⟨hx, hb, hml, hown, hts⟩ (cc_Planner_amount l D cI cZ cL cQ _ pl tl a mi sr tr pf xb so sl al am aw ac ag ab n k j lsv msv wv lo hi wh (hn) (hj) (hwv) (hok)) (mm_cwV 4 hts ml_Law_15 im_Planner_amount se_Planner_amount ic_Planner cd_Planner_amount rfl rfl (by decide +kernel) ⟨Nat.le_of_ble_eq_true rfl, Nat.le_of_ble_eq_true rfl⟩) (mm_preV hK hP hD [0, 1, 2, 3, 4] (by decide) rfl 0 rfl rfl) rfl rfl hl.1 rfl (lv_room (Nat.le_of_ble_eq_true rfl)) dd_Law_amount_6 ⟨Nat.zero_le _, Nat.zero_le _⟩) hP hD hS hA [0, 1, 2, 3, 4] [] rfl rfl (by decide) (by decide) (fun zu2 H locs p6 hP hD hS => ?_)
  have hP : va_P D kc_all [(pl, .inr (6, [.ref a, .ref mi, .ref sr, .ref tr, .ref pf, .ref xb, .ref tl, .int 0, .int sl])), (a, .inr (0, [.int (nI n), .int (nI k), .ref al, .ref am, .ref aw, .ref ac, .ref ag, .ref ab])), (al, .inl (cI, 4, .inl (upd lo j lsv))), (am, .inl (cI, 4, .inl (upd hi j msv))), (aw, .inl (cZ, 4, .inl (upd wh j wv)))] H := hP
  have hD : va_D A [(pl, .inr (6, [.ref a, .ref mi, .ref sr, .ref tr, .ref pf, .ref xb, .ref tl, .int 0, .int sl])), (a, .inr (0, [.int (nI n), .int (nI k), .ref al, .ref am, .ref aw, .ref ac, .ref ag, .ref ab])), (al, .inl (cI, 4, .inl (upd lo j lsv))), (am, .inl (cI, 4, .inl (upd hi j msv))), (aw, .inl (cZ, 4, .inl (upd wh j wv)))] := hD
  have p6 : True := p6
  refine lv_goto (tgt := 20) hx hb dd_Law_amount_9 (by decide) ?_
  refine lv_iconst (v := 0) hx hb dd_Law_amount_20 (by decide) ?_
  exact W.iret (v := (0 : Int32)) hx hb hr (fun t ht hW => ⟨⟨(0 : Int32), (), rfl, rfl, by rw [ht]; exact hP, va_K.moved hW.alike hK, hD⟩, hS.F ht⟩) hS.2.2 dd_Law_amount_21
abbrev qq_Law_amountX (D : va_G) (cI cZ cL cQ : ClassId) (pl : Nat) (tl : Nat) (a : Nat) (mi : Nat) (sr : Nat) (tr : Nat) (pf : Nat) (xb : Nat) (so : Int32) (sl : Int32) (al : Nat) (am : Nat) (aw : Nat) (ac : Nat) (ag : Nat) (ab : Nat) (n : Nat) (k : Nat) (jv : Int32) (lsv : Int32) (msv : Int32) (wv : Int32) (A : Nat → Prop) : Array Value → State → Outcome → State → Prop := va_Qi (fun (r : Int32) (u : Unit) => r = 1) (fun (u : Unit) t => mm_B D kc_all [(cI, .int), (cZ, .boolean), (cL, .long), (cQ, .array .int)] A [(pl, .inr (6, [.ref a, .ref mi, .ref sr, .ref tr, .ref pf, .ref xb, .ref tl, .int so, .int sl])), (a, .inr (0, [.int (nI n), .int (nI k), .ref al, .ref am, .ref aw, .ref ac, .ref ag, .ref ab]))] t) A
set_option maxHeartbeats 4000000 in
set_option maxRecDepth 100000 in
theorem cc_Law_amountX (l : Launch) (hnt : l.stackTraces = false) (D : va_G) (cI cZ cL cQ : ClassId) (sz : Nat) (pl : Nat) (tl : Nat) (a : Nat) (mi : Nat) (sr : Nat) (tr : Nat) (pf : Nat) (xb : Nat) (so : Int32) (sl : Int32) (al : Nat) (am : Nat) (aw : Nat) (ac : Nat) (ag : Nat) (ab : Nat) (n : Nat) (k : Nat) (jv : Int32) (lsv : Int32) (msv : Int32) (wv : Int32) (hno : ¬ (0 ≤ jv ∧ jv < nI n)) : Met l yy_Law_amount ww_Law_amount ({ frames := 8, cells := 1, slots := 6, locals := 127 } : Room) (mx_Pc D kc_all [(cI, .int), (cZ, .boolean), (cL, .long), (cQ, .array .int)] sz [(pl, .inr (6, [.ref a, .ref mi, .ref sr, .ref tr, .ref pf, .ref xb, .ref tl, .int so, .int sl])), (a, .inr (0, [.int (nI n), .int (nI k), .ref al, .ref am, .ref aw, .ref ac, .ref ag, .ref ab]))] [.ref pl, .int jv, .int lsv, .int msv, .int wv]) (qq_Law_amountX D cI cZ cL cQ pl tl a mi sr tr pf xb so sl al am aw ac ag ab n k jv lsv msv wv (va_A [(pl, .inr (6, [.ref a, .ref mi, .ref sr, .ref tr, .ref pf, .ref xb, .ref tl, .int so, .int sl])), (a, .inr (0, [.int (nI n), .int (nI k), .ref al, .ref am, .ref aw, .ref ac, .ref ag, .ref ab]))] sz)) 1 6 (va_A [(pl, .inr (6, [.ref a, .ref mi, .ref sr, .ref tr, .ref pf, .ref xb, .ref tl, .int so, .int sl])), (a, .inr (0, [.int (nI n), .int (nI k), .ref al, .ref am, .ref aw, .ref ac, .ref ag, .ref ab]))] sz) := by
  refine mx_MetW (cc := bb_Law_amount) (maxL := 6) (ret := (some .int)) (by decide) rfl ?_
  intro p e s m args below meth c s₁ B hml htab hv
  obtain ⟨rfl, hsz, hP, hK, hD0, hTr⟩ := hv
  have hx := B.exec
  have hb := B.bytes
  have hr := B.returns
  have hts := atoms_spec (ws := ww_Law_amount) B.pre
  have hown : s.vm.findClass RR_Law = some m.cls := findClass_of_methodNamed B.named
  have hlocks := B.notSynchronized
  subst hsz
  have hD := hD0.self (sz := s.heap.size)
  generalize hAe : va_A [(pl, .inr (6, [.ref a, .ref mi, .ref sr, .ref tr, .ref pf, .ref xb, .ref tl, .int so, .int sl])), (a, .inr (0, [.int (nI n), .int (nI k), .ref al, .ref am, .ref aw, .ref ac, .ref ag, .ref ab]))] s.heap.size = A at hD ⊢
  have hA : ∀ q : Nat, s.heap.size ≤ q → A q := fun q h => by rw [← hAe]; exact Or.inr h
  have hS : va_S A s.heap s.heap [] := va_S.rf
  have hS0 : va_S (mx_A s.heap.size) s.heap s.heap [] := va_S.rf
  have hP : va_P D kc_all [(pl, .inr (6, [.ref a, .ref mi, .ref sr, .ref tr, .ref pf, .ref xb, .ref tl, .int so, .int sl])), (a, .inr (0, [.int (nI n), .int (nI k), .ref al, .ref am, .ref aw, .ref ac, .ref ag, .ref ab]))] s.heap := hP
  have hl := lv_entry ([.ref pl, .int jv, .int lsv, .int msv, .int wv]) (n := 6) (Nat.le_of_ble_eq_true rfl)
  rw [lg_entry_eq]
  generalize (lg_sl ([.ref pl, .int jv, .int lsv, .int msv, .int wv]) ++ List.replicate (6 - (lg_sl ([.ref pl, .int jv, .int lsv, .int msv, .int wv])).length) Slot.unset).toArray = ls at hl ⊢
  have hl : lv_has ls 6 [(0, .ref pl), (1, .int jv), (2, .int lsv), (3, .int msv), (4, .int wv)] := hl
  have htb : ∀ w ∈ tb_all, w.before ([.ref pl, .int jv, .int lsv, .int msv, .int wv]).toArray s = true := fun w h => hts w (List.mem_cons_of_mem _ h)
  refine lv_aload_n hx hb dd_Law_amount_0 rfl (lv_at hl 0 rfl) ?_
  refine lv_iload_n hx hb dd_Law_amount_1 rfl (lv_at hl 1 rfl) ?_
  refine lv_iload_n hx hb dd_Law_amount_2 rfl (lv_at hl 2 rfl) ?_
  refine lv_iload_n hx hb dd_Law_amount_3 rfl (lv_at hl 3 rfl) ?_
  refine lv_iload hx hb dd_Law_amount_4 (lv_at hl 4 rfl) ?_
  refine mx_cat htab [] (0, 9, 12, 19) [(0, 9, 16, 13)] rfl (mx_runV (As := [.int jv, .int lsv, .int msv, .int wv]) (rest := []) (C := RR_Planner) ⟨hx, hb, hml, hown, hts⟩ (cc_Planner_amountX l hnt D cI cZ cL cQ _ pl tl a mi sr tr pf xb so sl al am aw ac ag ab n k jv lsv msv wv (hno)) (mm_cwV 4 hts ml_Law_15 im_Planner_amount se_Planner_amount ic_Planner cd_Planner_amount rfl rfl (by decide +kernel) ⟨Nat.le_of_ble_eq_true rfl, Nat.le_of_ble_eq_true rfl⟩) (mx_preV hTr hS0 hK hP hD [0, 1] (by decide) rfl 0 rfl rfl) rfl rfl hl.1 rfl (lv_room (Nat.le_of_ble_eq_true rfl)) dd_Law_amount_6 ⟨Nat.le_of_ble_eq_true rfl, Nat.le_of_ble_eq_true rfl⟩) hS hA hP hown (E := "java/lang/IndexOutOfBoundsException") (fun _ h => h) (fun _ h => absurd h List.not_mem_nil) ⟨⟨by decide, by decide⟩, by decide⟩ (htb _ kl_Law_19) (ca_B hTr) (fun zx3 H locs hP hS => ?_)
  refine lv_astore (lv' := [(5, .ref zx3), (0, .ref pl), (1, .int jv), (2, .int lsv), (3, .int msv), (4, .int wv)]) hx hb dd_Law_amount_12 hl (by decide) rfl (fun ls hl => ?_)
  refine lv_iconst (v := 1) hx hb dd_Law_amount_14 (by decide) ?_
  exact W.iret (v := (1 : Int32)) hx hb hr (fun t ht hW => ⟨⟨(1 : Int32), (), rfl, rfl, by rw [ht]; exact hP, va_K.moved hW.alike hK, hD⟩, hS.F ht⟩) hS.2.2 dd_Law_amount_15
abbrev qq_Law_amountY (D : va_G) (cI cZ cL cQ : ClassId) (pl : Nat) (tl : Nat) (a : Nat) (mi : Nat) (sr : Nat) (tr : Nat) (pf : Nat) (xb : Nat) (so : Int32) (sl : Int32) (al : Nat) (am : Nat) (aw : Nat) (ac : Nat) (ag : Nat) (ab : Nat) (n : Nat) (k : Nat) (j : Nat) (lsv : Int32) (msv : Int32) (wv : Int32) (A : Nat → Prop) : Array Value → State → Outcome → State → Prop := va_Qi (fun (r : Int32) (u : Unit) => r = 2) (fun (u : Unit) t => mm_B D kc_all [(cI, .int), (cZ, .boolean), (cL, .long), (cQ, .array .int)] A [(pl, .inr (6, [.ref a, .ref mi, .ref sr, .ref tr, .ref pf, .ref xb, .ref tl, .int so, .int sl])), (a, .inr (0, [.int (nI n), .int (nI k), .ref al, .ref am, .ref aw, .ref ac, .ref ag, .ref ab]))] t) A
set_option maxHeartbeats 4000000 in
set_option maxRecDepth 100000 in
theorem cc_Law_amountY (l : Launch) (hnt : l.stackTraces = false) (D : va_G) (cI cZ cL cQ : ClassId) (sz : Nat) (pl : Nat) (tl : Nat) (a : Nat) (mi : Nat) (sr : Nat) (tr : Nat) (pf : Nat) (xb : Nat) (so : Int32) (sl : Int32) (al : Nat) (am : Nat) (aw : Nat) (ac : Nat) (ag : Nat) (ab : Nat) (n : Nat) (k : Nat) (j : Nat) (lsv : Int32) (msv : Int32) (wv : Int32) (hn : 1 ≤ n ∧ n ≤ 4) (hj : j < n) (hno : ¬ ag_ok lsv msv wv) : Met l yy_Law_amount ww_Law_amount ({ frames := 8, cells := 1, slots := 6, locals := 127 } : Room) (mx_Pc D kc_all [(cI, .int), (cZ, .boolean), (cL, .long), (cQ, .array .int)] sz [(pl, .inr (6, [.ref a, .ref mi, .ref sr, .ref tr, .ref pf, .ref xb, .ref tl, .int so, .int sl])), (a, .inr (0, [.int (nI n), .int (nI k), .ref al, .ref am, .ref aw, .ref ac, .ref ag, .ref ab]))] [.ref pl, .int (nI j), .int lsv, .int msv, .int wv]) (qq_Law_amountY D cI cZ cL cQ pl tl a mi sr tr pf xb so sl al am aw ac ag ab n k j lsv msv wv (va_A [(pl, .inr (6, [.ref a, .ref mi, .ref sr, .ref tr, .ref pf, .ref xb, .ref tl, .int so, .int sl])), (a, .inr (0, [.int (nI n), .int (nI k), .ref al, .ref am, .ref aw, .ref ac, .ref ag, .ref ab]))] sz)) 1 6 (va_A [(pl, .inr (6, [.ref a, .ref mi, .ref sr, .ref tr, .ref pf, .ref xb, .ref tl, .int so, .int sl])), (a, .inr (0, [.int (nI n), .int (nI k), .ref al, .ref am, .ref aw, .ref ac, .ref ag, .ref ab]))] sz) := by
  refine mx_MetW (cc := bb_Law_amount) (maxL := 6) (ret := (some .int)) (by decide) rfl ?_
  intro p e s m args below meth c s₁ B hml htab hv
  obtain ⟨rfl, hsz, hP, hK, hD0, hTr⟩ := hv
  have hx := B.exec
  have hb := B.bytes
  have hr := B.returns
  have hts := atoms_spec (ws := ww_Law_amount) B.pre
  have hown : s.vm.findClass RR_Law = some m.cls := findClass_of_methodNamed B.named
  have hlocks := B.notSynchronized
  subst hsz
  have hD := hD0.self (sz := s.heap.size)
  generalize hAe : va_A [(pl, .inr (6, [.ref a, .ref mi, .ref sr, .ref tr, .ref pf, .ref xb, .ref tl, .int so, .int sl])), (a, .inr (0, [.int (nI n), .int (nI k), .ref al, .ref am, .ref aw, .ref ac, .ref ag, .ref ab]))] s.heap.size = A at hD ⊢
  have hA : ∀ q : Nat, s.heap.size ≤ q → A q := fun q h => by rw [← hAe]; exact Or.inr h
  have hS : va_S A s.heap s.heap [] := va_S.rf
  have hS0 : va_S (mx_A s.heap.size) s.heap s.heap [] := va_S.rf
  have hP : va_P D kc_all [(pl, .inr (6, [.ref a, .ref mi, .ref sr, .ref tr, .ref pf, .ref xb, .ref tl, .int so, .int sl])), (a, .inr (0, [.int (nI n), .int (nI k), .ref al, .ref am, .ref aw, .ref ac, .ref ag, .ref ab]))] s.heap := hP
  have hl := lv_entry ([.ref pl, .int (nI j), .int lsv, .int msv, .int wv]) (n := 6) (Nat.le_of_ble_eq_true rfl)
  rw [lg_entry_eq]
  generalize (lg_sl ([.ref pl, .int (nI j), .int lsv, .int msv, .int wv]) ++ List.replicate (6 - (lg_sl ([.ref pl, .int (nI j), .int lsv, .int msv, .int wv])).length) Slot.unset).toArray = ls at hl ⊢
  have hl : lv_has ls 6 [(0, .ref pl), (1, .int (nI j)), (2, .int lsv), (3, .int msv), (4, .int wv)] := hl
  have htb : ∀ w ∈ tb_all, w.before ([.ref pl, .int (nI j), .int lsv, .int msv, .int wv]).toArray s = true := fun w h => hts w (List.mem_cons_of_mem _ h)
  refine lv_aload_n hx hb dd_Law_amount_0 rfl (lv_at hl 0 rfl) ?_
  refine lv_iload_n hx hb dd_Law_amount_1 rfl (lv_at hl 1 rfl) ?_
  refine lv_iload_n hx hb dd_Law_amount_2 rfl (lv_at hl 2 rfl) ?_
  refine lv_iload_n hx hb dd_Law_amount_3 rfl (lv_at hl 3 rfl) ?_
  refine lv_iload hx hb dd_Law_amount_4 (lv_at hl 4 rfl) ?_
  refine mx_cat htab [(0, 9, 12, 19)] (0, 9, 16, 13) [] rfl (mx_runV (As := [.int (nI j), .int lsv, .int msv, .int wv]) (rest := []) (C := RR_Planner) ⟨hx, hb, hml, hown, hts⟩ (cc_Planner_amountY l hnt D cI cZ cL cQ _ pl tl a mi sr tr pf xb so sl al am aw ac ag ab n k j lsv msv wv (hn) (hj) (hno)) (mm_cwV 4 hts ml_Law_15 im_Planner_amount se_Planner_amount ic_Planner cd_Planner_amount rfl rfl (by decide +kernel) ⟨Nat.le_of_ble_eq_true rfl, Nat.le_of_ble_eq_true rfl⟩) (mx_preV hTr hS0 hK hP hD [0, 1] (by decide) rfl 0 rfl rfl) rfl rfl hl.1 rfl (lv_room (Nat.le_of_ble_eq_true rfl)) dd_Law_amount_6 ⟨Nat.le_of_ble_eq_true rfl, Nat.le_of_ble_eq_true rfl⟩) hS hA hP hown (E := "java/lang/IllegalArgumentException") (fun _ h => h) (List.forall_mem_cons.mpr ⟨⟨⟨by decide, by decide⟩, by decide, "java/lang/IndexOutOfBoundsException", htb _ kl_Law_19, nc_AB hTr⟩, fun _ h => absurd h List.not_mem_nil⟩) ⟨⟨by decide, by decide⟩, by decide⟩ (htb _ kl_Law_13) (ca_A hTr) (fun zx3 H locs hP hS => ?_)
  refine lv_astore (lv' := [(5, .ref zx3), (0, .ref pl), (1, .int (nI j)), (2, .int lsv), (3, .int msv), (4, .int wv)]) hx hb dd_Law_amount_16 hl (by decide) rfl (fun ls hl => ?_)
  refine lv_iconst (v := 2) hx hb dd_Law_amount_18 (by decide) ?_
  exact W.iret (v := (2 : Int32)) hx hb hr (fun t ht hW => ⟨⟨(2 : Int32), (), rfl, rfl, by rw [ht]; exact hP, va_K.moved hW.alike hK, hD⟩, hS.F ht⟩) hS.2.2 dd_Law_amount_19
abbrev qq_Law_cost (D : va_G) (cI cZ cL cQ : ClassId) (pl : Nat) (tl : Nat) (a : Nat) (mi : Nat) (sr : Nat) (tr : Nat) (pf : Nat) (xb : Nat) (so : Int32) (sl : Int32) (al : Nat) (am : Nat) (aw : Nat) (ac : Nat) (ag : Nat) (ab : Nat) (n : Nat) (k : Nat) (j : Nat) (cv : Int32) (co : Nat → Int32) (A : Nat → Prop) : Array Value → State → Outcome → State → Prop := va_Qi (fun (r : Int32) (u : Unit) => r = 0) (fun (u : Unit) t => mm_B D kc_all [(cI, .int), (cZ, .boolean), (cL, .long), (cQ, .array .int)] A [(pl, .inr (6, [.ref a, .ref mi, .ref sr, .ref tr, .ref pf, .ref xb, .ref tl, .int 0, .int sl])), (a, .inr (0, [.int (nI n), .int (nI k), .ref al, .ref am, .ref aw, .ref ac, .ref ag, .ref ab])), (ac, .inl (cI, 4, .inl (upd co j cv)))] t) A
set_option maxHeartbeats 4000000 in
set_option maxRecDepth 100000 in
theorem cc_Law_cost (l : Launch) (D : va_G) (cI cZ cL cQ : ClassId) (sz : Nat) (pl : Nat) (tl : Nat) (a : Nat) (mi : Nat) (sr : Nat) (tr : Nat) (pf : Nat) (xb : Nat) (so : Int32) (sl : Int32) (al : Nat) (am : Nat) (aw : Nat) (ac : Nat) (ag : Nat) (ab : Nat) (n : Nat) (k : Nat) (j : Nat) (cv : Int32) (co : Nat → Int32) (hn : 1 ≤ n ∧ n ≤ 4) (hj : j < n) (hok : in_ok cv (-9) 9) : Met l yy_Law_cost ww_Law_cost ({ frames := 8, cells := 0, slots := 0, locals := 125 } : Room) (mm_Pc D kc_all [(cI, .int), (cZ, .boolean), (cL, .long), (cQ, .array .int)] sz [(pl, .inr (6, [.ref a, .ref mi, .ref sr, .ref tr, .ref pf, .ref xb, .ref tl, .int so, .int sl])), (a, .inr (0, [.int (nI n), .int (nI k), .ref al, .ref am, .ref aw, .ref ac, .ref ag, .ref ab])), (ac, .inl (cI, 4, .inl co))] [.ref pl, .int (nI j), .int cv]) (qq_Law_cost D cI cZ cL cQ pl tl a mi sr tr pf xb so sl al am aw ac ag ab n k j cv co (va_A [(pl, .inr (6, [.ref a, .ref mi, .ref sr, .ref tr, .ref pf, .ref xb, .ref tl, .int so, .int sl])), (a, .inr (0, [.int (nI n), .int (nI k), .ref al, .ref am, .ref aw, .ref ac, .ref ag, .ref ab])), (ac, .inl (cI, 4, .inl co))] sz)) 0 0 (va_A [(pl, .inr (6, [.ref a, .ref mi, .ref sr, .ref tr, .ref pf, .ref xb, .ref tl, .int so, .int sl])), (a, .inr (0, [.int (nI n), .int (nI k), .ref al, .ref am, .ref aw, .ref ac, .ref ag, .ref ab])), (ac, .inl (cI, 4, .inl co))] sz) := by
  refine mx_MetW (cc := bb_Law_cost) (maxL := 4) (ret := (some .int)) (by decide) rfl ?_
  intro p e s m args below meth c s₁ B hml htab hv
  obtain ⟨rfl, hsz, hP, hK, hD0⟩ := hv
  have hx := B.exec
  have hb := B.bytes
  have hr := B.returns
  have hts := atoms_spec (ws := ww_Law_cost) B.pre
  have hown : s.vm.findClass RR_Law = some m.cls := findClass_of_methodNamed B.named
  have hlocks := B.notSynchronized
  subst hsz
  have hD := hD0.self (sz := s.heap.size)
  generalize hAe : va_A [(pl, .inr (6, [.ref a, .ref mi, .ref sr, .ref tr, .ref pf, .ref xb, .ref tl, .int so, .int sl])), (a, .inr (0, [.int (nI n), .int (nI k), .ref al, .ref am, .ref aw, .ref ac, .ref ag, .ref ab])), (ac, .inl (cI, 4, .inl co))] s.heap.size = A at hD ⊢
  have hA : ∀ q : Nat, s.heap.size ≤ q → A q := fun q h => by rw [← hAe]; exact Or.inr h
  have hS : va_S A s.heap s.heap [] := va_S.rf
  have hP : va_P D kc_all [(pl, .inr (6, [.ref a, .ref mi, .ref sr, .ref tr, .ref pf, .ref xb, .ref tl, .int so, .int sl])), (a, .inr (0, [.int (nI n), .int (nI k), .ref al, .ref am, .ref aw, .ref ac, .ref ag, .ref ab])), (ac, .inl (cI, 4, .inl co))] s.heap := hP
  have hl := lv_entry ([.ref pl, .int (nI j), .int cv]) (n := 4) (Nat.le_of_ble_eq_true rfl)
  rw [lg_entry_eq]
  generalize (lg_sl ([.ref pl, .int (nI j), .int cv]) ++ List.replicate (4 - (lg_sl ([.ref pl, .int (nI j), .int cv])).length) Slot.unset).toArray = ls at hl ⊢
  have hl : lv_has ls 4 [(0, .ref pl), (1, .int (nI j)), (2, .int cv)] := hl
  have htb : ∀ w ∈ tb_all, w.before ([.ref pl, .int (nI j), .int cv]).toArray s = true := fun w h => hts w (List.mem_cons_of_mem _ h)
  refine lv_aload_n hx hb dd_Law_cost_0 rfl (lv_at hl 0 rfl) ?_
  refine lv_iload_n hx hb dd_Law_cost_1 rfl (lv_at hl 1 rfl) ?_
  refine lv_iload_n hx hb dd_Law_cost_2 rfl (lv_at hl 2 rfl) ?_
  refine mm_v (wc := [(pl, .inr (6, [.ref a, .ref mi, .ref sr, .ref tr, .ref pf, .ref xb, .ref tl, .int so, .int sl])), (a, .inr (0, [.int (nI n), .int (nI k), .ref al, .ref am, .ref aw, .ref ac, .ref ag, .ref ab])), (ac, .inl (cI, 4, .inl co))]) (wr := []) (va_runV (As := [.int (nI j), .int cv]) (rest := []) (C := RR_Planner) ⟨hx, hb, hml, hown, hts⟩ (cc_Planner_cost l D cI cZ cL cQ _ pl tl a mi sr tr pf xb so sl al am aw ac ag ab n k j cv co (hn) (hj) (hok)) (mm_cwV 2 hts ml_Law_21 im_Planner_cost se_Planner_cost ic_Planner cd_Planner_cost rfl rfl (by decide +kernel) ⟨Nat.le_of_ble_eq_true rfl, Nat.le_of_ble_eq_true rfl⟩) (mm_preV hK hP hD [0, 1, 2] (by decide) rfl 0 rfl rfl) rfl rfl hl.1 rfl (lv_room (Nat.le_of_ble_eq_true rfl)) dd_Law_cost_3 ⟨Nat.zero_le _, Nat.zero_le _⟩) hP hD hS hA [0, 1, 2] [] rfl rfl (by decide) (by decide) (fun zu2 H locs p3 hP hD hS => ?_)
  have hP : va_P D kc_all [(pl, .inr (6, [.ref a, .ref mi, .ref sr, .ref tr, .ref pf, .ref xb, .ref tl, .int 0, .int sl])), (a, .inr (0, [.int (nI n), .int (nI k), .ref al, .ref am, .ref aw, .ref ac, .ref ag, .ref ab])), (ac, .inl (cI, 4, .inl (upd co j cv)))] H := hP
  have hD : va_D A [(pl, .inr (6, [.ref a, .ref mi, .ref sr, .ref tr, .ref pf, .ref xb, .ref tl, .int 0, .int sl])), (a, .inr (0, [.int (nI n), .int (nI k), .ref al, .ref am, .ref aw, .ref ac, .ref ag, .ref ab])), (ac, .inl (cI, 4, .inl (upd co j cv)))] := hD
  have p3 : True := p3
  refine lv_goto (tgt := 15) hx hb dd_Law_cost_6 (by decide) ?_
  refine lv_iconst (v := 0) hx hb dd_Law_cost_15 (by decide) ?_
  exact W.iret (v := (0 : Int32)) hx hb hr (fun t ht hW => ⟨⟨(0 : Int32), (), rfl, rfl, by rw [ht]; exact hP, va_K.moved hW.alike hK, hD⟩, hS.F ht⟩) hS.2.2 dd_Law_cost_16
abbrev qq_Law_costX (D : va_G) (cI cZ cL cQ : ClassId) (pl : Nat) (tl : Nat) (a : Nat) (mi : Nat) (sr : Nat) (tr : Nat) (pf : Nat) (xb : Nat) (so : Int32) (sl : Int32) (al : Nat) (am : Nat) (aw : Nat) (ac : Nat) (ag : Nat) (ab : Nat) (n : Nat) (k : Nat) (jv : Int32) (cv : Int32) (A : Nat → Prop) : Array Value → State → Outcome → State → Prop := va_Qi (fun (r : Int32) (u : Unit) => r = 1) (fun (u : Unit) t => mm_B D kc_all [(cI, .int), (cZ, .boolean), (cL, .long), (cQ, .array .int)] A [(pl, .inr (6, [.ref a, .ref mi, .ref sr, .ref tr, .ref pf, .ref xb, .ref tl, .int so, .int sl])), (a, .inr (0, [.int (nI n), .int (nI k), .ref al, .ref am, .ref aw, .ref ac, .ref ag, .ref ab]))] t) A
set_option maxHeartbeats 4000000 in
set_option maxRecDepth 100000 in
theorem cc_Law_costX (l : Launch) (hnt : l.stackTraces = false) (D : va_G) (cI cZ cL cQ : ClassId) (sz : Nat) (pl : Nat) (tl : Nat) (a : Nat) (mi : Nat) (sr : Nat) (tr : Nat) (pf : Nat) (xb : Nat) (so : Int32) (sl : Int32) (al : Nat) (am : Nat) (aw : Nat) (ac : Nat) (ag : Nat) (ab : Nat) (n : Nat) (k : Nat) (jv : Int32) (cv : Int32) (hno : ¬ (0 ≤ jv ∧ jv < nI n)) : Met l yy_Law_cost ww_Law_cost ({ frames := 8, cells := 1, slots := 6, locals := 125 } : Room) (mx_Pc D kc_all [(cI, .int), (cZ, .boolean), (cL, .long), (cQ, .array .int)] sz [(pl, .inr (6, [.ref a, .ref mi, .ref sr, .ref tr, .ref pf, .ref xb, .ref tl, .int so, .int sl])), (a, .inr (0, [.int (nI n), .int (nI k), .ref al, .ref am, .ref aw, .ref ac, .ref ag, .ref ab]))] [.ref pl, .int jv, .int cv]) (qq_Law_costX D cI cZ cL cQ pl tl a mi sr tr pf xb so sl al am aw ac ag ab n k jv cv (va_A [(pl, .inr (6, [.ref a, .ref mi, .ref sr, .ref tr, .ref pf, .ref xb, .ref tl, .int so, .int sl])), (a, .inr (0, [.int (nI n), .int (nI k), .ref al, .ref am, .ref aw, .ref ac, .ref ag, .ref ab]))] sz)) 1 6 (va_A [(pl, .inr (6, [.ref a, .ref mi, .ref sr, .ref tr, .ref pf, .ref xb, .ref tl, .int so, .int sl])), (a, .inr (0, [.int (nI n), .int (nI k), .ref al, .ref am, .ref aw, .ref ac, .ref ag, .ref ab]))] sz) := by
  refine mx_MetW (cc := bb_Law_cost) (maxL := 4) (ret := (some .int)) (by decide) rfl ?_
  intro p e s m args below meth c s₁ B hml htab hv
  obtain ⟨rfl, hsz, hP, hK, hD0, hTr⟩ := hv
  have hx := B.exec
  have hb := B.bytes
  have hr := B.returns
  have hts := atoms_spec (ws := ww_Law_cost) B.pre
  have hown : s.vm.findClass RR_Law = some m.cls := findClass_of_methodNamed B.named
  have hlocks := B.notSynchronized
  subst hsz
  have hD := hD0.self (sz := s.heap.size)
  generalize hAe : va_A [(pl, .inr (6, [.ref a, .ref mi, .ref sr, .ref tr, .ref pf, .ref xb, .ref tl, .int so, .int sl])), (a, .inr (0, [.int (nI n), .int (nI k), .ref al, .ref am, .ref aw, .ref ac, .ref ag, .ref ab]))] s.heap.size = A at hD ⊢
  have hA : ∀ q : Nat, s.heap.size ≤ q → A q := fun q h => by rw [← hAe]; exact Or.inr h
  have hS : va_S A s.heap s.heap [] := va_S.rf
  have hS0 : va_S (mx_A s.heap.size) s.heap s.heap [] := va_S.rf
  have hP : va_P D kc_all [(pl, .inr (6, [.ref a, .ref mi, .ref sr, .ref tr, .ref pf, .ref xb, .ref tl, .int so, .int sl])), (a, .inr (0, [.int (nI n), .int (nI k), .ref al, .ref am, .ref aw, .ref ac, .ref ag, .ref ab]))] s.heap := hP
  have hl := lv_entry ([.ref pl, .int jv, .int cv]) (n := 4) (Nat.le_of_ble_eq_true rfl)
  rw [lg_entry_eq]
  generalize (lg_sl ([.ref pl, .int jv, .int cv]) ++ List.replicate (4 - (lg_sl ([.ref pl, .int jv, .int cv])).length) Slot.unset).toArray = ls at hl ⊢
  have hl : lv_has ls 4 [(0, .ref pl), (1, .int jv), (2, .int cv)] := hl
  have htb : ∀ w ∈ tb_all, w.before ([.ref pl, .int jv, .int cv]).toArray s = true := fun w h => hts w (List.mem_cons_of_mem _ h)
  refine lv_aload_n hx hb dd_Law_cost_0 rfl (lv_at hl 0 rfl) ?_
  refine lv_iload_n hx hb dd_Law_cost_1 rfl (lv_at hl 1 rfl) ?_
  refine lv_iload_n hx hb dd_Law_cost_2 rfl (lv_at hl 2 rfl) ?_
  refine mx_cat htab [] (0, 6, 9, 19) [(0, 6, 12, 13)] rfl (mx_runV (As := [.int jv, .int cv]) (rest := []) (C := RR_Planner) ⟨hx, hb, hml, hown, hts⟩ (cc_Planner_costX l hnt D cI cZ cL cQ _ pl tl a mi sr tr pf xb so sl al am aw ac ag ab n k jv cv (hno)) (mm_cwV 2 hts ml_Law_21 im_Planner_cost se_Planner_cost ic_Planner cd_Planner_cost rfl rfl (by decide +kernel) ⟨Nat.le_of_ble_eq_true rfl, Nat.le_of_ble_eq_true rfl⟩) (mx_preV hTr hS0 hK hP hD [0, 1] (by decide) rfl 0 rfl rfl) rfl rfl hl.1 rfl (lv_room (Nat.le_of_ble_eq_true rfl)) dd_Law_cost_3 ⟨Nat.le_of_ble_eq_true rfl, Nat.le_of_ble_eq_true rfl⟩) hS hA hP hown (E := "java/lang/IndexOutOfBoundsException") (fun _ h => h) (fun _ h => absurd h List.not_mem_nil) ⟨⟨by decide, by decide⟩, by decide⟩ (htb _ kl_Law_19) (ca_B hTr) (fun zx3 H locs hP hS => ?_)
  refine lv_astore_n (lv' := [(3, .ref zx3), (0, .ref pl), (1, .int jv), (2, .int cv)]) hx hb dd_Law_cost_9 rfl hl (by decide) rfl (fun ls hl => ?_)
  refine lv_iconst (v := 1) hx hb dd_Law_cost_10 (by decide) ?_
  exact W.iret (v := (1 : Int32)) hx hb hr (fun t ht hW => ⟨⟨(1 : Int32), (), rfl, rfl, by rw [ht]; exact hP, va_K.moved hW.alike hK, hD⟩, hS.F ht⟩) hS.2.2 dd_Law_cost_11
abbrev qq_Law_costY (D : va_G) (cI cZ cL cQ : ClassId) (pl : Nat) (tl : Nat) (a : Nat) (mi : Nat) (sr : Nat) (tr : Nat) (pf : Nat) (xb : Nat) (so : Int32) (sl : Int32) (al : Nat) (am : Nat) (aw : Nat) (ac : Nat) (ag : Nat) (ab : Nat) (n : Nat) (k : Nat) (j : Nat) (cv : Int32) (A : Nat → Prop) : Array Value → State → Outcome → State → Prop := va_Qi (fun (r : Int32) (u : Unit) => r = 2) (fun (u : Unit) t => mm_B D kc_all [(cI, .int), (cZ, .boolean), (cL, .long), (cQ, .array .int)] A [(pl, .inr (6, [.ref a, .ref mi, .ref sr, .ref tr, .ref pf, .ref xb, .ref tl, .int so, .int sl])), (a, .inr (0, [.int (nI n), .int (nI k), .ref al, .ref am, .ref aw, .ref ac, .ref ag, .ref ab]))] t) A
set_option maxHeartbeats 4000000 in
set_option maxRecDepth 100000 in
theorem cc_Law_costY (l : Launch) (hnt : l.stackTraces = false) (D : va_G) (cI cZ cL cQ : ClassId) (sz : Nat) (pl : Nat) (tl : Nat) (a : Nat) (mi : Nat) (sr : Nat) (tr : Nat) (pf : Nat) (xb : Nat) (so : Int32) (sl : Int32) (al : Nat) (am : Nat) (aw : Nat) (ac : Nat) (ag : Nat) (ab : Nat) (n : Nat) (k : Nat) (j : Nat) (cv : Int32) (hn : 1 ≤ n ∧ n ≤ 4) (hj : j < n) (hno : ¬ in_ok cv (-9) 9) : Met l yy_Law_cost ww_Law_cost ({ frames := 8, cells := 1, slots := 6, locals := 125 } : Room) (mx_Pc D kc_all [(cI, .int), (cZ, .boolean), (cL, .long), (cQ, .array .int)] sz [(pl, .inr (6, [.ref a, .ref mi, .ref sr, .ref tr, .ref pf, .ref xb, .ref tl, .int so, .int sl])), (a, .inr (0, [.int (nI n), .int (nI k), .ref al, .ref am, .ref aw, .ref ac, .ref ag, .ref ab]))] [.ref pl, .int (nI j), .int cv]) (qq_Law_costY D cI cZ cL cQ pl tl a mi sr tr pf xb so sl al am aw ac ag ab n k j cv (va_A [(pl, .inr (6, [.ref a, .ref mi, .ref sr, .ref tr, .ref pf, .ref xb, .ref tl, .int so, .int sl])), (a, .inr (0, [.int (nI n), .int (nI k), .ref al, .ref am, .ref aw, .ref ac, .ref ag, .ref ab]))] sz)) 1 6 (va_A [(pl, .inr (6, [.ref a, .ref mi, .ref sr, .ref tr, .ref pf, .ref xb, .ref tl, .int so, .int sl])), (a, .inr (0, [.int (nI n), .int (nI k), .ref al, .ref am, .ref aw, .ref ac, .ref ag, .ref ab]))] sz) := by
  refine mx_MetW (cc := bb_Law_cost) (maxL := 4) (ret := (some .int)) (by decide) rfl ?_
  intro p e s m args below meth c s₁ B hml htab hv
  obtain ⟨rfl, hsz, hP, hK, hD0, hTr⟩ := hv
  have hx := B.exec
  have hb := B.bytes
  have hr := B.returns
  have hts := atoms_spec (ws := ww_Law_cost) B.pre
  have hown : s.vm.findClass RR_Law = some m.cls := findClass_of_methodNamed B.named
  have hlocks := B.notSynchronized
  subst hsz
  have hD := hD0.self (sz := s.heap.size)
  generalize hAe : va_A [(pl, .inr (6, [.ref a, .ref mi, .ref sr, .ref tr, .ref pf, .ref xb, .ref tl, .int so, .int sl])), (a, .inr (0, [.int (nI n), .int (nI k), .ref al, .ref am, .ref aw, .ref ac, .ref ag, .ref ab]))] s.heap.size = A at hD ⊢
  have hA : ∀ q : Nat, s.heap.size ≤ q → A q := fun q h => by rw [← hAe]; exact Or.inr h
  have hS : va_S A s.heap s.heap [] := va_S.rf
  have hS0 : va_S (mx_A s.heap.size) s.heap s.heap [] := va_S.rf
  have hP : va_P D kc_all [(pl, .inr (6, [.ref a, .ref mi, .ref sr, .ref tr, .ref pf, .ref xb, .ref tl, .int so, .int sl])), (a, .inr (0, [.int (nI n), .int (nI k), .ref al, .ref am, .ref aw, .ref ac, .ref ag, .ref ab]))] s.heap := hP
  have hl := lv_entry ([.ref pl, .int (nI j), .int cv]) (n := 4) (Nat.le_of_ble_eq_true rfl)
  rw [lg_entry_eq]
  generalize (lg_sl ([.ref pl, .int (nI j), .int cv]) ++ List.replicate (4 - (lg_sl ([.ref pl, .int (nI j), .int cv])).length) Slot.unset).toArray = ls at hl ⊢
  have hl : lv_has ls 4 [(0, .ref pl), (1, .int (nI j)), (2, .int cv)] := hl
  have htb : ∀ w ∈ tb_all, w.before ([.ref pl, .int (nI j), .int cv]).toArray s = true := fun w h => hts w (List.mem_cons_of_mem _ h)
  refine lv_aload_n hx hb dd_Law_cost_0 rfl (lv_at hl 0 rfl) ?_
  refine lv_iload_n hx hb dd_Law_cost_1 rfl (lv_at hl 1 rfl) ?_
  refine lv_iload_n hx hb dd_Law_cost_2 rfl (lv_at hl 2 rfl) ?_
  refine mx_cat htab [(0, 6, 9, 19)] (0, 6, 12, 13) [] rfl (mx_runV (As := [.int (nI j), .int cv]) (rest := []) (C := RR_Planner) ⟨hx, hb, hml, hown, hts⟩ (cc_Planner_costY l hnt D cI cZ cL cQ _ pl tl a mi sr tr pf xb so sl al am aw ac ag ab n k j cv (hn) (hj) (hno)) (mm_cwV 2 hts ml_Law_21 im_Planner_cost se_Planner_cost ic_Planner cd_Planner_cost rfl rfl (by decide +kernel) ⟨Nat.le_of_ble_eq_true rfl, Nat.le_of_ble_eq_true rfl⟩) (mx_preV hTr hS0 hK hP hD [0, 1] (by decide) rfl 0 rfl rfl) rfl rfl hl.1 rfl (lv_room (Nat.le_of_ble_eq_true rfl)) dd_Law_cost_3 ⟨Nat.le_of_ble_eq_true rfl, Nat.le_of_ble_eq_true rfl⟩) hS hA hP hown (E := "java/lang/IllegalArgumentException") (fun _ h => h) (List.forall_mem_cons.mpr ⟨⟨⟨by decide, by decide⟩, by decide, "java/lang/IndexOutOfBoundsException", htb _ kl_Law_19, nc_AB hTr⟩, fun _ h => absurd h List.not_mem_nil⟩) ⟨⟨by decide, by decide⟩, by decide⟩ (htb _ kl_Law_13) (ca_A hTr) (fun zx3 H locs hP hS => ?_)
  refine lv_astore_n (lv' := [(3, .ref zx3), (0, .ref pl), (1, .int (nI j)), (2, .int cv)]) hx hb dd_Law_cost_12 rfl hl (by decide) rfl (fun ls hl => ?_)
  refine lv_iconst (v := 2) hx hb dd_Law_cost_13 (by decide) ?_
  exact W.iret (v := (2 : Int32)) hx hb hr (fun t ht hW => ⟨⟨(2 : Int32), (), rfl, rfl, by rw [ht]; exact hP, va_K.moved hW.alike hK, hD⟩, hS.F ht⟩) hS.2.2 dd_Law_cost_14
abbrev qq_Law_limit (D : va_G) (cI cZ cL cQ : ClassId) (pl : Nat) (tl : Nat) (a : Nat) (mi : Nat) (sr : Nat) (tr : Nat) (pf : Nat) (xb : Nat) (so : Int32) (sl : Int32) (al : Nat) (am : Nat) (aw : Nat) (ac : Nat) (ag : Nat) (ab : Nat) (n : Nat) (k : Nat) (x0 : Int32) (x1 : Int32) (x2 : Int32) (x3 : Int32) (bo : Int32) (td : Nat → Int32) (rw : Nat → Nat) (M : Nat → Nat → Int32) (bd : Nat → Int32) (ou : Nat) (ov : Nat → Int64) (A : Nat → Prop) : Array Value → State → Outcome → State → Prop := va_Qi (fun (r : Int32) (u : (Nat → Nat → Int32)) => r = 0 ∧ ∀ a9 c9, c9 < 4 → u a9 c9 = if a9 = k then pk_f c9 x0 x1 x2 x3 else M a9 c9) (fun (u : (Nat → Nat → Int32)) t => mm_B D kc_all [(cI, .int), (cZ, .boolean), (cL, .long), (cQ, .array .int)] A [(pl, .inr (6, [.ref a, .ref mi, .ref sr, .ref tr, .ref pf, .ref xb, .ref tl, .int 0, .int sl])), (tl, .inl (cI, 4, .inl (upd (upd (upd (upd td 0 x0) 1 x1) 2 x2) 3 x3))), (a, .inr (0, [.int (nI n), .int (nI (k + 1)), .ref al, .ref am, .ref aw, .ref ac, .ref ag, .ref ab])), (ag, .inl (cQ, 6, .inr (.inr (.inr (.inr (fun i9 => some (rw i9))))))), (rw 0, .inl (cI, 4, .inl (u 0))), (rw 1, .inl (cI, 4, .inl (u 1))), (rw 2, .inl (cI, 4, .inl (u 2))), (rw 3, .inl (cI, 4, .inl (u 3))), (rw 4, .inl (cI, 4, .inl (u 4))), (rw 5, .inl (cI, 4, .inl (u 5))), (ab, .inl (cI, 6, .inl (upd bd k bo))), (ou, .inl (cL, 1, .inr (.inl (vp_updL ov 0 ((nI k).toInt64)))))] t) A
set_option maxHeartbeats 4000000 in
set_option maxRecDepth 100000 in
theorem cc_Law_limit (l : Launch) (D : va_G) (cI cZ cL cQ : ClassId) (sz : Nat) (pl : Nat) (tl : Nat) (a : Nat) (mi : Nat) (sr : Nat) (tr : Nat) (pf : Nat) (xb : Nat) (so : Int32) (sl : Int32) (al : Nat) (am : Nat) (aw : Nat) (ac : Nat) (ag : Nat) (ab : Nat) (n : Nat) (k : Nat) (x0 : Int32) (x1 : Int32) (x2 : Int32) (x3 : Int32) (bo : Int32) (td : Nat → Int32) (rw : Nat → Nat) (M : Nat → Nat → Int32) (bd : Nat → Int32) (ou : Nat) (ov : Nat → Int64) (hn : n ≤ 4) (hk : k ≤ 6) (hok : lw_ok n x0 x1 x2 x3 bo 4 ∧ ¬ k = 6) : Met l yy_Law_limit ww_Law_limit ({ frames := 7, cells := 0, slots := 0, locals := 107 } : Room) (mm_Pc D kc_all [(cI, .int), (cZ, .boolean), (cL, .long), (cQ, .array .int)] sz [(pl, .inr (6, [.ref a, .ref mi, .ref sr, .ref tr, .ref pf, .ref xb, .ref tl, .int so, .int sl])), (tl, .inl (cI, 4, .inl td)), (a, .inr (0, [.int (nI n), .int (nI k), .ref al, .ref am, .ref aw, .ref ac, .ref ag, .ref ab])), (ag, .inl (cQ, 6, .inr (.inr (.inr (.inr (fun i9 => some (rw i9))))))), (rw 0, .inl (cI, 4, .inl (M 0))), (rw 1, .inl (cI, 4, .inl (M 1))), (rw 2, .inl (cI, 4, .inl (M 2))), (rw 3, .inl (cI, 4, .inl (M 3))), (rw 4, .inl (cI, 4, .inl (M 4))), (rw 5, .inl (cI, 4, .inl (M 5))), (ab, .inl (cI, 6, .inl bd)), (ou, .inl (cL, 1, .inr (.inl ov)))] [.ref pl, .int x0, .int x1, .int x2, .int x3, .int bo, .ref ou]) (qq_Law_limit D cI cZ cL cQ pl tl a mi sr tr pf xb so sl al am aw ac ag ab n k x0 x1 x2 x3 bo td rw M bd ou ov (va_A [(pl, .inr (6, [.ref a, .ref mi, .ref sr, .ref tr, .ref pf, .ref xb, .ref tl, .int so, .int sl])), (tl, .inl (cI, 4, .inl td)), (a, .inr (0, [.int (nI n), .int (nI k), .ref al, .ref am, .ref aw, .ref ac, .ref ag, .ref ab])), (ag, .inl (cQ, 6, .inr (.inr (.inr (.inr (fun i9 => some (rw i9))))))), (rw 0, .inl (cI, 4, .inl (M 0))), (rw 1, .inl (cI, 4, .inl (M 1))), (rw 2, .inl (cI, 4, .inl (M 2))), (rw 3, .inl (cI, 4, .inl (M 3))), (rw 4, .inl (cI, 4, .inl (M 4))), (rw 5, .inl (cI, 4, .inl (M 5))), (ab, .inl (cI, 6, .inl bd)), (ou, .inl (cL, 1, .inr (.inl ov)))] sz)) 0 0 (va_A [(pl, .inr (6, [.ref a, .ref mi, .ref sr, .ref tr, .ref pf, .ref xb, .ref tl, .int so, .int sl])), (tl, .inl (cI, 4, .inl td)), (a, .inr (0, [.int (nI n), .int (nI k), .ref al, .ref am, .ref aw, .ref ac, .ref ag, .ref ab])), (ag, .inl (cQ, 6, .inr (.inr (.inr (.inr (fun i9 => some (rw i9))))))), (rw 0, .inl (cI, 4, .inl (M 0))), (rw 1, .inl (cI, 4, .inl (M 1))), (rw 2, .inl (cI, 4, .inl (M 2))), (rw 3, .inl (cI, 4, .inl (M 3))), (rw 4, .inl (cI, 4, .inl (M 4))), (rw 5, .inl (cI, 4, .inl (M 5))), (ab, .inl (cI, 6, .inl bd)), (ou, .inl (cL, 1, .inr (.inl ov)))] sz) := by
  refine mx_MetW (cc := bb_Law_limit) (maxL := 8) (ret := (some .int)) (by decide) rfl ?_
  intro p e s m args below meth c s₁ B hml htab hv
  obtain ⟨rfl, hsz, hP, hK, hD0⟩ := hv
  have hx := B.exec
  have hb := B.bytes
  have hr := B.returns
  have hts := atoms_spec (ws := ww_Law_limit) B.pre
  have hown : s.vm.findClass RR_Law = some m.cls := findClass_of_methodNamed B.named
  have hlocks := B.notSynchronized
  subst hsz
  have hD := hD0.self (sz := s.heap.size)
  generalize hAe : va_A [(pl, .inr (6, [.ref a, .ref mi, .ref sr, .ref tr, .ref pf, .ref xb, .ref tl, .int so, .int sl])), (tl, .inl (cI, 4, .inl td)), (a, .inr (0, [.int (nI n), .int (nI k), .ref al, .ref am, .ref aw, .ref ac, .ref ag, .ref ab])), (ag, .inl (cQ, 6, .inr (.inr (.inr (.inr (fun i9 => some (rw i9))))))), (rw 0, .inl (cI, 4, .inl (M 0))), (rw 1, .inl (cI, 4, .inl (M 1))), (rw 2, .inl (cI, 4, .inl (M 2))), (rw 3, .inl (cI, 4, .inl (M 3))), (rw 4, .inl (cI, 4, .inl (M 4))), (rw 5, .inl (cI, 4, .inl (M 5))), (ab, .inl (cI, 6, .inl bd)), (ou, .inl (cL, 1, .inr (.inl ov)))] s.heap.size = A at hD ⊢
  have hA : ∀ q : Nat, s.heap.size ≤ q → A q := fun q h => by rw [← hAe]; exact Or.inr h
  have hS : va_S A s.heap s.heap [] := va_S.rf
  have hP : va_P D kc_all [(pl, .inr (6, [.ref a, .ref mi, .ref sr, .ref tr, .ref pf, .ref xb, .ref tl, .int so, .int sl])), (tl, .inl (cI, 4, .inl td)), (a, .inr (0, [.int (nI n), .int (nI k), .ref al, .ref am, .ref aw, .ref ac, .ref ag, .ref ab])), (ag, .inl (cQ, 6, .inr (.inr (.inr (.inr (fun i9 => some (rw i9))))))), (rw 0, .inl (cI, 4, .inl (M 0))), (rw 1, .inl (cI, 4, .inl (M 1))), (rw 2, .inl (cI, 4, .inl (M 2))), (rw 3, .inl (cI, 4, .inl (M 3))), (rw 4, .inl (cI, 4, .inl (M 4))), (rw 5, .inl (cI, 4, .inl (M 5))), (ab, .inl (cI, 6, .inl bd)), (ou, .inl (cL, 1, .inr (.inl ov)))] s.heap := hP
  have hl := lv_entry ([.ref pl, .int x0, .int x1, .int x2, .int x3, .int bo, .ref ou]) (n := 8) (Nat.le_of_ble_eq_true rfl)
  rw [lg_entry_eq]
  generalize (lg_sl ([.ref pl, .int x0, .int x1, .int x2, .int x3, .int bo, .ref ou]) ++ List.replicate (8 - (lg_sl ([.ref pl, .int x0, .int x1, .int x2, .int x3, .int bo, .ref ou])).length) Slot.unset).toArray = ls at hl ⊢
  have hl : lv_has ls 8 [(0, .ref pl), (1, .int x0), (2, .int x1), (3, .int x2), (4, .int x3), (5, .int bo), (6, .ref ou)] := hl
  have htb : ∀ w ∈ tb_all, w.before ([.ref pl, .int x0, .int x1, .int x2, .int x3, .int bo, .ref ou]).toArray s = true := fun w h => hts w (List.mem_cons_of_mem _ h)
  refine lv_aload hx hb dd_Law_limit_0 (lv_at hl 6 rfl) ?_
  refine lv_iconst (v := 0) hx hb dd_Law_limit_2 (by decide) ?_
  refine lv_aload_n hx hb dd_Law_limit_3 rfl (lv_at hl 0 rfl) ?_
  refine lv_iload_n hx hb dd_Law_limit_4 rfl (lv_at hl 1 rfl) ?_
  refine lv_iload_n hx hb dd_Law_limit_5 rfl (lv_at hl 2 rfl) ?_
  refine lv_iload_n hx hb dd_Law_limit_6 rfl (lv_at hl 3 rfl) ?_
  refine lv_iload hx hb dd_Law_limit_7 (lv_at hl 4 rfl) ?_
  refine lv_iload hx hb dd_Law_limit_9 (lv_at hl 5 rfl) ?_
  refine mm_i (wc := [(pl, .inr (6, [.ref a, .ref mi, .ref sr, .ref tr, .ref pf, .ref xb, .ref tl, .int so, .int sl])), (tl, .inl (cI, 4, .inl td)), (a, .inr (0, [.int (nI n), .int (nI k), .ref al, .ref am, .ref aw, .ref ac, .ref ag, .ref ab])), (ag, .inl (cQ, 6, .inr (.inr (.inr (.inr (fun i9 => some (rw i9))))))), (rw 0, .inl (cI, 4, .inl (M 0))), (rw 1, .inl (cI, 4, .inl (M 1))), (rw 2, .inl (cI, 4, .inl (M 2))), (rw 3, .inl (cI, 4, .inl (M 3))), (rw 4, .inl (cI, 4, .inl (M 4))), (rw 5, .inl (cI, 4, .inl (M 5))), (ab, .inl (cI, 6, .inl bd))]) (wr := [(ou, .inl (cL, 1, .inr (.inl ov)))]) (va_runV (As := [.int x0, .int x1, .int x2, .int x3, .int bo]) (rest := [.int (0 : Int32), .ref ou]) (C := RR_Planner) ⟨hx, hb, hml, hown, hts⟩ (cc_Planner_limit l D cI cZ cL cQ _ pl tl a mi sr tr pf xb so sl al am aw ac ag ab n k x0 x1 x2 x3 bo td rw M bd (hn) (hk) (hok)) (mm_cwV 5 hts ml_Law_25 im_Planner_limit se_Planner_limit ic_Planner cd_Planner_limit rfl rfl (by decide +kernel) ⟨Nat.le_of_ble_eq_true rfl, Nat.le_of_ble_eq_true rfl⟩) (mm_preV hK hP hD [0, 1, 2, 3, 4, 5, 6, 7, 8, 9, 10] (by decide) rfl 0 rfl rfl) rfl rfl hl.1 rfl (lv_room (Nat.le_of_ble_eq_true rfl)) dd_Law_limit_11 ⟨Nat.zero_le _, Nat.zero_le _⟩) hP hD hS hA [0, 1, 2, 3, 4, 5, 6, 7, 8, 9, 10] [11] rfl rfl (by decide) (by decide) (fun zr1 zu2 H locs p11 hP hD hS => ?_)
  have hP : va_P D kc_all [(ou, .inl (cL, 1, .inr (.inl ov))), (pl, .inr (6, [.ref a, .ref mi, .ref sr, .ref tr, .ref pf, .ref xb, .ref tl, .int 0, .int sl])), (tl, .inl (cI, 4, .inl (upd (upd (upd (upd td 0 x0) 1 x1) 2 x2) 3 x3))), (a, .inr (0, [.int (nI n), .int (nI (k + 1)), .ref al, .ref am, .ref aw, .ref ac, .ref ag, .ref ab])), (ag, .inl (cQ, 6, .inr (.inr (.inr (.inr (fun i9 => some (rw i9))))))), (rw 0, .inl (cI, 4, .inl (zu2 0))), (rw 1, .inl (cI, 4, .inl (zu2 1))), (rw 2, .inl (cI, 4, .inl (zu2 2))), (rw 3, .inl (cI, 4, .inl (zu2 3))), (rw 4, .inl (cI, 4, .inl (zu2 4))), (rw 5, .inl (cI, 4, .inl (zu2 5))), (ab, .inl (cI, 6, .inl (upd bd k bo)))] H := hP
  have hD : va_D A [(ou, .inl (cL, 1, .inr (.inl ov))), (pl, .inr (6, [.ref a, .ref mi, .ref sr, .ref tr, .ref pf, .ref xb, .ref tl, .int 0, .int sl])), (tl, .inl (cI, 4, .inl (upd (upd (upd (upd td 0 x0) 1 x1) 2 x2) 3 x3))), (a, .inr (0, [.int (nI n), .int (nI (k + 1)), .ref al, .ref am, .ref aw, .ref ac, .ref ag, .ref ab])), (ag, .inl (cQ, 6, .inr (.inr (.inr (.inr (fun i9 => some (rw i9))))))), (rw 0, .inl (cI, 4, .inl (zu2 0))), (rw 1, .inl (cI, 4, .inl (zu2 1))), (rw 2, .inl (cI, 4, .inl (zu2 2))), (rw 3, .inl (cI, 4, .inl (zu2 3))), (rw 4, .inl (cI, 4, .inl (zu2 4))), (rw 5, .inl (cI, 4, .inl (zu2 5))), (ab, .inl (cI, 6, .inl (upd bd k bo)))] := hD
  have hP : va_P D kc_all [(pl, .inr (6, [.ref a, .ref mi, .ref sr, .ref tr, .ref pf, .ref xb, .ref tl, .int 0, .int sl])), (tl, .inl (cI, 4, .inl (upd (upd (upd (upd td 0 x0) 1 x1) 2 x2) 3 x3))), (a, .inr (0, [.int (nI n), .int (nI (k + 1)), .ref al, .ref am, .ref aw, .ref ac, .ref ag, .ref ab])), (ag, .inl (cQ, 6, .inr (.inr (.inr (.inr (fun i9 => some (rw i9))))))), (rw 0, .inl (cI, 4, .inl (zu2 0))), (rw 1, .inl (cI, 4, .inl (zu2 1))), (rw 2, .inl (cI, 4, .inl (zu2 2))), (rw 3, .inl (cI, 4, .inl (zu2 3))), (rw 4, .inl (cI, 4, .inl (zu2 4))), (rw 5, .inl (cI, 4, .inl (zu2 5))), (ab, .inl (cI, 6, .inl (upd bd k bo))), (ou, .inl (cL, 1, .inr (.inl ov)))] H := hP.sub [1, 2, 3, 4, 5, 6, 7, 8, 9, 10, 11, 0] rfl
  have hD : va_D A [(pl, .inr (6, [.ref a, .ref mi, .ref sr, .ref tr, .ref pf, .ref xb, .ref tl, .int 0, .int sl])), (tl, .inl (cI, 4, .inl (upd (upd (upd (upd td 0 x0) 1 x1) 2 x2) 3 x3))), (a, .inr (0, [.int (nI n), .int (nI (k + 1)), .ref al, .ref am, .ref aw, .ref ac, .ref ag, .ref ab])), (ag, .inl (cQ, 6, .inr (.inr (.inr (.inr (fun i9 => some (rw i9))))))), (rw 0, .inl (cI, 4, .inl (zu2 0))), (rw 1, .inl (cI, 4, .inl (zu2 1))), (rw 2, .inl (cI, 4, .inl (zu2 2))), (rw 3, .inl (cI, 4, .inl (zu2 3))), (rw 4, .inl (cI, 4, .inl (zu2 4))), (rw 5, .inl (cI, 4, .inl (zu2 5))), (ab, .inl (cI, 6, .inl (upd bd k bo))), (ou, .inl (cL, 1, .inr (.inl ov)))] := hD.sub [1, 2, 3, 4, 5, 6, 7, 8, 9, 10, 11, 0] (by decide) rfl
  have p11 : zr1 = nI k ∧ ∀ a9 c9, c9 < 4 → zu2 a9 c9 = if a9 = k then pk_f c9 x0 x1 x2 x3 else M a9 c9 := p11
  refine mm_topi (y := nI k) (p11.1) ?_
  refine lv_i2l (v := (nI k).toInt64) hx hb dd_Law_limit_14 rfl ?_
  refine mm_last hx hb hK hP hD hS 11 2 rfl rfl (0) (rfl) (by omega) (by first | decide | omega) dd_Law_limit_15 (fun H locs hP hD hS => ?_)
  have hP : va_P D kc_all [(pl, .inr (6, [.ref a, .ref mi, .ref sr, .ref tr, .ref pf, .ref xb, .ref tl, .int 0, .int sl])), (tl, .inl (cI, 4, .inl (upd (upd (upd (upd td 0 x0) 1 x1) 2 x2) 3 x3))), (a, .inr (0, [.int (nI n), .int (nI (k + 1)), .ref al, .ref am, .ref aw, .ref ac, .ref ag, .ref ab])), (ag, .inl (cQ, 6, .inr (.inr (.inr (.inr (fun i9 => some (rw i9))))))), (rw 0, .inl (cI, 4, .inl (zu2 0))), (rw 1, .inl (cI, 4, .inl (zu2 1))), (rw 2, .inl (cI, 4, .inl (zu2 2))), (rw 3, .inl (cI, 4, .inl (zu2 3))), (rw 4, .inl (cI, 4, .inl (zu2 4))), (rw 5, .inl (cI, 4, .inl (zu2 5))), (ab, .inl (cI, 6, .inl (upd bd k bo))), (ou, .inl (cL, 1, .inr (.inl (vp_updL ov 0 ((nI k).toInt64)))))] H := hP
  have hD : va_D A [(pl, .inr (6, [.ref a, .ref mi, .ref sr, .ref tr, .ref pf, .ref xb, .ref tl, .int 0, .int sl])), (tl, .inl (cI, 4, .inl (upd (upd (upd (upd td 0 x0) 1 x1) 2 x2) 3 x3))), (a, .inr (0, [.int (nI n), .int (nI (k + 1)), .ref al, .ref am, .ref aw, .ref ac, .ref ag, .ref ab])), (ag, .inl (cQ, 6, .inr (.inr (.inr (.inr (fun i9 => some (rw i9))))))), (rw 0, .inl (cI, 4, .inl (zu2 0))), (rw 1, .inl (cI, 4, .inl (zu2 1))), (rw 2, .inl (cI, 4, .inl (zu2 2))), (rw 3, .inl (cI, 4, .inl (zu2 3))), (rw 4, .inl (cI, 4, .inl (zu2 4))), (rw 5, .inl (cI, 4, .inl (zu2 5))), (ab, .inl (cI, 6, .inl (upd bd k bo))), (ou, .inl (cL, 1, .inr (.inl (vp_updL ov 0 ((nI k).toInt64)))))] := hD
  refine lv_goto (tgt := 27) hx hb dd_Law_limit_16 (by decide) ?_
  refine lv_iconst (v := 0) hx hb dd_Law_limit_27 (by decide) ?_
  exact W.iret (v := (0 : Int32)) hx hb hr (fun t ht hW => ⟨⟨(0 : Int32), zu2, rfl, ⟨rfl, p11.2⟩, by rw [ht]; exact hP, va_K.moved hW.alike hK, hD⟩, hS.F ht⟩) hS.2.2 dd_Law_limit_28
abbrev qq_Law_limitX (D : va_G) (cI cZ cL cQ : ClassId) (pl : Nat) (tl : Nat) (a : Nat) (mi : Nat) (sr : Nat) (tr : Nat) (pf : Nat) (xb : Nat) (so : Int32) (sl : Int32) (al : Nat) (am : Nat) (aw : Nat) (ac : Nat) (ag : Nat) (ab : Nat) (n : Nat) (k : Nat) (x0 : Int32) (x1 : Int32) (x2 : Int32) (x3 : Int32) (bo : Int32) (ou : Nat) (ov : Nat → Int64) (A : Nat → Prop) : Array Value → State → Outcome → State → Prop := va_Qi (fun (r : Int32) (u : Unit) => r = 1) (fun (u : Unit) t => mm_B D kc_all [(cI, .int), (cZ, .boolean), (cL, .long), (cQ, .array .int)] A [(pl, .inr (6, [.ref a, .ref mi, .ref sr, .ref tr, .ref pf, .ref xb, .ref tl, .int so, .int sl])), (a, .inr (0, [.int (nI n), .int (nI k), .ref al, .ref am, .ref aw, .ref ac, .ref ag, .ref ab])), (ou, .inl (cL, 1, .inr (.inl ov)))] t) A
set_option maxHeartbeats 4000000 in
set_option maxRecDepth 100000 in
theorem cc_Law_limitX (l : Launch) (hnt : l.stackTraces = false) (D : va_G) (cI cZ cL cQ : ClassId) (sz : Nat) (pl : Nat) (tl : Nat) (a : Nat) (mi : Nat) (sr : Nat) (tr : Nat) (pf : Nat) (xb : Nat) (so : Int32) (sl : Int32) (al : Nat) (am : Nat) (aw : Nat) (ac : Nat) (ag : Nat) (ab : Nat) (n : Nat) (k : Nat) (x0 : Int32) (x1 : Int32) (x2 : Int32) (x3 : Int32) (bo : Int32) (ou : Nat) (ov : Nat → Int64) (hn : n ≤ 4) (hk : k ≤ 6) (hno : ¬ lw_ok n x0 x1 x2 x3 bo 4) : Met l yy_Law_limit ww_Law_limit ({ frames := 7, cells := 1, slots := 6, locals := 107 } : Room) (mx_Pc D kc_all [(cI, .int), (cZ, .boolean), (cL, .long), (cQ, .array .int)] sz [(pl, .inr (6, [.ref a, .ref mi, .ref sr, .ref tr, .ref pf, .ref xb, .ref tl, .int so, .int sl])), (a, .inr (0, [.int (nI n), .int (nI k), .ref al, .ref am, .ref aw, .ref ac, .ref ag, .ref ab])), (ou, .inl (cL, 1, .inr (.inl ov)))] [.ref pl, .int x0, .int x1, .int x2, .int x3, .int bo, .ref ou]) (qq_Law_limitX D cI cZ cL cQ pl tl a mi sr tr pf xb so sl al am aw ac ag ab n k x0 x1 x2 x3 bo ou ov (va_A [(pl, .inr (6, [.ref a, .ref mi, .ref sr, .ref tr, .ref pf, .ref xb, .ref tl, .int so, .int sl])), (a, .inr (0, [.int (nI n), .int (nI k), .ref al, .ref am, .ref aw, .ref ac, .ref ag, .ref ab])), (ou, .inl (cL, 1, .inr (.inl ov)))] sz)) 1 6 (va_A [(pl, .inr (6, [.ref a, .ref mi, .ref sr, .ref tr, .ref pf, .ref xb, .ref tl, .int so, .int sl])), (a, .inr (0, [.int (nI n), .int (nI k), .ref al, .ref am, .ref aw, .ref ac, .ref ag, .ref ab])), (ou, .inl (cL, 1, .inr (.inl ov)))] sz) := by
  refine mx_MetW (cc := bb_Law_limit) (maxL := 8) (ret := (some .int)) (by decide) rfl ?_
  intro p e s m args below meth c s₁ B hml htab hv
  obtain ⟨rfl, hsz, hP, hK, hD0, hTr⟩ := hv
  have hx := B.exec
  have hb := B.bytes
  have hr := B.returns
  have hts := atoms_spec (ws := ww_Law_limit) B.pre
  have hown : s.vm.findClass RR_Law = some m.cls := findClass_of_methodNamed B.named
  have hlocks := B.notSynchronized
  subst hsz
  have hD := hD0.self (sz := s.heap.size)
  generalize hAe : va_A [(pl, .inr (6, [.ref a, .ref mi, .ref sr, .ref tr, .ref pf, .ref xb, .ref tl, .int so, .int sl])), (a, .inr (0, [.int (nI n), .int (nI k), .ref al, .ref am, .ref aw, .ref ac, .ref ag, .ref ab])), (ou, .inl (cL, 1, .inr (.inl ov)))] s.heap.size = A at hD ⊢
  have hA : ∀ q : Nat, s.heap.size ≤ q → A q := fun q h => by rw [← hAe]; exact Or.inr h
  have hS : va_S A s.heap s.heap [] := va_S.rf
  have hS0 : va_S (mx_A s.heap.size) s.heap s.heap [] := va_S.rf
  have hP : va_P D kc_all [(pl, .inr (6, [.ref a, .ref mi, .ref sr, .ref tr, .ref pf, .ref xb, .ref tl, .int so, .int sl])), (a, .inr (0, [.int (nI n), .int (nI k), .ref al, .ref am, .ref aw, .ref ac, .ref ag, .ref ab])), (ou, .inl (cL, 1, .inr (.inl ov)))] s.heap := hP
  have hl := lv_entry ([.ref pl, .int x0, .int x1, .int x2, .int x3, .int bo, .ref ou]) (n := 8) (Nat.le_of_ble_eq_true rfl)
  rw [lg_entry_eq]
  generalize (lg_sl ([.ref pl, .int x0, .int x1, .int x2, .int x3, .int bo, .ref ou]) ++ List.replicate (8 - (lg_sl ([.ref pl, .int x0, .int x1, .int x2, .int x3, .int bo, .ref ou])).length) Slot.unset).toArray = ls at hl ⊢
  have hl : lv_has ls 8 [(0, .ref pl), (1, .int x0), (2, .int x1), (3, .int x2), (4, .int x3), (5, .int bo), (6, .ref ou)] := hl
  have htb : ∀ w ∈ tb_all, w.before ([.ref pl, .int x0, .int x1, .int x2, .int x3, .int bo, .ref ou]).toArray s = true := fun w h => hts w (List.mem_cons_of_mem _ h)
  refine lv_aload hx hb dd_Law_limit_0 (lv_at hl 6 rfl) ?_
  refine lv_iconst (v := 0) hx hb dd_Law_limit_2 (by decide) ?_
  refine lv_aload_n hx hb dd_Law_limit_3 rfl (lv_at hl 0 rfl) ?_
  refine lv_iload_n hx hb dd_Law_limit_4 rfl (lv_at hl 1 rfl) ?_
  refine lv_iload_n hx hb dd_Law_limit_5 rfl (lv_at hl 2 rfl) ?_
  refine lv_iload_n hx hb dd_Law_limit_6 rfl (lv_at hl 3 rfl) ?_
  refine lv_iload hx hb dd_Law_limit_7 (lv_at hl 4 rfl) ?_
  refine lv_iload hx hb dd_Law_limit_9 (lv_at hl 5 rfl) ?_
  refine mx_cat htab [] (0, 16, 19, 13) [(0, 16, 23, 29)] rfl (mx_runV (As := [.int x0, .int x1, .int x2, .int x3, .int bo]) (rest := [.int (0 : Int32), .ref ou]) (C := RR_Planner) ⟨hx, hb, hml, hown, hts⟩ (cc_Planner_limitX l hnt D cI cZ cL cQ _ pl tl a mi sr tr pf xb so sl al am aw ac ag ab n k x0 x1 x2 x3 bo (hn) (hk) (hno)) (mm_cwV 5 hts ml_Law_25 im_Planner_limit se_Planner_limit ic_Planner cd_Planner_limit rfl rfl (by decide +kernel) ⟨Nat.le_of_ble_eq_true rfl, Nat.le_of_ble_eq_true rfl⟩) (mx_preV hTr hS0 hK hP hD [0, 1] (by decide) rfl 0 rfl rfl) rfl rfl hl.1 rfl (lv_room (Nat.le_of_ble_eq_true rfl)) dd_Law_limit_11 ⟨Nat.le_of_ble_eq_true rfl, Nat.le_of_ble_eq_true rfl⟩) hS hA hP hown (E := "java/lang/IllegalArgumentException") (fun _ h => h) (fun _ h => absurd h List.not_mem_nil) ⟨⟨by decide, by decide⟩, by decide⟩ (htb _ kl_Law_13) (ca_A hTr) (fun zx3 H locs hP hS => ?_)
  refine lv_astore (lv' := [(7, .ref zx3), (0, .ref pl), (1, .int x0), (2, .int x1), (3, .int x2), (4, .int x3), (5, .int bo), (6, .ref ou)]) hx hb dd_Law_limit_19 hl (by decide) rfl (fun ls hl => ?_)
  refine lv_iconst (v := 1) hx hb dd_Law_limit_21 (by decide) ?_
  exact W.iret (v := (1 : Int32)) hx hb hr (fun t ht hW => ⟨⟨(1 : Int32), (), rfl, rfl, by rw [ht]; exact hP, va_K.moved hW.alike hK, hD⟩, hS.F ht⟩) hS.2.2 dd_Law_limit_22
abbrev qq_Law_limitY (D : va_G) (cI cZ cL cQ : ClassId) (pl : Nat) (tl : Nat) (a : Nat) (mi : Nat) (sr : Nat) (tr : Nat) (pf : Nat) (xb : Nat) (so : Int32) (sl : Int32) (al : Nat) (am : Nat) (aw : Nat) (ac : Nat) (ag : Nat) (ab : Nat) (n : Nat) (k : Nat) (x0 : Int32) (x1 : Int32) (x2 : Int32) (x3 : Int32) (bo : Int32) (ou : Nat) (ov : Nat → Int64) (A : Nat → Prop) : Array Value → State → Outcome → State → Prop := va_Qi (fun (r : Int32) (u : Unit) => r = 2) (fun (u : Unit) t => mm_B D kc_all [(cI, .int), (cZ, .boolean), (cL, .long), (cQ, .array .int)] A [(pl, .inr (6, [.ref a, .ref mi, .ref sr, .ref tr, .ref pf, .ref xb, .ref tl, .int so, .int sl])), (a, .inr (0, [.int (nI n), .int (nI k), .ref al, .ref am, .ref aw, .ref ac, .ref ag, .ref ab])), (ou, .inl (cL, 1, .inr (.inl ov)))] t) A
set_option maxHeartbeats 4000000 in
set_option maxRecDepth 100000 in
theorem cc_Law_limitY (l : Launch) (hnt : l.stackTraces = false) (D : va_G) (cI cZ cL cQ : ClassId) (sz : Nat) (pl : Nat) (tl : Nat) (a : Nat) (mi : Nat) (sr : Nat) (tr : Nat) (pf : Nat) (xb : Nat) (so : Int32) (sl : Int32) (al : Nat) (am : Nat) (aw : Nat) (ac : Nat) (ag : Nat) (ab : Nat) (n : Nat) (k : Nat) (x0 : Int32) (x1 : Int32) (x2 : Int32) (x3 : Int32) (bo : Int32) (ou : Nat) (ov : Nat → Int64) (hn : n ≤ 4) (hk : k ≤ 6) (hok : lw_ok n x0 x1 x2 x3 bo 4 ∧ k = 6) : Met l yy_Law_limit ww_Law_limit ({ frames := 7, cells := 1, slots := 6, locals := 107 } : Room) (mx_Pc D kc_all [(cI, .int), (cZ, .boolean), (cL, .long), (cQ, .array .int)] sz [(pl, .inr (6, [.ref a, .ref mi, .ref sr, .ref tr, .ref pf, .ref xb, .ref tl, .int so, .int sl])), (a, .inr (0, [.int (nI n), .int (nI k), .ref al, .ref am, .ref aw, .ref ac, .ref ag, .ref ab])), (ou, .inl (cL, 1, .inr (.inl ov)))] [.ref pl, .int x0, .int x1, .int x2, .int x3, .int bo, .ref ou]) (qq_Law_limitY D cI cZ cL cQ pl tl a mi sr tr pf xb so sl al am aw ac ag ab n k x0 x1 x2 x3 bo ou ov (va_A [(pl, .inr (6, [.ref a, .ref mi, .ref sr, .ref tr, .ref pf, .ref xb, .ref tl, .int so, .int sl])), (a, .inr (0, [.int (nI n), .int (nI k), .ref al, .ref am, .ref aw, .ref ac, .ref ag, .ref ab])), (ou, .inl (cL, 1, .inr (.inl ov)))] sz)) 1 6 (va_A [(pl, .inr (6, [.ref a, .ref mi, .ref sr, .ref tr, .ref pf, .ref xb, .ref tl, .int so, .int sl])), (a, .inr (0, [.int (nI n), .int (nI k), .ref al, .ref am, .ref aw, .ref ac, .ref ag, .ref ab])), (ou, .inl (cL, 1, .inr (.inl ov)))] sz) := by
  refine mx_MetW (cc := bb_Law_limit) (maxL := 8) (ret := (some .int)) (by decide) rfl ?_
  intro p e s m args below meth c s₁ B hml htab hv
  obtain ⟨rfl, hsz, hP, hK, hD0, hTr⟩ := hv
  have hx := B.exec
  have hb := B.bytes
  have hr := B.returns
  have hts := atoms_spec (ws := ww_Law_limit) B.pre
  have hown : s.vm.findClass RR_Law = some m.cls := findClass_of_methodNamed B.named
  have hlocks := B.notSynchronized
  subst hsz
  have hD := hD0.self (sz := s.heap.size)
  generalize hAe : va_A [(pl, .inr (6, [.ref a, .ref mi, .ref sr, .ref tr, .ref pf, .ref xb, .ref tl, .int so, .int sl])), (a, .inr (0, [.int (nI n), .int (nI k), .ref al, .ref am, .ref aw, .ref ac, .ref ag, .ref ab])), (ou, .inl (cL, 1, .inr (.inl ov)))] s.heap.size = A at hD ⊢
  have hA : ∀ q : Nat, s.heap.size ≤ q → A q := fun q h => by rw [← hAe]; exact Or.inr h
  have hS : va_S A s.heap s.heap [] := va_S.rf
  have hS0 : va_S (mx_A s.heap.size) s.heap s.heap [] := va_S.rf
  have hP : va_P D kc_all [(pl, .inr (6, [.ref a, .ref mi, .ref sr, .ref tr, .ref pf, .ref xb, .ref tl, .int so, .int sl])), (a, .inr (0, [.int (nI n), .int (nI k), .ref al, .ref am, .ref aw, .ref ac, .ref ag, .ref ab])), (ou, .inl (cL, 1, .inr (.inl ov)))] s.heap := hP
  have hl := lv_entry ([.ref pl, .int x0, .int x1, .int x2, .int x3, .int bo, .ref ou]) (n := 8) (Nat.le_of_ble_eq_true rfl)
  rw [lg_entry_eq]
  generalize (lg_sl ([.ref pl, .int x0, .int x1, .int x2, .int x3, .int bo, .ref ou]) ++ List.replicate (8 - (lg_sl ([.ref pl, .int x0, .int x1, .int x2, .int x3, .int bo, .ref ou])).length) Slot.unset).toArray = ls at hl ⊢
  have hl : lv_has ls 8 [(0, .ref pl), (1, .int x0), (2, .int x1), (3, .int x2), (4, .int x3), (5, .int bo), (6, .ref ou)] := hl
  have htb : ∀ w ∈ tb_all, w.before ([.ref pl, .int x0, .int x1, .int x2, .int x3, .int bo, .ref ou]).toArray s = true := fun w h => hts w (List.mem_cons_of_mem _ h)
  refine lv_aload hx hb dd_Law_limit_0 (lv_at hl 6 rfl) ?_
  refine lv_iconst (v := 0) hx hb dd_Law_limit_2 (by decide) ?_
  refine lv_aload_n hx hb dd_Law_limit_3 rfl (lv_at hl 0 rfl) ?_
  refine lv_iload_n hx hb dd_Law_limit_4 rfl (lv_at hl 1 rfl) ?_
  refine lv_iload_n hx hb dd_Law_limit_5 rfl (lv_at hl 2 rfl) ?_
  refine lv_iload_n hx hb dd_Law_limit_6 rfl (lv_at hl 3 rfl) ?_
  refine lv_iload hx hb dd_Law_limit_7 (lv_at hl 4 rfl) ?_
  refine lv_iload hx hb dd_Law_limit_9 (lv_at hl 5 rfl) ?_
  refine mx_cat htab [(0, 16, 19, 13)] (0, 16, 23, 29) [] rfl (mx_runV (As := [.int x0, .int x1, .int x2, .int x3, .int bo]) (rest := [.int (0 : Int32), .ref ou]) (C := RR_Planner) ⟨hx, hb, hml, hown, hts⟩ (cc_Planner_limitY l hnt D cI cZ cL cQ _ pl tl a mi sr tr pf xb so sl al am aw ac ag ab n k x0 x1 x2 x3 bo (hn) (hk) (hok)) (mm_cwV 5 hts ml_Law_25 im_Planner_limit se_Planner_limit ic_Planner cd_Planner_limit rfl rfl (by decide +kernel) ⟨Nat.le_of_ble_eq_true rfl, Nat.le_of_ble_eq_true rfl⟩) (mx_preV hTr hS0 hK hP hD [0, 1] (by decide) rfl 0 rfl rfl) rfl rfl hl.1 rfl (lv_room (Nat.le_of_ble_eq_true rfl)) dd_Law_limit_11 ⟨Nat.le_of_ble_eq_true rfl, Nat.le_of_ble_eq_true rfl⟩) hS hA hP hown (E := "java/lang/IllegalStateException") (fun _ h => h) (List.forall_mem_cons.mpr ⟨⟨⟨by decide, by decide⟩, by decide, "java/lang/IllegalArgumentException", htb _ kl_Law_13, nc_CA hTr⟩, fun _ h => absurd h List.not_mem_nil⟩) ⟨⟨by decide, by decide⟩, by decide⟩ (htb _ kl_Law_29) (ca_C hTr) (fun zx3 H locs hP hS => ?_)
  refine lv_astore (lv' := [(7, .ref zx3), (0, .ref pl), (1, .int x0), (2, .int x1), (3, .int x2), (4, .int x3), (5, .int bo), (6, .ref ou)]) hx hb dd_Law_limit_23 hl (by decide) rfl (fun ls hl => ?_)
  refine lv_iconst (v := 2) hx hb dd_Law_limit_25 (by decide) ?_
  exact W.iret (v := (2 : Int32)) hx hb hr (fun t ht hW => ⟨⟨(2 : Int32), (), rfl, rfl, by rw [ht]; exact hP, va_K.moved hW.alike hK, hD⟩, hS.F ht⟩) hS.2.2 dd_Law_limit_26
abbrev qq_Law_drop (D : va_G) (cI cZ cL cQ : ClassId) (pl : Nat) (tl : Nat) (a : Nat) (mi : Nat) (sr : Nat) (tr : Nat) (pf : Nat) (xb : Nat) (so : Int32) (sl : Int32) (al : Nat) (am : Nat) (aw : Nat) (ac : Nat) (ag : Nat) (ab : Nat) (n : Nat) (k : Nat) (i : Nat) (rw : Nat → Nat) (M : Nat → Nat → Int32) (bd : Nat → Int32) (ou : Nat) (ov : Nat → Int64) (A : Nat → Prop) : Array Value → State → Outcome → State → Prop := va_Qi (fun (r : Int32) (u : (Nat → Nat → Int32) × (Nat → Int32)) => r = 0 ∧ rl_ok M u.1 bd u.2 i (k - 1)) (fun (u : (Nat → Nat → Int32) × (Nat → Int32)) t => mm_B D kc_all [(cI, .int), (cZ, .boolean), (cL, .long), (cQ, .array .int)] A [(pl, .inr (6, [.ref a, .ref mi, .ref sr, .ref tr, .ref pf, .ref xb, .ref tl, .int 0, .int sl])), (a, .inr (0, [.int (nI n), .int (nI (k - 1)), .ref al, .ref am, .ref aw, .ref ac, .ref ag, .ref ab])), (ag, .inl (cQ, 6, .inr (.inr (.inr (.inr (fun i9 => some (rw i9))))))), (rw 0, .inl (cI, 4, .inl (u.1 0))), (rw 1, .inl (cI, 4, .inl (u.1 1))), (rw 2, .inl (cI, 4, .inl (u.1 2))), (rw 3, .inl (cI, 4, .inl (u.1 3))), (rw 4, .inl (cI, 4, .inl (u.1 4))), (rw 5, .inl (cI, 4, .inl (u.1 5))), (ab, .inl (cI, 6, .inl u.2)), (ou, .inl (cL, 1, .inr (.inl (vp_updL ov 0 ((nI (k - 1)).toInt64)))))] t) A
set_option maxHeartbeats 4000000 in
set_option maxRecDepth 100000 in
theorem cc_Law_drop (l : Launch) (D : va_G) (cI cZ cL cQ : ClassId) (sz : Nat) (pl : Nat) (tl : Nat) (a : Nat) (mi : Nat) (sr : Nat) (tr : Nat) (pf : Nat) (xb : Nat) (so : Int32) (sl : Int32) (al : Nat) (am : Nat) (aw : Nat) (ac : Nat) (ag : Nat) (ab : Nat) (n : Nat) (k : Nat) (i : Nat) (rw : Nat → Nat) (M : Nat → Nat → Int32) (bd : Nat → Int32) (ou : Nat) (ov : Nat → Int64) (hk : k ≤ 6) (hi : i < k) : Met l yy_Law_drop ww_Law_drop ({ frames := 7, cells := 0, slots := 0, locals := 103 } : Room) (mm_Pc D kc_all [(cI, .int), (cZ, .boolean), (cL, .long), (cQ, .array .int)] sz [(pl, .inr (6, [.ref a, .ref mi, .ref sr, .ref tr, .ref pf, .ref xb, .ref tl, .int so, .int sl])), (a, .inr (0, [.int (nI n), .int (nI k), .ref al, .ref am, .ref aw, .ref ac, .ref ag, .ref ab])), (ag, .inl (cQ, 6, .inr (.inr (.inr (.inr (fun i9 => some (rw i9))))))), (rw 0, .inl (cI, 4, .inl (M 0))), (rw 1, .inl (cI, 4, .inl (M 1))), (rw 2, .inl (cI, 4, .inl (M 2))), (rw 3, .inl (cI, 4, .inl (M 3))), (rw 4, .inl (cI, 4, .inl (M 4))), (rw 5, .inl (cI, 4, .inl (M 5))), (ab, .inl (cI, 6, .inl bd)), (ou, .inl (cL, 1, .inr (.inl ov)))] [.ref pl, .int (nI i), .ref ou]) (qq_Law_drop D cI cZ cL cQ pl tl a mi sr tr pf xb so sl al am aw ac ag ab n k i rw M bd ou ov (va_A [(pl, .inr (6, [.ref a, .ref mi, .ref sr, .ref tr, .ref pf, .ref xb, .ref tl, .int so, .int sl])), (a, .inr (0, [.int (nI n), .int (nI k), .ref al, .ref am, .ref aw, .ref ac, .ref ag, .ref ab])), (ag, .inl (cQ, 6, .inr (.inr (.inr (.inr (fun i9 => some (rw i9))))))), (rw 0, .inl (cI, 4, .inl (M 0))), (rw 1, .inl (cI, 4, .inl (M 1))), (rw 2, .inl (cI, 4, .inl (M 2))), (rw 3, .inl (cI, 4, .inl (M 3))), (rw 4, .inl (cI, 4, .inl (M 4))), (rw 5, .inl (cI, 4, .inl (M 5))), (ab, .inl (cI, 6, .inl bd)), (ou, .inl (cL, 1, .inr (.inl ov)))] sz)) 0 0 (va_A [(pl, .inr (6, [.ref a, .ref mi, .ref sr, .ref tr, .ref pf, .ref xb, .ref tl, .int so, .int sl])), (a, .inr (0, [.int (nI n), .int (nI k), .ref al, .ref am, .ref aw, .ref ac, .ref ag, .ref ab])), (ag, .inl (cQ, 6, .inr (.inr (.inr (.inr (fun i9 => some (rw i9))))))), (rw 0, .inl (cI, 4, .inl (M 0))), (rw 1, .inl (cI, 4, .inl (M 1))), (rw 2, .inl (cI, 4, .inl (M 2))), (rw 3, .inl (cI, 4, .inl (M 3))), (rw 4, .inl (cI, 4, .inl (M 4))), (rw 5, .inl (cI, 4, .inl (M 5))), (ab, .inl (cI, 6, .inl bd)), (ou, .inl (cL, 1, .inr (.inl ov)))] sz) := by
  refine mx_MetW (cc := bb_Law_drop) (maxL := 4) (ret := (some .int)) (by decide) rfl ?_
  intro p e s m args below meth c s₁ B hml htab hv
  obtain ⟨rfl, hsz, hP, hK, hD0⟩ := hv
  have hx := B.exec
  have hb := B.bytes
  have hr := B.returns
  have hts := atoms_spec (ws := ww_Law_drop) B.pre
  have hown : s.vm.findClass RR_Law = some m.cls := findClass_of_methodNamed B.named
  have hlocks := B.notSynchronized
  subst hsz
  have hD := hD0.self (sz := s.heap.size)
  generalize hAe : va_A [(pl, .inr (6, [.ref a, .ref mi, .ref sr, .ref tr, .ref pf, .ref xb, .ref tl, .int so, .int sl])), (a, .inr (0, [.int (nI n), .int (nI k), .ref al, .ref am, .ref aw, .ref ac, .ref ag, .ref ab])), (ag, .inl (cQ, 6, .inr (.inr (.inr (.inr (fun i9 => some (rw i9))))))), (rw 0, .inl (cI, 4, .inl (M 0))), (rw 1, .inl (cI, 4, .inl (M 1))), (rw 2, .inl (cI, 4, .inl (M 2))), (rw 3, .inl (cI, 4, .inl (M 3))), (rw 4, .inl (cI, 4, .inl (M 4))), (rw 5, .inl (cI, 4, .inl (M 5))), (ab, .inl (cI, 6, .inl bd)), (ou, .inl (cL, 1, .inr (.inl ov)))] s.heap.size = A at hD ⊢
  have hA : ∀ q : Nat, s.heap.size ≤ q → A q := fun q h => by rw [← hAe]; exact Or.inr h
  have hS : va_S A s.heap s.heap [] := va_S.rf
  have hP : va_P D kc_all [(pl, .inr (6, [.ref a, .ref mi, .ref sr, .ref tr, .ref pf, .ref xb, .ref tl, .int so, .int sl])), (a, .inr (0, [.int (nI n), .int (nI k), .ref al, .ref am, .ref aw, .ref ac, .ref ag, .ref ab])), (ag, .inl (cQ, 6, .inr (.inr (.inr (.inr (fun i9 => some (rw i9))))))), (rw 0, .inl (cI, 4, .inl (M 0))), (rw 1, .inl (cI, 4, .inl (M 1))), (rw 2, .inl (cI, 4, .inl (M 2))), (rw 3, .inl (cI, 4, .inl (M 3))), (rw 4, .inl (cI, 4, .inl (M 4))), (rw 5, .inl (cI, 4, .inl (M 5))), (ab, .inl (cI, 6, .inl bd)), (ou, .inl (cL, 1, .inr (.inl ov)))] s.heap := hP
  have hl := lv_entry ([.ref pl, .int (nI i), .ref ou]) (n := 4) (Nat.le_of_ble_eq_true rfl)
  rw [lg_entry_eq]
  generalize (lg_sl ([.ref pl, .int (nI i), .ref ou]) ++ List.replicate (4 - (lg_sl ([.ref pl, .int (nI i), .ref ou])).length) Slot.unset).toArray = ls at hl ⊢
  have hl : lv_has ls 4 [(0, .ref pl), (1, .int (nI i)), (2, .ref ou)] := hl
  have htb : ∀ w ∈ tb_all, w.before ([.ref pl, .int (nI i), .ref ou]).toArray s = true := fun w h => hts w (List.mem_cons_of_mem _ h)
  refine lv_aload_n hx hb dd_Law_drop_0 rfl (lv_at hl 2 rfl) ?_
  refine lv_iconst (v := 0) hx hb dd_Law_drop_1 (by decide) ?_
  refine lv_aload_n hx hb dd_Law_drop_2 rfl (lv_at hl 0 rfl) ?_
  refine lv_iload_n hx hb dd_Law_drop_3 rfl (lv_at hl 1 rfl) ?_
  refine mm_i (wc := [(pl, .inr (6, [.ref a, .ref mi, .ref sr, .ref tr, .ref pf, .ref xb, .ref tl, .int so, .int sl])), (a, .inr (0, [.int (nI n), .int (nI k), .ref al, .ref am, .ref aw, .ref ac, .ref ag, .ref ab])), (ag, .inl (cQ, 6, .inr (.inr (.inr (.inr (fun i9 => some (rw i9))))))), (rw 0, .inl (cI, 4, .inl (M 0))), (rw 1, .inl (cI, 4, .inl (M 1))), (rw 2, .inl (cI, 4, .inl (M 2))), (rw 3, .inl (cI, 4, .inl (M 3))), (rw 4, .inl (cI, 4, .inl (M 4))), (rw 5, .inl (cI, 4, .inl (M 5))), (ab, .inl (cI, 6, .inl bd))]) (wr := [(ou, .inl (cL, 1, .inr (.inl ov)))]) (va_runV (As := [.int (nI i)]) (rest := [.int (0 : Int32), .ref ou]) (C := RR_Planner) ⟨hx, hb, hml, hown, hts⟩ (cc_Planner_drop l D cI cZ cL cQ _ pl tl a mi sr tr pf xb so sl al am aw ac ag ab n k i rw M bd (hk) (hi)) (mm_cwV 1 hts ml_Law_31 im_Planner_drop se_Planner_drop ic_Planner cd_Planner_drop rfl rfl (by decide +kernel) ⟨Nat.le_of_ble_eq_true rfl, Nat.le_of_ble_eq_true rfl⟩) (mm_preV hK hP hD [0, 1, 2, 3, 4, 5, 6, 7, 8, 9] (by decide) rfl 0 rfl rfl) rfl rfl hl.1 rfl (lv_room (Nat.le_of_ble_eq_true rfl)) dd_Law_drop_4 ⟨Nat.zero_le _, Nat.zero_le _⟩) hP hD hS hA [0, 1, 2, 3, 4, 5, 6, 7, 8, 9] [10] rfl rfl (by decide) (by decide) (fun zr1 zu2 H locs p4 hP hD hS => ?_)
  have hP : va_P D kc_all [(ou, .inl (cL, 1, .inr (.inl ov))), (pl, .inr (6, [.ref a, .ref mi, .ref sr, .ref tr, .ref pf, .ref xb, .ref tl, .int 0, .int sl])), (a, .inr (0, [.int (nI n), .int (nI (k - 1)), .ref al, .ref am, .ref aw, .ref ac, .ref ag, .ref ab])), (ag, .inl (cQ, 6, .inr (.inr (.inr (.inr (fun i9 => some (rw i9))))))), (rw 0, .inl (cI, 4, .inl (zu2.1 0))), (rw 1, .inl (cI, 4, .inl (zu2.1 1))), (rw 2, .inl (cI, 4, .inl (zu2.1 2))), (rw 3, .inl (cI, 4, .inl (zu2.1 3))), (rw 4, .inl (cI, 4, .inl (zu2.1 4))), (rw 5, .inl (cI, 4, .inl (zu2.1 5))), (ab, .inl (cI, 6, .inl zu2.2))] H := hP
  have hD : va_D A [(ou, .inl (cL, 1, .inr (.inl ov))), (pl, .inr (6, [.ref a, .ref mi, .ref sr, .ref tr, .ref pf, .ref xb, .ref tl, .int 0, .int sl])), (a, .inr (0, [.int (nI n), .int (nI (k - 1)), .ref al, .ref am, .ref aw, .ref ac, .ref ag, .ref ab])), (ag, .inl (cQ, 6, .inr (.inr (.inr (.inr (fun i9 => some (rw i9))))))), (rw 0, .inl (cI, 4, .inl (zu2.1 0))), (rw 1, .inl (cI, 4, .inl (zu2.1 1))), (rw 2, .inl (cI, 4, .inl (zu2.1 2))), (rw 3, .inl (cI, 4, .inl (zu2.1 3))), (rw 4, .inl (cI, 4, .inl (zu2.1 4))), (rw 5, .inl (cI, 4, .inl (zu2.1 5))), (ab, .inl (cI, 6, .inl zu2.2))] := hD
  have hP : va_P D kc_all [(pl, .inr (6, [.ref a, .ref mi, .ref sr, .ref tr, .ref pf, .ref xb, .ref tl, .int 0, .int sl])), (a, .inr (0, [.int (nI n), .int (nI (k - 1)), .ref al, .ref am, .ref aw, .ref ac, .ref ag, .ref ab])), (ag, .inl (cQ, 6, .inr (.inr (.inr (.inr (fun i9 => some (rw i9))))))), (rw 0, .inl (cI, 4, .inl (zu2.1 0))), (rw 1, .inl (cI, 4, .inl (zu2.1 1))), (rw 2, .inl (cI, 4, .inl (zu2.1 2))), (rw 3, .inl (cI, 4, .inl (zu2.1 3))), (rw 4, .inl (cI, 4, .inl (zu2.1 4))), (rw 5, .inl (cI, 4, .inl (zu2.1 5))), (ab, .inl (cI, 6, .inl zu2.2)), (ou, .inl (cL, 1, .inr (.inl ov)))] H := hP.sub [1, 2, 3, 4, 5, 6, 7, 8, 9, 10, 0] rfl
  have hD : va_D A [(pl, .inr (6, [.ref a, .ref mi, .ref sr, .ref tr, .ref pf, .ref xb, .ref tl, .int 0, .int sl])), (a, .inr (0, [.int (nI n), .int (nI (k - 1)), .ref al, .ref am, .ref aw, .ref ac, .ref ag, .ref ab])), (ag, .inl (cQ, 6, .inr (.inr (.inr (.inr (fun i9 => some (rw i9))))))), (rw 0, .inl (cI, 4, .inl (zu2.1 0))), (rw 1, .inl (cI, 4, .inl (zu2.1 1))), (rw 2, .inl (cI, 4, .inl (zu2.1 2))), (rw 3, .inl (cI, 4, .inl (zu2.1 3))), (rw 4, .inl (cI, 4, .inl (zu2.1 4))), (rw 5, .inl (cI, 4, .inl (zu2.1 5))), (ab, .inl (cI, 6, .inl zu2.2)), (ou, .inl (cL, 1, .inr (.inl ov)))] := hD.sub [1, 2, 3, 4, 5, 6, 7, 8, 9, 10, 0] (by decide) rfl
  have p4 : zr1 = nI (k - 1) ∧ rl_ok M zu2.1 bd zu2.2 i (k - 1) := p4
  refine mm_topi (y := nI (k - 1)) (p4.1) ?_
  refine lv_i2l (v := (nI (k - 1)).toInt64) hx hb dd_Law_drop_7 rfl ?_
  refine mm_last hx hb hK hP hD hS 10 2 rfl rfl (0) (rfl) (by omega) (by first | decide | omega) dd_Law_drop_8 (fun H locs hP hD hS => ?_)
  have hP : va_P D kc_all [(pl, .inr (6, [.ref a, .ref mi, .ref sr, .ref tr, .ref pf, .ref xb, .ref tl, .int 0, .int sl])), (a, .inr (0, [.int (nI n), .int (nI (k - 1)), .ref al, .ref am, .ref aw, .ref ac, .ref ag, .ref ab])), (ag, .inl (cQ, 6, .inr (.inr (.inr (.inr (fun i9 => some (rw i9))))))), (rw 0, .inl (cI, 4, .inl (zu2.1 0))), (rw 1, .inl (cI, 4, .inl (zu2.1 1))), (rw 2, .inl (cI, 4, .inl (zu2.1 2))), (rw 3, .inl (cI, 4, .inl (zu2.1 3))), (rw 4, .inl (cI, 4, .inl (zu2.1 4))), (rw 5, .inl (cI, 4, .inl (zu2.1 5))), (ab, .inl (cI, 6, .inl zu2.2)), (ou, .inl (cL, 1, .inr (.inl (vp_updL ov 0 ((nI (k - 1)).toInt64)))))] H := hP
  have hD : va_D A [(pl, .inr (6, [.ref a, .ref mi, .ref sr, .ref tr, .ref pf, .ref xb, .ref tl, .int 0, .int sl])), (a, .inr (0, [.int (nI n), .int (nI (k - 1)), .ref al, .ref am, .ref aw, .ref ac, .ref ag, .ref ab])), (ag, .inl (cQ, 6, .inr (.inr (.inr (.inr (fun i9 => some (rw i9))))))), (rw 0, .inl (cI, 4, .inl (zu2.1 0))), (rw 1, .inl (cI, 4, .inl (zu2.1 1))), (rw 2, .inl (cI, 4, .inl (zu2.1 2))), (rw 3, .inl (cI, 4, .inl (zu2.1 3))), (rw 4, .inl (cI, 4, .inl (zu2.1 4))), (rw 5, .inl (cI, 4, .inl (zu2.1 5))), (ab, .inl (cI, 6, .inl zu2.2)), (ou, .inl (cL, 1, .inr (.inl (vp_updL ov 0 ((nI (k - 1)).toInt64)))))] := hD
  refine lv_goto (tgt := 15) hx hb dd_Law_drop_9 (by decide) ?_
  refine lv_iconst (v := 0) hx hb dd_Law_drop_15 (by decide) ?_
  exact W.iret (v := (0 : Int32)) hx hb hr (fun t ht hW => ⟨⟨(0 : Int32), (zu2.1, zu2.2), rfl, ⟨rfl, p4.2⟩, by rw [ht]; exact hP, va_K.moved hW.alike hK, hD⟩, hS.F ht⟩) hS.2.2 dd_Law_drop_16
abbrev qq_Law_dropX (D : va_G) (cI cZ cL cQ : ClassId) (pl : Nat) (tl : Nat) (a : Nat) (mi : Nat) (sr : Nat) (tr : Nat) (pf : Nat) (xb : Nat) (so : Int32) (sl : Int32) (al : Nat) (am : Nat) (aw : Nat) (ac : Nat) (ag : Nat) (ab : Nat) (n : Nat) (k : Nat) (iv : Int32) (ou : Nat) (ov : Nat → Int64) (A : Nat → Prop) : Array Value → State → Outcome → State → Prop := va_Qi (fun (r : Int32) (u : Unit) => r = 1) (fun (u : Unit) t => mm_B D kc_all [(cI, .int), (cZ, .boolean), (cL, .long), (cQ, .array .int)] A [(pl, .inr (6, [.ref a, .ref mi, .ref sr, .ref tr, .ref pf, .ref xb, .ref tl, .int so, .int sl])), (a, .inr (0, [.int (nI n), .int (nI k), .ref al, .ref am, .ref aw, .ref ac, .ref ag, .ref ab])), (ou, .inl (cL, 1, .inr (.inl ov)))] t) A
set_option maxHeartbeats 4000000 in
set_option maxRecDepth 100000 in
theorem cc_Law_dropX (l : Launch) (hnt : l.stackTraces = false) (D : va_G) (cI cZ cL cQ : ClassId) (sz : Nat) (pl : Nat) (tl : Nat) (a : Nat) (mi : Nat) (sr : Nat) (tr : Nat) (pf : Nat) (xb : Nat) (so : Int32) (sl : Int32) (al : Nat) (am : Nat) (aw : Nat) (ac : Nat) (ag : Nat) (ab : Nat) (n : Nat) (k : Nat) (iv : Int32) (ou : Nat) (ov : Nat → Int64) (hno : ¬ (0 ≤ iv ∧ iv < nI k)) : Met l yy_Law_drop ww_Law_drop ({ frames := 7, cells := 1, slots := 6, locals := 103 } : Room) (mx_Pc D kc_all [(cI, .int), (cZ, .boolean), (cL, .long), (cQ, .array .int)] sz [(pl, .inr (6, [.ref a, .ref mi, .ref sr, .ref tr, .ref pf, .ref xb, .ref tl, .int so, .int sl])), (a, .inr (0, [.int (nI n), .int (nI k), .ref al, .ref am, .ref aw, .ref ac, .ref ag, .ref ab])), (ou, .inl (cL, 1, .inr (.inl ov)))] [.ref pl, .int iv, .ref ou]) (qq_Law_dropX D cI cZ cL cQ pl tl a mi sr tr pf xb so sl al am aw ac ag ab n k iv ou ov (va_A [(pl, .inr (6, [.ref a, .ref mi, .ref sr, .ref tr, .ref pf, .ref xb, .ref tl, .int so, .int sl])), (a, .inr (0, [.int (nI n), .int (nI k), .ref al, .ref am, .ref aw, .ref ac, .ref ag, .ref ab])), (ou, .inl (cL, 1, .inr (.inl ov)))] sz)) 1 6 (va_A [(pl, .inr (6, [.ref a, .ref mi, .ref sr, .ref tr, .ref pf, .ref xb, .ref tl, .int so, .int sl])), (a, .inr (0, [.int (nI n), .int (nI k), .ref al, .ref am, .ref aw, .ref ac, .ref ag, .ref ab])), (ou, .inl (cL, 1, .inr (.inl ov)))] sz) := by
  refine mx_MetW (cc := bb_Law_drop) (maxL := 4) (ret := (some .int)) (by decide) rfl ?_
  intro p e s m args below meth c s₁ B hml htab hv
  obtain ⟨rfl, hsz, hP, hK, hD0, hTr⟩ := hv
  have hx := B.exec
  have hb := B.bytes
  have hr := B.returns
  have hts := atoms_spec (ws := ww_Law_drop) B.pre
  have hown : s.vm.findClass RR_Law = some m.cls := findClass_of_methodNamed B.named
  have hlocks := B.notSynchronized
  subst hsz
  have hD := hD0.self (sz := s.heap.size)
  generalize hAe : va_A [(pl, .inr (6, [.ref a, .ref mi, .ref sr, .ref tr, .ref pf, .ref xb, .ref tl, .int so, .int sl])), (a, .inr (0, [.int (nI n), .int (nI k), .ref al, .ref am, .ref aw, .ref ac, .ref ag, .ref ab])), (ou, .inl (cL, 1, .inr (.inl ov)))] s.heap.size = A at hD ⊢
  have hA : ∀ q : Nat, s.heap.size ≤ q → A q := fun q h => by rw [← hAe]; exact Or.inr h
  have hS : va_S A s.heap s.heap [] := va_S.rf
  have hS0 : va_S (mx_A s.heap.size) s.heap s.heap [] := va_S.rf
  have hP : va_P D kc_all [(pl, .inr (6, [.ref a, .ref mi, .ref sr, .ref tr, .ref pf, .ref xb, .ref tl, .int so, .int sl])), (a, .inr (0, [.int (nI n), .int (nI k), .ref al, .ref am, .ref aw, .ref ac, .ref ag, .ref ab])), (ou, .inl (cL, 1, .inr (.inl ov)))] s.heap := hP
  have hl := lv_entry ([.ref pl, .int iv, .ref ou]) (n := 4) (Nat.le_of_ble_eq_true rfl)
  rw [lg_entry_eq]
  generalize (lg_sl ([.ref pl, .int iv, .ref ou]) ++ List.replicate (4 - (lg_sl ([.ref pl, .int iv, .ref ou])).length) Slot.unset).toArray = ls at hl ⊢
  have hl : lv_has ls 4 [(0, .ref pl), (1, .int iv), (2, .ref ou)] := hl
  have htb : ∀ w ∈ tb_all, w.before ([.ref pl, .int iv, .ref ou]).toArray s = true := fun w h => hts w (List.mem_cons_of_mem _ h)
  refine lv_aload_n hx hb dd_Law_drop_0 rfl (lv_at hl 2 rfl) ?_
  refine lv_iconst (v := 0) hx hb dd_Law_drop_1 (by decide) ?_
  refine lv_aload_n hx hb dd_Law_drop_2 rfl (lv_at hl 0 rfl) ?_
  refine lv_iload_n hx hb dd_Law_drop_3 rfl (lv_at hl 1 rfl) ?_
  refine mx_cat htab [] (0, 9, 12, 19) [] rfl (mx_runV (As := [.int iv]) (rest := [.int (0 : Int32), .ref ou]) (C := RR_Planner) ⟨hx, hb, hml, hown, hts⟩ (cc_Planner_dropX l hnt D cI cZ cL cQ _ pl tl a mi sr tr pf xb so sl al am aw ac ag ab n k iv (hno)) (mm_cwV 1 hts ml_Law_31 im_Planner_drop se_Planner_drop ic_Planner cd_Planner_drop rfl rfl (by decide +kernel) ⟨Nat.le_of_ble_eq_true rfl, Nat.le_of_ble_eq_true rfl⟩) (mx_preV hTr hS0 hK hP hD [0, 1] (by decide) rfl 0 rfl rfl) rfl rfl hl.1 rfl (lv_room (Nat.le_of_ble_eq_true rfl)) dd_Law_drop_4 ⟨Nat.le_of_ble_eq_true rfl, Nat.le_of_ble_eq_true rfl⟩) hS hA hP hown (E := "java/lang/IndexOutOfBoundsException") (fun _ h => h) (fun _ h => absurd h List.not_mem_nil) ⟨⟨by decide, by decide⟩, by decide⟩ (htb _ kl_Law_19) (ca_B hTr) (fun zx3 H locs hP hS => ?_)
  refine lv_astore_n (lv' := [(3, .ref zx3), (0, .ref pl), (1, .int iv), (2, .ref ou)]) hx hb dd_Law_drop_12 rfl hl (by decide) rfl (fun ls hl => ?_)
  refine lv_iconst (v := 1) hx hb dd_Law_drop_13 (by decide) ?_
  exact W.iret (v := (1 : Int32)) hx hb hr (fun t ht hW => ⟨⟨(1 : Int32), (), rfl, rfl, by rw [ht]; exact hP, va_K.moved hW.alike hK, hD⟩, hS.F ht⟩) hS.2.2 dd_Law_drop_14
abbrev qq_Law_total (D : va_G) (cI cZ cL cQ : ClassId) (pl : Nat) (tl : Nat) (a : Nat) (mi : Nat) (sr : Nat) (tr : Nat) (pf : Nat) (xb : Nat) (so : Int32) (sl : Int32) (sb : Nat) (sq : Nat) (sx : Nat) (sy : Nat) (fo : Int32) (dv : Int32) (cs : Int32) (lz : Int32) (wv : Int32) (ou : Nat) (ov : Nat → Int64) (A : Nat → Prop) : Array Value → State → Outcome → State → Prop := va_Qi (fun (r : Int32) (u : Unit) => r = 0) (fun (u : Unit) t => mm_B D kc_all [(cI, .int), (cZ, .boolean), (cL, .long), (cQ, .array .int)] A [(pl, .inr (6, [.ref a, .ref mi, .ref sr, .ref tr, .ref pf, .ref xb, .ref tl, .int so, .int sl])), (sr, .inr (2, [.int fo, .ref sb, .int dv, .int cs, .int lz, .ref sq, .ref sx, .ref sy])), (ou, .inl (cL, 1, .inr (.inl (vp_updL ov 0 ((pt_f cs dv wv).toInt64)))))] t) A
set_option maxHeartbeats 4000000 in
set_option maxRecDepth 100000 in
theorem cc_Law_total (l : Launch) (D : va_G) (cI cZ cL cQ : ClassId) (sz : Nat) (pl : Nat) (tl : Nat) (a : Nat) (mi : Nat) (sr : Nat) (tr : Nat) (pf : Nat) (xb : Nat) (so : Int32) (sl : Int32) (sb : Nat) (sq : Nat) (sx : Nat) (sy : Nat) (fo : Int32) (dv : Int32) (cs : Int32) (lz : Int32) (wv : Int32) (ou : Nat) (ov : Nat → Int64) (hw : wv = 0 ∨ wv = 1) (hok : ¬ so = 0 ∧ ¬ fo = 0) : Met l yy_Law_total ww_Law_total ({ frames := 8, cells := 0, slots := 0, locals := 123 } : Room) (mm_Pc D kc_all [(cI, .int), (cZ, .boolean), (cL, .long), (cQ, .array .int)] sz [(pl, .inr (6, [.ref a, .ref mi, .ref sr, .ref tr, .ref pf, .ref xb, .ref tl, .int so, .int sl])), (sr, .inr (2, [.int fo, .ref sb, .int dv, .int cs, .int lz, .ref sq, .ref sx, .ref sy])), (ou, .inl (cL, 1, .inr (.inl ov)))] [.ref pl, .int wv, .ref ou]) (qq_Law_total D cI cZ cL cQ pl tl a mi sr tr pf xb so sl sb sq sx sy fo dv cs lz wv ou ov (va_A [(pl, .inr (6, [.ref a, .ref mi, .ref sr, .ref tr, .ref pf, .ref xb, .ref tl, .int so, .int sl])), (sr, .inr (2, [.int fo, .ref sb, .int dv, .int cs, .int lz, .ref sq, .ref sx, .ref sy])), (ou, .inl (cL, 1, .inr (.inl ov)))] sz)) 0 0 (va_A [(pl, .inr (6, [.ref a, .ref mi, .ref sr, .ref tr, .ref pf, .ref xb, .ref tl, .int so, .int sl])), (sr, .inr (2, [.int fo, .ref sb, .int dv, .int cs, .int lz, .ref sq, .ref sx, .ref sy])), (ou, .inl (cL, 1, .inr (.inl ov)))] sz) := by
  refine mx_MetW (cc := bb_Law_total) (maxL := 4) (ret := (some .int)) (by decide) rfl ?_
  intro p e s m args below meth c s₁ B hml htab hv
  obtain ⟨rfl, hsz, hP, hK, hD0⟩ := hv
  have hx := B.exec
  have hb := B.bytes
  have hr := B.returns
  have hts := atoms_spec (ws := ww_Law_total) B.pre
  have hown : s.vm.findClass RR_Law = some m.cls := findClass_of_methodNamed B.named
  have hlocks := B.notSynchronized
  subst hsz
  have hD := hD0.self (sz := s.heap.size)
  generalize hAe : va_A [(pl, .inr (6, [.ref a, .ref mi, .ref sr, .ref tr, .ref pf, .ref xb, .ref tl, .int so, .int sl])), (sr, .inr (2, [.int fo, .ref sb, .int dv, .int cs, .int lz, .ref sq, .ref sx, .ref sy])), (ou, .inl (cL, 1, .inr (.inl ov)))] s.heap.size = A at hD ⊢
  have hA : ∀ q : Nat, s.heap.size ≤ q → A q := fun q h => by rw [← hAe]; exact Or.inr h
  have hS : va_S A s.heap s.heap [] := va_S.rf
  have hP : va_P D kc_all [(pl, .inr (6, [.ref a, .ref mi, .ref sr, .ref tr, .ref pf, .ref xb, .ref tl, .int so, .int sl])), (sr, .inr (2, [.int fo, .ref sb, .int dv, .int cs, .int lz, .ref sq, .ref sx, .ref sy])), (ou, .inl (cL, 1, .inr (.inl ov)))] s.heap := hP
  have hl := lv_entry ([.ref pl, .int wv, .ref ou]) (n := 4) (Nat.le_of_ble_eq_true rfl)
  rw [lg_entry_eq]
  generalize (lg_sl ([.ref pl, .int wv, .ref ou]) ++ List.replicate (4 - (lg_sl ([.ref pl, .int wv, .ref ou])).length) Slot.unset).toArray = ls at hl ⊢
  have hl : lv_has ls 4 [(0, .ref pl), (1, .int wv), (2, .ref ou)] := hl
  have htb : ∀ w ∈ tb_all, w.before ([.ref pl, .int wv, .ref ou]).toArray s = true := fun w h => hts w (List.mem_cons_of_mem _ h)
  refine lv_aload_n hx hb dd_Law_total_0 rfl (lv_at hl 2 rfl) ?_
  refine lv_iconst (v := 0) hx hb dd_Law_total_1 (by decide) ?_
  refine lv_aload_n hx hb dd_Law_total_2 rfl (lv_at hl 0 rfl) ?_
  refine lv_iload_n hx hb dd_Law_total_3 rfl (lv_at hl 1 rfl) ?_
  refine mm_i (wc := [(pl, .inr (6, [.ref a, .ref mi, .ref sr, .ref tr, .ref pf, .ref xb, .ref tl, .int so, .int sl])), (sr, .inr (2, [.int fo, .ref sb, .int dv, .int cs, .int lz, .ref sq, .ref sx, .ref sy]))]) (wr := [(ou, .inl (cL, 1, .inr (.inl ov)))]) (va_runV (As := [.int wv]) (rest := [.int (0 : Int32), .ref ou]) (C := RR_Planner) ⟨hx, hb, hml, hown, hts⟩ (cc_Planner_total l D cI cZ cL cQ _ pl tl a mi sr tr pf xb so sl sb sq sx sy fo dv cs lz wv (hw) (hok)) (mm_cwV 1 hts ml_Law_35 im_Planner_total se_Planner_total ic_Planner cd_Planner_total rfl rfl (by decide +kernel) ⟨Nat.le_of_ble_eq_true rfl, Nat.le_of_ble_eq_true rfl⟩) (mm_preV hK hP hD [0, 1] (by decide) rfl 0 rfl rfl) rfl rfl hl.1 rfl (lv_room (Nat.le_of_ble_eq_true rfl)) dd_Law_total_4 ⟨Nat.zero_le _, Nat.zero_le _⟩) hP hD hS hA [0, 1] [2] rfl rfl (by decide) (by decide) (fun zr1 zu2 H locs p4 hP hD hS => ?_)
  have hP : va_P D kc_all [(ou, .inl (cL, 1, .inr (.inl ov))), (pl, .inr (6, [.ref a, .ref mi, .ref sr, .ref tr, .ref pf, .ref xb, .ref tl, .int so, .int sl])), (sr, .inr (2, [.int fo, .ref sb, .int dv, .int cs, .int lz, .ref sq, .ref sx, .ref sy]))] H := hP
  have hD : va_D A [(ou, .inl (cL, 1, .inr (.inl ov))), (pl, .inr (6, [.ref a, .ref mi, .ref sr, .ref tr, .ref pf, .ref xb, .ref tl, .int so, .int sl])), (sr, .inr (2, [.int fo, .ref sb, .int dv, .int cs, .int lz, .ref sq, .ref sx, .ref sy]))] := hD
  have hP : va_P D kc_all [(pl, .inr (6, [.ref a, .ref mi, .ref sr, .ref tr, .ref pf, .ref xb, .ref tl, .int so, .int sl])), (sr, .inr (2, [.int fo, .ref sb, .int dv, .int cs, .int lz, .ref sq, .ref sx, .ref sy])), (ou, .inl (cL, 1, .inr (.inl ov)))] H := hP.sub [1, 2, 0] rfl
  have hD : va_D A [(pl, .inr (6, [.ref a, .ref mi, .ref sr, .ref tr, .ref pf, .ref xb, .ref tl, .int so, .int sl])), (sr, .inr (2, [.int fo, .ref sb, .int dv, .int cs, .int lz, .ref sq, .ref sx, .ref sy])), (ou, .inl (cL, 1, .inr (.inl ov)))] := hD.sub [1, 2, 0] (by decide) rfl
  have p4 : zr1 = pt_f cs dv wv := p4
  refine mm_topi (y := pt_f cs dv wv) (p4) ?_
  refine lv_i2l (v := (pt_f cs dv wv).toInt64) hx hb dd_Law_total_7 rfl ?_
  refine mm_last hx hb hK hP hD hS 2 2 rfl rfl (0) (rfl) (by omega) (by first | decide | omega) dd_Law_total_8 (fun H locs hP hD hS => ?_)
  have hP : va_P D kc_all [(pl, .inr (6, [.ref a, .ref mi, .ref sr, .ref tr, .ref pf, .ref xb, .ref tl, .int so, .int sl])), (sr, .inr (2, [.int fo, .ref sb, .int dv, .int cs, .int lz, .ref sq, .ref sx, .ref sy])), (ou, .inl (cL, 1, .inr (.inl (vp_updL ov 0 ((pt_f cs dv wv).toInt64)))))] H := hP
  have hD : va_D A [(pl, .inr (6, [.ref a, .ref mi, .ref sr, .ref tr, .ref pf, .ref xb, .ref tl, .int so, .int sl])), (sr, .inr (2, [.int fo, .ref sb, .int dv, .int cs, .int lz, .ref sq, .ref sx, .ref sy])), (ou, .inl (cL, 1, .inr (.inl (vp_updL ov 0 ((pt_f cs dv wv).toInt64)))))] := hD
  refine lv_goto (tgt := 18) hx hb dd_Law_total_9 (by decide) ?_
  refine lv_iconst (v := 0) hx hb dd_Law_total_18 (by decide) ?_
  exact W.iret (v := (0 : Int32)) hx hb hr (fun t ht hW => ⟨⟨(0 : Int32), (), rfl, rfl, by rw [ht]; exact hP, va_K.moved hW.alike hK, hD⟩, hS.F ht⟩) hS.2.2 dd_Law_total_19
abbrev qq_Law_totalX (D : va_G) (cI cZ cL cQ : ClassId) (pl : Nat) (tl : Nat) (a : Nat) (mi : Nat) (sr : Nat) (tr : Nat) (pf : Nat) (xb : Nat) (so : Int32) (sl : Int32) (sb : Nat) (sq : Nat) (sx : Nat) (sy : Nat) (fo : Int32) (dv : Int32) (cs : Int32) (lz : Int32) (wv : Int32) (ou : Nat) (ov : Nat → Int64) (A : Nat → Prop) : Array Value → State → Outcome → State → Prop := va_Qi (fun (r : Int32) (u : Unit) => r = 1) (fun (u : Unit) t => mm_B D kc_all [(cI, .int), (cZ, .boolean), (cL, .long), (cQ, .array .int)] A [(pl, .inr (6, [.ref a, .ref mi, .ref sr, .ref tr, .ref pf, .ref xb, .ref tl, .int so, .int sl])), (sr, .inr (2, [.int fo, .ref sb, .int dv, .int cs, .int lz, .ref sq, .ref sx, .ref sy])), (ou, .inl (cL, 1, .inr (.inl ov)))] t) A
set_option maxHeartbeats 4000000 in
set_option maxRecDepth 100000 in
theorem cc_Law_totalX (l : Launch) (hnt : l.stackTraces = false) (D : va_G) (cI cZ cL cQ : ClassId) (sz : Nat) (pl : Nat) (tl : Nat) (a : Nat) (mi : Nat) (sr : Nat) (tr : Nat) (pf : Nat) (xb : Nat) (so : Int32) (sl : Int32) (sb : Nat) (sq : Nat) (sx : Nat) (sy : Nat) (fo : Int32) (dv : Int32) (cs : Int32) (lz : Int32) (wv : Int32) (ou : Nat) (ov : Nat → Int64) (hno : ¬ (wv = 0 ∨ wv = 1)) : Met l yy_Law_total ww_Law_total ({ frames := 8, cells := 1, slots := 6, locals := 123 } : Room) (mx_Pc D kc_all [(cI, .int), (cZ, .boolean), (cL, .long), (cQ, .array .int)] sz [(pl, .inr (6, [.ref a, .ref mi, .ref sr, .ref tr, .ref pf, .ref xb, .ref tl, .int so, .int sl])), (sr, .inr (2, [.int fo, .ref sb, .int dv, .int cs, .int lz, .ref sq, .ref sx, .ref sy])), (ou, .inl (cL, 1, .inr (.inl ov)))] [.ref pl, .int wv, .ref ou]) (qq_Law_totalX D cI cZ cL cQ pl tl a mi sr tr pf xb so sl sb sq sx sy fo dv cs lz wv ou ov (va_A [(pl, .inr (6, [.ref a, .ref mi, .ref sr, .ref tr, .ref pf, .ref xb, .ref tl, .int so, .int sl])), (sr, .inr (2, [.int fo, .ref sb, .int dv, .int cs, .int lz, .ref sq, .ref sx, .ref sy])), (ou, .inl (cL, 1, .inr (.inl ov)))] sz)) 1 6 (va_A [(pl, .inr (6, [.ref a, .ref mi, .ref sr, .ref tr, .ref pf, .ref xb, .ref tl, .int so, .int sl])), (sr, .inr (2, [.int fo, .ref sb, .int dv, .int cs, .int lz, .ref sq, .ref sx, .ref sy])), (ou, .inl (cL, 1, .inr (.inl ov)))] sz) := by
  refine mx_MetW (cc := bb_Law_total) (maxL := 4) (ret := (some .int)) (by decide) rfl ?_
  intro p e s m args below meth c s₁ B hml htab hv
  obtain ⟨rfl, hsz, hP, hK, hD0, hTr⟩ := hv
  have hx := B.exec
  have hb := B.bytes
  have hr := B.returns
  have hts := atoms_spec (ws := ww_Law_total) B.pre
  have hown : s.vm.findClass RR_Law = some m.cls := findClass_of_methodNamed B.named
  have hlocks := B.notSynchronized
  subst hsz
  have hD := hD0.self (sz := s.heap.size)
  generalize hAe : va_A [(pl, .inr (6, [.ref a, .ref mi, .ref sr, .ref tr, .ref pf, .ref xb, .ref tl, .int so, .int sl])), (sr, .inr (2, [.int fo, .ref sb, .int dv, .int cs, .int lz, .ref sq, .ref sx, .ref sy])), (ou, .inl (cL, 1, .inr (.inl ov)))] s.heap.size = A at hD ⊢
  have hA : ∀ q : Nat, s.heap.size ≤ q → A q := fun q h => by rw [← hAe]; exact Or.inr h
  have hS : va_S A s.heap s.heap [] := va_S.rf
  have hS0 : va_S (mx_A s.heap.size) s.heap s.heap [] := va_S.rf
  have hP : va_P D kc_all [(pl, .inr (6, [.ref a, .ref mi, .ref sr, .ref tr, .ref pf, .ref xb, .ref tl, .int so, .int sl])), (sr, .inr (2, [.int fo, .ref sb, .int dv, .int cs, .int lz, .ref sq, .ref sx, .ref sy])), (ou, .inl (cL, 1, .inr (.inl ov)))] s.heap := hP
  have hl := lv_entry ([.ref pl, .int wv, .ref ou]) (n := 4) (Nat.le_of_ble_eq_true rfl)
  rw [lg_entry_eq]
  generalize (lg_sl ([.ref pl, .int wv, .ref ou]) ++ List.replicate (4 - (lg_sl ([.ref pl, .int wv, .ref ou])).length) Slot.unset).toArray = ls at hl ⊢
  have hl : lv_has ls 4 [(0, .ref pl), (1, .int wv), (2, .ref ou)] := hl
  have htb : ∀ w ∈ tb_all, w.before ([.ref pl, .int wv, .ref ou]).toArray s = true := fun w h => hts w (List.mem_cons_of_mem _ h)
  refine lv_aload_n hx hb dd_Law_total_0 rfl (lv_at hl 2 rfl) ?_
  refine lv_iconst (v := 0) hx hb dd_Law_total_1 (by decide) ?_
  refine lv_aload_n hx hb dd_Law_total_2 rfl (lv_at hl 0 rfl) ?_
  refine lv_iload_n hx hb dd_Law_total_3 rfl (lv_at hl 1 rfl) ?_
  refine mx_cat htab [] (0, 9, 12, 13) [(0, 9, 15, 29)] rfl (mx_runV (As := [.int wv]) (rest := [.int (0 : Int32), .ref ou]) (C := RR_Planner) ⟨hx, hb, hml, hown, hts⟩ (cc_Planner_totalX l hnt D cI cZ cL cQ _ pl tl a mi sr tr pf xb so sl sb sq sx sy fo dv cs lz wv (hno)) (mm_cwV 1 hts ml_Law_35 im_Planner_total se_Planner_total ic_Planner cd_Planner_total rfl rfl (by decide +kernel) ⟨Nat.le_of_ble_eq_true rfl, Nat.le_of_ble_eq_true rfl⟩) (mx_preV hTr hS0 hK hP hD [0, 1] (by decide) rfl 0 rfl rfl) rfl rfl hl.1 rfl (lv_room (Nat.le_of_ble_eq_true rfl)) dd_Law_total_4 ⟨Nat.le_of_ble_eq_true rfl, Nat.le_of_ble_eq_true rfl⟩) hS hA hP hown (E := "java/lang/IllegalArgumentException") (fun _ h => h) (fun _ h => absurd h List.not_mem_nil) ⟨⟨by decide, by decide⟩, by decide⟩ (htb _ kl_Law_13) (ca_A hTr) (fun zx3 H locs hP hS => ?_)
  refine lv_astore_n (lv' := [(3, .ref zx3), (0, .ref pl), (1, .int wv), (2, .ref ou)]) hx hb dd_Law_total_12 rfl hl (by decide) rfl (fun ls hl => ?_)
  refine lv_iconst (v := 1) hx hb dd_Law_total_13 (by decide) ?_
  exact W.iret (v := (1 : Int32)) hx hb hr (fun t ht hW => ⟨⟨(1 : Int32), (), rfl, rfl, by rw [ht]; exact hP, va_K.moved hW.alike hK, hD⟩, hS.F ht⟩) hS.2.2 dd_Law_total_14
abbrev qq_Law_totalY (D : va_G) (cI cZ cL cQ : ClassId) (pl : Nat) (tl : Nat) (a : Nat) (mi : Nat) (sr : Nat) (tr : Nat) (pf : Nat) (xb : Nat) (so : Int32) (sl : Int32) (sb : Nat) (sq : Nat) (sx : Nat) (sy : Nat) (fo : Int32) (dv : Int32) (cs : Int32) (lz : Int32) (wv : Int32) (ou : Nat) (ov : Nat → Int64) (A : Nat → Prop) : Array Value → State → Outcome → State → Prop := va_Qi (fun (r : Int32) (u : Unit) => r = 2) (fun (u : Unit) t => mm_B D kc_all [(cI, .int), (cZ, .boolean), (cL, .long), (cQ, .array .int)] A [(pl, .inr (6, [.ref a, .ref mi, .ref sr, .ref tr, .ref pf, .ref xb, .ref tl, .int so, .int sl])), (sr, .inr (2, [.int fo, .ref sb, .int dv, .int cs, .int lz, .ref sq, .ref sx, .ref sy])), (ou, .inl (cL, 1, .inr (.inl ov)))] t) A
set_option maxHeartbeats 4000000 in
set_option maxRecDepth 100000 in
theorem cc_Law_totalY (l : Launch) (hnt : l.stackTraces = false) (D : va_G) (cI cZ cL cQ : ClassId) (sz : Nat) (pl : Nat) (tl : Nat) (a : Nat) (mi : Nat) (sr : Nat) (tr : Nat) (pf : Nat) (xb : Nat) (so : Int32) (sl : Int32) (sb : Nat) (sq : Nat) (sx : Nat) (sy : Nat) (fo : Int32) (dv : Int32) (cs : Int32) (lz : Int32) (wv : Int32) (ou : Nat) (ov : Nat → Int64) (hw : wv = 0 ∨ wv = 1) (hno : ¬ (¬ so = 0 ∧ ¬ fo = 0)) : Met l yy_Law_total ww_Law_total ({ frames := 8, cells := 1, slots := 6, locals := 123 } : Room) (mx_Pc D kc_all [(cI, .int), (cZ, .boolean), (cL, .long), (cQ, .array .int)] sz [(pl, .inr (6, [.ref a, .ref mi, .ref sr, .ref tr, .ref pf, .ref xb, .ref tl, .int so, .int sl])), (sr, .inr (2, [.int fo, .ref sb, .int dv, .int cs, .int lz, .ref sq, .ref sx, .ref sy])), (ou, .inl (cL, 1, .inr (.inl ov)))] [.ref pl, .int wv, .ref ou]) (qq_Law_totalY D cI cZ cL cQ pl tl a mi sr tr pf xb so sl sb sq sx sy fo dv cs lz wv ou ov (va_A [(pl, .inr (6, [.ref a, .ref mi, .ref sr, .ref tr, .ref pf, .ref xb, .ref tl, .int so, .int sl])), (sr, .inr (2, [.int fo, .ref sb, .int dv, .int cs, .int lz, .ref sq, .ref sx, .ref sy])), (ou, .inl (cL, 1, .inr (.inl ov)))] sz)) 1 6 (va_A [(pl, .inr (6, [.ref a, .ref mi, .ref sr, .ref tr, .ref pf, .ref xb, .ref tl, .int so, .int sl])), (sr, .inr (2, [.int fo, .ref sb, .int dv, .int cs, .int lz, .ref sq, .ref sx, .ref sy])), (ou, .inl (cL, 1, .inr (.inl ov)))] sz) := by
  refine mx_MetW (cc := bb_Law_total) (maxL := 4) (ret := (some .int)) (by decide) rfl ?_
  intro p e s m args below meth c s₁ B hml htab hv
  obtain ⟨rfl, hsz, hP, hK, hD0, hTr⟩ := hv
  have hx := B.exec
  have hb := B.bytes
  have hr := B.returns
  have hts := atoms_spec (ws := ww_Law_total) B.pre
  have hown : s.vm.findClass RR_Law = some m.cls := findClass_of_methodNamed B.named
  have hlocks := B.notSynchronized
  subst hsz
  have hD := hD0.self (sz := s.heap.size)
  generalize hAe : va_A [(pl, .inr (6, [.ref a, .ref mi, .ref sr, .ref tr, .ref pf, .ref xb, .ref tl, .int so, .int sl])), (sr, .inr (2, [.int fo, .ref sb, .int dv, .int cs, .int lz, .ref sq, .ref sx, .ref sy])), (ou, .inl (cL, 1, .inr (.inl ov)))] s.heap.size = A at hD ⊢
  have hA : ∀ q : Nat, s.heap.size ≤ q → A q := fun q h => by rw [← hAe]; exact Or.inr h
  have hS : va_S A s.heap s.heap [] := va_S.rf
  have hS0 : va_S (mx_A s.heap.size) s.heap s.heap [] := va_S.rf
  have hP : va_P D kc_all [(pl, .inr (6, [.ref a, .ref mi, .ref sr, .ref tr, .ref pf, .ref xb, .ref tl, .int so, .int sl])), (sr, .inr (2, [.int fo, .ref sb, .int dv, .int cs, .int lz, .ref sq, .ref sx, .ref sy])), (ou, .inl (cL, 1, .inr (.inl ov)))] s.heap := hP
  have hl := lv_entry ([.ref pl, .int wv, .ref ou]) (n := 4) (Nat.le_of_ble_eq_true rfl)
  rw [lg_entry_eq]
  generalize (lg_sl ([.ref pl, .int wv, .ref ou]) ++ List.replicate (4 - (lg_sl ([.ref pl, .int wv, .ref ou])).length) Slot.unset).toArray = ls at hl ⊢
  have hl : lv_has ls 4 [(0, .ref pl), (1, .int wv), (2, .ref ou)] := hl
  have htb : ∀ w ∈ tb_all, w.before ([.ref pl, .int wv, .ref ou]).toArray s = true := fun w h => hts w (List.mem_cons_of_mem _ h)
  refine lv_aload_n hx hb dd_Law_total_0 rfl (lv_at hl 2 rfl) ?_
  refine lv_iconst (v := 0) hx hb dd_Law_total_1 (by decide) ?_
  refine lv_aload_n hx hb dd_Law_total_2 rfl (lv_at hl 0 rfl) ?_
  refine lv_iload_n hx hb dd_Law_total_3 rfl (lv_at hl 1 rfl) ?_
  refine mx_cat htab [(0, 9, 12, 13)] (0, 9, 15, 29) [] rfl (mx_runV (As := [.int wv]) (rest := [.int (0 : Int32), .ref ou]) (C := RR_Planner) ⟨hx, hb, hml, hown, hts⟩ (cc_Planner_totalY l hnt D cI cZ cL cQ _ pl tl a mi sr tr pf xb so sl sb sq sx sy fo dv cs lz wv (hw) (hno)) (mm_cwV 1 hts ml_Law_35 im_Planner_total se_Planner_total ic_Planner cd_Planner_total rfl rfl (by decide +kernel) ⟨Nat.le_of_ble_eq_true rfl, Nat.le_of_ble_eq_true rfl⟩) (mx_preV hTr hS0 hK hP hD [0, 1] (by decide) rfl 0 rfl rfl) rfl rfl hl.1 rfl (lv_room (Nat.le_of_ble_eq_true rfl)) dd_Law_total_4 ⟨Nat.le_of_ble_eq_true rfl, Nat.le_of_ble_eq_true rfl⟩) hS hA hP hown (E := "java/lang/IllegalStateException") (fun _ h => h) (List.forall_mem_cons.mpr ⟨⟨⟨by decide, by decide⟩, by decide, "java/lang/IllegalArgumentException", htb _ kl_Law_13, nc_CA hTr⟩, fun _ h => absurd h List.not_mem_nil⟩) ⟨⟨by decide, by decide⟩, by decide⟩ (htb _ kl_Law_29) (ca_C hTr) (fun zx3 H locs hP hS => ?_)
  refine lv_astore_n (lv' := [(3, .ref zx3), (0, .ref pl), (1, .int wv), (2, .ref ou)]) hx hb dd_Law_total_15 rfl hl (by decide) rfl (fun ls hl => ?_)
  refine lv_iconst (v := 2) hx hb dd_Law_total_16 (by decide) ?_
  exact W.iret (v := (2 : Int32)) hx hb hr (fun t ht hW => ⟨⟨(2 : Int32), (), rfl, rfl, by rw [ht]; exact hP, va_K.moved hW.alike hK, hD⟩, hS.F ht⟩) hS.2.2 dd_Law_total_17
abbrev qq_Law_plan (D : va_G) (cI cZ cL cQ : ClassId) (pl : Nat) (tl : Nat) (a : Nat) (mi : Nat) (sr : Nat) (tr : Nat) (pf : Nat) (xb : Nat) (so : Int32) (sl : Int32) (al : Nat) (am : Nat) (aw : Nat) (ac : Nat) (ag : Nat) (ab : Nat) (n : Nat) (k : Nat) (sb : Nat) (sq : Nat) (sx : Nat) (sy : Nat) (fo : Int32) (dv : Int32) (cs : Int32) (lz : Int32) (j : Nat) (wv : Int32) (best : Nat → Int32) (ou : Nat) (ov : Nat → Int64) (A : Nat → Prop) : Array Value → State → Outcome → State → Prop := va_Qi (fun (r : Int32) (u : Unit) => r = 0) (fun (u : Unit) t => mm_B D kc_all [(cI, .int), (cZ, .boolean), (cL, .long), (cQ, .array .int)] A [(pl, .inr (6, [.ref a, .ref mi, .ref sr, .ref tr, .ref pf, .ref xb, .ref tl, .int so, .int sl])), (a, .inr (0, [.int (nI n), .int (nI k), .ref al, .ref am, .ref aw, .ref ac, .ref ag, .ref ab])), (sr, .inr (2, [.int fo, .ref sb, .int dv, .int cs, .int lz, .ref sq, .ref sx, .ref sy])), (sb, .inl (cI, 4, .inl best)), (ou, .inl (cL, 1, .inr (.inl (vp_updL ov 0 ((pt_f (best j) dv wv).toInt64)))))] t) A
set_option maxHeartbeats 4000000 in
set_option maxRecDepth 100000 in
theorem cc_Law_plan (l : Launch) (D : va_G) (cI cZ cL cQ : ClassId) (sz : Nat) (pl : Nat) (tl : Nat) (a : Nat) (mi : Nat) (sr : Nat) (tr : Nat) (pf : Nat) (xb : Nat) (so : Int32) (sl : Int32) (al : Nat) (am : Nat) (aw : Nat) (ac : Nat) (ag : Nat) (ab : Nat) (n : Nat) (k : Nat) (sb : Nat) (sq : Nat) (sx : Nat) (sy : Nat) (fo : Int32) (dv : Int32) (cs : Int32) (lz : Int32) (j : Nat) (wv : Int32) (best : Nat → Int32) (ou : Nat) (ov : Nat → Int64) (hn : 1 ≤ n ∧ n ≤ 4) (hj : j < n) (hw : wv = 0 ∨ wv = 1) (hok : ¬ so = 0 ∧ ¬ fo = 0) : Met l yy_Law_plan ww_Law_plan ({ frames := 8, cells := 0, slots := 0, locals := 125 } : Room) (mm_Pc D kc_all [(cI, .int), (cZ, .boolean), (cL, .long), (cQ, .array .int)] sz [(pl, .inr (6, [.ref a, .ref mi, .ref sr, .ref tr, .ref pf, .ref xb, .ref tl, .int so, .int sl])), (a, .inr (0, [.int (nI n), .int (nI k), .ref al, .ref am, .ref aw, .ref ac, .ref ag, .ref ab])), (sr, .inr (2, [.int fo, .ref sb, .int dv, .int cs, .int lz, .ref sq, .ref sx, .ref sy])), (sb, .inl (cI, 4, .inl best)), (ou, .inl (cL, 1, .inr (.inl ov)))] [.ref pl, .int (nI j), .int wv, .ref ou]) (qq_Law_plan D cI cZ cL cQ pl tl a mi sr tr pf xb so sl al am aw ac ag ab n k sb sq sx sy fo dv cs lz j wv best ou ov (va_A [(pl, .inr (6, [.ref a, .ref mi, .ref sr, .ref tr, .ref pf, .ref xb, .ref tl, .int so, .int sl])), (a, .inr (0, [.int (nI n), .int (nI k), .ref al, .ref am, .ref aw, .ref ac, .ref ag, .ref ab])), (sr, .inr (2, [.int fo, .ref sb, .int dv, .int cs, .int lz, .ref sq, .ref sx, .ref sy])), (sb, .inl (cI, 4, .inl best)), (ou, .inl (cL, 1, .inr (.inl ov)))] sz)) 0 0 (va_A [(pl, .inr (6, [.ref a, .ref mi, .ref sr, .ref tr, .ref pf, .ref xb, .ref tl, .int so, .int sl])), (a, .inr (0, [.int (nI n), .int (nI k), .ref al, .ref am, .ref aw, .ref ac, .ref ag, .ref ab])), (sr, .inr (2, [.int fo, .ref sb, .int dv, .int cs, .int lz, .ref sq, .ref sx, .ref sy])), (sb, .inl (cI, 4, .inl best)), (ou, .inl (cL, 1, .inr (.inl ov)))] sz) := by
  refine mx_MetW (cc := bb_Law_plan) (maxL := 5) (ret := (some .int)) (by decide) rfl ?_
  intro p e s m args below meth c s₁ B hml htab hv
  obtain ⟨rfl, hsz, hP, hK, hD0⟩ := hv
  have hx := B.exec
  have hb := B.bytes
  have hr := B.returns
  have hts := atoms_spec (ws := ww_Law_plan) B.pre
  have hown : s.vm.findClass RR_Law = some m.cls := findClass_of_methodNamed B.named
  have hlocks := B.notSynchronized
  subst hsz
  have hD := hD0.self (sz := s.heap.size)
  generalize hAe : va_A [(pl, .inr (6, [.ref a, .ref mi, .ref sr, .ref tr, .ref pf, .ref xb, .ref tl, .int so, .int sl])), (a, .inr (0, [.int (nI n), .int (nI k), .ref al, .ref am, .ref aw, .ref ac, .ref ag, .ref ab])), (sr, .inr (2, [.int fo, .ref sb, .int dv, .int cs, .int lz, .ref sq, .ref sx, .ref sy])), (sb, .inl (cI, 4, .inl best)), (ou, .inl (cL, 1, .inr (.inl ov)))] s.heap.size = A at hD ⊢
  have hA : ∀ q : Nat, s.heap.size ≤ q → A q := fun q h => by rw [← hAe]; exact Or.inr h
  have hS : va_S A s.heap s.heap [] := va_S.rf
  have hP : va_P D kc_all [(pl, .inr (6, [.ref a, .ref mi, .ref sr, .ref tr, .ref pf, .ref xb, .ref tl, .int so, .int sl])), (a, .inr (0, [.int (nI n), .int (nI k), .ref al, .ref am, .ref aw, .ref ac, .ref ag, .ref ab])), (sr, .inr (2, [.int fo, .ref sb, .int dv, .int cs, .int lz, .ref sq, .ref sx, .ref sy])), (sb, .inl (cI, 4, .inl best)), (ou, .inl (cL, 1, .inr (.inl ov)))] s.heap := hP
  have hl := lv_entry ([.ref pl, .int (nI j), .int wv, .ref ou]) (n := 5) (Nat.le_of_ble_eq_true rfl)
  rw [lg_entry_eq]
  generalize (lg_sl ([.ref pl, .int (nI j), .int wv, .ref ou]) ++ List.replicate (5 - (lg_sl ([.ref pl, .int (nI j), .int wv, .ref ou])).length) Slot.unset).toArray = ls at hl ⊢
  have hl : lv_has ls 5 [(0, .ref pl), (1, .int (nI j)), (2, .int wv), (3, .ref ou)] := hl
  have htb : ∀ w ∈ tb_all, w.before ([.ref pl, .int (nI j), .int wv, .ref ou]).toArray s = true := fun w h => hts w (List.mem_cons_of_mem _ h)
  refine lv_aload_n hx hb dd_Law_plan_0 rfl (lv_at hl 3 rfl) ?_
  refine lv_iconst (v := 0) hx hb dd_Law_plan_1 (by decide) ?_
  refine lv_aload_n hx hb dd_Law_plan_2 rfl (lv_at hl 0 rfl) ?_
  refine lv_iload_n hx hb dd_Law_plan_3 rfl (lv_at hl 1 rfl) ?_
  refine lv_iload_n hx hb dd_Law_plan_4 rfl (lv_at hl 2 rfl) ?_
  refine mm_i (wc := [(pl, .inr (6, [.ref a, .ref mi, .ref sr, .ref tr, .ref pf, .ref xb, .ref tl, .int so, .int sl])), (a, .inr (0, [.int (nI n), .int (nI k), .ref al, .ref am, .ref aw, .ref ac, .ref ag, .ref ab])), (sr, .inr (2, [.int fo, .ref sb, .int dv, .int cs, .int lz, .ref sq, .ref sx, .ref sy])), (sb, .inl (cI, 4, .inl best))]) (wr := [(ou, .inl (cL, 1, .inr (.inl ov)))]) (va_runV (As := [.int (nI j), .int wv]) (rest := [.int (0 : Int32), .ref ou]) (C := RR_Planner) ⟨hx, hb, hml, hown, hts⟩ (cc_Planner_plan l D cI cZ cL cQ _ pl tl a mi sr tr pf xb so sl al am aw ac ag ab n k sb sq sx sy fo dv cs lz j wv best (hn) (hj) (hw) (hok)) (mm_cwV 2 hts ml_Law_38 im_Planner_plan se_Planner_plan ic_Planner cd_Planner_plan rfl rfl (by decide +kernel) ⟨Nat.le_of_ble_eq_true rfl, Nat.le_of_ble_eq_true rfl⟩) (mm_preV hK hP hD [0, 1, 2, 3] (by decide) rfl 0 rfl rfl) rfl rfl hl.1 rfl (lv_room (Nat.le_of_ble_eq_true rfl)) dd_Law_plan_5 ⟨Nat.zero_le _, Nat.zero_le _⟩) hP hD hS hA [0, 1, 2, 3] [4] rfl rfl (by decide) (by decide) (fun zr1 zu2 H locs p5 hP hD hS => ?_)
  have hP : va_P D kc_all [(ou, .inl (cL, 1, .inr (.inl ov))), (pl, .inr (6, [.ref a, .ref mi, .ref sr, .ref tr, .ref pf, .ref xb, .ref tl, .int so, .int sl])), (a, .inr (0, [.int (nI n), .int (nI k), .ref al, .ref am, .ref aw, .ref ac, .ref ag, .ref ab])), (sr, .inr (2, [.int fo, .ref sb, .int dv, .int cs, .int lz, .ref sq, .ref sx, .ref sy])), (sb, .inl (cI, 4, .inl best))] H := hP
  have hD : va_D A [(ou, .inl (cL, 1, .inr (.inl ov))), (pl, .inr (6, [.ref a, .ref mi, .ref sr, .ref tr, .ref pf, .ref xb, .ref tl, .int so, .int sl])), (a, .inr (0, [.int (nI n), .int (nI k), .ref al, .ref am, .ref aw, .ref ac, .ref ag, .ref ab])), (sr, .inr (2, [.int fo, .ref sb, .int dv, .int cs, .int lz, .ref sq, .ref sx, .ref sy])), (sb, .inl (cI, 4, .inl best))] := hD
  have hP : va_P D kc_all [(pl, .inr (6, [.ref a, .ref mi, .ref sr, .ref tr, .ref pf, .ref xb, .ref tl, .int so, .int sl])), (a, .inr (0, [.int (nI n), .int (nI k), .ref al, .ref am, .ref aw, .ref ac, .ref ag, .ref ab])), (sr, .inr (2, [.int fo, .ref sb, .int dv, .int cs, .int lz, .ref sq, .ref sx, .ref sy])), (sb, .inl (cI, 4, .inl best)), (ou, .inl (cL, 1, .inr (.inl ov)))] H := hP.sub [1, 2, 3, 4, 0] rfl
  have hD : va_D A [(pl, .inr (6, [.ref a, .ref mi, .ref sr, .ref tr, .ref pf, .ref xb, .ref tl, .int so, .int sl])), (a, .inr (0, [.int (nI n), .int (nI k), .ref al, .ref am, .ref aw, .ref ac, .ref ag, .ref ab])), (sr, .inr (2, [.int fo, .ref sb, .int dv, .int cs, .int lz, .ref sq, .ref sx, .ref sy])), (sb, .inl (cI, 4, .inl best)), (ou, .inl (cL, 1, .inr (.inl ov)))] := hD.sub [1, 2, 3, 4, 0] (by decide) rfl
  have p5 : zr1 = pt_f (best j) dv wv := p5
  refine mm_topi (y := pt_f (best j) dv wv) (p5) ?_
  refine lv_i2l (v := (pt_f (best j) dv wv).toInt64) hx hb dd_Law_plan_8 rfl ?_
  refine mm_last hx hb hK hP hD hS 4 2 rfl rfl (0) (rfl) (by omega) (by first | decide | omega) dd_Law_plan_9 (fun H locs hP hD hS => ?_)
  have hP : va_P D kc_all [(pl, .inr (6, [.ref a, .ref mi, .ref sr, .ref tr, .ref pf, .ref xb, .ref tl, .int so, .int sl])), (a, .inr (0, [.int (nI n), .int (nI k), .ref al, .ref am, .ref aw, .ref ac, .ref ag, .ref ab])), (sr, .inr (2, [.int fo, .ref sb, .int dv, .int cs, .int lz, .ref sq, .ref sx, .ref sy])), (sb, .inl (cI, 4, .inl best)), (ou, .inl (cL, 1, .inr (.inl (vp_updL ov 0 ((pt_f (best j) dv wv).toInt64)))))] H := hP
  have hD : va_D A [(pl, .inr (6, [.ref a, .ref mi, .ref sr, .ref tr, .ref pf, .ref xb, .ref tl, .int so, .int sl])), (a, .inr (0, [.int (nI n), .int (nI k), .ref al, .ref am, .ref aw, .ref ac, .ref ag, .ref ab])), (sr, .inr (2, [.int fo, .ref sb, .int dv, .int cs, .int lz, .ref sq, .ref sx, .ref sy])), (sb, .inl (cI, 4, .inl best)), (ou, .inl (cL, 1, .inr (.inl (vp_updL ov 0 ((pt_f (best j) dv wv).toInt64)))))] := hD
  refine lv_goto (tgt := 25) hx hb dd_Law_plan_10 (by decide) ?_
  refine lv_iconst (v := 0) hx hb dd_Law_plan_25 (by decide) ?_
  exact W.iret (v := (0 : Int32)) hx hb hr (fun t ht hW => ⟨⟨(0 : Int32), (), rfl, rfl, by rw [ht]; exact hP, va_K.moved hW.alike hK, hD⟩, hS.F ht⟩) hS.2.2 dd_Law_plan_26
abbrev qq_Law_planX (D : va_G) (cI cZ cL cQ : ClassId) (pl : Nat) (tl : Nat) (a : Nat) (mi : Nat) (sr : Nat) (tr : Nat) (pf : Nat) (xb : Nat) (so : Int32) (sl : Int32) (al : Nat) (am : Nat) (aw : Nat) (ac : Nat) (ag : Nat) (ab : Nat) (n : Nat) (k : Nat) (sb : Nat) (sq : Nat) (sx : Nat) (sy : Nat) (fo : Int32) (dv : Int32) (cs : Int32) (lz : Int32) (jv : Int32) (wv : Int32) (ou : Nat) (ov : Nat → Int64) (A : Nat → Prop) : Array Value → State → Outcome → State → Prop := va_Qi (fun (r : Int32) (u : Unit) => r = 1) (fun (u : Unit) t => mm_B D kc_all [(cI, .int), (cZ, .boolean), (cL, .long), (cQ, .array .int)] A [(pl, .inr (6, [.ref a, .ref mi, .ref sr, .ref tr, .ref pf, .ref xb, .ref tl, .int so, .int sl])), (a, .inr (0, [.int (nI n), .int (nI k), .ref al, .ref am, .ref aw, .ref ac, .ref ag, .ref ab])), (sr, .inr (2, [.int fo, .ref sb, .int dv, .int cs, .int lz, .ref sq, .ref sx, .ref sy])), (ou, .inl (cL, 1, .inr (.inl ov)))] t) A
set_option maxHeartbeats 4000000 in
set_option maxRecDepth 100000 in
theorem cc_Law_planX (l : Launch) (hnt : l.stackTraces = false) (D : va_G) (cI cZ cL cQ : ClassId) (sz : Nat) (pl : Nat) (tl : Nat) (a : Nat) (mi : Nat) (sr : Nat) (tr : Nat) (pf : Nat) (xb : Nat) (so : Int32) (sl : Int32) (al : Nat) (am : Nat) (aw : Nat) (ac : Nat) (ag : Nat) (ab : Nat) (n : Nat) (k : Nat) (sb : Nat) (sq : Nat) (sx : Nat) (sy : Nat) (fo : Int32) (dv : Int32) (cs : Int32) (lz : Int32) (jv : Int32) (wv : Int32) (ou : Nat) (ov : Nat → Int64) (hno : ¬ (0 ≤ jv ∧ jv < nI n)) : Met l yy_Law_plan ww_Law_plan ({ frames := 8, cells := 1, slots := 6, locals := 125 } : Room) (mx_Pc D kc_all [(cI, .int), (cZ, .boolean), (cL, .long), (cQ, .array .int)] sz [(pl, .inr (6, [.ref a, .ref mi, .ref sr, .ref tr, .ref pf, .ref xb, .ref tl, .int so, .int sl])), (a, .inr (0, [.int (nI n), .int (nI k), .ref al, .ref am, .ref aw, .ref ac, .ref ag, .ref ab])), (sr, .inr (2, [.int fo, .ref sb, .int dv, .int cs, .int lz, .ref sq, .ref sx, .ref sy])), (ou, .inl (cL, 1, .inr (.inl ov)))] [.ref pl, .int jv, .int wv, .ref ou]) (qq_Law_planX D cI cZ cL cQ pl tl a mi sr tr pf xb so sl al am aw ac ag ab n k sb sq sx sy fo dv cs lz jv wv ou ov (va_A [(pl, .inr (6, [.ref a, .ref mi, .ref sr, .ref tr, .ref pf, .ref xb, .ref tl, .int so, .int sl])), (a, .inr (0, [.int (nI n), .int (nI k), .ref al, .ref am, .ref aw, .ref ac, .ref ag, .ref ab])), (sr, .inr (2, [.int fo, .ref sb, .int dv, .int cs, .int lz, .ref sq, .ref sx, .ref sy])), (ou, .inl (cL, 1, .inr (.inl ov)))] sz)) 1 6 (va_A [(pl, .inr (6, [.ref a, .ref mi, .ref sr, .ref tr, .ref pf, .ref xb, .ref tl, .int so, .int sl])), (a, .inr (0, [.int (nI n), .int (nI k), .ref al, .ref am, .ref aw, .ref ac, .ref ag, .ref ab])), (sr, .inr (2, [.int fo, .ref sb, .int dv, .int cs, .int lz, .ref sq, .ref sx, .ref sy])), (ou, .inl (cL, 1, .inr (.inl ov)))] sz) := by
  refine mx_MetW (cc := bb_Law_plan) (maxL := 5) (ret := (some .int)) (by decide) rfl ?_
  intro p e s m args below meth c s₁ B hml htab hv
  obtain ⟨rfl, hsz, hP, hK, hD0, hTr⟩ := hv
  have hx := B.exec
  have hb := B.bytes
  have hr := B.returns
  have hts := atoms_spec (ws := ww_Law_plan) B.pre
  have hown : s.vm.findClass RR_Law = some m.cls := findClass_of_methodNamed B.named
  have hlocks := B.notSynchronized
  subst hsz
  have hD := hD0.self (sz := s.heap.size)
  generalize hAe : va_A [(pl, .inr (6, [.ref a, .ref mi, .ref sr, .ref tr, .ref pf, .ref xb, .ref tl, .int so, .int sl])), (a, .inr (0, [.int (nI n), .int (nI k), .ref al, .ref am, .ref aw, .ref ac, .ref ag, .ref ab])), (sr, .inr (2, [.int fo, .ref sb, .int dv, .int cs, .int lz, .ref sq, .ref sx, .ref sy])), (ou, .inl (cL, 1, .inr (.inl ov)))] s.heap.size = A at hD ⊢
  have hA : ∀ q : Nat, s.heap.size ≤ q → A q := fun q h => by rw [← hAe]; exact Or.inr h
  have hS : va_S A s.heap s.heap [] := va_S.rf
  have hS0 : va_S (mx_A s.heap.size) s.heap s.heap [] := va_S.rf
  have hP : va_P D kc_all [(pl, .inr (6, [.ref a, .ref mi, .ref sr, .ref tr, .ref pf, .ref xb, .ref tl, .int so, .int sl])), (a, .inr (0, [.int (nI n), .int (nI k), .ref al, .ref am, .ref aw, .ref ac, .ref ag, .ref ab])), (sr, .inr (2, [.int fo, .ref sb, .int dv, .int cs, .int lz, .ref sq, .ref sx, .ref sy])), (ou, .inl (cL, 1, .inr (.inl ov)))] s.heap := hP
  have hl := lv_entry ([.ref pl, .int jv, .int wv, .ref ou]) (n := 5) (Nat.le_of_ble_eq_true rfl)
  rw [lg_entry_eq]
  generalize (lg_sl ([.ref pl, .int jv, .int wv, .ref ou]) ++ List.replicate (5 - (lg_sl ([.ref pl, .int jv, .int wv, .ref ou])).length) Slot.unset).toArray = ls at hl ⊢
  have hl : lv_has ls 5 [(0, .ref pl), (1, .int jv), (2, .int wv), (3, .ref ou)] := hl
  have htb : ∀ w ∈ tb_all, w.before ([.ref pl, .int jv, .int wv, .ref ou]).toArray s = true := fun w h => hts w (List.mem_cons_of_mem _ h)
  refine lv_aload_n hx hb dd_Law_plan_0 rfl (lv_at hl 3 rfl) ?_
  refine lv_iconst (v := 0) hx hb dd_Law_plan_1 (by decide) ?_
  refine lv_aload_n hx hb dd_Law_plan_2 rfl (lv_at hl 0 rfl) ?_
  refine lv_iload_n hx hb dd_Law_plan_3 rfl (lv_at hl 1 rfl) ?_
  refine lv_iload_n hx hb dd_Law_plan_4 rfl (lv_at hl 2 rfl) ?_
  refine mx_cat htab [] (0, 10, 13, 19) [(0, 10, 17, 13), (0, 10, 21, 29)] rfl (mx_runV (As := [.int jv, .int wv]) (rest := [.int (0 : Int32), .ref ou]) (C := RR_Planner) ⟨hx, hb, hml, hown, hts⟩ (cc_Planner_planX l hnt D cI cZ cL cQ _ pl tl a mi sr tr pf xb so sl al am aw ac ag ab n k sb sq sx sy fo dv cs lz jv wv (hno)) (mm_cwV 2 hts ml_Law_38 im_Planner_plan se_Planner_plan ic_Planner cd_Planner_plan rfl rfl (by decide +kernel) ⟨Nat.le_of_ble_eq_true rfl, Nat.le_of_ble_eq_true rfl⟩) (mx_preV hTr hS0 hK hP hD [0, 1, 2] (by decide) rfl 0 rfl rfl) rfl rfl hl.1 rfl (lv_room (Nat.le_of_ble_eq_true rfl)) dd_Law_plan_5 ⟨Nat.le_of_ble_eq_true rfl, Nat.le_of_ble_eq_true rfl⟩) hS hA hP hown (E := "java/lang/IndexOutOfBoundsException") (fun _ h => h) (fun _ h => absurd h List.not_mem_nil) ⟨⟨by decide, by decide⟩, by decide⟩ (htb _ kl_Law_19) (ca_B hTr) (fun zx3 H locs hP hS => ?_)
  refine lv_astore (lv' := [(4, .ref zx3), (0, .ref pl), (1, .int jv), (2, .int wv), (3, .ref ou)]) hx hb dd_Law_plan_13 hl (by decide) rfl (fun ls hl => ?_)
  refine lv_iconst (v := 1) hx hb dd_Law_plan_15 (by decide) ?_
  exact W.iret (v := (1 : Int32)) hx hb hr (fun t ht hW => ⟨⟨(1 : Int32), (), rfl, rfl, by rw [ht]; exact hP, va_K.moved hW.alike hK, hD⟩, hS.F ht⟩) hS.2.2 dd_Law_plan_16
abbrev qq_Law_planY (D : va_G) (cI cZ cL cQ : ClassId) (pl : Nat) (tl : Nat) (a : Nat) (mi : Nat) (sr : Nat) (tr : Nat) (pf : Nat) (xb : Nat) (so : Int32) (sl : Int32) (al : Nat) (am : Nat) (aw : Nat) (ac : Nat) (ag : Nat) (ab : Nat) (n : Nat) (k : Nat) (sb : Nat) (sq : Nat) (sx : Nat) (sy : Nat) (fo : Int32) (dv : Int32) (cs : Int32) (lz : Int32) (j : Nat) (wv : Int32) (ou : Nat) (ov : Nat → Int64) (A : Nat → Prop) : Array Value → State → Outcome → State → Prop := va_Qi (fun (r : Int32) (u : Unit) => r = 2) (fun (u : Unit) t => mm_B D kc_all [(cI, .int), (cZ, .boolean), (cL, .long), (cQ, .array .int)] A [(pl, .inr (6, [.ref a, .ref mi, .ref sr, .ref tr, .ref pf, .ref xb, .ref tl, .int so, .int sl])), (a, .inr (0, [.int (nI n), .int (nI k), .ref al, .ref am, .ref aw, .ref ac, .ref ag, .ref ab])), (sr, .inr (2, [.int fo, .ref sb, .int dv, .int cs, .int lz, .ref sq, .ref sx, .ref sy])), (ou, .inl (cL, 1, .inr (.inl ov)))] t) A
set_option maxHeartbeats 4000000 in
set_option maxRecDepth 100000 in
theorem cc_Law_planY (l : Launch) (hnt : l.stackTraces = false) (D : va_G) (cI cZ cL cQ : ClassId) (sz : Nat) (pl : Nat) (tl : Nat) (a : Nat) (mi : Nat) (sr : Nat) (tr : Nat) (pf : Nat) (xb : Nat) (so : Int32) (sl : Int32) (al : Nat) (am : Nat) (aw : Nat) (ac : Nat) (ag : Nat) (ab : Nat) (n : Nat) (k : Nat) (sb : Nat) (sq : Nat) (sx : Nat) (sy : Nat) (fo : Int32) (dv : Int32) (cs : Int32) (lz : Int32) (j : Nat) (wv : Int32) (ou : Nat) (ov : Nat → Int64) (hn : 1 ≤ n ∧ n ≤ 4) (hj : j < n) (hno : ¬ (wv = 0 ∨ wv = 1)) : Met l yy_Law_plan ww_Law_plan ({ frames := 8, cells := 1, slots := 6, locals := 125 } : Room) (mx_Pc D kc_all [(cI, .int), (cZ, .boolean), (cL, .long), (cQ, .array .int)] sz [(pl, .inr (6, [.ref a, .ref mi, .ref sr, .ref tr, .ref pf, .ref xb, .ref tl, .int so, .int sl])), (a, .inr (0, [.int (nI n), .int (nI k), .ref al, .ref am, .ref aw, .ref ac, .ref ag, .ref ab])), (sr, .inr (2, [.int fo, .ref sb, .int dv, .int cs, .int lz, .ref sq, .ref sx, .ref sy])), (ou, .inl (cL, 1, .inr (.inl ov)))] [.ref pl, .int (nI j), .int wv, .ref ou]) (qq_Law_planY D cI cZ cL cQ pl tl a mi sr tr pf xb so sl al am aw ac ag ab n k sb sq sx sy fo dv cs lz j wv ou ov (va_A [(pl, .inr (6, [.ref a, .ref mi, .ref sr, .ref tr, .ref pf, .ref xb, .ref tl, .int so, .int sl])), (a, .inr (0, [.int (nI n), .int (nI k), .ref al, .ref am, .ref aw, .ref ac, .ref ag, .ref ab])), (sr, .inr (2, [.int fo, .ref sb, .int dv, .int cs, .int lz, .ref sq, .ref sx, .ref sy])), (ou, .inl (cL, 1, .inr (.inl ov)))] sz)) 1 6 (va_A [(pl, .inr (6, [.ref a, .ref mi, .ref sr, .ref tr, .ref pf, .ref xb, .ref tl, .int so, .int sl])), (a, .inr (0, [.int (nI n), .int (nI k), .ref al, .ref am, .ref aw, .ref ac, .ref ag, .ref ab])), (sr, .inr (2, [.int fo, .ref sb, .int dv, .int cs, .int lz, .ref sq, .ref sx, .ref sy])), (ou, .inl (cL, 1, .inr (.inl ov)))] sz) := by
  refine mx_MetW (cc := bb_Law_plan) (maxL := 5) (ret := (some .int)) (by decide) rfl ?_
  intro p e s m args below meth c s₁ B hml htab hv
  obtain ⟨rfl, hsz, hP, hK, hD0, hTr⟩ := hv
  have hx := B.exec
  have hb := B.bytes
  have hr := B.returns
  have hts := atoms_spec (ws := ww_Law_plan) B.pre
  have hown : s.vm.findClass RR_Law = some m.cls := findClass_of_methodNamed B.named
  have hlocks := B.notSynchronized
  subst hsz
  have hD := hD0.self (sz := s.heap.size)
  generalize hAe : va_A [(pl, .inr (6, [.ref a, .ref mi, .ref sr, .ref tr, .ref pf, .ref xb, .ref tl, .int so, .int sl])), (a, .inr (0, [.int (nI n), .int (nI k), .ref al, .ref am, .ref aw, .ref ac, .ref ag, .ref ab])), (sr, .inr (2, [.int fo, .ref sb, .int dv, .int cs, .int lz, .ref sq, .ref sx, .ref sy])), (ou, .inl (cL, 1, .inr (.inl ov)))] s.heap.size = A at hD ⊢
  have hA : ∀ q : Nat, s.heap.size ≤ q → A q := fun q h => by rw [← hAe]; exact Or.inr h
  have hS : va_S A s.heap s.heap [] := va_S.rf
  have hS0 : va_S (mx_A s.heap.size) s.heap s.heap [] := va_S.rf
  have hP : va_P D kc_all [(pl, .inr (6, [.ref a, .ref mi, .ref sr, .ref tr, .ref pf, .ref xb, .ref tl, .int so, .int sl])), (a, .inr (0, [.int (nI n), .int (nI k), .ref al, .ref am, .ref aw, .ref ac, .ref ag, .ref ab])), (sr, .inr (2, [.int fo, .ref sb, .int dv, .int cs, .int lz, .ref sq, .ref sx, .ref sy])), (ou, .inl (cL, 1, .inr (.inl ov)))] s.heap := hP
  have hl := lv_entry ([.ref pl, .int (nI j), .int wv, .ref ou]) (n := 5) (Nat.le_of_ble_eq_true rfl)
  rw [lg_entry_eq]
  generalize (lg_sl ([.ref pl, .int (nI j), .int wv, .ref ou]) ++ List.replicate (5 - (lg_sl ([.ref pl, .int (nI j), .int wv, .ref ou])).length) Slot.unset).toArray = ls at hl ⊢
  have hl : lv_has ls 5 [(0, .ref pl), (1, .int (nI j)), (2, .int wv), (3, .ref ou)] := hl
  have htb : ∀ w ∈ tb_all, w.before ([.ref pl, .int (nI j), .int wv, .ref ou]).toArray s = true := fun w h => hts w (List.mem_cons_of_mem _ h)
  refine lv_aload_n hx hb dd_Law_plan_0 rfl (lv_at hl 3 rfl) ?_
  refine lv_iconst (v := 0) hx hb dd_Law_plan_1 (by decide) ?_
  refine lv_aload_n hx hb dd_Law_plan_2 rfl (lv_at hl 0 rfl) ?_
  refine lv_iload_n hx hb dd_Law_plan_3 rfl (lv_at hl 1 rfl) ?_
  refine lv_iload_n hx hb dd_Law_plan_4 rfl (lv_at hl 2 rfl) ?_
  refine mx_cat htab [(0, 10, 13, 19)] (0, 10, 17, 13) [(0, 10, 21, 29)] rfl (mx_runV (As := [.int (nI j), .int wv]) (rest := [.int (0 : Int32), .ref ou]) (C := RR_Planner) ⟨hx, hb, hml, hown, hts⟩ (cc_Planner_planY l hnt D cI cZ cL cQ _ pl tl a mi sr tr pf xb so sl al am aw ac ag ab n k sb sq sx sy fo dv cs lz j wv (hn) (hj) (hno)) (mm_cwV 2 hts ml_Law_38 im_Planner_plan se_Planner_plan ic_Planner cd_Planner_plan rfl rfl (by decide +kernel) ⟨Nat.le_of_ble_eq_true rfl, Nat.le_of_ble_eq_true rfl⟩) (mx_preV hTr hS0 hK hP hD [0, 1, 2] (by decide) rfl 0 rfl rfl) rfl rfl hl.1 rfl (lv_room (Nat.le_of_ble_eq_true rfl)) dd_Law_plan_5 ⟨Nat.le_of_ble_eq_true rfl, Nat.le_of_ble_eq_true rfl⟩) hS hA hP hown (E := "java/lang/IllegalArgumentException") (fun _ h => h) (List.forall_mem_cons.mpr ⟨⟨⟨by decide, by decide⟩, by decide, "java/lang/IndexOutOfBoundsException", htb _ kl_Law_19, nc_AB hTr⟩, fun _ h => absurd h List.not_mem_nil⟩) ⟨⟨by decide, by decide⟩, by decide⟩ (htb _ kl_Law_13) (ca_A hTr) (fun zx3 H locs hP hS => ?_)
  refine lv_astore (lv' := [(4, .ref zx3), (0, .ref pl), (1, .int (nI j)), (2, .int wv), (3, .ref ou)]) hx hb dd_Law_plan_17 hl (by decide) rfl (fun ls hl => ?_)
  refine lv_iconst (v := 2) hx hb dd_Law_plan_19 (by decide) ?_
  exact W.iret (v := (2 : Int32)) hx hb hr (fun t ht hW => ⟨⟨(2 : Int32), (), rfl, rfl, by rw [ht]; exact hP, va_K.moved hW.alike hK, hD⟩, hS.F ht⟩) hS.2.2 dd_Law_plan_20
abbrev qq_Law_planZ (D : va_G) (cI cZ cL cQ : ClassId) (pl : Nat) (tl : Nat) (a : Nat) (mi : Nat) (sr : Nat) (tr : Nat) (pf : Nat) (xb : Nat) (so : Int32) (sl : Int32) (al : Nat) (am : Nat) (aw : Nat) (ac : Nat) (ag : Nat) (ab : Nat) (n : Nat) (k : Nat) (sb : Nat) (sq : Nat) (sx : Nat) (sy : Nat) (fo : Int32) (dv : Int32) (cs : Int32) (lz : Int32) (j : Nat) (wv : Int32) (ou : Nat) (ov : Nat → Int64) (A : Nat → Prop) : Array Value → State → Outcome → State → Prop := va_Qi (fun (r : Int32) (u : Unit) => r = 3) (fun (u : Unit) t => mm_B D kc_all [(cI, .int), (cZ, .boolean), (cL, .long), (cQ, .array .int)] A [(pl, .inr (6, [.ref a, .ref mi, .ref sr, .ref tr, .ref pf, .ref xb, .ref tl, .int so, .int sl])), (a, .inr (0, [.int (nI n), .int (nI k), .ref al, .ref am, .ref aw, .ref ac, .ref ag, .ref ab])), (sr, .inr (2, [.int fo, .ref sb, .int dv, .int cs, .int lz, .ref sq, .ref sx, .ref sy])), (ou, .inl (cL, 1, .inr (.inl ov)))] t) A
set_option maxHeartbeats 4000000 in
set_option maxRecDepth 100000 in
theorem cc_Law_planZ (l : Launch) (hnt : l.stackTraces = false) (D : va_G) (cI cZ cL cQ : ClassId) (sz : Nat) (pl : Nat) (tl : Nat) (a : Nat) (mi : Nat) (sr : Nat) (tr : Nat) (pf : Nat) (xb : Nat) (so : Int32) (sl : Int32) (al : Nat) (am : Nat) (aw : Nat) (ac : Nat) (ag : Nat) (ab : Nat) (n : Nat) (k : Nat) (sb : Nat) (sq : Nat) (sx : Nat) (sy : Nat) (fo : Int32) (dv : Int32) (cs : Int32) (lz : Int32) (j : Nat) (wv : Int32) (ou : Nat) (ov : Nat → Int64) (hn : 1 ≤ n ∧ n ≤ 4) (hj : j < n) (hw : wv = 0 ∨ wv = 1) (hno : ¬ (¬ so = 0 ∧ ¬ fo = 0)) : Met l yy_Law_plan ww_Law_plan ({ frames := 8, cells := 1, slots := 6, locals := 125 } : Room) (mx_Pc D kc_all [(cI, .int), (cZ, .boolean), (cL, .long), (cQ, .array .int)] sz [(pl, .inr (6, [.ref a, .ref mi, .ref sr, .ref tr, .ref pf, .ref xb, .ref tl, .int so, .int sl])), (a, .inr (0, [.int (nI n), .int (nI k), .ref al, .ref am, .ref aw, .ref ac, .ref ag, .ref ab])), (sr, .inr (2, [.int fo, .ref sb, .int dv, .int cs, .int lz, .ref sq, .ref sx, .ref sy])), (ou, .inl (cL, 1, .inr (.inl ov)))] [.ref pl, .int (nI j), .int wv, .ref ou]) (qq_Law_planZ D cI cZ cL cQ pl tl a mi sr tr pf xb so sl al am aw ac ag ab n k sb sq sx sy fo dv cs lz j wv ou ov (va_A [(pl, .inr (6, [.ref a, .ref mi, .ref sr, .ref tr, .ref pf, .ref xb, .ref tl, .int so, .int sl])), (a, .inr (0, [.int (nI n), .int (nI k), .ref al, .ref am, .ref aw, .ref ac, .ref ag, .ref ab])), (sr, .inr (2, [.int fo, .ref sb, .int dv, .int cs, .int lz, .ref sq, .ref sx, .ref sy])), (ou, .inl (cL, 1, .inr (.inl ov)))] sz)) 1 6 (va_A [(pl, .inr (6, [.ref a, .ref mi, .ref sr, .ref tr, .ref pf, .ref xb, .ref tl, .int so, .int sl])), (a, .inr (0, [.int (nI n), .int (nI k), .ref al, .ref am, .ref aw, .ref ac, .ref ag, .ref ab])), (sr, .inr (2, [.int fo, .ref sb, .int dv, .int cs, .int lz, .ref sq, .ref sx, .ref sy])), (ou, .inl (cL, 1, .inr (.inl ov)))] sz) := by
  refine mx_MetW (cc := bb_Law_plan) (maxL := 5) (ret := (some .int)) (by decide) rfl ?_
  intro p e s m args below meth c s₁ B hml htab hv
  obtain ⟨rfl, hsz, hP, hK, hD0, hTr⟩ := hv
  have hx := B.exec
  have hb := B.bytes
  have hr := B.returns
  have hts := atoms_spec (ws := ww_Law_plan) B.pre
  have hown : s.vm.findClass RR_Law = some m.cls := findClass_of_methodNamed B.named
  have hlocks := B.notSynchronized
  subst hsz
  have hD := hD0.self (sz := s.heap.size)
  generalize hAe : va_A [(pl, .inr (6, [.ref a, .ref mi, .ref sr, .ref tr, .ref pf, .ref xb, .ref tl, .int so, .int sl])), (a, .inr (0, [.int (nI n), .int (nI k), .ref al, .ref am, .ref aw, .ref ac, .ref ag, .ref ab])), (sr, .inr (2, [.int fo, .ref sb, .int dv, .int cs, .int lz, .ref sq, .ref sx, .ref sy])), (ou, .inl (cL, 1, .inr (.inl ov)))] s.heap.size = A at hD ⊢
  have hA : ∀ q : Nat, s.heap.size ≤ q → A q := fun q h => by rw [← hAe]; exact Or.inr h
  have hS : va_S A s.heap s.heap [] := va_S.rf
  have hS0 : va_S (mx_A s.heap.size) s.heap s.heap [] := va_S.rf
  have hP : va_P D kc_all [(pl, .inr (6, [.ref a, .ref mi, .ref sr, .ref tr, .ref pf, .ref xb, .ref tl, .int so, .int sl])), (a, .inr (0, [.int (nI n), .int (nI k), .ref al, .ref am, .ref aw, .ref ac, .ref ag, .ref ab])), (sr, .inr (2, [.int fo, .ref sb, .int dv, .int cs, .int lz, .ref sq, .ref sx, .ref sy])), (ou, .inl (cL, 1, .inr (.inl ov)))] s.heap := hP
  have hl := lv_entry ([.ref pl, .int (nI j), .int wv, .ref ou]) (n := 5) (Nat.le_of_ble_eq_true rfl)
  rw [lg_entry_eq]
  generalize (lg_sl ([.ref pl, .int (nI j), .int wv, .ref ou]) ++ List.replicate (5 - (lg_sl ([.ref pl, .int (nI j), .int wv, .ref ou])).length) Slot.unset).toArray = ls at hl ⊢
  have hl : lv_has ls 5 [(0, .ref pl), (1, .int (nI j)), (2, .int wv), (3, .ref ou)] := hl
  have htb : ∀ w ∈ tb_all, w.before ([.ref pl, .int (nI j), .int wv, .ref ou]).toArray s = true := fun w h => hts w (List.mem_cons_of_mem _ h)
  refine lv_aload_n hx hb dd_Law_plan_0 rfl (lv_at hl 3 rfl) ?_
  refine lv_iconst (v := 0) hx hb dd_Law_plan_1 (by decide) ?_
  refine lv_aload_n hx hb dd_Law_plan_2 rfl (lv_at hl 0 rfl) ?_
  refine lv_iload_n hx hb dd_Law_plan_3 rfl (lv_at hl 1 rfl) ?_
  refine lv_iload_n hx hb dd_Law_plan_4 rfl (lv_at hl 2 rfl) ?_
  refine mx_cat htab [(0, 10, 13, 19), (0, 10, 17, 13)] (0, 10, 21, 29) [] rfl (mx_runV (As := [.int (nI j), .int wv]) (rest := [.int (0 : Int32), .ref ou]) (C := RR_Planner) ⟨hx, hb, hml, hown, hts⟩ (cc_Planner_planZ l hnt D cI cZ cL cQ _ pl tl a mi sr tr pf xb so sl al am aw ac ag ab n k sb sq sx sy fo dv cs lz j wv (hn) (hj) (hw) (hno)) (mm_cwV 2 hts ml_Law_38 im_Planner_plan se_Planner_plan ic_Planner cd_Planner_plan rfl rfl (by decide +kernel) ⟨Nat.le_of_ble_eq_true rfl, Nat.le_of_ble_eq_true rfl⟩) (mx_preV hTr hS0 hK hP hD [0, 1, 2] (by decide) rfl 0 rfl rfl) rfl rfl hl.1 rfl (lv_room (Nat.le_of_ble_eq_true rfl)) dd_Law_plan_5 ⟨Nat.le_of_ble_eq_true rfl, Nat.le_of_ble_eq_true rfl⟩) hS hA hP hown (E := "java/lang/IllegalStateException") (fun _ h => h) (List.forall_mem_cons.mpr ⟨⟨⟨by decide, by decide⟩, by decide, "java/lang/IndexOutOfBoundsException", htb _ kl_Law_19, nc_CB hTr⟩, List.forall_mem_cons.mpr ⟨⟨⟨by decide, by decide⟩, by decide, "java/lang/IllegalArgumentException", htb _ kl_Law_13, nc_CA hTr⟩, fun _ h => absurd h List.not_mem_nil⟩⟩) ⟨⟨by decide, by decide⟩, by decide⟩ (htb _ kl_Law_29) (ca_C hTr) (fun zx3 H locs hP hS => ?_)
  refine lv_astore (lv' := [(4, .ref zx3), (0, .ref pl), (1, .int (nI j)), (2, .int wv), (3, .ref ou)]) hx hb dd_Law_plan_21 hl (by decide) rfl (fun ls hl => ?_)
  refine lv_iconst (v := 3) hx hb dd_Law_plan_23 (by decide) ?_
  exact W.iret (v := (3 : Int32)) hx hb hr (fun t ht hW => ⟨⟨(3 : Int32), (), rfl, rfl, by rw [ht]; exact hP, va_K.moved hW.alike hK, hD⟩, hS.F ht⟩) hS.2.2 dd_Law_plan_24
abbrev qq_Law_keeps (D : va_G) (cI cZ cL cQ : ClassId) (pl : Nat) (tl : Nat) (a : Nat) (mi : Nat) (sr : Nat) (tr : Nat) (pf : Nat) (xb : Nat) (so : Int32) (sl : Int32) (al : Nat) (am : Nat) (aw : Nat) (ac : Nat) (ag : Nat) (ab : Nat) (n : Nat) (k : Nat) (x0 : Int32) (x1 : Int32) (x2 : Int32) (x3 : Int32) (qv : Int32) (td : Nat → Int32) (lo : Nat → Int32) (hi : Nat → Int32) (wh : Nat → Int32) (rw : Nat → Nat) (M : Nat → Nat → Int32) (bd : Nat → Int32) (ou : Nat) (ov : Nat → Int64) (A : Nat → Prop) : Array Value → State → Outcome → State → Prop := va_Qi (fun (r : Int32) (u : (Nat → Int64)) => r = 0 ∧ tL_ok (wd_ok wh (upd (upd (upd (upd td 0 x0) 1 x1) 2 x2) 3 x3) qv n ∧ kp_ok lo hi M bd (upd (upd (upd (upd td 0 x0) 1 x1) 2 x2) 3 x3) qv n k) (u 0)) (fun (u : (Nat → Int64)) t => mm_B D kc_all [(cI, .int), (cZ, .boolean), (cL, .long), (cQ, .array .int)] A [(pl, .inr (6, [.ref a, .ref mi, .ref sr, .ref tr, .ref pf, .ref xb, .ref tl, .int so, .int sl])), (tl, .inl (cI, 4, .inl (upd (upd (upd (upd td 0 x0) 1 x1) 2 x2) 3 x3))), (a, .inr (0, [.int (nI n), .int (nI k), .ref al, .ref am, .ref aw, .ref ac, .ref ag, .ref ab])), (al, .inl (cI, 4, .inl lo)), (am, .inl (cI, 4, .inl hi)), (aw, .inl (cZ, 4, .inl wh)), (ag, .inl (cQ, 6, .inr (.inr (.inr (.inr (fun i9 => some (rw i9))))))), (rw 0, .inl (cI, 4, .inl (M 0))), (rw 1, .inl (cI, 4, .inl (M 1))), (rw 2, .inl (cI, 4, .inl (M 2))), (rw 3, .inl (cI, 4, .inl (M 3))), (rw 4, .inl (cI, 4, .inl (M 4))), (rw 5, .inl (cI, 4, .inl (M 5))), (ab, .inl (cI, 6, .inl bd)), (ou, .inl (cL, 1, .inr (.inl u)))] t) A
set_option maxHeartbeats 4000000 in
set_option maxRecDepth 100000 in
theorem cc_Law_keeps (l : Launch) (D : va_G) (cI cZ cL cQ : ClassId) (sz : Nat) (pl : Nat) (tl : Nat) (a : Nat) (mi : Nat) (sr : Nat) (tr : Nat) (pf : Nat) (xb : Nat) (so : Int32) (sl : Int32) (al : Nat) (am : Nat) (aw : Nat) (ac : Nat) (ag : Nat) (ab : Nat) (n : Nat) (k : Nat) (x0 : Int32) (x1 : Int32) (x2 : Int32) (x3 : Int32) (qv : Int32) (td : Nat → Int32) (lo : Nat → Int32) (hi : Nat → Int32) (wh : Nat → Int32) (rw : Nat → Nat) (M : Nat → Nat → Int32) (bd : Nat → Int32) (ou : Nat) (ov : Nat → Int64) (hn : n ≤ 4) (hk : k ≤ 6) (hok : kq_ok x0 x1 x2 x3 qv 4) : Met l yy_Law_keeps ww_Law_keeps ({ frames := 7, cells := 0, slots := 0, locals := 107 } : Room) (mm_Pc D kc_all [(cI, .int), (cZ, .boolean), (cL, .long), (cQ, .array .int)] sz [(pl, .inr (6, [.ref a, .ref mi, .ref sr, .ref tr, .ref pf, .ref xb, .ref tl, .int so, .int sl])), (tl, .inl (cI, 4, .inl td)), (a, .inr (0, [.int (nI n), .int (nI k), .ref al, .ref am, .ref aw, .ref ac, .ref ag, .ref ab])), (al, .inl (cI, 4, .inl lo)), (am, .inl (cI, 4, .inl hi)), (aw, .inl (cZ, 4, .inl wh)), (ag, .inl (cQ, 6, .inr (.inr (.inr (.inr (fun i9 => some (rw i9))))))), (rw 0, .inl (cI, 4, .inl (M 0))), (rw 1, .inl (cI, 4, .inl (M 1))), (rw 2, .inl (cI, 4, .inl (M 2))), (rw 3, .inl (cI, 4, .inl (M 3))), (rw 4, .inl (cI, 4, .inl (M 4))), (rw 5, .inl (cI, 4, .inl (M 5))), (ab, .inl (cI, 6, .inl bd)), (ou, .inl (cL, 1, .inr (.inl ov)))] [.ref pl, .int x0, .int x1, .int x2, .int x3, .int qv, .ref ou]) (qq_Law_keeps D cI cZ cL cQ pl tl a mi sr tr pf xb so sl al am aw ac ag ab n k x0 x1 x2 x3 qv td lo hi wh rw M bd ou ov (va_A [(pl, .inr (6, [.ref a, .ref mi, .ref sr, .ref tr, .ref pf, .ref xb, .ref tl, .int so, .int sl])), (tl, .inl (cI, 4, .inl td)), (a, .inr (0, [.int (nI n), .int (nI k), .ref al, .ref am, .ref aw, .ref ac, .ref ag, .ref ab])), (al, .inl (cI, 4, .inl lo)), (am, .inl (cI, 4, .inl hi)), (aw, .inl (cZ, 4, .inl wh)), (ag, .inl (cQ, 6, .inr (.inr (.inr (.inr (fun i9 => some (rw i9))))))), (rw 0, .inl (cI, 4, .inl (M 0))), (rw 1, .inl (cI, 4, .inl (M 1))), (rw 2, .inl (cI, 4, .inl (M 2))), (rw 3, .inl (cI, 4, .inl (M 3))), (rw 4, .inl (cI, 4, .inl (M 4))), (rw 5, .inl (cI, 4, .inl (M 5))), (ab, .inl (cI, 6, .inl bd)), (ou, .inl (cL, 1, .inr (.inl ov)))] sz)) 0 0 (va_A [(pl, .inr (6, [.ref a, .ref mi, .ref sr, .ref tr, .ref pf, .ref xb, .ref tl, .int so, .int sl])), (tl, .inl (cI, 4, .inl td)), (a, .inr (0, [.int (nI n), .int (nI k), .ref al, .ref am, .ref aw, .ref ac, .ref ag, .ref ab])), (al, .inl (cI, 4, .inl lo)), (am, .inl (cI, 4, .inl hi)), (aw, .inl (cZ, 4, .inl wh)), (ag, .inl (cQ, 6, .inr (.inr (.inr (.inr (fun i9 => some (rw i9))))))), (rw 0, .inl (cI, 4, .inl (M 0))), (rw 1, .inl (cI, 4, .inl (M 1))), (rw 2, .inl (cI, 4, .inl (M 2))), (rw 3, .inl (cI, 4, .inl (M 3))), (rw 4, .inl (cI, 4, .inl (M 4))), (rw 5, .inl (cI, 4, .inl (M 5))), (ab, .inl (cI, 6, .inl bd)), (ou, .inl (cL, 1, .inr (.inl ov)))] sz) := by
  refine mx_MetW (cc := bb_Law_keeps) (maxL := 8) (ret := (some .int)) (by decide) rfl ?_
  intro p e s m args below meth c s₁ B hml htab hv
  obtain ⟨rfl, hsz, hP, hK, hD0⟩ := hv
  have hx := B.exec
  have hb := B.bytes
  have hr := B.returns
  have hts := atoms_spec (ws := ww_Law_keeps) B.pre
  have hown : s.vm.findClass RR_Law = some m.cls := findClass_of_methodNamed B.named
  have hlocks := B.notSynchronized
  subst hsz
  have hD := hD0.self (sz := s.heap.size)
  generalize hAe : va_A [(pl, .inr (6, [.ref a, .ref mi, .ref sr, .ref tr, .ref pf, .ref xb, .ref tl, .int so, .int sl])), (tl, .inl (cI, 4, .inl td)), (a, .inr (0, [.int (nI n), .int (nI k), .ref al, .ref am, .ref aw, .ref ac, .ref ag, .ref ab])), (al, .inl (cI, 4, .inl lo)), (am, .inl (cI, 4, .inl hi)), (aw, .inl (cZ, 4, .inl wh)), (ag, .inl (cQ, 6, .inr (.inr (.inr (.inr (fun i9 => some (rw i9))))))), (rw 0, .inl (cI, 4, .inl (M 0))), (rw 1, .inl (cI, 4, .inl (M 1))), (rw 2, .inl (cI, 4, .inl (M 2))), (rw 3, .inl (cI, 4, .inl (M 3))), (rw 4, .inl (cI, 4, .inl (M 4))), (rw 5, .inl (cI, 4, .inl (M 5))), (ab, .inl (cI, 6, .inl bd)), (ou, .inl (cL, 1, .inr (.inl ov)))] s.heap.size = A at hD ⊢
  have hA : ∀ q : Nat, s.heap.size ≤ q → A q := fun q h => by rw [← hAe]; exact Or.inr h
  have hS : va_S A s.heap s.heap [] := va_S.rf
  have hP : va_P D kc_all [(pl, .inr (6, [.ref a, .ref mi, .ref sr, .ref tr, .ref pf, .ref xb, .ref tl, .int so, .int sl])), (tl, .inl (cI, 4, .inl td)), (a, .inr (0, [.int (nI n), .int (nI k), .ref al, .ref am, .ref aw, .ref ac, .ref ag, .ref ab])), (al, .inl (cI, 4, .inl lo)), (am, .inl (cI, 4, .inl hi)), (aw, .inl (cZ, 4, .inl wh)), (ag, .inl (cQ, 6, .inr (.inr (.inr (.inr (fun i9 => some (rw i9))))))), (rw 0, .inl (cI, 4, .inl (M 0))), (rw 1, .inl (cI, 4, .inl (M 1))), (rw 2, .inl (cI, 4, .inl (M 2))), (rw 3, .inl (cI, 4, .inl (M 3))), (rw 4, .inl (cI, 4, .inl (M 4))), (rw 5, .inl (cI, 4, .inl (M 5))), (ab, .inl (cI, 6, .inl bd)), (ou, .inl (cL, 1, .inr (.inl ov)))] s.heap := hP
  have hl := lv_entry ([.ref pl, .int x0, .int x1, .int x2, .int x3, .int qv, .ref ou]) (n := 8) (Nat.le_of_ble_eq_true rfl)
  rw [lg_entry_eq]
  generalize (lg_sl ([.ref pl, .int x0, .int x1, .int x2, .int x3, .int qv, .ref ou]) ++ List.replicate (8 - (lg_sl ([.ref pl, .int x0, .int x1, .int x2, .int x3, .int qv, .ref ou])).length) Slot.unset).toArray = ls at hl ⊢
  have hl : lv_has ls 8 [(0, .ref pl), (1, .int x0), (2, .int x1), (3, .int x2), (4, .int x3), (5, .int qv), (6, .ref ou)] := hl
  have htb : ∀ w ∈ tb_all, w.before ([.ref pl, .int x0, .int x1, .int x2, .int x3, .int qv, .ref ou]).toArray s = true := fun w h => hts w (List.mem_cons_of_mem _ h)
  refine lv_aload hx hb dd_Law_keeps_0 (lv_at hl 6 rfl) ?_
  refine lv_iconst (v := 0) hx hb dd_Law_keeps_2 (by decide) ?_
  refine lv_aload_n hx hb dd_Law_keeps_3 rfl (lv_at hl 0 rfl) ?_
  refine lv_iload_n hx hb dd_Law_keeps_4 rfl (lv_at hl 1 rfl) ?_
  refine lv_iload_n hx hb dd_Law_keeps_5 rfl (lv_at hl 2 rfl) ?_
  refine lv_iload_n hx hb dd_Law_keeps_6 rfl (lv_at hl 3 rfl) ?_
  refine lv_iload hx hb dd_Law_keeps_7 (lv_at hl 4 rfl) ?_
  refine lv_iload hx hb dd_Law_keeps_9 (lv_at hl 5 rfl) ?_
  refine mm_i (wc := [(pl, .inr (6, [.ref a, .ref mi, .ref sr, .ref tr, .ref pf, .ref xb, .ref tl, .int so, .int sl])), (tl, .inl (cI, 4, .inl td)), (a, .inr (0, [.int (nI n), .int (nI k), .ref al, .ref am, .ref aw, .ref ac, .ref ag, .ref ab])), (al, .inl (cI, 4, .inl lo)), (am, .inl (cI, 4, .inl hi)), (aw, .inl (cZ, 4, .inl wh)), (ag, .inl (cQ, 6, .inr (.inr (.inr (.inr (fun i9 => some (rw i9))))))), (rw 0, .inl (cI, 4, .inl (M 0))), (rw 1, .inl (cI, 4, .inl (M 1))), (rw 2, .inl (cI, 4, .inl (M 2))), (rw 3, .inl (cI, 4, .inl (M 3))), (rw 4, .inl (cI, 4, .inl (M 4))), (rw 5, .inl (cI, 4, .inl (M 5))), (ab, .inl (cI, 6, .inl bd))]) (wr := [(ou, .inl (cL, 1, .inr (.inl ov)))]) (va_runV (As := [.int x0, .int x1, .int x2, .int x3, .int qv]) (rest := [.int (0 : Int32), .ref ou]) (C := RR_Planner) ⟨hx, hb, hml, hown, hts⟩ (cc_Planner_keeps l D cI cZ cL cQ _ pl tl a mi sr tr pf xb so sl al am aw ac ag ab n k x0 x1 x2 x3 qv td lo hi wh rw M bd (hn) (hk) (hok)) (mm_cwV 5 hts ml_Law_42 im_Planner_keeps se_Planner_keeps ic_Planner cd_Planner_keeps rfl rfl (by decide +kernel) ⟨Nat.le_of_ble_eq_true rfl, Nat.le_of_ble_eq_true rfl⟩) (mm_preV hK hP hD [0, 1, 2, 3, 4, 5, 6, 7, 8, 9, 10, 11, 12, 13] (by decide) rfl 0 rfl rfl) rfl rfl hl.1 rfl (lv_room (Nat.le_of_ble_eq_true rfl)) dd_Law_keeps_11 ⟨Nat.zero_le _, Nat.zero_le _⟩) hP hD hS hA [0, 1, 2, 3, 4, 5, 6, 7, 8, 9, 10, 11, 12, 13] [14] rfl rfl (by decide) (by decide) (fun zr1 zu2 H locs p11 hP hD hS => ?_)
  have hP : va_P D kc_all [(ou, .inl (cL, 1, .inr (.inl ov))), (pl, .inr (6, [.ref a, .ref mi, .ref sr, .ref tr, .ref pf, .ref xb, .ref tl, .int so, .int sl])), (tl, .inl (cI, 4, .inl (upd (upd (upd (upd td 0 x0) 1 x1) 2 x2) 3 x3))), (a, .inr (0, [.int (nI n), .int (nI k), .ref al, .ref am, .ref aw, .ref ac, .ref ag, .ref ab])), (al, .inl (cI, 4, .inl lo)), (am, .inl (cI, 4, .inl hi)), (aw, .inl (cZ, 4, .inl wh)), (ag, .inl (cQ, 6, .inr (.inr (.inr (.inr (fun i9 => some (rw i9))))))), (rw 0, .inl (cI, 4, .inl (M 0))), (rw 1, .inl (cI, 4, .inl (M 1))), (rw 2, .inl (cI, 4, .inl (M 2))), (rw 3, .inl (cI, 4, .inl (M 3))), (rw 4, .inl (cI, 4, .inl (M 4))), (rw 5, .inl (cI, 4, .inl (M 5))), (ab, .inl (cI, 6, .inl bd))] H := hP
  have hD : va_D A [(ou, .inl (cL, 1, .inr (.inl ov))), (pl, .inr (6, [.ref a, .ref mi, .ref sr, .ref tr, .ref pf, .ref xb, .ref tl, .int so, .int sl])), (tl, .inl (cI, 4, .inl (upd (upd (upd (upd td 0 x0) 1 x1) 2 x2) 3 x3))), (a, .inr (0, [.int (nI n), .int (nI k), .ref al, .ref am, .ref aw, .ref ac, .ref ag, .ref ab])), (al, .inl (cI, 4, .inl lo)), (am, .inl (cI, 4, .inl hi)), (aw, .inl (cZ, 4, .inl wh)), (ag, .inl (cQ, 6, .inr (.inr (.inr (.inr (fun i9 => some (rw i9))))))), (rw 0, .inl (cI, 4, .inl (M 0))), (rw 1, .inl (cI, 4, .inl (M 1))), (rw 2, .inl (cI, 4, .inl (M 2))), (rw 3, .inl (cI, 4, .inl (M 3))), (rw 4, .inl (cI, 4, .inl (M 4))), (rw 5, .inl (cI, 4, .inl (M 5))), (ab, .inl (cI, 6, .inl bd))] := hD
  have hP : va_P D kc_all [(pl, .inr (6, [.ref a, .ref mi, .ref sr, .ref tr, .ref pf, .ref xb, .ref tl, .int so, .int sl])), (tl, .inl (cI, 4, .inl (upd (upd (upd (upd td 0 x0) 1 x1) 2 x2) 3 x3))), (a, .inr (0, [.int (nI n), .int (nI k), .ref al, .ref am, .ref aw, .ref ac, .ref ag, .ref ab])), (al, .inl (cI, 4, .inl lo)), (am, .inl (cI, 4, .inl hi)), (aw, .inl (cZ, 4, .inl wh)), (ag, .inl (cQ, 6, .inr (.inr (.inr (.inr (fun i9 => some (rw i9))))))), (rw 0, .inl (cI, 4, .inl (M 0))), (rw 1, .inl (cI, 4, .inl (M 1))), (rw 2, .inl (cI, 4, .inl (M 2))), (rw 3, .inl (cI, 4, .inl (M 3))), (rw 4, .inl (cI, 4, .inl (M 4))), (rw 5, .inl (cI, 4, .inl (M 5))), (ab, .inl (cI, 6, .inl bd)), (ou, .inl (cL, 1, .inr (.inl ov)))] H := hP.sub [1, 2, 3, 4, 5, 6, 7, 8, 9, 10, 11, 12, 13, 14, 0] rfl
  have hD : va_D A [(pl, .inr (6, [.ref a, .ref mi, .ref sr, .ref tr, .ref pf, .ref xb, .ref tl, .int so, .int sl])), (tl, .inl (cI, 4, .inl (upd (upd (upd (upd td 0 x0) 1 x1) 2 x2) 3 x3))), (a, .inr (0, [.int (nI n), .int (nI k), .ref al, .ref am, .ref aw, .ref ac, .ref ag, .ref ab])), (al, .inl (cI, 4, .inl lo)), (am, .inl (cI, 4, .inl hi)), (aw, .inl (cZ, 4, .inl wh)), (ag, .inl (cQ, 6, .inr (.inr (.inr (.inr (fun i9 => some (rw i9))))))), (rw 0, .inl (cI, 4, .inl (M 0))), (rw 1, .inl (cI, 4, .inl (M 1))), (rw 2, .inl (cI, 4, .inl (M 2))), (rw 3, .inl (cI, 4, .inl (M 3))), (rw 4, .inl (cI, 4, .inl (M 4))), (rw 5, .inl (cI, 4, .inl (M 5))), (ab, .inl (cI, 6, .inl bd)), (ou, .inl (cL, 1, .inr (.inl ov)))] := hD.sub [1, 2, 3, 4, 5, 6, 7, 8, 9, 10, 11, 12, 13, 14, 0] (by decide) rfl
  have p11 : tl_ok (wd_ok wh (upd (upd (upd (upd td 0 x0) 1 x1) 2 x2) 3 x3) qv n ∧ kp_ok lo hi M bd (upd (upd (upd (upd td 0 x0) 1 x1) 2 x2) 3 x3) qv n k) zr1 := p11
  refine lv_if_eq (tgt := 21) hx hb dd_Law_keeps_14 (by decide) (fun h14 => ?_) (fun h14 => ?_)
  · skip
    refine lv_lconst (v := 0) hx hb dd_Law_keeps_21 (by decide) ?_
    refine mm_last hx hb hK hP hD hS 14 2 rfl rfl (0) (rfl) (by omega) (by first | decide | omega) dd_Law_keeps_22 (fun H locs hP hD hS => ?_)
    have hP : va_P D kc_all [(pl, .inr (6, [.ref a, .ref mi, .ref sr, .ref tr, .ref pf, .ref xb, .ref tl, .int so, .int sl])), (tl, .inl (cI, 4, .inl (upd (upd (upd (upd td 0 x0) 1 x1) 2 x2) 3 x3))), (a, .inr (0, [.int (nI n), .int (nI k), .ref al, .ref am, .ref aw, .ref ac, .ref ag, .ref ab])), (al, .inl (cI, 4, .inl lo)), (am, .inl (cI, 4, .inl hi)), (aw, .inl (cZ, 4, .inl wh)), (ag, .inl (cQ, 6, .inr (.inr (.inr (.inr (fun i9 => some (rw i9))))))), (rw 0, .inl (cI, 4, .inl (M 0))), (rw 1, .inl (cI, 4, .inl (M 1))), (rw 2, .inl (cI, 4, .inl (M 2))), (rw 3, .inl (cI, 4, .inl (M 3))), (rw 4, .inl (cI, 4, .inl (M 4))), (rw 5, .inl (cI, 4, .inl (M 5))), (ab, .inl (cI, 6, .inl bd)), (ou, .inl (cL, 1, .inr (.inl (vp_updL ov 0 (0 : Int64)))))] H := hP
    have hD : va_D A [(pl, .inr (6, [.ref a, .ref mi, .ref sr, .ref tr, .ref pf, .ref xb, .ref tl, .int so, .int sl])), (tl, .inl (cI, 4, .inl (upd (upd (upd (upd td 0 x0) 1 x1) 2 x2) 3 x3))), (a, .inr (0, [.int (nI n), .int (nI k), .ref al, .ref am, .ref aw, .ref ac, .ref ag, .ref ab])), (al, .inl (cI, 4, .inl lo)), (am, .inl (cI, 4, .inl hi)), (aw, .inl (cZ, 4, .inl wh)), (ag, .inl (cQ, 6, .inr (.inr (.inr (.inr (fun i9 => some (rw i9))))))), (rw 0, .inl (cI, 4, .inl (M 0))), (rw 1, .inl (cI, 4, .inl (M 1))), (rw 2, .inl (cI, 4, .inl (M 2))), (rw 3, .inl (cI, 4, .inl (M 3))), (rw 4, .inl (cI, 4, .inl (M 4))), (rw 5, .inl (cI, 4, .inl (M 5))), (ab, .inl (cI, 6, .inl bd)), (ou, .inl (cL, 1, .inr (.inl (vp_updL ov 0 (0 : Int64)))))] := hD
    refine lv_goto (tgt := 30) hx hb dd_Law_keeps_23 (by decide) ?_
    refine lv_iconst (v := 0) hx hb dd_Law_keeps_30 (by decide) ?_
    exact W.iret (v := (0 : Int32)) hx hb hr (fun t ht hW => ⟨⟨(0 : Int32), vp_updL ov 0 (0 : Int64), rfl, ⟨rfl, by first | exact tL_0 p11 h14 | exact tL_1 p11 h14⟩, by rw [ht]; exact hP, va_K.moved hW.alike hK, hD⟩, hS.F ht⟩) hS.2.2 dd_Law_keeps_31
  · skip
    refine lv_lconst (v := 1) hx hb dd_Law_keeps_17 (by decide) ?_
    refine lv_goto (tgt := 22) hx hb dd_Law_keeps_18 (by decide) ?_
    refine mm_last hx hb hK hP hD hS 14 2 rfl rfl (0) (rfl) (by omega) (by first | decide | omega) dd_Law_keeps_22 (fun H locs hP hD hS => ?_)
    have hP : va_P D kc_all [(pl, .inr (6, [.ref a, .ref mi, .ref sr, .ref tr, .ref pf, .ref xb, .ref tl, .int so, .int sl])), (tl, .inl (cI, 4, .inl (upd (upd (upd (upd td 0 x0) 1 x1) 2 x2) 3 x3))), (a, .inr (0, [.int (nI n), .int (nI k), .ref al, .ref am, .ref aw, .ref ac, .ref ag, .ref ab])), (al, .inl (cI, 4, .inl lo)), (am, .inl (cI, 4, .inl hi)), (aw, .inl (cZ, 4, .inl wh)), (ag, .inl (cQ, 6, .inr (.inr (.inr (.inr (fun i9 => some (rw i9))))))), (rw 0, .inl (cI, 4, .inl (M 0))), (rw 1, .inl (cI, 4, .inl (M 1))), (rw 2, .inl (cI, 4, .inl (M 2))), (rw 3, .inl (cI, 4, .inl (M 3))), (rw 4, .inl (cI, 4, .inl (M 4))), (rw 5, .inl (cI, 4, .inl (M 5))), (ab, .inl (cI, 6, .inl bd)), (ou, .inl (cL, 1, .inr (.inl (vp_updL ov 0 (1 : Int64)))))] H := hP
    have hD : va_D A [(pl, .inr (6, [.ref a, .ref mi, .ref sr, .ref tr, .ref pf, .ref xb, .ref tl, .int so, .int sl])), (tl, .inl (cI, 4, .inl (upd (upd (upd (upd td 0 x0) 1 x1) 2 x2) 3 x3))), (a, .inr (0, [.int (nI n), .int (nI k), .ref al, .ref am, .ref aw, .ref ac, .ref ag, .ref ab])), (al, .inl (cI, 4, .inl lo)), (am, .inl (cI, 4, .inl hi)), (aw, .inl (cZ, 4, .inl wh)), (ag, .inl (cQ, 6, .inr (.inr (.inr (.inr (fun i9 => some (rw i9))))))), (rw 0, .inl (cI, 4, .inl (M 0))), (rw 1, .inl (cI, 4, .inl (M 1))), (rw 2, .inl (cI, 4, .inl (M 2))), (rw 3, .inl (cI, 4, .inl (M 3))), (rw 4, .inl (cI, 4, .inl (M 4))), (rw 5, .inl (cI, 4, .inl (M 5))), (ab, .inl (cI, 6, .inl bd)), (ou, .inl (cL, 1, .inr (.inl (vp_updL ov 0 (1 : Int64)))))] := hD
    refine lv_goto (tgt := 30) hx hb dd_Law_keeps_23 (by decide) ?_
    refine lv_iconst (v := 0) hx hb dd_Law_keeps_30 (by decide) ?_
    exact W.iret (v := (0 : Int32)) hx hb hr (fun t ht hW => ⟨⟨(0 : Int32), vp_updL ov 0 (1 : Int64), rfl, ⟨rfl, by first | exact tL_0 p11 h14 | exact tL_1 p11 h14⟩, by rw [ht]; exact hP, va_K.moved hW.alike hK, hD⟩, hS.F ht⟩) hS.2.2 dd_Law_keeps_31
abbrev qq_Law_keepsX (D : va_G) (cI cZ cL cQ : ClassId) (pl : Nat) (tl : Nat) (a : Nat) (mi : Nat) (sr : Nat) (tr : Nat) (pf : Nat) (xb : Nat) (so : Int32) (sl : Int32) (x0 : Int32) (x1 : Int32) (x2 : Int32) (x3 : Int32) (qv : Int32) (ou : Nat) (ov : Nat → Int64) (A : Nat → Prop) : Array Value → State → Outcome → State → Prop := va_Qi (fun (r : Int32) (u : Unit) => r = 1) (fun (u : Unit) t => mm_B D kc_all [(cI, .int), (cZ, .boolean), (cL, .long), (cQ, .array .int)] A [(pl, .inr (6, [.ref a, .ref mi, .ref sr, .ref tr, .ref pf, .ref xb, .ref tl, .int so, .int sl])), (ou, .inl (cL, 1, .inr (.inl ov)))] t) A
set_option maxHeartbeats 4000000 in
set_option maxRecDepth 100000 in
theorem cc_Law_keepsX (l : Launch) (hnt : l.stackTraces = false) (D : va_G) (cI cZ cL cQ : ClassId) (sz : Nat) (pl : Nat) (tl : Nat) (a : Nat) (mi : Nat) (sr : Nat) (tr : Nat) (pf : Nat) (xb : Nat) (so : Int32) (sl : Int32) (x0 : Int32) (x1 : Int32) (x2 : Int32) (x3 : Int32) (qv : Int32) (ou : Nat) (ov : Nat → Int64) (hno : ¬ kq_ok x0 x1 x2 x3 qv 4) : Met l yy_Law_keeps ww_Law_keeps ({ frames := 7, cells := 1, slots := 6, locals := 107 } : Room) (mx_Pc D kc_all [(cI, .int), (cZ, .boolean), (cL, .long), (cQ, .array .int)] sz [(pl, .inr (6, [.ref a, .ref mi, .ref sr, .ref tr, .ref pf, .ref xb, .ref tl, .int so, .int sl])), (ou, .inl (cL, 1, .inr (.inl ov)))] [.ref pl, .int x0, .int x1, .int x2, .int x3, .int qv, .ref ou]) (qq_Law_keepsX D cI cZ cL cQ pl tl a mi sr tr pf xb so sl x0 x1 x2 x3 qv ou ov (va_A [(pl, .inr (6, [.ref a, .ref mi, .ref sr, .ref tr, .ref pf, .ref xb, .ref tl, .int so, .int sl])), (ou, .inl (cL, 1, .inr (.inl ov)))] sz)) 1 6 (va_A [(pl, .inr (6, [.ref a, .ref mi, .ref sr, .ref tr, .ref pf, .ref xb, .ref tl, .int so, .int sl])), (ou, .inl (cL, 1, .inr (.inl ov)))] sz) := by
  refine mx_MetW (cc := bb_Law_keeps) (maxL := 8) (ret := (some .int)) (by decide) rfl ?_
  intro p e s m args below meth c s₁ B hml htab hv
  obtain ⟨rfl, hsz, hP, hK, hD0, hTr⟩ := hv
  have hx := B.exec
  have hb := B.bytes
  have hr := B.returns
  have hts := atoms_spec (ws := ww_Law_keeps) B.pre
  have hown : s.vm.findClass RR_Law = some m.cls := findClass_of_methodNamed B.named
  have hlocks := B.notSynchronized
  subst hsz
  have hD := hD0.self (sz := s.heap.size)
  generalize hAe : va_A [(pl, .inr (6, [.ref a, .ref mi, .ref sr, .ref tr, .ref pf, .ref xb, .ref tl, .int so, .int sl])), (ou, .inl (cL, 1, .inr (.inl ov)))] s.heap.size = A at hD ⊢
  have hA : ∀ q : Nat, s.heap.size ≤ q → A q := fun q h => by rw [← hAe]; exact Or.inr h
  have hS : va_S A s.heap s.heap [] := va_S.rf
  have hS0 : va_S (mx_A s.heap.size) s.heap s.heap [] := va_S.rf
  have hP : va_P D kc_all [(pl, .inr (6, [.ref a, .ref mi, .ref sr, .ref tr, .ref pf, .ref xb, .ref tl, .int so, .int sl])), (ou, .inl (cL, 1, .inr (.inl ov)))] s.heap := hP
  have hl := lv_entry ([.ref pl, .int x0, .int x1, .int x2, .int x3, .int qv, .ref ou]) (n := 8) (Nat.le_of_ble_eq_true rfl)
  rw [lg_entry_eq]
  generalize (lg_sl ([.ref pl, .int x0, .int x1, .int x2, .int x3, .int qv, .ref ou]) ++ List.replicate (8 - (lg_sl ([.ref pl, .int x0, .int x1, .int x2, .int x3, .int qv, .ref ou])).length) Slot.unset).toArray = ls at hl ⊢
  have hl : lv_has ls 8 [(0, .ref pl), (1, .int x0), (2, .int x1), (3, .int x2), (4, .int x3), (5, .int qv), (6, .ref ou)] := hl
  have htb : ∀ w ∈ tb_all, w.before ([.ref pl, .int x0, .int x1, .int x2, .int x3, .int qv, .ref ou]).toArray s = true := fun w h => hts w (List.mem_cons_of_mem _ h)
  refine lv_aload hx hb dd_Law_keeps_0 (lv_at hl 6 rfl) ?_
  refine lv_iconst (v := 0) hx hb dd_Law_keeps_2 (by decide) ?_
  refine lv_aload_n hx hb dd_Law_keeps_3 rfl (lv_at hl 0 rfl) ?_
  refine lv_iload_n hx hb dd_Law_keeps_4 rfl (lv_at hl 1 rfl) ?_
  refine lv_iload_n hx hb dd_Law_keeps_5 rfl (lv_at hl 2 rfl) ?_
  refine lv_iload_n hx hb dd_Law_keeps_6 rfl (lv_at hl 3 rfl) ?_
  refine lv_iload hx hb dd_Law_keeps_7 (lv_at hl 4 rfl) ?_
  refine lv_iload hx hb dd_Law_keeps_9 (lv_at hl 5 rfl) ?_
  refine mx_cat htab [] (0, 23, 26, 13) [] rfl (mx_runV (As := [.int x0, .int x1, .int x2, .int x3, .int qv]) (rest := [.int (0 : Int32), .ref ou]) (C := RR_Planner) ⟨hx, hb, hml, hown, hts⟩ (cc_Planner_keepsX l hnt D cI cZ cL cQ _ pl tl a mi sr tr pf xb so sl x0 x1 x2 x3 qv (hno)) (mm_cwV 5 hts ml_Law_42 im_Planner_keeps se_Planner_keeps ic_Planner cd_Planner_keeps rfl rfl (by decide +kernel) ⟨Nat.le_of_ble_eq_true rfl, Nat.le_of_ble_eq_true rfl⟩) (mx_preV hTr hS0 hK hP hD [0] (by decide) rfl 0 rfl rfl) rfl rfl hl.1 rfl (lv_room (Nat.le_of_ble_eq_true rfl)) dd_Law_keeps_11 ⟨Nat.le_of_ble_eq_true rfl, Nat.le_of_ble_eq_true rfl⟩) hS hA hP hown (E := "java/lang/IllegalArgumentException") (fun _ h => h) (fun _ h => absurd h List.not_mem_nil) ⟨⟨by decide, by decide⟩, by decide⟩ (htb _ kl_Law_13) (ca_A hTr) (fun zx3 H locs hP hS => ?_)
  refine lv_astore (lv' := [(7, .ref zx3), (0, .ref pl), (1, .int x0), (2, .int x1), (3, .int x2), (4, .int x3), (5, .int qv), (6, .ref ou)]) hx hb dd_Law_keeps_26 hl (by decide) rfl (fun ls hl => ?_)
  refine lv_iconst (v := 1) hx hb dd_Law_keeps_28 (by decide) ?_
  exact W.iret (v := (1 : Int32)) hx hb hr (fun t ht hW => ⟨⟨(1 : Int32), (), rfl, rfl, by rw [ht]; exact hP, va_K.moved hW.alike hK, hD⟩, hS.F ht⟩) hS.2.2 dd_Law_keeps_29
abbrev qq_Law_fork (D : va_G) (cI cZ cL cQ : ClassId) (pl : Nat) (tl : Nat) (a : Nat) (mi : Nat) (sr : Nat) (tr : Nat) (pf : Nat) (xb : Nat) (so : Int32) (sl : Int32) (tk : Nat) (ta : Nat) (tv : Nat) (tf : Nat) (ts : Nat) (te : Nat) (tw : Nat) (nd : Nat) (jv : Int32) (xv : Int32) (c1 : Nat) (c2 : Nat) (kd : Nat → Int32) (fa : Nat → Int32) (fv : Nat → Int32) (fi : Nat → Int32) (se : Nat → Int32) (A : Nat → Prop) : Array Value → State → Outcome → State → Prop := va_Qi (fun (r : Int32) (u : Unit) => r = 0) (fun (u : Unit) t => mm_B D kc_all [(cI, .int), (cZ, .boolean), (cL, .long), (cQ, .array .int)] A [(pl, .inr (6, [.ref a, .ref mi, .ref sr, .ref tr, .ref pf, .ref xb, .ref tl, .int so, .int sl])), (tr, .inr (3, [.ref tk, .ref ta, .ref tv, .ref tf, .ref ts, .ref te, .ref tw])), (tk, .inl (cI, 40, .inl (upd kd nd 1))), (ta, .inl (cI, 40, .inl (upd fa nd jv))), (tv, .inl (cI, 40, .inl (upd fv nd xv))), (tf, .inl (cI, 40, .inl (upd fi nd (nI c1)))), (ts, .inl (cI, 40, .inl (upd se nd (nI c2))))] t) A
set_option maxHeartbeats 4000000 in
set_option maxRecDepth 100000 in
theorem cc_Law_fork (l : Launch) (D : va_G) (cI cZ cL cQ : ClassId) (sz : Nat) (pl : Nat) (tl : Nat) (a : Nat) (mi : Nat) (sr : Nat) (tr : Nat) (pf : Nat) (xb : Nat) (so : Int32) (sl : Int32) (tk : Nat) (ta : Nat) (tv : Nat) (tf : Nat) (ts : Nat) (te : Nat) (tw : Nat) (nd : Nat) (jv : Int32) (xv : Int32) (c1 : Nat) (c2 : Nat) (kd : Nat → Int32) (fa : Nat → Int32) (fv : Nat → Int32) (fi : Nat → Int32) (se : Nat → Int32) (hnd : nd < 40) (hc : c1 < 40 ∧ c2 < 40 ∧ nd < c1 ∧ nd < c2) (hok : in_ok jv 0 3 ∧ in_ok xv (-20) 20) : Met l yy_Law_fork ww_Law_fork ({ frames := 8, cells := 0, slots := 0, locals := 127 } : Room) (mm_Pc D kc_all [(cI, .int), (cZ, .boolean), (cL, .long), (cQ, .array .int)] sz [(pl, .inr (6, [.ref a, .ref mi, .ref sr, .ref tr, .ref pf, .ref xb, .ref tl, .int so, .int sl])), (tr, .inr (3, [.ref tk, .ref ta, .ref tv, .ref tf, .ref ts, .ref te, .ref tw])), (tk, .inl (cI, 40, .inl kd)), (ta, .inl (cI, 40, .inl fa)), (tv, .inl (cI, 40, .inl fv)), (tf, .inl (cI, 40, .inl fi)), (ts, .inl (cI, 40, .inl se))] [.ref pl, .int (nI nd), .int jv, .int xv, .int (nI c1), .int (nI c2)]) (qq_Law_fork D cI cZ cL cQ pl tl a mi sr tr pf xb so sl tk ta tv tf ts te tw nd jv xv c1 c2 kd fa fv fi se (va_A [(pl, .inr (6, [.ref a, .ref mi, .ref sr, .ref tr, .ref pf, .ref xb, .ref tl, .int so, .int sl])), (tr, .inr (3, [.ref tk, .ref ta, .ref tv, .ref tf, .ref ts, .ref te, .ref tw])), (tk, .inl (cI, 40, .inl kd)), (ta, .inl (cI, 40, .inl fa)), (tv, .inl (cI, 40, .inl fv)), (tf, .inl (cI, 40, .inl fi)), (ts, .inl (cI, 40, .inl se))] sz)) 0 0 (va_A [(pl, .inr (6, [.ref a, .ref mi, .ref sr, .ref tr, .ref pf, .ref xb, .ref tl, .int so, .int sl])), (tr, .inr (3, [.ref tk, .ref ta, .ref tv, .ref tf, .ref ts, .ref te, .ref tw])), (tk, .inl (cI, 40, .inl kd)), (ta, .inl (cI, 40, .inl fa)), (tv, .inl (cI, 40, .inl fv)), (tf, .inl (cI, 40, .inl fi)), (ts, .inl (cI, 40, .inl se))] sz) := by
  refine mx_MetW (cc := bb_Law_fork) (maxL := 7) (ret := (some .int)) (by decide) rfl ?_
  intro p e s m args below meth c s₁ B hml htab hv
  obtain ⟨rfl, hsz, hP, hK, hD0⟩ := hv
  have hx := B.exec
  have hb := B.bytes
  have hr := B.returns
  have hts := atoms_spec (ws := ww_Law_fork) B.pre
  have hown : s.vm.findClass RR_Law = some m.cls := findClass_of_methodNamed B.named
  have hlocks := B.notSynchronized
  subst hsz
  have hD := hD0.self (sz := s.heap.size)
  generalize hAe : va_A [(pl, .inr (6, [.ref a, .ref mi, .ref sr, .ref tr, .ref pf, .ref xb, .ref tl, .int so, .int sl])), (tr, .inr (3, [.ref tk, .ref ta, .ref tv, .ref tf, .ref ts, .ref te, .ref tw])), (tk, .inl (cI, 40, .inl kd)), (ta, .inl (cI, 40, .inl fa)), (tv, .inl (cI, 40, .inl fv)), (tf, .inl (cI, 40, .inl fi)), (ts, .inl (cI, 40, .inl se))] s.heap.size = A at hD ⊢
  have hA : ∀ q : Nat, s.heap.size ≤ q → A q := fun q h => by rw [← hAe]; exact Or.inr h
  have hS : va_S A s.heap s.heap [] := va_S.rf
  have hP : va_P D kc_all [(pl, .inr (6, [.ref a, .ref mi, .ref sr, .ref tr, .ref pf, .ref xb, .ref tl, .int so, .int sl])), (tr, .inr (3, [.ref tk, .ref ta, .ref tv, .ref tf, .ref ts, .ref te, .ref tw])), (tk, .inl (cI, 40, .inl kd)), (ta, .inl (cI, 40, .inl fa)), (tv, .inl (cI, 40, .inl fv)), (tf, .inl (cI, 40, .inl fi)), (ts, .inl (cI, 40, .inl se))] s.heap := hP
  have hl := lv_entry ([.ref pl, .int (nI nd), .int jv, .int xv, .int (nI c1), .int (nI c2)]) (n := 7) (Nat.le_of_ble_eq_true rfl)
  rw [lg_entry_eq]
  generalize (lg_sl ([.ref pl, .int (nI nd), .int jv, .int xv, .int (nI c1), .int (nI c2)]) ++ List.replicate (7 - (lg_sl ([.ref pl, .int (nI nd), .int jv, .int xv, .int (nI c1), .int (nI c2)])).length) Slot.unset).toArray = ls at hl ⊢
  have hl : lv_has ls 7 [(0, .ref pl), (1, .int (nI nd)), (2, .int jv), (3, .int xv), (4, .int (nI c1)), (5, .int (nI c2))] := hl
  have htb : ∀ w ∈ tb_all, w.before ([.ref pl, .int (nI nd), .int jv, .int xv, .int (nI c1), .int (nI c2)]).toArray s = true := fun w h => hts w (List.mem_cons_of_mem _ h)
  refine lv_aload_n hx hb dd_Law_fork_0 rfl (lv_at hl 0 rfl) ?_
  refine lv_iload_n hx hb dd_Law_fork_1 rfl (lv_at hl 1 rfl) ?_
  refine lv_iload_n hx hb dd_Law_fork_2 rfl (lv_at hl 2 rfl) ?_
  refine lv_iload_n hx hb dd_Law_fork_3 rfl (lv_at hl 3 rfl) ?_
  refine lv_iload hx hb dd_Law_fork_4 (lv_at hl 4 rfl) ?_
  refine lv_iload hx hb dd_Law_fork_6 (lv_at hl 5 rfl) ?_
  refine mm_v (wc := [(pl, .inr (6, [.ref a, .ref mi, .ref sr, .ref tr, .ref pf, .ref xb, .ref tl, .int so, .int sl])), (tr, .inr (3, [.ref tk, .ref ta, .ref tv, .ref tf, .ref ts, .ref te, .ref tw])), (tk, .inl (cI, 40, .inl kd)), (ta, .inl (cI, 40, .inl fa)), (tv, .inl (cI, 40, .inl fv)), (tf, .inl (cI, 40, .inl fi)), (ts, .inl (cI, 40, .inl se))]) (wr := []) (va_runV (As := [.int (nI nd), .int jv, .int xv, .int (nI c1), .int (nI c2)]) (rest := []) (C := RR_Planner) ⟨hx, hb, hml, hown, hts⟩ (cc_Planner_fork l D cI cZ cL cQ _ pl tl a mi sr tr pf xb so sl tk ta tv tf ts te tw nd jv xv c1 c2 kd fa fv fi se (hnd) (hc) (hok)) (mm_cwV 5 hts ml_Law_46 im_Planner_fork se_Planner_fork ic_Planner cd_Planner_fork rfl rfl (by decide +kernel) ⟨Nat.le_of_ble_eq_true rfl, Nat.le_of_ble_eq_true rfl⟩) (mm_preV hK hP hD [0, 1, 2, 3, 4, 5, 6] (by decide) rfl 0 rfl rfl) rfl rfl hl.1 rfl (lv_room (Nat.le_of_ble_eq_true rfl)) dd_Law_fork_8 ⟨Nat.zero_le _, Nat.zero_le _⟩) hP hD hS hA [0, 1, 2, 3, 4, 5, 6] [] rfl rfl (by decide) (by decide) (fun zu2 H locs p8 hP hD hS => ?_)
  have hP : va_P D kc_all [(pl, .inr (6, [.ref a, .ref mi, .ref sr, .ref tr, .ref pf, .ref xb, .ref tl, .int so, .int sl])), (tr, .inr (3, [.ref tk, .ref ta, .ref tv, .ref tf, .ref ts, .ref te, .ref tw])), (tk, .inl (cI, 40, .inl (upd kd nd 1))), (ta, .inl (cI, 40, .inl (upd fa nd jv))), (tv, .inl (cI, 40, .inl (upd fv nd xv))), (tf, .inl (cI, 40, .inl (upd fi nd (nI c1)))), (ts, .inl (cI, 40, .inl (upd se nd (nI c2))))] H := hP
  have hD : va_D A [(pl, .inr (6, [.ref a, .ref mi, .ref sr, .ref tr, .ref pf, .ref xb, .ref tl, .int so, .int sl])), (tr, .inr (3, [.ref tk, .ref ta, .ref tv, .ref tf, .ref ts, .ref te, .ref tw])), (tk, .inl (cI, 40, .inl (upd kd nd 1))), (ta, .inl (cI, 40, .inl (upd fa nd jv))), (tv, .inl (cI, 40, .inl (upd fv nd xv))), (tf, .inl (cI, 40, .inl (upd fi nd (nI c1)))), (ts, .inl (cI, 40, .inl (upd se nd (nI c2))))] := hD
  have p8 : True := p8
  refine lv_goto (tgt := 22) hx hb dd_Law_fork_11 (by decide) ?_
  refine lv_iconst (v := 0) hx hb dd_Law_fork_22 (by decide) ?_
  exact W.iret (v := (0 : Int32)) hx hb hr (fun t ht hW => ⟨⟨(0 : Int32), (), rfl, rfl, by rw [ht]; exact hP, va_K.moved hW.alike hK, hD⟩, hS.F ht⟩) hS.2.2 dd_Law_fork_23
abbrev qq_Law_forkX1 (D : va_G) (cI cZ cL cQ : ClassId) (pl : Nat) (tl : Nat) (a : Nat) (mi : Nat) (sr : Nat) (tr : Nat) (pf : Nat) (xb : Nat) (so : Int32) (sl : Int32) (nv : Int32) (jv : Int32) (xv : Int32) (f1 : Int32) (f2 : Int32) (A : Nat → Prop) : Array Value → State → Outcome → State → Prop := va_Qi (fun (r : Int32) (u : Unit) => r = 1) (fun (u : Unit) t => mm_B D kc_all [(cI, .int), (cZ, .boolean), (cL, .long), (cQ, .array .int)] A [(pl, .inr (6, [.ref a, .ref mi, .ref sr, .ref tr, .ref pf, .ref xb, .ref tl, .int so, .int sl]))] t) A
set_option maxHeartbeats 4000000 in
set_option maxRecDepth 100000 in
theorem cc_Law_forkX1 (l : Launch) (hnt : l.stackTraces = false) (D : va_G) (cI cZ cL cQ : ClassId) (sz : Nat) (pl : Nat) (tl : Nat) (a : Nat) (mi : Nat) (sr : Nat) (tr : Nat) (pf : Nat) (xb : Nat) (so : Int32) (sl : Int32) (nv : Int32) (jv : Int32) (xv : Int32) (f1 : Int32) (f2 : Int32) (hno : ¬ nd_ok nv) : Met l yy_Law_fork ww_Law_fork ({ frames := 8, cells := 1, slots := 6, locals := 127 } : Room) (mx_Pc D kc_all [(cI, .int), (cZ, .boolean), (cL, .long), (cQ, .array .int)] sz [(pl, .inr (6, [.ref a, .ref mi, .ref sr, .ref tr, .ref pf, .ref xb, .ref tl, .int so, .int sl]))] [.ref pl, .int nv, .int jv, .int xv, .int f1, .int f2]) (qq_Law_forkX1 D cI cZ cL cQ pl tl a mi sr tr pf xb so sl nv jv xv f1 f2 (va_A [(pl, .inr (6, [.ref a, .ref mi, .ref sr, .ref tr, .ref pf, .ref xb, .ref tl, .int so, .int sl]))] sz)) 1 6 (va_A [(pl, .inr (6, [.ref a, .ref mi, .ref sr, .ref tr, .ref pf, .ref xb, .ref tl, .int so, .int sl]))] sz) := by
  refine mx_MetW (cc := bb_Law_fork) (maxL := 7) (ret := (some .int)) (by decide) rfl ?_
  intro p e s m args below meth c s₁ B hml htab hv
  obtain ⟨rfl, hsz, hP, hK, hD0, hTr⟩ := hv
  have hx := B.exec
  have hb := B.bytes
  have hr := B.returns
  have hts := atoms_spec (ws := ww_Law_fork) B.pre
  have hown : s.vm.findClass RR_Law = some m.cls := findClass_of_methodNamed B.named
  have hlocks := B.notSynchronized
  subst hsz
  have hD := hD0.self (sz := s.heap.size)
  generalize hAe : va_A [(pl, .inr (6, [.ref a, .ref mi, .ref sr, .ref tr, .ref pf, .ref xb, .ref tl, .int so, .int sl]))] s.heap.size = A at hD ⊢
  have hA : ∀ q : Nat, s.heap.size ≤ q → A q := fun q h => by rw [← hAe]; exact Or.inr h
  have hS : va_S A s.heap s.heap [] := va_S.rf
  have hS0 : va_S (mx_A s.heap.size) s.heap s.heap [] := va_S.rf
  have hP : va_P D kc_all [(pl, .inr (6, [.ref a, .ref mi, .ref sr, .ref tr, .ref pf, .ref xb, .ref tl, .int so, .int sl]))] s.heap := hP
  have hl := lv_entry ([.ref pl, .int nv, .int jv, .int xv, .int f1, .int f2]) (n := 7) (Nat.le_of_ble_eq_true rfl)
  rw [lg_entry_eq]
  generalize (lg_sl ([.ref pl, .int nv, .int jv, .int xv, .int f1, .int f2]) ++ List.replicate (7 - (lg_sl ([.ref pl, .int nv, .int jv, .int xv, .int f1, .int f2])).length) Slot.unset).toArray = ls at hl ⊢
  have hl : lv_has ls 7 [(0, .ref pl), (1, .int nv), (2, .int jv), (3, .int xv), (4, .int f1), (5, .int f2)] := hl
  have htb : ∀ w ∈ tb_all, w.before ([.ref pl, .int nv, .int jv, .int xv, .int f1, .int f2]).toArray s = true := fun w h => hts w (List.mem_cons_of_mem _ h)
  refine lv_aload_n hx hb dd_Law_fork_0 rfl (lv_at hl 0 rfl) ?_
  refine lv_iload_n hx hb dd_Law_fork_1 rfl (lv_at hl 1 rfl) ?_
  refine lv_iload_n hx hb dd_Law_fork_2 rfl (lv_at hl 2 rfl) ?_
  refine lv_iload_n hx hb dd_Law_fork_3 rfl (lv_at hl 3 rfl) ?_
  refine lv_iload hx hb dd_Law_fork_4 (lv_at hl 4 rfl) ?_
  refine lv_iload hx hb dd_Law_fork_6 (lv_at hl 5 rfl) ?_
  refine mx_cat htab [] (0, 11, 14, 19) [(0, 11, 18, 13)] rfl (mx_runV (As := [.int nv, .int jv, .int xv, .int f1, .int f2]) (rest := []) (C := RR_Planner) ⟨hx, hb, hml, hown, hts⟩ (cc_Planner_forkX1 l hnt D cI cZ cL cQ _ pl tl a mi sr tr pf xb so sl nv jv xv f1 f2 (hno)) (mm_cwV 5 hts ml_Law_46 im_Planner_fork se_Planner_fork ic_Planner cd_Planner_fork rfl rfl (by decide +kernel) ⟨Nat.le_of_ble_eq_true rfl, Nat.le_of_ble_eq_true rfl⟩) (mx_preV hTr hS0 hK hP hD [0] (by decide) rfl 0 rfl rfl) rfl rfl hl.1 rfl (lv_room (Nat.le_of_ble_eq_true rfl)) dd_Law_fork_8 ⟨Nat.le_of_ble_eq_true rfl, Nat.le_of_ble_eq_true rfl⟩) hS hA hP hown (E := "java/lang/IndexOutOfBoundsException") (fun _ h => h) (fun _ h => absurd h List.not_mem_nil) ⟨⟨by decide, by decide⟩, by decide⟩ (htb _ kl_Law_19) (ca_B hTr) (fun zx3 H locs hP hS => ?_)
  refine lv_astore (lv' := [(6, .ref zx3), (0, .ref pl), (1, .int nv), (2, .int jv), (3, .int xv), (4, .int f1), (5, .int f2)]) hx hb dd_Law_fork_14 hl (by decide) rfl (fun ls hl => ?_)
  refine lv_iconst (v := 1) hx hb dd_Law_fork_16 (by decide) ?_
  exact W.iret (v := (1 : Int32)) hx hb hr (fun t ht hW => ⟨⟨(1 : Int32), (), rfl, rfl, by rw [ht]; exact hP, va_K.moved hW.alike hK, hD⟩, hS.F ht⟩) hS.2.2 dd_Law_fork_17
abbrev qq_Law_forkX2 (D : va_G) (cI cZ cL cQ : ClassId) (pl : Nat) (tl : Nat) (a : Nat) (mi : Nat) (sr : Nat) (tr : Nat) (pf : Nat) (xb : Nat) (so : Int32) (sl : Int32) (nd : Nat) (jv : Int32) (xv : Int32) (f1 : Int32) (f2 : Int32) (A : Nat → Prop) : Array Value → State → Outcome → State → Prop := va_Qi (fun (r : Int32) (u : Unit) => r = 1) (fun (u : Unit) t => mm_B D kc_all [(cI, .int), (cZ, .boolean), (cL, .long), (cQ, .array .int)] A [(pl, .inr (6, [.ref a, .ref mi, .ref sr, .ref tr, .ref pf, .ref xb, .ref tl, .int so, .int sl]))] t) A
set_option maxHeartbeats 4000000 in
set_option maxRecDepth 100000 in
theorem cc_Law_forkX2 (l : Launch) (hnt : l.stackTraces = false) (D : va_G) (cI cZ cL cQ : ClassId) (sz : Nat) (pl : Nat) (tl : Nat) (a : Nat) (mi : Nat) (sr : Nat) (tr : Nat) (pf : Nat) (xb : Nat) (so : Int32) (sl : Int32) (nd : Nat) (jv : Int32) (xv : Int32) (f1 : Int32) (f2 : Int32) (hnd : nd < 40) (hno : ¬ nd_ok f1) : Met l yy_Law_fork ww_Law_fork ({ frames := 8, cells := 1, slots := 6, locals := 127 } : Room) (mx_Pc D kc_all [(cI, .int), (cZ, .boolean), (cL, .long), (cQ, .array .int)] sz [(pl, .inr (6, [.ref a, .ref mi, .ref sr, .ref tr, .ref pf, .ref xb, .ref tl, .int so, .int sl]))] [.ref pl, .int (nI nd), .int jv, .int xv, .int f1, .int f2]) (qq_Law_forkX2 D cI cZ cL cQ pl tl a mi sr tr pf xb so sl nd jv xv f1 f2 (va_A [(pl, .inr (6, [.ref a, .ref mi, .ref sr, .ref tr, .ref pf, .ref xb, .ref tl, .int so, .int sl]))] sz)) 1 6 (va_A [(pl, .inr (6, [.ref a, .ref mi, .ref sr, .ref tr, .ref pf, .ref xb, .ref tl, .int so, .int sl]))] sz) := by
  refine mx_MetW (cc := bb_Law_fork) (maxL := 7) (ret := (some .int)) (by decide) rfl ?_
  intro p e s m args below meth c s₁ B hml htab hv
  obtain ⟨rfl, hsz, hP, hK, hD0, hTr⟩ := hv
  have hx := B.exec
  have hb := B.bytes
  have hr := B.returns
  have hts := atoms_spec (ws := ww_Law_fork) B.pre
  have hown : s.vm.findClass RR_Law = some m.cls := findClass_of_methodNamed B.named
  have hlocks := B.notSynchronized
  subst hsz
  have hD := hD0.self (sz := s.heap.size)
  generalize hAe : va_A [(pl, .inr (6, [.ref a, .ref mi, .ref sr, .ref tr, .ref pf, .ref xb, .ref tl, .int so, .int sl]))] s.heap.size = A at hD ⊢
  have hA : ∀ q : Nat, s.heap.size ≤ q → A q := fun q h => by rw [← hAe]; exact Or.inr h
  have hS : va_S A s.heap s.heap [] := va_S.rf
  have hS0 : va_S (mx_A s.heap.size) s.heap s.heap [] := va_S.rf
  have hP : va_P D kc_all [(pl, .inr (6, [.ref a, .ref mi, .ref sr, .ref tr, .ref pf, .ref xb, .ref tl, .int so, .int sl]))] s.heap := hP
  have hl := lv_entry ([.ref pl, .int (nI nd), .int jv, .int xv, .int f1, .int f2]) (n := 7) (Nat.le_of_ble_eq_true rfl)
  rw [lg_entry_eq]
  generalize (lg_sl ([.ref pl, .int (nI nd), .int jv, .int xv, .int f1, .int f2]) ++ List.replicate (7 - (lg_sl ([.ref pl, .int (nI nd), .int jv, .int xv, .int f1, .int f2])).length) Slot.unset).toArray = ls at hl ⊢
  have hl : lv_has ls 7 [(0, .ref pl), (1, .int (nI nd)), (2, .int jv), (3, .int xv), (4, .int f1), (5, .int f2)] := hl
  have htb : ∀ w ∈ tb_all, w.before ([.ref pl, .int (nI nd), .int jv, .int xv, .int f1, .int f2]).toArray s = true := fun w h => hts w (List.mem_cons_of_mem _ h)
  refine lv_aload_n hx hb dd_Law_fork_0 rfl (lv_at hl 0 rfl) ?_
  refine lv_iload_n hx hb dd_Law_fork_1 rfl (lv_at hl 1 rfl) ?_
  refine lv_iload_n hx hb dd_Law_fork_2 rfl (lv_at hl 2 rfl) ?_
  refine lv_iload_n hx hb dd_Law_fork_3 rfl (lv_at hl 3 rfl) ?_
  refine lv_iload hx hb dd_Law_fork_4 (lv_at hl 4 rfl) ?_
  refine lv_iload hx hb dd_Law_fork_6 (lv_at hl 5 rfl) ?_
  refine mx_cat htab [] (0, 11, 14, 19) [(0, 11, 18, 13)] rfl (mx_runV (As := [.int (nI nd), .int jv, .int xv, .int f1, .int f2]) (rest := []) (C := RR_Planner) ⟨hx, hb, hml, hown, hts⟩ (cc_Planner_forkX2 l hnt D cI cZ cL cQ _ pl tl a mi sr tr pf xb so sl nd jv xv f1 f2 (hnd) (hno)) (mm_cwV 5 hts ml_Law_46 im_Planner_fork se_Planner_fork ic_Planner cd_Planner_fork rfl rfl (by decide +kernel) ⟨Nat.le_of_ble_eq_true rfl, Nat.le_of_ble_eq_true rfl⟩) (mx_preV hTr hS0 hK hP hD [0] (by decide) rfl 0 rfl rfl) rfl rfl hl.1 rfl (lv_room (Nat.le_of_ble_eq_true rfl)) dd_Law_fork_8 ⟨Nat.le_of_ble_eq_true rfl, Nat.le_of_ble_eq_true rfl⟩) hS hA hP hown (E := "java/lang/IndexOutOfBoundsException") (fun _ h => h) (fun _ h => absurd h List.not_mem_nil) ⟨⟨by decide, by decide⟩, by decide⟩ (htb _ kl_Law_19) (ca_B hTr) (fun zx3 H locs hP hS => ?_)
  refine lv_astore (lv' := [(6, .ref zx3), (0, .ref pl), (1, .int (nI nd)), (2, .int jv), (3, .int xv), (4, .int f1), (5, .int f2)]) hx hb dd_Law_fork_14 hl (by decide) rfl (fun ls hl => ?_)
  refine lv_iconst (v := 1) hx hb dd_Law_fork_16 (by decide) ?_
  exact W.iret (v := (1 : Int32)) hx hb hr (fun t ht hW => ⟨⟨(1 : Int32), (), rfl, rfl, by rw [ht]; exact hP, va_K.moved hW.alike hK, hD⟩, hS.F ht⟩) hS.2.2 dd_Law_fork_17
abbrev qq_Law_forkX3 (D : va_G) (cI cZ cL cQ : ClassId) (pl : Nat) (tl : Nat) (a : Nat) (mi : Nat) (sr : Nat) (tr : Nat) (pf : Nat) (xb : Nat) (so : Int32) (sl : Int32) (nd : Nat) (jv : Int32) (xv : Int32) (c1 : Nat) (f2 : Int32) (A : Nat → Prop) : Array Value → State → Outcome → State → Prop := va_Qi (fun (r : Int32) (u : Unit) => r = 1) (fun (u : Unit) t => mm_B D kc_all [(cI, .int), (cZ, .boolean), (cL, .long), (cQ, .array .int)] A [(pl, .inr (6, [.ref a, .ref mi, .ref sr, .ref tr, .ref pf, .ref xb, .ref tl, .int so, .int sl]))] t) A
set_option maxHeartbeats 4000000 in
set_option maxRecDepth 100000 in
theorem cc_Law_forkX3 (l : Launch) (hnt : l.stackTraces = false) (D : va_G) (cI cZ cL cQ : ClassId) (sz : Nat) (pl : Nat) (tl : Nat) (a : Nat) (mi : Nat) (sr : Nat) (tr : Nat) (pf : Nat) (xb : Nat) (so : Int32) (sl : Int32) (nd : Nat) (jv : Int32) (xv : Int32) (c1 : Nat) (f2 : Int32) (hnd : nd < 40) (hc : c1 < 40) (hno : ¬ nd_ok f2) : Met l yy_Law_fork ww_Law_fork ({ frames := 8, cells := 1, slots := 6, locals := 127 } : Room) (mx_Pc D kc_all [(cI, .int), (cZ, .boolean), (cL, .long), (cQ, .array .int)] sz [(pl, .inr (6, [.ref a, .ref mi, .ref sr, .ref tr, .ref pf, .ref xb, .ref tl, .int so, .int sl]))] [.ref pl, .int (nI nd), .int jv, .int xv, .int (nI c1), .int f2]) (qq_Law_forkX3 D cI cZ cL cQ pl tl a mi sr tr pf xb so sl nd jv xv c1 f2 (va_A [(pl, .inr (6, [.ref a, .ref mi, .ref sr, .ref tr, .ref pf, .ref xb, .ref tl, .int so, .int sl]))] sz)) 1 6 (va_A [(pl, .inr (6, [.ref a, .ref mi, .ref sr, .ref tr, .ref pf, .ref xb, .ref tl, .int so, .int sl]))] sz) := by
  refine mx_MetW (cc := bb_Law_fork) (maxL := 7) (ret := (some .int)) (by decide) rfl ?_
  intro p e s m args below meth c s₁ B hml htab hv
  obtain ⟨rfl, hsz, hP, hK, hD0, hTr⟩ := hv
  have hx := B.exec
  have hb := B.bytes
  have hr := B.returns
  have hts := atoms_spec (ws := ww_Law_fork) B.pre
  have hown : s.vm.findClass RR_Law = some m.cls := findClass_of_methodNamed B.named
  have hlocks := B.notSynchronized
  subst hsz
  have hD := hD0.self (sz := s.heap.size)
  generalize hAe : va_A [(pl, .inr (6, [.ref a, .ref mi, .ref sr, .ref tr, .ref pf, .ref xb, .ref tl, .int so, .int sl]))] s.heap.size = A at hD ⊢
  have hA : ∀ q : Nat, s.heap.size ≤ q → A q := fun q h => by rw [← hAe]; exact Or.inr h
  have hS : va_S A s.heap s.heap [] := va_S.rf
  have hS0 : va_S (mx_A s.heap.size) s.heap s.heap [] := va_S.rf
  have hP : va_P D kc_all [(pl, .inr (6, [.ref a, .ref mi, .ref sr, .ref tr, .ref pf, .ref xb, .ref tl, .int so, .int sl]))] s.heap := hP
  have hl := lv_entry ([.ref pl, .int (nI nd), .int jv, .int xv, .int (nI c1), .int f2]) (n := 7) (Nat.le_of_ble_eq_true rfl)
  rw [lg_entry_eq]
  generalize (lg_sl ([.ref pl, .int (nI nd), .int jv, .int xv, .int (nI c1), .int f2]) ++ List.replicate (7 - (lg_sl ([.ref pl, .int (nI nd), .int jv, .int xv, .int (nI c1), .int f2])).length) Slot.unset).toArray = ls at hl ⊢
  have hl : lv_has ls 7 [(0, .ref pl), (1, .int (nI nd)), (2, .int jv), (3, .int xv), (4, .int (nI c1)), (5, .int f2)] := hl
  have htb : ∀ w ∈ tb_all, w.before ([.ref pl, .int (nI nd), .int jv, .int xv, .int (nI c1), .int f2]).toArray s = true := fun w h => hts w (List.mem_cons_of_mem _ h)
  refine lv_aload_n hx hb dd_Law_fork_0 rfl (lv_at hl 0 rfl) ?_
  refine lv_iload_n hx hb dd_Law_fork_1 rfl (lv_at hl 1 rfl) ?_
  refine lv_iload_n hx hb dd_Law_fork_2 rfl (lv_at hl 2 rfl) ?_
  refine lv_iload_n hx hb dd_Law_fork_3 rfl (lv_at hl 3 rfl) ?_
  refine lv_iload hx hb dd_Law_fork_4 (lv_at hl 4 rfl) ?_
  refine lv_iload hx hb dd_Law_fork_6 (lv_at hl 5 rfl) ?_
  refine mx_cat htab [] (0, 11, 14, 19) [(0, 11, 18, 13)] rfl (mx_runV (As := [.int (nI nd), .int jv, .int xv, .int (nI c1), .int f2]) (rest := []) (C := RR_Planner) ⟨hx, hb, hml, hown, hts⟩ (cc_Planner_forkX3 l hnt D cI cZ cL cQ _ pl tl a mi sr tr pf xb so sl nd jv xv c1 f2 (hnd) (hc) (hno)) (mm_cwV 5 hts ml_Law_46 im_Planner_fork se_Planner_fork ic_Planner cd_Planner_fork rfl rfl (by decide +kernel) ⟨Nat.le_of_ble_eq_true rfl, Nat.le_of_ble_eq_true rfl⟩) (mx_preV hTr hS0 hK hP hD [0] (by decide) rfl 0 rfl rfl) rfl rfl hl.1 rfl (lv_room (Nat.le_of_ble_eq_true rfl)) dd_Law_fork_8 ⟨Nat.le_of_ble_eq_true rfl, Nat.le_of_ble_eq_true rfl⟩) hS hA hP hown (E := "java/lang/IndexOutOfBoundsException") (fun _ h => h) (fun _ h => absurd h List.not_mem_nil) ⟨⟨by decide, by decide⟩, by decide⟩ (htb _ kl_Law_19) (ca_B hTr) (fun zx3 H locs hP hS => ?_)
  refine lv_astore (lv' := [(6, .ref zx3), (0, .ref pl), (1, .int (nI nd)), (2, .int jv), (3, .int xv), (4, .int (nI c1)), (5, .int f2)]) hx hb dd_Law_fork_14 hl (by decide) rfl (fun ls hl => ?_)
  refine lv_iconst (v := 1) hx hb dd_Law_fork_16 (by decide) ?_
  exact W.iret (v := (1 : Int32)) hx hb hr (fun t ht hW => ⟨⟨(1 : Int32), (), rfl, rfl, by rw [ht]; exact hP, va_K.moved hW.alike hK, hD⟩, hS.F ht⟩) hS.2.2 dd_Law_fork_17
abbrev qq_Law_forkX4 (D : va_G) (cI cZ cL cQ : ClassId) (pl : Nat) (tl : Nat) (a : Nat) (mi : Nat) (sr : Nat) (tr : Nat) (pf : Nat) (xb : Nat) (so : Int32) (sl : Int32) (nd : Nat) (jv : Int32) (xv : Int32) (c1 : Nat) (c2 : Nat) (A : Nat → Prop) : Array Value → State → Outcome → State → Prop := va_Qi (fun (r : Int32) (u : Unit) => r = 1) (fun (u : Unit) t => mm_B D kc_all [(cI, .int), (cZ, .boolean), (cL, .long), (cQ, .array .int)] A [(pl, .inr (6, [.ref a, .ref mi, .ref sr, .ref tr, .ref pf, .ref xb, .ref tl, .int so, .int sl]))] t) A
set_option maxHeartbeats 4000000 in
set_option maxRecDepth 100000 in
theorem cc_Law_forkX4 (l : Launch) (hnt : l.stackTraces = false) (D : va_G) (cI cZ cL cQ : ClassId) (sz : Nat) (pl : Nat) (tl : Nat) (a : Nat) (mi : Nat) (sr : Nat) (tr : Nat) (pf : Nat) (xb : Nat) (so : Int32) (sl : Int32) (nd : Nat) (jv : Int32) (xv : Int32) (c1 : Nat) (c2 : Nat) (hnd : nd < 40) (hc : c1 < 40 ∧ c2 < 40) (hno : c1 ≤ nd ∨ c2 ≤ nd) : Met l yy_Law_fork ww_Law_fork ({ frames := 8, cells := 1, slots := 6, locals := 127 } : Room) (mx_Pc D kc_all [(cI, .int), (cZ, .boolean), (cL, .long), (cQ, .array .int)] sz [(pl, .inr (6, [.ref a, .ref mi, .ref sr, .ref tr, .ref pf, .ref xb, .ref tl, .int so, .int sl]))] [.ref pl, .int (nI nd), .int jv, .int xv, .int (nI c1), .int (nI c2)]) (qq_Law_forkX4 D cI cZ cL cQ pl tl a mi sr tr pf xb so sl nd jv xv c1 c2 (va_A [(pl, .inr (6, [.ref a, .ref mi, .ref sr, .ref tr, .ref pf, .ref xb, .ref tl, .int so, .int sl]))] sz)) 1 6 (va_A [(pl, .inr (6, [.ref a, .ref mi, .ref sr, .ref tr, .ref pf, .ref xb, .ref tl, .int so, .int sl]))] sz) := by
  refine mx_MetW (cc := bb_Law_fork) (maxL := 7) (ret := (some .int)) (by decide) rfl ?_
  intro p e s m args below meth c s₁ B hml htab hv
  obtain ⟨rfl, hsz, hP, hK, hD0, hTr⟩ := hv
  have hx := B.exec
  have hb := B.bytes
  have hr := B.returns
  have hts := atoms_spec (ws := ww_Law_fork) B.pre
  have hown : s.vm.findClass RR_Law = some m.cls := findClass_of_methodNamed B.named
  have hlocks := B.notSynchronized
  subst hsz
  have hD := hD0.self (sz := s.heap.size)
  generalize hAe : va_A [(pl, .inr (6, [.ref a, .ref mi, .ref sr, .ref tr, .ref pf, .ref xb, .ref tl, .int so, .int sl]))] s.heap.size = A at hD ⊢
  have hA : ∀ q : Nat, s.heap.size ≤ q → A q := fun q h => by rw [← hAe]; exact Or.inr h
  have hS : va_S A s.heap s.heap [] := va_S.rf
  have hS0 : va_S (mx_A s.heap.size) s.heap s.heap [] := va_S.rf
  have hP : va_P D kc_all [(pl, .inr (6, [.ref a, .ref mi, .ref sr, .ref tr, .ref pf, .ref xb, .ref tl, .int so, .int sl]))] s.heap := hP
  have hl := lv_entry ([.ref pl, .int (nI nd), .int jv, .int xv, .int (nI c1), .int (nI c2)]) (n := 7) (Nat.le_of_ble_eq_true rfl)
  rw [lg_entry_eq]
  generalize (lg_sl ([.ref pl, .int (nI nd), .int jv, .int xv, .int (nI c1), .int (nI c2)]) ++ List.replicate (7 - (lg_sl ([.ref pl, .int (nI nd), .int jv, .int xv, .int (nI c1), .int (nI c2)])).length) Slot.unset).toArray = ls at hl ⊢
  have hl : lv_has ls 7 [(0, .ref pl), (1, .int (nI nd)), (2, .int jv), (3, .int xv), (4, .int (nI c1)), (5, .int (nI c2))] := hl
  have htb : ∀ w ∈ tb_all, w.before ([.ref pl, .int (nI nd), .int jv, .int xv, .int (nI c1), .int (nI c2)]).toArray s = true := fun w h => hts w (List.mem_cons_of_mem _ h)
  refine lv_aload_n hx hb dd_Law_fork_0 rfl (lv_at hl 0 rfl) ?_
  refine lv_iload_n hx hb dd_Law_fork_1 rfl (lv_at hl 1 rfl) ?_
  refine lv_iload_n hx hb dd_Law_fork_2 rfl (lv_at hl 2 rfl) ?_
  refine lv_iload_n hx hb dd_Law_fork_3 rfl (lv_at hl 3 rfl) ?_
  refine lv_iload hx hb dd_Law_fork_4 (lv_at hl 4 rfl) ?_
  refine lv_iload hx hb dd_Law_fork_6 (lv_at hl 5 rfl) ?_
  refine mx_cat htab [] (0, 11, 14, 19) [(0, 11, 18, 13)] rfl (mx_runV (As := [.int (nI nd), .int jv, .int xv, .int (nI c1), .int (nI c2)]) (rest := []) (C := RR_Planner) ⟨hx, hb, hml, hown, hts⟩ (cc_Planner_forkX4 l hnt D cI cZ cL cQ _ pl tl a mi sr tr pf xb so sl nd jv xv c1 c2 (hnd) (hc) (hno)) (mm_cwV 5 hts ml_Law_46 im_Planner_fork se_Planner_fork ic_Planner cd_Planner_fork rfl rfl (by decide +kernel) ⟨Nat.le_of_ble_eq_true rfl, Nat.le_of_ble_eq_true rfl⟩) (mx_preV hTr hS0 hK hP hD [0] (by decide) rfl 0 rfl rfl) rfl rfl hl.1 rfl (lv_room (Nat.le_of_ble_eq_true rfl)) dd_Law_fork_8 ⟨Nat.le_of_ble_eq_true rfl, Nat.le_of_ble_eq_true rfl⟩) hS hA hP hown (E := "java/lang/IndexOutOfBoundsException") (fun _ h => h) (fun _ h => absurd h List.not_mem_nil) ⟨⟨by decide, by decide⟩, by decide⟩ (htb _ kl_Law_19) (ca_B hTr) (fun zx3 H locs hP hS => ?_)
  refine lv_astore (lv' := [(6, .ref zx3), (0, .ref pl), (1, .int (nI nd)), (2, .int jv), (3, .int xv), (4, .int (nI c1)), (5, .int (nI c2))]) hx hb dd_Law_fork_14 hl (by decide) rfl (fun ls hl => ?_)
  refine lv_iconst (v := 1) hx hb dd_Law_fork_16 (by decide) ?_
  exact W.iret (v := (1 : Int32)) hx hb hr (fun t ht hW => ⟨⟨(1 : Int32), (), rfl, rfl, by rw [ht]; exact hP, va_K.moved hW.alike hK, hD⟩, hS.F ht⟩) hS.2.2 dd_Law_fork_17
abbrev qq_Law_forkY (D : va_G) (cI cZ cL cQ : ClassId) (pl : Nat) (tl : Nat) (a : Nat) (mi : Nat) (sr : Nat) (tr : Nat) (pf : Nat) (xb : Nat) (so : Int32) (sl : Int32) (nd : Nat) (jv : Int32) (xv : Int32) (c1 : Nat) (c2 : Nat) (A : Nat → Prop) : Array Value → State → Outcome → State → Prop := va_Qi (fun (r : Int32) (u : Unit) => r = 2) (fun (u : Unit) t => mm_B D kc_all [(cI, .int), (cZ, .boolean), (cL, .long), (cQ, .array .int)] A [(pl, .inr (6, [.ref a, .ref mi, .ref sr, .ref tr, .ref pf, .ref xb, .ref tl, .int so, .int sl]))] t) A
set_option maxHeartbeats 4000000 in
set_option maxRecDepth 100000 in
theorem cc_Law_forkY (l : Launch) (hnt : l.stackTraces = false) (D : va_G) (cI cZ cL cQ : ClassId) (sz : Nat) (pl : Nat) (tl : Nat) (a : Nat) (mi : Nat) (sr : Nat) (tr : Nat) (pf : Nat) (xb : Nat) (so : Int32) (sl : Int32) (nd : Nat) (jv : Int32) (xv : Int32) (c1 : Nat) (c2 : Nat) (hnd : nd < 40) (hc : c1 < 40 ∧ c2 < 40 ∧ nd < c1 ∧ nd < c2) (hno : ¬ (in_ok jv 0 3 ∧ in_ok xv (-20) 20)) : Met l yy_Law_fork ww_Law_fork ({ frames := 8, cells := 1, slots := 6, locals := 127 } : Room) (mx_Pc D kc_all [(cI, .int), (cZ, .boolean), (cL, .long), (cQ, .array .int)] sz [(pl, .inr (6, [.ref a, .ref mi, .ref sr, .ref tr, .ref pf, .ref xb, .ref tl, .int so, .int sl]))] [.ref pl, .int (nI nd), .int jv, .int xv, .int (nI c1), .int (nI c2)]) (qq_Law_forkY D cI cZ cL cQ pl tl a mi sr tr pf xb so sl nd jv xv c1 c2 (va_A [(pl, .inr (6, [.ref a, .ref mi, .ref sr, .ref tr, .ref pf, .ref xb, .ref tl, .int so, .int sl]))] sz)) 1 6 (va_A [(pl, .inr (6, [.ref a, .ref mi, .ref sr, .ref tr, .ref pf, .ref xb, .ref tl, .int so, .int sl]))] sz) := by
  refine mx_MetW (cc := bb_Law_fork) (maxL := 7) (ret := (some .int)) (by decide) rfl ?_
  intro p e s m args below meth c s₁ B hml htab hv
  obtain ⟨rfl, hsz, hP, hK, hD0, hTr⟩ := hv
  have hx := B.exec
  have hb := B.bytes
  have hr := B.returns
  have hts := atoms_spec (ws := ww_Law_fork) B.pre
  have hown : s.vm.findClass RR_Law = some m.cls := findClass_of_methodNamed B.named
  have hlocks := B.notSynchronized
  subst hsz
  have hD := hD0.self (sz := s.heap.size)
  generalize hAe : va_A [(pl, .inr (6, [.ref a, .ref mi, .ref sr, .ref tr, .ref pf, .ref xb, .ref tl, .int so, .int sl]))] s.heap.size = A at hD ⊢
  have hA : ∀ q : Nat, s.heap.size ≤ q → A q := fun q h => by rw [← hAe]; exact Or.inr h
  have hS : va_S A s.heap s.heap [] := va_S.rf
  have hS0 : va_S (mx_A s.heap.size) s.heap s.heap [] := va_S.rf
  have hP : va_P D kc_all [(pl, .inr (6, [.ref a, .ref mi, .ref sr, .ref tr, .ref pf, .ref xb, .ref tl, .int so, .int sl]))] s.heap := hP
  have hl := lv_entry ([.ref pl, .int (nI nd), .int jv, .int xv, .int (nI c1), .int (nI c2)]) (n := 7) (Nat.le_of_ble_eq_true rfl)
  rw [lg_entry_eq]
  generalize (lg_sl ([.ref pl, .int (nI nd), .int jv, .int xv, .int (nI c1), .int (nI c2)]) ++ List.replicate (7 - (lg_sl ([.ref pl, .int (nI nd), .int jv, .int xv, .int (nI c1), .int (nI c2)])).length) Slot.unset).toArray = ls at hl ⊢
  have hl : lv_has ls 7 [(0, .ref pl), (1, .int (nI nd)), (2, .int jv), (3, .int xv), (4, .int (nI c1)), (5, .int (nI c2))] := hl
  have htb : ∀ w ∈ tb_all, w.before ([.ref pl, .int (nI nd), .int jv, .int xv, .int (nI c1), .int (nI c2)]).toArray s = true := fun w h => hts w (List.mem_cons_of_mem _ h)
  refine lv_aload_n hx hb dd_Law_fork_0 rfl (lv_at hl 0 rfl) ?_
  refine lv_iload_n hx hb dd_Law_fork_1 rfl (lv_at hl 1 rfl) ?_
  refine lv_iload_n hx hb dd_Law_fork_2 rfl (lv_at hl 2 rfl) ?_
  refine lv_iload_n hx hb dd_Law_fork_3 rfl (lv_at hl 3 rfl) ?_
  refine lv_iload hx hb dd_Law_fork_4 (lv_at hl 4 rfl) ?_
  refine lv_iload hx hb dd_Law_fork_6 (lv_at hl 5 rfl) ?_
  refine mx_cat htab [(0, 11, 14, 19)] (0, 11, 18, 13) [] rfl (mx_runV (As := [.int (nI nd), .int jv, .int xv, .int (nI c1), .int (nI c2)]) (rest := []) (C := RR_Planner) ⟨hx, hb, hml, hown, hts⟩ (cc_Planner_forkY l hnt D cI cZ cL cQ _ pl tl a mi sr tr pf xb so sl nd jv xv c1 c2 (hnd) (hc) (hno)) (mm_cwV 5 hts ml_Law_46 im_Planner_fork se_Planner_fork ic_Planner cd_Planner_fork rfl rfl (by decide +kernel) ⟨Nat.le_of_ble_eq_true rfl, Nat.le_of_ble_eq_true rfl⟩) (mx_preV hTr hS0 hK hP hD [0] (by decide) rfl 0 rfl rfl) rfl rfl hl.1 rfl (lv_room (Nat.le_of_ble_eq_true rfl)) dd_Law_fork_8 ⟨Nat.le_of_ble_eq_true rfl, Nat.le_of_ble_eq_true rfl⟩) hS hA hP hown (E := "java/lang/IllegalArgumentException") (fun _ h => h) (List.forall_mem_cons.mpr ⟨⟨⟨by decide, by decide⟩, by decide, "java/lang/IndexOutOfBoundsException", htb _ kl_Law_19, nc_AB hTr⟩, fun _ h => absurd h List.not_mem_nil⟩) ⟨⟨by decide, by decide⟩, by decide⟩ (htb _ kl_Law_13) (ca_A hTr) (fun zx3 H locs hP hS => ?_)
  refine lv_astore (lv' := [(6, .ref zx3), (0, .ref pl), (1, .int (nI nd)), (2, .int jv), (3, .int xv), (4, .int (nI c1)), (5, .int (nI c2))]) hx hb dd_Law_fork_18 hl (by decide) rfl (fun ls hl => ?_)
  refine lv_iconst (v := 2) hx hb dd_Law_fork_20 (by decide) ?_
  exact W.iret (v := (2 : Int32)) hx hb hr (fun t ht hW => ⟨⟨(2 : Int32), (), rfl, rfl, by rw [ht]; exact hP, va_K.moved hW.alike hK, hD⟩, hS.F ht⟩) hS.2.2 dd_Law_fork_21
abbrev qq_Law_end (D : va_G) (cI cZ cL cQ : ClassId) (pl : Nat) (tl : Nat) (a : Nat) (mi : Nat) (sr : Nat) (tr : Nat) (pf : Nat) (xb : Nat) (so : Int32) (sl : Int32) (tk : Nat) (ta : Nat) (tv : Nat) (tf : Nat) (ts : Nat) (te : Nat) (tw : Nat) (nd : Nat) (x0 : Int32) (x1 : Int32) (x2 : Int32) (x3 : Int32) (x4 : Int32) (x5 : Int32) (x6 : Int32) (kd : Nat → Int32) (en : Nat → Int32) (A : Nat → Prop) : Array Value → State → Outcome → State → Prop := va_Qi (fun (r : Int32) (u : (Nat → Int32)) => r = 0 ∧ u = pe_f en nd x0 x1 x2 x3 x4 x5 x6) (fun (u : (Nat → Int32)) t => mm_B D kc_all [(cI, .int), (cZ, .boolean), (cL, .long), (cQ, .array .int)] A [(pl, .inr (6, [.ref a, .ref mi, .ref sr, .ref tr, .ref pf, .ref xb, .ref tl, .int so, .int sl])), (tr, .inr (3, [.ref tk, .ref ta, .ref tv, .ref tf, .ref ts, .ref te, .ref tw])), (tk, .inl (cI, 40, .inl (upd kd nd 2))), (te, .inl (cI, 280, .inl u))] t) A
set_option maxHeartbeats 4000000 in
set_option maxRecDepth 100000 in
theorem cc_Law_end (l : Launch) (D : va_G) (cI cZ cL cQ : ClassId) (sz : Nat) (pl : Nat) (tl : Nat) (a : Nat) (mi : Nat) (sr : Nat) (tr : Nat) (pf : Nat) (xb : Nat) (so : Int32) (sl : Int32) (tk : Nat) (ta : Nat) (tv : Nat) (tf : Nat) (ts : Nat) (te : Nat) (tw : Nat) (nd : Nat) (x0 : Int32) (x1 : Int32) (x2 : Int32) (x3 : Int32) (x4 : Int32) (x5 : Int32) (x6 : Int32) (kd : Nat → Int32) (en : Nat → Int32) (hnd : nd < 40) (hok : eg_ok x0 x1 x2 x3 x4 x5 x6 7) : Met l yy_Law_end ww_Law_end ({ frames := 8, cells := 0, slots := 0, locals := 130 } : Room) (mm_Pc D kc_all [(cI, .int), (cZ, .boolean), (cL, .long), (cQ, .array .int)] sz [(pl, .inr (6, [.ref a, .ref mi, .ref sr, .ref tr, .ref pf, .ref xb, .ref tl, .int so, .int sl])), (tr, .inr (3, [.ref tk, .ref ta, .ref tv, .ref tf, .ref ts, .ref te, .ref tw])), (tk, .inl (cI, 40, .inl kd)), (te, .inl (cI, 280, .inl en))] [.ref pl, .int (nI nd), .int x0, .int x1, .int x2, .int x3, .int x4, .int x5, .int x6]) (qq_Law_end D cI cZ cL cQ pl tl a mi sr tr pf xb so sl tk ta tv tf ts te tw nd x0 x1 x2 x3 x4 x5 x6 kd en (va_A [(pl, .inr (6, [.ref a, .ref mi, .ref sr, .ref tr, .ref pf, .ref xb, .ref tl, .int so, .int sl])), (tr, .inr (3, [.ref tk, .ref ta, .ref tv, .ref tf, .ref ts, .ref te, .ref tw])), (tk, .inl (cI, 40, .inl kd)), (te, .inl (cI, 280, .inl en))] sz)) 0 0 (va_A [(pl, .inr (6, [.ref a, .ref mi, .ref sr, .ref tr, .ref pf, .ref xb, .ref tl, .int so, .int sl])), (tr, .inr (3, [.ref tk, .ref ta, .ref tv, .ref tf, .ref ts, .ref te, .ref tw])), (tk, .inl (cI, 40, .inl kd)), (te, .inl (cI, 280, .inl en))] sz) := by
  refine mx_MetW (cc := bb_Law_end) (maxL := 10) (ret := (some .int)) (by decide) rfl ?_
  intro p e s m args below meth c s₁ B hml htab hv
  obtain ⟨rfl, hsz, hP, hK, hD0⟩ := hv
  have hx := B.exec
  have hb := B.bytes
  have hr := B.returns
  have hts := atoms_spec (ws := ww_Law_end) B.pre
  have hown : s.vm.findClass RR_Law = some m.cls := findClass_of_methodNamed B.named
  have hlocks := B.notSynchronized
  subst hsz
  have hD := hD0.self (sz := s.heap.size)
  generalize hAe : va_A [(pl, .inr (6, [.ref a, .ref mi, .ref sr, .ref tr, .ref pf, .ref xb, .ref tl, .int so, .int sl])), (tr, .inr (3, [.ref tk, .ref ta, .ref tv, .ref tf, .ref ts, .ref te, .ref tw])), (tk, .inl (cI, 40, .inl kd)), (te, .inl (cI, 280, .inl en))] s.heap.size = A at hD ⊢
  have hA : ∀ q : Nat, s.heap.size ≤ q → A q := fun q h => by rw [← hAe]; exact Or.inr h
  have hS : va_S A s.heap s.heap [] := va_S.rf
  have hP : va_P D kc_all [(pl, .inr (6, [.ref a, .ref mi, .ref sr, .ref tr, .ref pf, .ref xb, .ref tl, .int so, .int sl])), (tr, .inr (3, [.ref tk, .ref ta, .ref tv, .ref tf, .ref ts, .ref te, .ref tw])), (tk, .inl (cI, 40, .inl kd)), (te, .inl (cI, 280, .inl en))] s.heap := hP
  have hl := lv_entry ([.ref pl, .int (nI nd), .int x0, .int x1, .int x2, .int x3, .int x4, .int x5, .int x6]) (n := 10) (Nat.le_of_ble_eq_true rfl)
  rw [lg_entry_eq]
  generalize (lg_sl ([.ref pl, .int (nI nd), .int x0, .int x1, .int x2, .int x3, .int x4, .int x5, .int x6]) ++ List.replicate (10 - (lg_sl ([.ref pl, .int (nI nd), .int x0, .int x1, .int x2, .int x3, .int x4, .int x5, .int x6])).length) Slot.unset).toArray = ls at hl ⊢
  have hl : lv_has ls 10 [(0, .ref pl), (1, .int (nI nd)), (2, .int x0), (3, .int x1), (4, .int x2), (5, .int x3), (6, .int x4), (7, .int x5), (8, .int x6)] := hl
  have htb : ∀ w ∈ tb_all, w.before ([.ref pl, .int (nI nd), .int x0, .int x1, .int x2, .int x3, .int x4, .int x5, .int x6]).toArray s = true := fun w h => hts w (List.mem_cons_of_mem _ h)
  refine lv_aload_n hx hb dd_Law_end_0 rfl (lv_at hl 0 rfl) ?_
  refine lv_iload_n hx hb dd_Law_end_1 rfl (lv_at hl 1 rfl) ?_
  refine lv_iload_n hx hb dd_Law_end_2 rfl (lv_at hl 2 rfl) ?_
  refine lv_iload_n hx hb dd_Law_end_3 rfl (lv_at hl 3 rfl) ?_
  refine lv_iload hx hb dd_Law_end_4 (lv_at hl 4 rfl) ?_
  refine lv_iload hx hb dd_Law_end_6 (lv_at hl 5 rfl) ?_
  refine lv_iload hx hb dd_Law_end_8 (lv_at hl 6 rfl) ?_
  refine lv_iload hx hb dd_Law_end_10 (lv_at hl 7 rfl) ?_
  refine lv_iload hx hb dd_Law_end_12 (lv_at hl 8 rfl) ?_
  refine mm_v (wc := [(pl, .inr (6, [.ref a, .ref mi, .ref sr, .ref tr, .ref pf, .ref xb, .ref tl, .int so, .int sl])), (tr, .inr (3, [.ref tk, .ref ta, .ref tv, .ref tf, .ref ts, .ref te, .ref tw])), (tk, .inl (cI, 40, .inl kd)), (te, .inl (cI, 280, .inl en))]) (wr := []) (va_runV (As := [.int (nI nd), .int x0, .int x1, .int x2, .int x3, .int x4, .int x5, .int x6]) (rest := []) (C := RR_Planner) ⟨hx, hb, hml, hown, hts⟩ (cc_Planner_end l D cI cZ cL cQ _ pl tl a mi sr tr pf xb so sl tk ta tv tf ts te tw nd x0 x1 x2 x3 x4 x5 x6 kd en (hnd) (hok)) (mm_cwV 8 hts ml_Law_50 im_Planner_end se_Planner_end ic_Planner cd_Planner_end rfl rfl (by decide +kernel) ⟨Nat.le_of_ble_eq_true rfl, Nat.le_of_ble_eq_true rfl⟩) (mm_preV hK hP hD [0, 1, 2, 3] (by decide) rfl 0 rfl rfl) rfl rfl hl.1 rfl (lv_room (Nat.le_of_ble_eq_true rfl)) dd_Law_end_14 ⟨Nat.zero_le _, Nat.zero_le _⟩) hP hD hS hA [0, 1, 2, 3] [] rfl rfl (by decide) (by decide) (fun zu2 H locs p14 hP hD hS => ?_)
  have hP : va_P D kc_all [(pl, .inr (6, [.ref a, .ref mi, .ref sr, .ref tr, .ref pf, .ref xb, .ref tl, .int so, .int sl])), (tr, .inr (3, [.ref tk, .ref ta, .ref tv, .ref tf, .ref ts, .ref te, .ref tw])), (tk, .inl (cI, 40, .inl (upd kd nd 2))), (te, .inl (cI, 280, .inl zu2))] H := hP
  have hD : va_D A [(pl, .inr (6, [.ref a, .ref mi, .ref sr, .ref tr, .ref pf, .ref xb, .ref tl, .int so, .int sl])), (tr, .inr (3, [.ref tk, .ref ta, .ref tv, .ref tf, .ref ts, .ref te, .ref tw])), (tk, .inl (cI, 40, .inl (upd kd nd 2))), (te, .inl (cI, 280, .inl zu2))] := hD
  have p14 : zu2 = pe_f en nd x0 x1 x2 x3 x4 x5 x6 := p14
  refine lv_goto (tgt := 28) hx hb dd_Law_end_17 (by decide) ?_
  refine lv_iconst (v := 0) hx hb dd_Law_end_28 (by decide) ?_
  exact W.iret (v := (0 : Int32)) hx hb hr (fun t ht hW => ⟨⟨(0 : Int32), zu2, rfl, ⟨rfl, p14⟩, by rw [ht]; exact hP, va_K.moved hW.alike hK, hD⟩, hS.F ht⟩) hS.2.2 dd_Law_end_29
abbrev qq_Law_endX (D : va_G) (cI cZ cL cQ : ClassId) (pl : Nat) (tl : Nat) (a : Nat) (mi : Nat) (sr : Nat) (tr : Nat) (pf : Nat) (xb : Nat) (so : Int32) (sl : Int32) (nv : Int32) (x0 : Int32) (x1 : Int32) (x2 : Int32) (x3 : Int32) (x4 : Int32) (x5 : Int32) (x6 : Int32) (A : Nat → Prop) : Array Value → State → Outcome → State → Prop := va_Qi (fun (r : Int32) (u : Unit) => r = 1) (fun (u : Unit) t => mm_B D kc_all [(cI, .int), (cZ, .boolean), (cL, .long), (cQ, .array .int)] A [(pl, .inr (6, [.ref a, .ref mi, .ref sr, .ref tr, .ref pf, .ref xb, .ref tl, .int so, .int sl]))] t) A
set_option maxHeartbeats 4000000 in
set_option maxRecDepth 100000 in
theorem cc_Law_endX (l : Launch) (hnt : l.stackTraces = false) (D : va_G) (cI cZ cL cQ : ClassId) (sz : Nat) (pl : Nat) (tl : Nat) (a : Nat) (mi : Nat) (sr : Nat) (tr : Nat) (pf : Nat) (xb : Nat) (so : Int32) (sl : Int32) (nv : Int32) (x0 : Int32) (x1 : Int32) (x2 : Int32) (x3 : Int32) (x4 : Int32) (x5 : Int32) (x6 : Int32) (hno : ¬ nd_ok nv) : Met l yy_Law_end ww_Law_end ({ frames := 8, cells := 1, slots := 6, locals := 130 } : Room) (mx_Pc D kc_all [(cI, .int), (cZ, .boolean), (cL, .long), (cQ, .array .int)] sz [(pl, .inr (6, [.ref a, .ref mi, .ref sr, .ref tr, .ref pf, .ref xb, .ref tl, .int so, .int sl]))] [.ref pl, .int nv, .int x0, .int x1, .int x2, .int x3, .int x4, .int x5, .int x6]) (qq_Law_endX D cI cZ cL cQ pl tl a mi sr tr pf xb so sl nv x0 x1 x2 x3 x4 x5 x6 (va_A [(pl, .inr (6, [.ref a, .ref mi, .ref sr, .ref tr, .ref pf, .ref xb, .ref tl, .int so, .int sl]))] sz)) 1 6 (va_A [(pl, .inr (6, [.ref a, .ref mi, .ref sr, .ref tr, .ref pf, .ref xb, .ref tl, .int so, .int sl]))] sz) := by
  refine mx_MetW (cc := bb_Law_end) (maxL := 10) (ret := (some .int)) (by decide) rfl ?_
  intro p e s m args below meth c s₁ B hml htab hv
  obtain ⟨rfl, hsz, hP, hK, hD0, hTr⟩ := hv
  have hx := B.exec
  have hb := B.bytes
  have hr := B.returns
  have hts := atoms_spec (ws := ww_Law_end) B.pre
  have hown : s.vm.findClass RR_Law = some m.cls := findClass_of_methodNamed B.named
  have hlocks := B.notSynchronized
  subst hsz
  have hD := hD0.self (sz := s.heap.size)
  generalize hAe : va_A [(pl, .inr (6, [.ref a, .ref mi, .ref sr, .ref tr, .ref pf, .ref xb, .ref tl, .int so, .int sl]))] s.heap.size = A at hD ⊢
  have hA : ∀ q : Nat, s.heap.size ≤ q → A q := fun q h => by rw [← hAe]; exact Or.inr h
  have hS : va_S A s.heap s.heap [] := va_S.rf
  have hS0 : va_S (mx_A s.heap.size) s.heap s.heap [] := va_S.rf
  have hP : va_P D kc_all [(pl, .inr (6, [.ref a, .ref mi, .ref sr, .ref tr, .ref pf, .ref xb, .ref tl, .int so, .int sl]))] s.heap := hP
  have hl := lv_entry ([.ref pl, .int nv, .int x0, .int x1, .int x2, .int x3, .int x4, .int x5, .int x6]) (n := 10) (Nat.le_of_ble_eq_true rfl)
  rw [lg_entry_eq]
  generalize (lg_sl ([.ref pl, .int nv, .int x0, .int x1, .int x2, .int x3, .int x4, .int x5, .int x6]) ++ List.replicate (10 - (lg_sl ([.ref pl, .int nv, .int x0, .int x1, .int x2, .int x3, .int x4, .int x5, .int x6])).length) Slot.unset).toArray = ls at hl ⊢
  have hl : lv_has ls 10 [(0, .ref pl), (1, .int nv), (2, .int x0), (3, .int x1), (4, .int x2), (5, .int x3), (6, .int x4), (7, .int x5), (8, .int x6)] := hl
  have htb : ∀ w ∈ tb_all, w.before ([.ref pl, .int nv, .int x0, .int x1, .int x2, .int x3, .int x4, .int x5, .int x6]).toArray s = true := fun w h => hts w (List.mem_cons_of_mem _ h)
  refine lv_aload_n hx hb dd_Law_end_0 rfl (lv_at hl 0 rfl) ?_
  refine lv_iload_n hx hb dd_Law_end_1 rfl (lv_at hl 1 rfl) ?_
  refine lv_iload_n hx hb dd_Law_end_2 rfl (lv_at hl 2 rfl) ?_
  refine lv_iload_n hx hb dd_Law_end_3 rfl (lv_at hl 3 rfl) ?_
  refine lv_iload hx hb dd_Law_end_4 (lv_at hl 4 rfl) ?_
  refine lv_iload hx hb dd_Law_end_6 (lv_at hl 5 rfl) ?_
  refine lv_iload hx hb dd_Law_end_8 (lv_at hl 6 rfl) ?_
  refine lv_iload hx hb dd_Law_end_10 (lv_at hl 7 rfl) ?_
  refine lv_iload hx hb dd_Law_end_12 (lv_at hl 8 rfl) ?_
  refine mx_cat htab [] (0, 17, 20, 19) [(0, 17, 24, 13)] rfl (mx_runV (As := [.int nv, .int x0, .int x1, .int x2, .int x3, .int x4, .int x5, .int x6]) (rest := []) (C := RR_Planner) ⟨hx, hb, hml, hown, hts⟩ (cc_Planner_endX l hnt D cI cZ cL cQ _ pl tl a mi sr tr pf xb so sl nv x0 x1 x2 x3 x4 x5 x6 (hno)) (mm_cwV 8 hts ml_Law_50 im_Planner_end se_Planner_end ic_Planner cd_Planner_end rfl rfl (by decide +kernel) ⟨Nat.le_of_ble_eq_true rfl, Nat.le_of_ble_eq_true rfl⟩) (mx_preV hTr hS0 hK hP hD [0] (by decide) rfl 0 rfl rfl) rfl rfl hl.1 rfl (lv_room (Nat.le_of_ble_eq_true rfl)) dd_Law_end_14 ⟨Nat.le_of_ble_eq_true rfl, Nat.le_of_ble_eq_true rfl⟩) hS hA hP hown (E := "java/lang/IndexOutOfBoundsException") (fun _ h => h) (fun _ h => absurd h List.not_mem_nil) ⟨⟨by decide, by decide⟩, by decide⟩ (htb _ kl_Law_19) (ca_B hTr) (fun zx3 H locs hP hS => ?_)
  refine lv_astore (lv' := [(9, .ref zx3), (0, .ref pl), (1, .int nv), (2, .int x0), (3, .int x1), (4, .int x2), (5, .int x3), (6, .int x4), (7, .int x5), (8, .int x6)]) hx hb dd_Law_end_20 hl (by decide) rfl (fun ls hl => ?_)
  refine lv_iconst (v := 1) hx hb dd_Law_end_22 (by decide) ?_
  exact W.iret (v := (1 : Int32)) hx hb hr (fun t ht hW => ⟨⟨(1 : Int32), (), rfl, rfl, by rw [ht]; exact hP, va_K.moved hW.alike hK, hD⟩, hS.F ht⟩) hS.2.2 dd_Law_end_23
abbrev qq_Law_endY (D : va_G) (cI cZ cL cQ : ClassId) (pl : Nat) (tl : Nat) (a : Nat) (mi : Nat) (sr : Nat) (tr : Nat) (pf : Nat) (xb : Nat) (so : Int32) (sl : Int32) (nd : Nat) (x0 : Int32) (x1 : Int32) (x2 : Int32) (x3 : Int32) (x4 : Int32) (x5 : Int32) (x6 : Int32) (A : Nat → Prop) : Array Value → State → Outcome → State → Prop := va_Qi (fun (r : Int32) (u : Unit) => r = 2) (fun (u : Unit) t => mm_B D kc_all [(cI, .int), (cZ, .boolean), (cL, .long), (cQ, .array .int)] A [(pl, .inr (6, [.ref a, .ref mi, .ref sr, .ref tr, .ref pf, .ref xb, .ref tl, .int so, .int sl]))] t) A
set_option maxHeartbeats 4000000 in
set_option maxRecDepth 100000 in
theorem cc_Law_endY (l : Launch) (hnt : l.stackTraces = false) (D : va_G) (cI cZ cL cQ : ClassId) (sz : Nat) (pl : Nat) (tl : Nat) (a : Nat) (mi : Nat) (sr : Nat) (tr : Nat) (pf : Nat) (xb : Nat) (so : Int32) (sl : Int32) (nd : Nat) (x0 : Int32) (x1 : Int32) (x2 : Int32) (x3 : Int32) (x4 : Int32) (x5 : Int32) (x6 : Int32) (hnd : nd < 40) (hno : ¬ eg_ok x0 x1 x2 x3 x4 x5 x6 7) : Met l yy_Law_end ww_Law_end ({ frames := 8, cells := 1, slots := 6, locals := 130 } : Room) (mx_Pc D kc_all [(cI, .int), (cZ, .boolean), (cL, .long), (cQ, .array .int)] sz [(pl, .inr (6, [.ref a, .ref mi, .ref sr, .ref tr, .ref pf, .ref xb, .ref tl, .int so, .int sl]))] [.ref pl, .int (nI nd), .int x0, .int x1, .int x2, .int x3, .int x4, .int x5, .int x6]) (qq_Law_endY D cI cZ cL cQ pl tl a mi sr tr pf xb so sl nd x0 x1 x2 x3 x4 x5 x6 (va_A [(pl, .inr (6, [.ref a, .ref mi, .ref sr, .ref tr, .ref pf, .ref xb, .ref tl, .int so, .int sl]))] sz)) 1 6 (va_A [(pl, .inr (6, [.ref a, .ref mi, .ref sr, .ref tr, .ref pf, .ref xb, .ref tl, .int so, .int sl]))] sz) := by
  refine mx_MetW (cc := bb_Law_end) (maxL := 10) (ret := (some .int)) (by decide) rfl ?_
  intro p e s m args below meth c s₁ B hml htab hv
  obtain ⟨rfl, hsz, hP, hK, hD0, hTr⟩ := hv
  have hx := B.exec
  have hb := B.bytes
  have hr := B.returns
  have hts := atoms_spec (ws := ww_Law_end) B.pre
  have hown : s.vm.findClass RR_Law = some m.cls := findClass_of_methodNamed B.named
  have hlocks := B.notSynchronized
  subst hsz
  have hD := hD0.self (sz := s.heap.size)
  generalize hAe : va_A [(pl, .inr (6, [.ref a, .ref mi, .ref sr, .ref tr, .ref pf, .ref xb, .ref tl, .int so, .int sl]))] s.heap.size = A at hD ⊢
  have hA : ∀ q : Nat, s.heap.size ≤ q → A q := fun q h => by rw [← hAe]; exact Or.inr h
  have hS : va_S A s.heap s.heap [] := va_S.rf
  have hS0 : va_S (mx_A s.heap.size) s.heap s.heap [] := va_S.rf
  have hP : va_P D kc_all [(pl, .inr (6, [.ref a, .ref mi, .ref sr, .ref tr, .ref pf, .ref xb, .ref tl, .int so, .int sl]))] s.heap := hP
  have hl := lv_entry ([.ref pl, .int (nI nd), .int x0, .int x1, .int x2, .int x3, .int x4, .int x5, .int x6]) (n := 10) (Nat.le_of_ble_eq_true rfl)
  rw [lg_entry_eq]
  generalize (lg_sl ([.ref pl, .int (nI nd), .int x0, .int x1, .int x2, .int x3, .int x4, .int x5, .int x6]) ++ List.replicate (10 - (lg_sl ([.ref pl, .int (nI nd), .int x0, .int x1, .int x2, .int x3, .int x4, .int x5, .int x6])).length) Slot.unset).toArray = ls at hl ⊢
  have hl : lv_has ls 10 [(0, .ref pl), (1, .int (nI nd)), (2, .int x0), (3, .int x1), (4, .int x2), (5, .int x3), (6, .int x4), (7, .int x5), (8, .int x6)] := hl
  have htb : ∀ w ∈ tb_all, w.before ([.ref pl, .int (nI nd), .int x0, .int x1, .int x2, .int x3, .int x4, .int x5, .int x6]).toArray s = true := fun w h => hts w (List.mem_cons_of_mem _ h)
  refine lv_aload_n hx hb dd_Law_end_0 rfl (lv_at hl 0 rfl) ?_
  refine lv_iload_n hx hb dd_Law_end_1 rfl (lv_at hl 1 rfl) ?_
  refine lv_iload_n hx hb dd_Law_end_2 rfl (lv_at hl 2 rfl) ?_
  refine lv_iload_n hx hb dd_Law_end_3 rfl (lv_at hl 3 rfl) ?_
  refine lv_iload hx hb dd_Law_end_4 (lv_at hl 4 rfl) ?_
  refine lv_iload hx hb dd_Law_end_6 (lv_at hl 5 rfl) ?_
  refine lv_iload hx hb dd_Law_end_8 (lv_at hl 6 rfl) ?_
  refine lv_iload hx hb dd_Law_end_10 (lv_at hl 7 rfl) ?_
  refine lv_iload hx hb dd_Law_end_12 (lv_at hl 8 rfl) ?_
  refine mx_cat htab [(0, 17, 20, 19)] (0, 17, 24, 13) [] rfl (mx_runV (As := [.int (nI nd), .int x0, .int x1, .int x2, .int x3, .int x4, .int x5, .int x6]) (rest := []) (C := RR_Planner) ⟨hx, hb, hml, hown, hts⟩ (cc_Planner_endY l hnt D cI cZ cL cQ _ pl tl a mi sr tr pf xb so sl nd x0 x1 x2 x3 x4 x5 x6 (hnd) (hno)) (mm_cwV 8 hts ml_Law_50 im_Planner_end se_Planner_end ic_Planner cd_Planner_end rfl rfl (by decide +kernel) ⟨Nat.le_of_ble_eq_true rfl, Nat.le_of_ble_eq_true rfl⟩) (mx_preV hTr hS0 hK hP hD [0] (by decide) rfl 0 rfl rfl) rfl rfl hl.1 rfl (lv_room (Nat.le_of_ble_eq_true rfl)) dd_Law_end_14 ⟨Nat.le_of_ble_eq_true rfl, Nat.le_of_ble_eq_true rfl⟩) hS hA hP hown (E := "java/lang/IllegalArgumentException") (fun _ h => h) (List.forall_mem_cons.mpr ⟨⟨⟨by decide, by decide⟩, by decide, "java/lang/IndexOutOfBoundsException", htb _ kl_Law_19, nc_AB hTr⟩, fun _ h => absurd h List.not_mem_nil⟩) ⟨⟨by decide, by decide⟩, by decide⟩ (htb _ kl_Law_13) (ca_A hTr) (fun zx3 H locs hP hS => ?_)
  refine lv_astore (lv' := [(9, .ref zx3), (0, .ref pl), (1, .int (nI nd)), (2, .int x0), (3, .int x1), (4, .int x2), (5, .int x3), (6, .int x4), (7, .int x5), (8, .int x6)]) hx hb dd_Law_end_24 hl (by decide) rfl (fun ls hl => ?_)
  refine lv_iconst (v := 2) hx hb dd_Law_end_26 (by decide) ?_
  exact W.iret (v := (2 : Int32)) hx hb hr (fun t ht hW => ⟨⟨(2 : Int32), (), rfl, rfl, by rw [ht]; exact hP, va_K.moved hW.alike hK, hD⟩, hS.F ht⟩) hS.2.2 dd_Law_end_27
abbrev qq_Law_clear (D : va_G) (cI cZ cL cQ : ClassId) (pl : Nat) (tl : Nat) (a : Nat) (mi : Nat) (sr : Nat) (tr : Nat) (pf : Nat) (xb : Nat) (so : Int32) (sl : Int32) (tk : Nat) (ta : Nat) (tv : Nat) (tf : Nat) (ts : Nat) (te : Nat) (tw : Nat) (nd : Nat) (kd : Nat → Int32) (A : Nat → Prop) : Array Value → State → Outcome → State → Prop := va_Qi (fun (r : Int32) (u : Unit) => r = 0) (fun (u : Unit) t => mm_B D kc_all [(cI, .int), (cZ, .boolean), (cL, .long), (cQ, .array .int)] A [(pl, .inr (6, [.ref a, .ref mi, .ref sr, .ref tr, .ref pf, .ref xb, .ref tl, .int so, .int sl])), (tr, .inr (3, [.ref tk, .ref ta, .ref tv, .ref tf, .ref ts, .ref te, .ref tw])), (tk, .inl (cI, 40, .inl (upd kd nd 0)))] t) A
set_option maxHeartbeats 4000000 in
set_option maxRecDepth 100000 in
theorem cc_Law_clear (l : Launch) (D : va_G) (cI cZ cL cQ : ClassId) (sz : Nat) (pl : Nat) (tl : Nat) (a : Nat) (mi : Nat) (sr : Nat) (tr : Nat) (pf : Nat) (xb : Nat) (so : Int32) (sl : Int32) (tk : Nat) (ta : Nat) (tv : Nat) (tf : Nat) (ts : Nat) (te : Nat) (tw : Nat) (nd : Nat) (kd : Nat → Int32) (hnd : nd < 40) : Met l yy_Law_clear ww_Law_clear ({ frames := 8, cells := 0, slots := 0, locals := 123 } : Room) (mm_Pc D kc_all [(cI, .int), (cZ, .boolean), (cL, .long), (cQ, .array .int)] sz [(pl, .inr (6, [.ref a, .ref mi, .ref sr, .ref tr, .ref pf, .ref xb, .ref tl, .int so, .int sl])), (tr, .inr (3, [.ref tk, .ref ta, .ref tv, .ref tf, .ref ts, .ref te, .ref tw])), (tk, .inl (cI, 40, .inl kd))] [.ref pl, .int (nI nd)]) (qq_Law_clear D cI cZ cL cQ pl tl a mi sr tr pf xb so sl tk ta tv tf ts te tw nd kd (va_A [(pl, .inr (6, [.ref a, .ref mi, .ref sr, .ref tr, .ref pf, .ref xb, .ref tl, .int so, .int sl])), (tr, .inr (3, [.ref tk, .ref ta, .ref tv, .ref tf, .ref ts, .ref te, .ref tw])), (tk, .inl (cI, 40, .inl kd))] sz)) 0 0 (va_A [(pl, .inr (6, [.ref a, .ref mi, .ref sr, .ref tr, .ref pf, .ref xb, .ref tl, .int so, .int sl])), (tr, .inr (3, [.ref tk, .ref ta, .ref tv, .ref tf, .ref ts, .ref te, .ref tw])), (tk, .inl (cI, 40, .inl kd))] sz) := by
  refine mx_MetW (cc := bb_Law_clear) (maxL := 3) (ret := (some .int)) (by decide) rfl ?_
  intro p e s m args below meth c s₁ B hml htab hv
  obtain ⟨rfl, hsz, hP, hK, hD0⟩ := hv
  have hx := B.exec
  have hb := B.bytes
  have hr := B.returns
  have hts := atoms_spec (ws := ww_Law_clear) B.pre
  have hown : s.vm.findClass RR_Law = some m.cls := findClass_of_methodNamed B.named
  have hlocks := B.notSynchronized
  subst hsz
  have hD := hD0.self (sz := s.heap.size)
  generalize hAe : va_A [(pl, .inr (6, [.ref a, .ref mi, .ref sr, .ref tr, .ref pf, .ref xb, .ref tl, .int so, .int sl])), (tr, .inr (3, [.ref tk, .ref ta, .ref tv, .ref tf, .ref ts, .ref te, .ref tw])), (tk, .inl (cI, 40, .inl kd))] s.heap.size = A at hD ⊢
  have hA : ∀ q : Nat, s.heap.size ≤ q → A q := fun q h => by rw [← hAe]; exact Or.inr h
  have hS : va_S A s.heap s.heap [] := va_S.rf
  have hP : va_P D kc_all [(pl, .inr (6, [.ref a, .ref mi, .ref sr, .ref tr, .ref pf, .ref xb, .ref tl, .int so, .int sl])), (tr, .inr (3, [.ref tk, .ref ta, .ref tv, .ref tf, .ref ts, .ref te, .ref tw])), (tk, .inl (cI, 40, .inl kd))] s.heap := hP
  have hl := lv_entry ([.ref pl, .int (nI nd)]) (n := 3) (Nat.le_of_ble_eq_true rfl)
  rw [lg_entry_eq]
  generalize (lg_sl ([.ref pl, .int (nI nd)]) ++ List.replicate (3 - (lg_sl ([.ref pl, .int (nI nd)])).length) Slot.unset).toArray = ls at hl ⊢
  have hl : lv_has ls 3 [(0, .ref pl), (1, .int (nI nd))] := hl
  have htb : ∀ w ∈ tb_all, w.before ([.ref pl, .int (nI nd)]).toArray s = true := fun w h => hts w (List.mem_cons_of_mem _ h)
  refine lv_aload_n hx hb dd_Law_clear_0 rfl (lv_at hl 0 rfl) ?_
  refine lv_iload_n hx hb dd_Law_clear_1 rfl (lv_at hl 1 rfl) ?_
  refine mm_v (wc := [(pl, .inr (6, [.ref a, .ref mi, .ref sr, .ref tr, .ref pf, .ref xb, .ref tl, .int so, .int sl])), (tr, .inr (3, [.ref tk, .ref ta, .ref tv, .ref tf, .ref ts, .ref te, .ref tw])), (tk, .inl (cI, 40, .inl kd))]) (wr := []) (va_runV (As := [.int (nI nd)]) (rest := []) (C := RR_Planner) ⟨hx, hb, hml, hown, hts⟩ (cc_Planner_clear l D cI cZ cL cQ _ pl tl a mi sr tr pf xb so sl tk ta tv tf ts te tw nd kd (hnd)) (mm_cwV 1 hts ml_Law_54 im_Planner_clear se_Planner_clear ic_Planner cd_Planner_clear rfl rfl (by decide +kernel) ⟨Nat.le_of_ble_eq_true rfl, Nat.le_of_ble_eq_true rfl⟩) (mm_preV hK hP hD [0, 1, 2] (by decide) rfl 0 rfl rfl) rfl rfl hl.1 rfl (lv_room (Nat.le_of_ble_eq_true rfl)) dd_Law_clear_2 ⟨Nat.zero_le _, Nat.zero_le _⟩) hP hD hS hA [0, 1, 2] [] rfl rfl (by decide) (by decide) (fun zu2 H locs p2 hP hD hS => ?_)
  have hP : va_P D kc_all [(pl, .inr (6, [.ref a, .ref mi, .ref sr, .ref tr, .ref pf, .ref xb, .ref tl, .int so, .int sl])), (tr, .inr (3, [.ref tk, .ref ta, .ref tv, .ref tf, .ref ts, .ref te, .ref tw])), (tk, .inl (cI, 40, .inl (upd kd nd 0)))] H := hP
  have hD : va_D A [(pl, .inr (6, [.ref a, .ref mi, .ref sr, .ref tr, .ref pf, .ref xb, .ref tl, .int so, .int sl])), (tr, .inr (3, [.ref tk, .ref ta, .ref tv, .ref tf, .ref ts, .ref te, .ref tw])), (tk, .inl (cI, 40, .inl (upd kd nd 0)))] := hD
  have p2 : True := p2
  refine lv_goto (tgt := 11) hx hb dd_Law_clear_5 (by decide) ?_
  refine lv_iconst (v := 0) hx hb dd_Law_clear_11 (by decide) ?_
  exact W.iret (v := (0 : Int32)) hx hb hr (fun t ht hW => ⟨⟨(0 : Int32), (), rfl, rfl, by rw [ht]; exact hP, va_K.moved hW.alike hK, hD⟩, hS.F ht⟩) hS.2.2 dd_Law_clear_12
abbrev qq_Law_clearX (D : va_G) (cI cZ cL cQ : ClassId) (pl : Nat) (tl : Nat) (a : Nat) (mi : Nat) (sr : Nat) (tr : Nat) (pf : Nat) (xb : Nat) (so : Int32) (sl : Int32) (nv : Int32) (A : Nat → Prop) : Array Value → State → Outcome → State → Prop := va_Qi (fun (r : Int32) (u : Unit) => r = 1) (fun (u : Unit) t => mm_B D kc_all [(cI, .int), (cZ, .boolean), (cL, .long), (cQ, .array .int)] A [(pl, .inr (6, [.ref a, .ref mi, .ref sr, .ref tr, .ref pf, .ref xb, .ref tl, .int so, .int sl]))] t) A
set_option maxHeartbeats 4000000 in
set_option maxRecDepth 100000 in
theorem cc_Law_clearX (l : Launch) (hnt : l.stackTraces = false) (D : va_G) (cI cZ cL cQ : ClassId) (sz : Nat) (pl : Nat) (tl : Nat) (a : Nat) (mi : Nat) (sr : Nat) (tr : Nat) (pf : Nat) (xb : Nat) (so : Int32) (sl : Int32) (nv : Int32) (hno : ¬ nd_ok nv) : Met l yy_Law_clear ww_Law_clear ({ frames := 8, cells := 1, slots := 6, locals := 123 } : Room) (mx_Pc D kc_all [(cI, .int), (cZ, .boolean), (cL, .long), (cQ, .array .int)] sz [(pl, .inr (6, [.ref a, .ref mi, .ref sr, .ref tr, .ref pf, .ref xb, .ref tl, .int so, .int sl]))] [.ref pl, .int nv]) (qq_Law_clearX D cI cZ cL cQ pl tl a mi sr tr pf xb so sl nv (va_A [(pl, .inr (6, [.ref a, .ref mi, .ref sr, .ref tr, .ref pf, .ref xb, .ref tl, .int so, .int sl]))] sz)) 1 6 (va_A [(pl, .inr (6, [.ref a, .ref mi, .ref sr, .ref tr, .ref pf, .ref xb, .ref tl, .int so, .int sl]))] sz) := by
  refine mx_MetW (cc := bb_Law_clear) (maxL := 3) (ret := (some .int)) (by decide) rfl ?_
  intro p e s m args below meth c s₁ B hml htab hv
  obtain ⟨rfl, hsz, hP, hK, hD0, hTr⟩ := hv
  have hx := B.exec
  have hb := B.bytes
  have hr := B.returns
  have hts := atoms_spec (ws := ww_Law_clear) B.pre
  have hown : s.vm.findClass RR_Law = some m.cls := findClass_of_methodNamed B.named
  have hlocks := B.notSynchronized
  subst hsz
  have hD := hD0.self (sz := s.heap.size)
  generalize hAe : va_A [(pl, .inr (6, [.ref a, .ref mi, .ref sr, .ref tr, .ref pf, .ref xb, .ref tl, .int so, .int sl]))] s.heap.size = A at hD ⊢
  have hA : ∀ q : Nat, s.heap.size ≤ q → A q := fun q h => by rw [← hAe]; exact Or.inr h
  have hS : va_S A s.heap s.heap [] := va_S.rf
  have hS0 : va_S (mx_A s.heap.size) s.heap s.heap [] := va_S.rf
  have hP : va_P D kc_all [(pl, .inr (6, [.ref a, .ref mi, .ref sr, .ref tr, .ref pf, .ref xb, .ref tl, .int so, .int sl]))] s.heap := hP
  have hl := lv_entry ([.ref pl, .int nv]) (n := 3) (Nat.le_of_ble_eq_true rfl)
  rw [lg_entry_eq]
  generalize (lg_sl ([.ref pl, .int nv]) ++ List.replicate (3 - (lg_sl ([.ref pl, .int nv])).length) Slot.unset).toArray = ls at hl ⊢
  have hl : lv_has ls 3 [(0, .ref pl), (1, .int nv)] := hl
  have htb : ∀ w ∈ tb_all, w.before ([.ref pl, .int nv]).toArray s = true := fun w h => hts w (List.mem_cons_of_mem _ h)
  refine lv_aload_n hx hb dd_Law_clear_0 rfl (lv_at hl 0 rfl) ?_
  refine lv_iload_n hx hb dd_Law_clear_1 rfl (lv_at hl 1 rfl) ?_
  refine mx_cat htab [] (0, 5, 8, 19) [] rfl (mx_runV (As := [.int nv]) (rest := []) (C := RR_Planner) ⟨hx, hb, hml, hown, hts⟩ (cc_Planner_clearX l hnt D cI cZ cL cQ _ pl tl a mi sr tr pf xb so sl nv (hno)) (mm_cwV 1 hts ml_Law_54 im_Planner_clear se_Planner_clear ic_Planner cd_Planner_clear rfl rfl (by decide +kernel) ⟨Nat.le_of_ble_eq_true rfl, Nat.le_of_ble_eq_true rfl⟩) (mx_preV hTr hS0 hK hP hD [0] (by decide) rfl 0 rfl rfl) rfl rfl hl.1 rfl (lv_room (Nat.le_of_ble_eq_true rfl)) dd_Law_clear_2 ⟨Nat.le_of_ble_eq_true rfl, Nat.le_of_ble_eq_true rfl⟩) hS hA hP hown (E := "java/lang/IndexOutOfBoundsException") (fun _ h => h) (fun _ h => absurd h List.not_mem_nil) ⟨⟨by decide, by decide⟩, by decide⟩ (htb _ kl_Law_19) (ca_B hTr) (fun zx3 H locs hP hS => ?_)
  refine lv_astore_n (lv' := [(2, .ref zx3), (0, .ref pl), (1, .int nv)]) hx hb dd_Law_clear_8 rfl hl (by decide) rfl (fun ls hl => ?_)
  refine lv_iconst (v := 1) hx hb dd_Law_clear_9 (by decide) ?_
  exact W.iret (v := (1 : Int32)) hx hb hr (fun t ht hW => ⟨⟨(1 : Int32), (), rfl, rfl, by rw [ht]; exact hP, va_K.moved hW.alike hK, hD⟩, hS.F ht⟩) hS.2.2 dd_Law_clear_10
abbrev qq_Law_sound (D : va_G) (cI cZ cL cQ : ClassId) (pl : Nat) (tl : Nat) (a : Nat) (mi : Nat) (sr : Nat) (tr : Nat) (pf : Nat) (xb : Nat) (so : Int32) (sl : Int32) (xl : Nat) (xm : Nat) (al : Nat) (am : Nat) (aw : Nat) (ac : Nat) (ag : Nat) (ab : Nat) (n : Nat) (k : Nat) (tk : Nat) (ta : Nat) (tv : Nat) (tf : Nat) (ts : Nat) (te : Nat) (tw : Nat) (bn0 : Int32) (bp : Int64) (bq : Int64) (pv : Int32) (qv : Int32) (lo : Nat → Int32) (hi : Nat → Int32) (kd : Nat → Int32) (fa : Nat → Int32) (fv : Nat → Int32) (fi : Nat → Int32) (se : Nat → Int32) (en : Nat → Int32) (R0 : Nat → Int64) (wh : Nat → Int32) (co : Nat → Int32) (rw : Nat → Nat) (M : Nat → Nat → Int32) (bd : Nat → Int32) (bl : Nat → Int32) (bm : Nat → Int32) (fan : Nat → Nat) (fin : Nat → Nat) (sen : Nat → Nat) (ou : Nat) (ov : Nat → Int64) (A : Nat → Prop) : Array Value → State → Outcome → State → Prop := va_Qi (fun (r : Int32) (u : (Nat → Int32) × (Nat → Int32) × (Nat → Int64) × (Nat → Int64)) => r = 0 ∧ (cp_ok u.1 lo 4 ∧ cp_ok u.2.1 hi 4) ∧ tL_ok (ts_ok kd fv fan fin sen wh n (ed_ok en co M bd n k pv.toInt64 qv.toInt64) 40 u.1 u.2.1 0) (u.2.2.2 0)) (fun (u : (Nat → Int32) × (Nat → Int32) × (Nat → Int64) × (Nat → Int64)) t => mm_B D kc_all [(cI, .int), (cZ, .boolean), (cL, .long), (cQ, .array .int)] A [(pl, .inr (6, [.ref a, .ref mi, .ref sr, .ref tr, .ref pf, .ref xb, .ref tl, .int so, .int sl])), (xb, .inr (5, [.ref xl, .ref xm, .int (nI n), .long pv.toInt64, .long qv.toInt64])), (xl, .inl (cI, 4, .inl u.1)), (xm, .inl (cI, 4, .inl u.2.1)), (a, .inr (0, [.int (nI n), .int (nI k), .ref al, .ref am, .ref aw, .ref ac, .ref ag, .ref ab])), (al, .inl (cI, 4, .inl lo)), (am, .inl (cI, 4, .inl hi)), (tr, .inr (3, [.ref tk, .ref ta, .ref tv, .ref tf, .ref ts, .ref te, .ref tw])), (tk, .inl (cI, 40, .inl kd)), (ta, .inl (cI, 40, .inl fa)), (tv, .inl (cI, 40, .inl fv)), (tf, .inl (cI, 40, .inl fi)), (ts, .inl (cI, 40, .inl se)), (te, .inl (cI, 280, .inl en)), (tw, .inl (cL, 6, .inr (.inl u.2.2.1))), (aw, .inl (cZ, 4, .inl wh)), (ac, .inl (cI, 4, .inl co)), (ag, .inl (cQ, 6, .inr (.inr (.inr (.inr (fun i9 => some (rw i9))))))), (rw 0, .inl (cI, 4, .inl (M 0))), (rw 1, .inl (cI, 4, .inl (M 1))), (rw 2, .inl (cI, 4, .inl (M 2))), (rw 3, .inl (cI, 4, .inl (M 3))), (rw 4, .inl (cI, 4, .inl (M 4))), (rw 5, .inl (cI, 4, .inl (M 5))), (ab, .inl (cI, 6, .inl bd)), (ou, .inl (cL, 1, .inr (.inl u.2.2.2)))] t) A
set_option maxHeartbeats 4000000 in
set_option maxRecDepth 100000 in
theorem cc_Law_sound (l : Launch) (D : va_G) (cI cZ cL cQ : ClassId) (sz : Nat) (pl : Nat) (tl : Nat) (a : Nat) (mi : Nat) (sr : Nat) (tr : Nat) (pf : Nat) (xb : Nat) (so : Int32) (sl : Int32) (xl : Nat) (xm : Nat) (al : Nat) (am : Nat) (aw : Nat) (ac : Nat) (ag : Nat) (ab : Nat) (n : Nat) (k : Nat) (tk : Nat) (ta : Nat) (tv : Nat) (tf : Nat) (ts : Nat) (te : Nat) (tw : Nat) (bn0 : Int32) (bp : Int64) (bq : Int64) (pv : Int32) (qv : Int32) (lo : Nat → Int32) (hi : Nat → Int32) (kd : Nat → Int32) (fa : Nat → Int32) (fv : Nat → Int32) (fi : Nat → Int32) (se : Nat → Int32) (en : Nat → Int32) (R0 : Nat → Int64) (wh : Nat → Int32) (co : Nat → Int32) (rw : Nat → Nat) (M : Nat → Nat → Int32) (bd : Nat → Int32) (bl : Nat → Int32) (bm : Nat → Int32) (fan : Nat → Nat) (fin : Nat → Nat) (sen : Nat → Nat) (ou : Nat) (ov : Nat → Int64) (hn : n ≤ 4) (hk : k ≤ 6) (hfa : ∀ i9, i9 < 40 → fa i9 = nI (fan i9) ∧ fan i9 < 4) (hfi : ∀ i9, i9 < 40 → fi i9 = nI (fin i9) ∧ fin i9 < 40) (hse : ∀ i9, i9 < 40 → se i9 = nI (sen i9) ∧ sen i9 < 40) (hok : (in_ok pv (-1000000) 1000000 ∧ in_ok qv 1 1000000)) : Met l yy_Law_sound ww_Law_sound ({ frames := 45, cells := 0, slots := 0, locals := 1304 } : Room) (mm_Pc D kc_all [(cI, .int), (cZ, .boolean), (cL, .long), (cQ, .array .int)] sz [(pl, .inr (6, [.ref a, .ref mi, .ref sr, .ref tr, .ref pf, .ref xb, .ref tl, .int so, .int sl])), (xb, .inr (5, [.ref xl, .ref xm, .int bn0, .long bp, .long bq])), (xl, .inl (cI, 4, .inl bl)), (xm, .inl (cI, 4, .inl bm)), (a, .inr (0, [.int (nI n), .int (nI k), .ref al, .ref am, .ref aw, .ref ac, .ref ag, .ref ab])), (al, .inl (cI, 4, .inl lo)), (am, .inl (cI, 4, .inl hi)), (tr, .inr (3, [.ref tk, .ref ta, .ref tv, .ref tf, .ref ts, .ref te, .ref tw])), (tk, .inl (cI, 40, .inl kd)), (ta, .inl (cI, 40, .inl fa)), (tv, .inl (cI, 40, .inl fv)), (tf, .inl (cI, 40, .inl fi)), (ts, .inl (cI, 40, .inl se)), (te, .inl (cI, 280, .inl en)), (tw, .inl (cL, 6, .inr (.inl R0))), (aw, .inl (cZ, 4, .inl wh)), (ac, .inl (cI, 4, .inl co)), (ag, .inl (cQ, 6, .inr (.inr (.inr (.inr (fun i9 => some (rw i9))))))), (rw 0, .inl (cI, 4, .inl (M 0))), (rw 1, .inl (cI, 4, .inl (M 1))), (rw 2, .inl (cI, 4, .inl (M 2))), (rw 3, .inl (cI, 4, .inl (M 3))), (rw 4, .inl (cI, 4, .inl (M 4))), (rw 5, .inl (cI, 4, .inl (M 5))), (ab, .inl (cI, 6, .inl bd)), (ou, .inl (cL, 1, .inr (.inl ov)))] [.ref pl, .int pv, .int qv, .ref ou]) (qq_Law_sound D cI cZ cL cQ pl tl a mi sr tr pf xb so sl xl xm al am aw ac ag ab n k tk ta tv tf ts te tw bn0 bp bq pv qv lo hi kd fa fv fi se en R0 wh co rw M bd bl bm fan fin sen ou ov (va_A [(pl, .inr (6, [.ref a, .ref mi, .ref sr, .ref tr, .ref pf, .ref xb, .ref tl, .int so, .int sl])), (xb, .inr (5, [.ref xl, .ref xm, .int bn0, .long bp, .long bq])), (xl, .inl (cI, 4, .inl bl)), (xm, .inl (cI, 4, .inl bm)), (a, .inr (0, [.int (nI n), .int (nI k), .ref al, .ref am, .ref aw, .ref ac, .ref ag, .ref ab])), (al, .inl (cI, 4, .inl lo)), (am, .inl (cI, 4, .inl hi)), (tr, .inr (3, [.ref tk, .ref ta, .ref tv, .ref tf, .ref ts, .ref te, .ref tw])), (tk, .inl (cI, 40, .inl kd)), (ta, .inl (cI, 40, .inl fa)), (tv, .inl (cI, 40, .inl fv)), (tf, .inl (cI, 40, .inl fi)), (ts, .inl (cI, 40, .inl se)), (te, .inl (cI, 280, .inl en)), (tw, .inl (cL, 6, .inr (.inl R0))), (aw, .inl (cZ, 4, .inl wh)), (ac, .inl (cI, 4, .inl co)), (ag, .inl (cQ, 6, .inr (.inr (.inr (.inr (fun i9 => some (rw i9))))))), (rw 0, .inl (cI, 4, .inl (M 0))), (rw 1, .inl (cI, 4, .inl (M 1))), (rw 2, .inl (cI, 4, .inl (M 2))), (rw 3, .inl (cI, 4, .inl (M 3))), (rw 4, .inl (cI, 4, .inl (M 4))), (rw 5, .inl (cI, 4, .inl (M 5))), (ab, .inl (cI, 6, .inl bd)), (ou, .inl (cL, 1, .inr (.inl ov)))] sz)) 0 0 (va_A [(pl, .inr (6, [.ref a, .ref mi, .ref sr, .ref tr, .ref pf, .ref xb, .ref tl, .int so, .int sl])), (xb, .inr (5, [.ref xl, .ref xm, .int bn0, .long bp, .long bq])), (xl, .inl (cI, 4, .inl bl)), (xm, .inl (cI, 4, .inl bm)), (a, .inr (0, [.int (nI n), .int (nI k), .ref al, .ref am, .ref aw, .ref ac, .ref ag, .ref ab])), (al, .inl (cI, 4, .inl lo)), (am, .inl (cI, 4, .inl hi)), (tr, .inr (3, [.ref tk, .ref ta, .ref tv, .ref tf, .ref ts, .ref te, .ref tw])), (tk, .inl (cI, 40, .inl kd)), (ta, .inl (cI, 40, .inl fa)), (tv, .inl (cI, 40, .inl fv)), (tf, .inl (cI, 40, .inl fi)), (ts, .inl (cI, 40, .inl se)), (te, .inl (cI, 280, .inl en)), (tw, .inl (cL, 6, .inr (.inl R0))), (aw, .inl (cZ, 4, .inl wh)), (ac, .inl (cI, 4, .inl co)), (ag, .inl (cQ, 6, .inr (.inr (.inr (.inr (fun i9 => some (rw i9))))))), (rw 0, .inl (cI, 4, .inl (M 0))), (rw 1, .inl (cI, 4, .inl (M 1))), (rw 2, .inl (cI, 4, .inl (M 2))), (rw 3, .inl (cI, 4, .inl (M 3))), (rw 4, .inl (cI, 4, .inl (M 4))), (rw 5, .inl (cI, 4, .inl (M 5))), (ab, .inl (cI, 6, .inl bd)), (ou, .inl (cL, 1, .inr (.inl ov)))] sz) := by
  refine mx_MetW (cc := bb_Law_sound) (maxL := 5) (ret := (some .int)) (by decide) rfl ?_
  intro p e s m args below meth c s₁ B hml htab hv
  obtain ⟨rfl, hsz, hP, hK, hD0⟩ := hv
  have hx := B.exec
  have hb := B.bytes
  have hr := B.returns
  have hts := atoms_spec (ws := ww_Law_sound) B.pre
  have hown : s.vm.findClass RR_Law = some m.cls := findClass_of_methodNamed B.named
  have hlocks := B.notSynchronized
  subst hsz
  have hD := hD0.self (sz := s.heap.size)
  generalize hAe : va_A [(pl, .inr (6, [.ref a, .ref mi, .ref sr, .ref tr, .ref pf, .ref xb, .ref tl, .int so, .int sl])), (xb, .inr (5, [.ref xl, .ref xm, .int bn0, .long bp, .long bq])), (xl, .inl (cI, 4, .inl bl)), (xm, .inl (cI, 4, .inl bm)), (a, .inr (0, [.int (nI n), .int (nI k), .ref al, .ref am, .ref aw, .ref ac, .ref ag, .ref ab])), (al, .inl (cI, 4, .inl lo)), (am, .inl (cI, 4, .inl hi)), (tr, .inr (3, [.ref tk, .ref ta, .ref tv, .ref tf, .ref ts, .ref te, .ref tw])), (tk, .inl (cI, 40, .inl kd)), (ta, .inl (cI, 40, .inl fa)), (tv, .inl (cI, 40, .inl fv)), (tf, .inl (cI, 40, .inl fi)), (ts, .inl (cI, 40, .inl se)), (te, .inl (cI, 280, .inl en)), (tw, .inl (cL, 6, .inr (.inl R0))), (aw, .inl (cZ, 4, .inl wh)), (ac, .inl (cI, 4, .inl co)), (ag, .inl (cQ, 6, .inr (.inr (.inr (.inr (fun i9 => some (rw i9))))))), (rw 0, .inl (cI, 4, .inl (M 0))), (rw 1, .inl (cI, 4, .inl (M 1))), (rw 2, .inl (cI, 4, .inl (M 2))), (rw 3, .inl (cI, 4, .inl (M 3))), (rw 4, .inl (cI, 4, .inl (M 4))), (rw 5, .inl (cI, 4, .inl (M 5))), (ab, .inl (cI, 6, .inl bd)), (ou, .inl (cL, 1, .inr (.inl ov)))] s.heap.size = A at hD ⊢
  have hA : ∀ q : Nat, s.heap.size ≤ q → A q := fun q h => by rw [← hAe]; exact Or.inr h
  have hS : va_S A s.heap s.heap [] := va_S.rf
  have hP : va_P D kc_all [(pl, .inr (6, [.ref a, .ref mi, .ref sr, .ref tr, .ref pf, .ref xb, .ref tl, .int so, .int sl])), (xb, .inr (5, [.ref xl, .ref xm, .int bn0, .long bp, .long bq])), (xl, .inl (cI, 4, .inl bl)), (xm, .inl (cI, 4, .inl bm)), (a, .inr (0, [.int (nI n), .int (nI k), .ref al, .ref am, .ref aw, .ref ac, .ref ag, .ref ab])), (al, .inl (cI, 4, .inl lo)), (am, .inl (cI, 4, .inl hi)), (tr, .inr (3, [.ref tk, .ref ta, .ref tv, .ref tf, .ref ts, .ref te, .ref tw])), (tk, .inl (cI, 40, .inl kd)), (ta, .inl (cI, 40, .inl fa)), (tv, .inl (cI, 40, .inl fv)), (tf, .inl (cI, 40, .inl fi)), (ts, .inl (cI, 40, .inl se)), (te, .inl (cI, 280, .inl en)), (tw, .inl (cL, 6, .inr (.inl R0))), (aw, .inl (cZ, 4, .inl wh)), (ac, .inl (cI, 4, .inl co)), (ag, .inl (cQ, 6, .inr (.inr (.inr (.inr (fun i9 => some (rw i9))))))), (rw 0, .inl (cI, 4, .inl (M 0))), (rw 1, .inl (cI, 4, .inl (M 1))), (rw 2, .inl (cI, 4, .inl (M 2))), (rw 3, .inl (cI, 4, .inl (M 3))), (rw 4, .inl (cI, 4, .inl (M 4))), (rw 5, .inl (cI, 4, .inl (M 5))), (ab, .inl (cI, 6, .inl bd)), (ou, .inl (cL, 1, .inr (.inl ov)))] s.heap := hP
  have hl := lv_entry ([.ref pl, .int pv, .int qv, .ref ou]) (n := 5) (Nat.le_of_ble_eq_true rfl)
  rw [lg_entry_eq]
  generalize (lg_sl ([.ref pl, .int pv, .int qv, .ref ou]) ++ List.replicate (5 - (lg_sl ([.ref pl, .int pv, .int qv, .ref ou])).length) Slot.unset).toArray = ls at hl ⊢
  have hl : lv_has ls 5 [(0, .ref pl), (1, .int pv), (2, .int qv), (3, .ref ou)] := hl
  have htb : ∀ w ∈ tb_all, w.before ([.ref pl, .int pv, .int qv, .ref ou]).toArray s = true := fun w h => hts w (List.mem_cons_of_mem _ h)
  refine lv_aload_n hx hb dd_Law_sound_0 rfl (lv_at hl 3 rfl) ?_
  refine lv_iconst (v := 0) hx hb dd_Law_sound_1 (by decide) ?_
  refine lv_aload_n hx hb dd_Law_sound_2 rfl (lv_at hl 0 rfl) ?_
  refine lv_iload_n hx hb dd_Law_sound_3 rfl (lv_at hl 1 rfl) ?_
  refine lv_iload_n hx hb dd_Law_sound_4 rfl (lv_at hl 2 rfl) ?_
  refine mm_i (wc := [(pl, .inr (6, [.ref a, .ref mi, .ref sr, .ref tr, .ref pf, .ref xb, .ref tl, .int so, .int sl])), (xb, .inr (5, [.ref xl, .ref xm, .int bn0, .long bp, .long bq])), (xl, .inl (cI, 4, .inl bl)), (xm, .inl (cI, 4, .inl bm)), (a, .inr (0, [.int (nI n), .int (nI k), .ref al, .ref am, .ref aw, .ref ac, .ref ag, .ref ab])), (al, .inl (cI, 4, .inl lo)), (am, .inl (cI, 4, .inl hi)), (tr, .inr (3, [.ref tk, .ref ta, .ref tv, .ref tf, .ref ts, .ref te, .ref tw])), (tk, .inl (cI, 40, .inl kd)), (ta, .inl (cI, 40, .inl fa)), (tv, .inl (cI, 40, .inl fv)), (tf, .inl (cI, 40, .inl fi)), (ts, .inl (cI, 40, .inl se)), (te, .inl (cI, 280, .inl en)), (tw, .inl (cL, 6, .inr (.inl R0))), (aw, .inl (cZ, 4, .inl wh)), (ac, .inl (cI, 4, .inl co)), (ag, .inl (cQ, 6, .inr (.inr (.inr (.inr (fun i9 => some (rw i9))))))), (rw 0, .inl (cI, 4, .inl (M 0))), (rw 1, .inl (cI, 4, .inl (M 1))), (rw 2, .inl (cI, 4, .inl (M 2))), (rw 3, .inl (cI, 4, .inl (M 3))), (rw 4, .inl (cI, 4, .inl (M 4))), (rw 5, .inl (cI, 4, .inl (M 5))), (ab, .inl (cI, 6, .inl bd))]) (wr := [(ou, .inl (cL, 1, .inr (.inl ov)))]) (va_runV (As := [.int pv, .int qv]) (rest := [.int (0 : Int32), .ref ou]) (C := RR_Planner) ⟨hx, hb, hml, hown, hts⟩ (cc_Planner_sound l D cI cZ cL cQ _ pl tl a mi sr tr pf xb so sl xl xm al am aw ac ag ab n k tk ta tv tf ts te tw bn0 bp bq pv qv lo hi kd fa fv fi se en R0 wh co rw M bd bl bm fan fin sen (hn) (hk) (hfa) (hfi) (hse) (hok)) (mm_cwV 2 hts ml_Law_57 im_Planner_sound se_Planner_sound ic_Planner cd_Planner_sound rfl rfl (by decide +kernel) ⟨Nat.le_of_ble_eq_true rfl, Nat.le_of_ble_eq_true rfl⟩) (mm_preV hK hP hD [0, 1, 2, 3, 4, 5, 6, 7, 8, 9, 10, 11, 12, 13, 14, 15, 16, 17, 18, 19, 20, 21, 22, 23, 24] (by decide) rfl 0 rfl rfl) rfl rfl hl.1 rfl (lv_room (Nat.le_of_ble_eq_true rfl)) dd_Law_sound_5 ⟨Nat.zero_le _, Nat.zero_le _⟩) hP hD hS hA [0, 1, 2, 3, 4, 5, 6, 7, 8, 9, 10, 11, 12, 13, 14, 15, 16, 17, 18, 19, 20, 21, 22, 23, 24] [25] rfl rfl (by decide) (by decide) (fun zr1 zu2 H locs p5 hP hD hS => ?_)
  have hP : va_P D kc_all [(ou, .inl (cL, 1, .inr (.inl ov))), (pl, .inr (6, [.ref a, .ref mi, .ref sr, .ref tr, .ref pf, .ref xb, .ref tl, .int so, .int sl])), (xb, .inr (5, [.ref xl, .ref xm, .int (nI n), .long pv.toInt64, .long qv.toInt64])), (xl, .inl (cI, 4, .inl zu2.1)), (xm, .inl (cI, 4, .inl zu2.2.1)), (a, .inr (0, [.int (nI n), .int (nI k), .ref al, .ref am, .ref aw, .ref ac, .ref ag, .ref ab])), (al, .inl (cI, 4, .inl lo)), (am, .inl (cI, 4, .inl hi)), (tr, .inr (3, [.ref tk, .ref ta, .ref tv, .ref tf, .ref ts, .ref te, .ref tw])), (tk, .inl (cI, 40, .inl kd)), (ta, .inl (cI, 40, .inl fa)), (tv, .inl (cI, 40, .inl fv)), (tf, .inl (cI, 40, .inl fi)), (ts, .inl (cI, 40, .inl se)), (te, .inl (cI, 280, .inl en)), (tw, .inl (cL, 6, .inr (.inl zu2.2.2))), (aw, .inl (cZ, 4, .inl wh)), (ac, .inl (cI, 4, .inl co)), (ag, .inl (cQ, 6, .inr (.inr (.inr (.inr (fun i9 => some (rw i9))))))), (rw 0, .inl (cI, 4, .inl (M 0))), (rw 1, .inl (cI, 4, .inl (M 1))), (rw 2, .inl (cI, 4, .inl (M 2))), (rw 3, .inl (cI, 4, .inl (M 3))), (rw 4, .inl (cI, 4, .inl (M 4))), (rw 5, .inl (cI, 4, .inl (M 5))), (ab, .inl (cI, 6, .inl bd))] H := hP
  have hD : va_D A [(ou, .inl (cL, 1, .inr (.inl ov))), (pl, .inr (6, [.ref a, .ref mi, .ref sr, .ref tr, .ref pf, .ref xb, .ref tl, .int so, .int sl])), (xb, .inr (5, [.ref xl, .ref xm, .int (nI n), .long pv.toInt64, .long qv.toInt64])), (xl, .inl (cI, 4, .inl zu2.1)), (xm, .inl (cI, 4, .inl zu2.2.1)), (a, .inr (0, [.int (nI n), .int (nI k), .ref al, .ref am, .ref aw, .ref ac, .ref ag, .ref ab])), (al, .inl (cI, 4, .inl lo)), (am, .inl (cI, 4, .inl hi)), (tr, .inr (3, [.ref tk, .ref ta, .ref tv, .ref tf, .ref ts, .ref te, .ref tw])), (tk, .inl (cI, 40, .inl kd)), (ta, .inl (cI, 40, .inl fa)), (tv, .inl (cI, 40, .inl fv)), (tf, .inl (cI, 40, .inl fi)), (ts, .inl (cI, 40, .inl se)), (te, .inl (cI, 280, .inl en)), (tw, .inl (cL, 6, .inr (.inl zu2.2.2))), (aw, .inl (cZ, 4, .inl wh)), (ac, .inl (cI, 4, .inl co)), (ag, .inl (cQ, 6, .inr (.inr (.inr (.inr (fun i9 => some (rw i9))))))), (rw 0, .inl (cI, 4, .inl (M 0))), (rw 1, .inl (cI, 4, .inl (M 1))), (rw 2, .inl (cI, 4, .inl (M 2))), (rw 3, .inl (cI, 4, .inl (M 3))), (rw 4, .inl (cI, 4, .inl (M 4))), (rw 5, .inl (cI, 4, .inl (M 5))), (ab, .inl (cI, 6, .inl bd))] := hD
  have hP : va_P D kc_all [(pl, .inr (6, [.ref a, .ref mi, .ref sr, .ref tr, .ref pf, .ref xb, .ref tl, .int so, .int sl])), (xb, .inr (5, [.ref xl, .ref xm, .int (nI n), .long pv.toInt64, .long qv.toInt64])), (xl, .inl (cI, 4, .inl zu2.1)), (xm, .inl (cI, 4, .inl zu2.2.1)), (a, .inr (0, [.int (nI n), .int (nI k), .ref al, .ref am, .ref aw, .ref ac, .ref ag, .ref ab])), (al, .inl (cI, 4, .inl lo)), (am, .inl (cI, 4, .inl hi)), (tr, .inr (3, [.ref tk, .ref ta, .ref tv, .ref tf, .ref ts, .ref te, .ref tw])), (tk, .inl (cI, 40, .inl kd)), (ta, .inl (cI, 40, .inl fa)), (tv, .inl (cI, 40, .inl fv)), (tf, .inl (cI, 40, .inl fi)), (ts, .inl (cI, 40, .inl se)), (te, .inl (cI, 280, .inl en)), (tw, .inl (cL, 6, .inr (.inl zu2.2.2))), (aw, .inl (cZ, 4, .inl wh)), (ac, .inl (cI, 4, .inl co)), (ag, .inl (cQ, 6, .inr (.inr (.inr (.inr (fun i9 => some (rw i9))))))), (rw 0, .inl (cI, 4, .inl (M 0))), (rw 1, .inl (cI, 4, .inl (M 1))), (rw 2, .inl (cI, 4, .inl (M 2))), (rw 3, .inl (cI, 4, .inl (M 3))), (rw 4, .inl (cI, 4, .inl (M 4))), (rw 5, .inl (cI, 4, .inl (M 5))), (ab, .inl (cI, 6, .inl bd)), (ou, .inl (cL, 1, .inr (.inl ov)))] H := hP.sub [1, 2, 3, 4, 5, 6, 7, 8, 9, 10, 11, 12, 13, 14, 15, 16, 17, 18, 19, 20, 21, 22, 23, 24, 25, 0] rfl
  have hD : va_D A [(pl, .inr (6, [.ref a, .ref mi, .ref sr, .ref tr, .ref pf, .ref xb, .ref tl, .int so, .int sl])), (xb, .inr (5, [.ref xl, .ref xm, .int (nI n), .long pv.toInt64, .long qv.toInt64])), (xl, .inl (cI, 4, .inl zu2.1)), (xm, .inl (cI, 4, .inl zu2.2.1)), (a, .inr (0, [.int (nI n), .int (nI k), .ref al, .ref am, .ref aw, .ref ac, .ref ag, .ref ab])), (al, .inl (cI, 4, .inl lo)), (am, .inl (cI, 4, .inl hi)), (tr, .inr (3, [.ref tk, .ref ta, .ref tv, .ref tf, .ref ts, .ref te, .ref tw])), (tk, .inl (cI, 40, .inl kd)), (ta, .inl (cI, 40, .inl fa)), (tv, .inl (cI, 40, .inl fv)), (tf, .inl (cI, 40, .inl fi)), (ts, .inl (cI, 40, .inl se)), (te, .inl (cI, 280, .inl en)), (tw, .inl (cL, 6, .inr (.inl zu2.2.2))), (aw, .inl (cZ, 4, .inl wh)), (ac, .inl (cI, 4, .inl co)), (ag, .inl (cQ, 6, .inr (.inr (.inr (.inr (fun i9 => some (rw i9))))))), (rw 0, .inl (cI, 4, .inl (M 0))), (rw 1, .inl (cI, 4, .inl (M 1))), (rw 2, .inl (cI, 4, .inl (M 2))), (rw 3, .inl (cI, 4, .inl (M 3))), (rw 4, .inl (cI, 4, .inl (M 4))), (rw 5, .inl (cI, 4, .inl (M 5))), (ab, .inl (cI, 6, .inl bd)), (ou, .inl (cL, 1, .inr (.inl ov)))] := hD.sub [1, 2, 3, 4, 5, 6, 7, 8, 9, 10, 11, 12, 13, 14, 15, 16, 17, 18, 19, 20, 21, 22, 23, 24, 25, 0] (by decide) rfl
  have p5 : (cp_ok zu2.1 lo 4 ∧ cp_ok zu2.2.1 hi 4) ∧ tl_ok (ts_ok kd fv fan fin sen wh n (ed_ok en co M bd n k pv.toInt64 qv.toInt64) 40 zu2.1 zu2.2.1 0) zr1 := p5
  refine lv_if_eq (tgt := 15) hx hb dd_Law_sound_8 (by decide) (fun h8 => ?_) (fun h8 => ?_)
  · skip
    have hov := tL_0 (ov := ov) p5.2 h8
    refine lv_lconst (v := 0) hx hb dd_Law_sound_15 (by decide) ?_
    refine mm_last hx hb hK hP hD hS 25 2 rfl rfl (0) (rfl) (by omega) (by first | decide | omega) dd_Law_sound_16 (fun H locs hP hD hS => ?_)
    have hP : va_P D kc_all [(pl, .inr (6, [.ref a, .ref mi, .ref sr, .ref tr, .ref pf, .ref xb, .ref tl, .int so, .int sl])), (xb, .inr (5, [.ref xl, .ref xm, .int (nI n), .long pv.toInt64, .long qv.toInt64])), (xl, .inl (cI, 4, .inl zu2.1)), (xm, .inl (cI, 4, .inl zu2.2.1)), (a, .inr (0, [.int (nI n), .int (nI k), .ref al, .ref am, .ref aw, .ref ac, .ref ag, .ref ab])), (al, .inl (cI, 4, .inl lo)), (am, .inl (cI, 4, .inl hi)), (tr, .inr (3, [.ref tk, .ref ta, .ref tv, .ref tf, .ref ts, .ref te, .ref tw])), (tk, .inl (cI, 40, .inl kd)), (ta, .inl (cI, 40, .inl fa)), (tv, .inl (cI, 40, .inl fv)), (tf, .inl (cI, 40, .inl fi)), (ts, .inl (cI, 40, .inl se)), (te, .inl (cI, 280, .inl en)), (tw, .inl (cL, 6, .inr (.inl zu2.2.2))), (aw, .inl (cZ, 4, .inl wh)), (ac, .inl (cI, 4, .inl co)), (ag, .inl (cQ, 6, .inr (.inr (.inr (.inr (fun i9 => some (rw i9))))))), (rw 0, .inl (cI, 4, .inl (M 0))), (rw 1, .inl (cI, 4, .inl (M 1))), (rw 2, .inl (cI, 4, .inl (M 2))), (rw 3, .inl (cI, 4, .inl (M 3))), (rw 4, .inl (cI, 4, .inl (M 4))), (rw 5, .inl (cI, 4, .inl (M 5))), (ab, .inl (cI, 6, .inl bd)), (ou, .inl (cL, 1, .inr (.inl (vp_updL ov 0 (0 : Int64)))))] H := hP
    have hD : va_D A [(pl, .inr (6, [.ref a, .ref mi, .ref sr, .ref tr, .ref pf, .ref xb, .ref tl, .int so, .int sl])), (xb, .inr (5, [.ref xl, .ref xm, .int (nI n), .long pv.toInt64, .long qv.toInt64])), (xl, .inl (cI, 4, .inl zu2.1)), (xm, .inl (cI, 4, .inl zu2.2.1)), (a, .inr (0, [.int (nI n), .int (nI k), .ref al, .ref am, .ref aw, .ref ac, .ref ag, .ref ab])), (al, .inl (cI, 4, .inl lo)), (am, .inl (cI, 4, .inl hi)), (tr, .inr (3, [.ref tk, .ref ta, .ref tv, .ref tf, .ref ts, .ref te, .ref tw])), (tk, .inl (cI, 40, .inl kd)), (ta, .inl (cI, 40, .inl fa)), (tv, .inl (cI, 40, .inl fv)), (tf, .inl (cI, 40, .inl fi)), (ts, .inl (cI, 40, .inl se)), (te, .inl (cI, 280, .inl en)), (tw, .inl (cL, 6, .inr (.inl zu2.2.2))), (aw, .inl (cZ, 4, .inl wh)), (ac, .inl (cI, 4, .inl co)), (ag, .inl (cQ, 6, .inr (.inr (.inr (.inr (fun i9 => some (rw i9))))))), (rw 0, .inl (cI, 4, .inl (M 0))), (rw 1, .inl (cI, 4, .inl (M 1))), (rw 2, .inl (cI, 4, .inl (M 2))), (rw 3, .inl (cI, 4, .inl (M 3))), (rw 4, .inl (cI, 4, .inl (M 4))), (rw 5, .inl (cI, 4, .inl (M 5))), (ab, .inl (cI, 6, .inl bd)), (ou, .inl (cL, 1, .inr (.inl (vp_updL ov 0 (0 : Int64)))))] := hD
    refine lv_goto (tgt := 24) hx hb dd_Law_sound_17 (by decide) ?_
    refine lv_iconst (v := 0) hx hb dd_Law_sound_24 (by decide) ?_
    exact W.iret (v := (0 : Int32)) hx hb hr (fun t ht hW => ⟨⟨(0 : Int32), (zu2.1, zu2.2.1, zu2.2.2, vp_updL ov 0 (0 : Int64)), rfl, ⟨rfl, p5.1, hov⟩, by rw [ht]; exact hP, va_K.moved hW.alike hK, hD⟩, hS.F ht⟩) hS.2.2 dd_Law_sound_25
  · skip
    have hov := tL_1 (ov := ov) p5.2 h8
    refine lv_lconst (v := 1) hx hb dd_Law_sound_11 (by decide) ?_
    refine lv_goto (tgt := 16) hx hb dd_Law_sound_12 (by decide) ?_
    refine mm_last hx hb hK hP hD hS 25 2 rfl rfl (0) (rfl) (by omega) (by first | decide | omega) dd_Law_sound_16 (fun H locs hP hD hS => ?_)
    have hP : va_P D kc_all [(pl, .inr (6, [.ref a, .ref mi, .ref sr, .ref tr, .ref pf, .ref xb, .ref tl, .int so, .int sl])), (xb, .inr (5, [.ref xl, .ref xm, .int (nI n), .long pv.toInt64, .long qv.toInt64])), (xl, .inl (cI, 4, .inl zu2.1)), (xm, .inl (cI, 4, .inl zu2.2.1)), (a, .inr (0, [.int (nI n), .int (nI k), .ref al, .ref am, .ref aw, .ref ac, .ref ag, .ref ab])), (al, .inl (cI, 4, .inl lo)), (am, .inl (cI, 4, .inl hi)), (tr, .inr (3, [.ref tk, .ref ta, .ref tv, .ref tf, .ref ts, .ref te, .ref tw])), (tk, .inl (cI, 40, .inl kd)), (ta, .inl (cI, 40, .inl fa)), (tv, .inl (cI, 40, .inl fv)), (tf, .inl (cI, 40, .inl fi)), (ts, .inl (cI, 40, .inl se)), (te, .inl (cI, 280, .inl en)), (tw, .inl (cL, 6, .inr (.inl zu2.2.2))), (aw, .inl (cZ, 4, .inl wh)), (ac, .inl (cI, 4, .inl co)), (ag, .inl (cQ, 6, .inr (.inr (.inr (.inr (fun i9 => some (rw i9))))))), (rw 0, .inl (cI, 4, .inl (M 0))), (rw 1, .inl (cI, 4, .inl (M 1))), (rw 2, .inl (cI, 4, .inl (M 2))), (rw 3, .inl (cI, 4, .inl (M 3))), (rw 4, .inl (cI, 4, .inl (M 4))), (rw 5, .inl (cI, 4, .inl (M 5))), (ab, .inl (cI, 6, .inl bd)), (ou, .inl (cL, 1, .inr (.inl (vp_updL ov 0 (1 : Int64)))))] H := hP
    have hD : va_D A [(pl, .inr (6, [.ref a, .ref mi, .ref sr, .ref tr, .ref pf, .ref xb, .ref tl, .int so, .int sl])), (xb, .inr (5, [.ref xl, .ref xm, .int (nI n), .long pv.toInt64, .long qv.toInt64])), (xl, .inl (cI, 4, .inl zu2.1)), (xm, .inl (cI, 4, .inl zu2.2.1)), (a, .inr (0, [.int (nI n), .int (nI k), .ref al, .ref am, .ref aw, .ref ac, .ref ag, .ref ab])), (al, .inl (cI, 4, .inl lo)), (am, .inl (cI, 4, .inl hi)), (tr, .inr (3, [.ref tk, .ref ta, .ref tv, .ref tf, .ref ts, .ref te, .ref tw])), (tk, .inl (cI, 40, .inl kd)), (ta, .inl (cI, 40, .inl fa)), (tv, .inl (cI, 40, .inl fv)), (tf, .inl (cI, 40, .inl fi)), (ts, .inl (cI, 40, .inl se)), (te, .inl (cI, 280, .inl en)), (tw, .inl (cL, 6, .inr (.inl zu2.2.2))), (aw, .inl (cZ, 4, .inl wh)), (ac, .inl (cI, 4, .inl co)), (ag, .inl (cQ, 6, .inr (.inr (.inr (.inr (fun i9 => some (rw i9))))))), (rw 0, .inl (cI, 4, .inl (M 0))), (rw 1, .inl (cI, 4, .inl (M 1))), (rw 2, .inl (cI, 4, .inl (M 2))), (rw 3, .inl (cI, 4, .inl (M 3))), (rw 4, .inl (cI, 4, .inl (M 4))), (rw 5, .inl (cI, 4, .inl (M 5))), (ab, .inl (cI, 6, .inl bd)), (ou, .inl (cL, 1, .inr (.inl (vp_updL ov 0 (1 : Int64)))))] := hD
    refine lv_goto (tgt := 24) hx hb dd_Law_sound_17 (by decide) ?_
    refine lv_iconst (v := 0) hx hb dd_Law_sound_24 (by decide) ?_
    exact W.iret (v := (0 : Int32)) hx hb hr (fun t ht hW => ⟨⟨(0 : Int32), (zu2.1, zu2.2.1, zu2.2.2, vp_updL ov 0 (1 : Int64)), rfl, ⟨rfl, p5.1, hov⟩, by rw [ht]; exact hP, va_K.moved hW.alike hK, hD⟩, hS.F ht⟩) hS.2.2 dd_Law_sound_25
abbrev qq_Law_soundX (D : va_G) (cI cZ cL cQ : ClassId) (pl : Nat) (tl : Nat) (a : Nat) (mi : Nat) (sr : Nat) (tr : Nat) (pf : Nat) (xb : Nat) (so : Int32) (sl : Int32) (pv : Int32) (qv : Int32) (ou : Nat) (ov : Nat → Int64) (A : Nat → Prop) : Array Value → State → Outcome → State → Prop := va_Qi (fun (r : Int32) (u : Unit) => r = 1) (fun (u : Unit) t => mm_B D kc_all [(cI, .int), (cZ, .boolean), (cL, .long), (cQ, .array .int)] A [(pl, .inr (6, [.ref a, .ref mi, .ref sr, .ref tr, .ref pf, .ref xb, .ref tl, .int so, .int sl])), (ou, .inl (cL, 1, .inr (.inl ov)))] t) A
set_option maxHeartbeats 4000000 in
set_option maxRecDepth 100000 in
theorem cc_Law_soundX (l : Launch) (hnt : l.stackTraces = false) (D : va_G) (cI cZ cL cQ : ClassId) (sz : Nat) (pl : Nat) (tl : Nat) (a : Nat) (mi : Nat) (sr : Nat) (tr : Nat) (pf : Nat) (xb : Nat) (so : Int32) (sl : Int32) (pv : Int32) (qv : Int32) (ou : Nat) (ov : Nat → Int64) (hno : ¬ (in_ok pv (-1000000) 1000000 ∧ in_ok qv 1 1000000)) : Met l yy_Law_sound ww_Law_sound ({ frames := 45, cells := 1, slots := 6, locals := 1304 } : Room) (mx_Pc D kc_all [(cI, .int), (cZ, .boolean), (cL, .long), (cQ, .array .int)] sz [(pl, .inr (6, [.ref a, .ref mi, .ref sr, .ref tr, .ref pf, .ref xb, .ref tl, .int so, .int sl])), (ou, .inl (cL, 1, .inr (.inl ov)))] [.ref pl, .int pv, .int qv, .ref ou]) (qq_Law_soundX D cI cZ cL cQ pl tl a mi sr tr pf xb so sl pv qv ou ov (va_A [(pl, .inr (6, [.ref a, .ref mi, .ref sr, .ref tr, .ref pf, .ref xb, .ref tl, .int so, .int sl])), (ou, .inl (cL, 1, .inr (.inl ov)))] sz)) 1 6 (va_A [(pl, .inr (6, [.ref a, .ref mi, .ref sr, .ref tr, .ref pf, .ref xb, .ref tl, .int so, .int sl])), (ou, .inl (cL, 1, .inr (.inl ov)))] sz) := by
  refine mx_MetW (cc := bb_Law_sound) (maxL := 5) (ret := (some .int)) (by decide) rfl ?_
  intro p e s m args below meth c s₁ B hml htab hv
  obtain ⟨rfl, hsz, hP, hK, hD0, hTr⟩ := hv
  have hx := B.exec
  have hb := B.bytes
  have hr := B.returns
  have hts := atoms_spec (ws := ww_Law_sound) B.pre
  have hown : s.vm.findClass RR_Law = some m.cls := findClass_of_methodNamed B.named
  have hlocks := B.notSynchronized
  subst hsz
  have hD := hD0.self (sz := s.heap.size)
  generalize hAe : va_A [(pl, .inr (6, [.ref a, .ref mi, .ref sr, .ref tr, .ref pf, .ref xb, .ref tl, .int so, .int sl])), (ou, .inl (cL, 1, .inr (.inl ov)))] s.heap.size = A at hD ⊢
  have hA : ∀ q : Nat, s.heap.size ≤ q → A q := fun q h => by rw [← hAe]; exact Or.inr h
  have hS : va_S A s.heap s.heap [] := va_S.rf
  have hS0 : va_S (mx_A s.heap.size) s.heap s.heap [] := va_S.rf
  have hP : va_P D kc_all [(pl, .inr (6, [.ref a, .ref mi, .ref sr, .ref tr, .ref pf, .ref xb, .ref tl, .int so, .int sl])), (ou, .inl (cL, 1, .inr (.inl ov)))] s.heap := hP
  have hl := lv_entry ([.ref pl, .int pv, .int qv, .ref ou]) (n := 5) (Nat.le_of_ble_eq_true rfl)
  rw [lg_entry_eq]
  generalize (lg_sl ([.ref pl, .int pv, .int qv, .ref ou]) ++ List.replicate (5 - (lg_sl ([.ref pl, .int pv, .int qv, .ref ou])).length) Slot.unset).toArray = ls at hl ⊢
  have hl : lv_has ls 5 [(0, .ref pl), (1, .int pv), (2, .int qv), (3, .ref ou)] := hl
  have htb : ∀ w ∈ tb_all, w.before ([.ref pl, .int pv, .int qv, .ref ou]).toArray s = true := fun w h => hts w (List.mem_cons_of_mem _ h)
  refine lv_aload_n hx hb dd_Law_sound_0 rfl (lv_at hl 3 rfl) ?_
  refine lv_iconst (v := 0) hx hb dd_Law_sound_1 (by decide) ?_
  refine lv_aload_n hx hb dd_Law_sound_2 rfl (lv_at hl 0 rfl) ?_
  refine lv_iload_n hx hb dd_Law_sound_3 rfl (lv_at hl 1 rfl) ?_
  refine lv_iload_n hx hb dd_Law_sound_4 rfl (lv_at hl 2 rfl) ?_
  refine mx_cat htab [] (0, 17, 20, 13) [] rfl (mx_runV (As := [.int pv, .int qv]) (rest := [.int (0 : Int32), .ref ou]) (C := RR_Planner) ⟨hx, hb, hml, hown, hts⟩ (cc_Planner_soundX l hnt D cI cZ cL cQ _ pl tl a mi sr tr pf xb so sl pv qv (hno)) (mm_cwV 2 hts ml_Law_57 im_Planner_sound se_Planner_sound ic_Planner cd_Planner_sound rfl rfl (by decide +kernel) ⟨Nat.le_of_ble_eq_true rfl, Nat.le_of_ble_eq_true rfl⟩) (mx_preV hTr hS0 hK hP hD [0] (by decide) rfl 0 rfl rfl) rfl rfl hl.1 rfl (lv_room (Nat.le_of_ble_eq_true rfl)) dd_Law_sound_5 ⟨Nat.le_of_ble_eq_true rfl, Nat.le_of_ble_eq_true rfl⟩) hS hA hP hown (E := "java/lang/IllegalArgumentException") (fun _ h => h) (fun _ h => absurd h List.not_mem_nil) ⟨⟨by decide, by decide⟩, by decide⟩ (htb _ kl_Law_13) (ca_A hTr) (fun zx3 H locs hP hS => ?_)
  refine lv_astore (lv' := [(4, .ref zx3), (0, .ref pl), (1, .int pv), (2, .int qv), (3, .ref ou)]) hx hb dd_Law_sound_20 hl (by decide) rfl (fun ls hl => ?_)
  refine lv_iconst (v := 1) hx hb dd_Law_sound_22 (by decide) ?_
  exact W.iret (v := (1 : Int32)) hx hb hr (fun t ht hW => ⟨⟨(1 : Int32), (), rfl, rfl, by rw [ht]; exact hP, va_K.moved hW.alike hK, hD⟩, hS.F ht⟩) hS.2.2 dd_Law_sound_23
abbrev qq_Law_prove (D : va_G) (cI cZ cL cQ : ClassId) (pl : Nat) (tl : Nat) (a : Nat) (mi : Nat) (sr : Nat) (tr : Nat) (pf : Nat) (xb : Nat) (so : Int32) (sl : Int32) (xl : Nat) (xm : Nat) (al : Nat) (am : Nat) (aw : Nat) (ac : Nat) (ag : Nat) (ab : Nat) (n : Nat) (k : Nat) (sb : Nat) (sq : Nat) (sx : Nat) (sy : Nat) (fo : Int32) (dv : Int32) (cs : Int32) (lz : Int32) (pn : Nat) (pr : Nat) (mv : Nat) (bn0 : Int32) (e0 : Int32) (bp : Int64) (bq : Int64) (R : Nat → Int64) (num : Nat → Int32) (vals : Nat → Int32) (lo : Nat → Int32) (hi : Nat → Int32) (co : Nat → Int32) (rw : Nat → Nat) (M : Nat → Nat → Int32) (bd : Nat → Int32) (wh : Nat → Int32) (bl : Nat → Int32) (bm : Nat → Int32) (ou : Nat) (ov : Nat → Int64) (A : Nat → Prop) : Array Value → State → Outcome → State → Prop := va_Qi (fun (r : Int32) (u : (Nat → Int32) × (Nat → Int32) × gt_T × (Nat → Int64)) => r = 0 ∧ (cp_ok u.1 lo 4 ∧ cp_ok u.2.1 hi 4) ∧ u.2.2.1 = fl_g (gr_f vals co M bd k (th_f fo k)) (2 ^ n) (0, R, num) ∧ tL_ok (ps_ok (he_ok u.2.2.1.2.1 u.2.2.1.1 n cs.toInt64 dv.toInt64) (fun x8 y8 => (wi_f wh x8 y8 n).1) n 33 u.1 u.2.1) (u.2.2.2 0)) (fun (u : (Nat → Int32) × (Nat → Int32) × gt_T × (Nat → Int64)) t => mm_B D kc_all [(cI, .int), (cZ, .boolean), (cL, .long), (cQ, .array .int)] A [(pl, .inr (6, [.ref a, .ref mi, .ref sr, .ref tr, .ref pf, .ref xb, .ref tl, .int so, .int sl])), (xb, .inr (5, [.ref xl, .ref xm, .int (nI n), .long cs.toInt64, .long dv.toInt64])), (xl, .inl (cI, 4, .inl u.1)), (xm, .inl (cI, 4, .inl u.2.1)), (a, .inr (0, [.int (nI n), .int (nI k), .ref al, .ref am, .ref aw, .ref ac, .ref ag, .ref ab])), (al, .inl (cI, 4, .inl lo)), (am, .inl (cI, 4, .inl hi)), (sr, .inr (2, [.int fo, .ref sb, .int dv, .int cs, .int lz, .ref sq, .ref sx, .ref sy])), (pf, .inr (4, [.int (nI u.2.2.1.1), .ref pn, .ref pr])), (pn, .inl (cI, 7, .inl u.2.2.1.2.2)), (pr, .inl (cL, 2772, .inr (.inl u.2.2.1.2.1))), (mi, .inr (1, [.ref mv])), (mv, .inl (cI, 2048, .inl vals)), (ac, .inl (cI, 4, .inl co)), (ag, .inl (cQ, 6, .inr (.inr (.inr (.inr (fun i9 => some (rw i9))))))), (rw 0, .inl (cI, 4, .inl (M 0))), (rw 1, .inl (cI, 4, .inl (M 1))), (rw 2, .inl (cI, 4, .inl (M 2))), (rw 3, .inl (cI, 4, .inl (M 3))), (rw 4, .inl (cI, 4, .inl (M 4))), (rw 5, .inl (cI, 4, .inl (M 5))), (ab, .inl (cI, 6, .inl bd)), (aw, .inl (cZ, 4, .inl wh)), (ou, .inl (cL, 1, .inr (.inl u.2.2.2)))] t) A
set_option maxHeartbeats 4000000 in
set_option maxRecDepth 100000 in
theorem cc_Law_prove (l : Launch) (D : va_G) (cI cZ cL cQ : ClassId) (sz : Nat) (pl : Nat) (tl : Nat) (a : Nat) (mi : Nat) (sr : Nat) (tr : Nat) (pf : Nat) (xb : Nat) (so : Int32) (sl : Int32) (xl : Nat) (xm : Nat) (al : Nat) (am : Nat) (aw : Nat) (ac : Nat) (ag : Nat) (ab : Nat) (n : Nat) (k : Nat) (sb : Nat) (sq : Nat) (sx : Nat) (sy : Nat) (fo : Int32) (dv : Int32) (cs : Int32) (lz : Int32) (pn : Nat) (pr : Nat) (mv : Nat) (bn0 : Int32) (e0 : Int32) (bp : Int64) (bq : Int64) (R : Nat → Int64) (num : Nat → Int32) (vals : Nat → Int32) (lo : Nat → Int32) (hi : Nat → Int32) (co : Nat → Int32) (rw : Nat → Nat) (M : Nat → Nat → Int32) (bd : Nat → Int32) (wh : Nat → Int32) (bl : Nat → Int32) (bm : Nat → Int32) (ou : Nat) (ov : Nat → Int64) (hn : n ≤ 4) (hk : k ≤ 6) (hok : ¬ so = 0 ∧ sl = 0) : Met l yy_Law_prove ww_Law_prove ({ frames := 38, cells := 0, slots := 0, locals := 1079 } : Room) (mm_Pc D kc_all [(cI, .int), (cZ, .boolean), (cL, .long), (cQ, .array .int)] sz [(pl, .inr (6, [.ref a, .ref mi, .ref sr, .ref tr, .ref pf, .ref xb, .ref tl, .int so, .int sl])), (xb, .inr (5, [.ref xl, .ref xm, .int bn0, .long bp, .long bq])), (xl, .inl (cI, 4, .inl bl)), (xm, .inl (cI, 4, .inl bm)), (a, .inr (0, [.int (nI n), .int (nI k), .ref al, .ref am, .ref aw, .ref ac, .ref ag, .ref ab])), (al, .inl (cI, 4, .inl lo)), (am, .inl (cI, 4, .inl hi)), (sr, .inr (2, [.int fo, .ref sb, .int dv, .int cs, .int lz, .ref sq, .ref sx, .ref sy])), (pf, .inr (4, [.int e0, .ref pn, .ref pr])), (pn, .inl (cI, 7, .inl num)), (pr, .inl (cL, 2772, .inr (.inl R))), (mi, .inr (1, [.ref mv])), (mv, .inl (cI, 2048, .inl vals)), (ac, .inl (cI, 4, .inl co)), (ag, .inl (cQ, 6, .inr (.inr (.inr (.inr (fun i9 => some (rw i9))))))), (rw 0, .inl (cI, 4, .inl (M 0))), (rw 1, .inl (cI, 4, .inl (M 1))), (rw 2, .inl (cI, 4, .inl (M 2))), (rw 3, .inl (cI, 4, .inl (M 3))), (rw 4, .inl (cI, 4, .inl (M 4))), (rw 5, .inl (cI, 4, .inl (M 5))), (ab, .inl (cI, 6, .inl bd)), (aw, .inl (cZ, 4, .inl wh)), (ou, .inl (cL, 1, .inr (.inl ov)))] [.ref pl, .ref ou]) (qq_Law_prove D cI cZ cL cQ pl tl a mi sr tr pf xb so sl xl xm al am aw ac ag ab n k sb sq sx sy fo dv cs lz pn pr mv bn0 e0 bp bq R num vals lo hi co rw M bd wh bl bm ou ov (va_A [(pl, .inr (6, [.ref a, .ref mi, .ref sr, .ref tr, .ref pf, .ref xb, .ref tl, .int so, .int sl])), (xb, .inr (5, [.ref xl, .ref xm, .int bn0, .long bp, .long bq])), (xl, .inl (cI, 4, .inl bl)), (xm, .inl (cI, 4, .inl bm)), (a, .inr (0, [.int (nI n), .int (nI k), .ref al, .ref am, .ref aw, .ref ac, .ref ag, .ref ab])), (al, .inl (cI, 4, .inl lo)), (am, .inl (cI, 4, .inl hi)), (sr, .inr (2, [.int fo, .ref sb, .int dv, .int cs, .int lz, .ref sq, .ref sx, .ref sy])), (pf, .inr (4, [.int e0, .ref pn, .ref pr])), (pn, .inl (cI, 7, .inl num)), (pr, .inl (cL, 2772, .inr (.inl R))), (mi, .inr (1, [.ref mv])), (mv, .inl (cI, 2048, .inl vals)), (ac, .inl (cI, 4, .inl co)), (ag, .inl (cQ, 6, .inr (.inr (.inr (.inr (fun i9 => some (rw i9))))))), (rw 0, .inl (cI, 4, .inl (M 0))), (rw 1, .inl (cI, 4, .inl (M 1))), (rw 2, .inl (cI, 4, .inl (M 2))), (rw 3, .inl (cI, 4, .inl (M 3))), (rw 4, .inl (cI, 4, .inl (M 4))), (rw 5, .inl (cI, 4, .inl (M 5))), (ab, .inl (cI, 6, .inl bd)), (aw, .inl (cZ, 4, .inl wh)), (ou, .inl (cL, 1, .inr (.inl ov)))] sz)) 0 0 (va_A [(pl, .inr (6, [.ref a, .ref mi, .ref sr, .ref tr, .ref pf, .ref xb, .ref tl, .int so, .int sl])), (xb, .inr (5, [.ref xl, .ref xm, .int bn0, .long bp, .long bq])), (xl, .inl (cI, 4, .inl bl)), (xm, .inl (cI, 4, .inl bm)), (a, .inr (0, [.int (nI n), .int (nI k), .ref al, .ref am, .ref aw, .ref ac, .ref ag, .ref ab])), (al, .inl (cI, 4, .inl lo)), (am, .inl (cI, 4, .inl hi)), (sr, .inr (2, [.int fo, .ref sb, .int dv, .int cs, .int lz, .ref sq, .ref sx, .ref sy])), (pf, .inr (4, [.int e0, .ref pn, .ref pr])), (pn, .inl (cI, 7, .inl num)), (pr, .inl (cL, 2772, .inr (.inl R))), (mi, .inr (1, [.ref mv])), (mv, .inl (cI, 2048, .inl vals)), (ac, .inl (cI, 4, .inl co)), (ag, .inl (cQ, 6, .inr (.inr (.inr (.inr (fun i9 => some (rw i9))))))), (rw 0, .inl (cI, 4, .inl (M 0))), (rw 1, .inl (cI, 4, .inl (M 1))), (rw 2, .inl (cI, 4, .inl (M 2))), (rw 3, .inl (cI, 4, .inl (M 3))), (rw 4, .inl (cI, 4, .inl (M 4))), (rw 5, .inl (cI, 4, .inl (M 5))), (ab, .inl (cI, 6, .inl bd)), (aw, .inl (cZ, 4, .inl wh)), (ou, .inl (cL, 1, .inr (.inl ov)))] sz) := by
  refine mx_MetW (cc := bb_Law_prove) (maxL := 3) (ret := (some .int)) (by decide) rfl ?_
  intro p e s m args below meth c s₁ B hml htab hv
  obtain ⟨rfl, hsz, hP, hK, hD0⟩ := hv
  have hx := B.exec
  have hb := B.bytes
  have hr := B.returns
  have hts := atoms_spec (ws := ww_Law_prove) B.pre
  have hown : s.vm.findClass RR_Law = some m.cls := findClass_of_methodNamed B.named
  have hlocks := B.notSynchronized
  subst hsz
  have hD := hD0.self (sz := s.heap.size)
  generalize hAe : va_A [(pl, .inr (6, [.ref a, .ref mi, .ref sr, .ref tr, .ref pf, .ref xb, .ref tl, .int so, .int sl])), (xb, .inr (5, [.ref xl, .ref xm, .int bn0, .long bp, .long bq])), (xl, .inl (cI, 4, .inl bl)), (xm, .inl (cI, 4, .inl bm)), (a, .inr (0, [.int (nI n), .int (nI k), .ref al, .ref am, .ref aw, .ref ac, .ref ag, .ref ab])), (al, .inl (cI, 4, .inl lo)), (am, .inl (cI, 4, .inl hi)), (sr, .inr (2, [.int fo, .ref sb, .int dv, .int cs, .int lz, .ref sq, .ref sx, .ref sy])), (pf, .inr (4, [.int e0, .ref pn, .ref pr])), (pn, .inl (cI, 7, .inl num)), (pr, .inl (cL, 2772, .inr (.inl R))), (mi, .inr (1, [.ref mv])), (mv, .inl (cI, 2048, .inl vals)), (ac, .inl (cI, 4, .inl co)), (ag, .inl (cQ, 6, .inr (.inr (.inr (.inr (fun i9 => some (rw i9))))))), (rw 0, .inl (cI, 4, .inl (M 0))), (rw 1, .inl (cI, 4, .inl (M 1))), (rw 2, .inl (cI, 4, .inl (M 2))), (rw 3, .inl (cI, 4, .inl (M 3))), (rw 4, .inl (cI, 4, .inl (M 4))), (rw 5, .inl (cI, 4, .inl (M 5))), (ab, .inl (cI, 6, .inl bd)), (aw, .inl (cZ, 4, .inl wh)), (ou, .inl (cL, 1, .inr (.inl ov)))] s.heap.size = A at hD ⊢
  have hA : ∀ q : Nat, s.heap.size ≤ q → A q := fun q h => by rw [← hAe]; exact Or.inr h
  have hS : va_S A s.heap s.heap [] := va_S.rf
  have hP : va_P D kc_all [(pl, .inr (6, [.ref a, .ref mi, .ref sr, .ref tr, .ref pf, .ref xb, .ref tl, .int so, .int sl])), (xb, .inr (5, [.ref xl, .ref xm, .int bn0, .long bp, .long bq])), (xl, .inl (cI, 4, .inl bl)), (xm, .inl (cI, 4, .inl bm)), (a, .inr (0, [.int (nI n), .int (nI k), .ref al, .ref am, .ref aw, .ref ac, .ref ag, .ref ab])), (al, .inl (cI, 4, .inl lo)), (am, .inl (cI, 4, .inl hi)), (sr, .inr (2, [.int fo, .ref sb, .int dv, .int cs, .int lz, .ref sq, .ref sx, .ref sy])), (pf, .inr (4, [.int e0, .ref pn, .ref pr])), (pn, .inl (cI, 7, .inl num)), (pr, .inl (cL, 2772, .inr (.inl R))), (mi, .inr (1, [.ref mv])), (mv, .inl (cI, 2048, .inl vals)), (ac, .inl (cI, 4, .inl co)), (ag, .inl (cQ, 6, .inr (.inr (.inr (.inr (fun i9 => some (rw i9))))))), (rw 0, .inl (cI, 4, .inl (M 0))), (rw 1, .inl (cI, 4, .inl (M 1))), (rw 2, .inl (cI, 4, .inl (M 2))), (rw 3, .inl (cI, 4, .inl (M 3))), (rw 4, .inl (cI, 4, .inl (M 4))), (rw 5, .inl (cI, 4, .inl (M 5))), (ab, .inl (cI, 6, .inl bd)), (aw, .inl (cZ, 4, .inl wh)), (ou, .inl (cL, 1, .inr (.inl ov)))] s.heap := hP
  have hl := lv_entry ([.ref pl, .ref ou]) (n := 3) (Nat.le_of_ble_eq_true rfl)
  rw [lg_entry_eq]
  generalize (lg_sl ([.ref pl, .ref ou]) ++ List.replicate (3 - (lg_sl ([.ref pl, .ref ou])).length) Slot.unset).toArray = ls at hl ⊢
  have hl : lv_has ls 3 [(0, .ref pl), (1, .ref ou)] := hl
  have htb : ∀ w ∈ tb_all, w.before ([.ref pl, .ref ou]).toArray s = true := fun w h => hts w (List.mem_cons_of_mem _ h)
  refine lv_aload_n hx hb dd_Law_prove_0 rfl (lv_at hl 1 rfl) ?_
  refine lv_iconst (v := 0) hx hb dd_Law_prove_1 (by decide) ?_
  refine lv_aload_n hx hb dd_Law_prove_2 rfl (lv_at hl 0 rfl) ?_
  refine mm_i (wc := [(pl, .inr (6, [.ref a, .ref mi, .ref sr, .ref tr, .ref pf, .ref xb, .ref tl, .int so, .int sl])), (xb, .inr (5, [.ref xl, .ref xm, .int bn0, .long bp, .long bq])), (xl, .inl (cI, 4, .inl bl)), (xm, .inl (cI, 4, .inl bm)), (a, .inr (0, [.int (nI n), .int (nI k), .ref al, .ref am, .ref aw, .ref ac, .ref ag, .ref ab])), (al, .inl (cI, 4, .inl lo)), (am, .inl (cI, 4, .inl hi)), (sr, .inr (2, [.int fo, .ref sb, .int dv, .int cs, .int lz, .ref sq, .ref sx, .ref sy])), (pf, .inr (4, [.int e0, .ref pn, .ref pr])), (pn, .inl (cI, 7, .inl num)), (pr, .inl (cL, 2772, .inr (.inl R))), (mi, .inr (1, [.ref mv])), (mv, .inl (cI, 2048, .inl vals)), (ac, .inl (cI, 4, .inl co)), (ag, .inl (cQ, 6, .inr (.inr (.inr (.inr (fun i9 => some (rw i9))))))), (rw 0, .inl (cI, 4, .inl (M 0))), (rw 1, .inl (cI, 4, .inl (M 1))), (rw 2, .inl (cI, 4, .inl (M 2))), (rw 3, .inl (cI, 4, .inl (M 3))), (rw 4, .inl (cI, 4, .inl (M 4))), (rw 5, .inl (cI, 4, .inl (M 5))), (ab, .inl (cI, 6, .inl bd)), (aw, .inl (cZ, 4, .inl wh))]) (wr := [(ou, .inl (cL, 1, .inr (.inl ov)))]) (va_runV (As := []) (rest := [.int (0 : Int32), .ref ou]) (C := RR_Planner) ⟨hx, hb, hml, hown, hts⟩ (cc_Planner_prove l D cI cZ cL cQ _ pl tl a mi sr tr pf xb so sl xl xm al am aw ac ag ab n k sb sq sx sy fo dv cs lz pn pr mv bn0 e0 bp bq R num vals lo hi co rw M bd wh bl bm (hn) (hk) (hok)) (mm_cwV 0 hts ml_Law_61 im_Planner_prove se_Planner_prove ic_Planner cd_Planner_prove rfl rfl (by decide +kernel) ⟨Nat.le_of_ble_eq_true rfl, Nat.le_of_ble_eq_true rfl⟩) (mm_preV hK hP hD [0, 1, 2, 3, 4, 5, 6, 7, 8, 9, 10, 11, 12, 13, 14, 15, 16, 17, 18, 19, 20, 21, 22] (by decide) rfl 0 rfl rfl) rfl rfl hl.1 rfl (lv_room (Nat.le_of_ble_eq_true rfl)) dd_Law_prove_3 ⟨Nat.zero_le _, Nat.zero_le _⟩) hP hD hS hA [0, 1, 2, 3, 4, 5, 6, 7, 8, 9, 10, 11, 12, 13, 14, 15, 16, 17, 18, 19, 20, 21, 22] [23] rfl rfl (by decide) (by decide) (fun zr1 zu2 H locs p3 hP hD hS => ?_)
  have hP : va_P D kc_all [(ou, .inl (cL, 1, .inr (.inl ov))), (pl, .inr (6, [.ref a, .ref mi, .ref sr, .ref tr, .ref pf, .ref xb, .ref tl, .int so, .int sl])), (xb, .inr (5, [.ref xl, .ref xm, .int (nI n), .long cs.toInt64, .long dv.toInt64])), (xl, .inl (cI, 4, .inl zu2.1)), (xm, .inl (cI, 4, .inl zu2.2.1)), (a, .inr (0, [.int (nI n), .int (nI k), .ref al, .ref am, .ref aw, .ref ac, .ref ag, .ref ab])), (al, .inl (cI, 4, .inl lo)), (am, .inl (cI, 4, .inl hi)), (sr, .inr (2, [.int fo, .ref sb, .int dv, .int cs, .int lz, .ref sq, .ref sx, .ref sy])), (pf, .inr (4, [.int (nI zu2.2.2.1), .ref pn, .ref pr])), (pn, .inl (cI, 7, .inl zu2.2.2.2.2)), (pr, .inl (cL, 2772, .inr (.inl zu2.2.2.2.1))), (mi, .inr (1, [.ref mv])), (mv, .inl (cI, 2048, .inl vals)), (ac, .inl (cI, 4, .inl co)), (ag, .inl (cQ, 6, .inr (.inr (.inr (.inr (fun i9 => some (rw i9))))))), (rw 0, .inl (cI, 4, .inl (M 0))), (rw 1, .inl (cI, 4, .inl (M 1))), (rw 2, .inl (cI, 4, .inl (M 2))), (rw 3, .inl (cI, 4, .inl (M 3))), (rw 4, .inl (cI, 4, .inl (M 4))), (rw 5, .inl (cI, 4, .inl (M 5))), (ab, .inl (cI, 6, .inl bd)), (aw, .inl (cZ, 4, .inl wh))] H := hP
  have hD : va_D A [(ou, .inl (cL, 1, .inr (.inl ov))), (pl, .inr (6, [.ref a, .ref mi, .ref sr, .ref tr, .ref pf, .ref xb, .ref tl, .int so, .int sl])), (xb, .inr (5, [.ref xl, .ref xm, .int (nI n), .long cs.toInt64, .long dv.toInt64])), (xl, .inl (cI, 4, .inl zu2.1)), (xm, .inl (cI, 4, .inl zu2.2.1)), (a, .inr (0, [.int (nI n), .int (nI k), .ref al, .ref am, .ref aw, .ref ac, .ref ag, .ref ab])), (al, .inl (cI, 4, .inl lo)), (am, .inl (cI, 4, .inl hi)), (sr, .inr (2, [.int fo, .ref sb, .int dv, .int cs, .int lz, .ref sq, .ref sx, .ref sy])), (pf, .inr (4, [.int (nI zu2.2.2.1), .ref pn, .ref pr])), (pn, .inl (cI, 7, .inl zu2.2.2.2.2)), (pr, .inl (cL, 2772, .inr (.inl zu2.2.2.2.1))), (mi, .inr (1, [.ref mv])), (mv, .inl (cI, 2048, .inl vals)), (ac, .inl (cI, 4, .inl co)), (ag, .inl (cQ, 6, .inr (.inr (.inr (.inr (fun i9 => some (rw i9))))))), (rw 0, .inl (cI, 4, .inl (M 0))), (rw 1, .inl (cI, 4, .inl (M 1))), (rw 2, .inl (cI, 4, .inl (M 2))), (rw 3, .inl (cI, 4, .inl (M 3))), (rw 4, .inl (cI, 4, .inl (M 4))), (rw 5, .inl (cI, 4, .inl (M 5))), (ab, .inl (cI, 6, .inl bd)), (aw, .inl (cZ, 4, .inl wh))] := hD
  have hP : va_P D kc_all [(pl, .inr (6, [.ref a, .ref mi, .ref sr, .ref tr, .ref pf, .ref xb, .ref tl, .int so, .int sl])), (xb, .inr (5, [.ref xl, .ref xm, .int (nI n), .long cs.toInt64, .long dv.toInt64])), (xl, .inl (cI, 4, .inl zu2.1)), (xm, .inl (cI, 4, .inl zu2.2.1)), (a, .inr (0, [.int (nI n), .int (nI k), .ref al, .ref am, .ref aw, .ref ac, .ref ag, .ref ab])), (al, .inl (cI, 4, .inl lo)), (am, .inl (cI, 4, .inl hi)), (sr, .inr (2, [.int fo, .ref sb, .int dv, .int cs, .int lz, .ref sq, .ref sx, .ref sy])), (pf, .inr (4, [.int (nI zu2.2.2.1), .ref pn, .ref pr])), (pn, .inl (cI, 7, .inl zu2.2.2.2.2)), (pr, .inl (cL, 2772, .inr (.inl zu2.2.2.2.1))), (mi, .inr (1, [.ref mv])), (mv, .inl (cI, 2048, .inl vals)), (ac, .inl (cI, 4, .inl co)), (ag, .inl (cQ, 6, .inr (.inr (.inr (.inr (fun i9 => some (rw i9))))))), (rw 0, .inl (cI, 4, .inl (M 0))), (rw 1, .inl (cI, 4, .inl (M 1))), (rw 2, .inl (cI, 4, .inl (M 2))), (rw 3, .inl (cI, 4, .inl (M 3))), (rw 4, .inl (cI, 4, .inl (M 4))), (rw 5, .inl (cI, 4, .inl (M 5))), (ab, .inl (cI, 6, .inl bd)), (aw, .inl (cZ, 4, .inl wh)), (ou, .inl (cL, 1, .inr (.inl ov)))] H := hP.sub [1, 2, 3, 4, 5, 6, 7, 8, 9, 10, 11, 12, 13, 14, 15, 16, 17, 18, 19, 20, 21, 22, 23, 0] rfl
  have hD : va_D A [(pl, .inr (6, [.ref a, .ref mi, .ref sr, .ref tr, .ref pf, .ref xb, .ref tl, .int so, .int sl])), (xb, .inr (5, [.ref xl, .ref xm, .int (nI n), .long cs.toInt64, .long dv.toInt64])), (xl, .inl (cI, 4, .inl zu2.1)), (xm, .inl (cI, 4, .inl zu2.2.1)), (a, .inr (0, [.int (nI n), .int (nI k), .ref al, .ref am, .ref aw, .ref ac, .ref ag, .ref ab])), (al, .inl (cI, 4, .inl lo)), (am, .inl (cI, 4, .inl hi)), (sr, .inr (2, [.int fo, .ref sb, .int dv, .int cs, .int lz, .ref sq, .ref sx, .ref sy])), (pf, .inr (4, [.int (nI zu2.2.2.1), .ref pn, .ref pr])), (pn, .inl (cI, 7, .inl zu2.2.2.2.2)), (pr, .inl (cL, 2772, .inr (.inl zu2.2.2.2.1))), (mi, .inr (1, [.ref mv])), (mv, .inl (cI, 2048, .inl vals)), (ac, .inl (cI, 4, .inl co)), (ag, .inl (cQ, 6, .inr (.inr (.inr (.inr (fun i9 => some (rw i9))))))), (rw 0, .inl (cI, 4, .inl (M 0))), (rw 1, .inl (cI, 4, .inl (M 1))), (rw 2, .inl (cI, 4, .inl (M 2))), (rw 3, .inl (cI, 4, .inl (M 3))), (rw 4, .inl (cI, 4, .inl (M 4))), (rw 5, .inl (cI, 4, .inl (M 5))), (ab, .inl (cI, 6, .inl bd)), (aw, .inl (cZ, 4, .inl wh)), (ou, .inl (cL, 1, .inr (.inl ov)))] := hD.sub [1, 2, 3, 4, 5, 6, 7, 8, 9, 10, 11, 12, 13, 14, 15, 16, 17, 18, 19, 20, 21, 22, 23, 0] (by decide) rfl
  have p3 : (cp_ok zu2.1 lo 4 ∧ cp_ok zu2.2.1 hi 4) ∧ zu2.2.2 = fl_g (gr_f vals co M bd k (th_f fo k)) (2 ^ n) (0, R, num) ∧ tl_ok (ps_ok (he_ok zu2.2.2.2.1 zu2.2.2.1 n cs.toInt64 dv.toInt64) (fun x8 y8 => (wi_f wh x8 y8 n).1) n 33 zu2.1 zu2.2.1) zr1 := p3
  refine lv_if_eq (tgt := 13) hx hb dd_Law_prove_6 (by decide) (fun h6 => ?_) (fun h6 => ?_)
  · skip
    have hov := tL_0 (ov := ov) p3.2.2 h6
    refine lv_lconst (v := 0) hx hb dd_Law_prove_13 (by decide) ?_
    refine mm_last hx hb hK hP hD hS 23 2 rfl rfl (0) (rfl) (by omega) (by first | decide | omega) dd_Law_prove_14 (fun H locs hP hD hS => ?_)
    have hP : va_P D kc_all [(pl, .inr (6, [.ref a, .ref mi, .ref sr, .ref tr, .ref pf, .ref xb, .ref tl, .int so, .int sl])), (xb, .inr (5, [.ref xl, .ref xm, .int (nI n), .long cs.toInt64, .long dv.toInt64])), (xl, .inl (cI, 4, .inl zu2.1)), (xm, .inl (cI, 4, .inl zu2.2.1)), (a, .inr (0, [.int (nI n), .int (nI k), .ref al, .ref am, .ref aw, .ref ac, .ref ag, .ref ab])), (al, .inl (cI, 4, .inl lo)), (am, .inl (cI, 4, .inl hi)), (sr, .inr (2, [.int fo, .ref sb, .int dv, .int cs, .int lz, .ref sq, .ref sx, .ref sy])), (pf, .inr (4, [.int (nI zu2.2.2.1), .ref pn, .ref pr])), (pn, .inl (cI, 7, .inl zu2.2.2.2.2)), (pr, .inl (cL, 2772, .inr (.inl zu2.2.2.2.1))), (mi, .inr (1, [.ref mv])), (mv, .inl (cI, 2048, .inl vals)), (ac, .inl (cI, 4, .inl co)), (ag, .inl (cQ, 6, .inr (.inr (.inr (.inr (fun i9 => some (rw i9))))))), (rw 0, .inl (cI, 4, .inl (M 0))), (rw 1, .inl (cI, 4, .inl (M 1))), (rw 2, .inl (cI, 4, .inl (M 2))), (rw 3, .inl (cI, 4, .inl (M 3))), (rw 4, .inl (cI, 4, .inl (M 4))), (rw 5, .inl (cI, 4, .inl (M 5))), (ab, .inl (cI, 6, .inl bd)), (aw, .inl (cZ, 4, .inl wh)), (ou, .inl (cL, 1, .inr (.inl (vp_updL ov 0 (0 : Int64)))))] H := hP
    have hD : va_D A [(pl, .inr (6, [.ref a, .ref mi, .ref sr, .ref tr, .ref pf, .ref xb, .ref tl, .int so, .int sl])), (xb, .inr (5, [.ref xl, .ref xm, .int (nI n), .long cs.toInt64, .long dv.toInt64])), (xl, .inl (cI, 4, .inl zu2.1)), (xm, .inl (cI, 4, .inl zu2.2.1)), (a, .inr (0, [.int (nI n), .int (nI k), .ref al, .ref am, .ref aw, .ref ac, .ref ag, .ref ab])), (al, .inl (cI, 4, .inl lo)), (am, .inl (cI, 4, .inl hi)), (sr, .inr (2, [.int fo, .ref sb, .int dv, .int cs, .int lz, .ref sq, .ref sx, .ref sy])), (pf, .inr (4, [.int (nI zu2.2.2.1), .ref pn, .ref pr])), (pn, .inl (cI, 7, .inl zu2.2.2.2.2)), (pr, .inl (cL, 2772, .inr (.inl zu2.2.2.2.1))), (mi, .inr (1, [.ref mv])), (mv, .inl (cI, 2048, .inl vals)), (ac, .inl (cI, 4, .inl co)), (ag, .inl (cQ, 6, .inr (.inr (.inr (.inr (fun i9 => some (rw i9))))))), (rw 0, .inl (cI, 4, .inl (M 0))), (rw 1, .inl (cI, 4, .inl (M 1))), (rw 2, .inl (cI, 4, .inl (M 2))), (rw 3, .inl (cI, 4, .inl (M 3))), (rw 4, .inl (cI, 4, .inl (M 4))), (rw 5, .inl (cI, 4, .inl (M 5))), (ab, .inl (cI, 6, .inl bd)), (aw, .inl (cZ, 4, .inl wh)), (ou, .inl (cL, 1, .inr (.inl (vp_updL ov 0 (0 : Int64)))))] := hD
    refine lv_goto (tgt := 21) hx hb dd_Law_prove_15 (by decide) ?_
    refine lv_iconst (v := 0) hx hb dd_Law_prove_21 (by decide) ?_
    exact W.iret (v := (0 : Int32)) hx hb hr (fun t ht hW => ⟨⟨(0 : Int32), (zu2.1, zu2.2.1, zu2.2.2, vp_updL ov 0 (0 : Int64)), rfl, ⟨rfl, p3.1, p3.2.1, hov⟩, by rw [ht]; exact hP, va_K.moved hW.alike hK, hD⟩, hS.F ht⟩) hS.2.2 dd_Law_prove_22
  · skip
    have hov := tL_1 (ov := ov) p3.2.2 h6
    refine lv_lconst (v := 1) hx hb dd_Law_prove_9 (by decide) ?_
    refine lv_goto (tgt := 14) hx hb dd_Law_prove_10 (by decide) ?_
    refine mm_last hx hb hK hP hD hS 23 2 rfl rfl (0) (rfl) (by omega) (by first | decide | omega) dd_Law_prove_14 (fun H locs hP hD hS => ?_)
    have hP : va_P D kc_all [(pl, .inr (6, [.ref a, .ref mi, .ref sr, .ref tr, .ref pf, .ref xb, .ref tl, .int so, .int sl])), (xb, .inr (5, [.ref xl, .ref xm, .int (nI n), .long cs.toInt64, .long dv.toInt64])), (xl, .inl (cI, 4, .inl zu2.1)), (xm, .inl (cI, 4, .inl zu2.2.1)), (a, .inr (0, [.int (nI n), .int (nI k), .ref al, .ref am, .ref aw, .ref ac, .ref ag, .ref ab])), (al, .inl (cI, 4, .inl lo)), (am, .inl (cI, 4, .inl hi)), (sr, .inr (2, [.int fo, .ref sb, .int dv, .int cs, .int lz, .ref sq, .ref sx, .ref sy])), (pf, .inr (4, [.int (nI zu2.2.2.1), .ref pn, .ref pr])), (pn, .inl (cI, 7, .inl zu2.2.2.2.2)), (pr, .inl (cL, 2772, .inr (.inl zu2.2.2.2.1))), (mi, .inr (1, [.ref mv])), (mv, .inl (cI, 2048, .inl vals)), (ac, .inl (cI, 4, .inl co)), (ag, .inl (cQ, 6, .inr (.inr (.inr (.inr (fun i9 => some (rw i9))))))), (rw 0, .inl (cI, 4, .inl (M 0))), (rw 1, .inl (cI, 4, .inl (M 1))), (rw 2, .inl (cI, 4, .inl (M 2))), (rw 3, .inl (cI, 4, .inl (M 3))), (rw 4, .inl (cI, 4, .inl (M 4))), (rw 5, .inl (cI, 4, .inl (M 5))), (ab, .inl (cI, 6, .inl bd)), (aw, .inl (cZ, 4, .inl wh)), (ou, .inl (cL, 1, .inr (.inl (vp_updL ov 0 (1 : Int64)))))] H := hP
    have hD : va_D A [(pl, .inr (6, [.ref a, .ref mi, .ref sr, .ref tr, .ref pf, .ref xb, .ref tl, .int so, .int sl])), (xb, .inr (5, [.ref xl, .ref xm, .int (nI n), .long cs.toInt64, .long dv.toInt64])), (xl, .inl (cI, 4, .inl zu2.1)), (xm, .inl (cI, 4, .inl zu2.2.1)), (a, .inr (0, [.int (nI n), .int (nI k), .ref al, .ref am, .ref aw, .ref ac, .ref ag, .ref ab])), (al, .inl (cI, 4, .inl lo)), (am, .inl (cI, 4, .inl hi)), (sr, .inr (2, [.int fo, .ref sb, .int dv, .int cs, .int lz, .ref sq, .ref sx, .ref sy])), (pf, .inr (4, [.int (nI zu2.2.2.1), .ref pn, .ref pr])), (pn, .inl (cI, 7, .inl zu2.2.2.2.2)), (pr, .inl (cL, 2772, .inr (.inl zu2.2.2.2.1))), (mi, .inr (1, [.ref mv])), (mv, .inl (cI, 2048, .inl vals)), (ac, .inl (cI, 4, .inl co)), (ag, .inl (cQ, 6, .inr (.inr (.inr (.inr (fun i9 => some (rw i9))))))), (rw 0, .inl (cI, 4, .inl (M 0))), (rw 1, .inl (cI, 4, .inl (M 1))), (rw 2, .inl (cI, 4, .inl (M 2))), (rw 3, .inl (cI, 4, .inl (M 3))), (rw 4, .inl (cI, 4, .inl (M 4))), (rw 5, .inl (cI, 4, .inl (M 5))), (ab, .inl (cI, 6, .inl bd)), (aw, .inl (cZ, 4, .inl wh)), (ou, .inl (cL, 1, .inr (.inl (vp_updL ov 0 (1 : Int64)))))] := hD
    refine lv_goto (tgt := 21) hx hb dd_Law_prove_15 (by decide) ?_
    refine lv_iconst (v := 0) hx hb dd_Law_prove_21 (by decide) ?_
    exact W.iret (v := (0 : Int32)) hx hb hr (fun t ht hW => ⟨⟨(0 : Int32), (zu2.1, zu2.2.1, zu2.2.2, vp_updL ov 0 (1 : Int64)), rfl, ⟨rfl, p3.1, p3.2.1, hov⟩, by rw [ht]; exact hP, va_K.moved hW.alike hK, hD⟩, hS.F ht⟩) hS.2.2 dd_Law_prove_22
abbrev qq_Law_proveX (D : va_G) (cI cZ cL cQ : ClassId) (pl : Nat) (tl : Nat) (a : Nat) (mi : Nat) (sr : Nat) (tr : Nat) (pf : Nat) (xb : Nat) (so : Int32) (sl : Int32) (ou : Nat) (ov : Nat → Int64) (A : Nat → Prop) : Array Value → State → Outcome → State → Prop := va_Qi (fun (r : Int32) (u : Unit) => r = 1) (fun (u : Unit) t => mm_B D kc_all [(cI, .int), (cZ, .boolean), (cL, .long), (cQ, .array .int)] A [(pl, .inr (6, [.ref a, .ref mi, .ref sr, .ref tr, .ref pf, .ref xb, .ref tl, .int so, .int sl])), (ou, .inl (cL, 1, .inr (.inl ov)))] t) A
set_option maxHeartbeats 4000000 in
set_option maxRecDepth 100000 in
theorem cc_Law_proveX (l : Launch) (hnt : l.stackTraces = false) (D : va_G) (cI cZ cL cQ : ClassId) (sz : Nat) (pl : Nat) (tl : Nat) (a : Nat) (mi : Nat) (sr : Nat) (tr : Nat) (pf : Nat) (xb : Nat) (so : Int32) (sl : Int32) (ou : Nat) (ov : Nat → Int64) (hno : ¬ (¬ so = 0 ∧ sl = 0)) : Met l yy_Law_prove ww_Law_prove ({ frames := 38, cells := 1, slots := 6, locals := 1079 } : Room) (mx_Pc D kc_all [(cI, .int), (cZ, .boolean), (cL, .long), (cQ, .array .int)] sz [(pl, .inr (6, [.ref a, .ref mi, .ref sr, .ref tr, .ref pf, .ref xb, .ref tl, .int so, .int sl])), (ou, .inl (cL, 1, .inr (.inl ov)))] [.ref pl, .ref ou]) (qq_Law_proveX D cI cZ cL cQ pl tl a mi sr tr pf xb so sl ou ov (va_A [(pl, .inr (6, [.ref a, .ref mi, .ref sr, .ref tr, .ref pf, .ref xb, .ref tl, .int so, .int sl])), (ou, .inl (cL, 1, .inr (.inl ov)))] sz)) 1 6 (va_A [(pl, .inr (6, [.ref a, .ref mi, .ref sr, .ref tr, .ref pf, .ref xb, .ref tl, .int so, .int sl])), (ou, .inl (cL, 1, .inr (.inl ov)))] sz) := by
  refine mx_MetW (cc := bb_Law_prove) (maxL := 3) (ret := (some .int)) (by decide) rfl ?_
  intro p e s m args below meth c s₁ B hml htab hv
  obtain ⟨rfl, hsz, hP, hK, hD0, hTr⟩ := hv
  have hx := B.exec
  have hb := B.bytes
  have hr := B.returns
  have hts := atoms_spec (ws := ww_Law_prove) B.pre
  have hown : s.vm.findClass RR_Law = some m.cls := findClass_of_methodNamed B.named
  have hlocks := B.notSynchronized
  subst hsz
  have hD := hD0.self (sz := s.heap.size)
  generalize hAe : va_A [(pl, .inr (6, [.ref a, .ref mi, .ref sr, .ref tr, .ref pf, .ref xb, .ref tl, .int so, .int sl])), (ou, .inl (cL, 1, .inr (.inl ov)))] s.heap.size = A at hD ⊢
  have hA : ∀ q : Nat, s.heap.size ≤ q → A q := fun q h => by rw [← hAe]; exact Or.inr h
  have hS : va_S A s.heap s.heap [] := va_S.rf
  have hS0 : va_S (mx_A s.heap.size) s.heap s.heap [] := va_S.rf
  have hP : va_P D kc_all [(pl, .inr (6, [.ref a, .ref mi, .ref sr, .ref tr, .ref pf, .ref xb, .ref tl, .int so, .int sl])), (ou, .inl (cL, 1, .inr (.inl ov)))] s.heap := hP
  have hl := lv_entry ([.ref pl, .ref ou]) (n := 3) (Nat.le_of_ble_eq_true rfl)
  rw [lg_entry_eq]
  generalize (lg_sl ([.ref pl, .ref ou]) ++ List.replicate (3 - (lg_sl ([.ref pl, .ref ou])).length) Slot.unset).toArray = ls at hl ⊢
  have hl : lv_has ls 3 [(0, .ref pl), (1, .ref ou)] := hl
  have htb : ∀ w ∈ tb_all, w.before ([.ref pl, .ref ou]).toArray s = true := fun w h => hts w (List.mem_cons_of_mem _ h)
  refine lv_aload_n hx hb dd_Law_prove_0 rfl (lv_at hl 1 rfl) ?_
  refine lv_iconst (v := 0) hx hb dd_Law_prove_1 (by decide) ?_
  refine lv_aload_n hx hb dd_Law_prove_2 rfl (lv_at hl 0 rfl) ?_
  refine mx_cat htab [] (0, 15, 18, 29) [] rfl (mx_runV (As := []) (rest := [.int (0 : Int32), .ref ou]) (C := RR_Planner) ⟨hx, hb, hml, hown, hts⟩ (cc_Planner_proveX l hnt D cI cZ cL cQ _ pl tl a mi sr tr pf xb so sl (hno)) (mm_cwV 0 hts ml_Law_61 im_Planner_prove se_Planner_prove ic_Planner cd_Planner_prove rfl rfl (by decide +kernel) ⟨Nat.le_of_ble_eq_true rfl, Nat.le_of_ble_eq_true rfl⟩) (mx_preV hTr hS0 hK hP hD [0] (by decide) rfl 0 rfl rfl) rfl rfl hl.1 rfl (lv_room (Nat.le_of_ble_eq_true rfl)) dd_Law_prove_3 ⟨Nat.le_of_ble_eq_true rfl, Nat.le_of_ble_eq_true rfl⟩) hS hA hP hown (E := "java/lang/IllegalStateException") (fun _ h => h) (fun _ h => absurd h List.not_mem_nil) ⟨⟨by decide, by decide⟩, by decide⟩ (htb _ kl_Law_29) (ca_C hTr) (fun zx3 H locs hP hS => ?_)
  refine lv_astore_n (lv' := [(2, .ref zx3), (0, .ref pl), (1, .ref ou)]) hx hb dd_Law_prove_18 rfl hl (by decide) rfl (fun ls hl => ?_)
  refine lv_iconst (v := 1) hx hb dd_Law_prove_19 (by decide) ?_
  exact W.iret (v := (1 : Int32)) hx hb hr (fun t ht hW => ⟨⟨(1 : Int32), (), rfl, rfl, by rw [ht]; exact hP, va_K.moved hW.alike hK, hD⟩, hS.F ht⟩) hS.2.2 dd_Law_prove_20
