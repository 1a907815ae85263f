abbrev qq_Planner_isWithin (D : va_G) (cI cZ cL cQ : ClassId) (x : Int32) (y : Int32) (A : Nat → Prop) : Array Value → State → Outcome → State → Prop := va_Qi (fun (r : Int32) (u : Unit) => tl_ok (iw_ok x y) r) (fun (u : Unit) t => mm_B D kc_all [(cI, .int), (cZ, .boolean), (cL, .long), (cQ, .array .int)] A [] t) A
set_option maxHeartbeats 4000000 in
set_option maxRecDepth 100000 in
theorem cc_Planner_isWithin (l : Launch) (D : va_G) (cI cZ cL cQ : ClassId) (sz : Nat) (x : Int32) (y : Int32)  : Met l yy_Planner_isWithin ww_Planner_isWithin ({ frames := 0, cells := 0, slots := 0, locals := 0 } : Room) (mm_Pc D kc_all [(cI, .int), (cZ, .boolean), (cL, .long), (cQ, .array .int)] sz [] [.int x, .int y]) (qq_Planner_isWithin D cI cZ cL cQ x y (va_A [] sz)) 0 0 (va_A [] sz) := by
  refine Met.ofW (cc := bb_Planner_isWithin) (maxL := 2) (ret := (some .boolean)) (by decide) rfl ?_
  intro p e s m args below meth c s₁ B hml hv
  obtain ⟨rfl, hsz, hP, hK, hD0⟩ := hv
  have hx := B.exec
  have hb := B.bytes
  have hr := B.returns
  have hts := atoms_spec (ws := ww_Planner_isWithin) B.pre
  have hown : s.vm.findClass RR_Planner = some m.cls := findClass_of_methodNamed B.named
  have hlocks := B.notSynchronized
  subst hsz
  have hD := hD0.self (sz := s.heap.size)
  generalize hAe : va_A [] s.heap.size = A at hD ⊢
  have hA : ∀ q : Nat, s.heap.size ≤ q → A q := fun q h => by rw [← hAe]; exact Or.inr h
  have hS : va_S A s.heap s.heap [] := va_S.rf
  have hP : va_P D kc_all [] s.heap := hP
  have hl := lv_entry ([.int x, .int y]) (n := 2) (Nat.le_of_ble_eq_true rfl)
  rw [lg_entry_eq]
  generalize (lg_sl ([.int x, .int y]) ++ List.replicate (2 - (lg_sl ([.int x, .int y])).length) Slot.unset).toArray = ls at hl ⊢
  have hl : lv_has ls 2 [(0, .int x), (1, .int y)] := hl
  have htb : ∀ w ∈ tb_all, w.before ([.int x, .int y]).toArray s = true := fun w h => hts w (List.mem_cons_of_mem _ h)
  refine lv_iload_n hx hb dd_Planner_isWithin_0 rfl (lv_at hl 0 rfl) ?_
  refine lv_iload_n hx hb dd_Planner_isWithin_1 rfl (lv_at hl 1 rfl) ?_
  refine lv_ineg hx hb dd_Planner_isWithin_2 ?_
  refine lv_icmp_lt (tgt := 15) hx hb dd_Planner_isWithin_3 (by decide) (fun h3 => ?_) (fun h3 => ?_)
  · skip
    refine lv_iconst (v := 0) hx hb dd_Planner_isWithin_15 (by decide) ?_
    exact W.zret (v := (0 : Int32)) hx hb hr (rfl) (fun t ht hW => ⟨⟨(0 : Int32), (), rfl, by first | exact iw_1 h3 | exact iw_2 h8 | exact iw_3 h3 h8, by rw [ht]; exact hP, va_K.moved hW.alike hK, hD⟩, hS.F ht⟩) hS.2.2 dd_Planner_isWithin_16
  · skip
    refine lv_iload_n hx hb dd_Planner_isWithin_6 rfl (lv_at hl 0 rfl) ?_
    refine lv_iload_n hx hb dd_Planner_isWithin_7 rfl (lv_at hl 1 rfl) ?_
    refine lv_icmp_gt (tgt := 15) hx hb dd_Planner_isWithin_8 (by decide) (fun h8 => ?_) (fun h8 => ?_)
    · skip
      refine lv_iconst (v := 0) hx hb dd_Planner_isWithin_15 (by decide) ?_
      exact W.zret (v := (0 : Int32)) hx hb hr (rfl) (fun t ht hW => ⟨⟨(0 : Int32), (), rfl, by first | exact iw_1 h3 | exact iw_2 h8 | exact iw_3 h3 h8, by rw [ht]; exact hP, va_K.moved hW.alike hK, hD⟩, hS.F ht⟩) hS.2.2 dd_Planner_isWithin_16
    · skip
      refine lv_iconst (v := 1) hx hb dd_Planner_isWithin_11 (by decide) ?_
      refine lv_goto (tgt := 16) hx hb dd_Planner_isWithin_12 (by decide) ?_
      exact W.zret (v := (1 : Int32)) hx hb hr (rfl) (fun t ht hW => ⟨⟨(1 : Int32), (), rfl, by first | exact iw_1 h3 | exact iw_2 h8 | exact iw_3 h3 h8, by rw [ht]; exact hP, va_K.moved hW.alike hK, hD⟩, hS.F ht⟩) hS.2.2 dd_Planner_isWithin_16
abbrev qq_Planner_isMultiplier (D : va_G) (cI cZ cL cQ : ClassId) (x : Int32) (A : Nat → Prop) : Array Value → State → Outcome → State → Prop := va_Qi (fun (r : Int32) (u : Unit) => tl_ok (im_ok x) r) (fun (u : Unit) t => mm_B D kc_all [(cI, .int), (cZ, .boolean), (cL, .long), (cQ, .array .int)] A [] t) A
set_option maxHeartbeats 4000000 in
set_option maxRecDepth 100000 in
theorem cc_Planner_isMultiplier (l : Launch) (D : va_G) (cI cZ cL cQ : ClassId) (sz : Nat) (x : Int32)  : Met l yy_Planner_isMultiplier ww_Planner_isMultiplier ({ frames := 0, cells := 0, slots := 0, locals := 0 } : Room) (mm_Pc D kc_all [(cI, .int), (cZ, .boolean), (cL, .long), (cQ, .array .int)] sz [] [.int x]) (qq_Planner_isMultiplier D cI cZ cL cQ x (va_A [] sz)) 0 0 (va_A [] sz) := by
  refine Met.ofW (cc := bb_Planner_isMultiplier) (maxL := 1) (ret := (some .boolean)) (by decide) rfl ?_
  intro p e s m args below meth c s₁ B hml hv
  obtain ⟨rfl, hsz, hP, hK, hD0⟩ := hv
  have hx := B.exec
  have hb := B.bytes
  have hr := B.returns
  have hts := atoms_spec (ws := ww_Planner_isMultiplier) B.pre
  have hown : s.vm.findClass RR_Planner = some m.cls := findClass_of_methodNamed B.named
  have hlocks := B.notSynchronized
  subst hsz
  have hD := hD0.self (sz := s.heap.size)
  generalize hAe : va_A [] s.heap.size = A at hD ⊢
  have hA : ∀ q : Nat, s.heap.size ≤ q → A q := fun q h => by rw [← hAe]; exact Or.inr h
  have hS : va_S A s.heap s.heap [] := va_S.rf
  have hP : va_P D kc_all [] s.heap := hP
  have hl := lv_entry ([.int x]) (n := 1) (Nat.le_of_ble_eq_true rfl)
  rw [lg_entry_eq]
  generalize (lg_sl ([.int x]) ++ List.replicate (1 - (lg_sl ([.int x])).length) Slot.unset).toArray = ls at hl ⊢
  have hl : lv_has ls 1 [(0, .int x)] := hl
  have htb : ∀ w ∈ tb_all, w.before ([.int x]).toArray s = true := fun w h => hts w (List.mem_cons_of_mem _ h)
  refine lv_iload_n hx hb dd_Planner_isMultiplier_0 rfl (lv_at hl 0 rfl) ?_
  refine lv_if_lt (tgt := 14) hx hb dd_Planner_isMultiplier_1 (by decide) (fun h1 => ?_) (fun h1 => ?_)
  · skip
    refine lv_iconst (v := 0) hx hb dd_Planner_isMultiplier_14 (by decide) ?_
    exact W.zret (v := (0 : Int32)) hx hb hr (rfl) (fun t ht hW => ⟨⟨(0 : Int32), (), rfl, by first | exact im_1 h1 | exact im_2 h7 | exact im_3 h1 h7, by rw [ht]; exact hP, va_K.moved hW.alike hK, hD⟩, hS.F ht⟩) hS.2.2 dd_Planner_isMultiplier_15
  · skip
    refine lv_iload_n hx hb dd_Planner_isMultiplier_4 rfl (lv_at hl 0 rfl) ?_
    refine lv_ldc (v := 1000000) hx hb hown (htb _ kn_Planner_199) dd_Planner_isMultiplier_5 ?_
    refine lv_icmp_gt (tgt := 14) hx hb dd_Planner_isMultiplier_7 (by decide) (fun h7 => ?_) (fun h7 => ?_)
    · skip
      refine lv_iconst (v := 0) hx hb dd_Planner_isMultiplier_14 (by decide) ?_
      exact W.zret (v := (0 : Int32)) hx hb hr (rfl) (fun t ht hW => ⟨⟨(0 : Int32), (), rfl, by first | exact im_1 h1 | exact im_2 h7 | exact im_3 h1 h7, by rw [ht]; exact hP, va_K.moved hW.alike hK, hD⟩, hS.F ht⟩) hS.2.2 dd_Planner_isMultiplier_15
    · skip
      refine lv_iconst (v := 1) hx hb dd_Planner_isMultiplier_10 (by decide) ?_
      refine lv_goto (tgt := 15) hx hb dd_Planner_isMultiplier_11 (by decide) ?_
      exact W.zret (v := (1 : Int32)) hx hb hr (rfl) (fun t ht hW => ⟨⟨(1 : Int32), (), rfl, by first | exact im_1 h1 | exact im_2 h7 | exact im_3 h1 h7, by rw [ht]; exact hP, va_K.moved hW.alike hK, hD⟩, hS.F ht⟩) hS.2.2 dd_Planner_isMultiplier_15
abbrev qq_Planner_commonDivisor (D : va_G) (cI cZ cL cQ : ClassId) (x : Int32) (y : Int32) (A : Nat → Prop) : Array Value → State → Outcome → State → Prop := va_Qi (fun (r : Int32) (u : Unit) => r = cd_f 64 x y) (fun (u : Unit) t => mm_B D kc_all [(cI, .int), (cZ, .boolean), (cL, .long), (cQ, .array .int)] A [] t) A
set_option maxHeartbeats 4000000 in
set_option maxRecDepth 100000 in
theorem cc_Planner_commonDivisor (l : Launch) (D : va_G) (cI cZ cL cQ : ClassId) (sz : Nat) (x : Int32) (y : Int32)  : Met l yy_Planner_commonDivisor ww_Planner_commonDivisor ({ frames := 0, cells := 0, slots := 0, locals := 0 } : Room) (mm_Pc D kc_all [(cI, .int), (cZ, .boolean), (cL, .long), (cQ, .array .int)] sz [] [.int x, .int y]) (qq_Planner_commonDivisor D cI cZ cL cQ x y (va_A [] sz)) 0 0 (va_A [] sz) := by
  refine Met.ofW (cc := bb_Planner_commonDivisor) (maxL := 6) (ret := (some .int)) (by decide) rfl ?_
  intro p e s m args below meth c s₁ B hml hv
  obtain ⟨rfl, hsz, hP, hK, hD0⟩ := hv
  have hx := B.exec
  have hb := B.bytes
  have hr := B.returns
  have hts := atoms_spec (ws := ww_Planner_commonDivisor) B.pre
  have hown : s.vm.findClass RR_Planner = some m.cls := findClass_of_methodNamed B.named
  have hlocks := B.notSynchronized
  subst hsz
  have hD := hD0.self (sz := s.heap.size)
  generalize hAe : va_A [] s.heap.size = A at hD ⊢
  have hA : ∀ q : Nat, s.heap.size ≤ q → A q := fun q h => by rw [← hAe]; exact Or.inr h
  have hS : va_S A s.heap s.heap [] := va_S.rf
  have hP : va_P D kc_all [] s.heap := hP
  have hl := lv_entry ([.int x, .int y]) (n := 6) (Nat.le_of_ble_eq_true rfl)
  rw [lg_entry_eq]
  generalize (lg_sl ([.int x, .int y]) ++ List.replicate (6 - (lg_sl ([.int x, .int y])).length) Slot.unset).toArray = ls at hl ⊢
  have hl : lv_has ls 6 [(0, .int x), (1, .int y)] := hl
  have htb : ∀ w ∈ tb_all, w.before ([.int x, .int y]).toArray s = true := fun w h => hts w (List.mem_cons_of_mem _ h)
  refine lv_iload_n hx hb dd_Planner_commonDivisor_0 rfl (lv_at hl 0 rfl) ?_
  refine lv_istore_n (lv' := [(2, .int x), (0, .int x), (1, .int y)]) hx hb dd_Planner_commonDivisor_1 rfl hl (by decide) rfl (fun ls hl => ?_)
  refine lv_iload_n hx hb dd_Planner_commonDivisor_2 rfl (lv_at hl 2 rfl) ?_
  refine lv_istore_n (lv' := [(3, .int y), (2, .int x), (0, .int x), (1, .int y)]) hx hb dd_Planner_commonDivisor_3 rfl hl (by decide) rfl (fun ls hl => ?_)
  refine lv_iconst (v := 0) hx hb dd_Planner_commonDivisor_4 (by decide) ?_
  refine lv_istore (lv' := [(4, .int (0 : Int32)), (3, .int y), (2, .int x), (0, .int x), (1, .int y)]) hx hb dd_Planner_commonDivisor_5 hl (by decide) rfl (fun ls hl => ?_)
  have J7 : ∀ (N : Nat) (t0 : Nat) (x1 : Int32) (y1 : Int32), (64 - t0) < N → ∀ (ht : t0 ≤ 64) (hv : cd_f (64 - t0) x1 y1 = cd_f 64 x y), ∀ (ls : Array Slot) (H : Heap) (locs : List Loc), lv_has ls 6 [(2, .int x1), (3, .int y1), (4, .int (nI t0))] → va_P D kc_all [] H → va_D A [] → va_S A s.heap H locs → W p l e (headSpec ww_Planner_commonDivisor ({ frames := 0, cells := 0, slots := 0, locals := 0 } : Room)).room s m ([.int x, .int y]).toArray below meth c H locs 0 0 (MQ below (qq_Planner_commonDivisor D cI cZ cL cQ x y A) ([.int x, .int y]).toArray s 0 0 A) (F0 m 7 ls []) := by
    intro N
    induction N with
    | zero => intro t0 x1 y1 hN9; exact absurd hN9 (Nat.not_lt_zero _)
    | succ N IH7 =>
      intro t0 x1 y1 hN9 ht hv ls H locs hl hP hD hS
      refine lv_iload hx hb dd_Planner_commonDivisor_7 (lv_at hl 2 rfl) ?_
      refine lv_bipush (v := 64) hx hb dd_Planner_commonDivisor_9 (by decide) ?_
      refine lv_icmp_ge (tgt := 34) hx hb dd_Planner_commonDivisor_11 (by decide) (fun h11 => ?_) (fun h11 => ?_)
      · skip
        have h11 : 64 ≤ t0 := (nI_leI (a := 64) (b := t0) (by omega) (by omega)).mp h11
        refine lv_iload_n hx hb dd_Planner_commonDivisor_34 rfl (lv_at hl 0 rfl) ?_
        exact W.iret (v := x1) hx hb hr (fun t ht hW => ⟨⟨x1, (), rfl, by first | exact cd_e h15 (by rw [show 63 - t0 + 1 = 64 - t0 by omega]; exact hv) | (rw [show 64 - t0 = 0 by omega] at hv; exact hv), by rw [ht]; exact hP, va_K.moved hW.alike hK, hD⟩, hS.F ht⟩) hS.2.2 dd_Planner_commonDivisor_35
      · skip
        have h11 : ¬ (64 ≤ t0) := fun q9 => h11 ((nI_leI (a := 64) (b := t0) (by omega) (by omega)).mpr q9)
        refine lv_iload_n hx hb dd_Planner_commonDivisor_14 rfl (lv_at hl 1 rfl) ?_
        refine lv_if_eq (tgt := 34) hx hb dd_Planner_commonDivisor_15 (by decide) (fun h15 => ?_) (fun h15 => ?_)
        · skip
          refine lv_iload_n hx hb dd_Planner_commonDivisor_34 rfl (lv_at hl 0 rfl) ?_
          exact W.iret (v := x1) hx hb hr (fun t ht hW => ⟨⟨x1, (), rfl, by first | exact cd_e h15 (by rw [show 63 - t0 + 1 = 64 - t0 by omega]; exact hv) | (rw [show 64 - t0 = 0 by omega] at hv; exact hv), by rw [ht]; exact hP, va_K.moved hW.alike hK, hD⟩, hS.F ht⟩) hS.2.2 dd_Planner_commonDivisor_35
        · skip
          refine lv_iload_n hx hb dd_Planner_commonDivisor_18 rfl (lv_at hl 0 rfl) ?_
          refine lv_iload_n hx hb dd_Planner_commonDivisor_19 rfl (lv_at hl 1 rfl) ?_
          refine lv_irem hx hb dd_Planner_commonDivisor_20 (by assumption) ?_
          refine lv_istore (lv' := [(5, .int (x1 - x1 / y1 * y1)), (2, .int x1), (3, .int y1), (4, .int (nI t0))]) hx hb dd_Planner_commonDivisor_21 hl (by decide) rfl (fun ls hl => ?_)
          refine lv_iload_n hx hb dd_Planner_commonDivisor_23 rfl (lv_at hl 2 rfl) ?_
          refine lv_istore_n (lv' := [(2, .int y1), (5, .int (x1 - x1 / y1 * y1)), (3, .int y1), (4, .int (nI t0))]) hx hb dd_Planner_commonDivisor_24 rfl hl (by decide) rfl (fun ls hl => ?_)
          refine lv_iload hx hb dd_Planner_commonDivisor_25 (lv_at hl 1 rfl) ?_
          refine lv_istore_n (lv' := [(3, .int (x1 - x1 / y1 * y1)), (2, .int y1), (5, .int (x1 - x1 / y1 * y1)), (4, .int (nI t0))]) hx hb dd_Planner_commonDivisor_27 rfl hl (by decide) rfl (fun ls hl => ?_)
          refine lv_iinc (k := 3) (v := nI (t0 + 1)) (lv' := [(4, .int (nI (t0 + 1))), (3, .int (x1 - x1 / y1 * y1)), (2, .int y1), (5, .int (x1 - x1 / y1 * y1))]) hx hb dd_Planner_commonDivisor_28 hl rfl (nI_1 _) (by decide) rfl (fun ls hl => ?_)
          refine lv_goto (tgt := 7) hx hb dd_Planner_commonDivisor_31 (by decide) ?_
          exact IH7 (t0 + 1) y1 (x1 - x1 / y1 * y1) (by omega) (by omega) (cd_s h15 (by rw [show 64 - (t0 + 1) + 1 = 64 - t0 by omega]; exact hv)) ls H locs (lv_sub hl [2, 1, 0] rfl) hP hD hS
  exact J7 _ 0 x y (Nat.lt_succ_self _) (by omega) (congrArg (fun z => cd_f z x y) (Nat.sub_zero 64)) ls _ _ (lv_sub hl [2, 1, 0] rfl) hP hD hS
abbrev qq_Planner_part (D : va_G) (cI cZ cL cQ : ClassId) (x : Int32) (y : Int32) (wv : Int32) (A : Nat → Prop) : Array Value → State → Outcome → State → Prop := va_Qi (fun (r : Int32) (u : Unit) => r = pt_f x y wv) (fun (u : Unit) t => mm_B D kc_all [(cI, .int), (cZ, .boolean), (cL, .long), (cQ, .array .int)] A [] t) A
set_option maxHeartbeats 4000000 in
set_option maxRecDepth 100000 in
theorem cc_Planner_part (l : Launch) (D : va_G) (cI cZ cL cQ : ClassId) (sz : Nat) (x : Int32) (y : Int32) (wv : Int32)  : Met l yy_Planner_part ww_Planner_part ({ frames := 1, cells := 0, slots := 0, locals := 25 } : Room) (mm_Pc D kc_all [(cI, .int), (cZ, .boolean), (cL, .long), (cQ, .array .int)] sz [] [.int x, .int y, .int wv]) (qq_Planner_part D cI cZ cL cQ x y wv (va_A [] sz)) 0 0 (va_A [] sz) := by
  refine Met.ofW (cc := bb_Planner_part) (maxL := 4) (ret := (some .int)) (by decide) rfl ?_
  intro p e s m args below meth c s₁ B hml hv
  obtain ⟨rfl, hsz, hP, hK, hD0⟩ := hv
  have hx := B.exec
  have hb := B.bytes
  have hr := B.returns
  have hts := atoms_spec (ws := ww_Planner_part) B.pre
  have hown : s.vm.findClass RR_Planner = some m.cls := findClass_of_methodNamed B.named
  have hlocks := B.notSynchronized
  subst hsz
  have hD := hD0.self (sz := s.heap.size)
  generalize hAe : va_A [] s.heap.size = A at hD ⊢
  have hA : ∀ q : Nat, s.heap.size ≤ q → A q := fun q h => by rw [← hAe]; exact Or.inr h
  have hS : va_S A s.heap s.heap [] := va_S.rf
  have hP : va_P D kc_all [] s.heap := hP
  have hl := lv_entry ([.int x, .int y, .int wv]) (n := 4) (Nat.le_of_ble_eq_true rfl)
  rw [lg_entry_eq]
  generalize (lg_sl ([.int x, .int y, .int wv]) ++ List.replicate (4 - (lg_sl ([.int x, .int y, .int wv])).length) Slot.unset).toArray = ls at hl ⊢
  have hl : lv_has ls 4 [(0, .int x), (1, .int y), (2, .int wv)] := hl
  have htb : ∀ w ∈ tb_all, w.before ([.int x, .int y, .int wv]).toArray s = true := fun w h => hts w (List.mem_cons_of_mem _ h)
  refine lv_iload_n hx hb dd_Planner_part_0 rfl (lv_at hl 0 rfl) ?_
  refine lv_if_ge (tgt := 9) hx hb dd_Planner_part_1 (by decide) (fun h1 => ?_) (fun h1 => ?_)
  · skip
    refine lv_iload_n hx hb dd_Planner_part_9 rfl (lv_at hl 0 rfl) ?_
    refine mm_topi (y := ab_f x) (by first | exact (if_pos h1).symm | exact (if_neg h1).symm) ?_
    refine lv_iload_n hx hb dd_Planner_part_10 rfl (lv_at hl 1 rfl) ?_
    refine mm_i (wc := []) (wr := []) (va_runS (As := [.int (ab_f x), .int y]) (rest := []) ⟨hx, hb, hml, hown, hts⟩ (cc_Planner_commonDivisor l D cI cZ cL cQ _ (ab_f x) y ) (mm_cwS 2 hts ml_Planner_227 sm_Planner_commonDivisor ic_Planner cd_Planner_commonDivisor rfl rfl (by decide +kernel) ⟨Nat.le_of_ble_eq_true rfl, Nat.le_of_ble_eq_true rfl⟩) (mm_preS hK hP hD [] (by decide) rfl) rfl rfl hl.1 rfl (lv_room (Nat.le_of_ble_eq_true rfl)) dd_Planner_part_11 ⟨Nat.zero_le _, Nat.zero_le _⟩) hP hD hS hA [] [] rfl rfl (by decide) (by decide) (fun zr1 zu2 H locs p11 hP hD hS => ?_)
    have hP : va_P D kc_all [] H := hP
    have hD : va_D A [] := hD
    have p11 : zr1 = cd_f 64 (ab_f x) y := p11
    refine lv_istore_n (lv' := [(3, .int zr1), (0, .int x), (1, .int y), (2, .int wv)]) hx hb dd_Planner_part_14 rfl hl (by decide) rfl (fun ls hl => ?_)
    refine lv_iload_n hx hb dd_Planner_part_15 rfl (lv_at hl 0 rfl) ?_
    refine lv_iconst (v := 1) hx hb dd_Planner_part_16 (by decide) ?_
    refine lv_icmp_ge (tgt := 22) hx hb dd_Planner_part_17 (by decide) (fun h17 => ?_) (fun h17 => ?_)
    · skip
      have hcn := pt_ne h17
      refine lv_iload_n hx hb dd_Planner_part_22 rfl (lv_at hl 3 rfl) ?_
      refine lv_if_ne (tgt := 30) hx hb dd_Planner_part_23 (by decide) (fun h23 => ?_) (fun h23 => ?_)
      · skip
        have hpt := pt_q p11 h17 h23
        refine lv_iload_n hx hb dd_Planner_part_30 rfl (lv_at hl 2 rfl) ?_
        refine lv_iload_n hx hb dd_Planner_part_31 rfl (lv_at hl 0 rfl) ?_
        refine lv_idiv hx hb dd_Planner_part_32 (hcn) ?_
        exact W.iret (v := (y / zr1)) hx hb hr (fun t ht hW => ⟨⟨y / zr1, (), rfl, hpt, by rw [ht]; exact hP, va_K.moved hW.alike hK, hD⟩, hS.F ht⟩) hS.2.2 dd_Planner_part_33
      · skip
        have hpt := pt_p p11 h17 h23
        refine lv_iload_n hx hb dd_Planner_part_26 rfl (lv_at hl 1 rfl) ?_
        refine lv_goto (tgt := 31) hx hb dd_Planner_part_27 (by decide) ?_
        refine lv_iload_n hx hb dd_Planner_part_31 rfl (lv_at hl 0 rfl) ?_
        refine lv_idiv hx hb dd_Planner_part_32 (hcn) ?_
        exact W.iret (v := (x / zr1)) hx hb hr (fun t ht hW => ⟨⟨x / zr1, (), rfl, hpt, by rw [ht]; exact hP, va_K.moved hW.alike hK, hD⟩, hS.F ht⟩) hS.2.2 dd_Planner_part_33
    · skip
      refine lv_iconst (v := 0) hx hb dd_Planner_part_20 (by decide) ?_
      exact W.iret (v := (0 : Int32)) hx hb hr (fun t ht hW => ⟨⟨(0 : Int32), (), rfl, pt_0 p11 h17, by rw [ht]; exact hP, va_K.moved hW.alike hK, hD⟩, hS.F ht⟩) hS.2.2 dd_Planner_part_21
  · skip
    refine lv_iload_n hx hb dd_Planner_part_4 rfl (lv_at hl 0 rfl) ?_
    refine lv_ineg hx hb dd_Planner_part_5 ?_
    refine lv_goto (tgt := 10) hx hb dd_Planner_part_6 (by decide) ?_
    refine mm_topi (y := ab_f x) (by first | exact (if_pos h1).symm | exact (if_neg h1).symm) ?_
    refine lv_iload_n hx hb dd_Planner_part_10 rfl (lv_at hl 1 rfl) ?_
    refine mm_i (wc := []) (wr := []) (va_runS (As := [.int (ab_f x), .int y]) (rest := []) ⟨hx, hb, hml, hown, hts⟩ (cc_Planner_commonDivisor l D cI cZ cL cQ _ (ab_f x) y ) (mm_cwS 2 hts ml_Planner_227 sm_Planner_commonDivisor ic_Planner cd_Planner_commonDivisor rfl rfl (by decide +kernel) ⟨Nat.le_of_ble_eq_true rfl, Nat.le_of_ble_eq_true rfl⟩) (mm_preS hK hP hD [] (by decide) rfl) rfl rfl hl.1 rfl (lv_room (Nat.le_of_ble_eq_true rfl)) dd_Planner_part_11 ⟨Nat.zero_le _, Nat.zero_le _⟩) hP hD hS hA [] [] rfl rfl (by decide) (by decide) (fun zr3 zu4 H locs p11 hP hD hS => ?_)
    have hP : va_P D kc_all [] H := hP
    have hD : va_D A [] := hD
    have p11 : zr3 = cd_f 64 (ab_f x) y := p11
    refine lv_istore_n (lv' := [(3, .int zr3), (0, .int x), (1, .int y), (2, .int wv)]) hx hb dd_Planner_part_14 rfl hl (by decide) rfl (fun ls hl => ?_)
    refine lv_iload_n hx hb dd_Planner_part_15 rfl (lv_at hl 0 rfl) ?_
    refine lv_iconst (v := 1) hx hb dd_Planner_part_16 (by decide) ?_
    refine lv_icmp_ge (tgt := 22) hx hb dd_Planner_part_17 (by decide) (fun h17 => ?_) (fun h17 => ?_)
    · skip
      have hcn := pt_ne h17
      refine lv_iload_n hx hb dd_Planner_part_22 rfl (lv_at hl 3 rfl) ?_
      refine lv_if_ne (tgt := 30) hx hb dd_Planner_part_23 (by decide) (fun h23 => ?_) (fun h23 => ?_)
      · skip
        have hpt := pt_q p11 h17 h23
        refine lv_iload_n hx hb dd_Planner_part_30 rfl (lv_at hl 2 rfl) ?_
        refine lv_iload_n hx hb dd_Planner_part_31 rfl (lv_at hl 0 rfl) ?_
        refine lv_idiv hx hb dd_Planner_part_32 (hcn) ?_
        exact W.iret (v := (y / zr3)) hx hb hr (fun t ht hW => ⟨⟨y / zr3, (), rfl, hpt, by rw [ht]; exact hP, va_K.moved hW.alike hK, hD⟩, hS.F ht⟩) hS.2.2 dd_Planner_part_33
      · skip
        have hpt := pt_p p11 h17 h23
        refine lv_iload_n hx hb dd_Planner_part_26 rfl (lv_at hl 1 rfl) ?_
        refine lv_goto (tgt := 31) hx hb dd_Planner_part_27 (by decide) ?_
        refine lv_iload_n hx hb dd_Planner_part_31 rfl (lv_at hl 0 rfl) ?_
        refine lv_idiv hx hb dd_Planner_part_32 (hcn) ?_
        exact W.iret (v := (x / zr3)) hx hb hr (fun t ht hW => ⟨⟨x / zr3, (), rfl, hpt, by rw [ht]; exact hP, va_K.moved hW.alike hK, hD⟩, hS.F ht⟩) hS.2.2 dd_Planner_part_33
    · skip
      refine lv_iconst (v := 0) hx hb dd_Planner_part_20 (by decide) ?_
      exact W.iret (v := (0 : Int32)) hx hb hr (fun t ht hW => ⟨⟨(0 : Int32), (), rfl, pt_0 p11 h17, by rw [ht]; exact hP, va_K.moved hW.alike hK, hD⟩, hS.F ht⟩) hS.2.2 dd_Planner_part_21
abbrev qq_Planner_tell (D : va_G) (cI cZ cL cQ : ClassId) (pl : Nat) (tl : Nat) (a : Nat) (mi : Nat) (sr : Nat) (tr : Nat) (pf : Nat) (xb : Nat) (so : Int32) (sl : Int32) (x0 : Int32) (x1 : Int32) (x2 : Int32) (x3 : Int32) (td : Nat → Int32) (A : Nat → Prop) : Array Value → State → Outcome → State → Prop := va_Qv (fun u : Unit => True) (fun (u : Unit) t => mm_B D kc_all [(cI, .int), (cZ, .boolean), (cL, .long), (cQ, .array .int)] A [(pl, .inr (6, [.ref a, .ref mi, .ref sr, .ref tr, .ref pf, .ref xb, .ref tl, .int so, .int sl])), (tl, .inl (cI, 4, .inl (upd (upd (upd (upd td 0 x0) 1 x1) 2 x2) 3 x3)))] t) A
set_option maxHeartbeats 4000000 in
set_option maxRecDepth 100000 in
theorem cc_Planner_tell (l : Launch) (D : va_G) (cI cZ cL cQ : ClassId) (sz : Nat) (pl : Nat) (tl : Nat) (a : Nat) (mi : Nat) (sr : Nat) (tr : Nat) (pf : Nat) (xb : Nat) (so : Int32) (sl : Int32) (x0 : Int32) (x1 : Int32) (x2 : Int32) (x3 : Int32) (td : Nat → Int32)  : Met l yy_Planner_tell ww_Planner_tell ({ frames := 0, cells := 0, slots := 0, locals := 0 } : Room) (mm_Pc D kc_all [(cI, .int), (cZ, .boolean), (cL, .long), (cQ, .array .int)] sz [(pl, .inr (6, [.ref a, .ref mi, .ref sr, .ref tr, .ref pf, .ref xb, .ref tl, .int so, .int sl])), (tl, .inl (cI, 4, .inl td))] [.ref pl, .int x0, .int x1, .int x2, .int x3]) (qq_Planner_tell D cI cZ cL cQ pl tl a mi sr tr pf xb so sl x0 x1 x2 x3 td (va_A [(pl, .inr (6, [.ref a, .ref mi, .ref sr, .ref tr, .ref pf, .ref xb, .ref tl, .int so, .int sl])), (tl, .inl (cI, 4, .inl td))] sz)) 0 0 (va_A [(pl, .inr (6, [.ref a, .ref mi, .ref sr, .ref tr, .ref pf, .ref xb, .ref tl, .int so, .int sl])), (tl, .inl (cI, 4, .inl td))] sz) := by
  refine Met.ofW (cc := bb_Planner_tell) (maxL := 5) (ret := none) (by decide) rfl ?_
  intro p e s m args below meth c s₁ B hml hv
  obtain ⟨rfl, hsz, hP, hK, hD0⟩ := hv
  have hx := B.exec
  have hb := B.bytes
  have hr := B.returns
  have hts := atoms_spec (ws := ww_Planner_tell) B.pre
  have hown : s.vm.findClass RR_Planner = some m.cls := findClass_of_methodNamed B.named
  have hlocks := B.notSynchronized
  subst hsz
  have hD := hD0.self (sz := s.heap.size)
  generalize hAe : va_A [(pl, .inr (6, [.ref a, .ref mi, .ref sr, .ref tr, .ref pf, .ref xb, .ref tl, .int so, .int sl])), (tl, .inl (cI, 4, .inl td))] s.heap.size = A at hD ⊢
  have hA : ∀ q : Nat, s.heap.size ≤ q → A q := fun q h => by rw [← hAe]; exact Or.inr h
  have hS : va_S A s.heap s.heap [] := va_S.rf
  have hP : va_P D kc_all [(pl, .inr (6, [.ref a, .ref mi, .ref sr, .ref tr, .ref pf, .ref xb, .ref tl, .int so, .int sl])), (tl, .inl (cI, 4, .inl td))] s.heap := hP
  have hl := lv_entry ([.ref pl, .int x0, .int x1, .int x2, .int x3]) (n := 5) (Nat.le_of_ble_eq_true rfl)
  rw [lg_entry_eq]
  generalize (lg_sl ([.ref pl, .int x0, .int x1, .int x2, .int x3]) ++ List.replicate (5 - (lg_sl ([.ref pl, .int x0, .int x1, .int x2, .int x3])).length) Slot.unset).toArray = ls at hl ⊢
  have hl : lv_has ls 5 [(0, .ref pl), (1, .int x0), (2, .int x1), (3, .int x2), (4, .int x3)] := hl
  have htb : ∀ w ∈ tb_all, w.before ([.ref pl, .int x0, .int x1, .int x2, .int x3]).toArray s = true := fun w h => hts w (List.mem_cons_of_mem _ h)
  have hf_51 := htb _ fl_Planner_51
  refine lv_aload_n hx hb dd_Planner_tell_0 rfl (lv_at hl 0 rfl) ?_
  refine va_get (D := D) (ci := 6) (v := .ref tl) (C := RR_Planner) (T := FF_Planner) (N := 9) hx hb htb hi_Planner hown hK hP 0 rfl rfl 6 (by decide) hf_51 (fun _ h9 => h9) rfl dd_Planner_tell_1 ?_
  refine lv_iconst (v := 0) hx hb dd_Planner_tell_4 (by decide) ?_
  refine lv_iload_n hx hb dd_Planner_tell_5 rfl (lv_at hl 1 rfl) ?_
  refine mm_iast hx hb hK hP hD hS 1 0 rfl rfl (0) (rfl) (by omega) (by first | decide | omega) dd_Planner_tell_6 (fun H locs hP hD hS => ?_)
  have hP : va_P D kc_all [(pl, .inr (6, [.ref a, .ref mi, .ref sr, .ref tr, .ref pf, .ref xb, .ref tl, .int so, .int sl])), (tl, .inl (cI, 4, .inl (upd td 0 x0)))] H := hP
  have hD : va_D A [(pl, .inr (6, [.ref a, .ref mi, .ref sr, .ref tr, .ref pf, .ref xb, .ref tl, .int so, .int sl])), (tl, .inl (cI, 4, .inl (upd td 0 x0)))] := hD
  refine lv_aload_n hx hb dd_Planner_tell_7 rfl (lv_at hl 0 rfl) ?_
  refine va_get (D := D) (ci := 6) (v := .ref tl) (C := RR_Planner) (T := FF_Planner) (N := 9) hx hb htb hi_Planner hown hK hP 0 rfl rfl 6 (by decide) hf_51 (fun _ h9 => h9) rfl dd_Planner_tell_8 ?_
  refine lv_iconst (v := 1) hx hb dd_Planner_tell_11 (by decide) ?_
  refine lv_iload_n hx hb dd_Planner_tell_12 rfl (lv_at hl 2 rfl) ?_
  refine mm_iast hx hb hK hP hD hS 1 0 rfl rfl (1) (rfl) (by omega) (by first | decide | omega) dd_Planner_tell_13 (fun H locs hP hD hS => ?_)
  have hP : va_P D kc_all [(pl, .inr (6, [.ref a, .ref mi, .ref sr, .ref tr, .ref pf, .ref xb, .ref tl, .int so, .int sl])), (tl, .inl (cI, 4, .inl (upd (upd td 0 x0) 1 x1)))] H := hP
  have hD : va_D A [(pl, .inr (6, [.ref a, .ref mi, .ref sr, .ref tr, .ref pf, .ref xb, .ref tl, .int so, .int sl])), (tl, .inl (cI, 4, .inl (upd (upd td 0 x0) 1 x1)))] := hD
  refine lv_aload_n hx hb dd_Planner_tell_14 rfl (lv_at hl 0 rfl) ?_
  refine va_get (D := D) (ci := 6) (v := .ref tl) (C := RR_Planner) (T := FF_Planner) (N := 9) hx hb htb hi_Planner hown hK hP 0 rfl rfl 6 (by decide) hf_51 (fun _ h9 => h9) rfl dd_Planner_tell_15 ?_
  refine lv_iconst (v := 2) hx hb dd_Planner_tell_18 (by decide) ?_
  refine lv_iload_n hx hb dd_Planner_tell_19 rfl (lv_at hl 3 rfl) ?_
  refine mm_iast hx hb hK hP hD hS 1 0 rfl rfl (2) (rfl) (by omega) (by first | decide | omega) dd_Planner_tell_20 (fun H locs hP hD hS => ?_)
  have hP : va_P D kc_all [(pl, .inr (6, [.ref a, .ref mi, .ref sr, .ref tr, .ref pf, .ref xb, .ref tl, .int so, .int sl])), (tl, .inl (cI, 4, .inl (upd (upd (upd td 0 x0) 1 x1) 2 x2)))] H := hP
  have hD : va_D A [(pl, .inr (6, [.ref a, .ref mi, .ref sr, .ref tr, .ref pf, .ref xb, .ref tl, .int so, .int sl])), (tl, .inl (cI, 4, .inl (upd (upd (upd td 0 x0) 1 x1) 2 x2)))] := hD
  refine lv_aload_n hx hb dd_Planner_tell_21 rfl (lv_at hl 0 rfl) ?_
  refine va_get (D := D) (ci := 6) (v := .ref tl) (C := RR_Planner) (T := FF_Planner) (N := 9) hx hb htb hi_Planner hown hK hP 0 rfl rfl 6 (by decide) hf_51 (fun _ h9 => h9) rfl dd_Planner_tell_22 ?_
  refine lv_iconst (v := 3) hx hb dd_Planner_tell_25 (by decide) ?_
  refine lv_iload hx hb dd_Planner_tell_26 (lv_at hl 4 rfl) ?_
  refine mm_iast hx hb hK hP hD hS 1 0 rfl rfl (3) (rfl) (by omega) (by first | decide | omega) dd_Planner_tell_28 (fun H locs hP hD hS => ?_)
  have hP : va_P D kc_all [(pl, .inr (6, [.ref a, .ref mi, .ref sr, .ref tr, .ref pf, .ref xb, .ref tl, .int so, .int sl])), (tl, .inl (cI, 4, .inl (upd (upd (upd (upd td 0 x0) 1 x1) 2 x2) 3 x3)))] H := hP
  have hD : va_D A [(pl, .inr (6, [.ref a, .ref mi, .ref sr, .ref tr, .ref pf, .ref xb, .ref tl, .int so, .int sl])), (tl, .inl (cI, 4, .inl (upd (upd (upd (upd td 0 x0) 1 x1) 2 x2) 3 x3)))] := hD
  exact W.vret hx hb hr (fun t ht hW => ⟨⟨(), rfl, by first | rfl | trivial | assumption | omega, by rw [ht]; exact hP, va_K.moved hW.alike hK, hD⟩, hS.F ht⟩) hS.2.2 dd_Planner_tell_29
abbrev qq_Planner_isWeight (D : va_G) (cI cZ cL cQ : ClassId) (pl : Nat) (tl : Nat) (a : Nat) (mi : Nat) (sr : Nat) (tr : Nat) (pf : Nat) (xb : Nat) (so : Int32) (sl : Int32) (al : Nat) (am : Nat) (aw : Nat) (ac : Nat) (ag : Nat) (ab : Nat) (n : Nat) (k : Nat) (j : Nat) (x : Int32) (A : Nat → Prop) : Array Value → State → Outcome → State → Prop := va_Qi (fun (r : Int32) (u : Unit) => tl_ok (wg_ok n j x) r) (fun (u : Unit) t => mm_B D kc_all [(cI, .int), (cZ, .boolean), (cL, .long), (cQ, .array .int)] A [(pl, .inr (6, [.ref a, .ref mi, .ref sr, .ref tr, .ref pf, .ref xb, .ref tl, .int so, .int sl])), (a, .inr (0, [.int (nI n), .int (nI k), .ref al, .ref am, .ref aw, .ref ac, .ref ag, .ref ab]))] t) A
set_option maxHeartbeats 4000000 in
set_option maxRecDepth 100000 in
theorem cc_Planner_isWeight (l : Launch) (D : va_G) (cI cZ cL cQ : ClassId) (sz : Nat) (pl : Nat) (tl : Nat) (a : Nat) (mi : Nat) (sr : Nat) (tr : Nat) (pf : Nat) (xb : Nat) (so : Int32) (sl : Int32) (al : Nat) (am : Nat) (aw : Nat) (ac : Nat) (ag : Nat) (ab : Nat) (n : Nat) (k : Nat) (j : Nat) (x : Int32) (hn : n ≤ 4) (hj : j < 4) : Met l yy_Planner_isWeight ww_Planner_isWeight ({ frames := 1, cells := 0, slots := 0, locals := 21 } : Room) (mm_Pc D kc_all [(cI, .int), (cZ, .boolean), (cL, .long), (cQ, .array .int)] sz [(pl, .inr (6, [.ref a, .ref mi, .ref sr, .ref tr, .ref pf, .ref xb, .ref tl, .int so, .int sl])), (a, .inr (0, [.int (nI n), .int (nI k), .ref al, .ref am, .ref aw, .ref ac, .ref ag, .ref ab]))] [.ref pl, .int (nI j), .int x]) (qq_Planner_isWeight D cI cZ cL cQ pl tl a mi sr tr pf xb so sl al am aw ac ag ab n k j x (va_A [(pl, .inr (6, [.ref a, .ref mi, .ref sr, .ref tr, .ref pf, .ref xb, .ref tl, .int so, .int sl])), (a, .inr (0, [.int (nI n), .int (nI k), .ref al, .ref am, .ref aw, .ref ac, .ref ag, .ref ab]))] sz)) 0 0 (va_A [(pl, .inr (6, [.ref a, .ref mi, .ref sr, .ref tr, .ref pf, .ref xb, .ref tl, .int so, .int sl])), (a, .inr (0, [.int (nI n), .int (nI k), .ref al, .ref am, .ref aw, .ref ac, .ref ag, .ref ab]))] sz) := by
  refine Met.ofW (cc := bb_Planner_isWeight) (maxL := 3) (ret := (some .boolean)) (by decide) rfl ?_
  intro p e s m args below meth c s₁ B hml hv
  obtain ⟨rfl, hsz, hP, hK, hD0⟩ := hv
  have hx := B.exec
  have hb := B.bytes
  have hr := B.returns
  have hts := atoms_spec (ws := ww_Planner_isWeight) B.pre
  have hown : s.vm.findClass RR_Planner = some m.cls := findClass_of_methodNamed B.named
  have hlocks := B.notSynchronized
  subst hsz
  have hD := hD0.self (sz := s.heap.size)
  generalize hAe : va_A [(pl, .inr (6, [.ref a, .ref mi, .ref sr, .ref tr, .ref pf, .ref xb, .ref tl, .int so, .int sl])), (a, .inr (0, [.int (nI n), .int (nI k), .ref al, .ref am, .ref aw, .ref ac, .ref ag, .ref ab]))] s.heap.size = A at hD ⊢
  have hA : ∀ q : Nat, s.heap.size ≤ q → A q := fun q h => by rw [← hAe]; exact Or.inr h
  have hS : va_S A s.heap s.heap [] := va_S.rf
  have hP : va_P D kc_all [(pl, .inr (6, [.ref a, .ref mi, .ref sr, .ref tr, .ref pf, .ref xb, .ref tl, .int so, .int sl])), (a, .inr (0, [.int (nI n), .int (nI k), .ref al, .ref am, .ref aw, .ref ac, .ref ag, .ref ab]))] s.heap := hP
  have hl := lv_entry ([.ref pl, .int (nI j), .int x]) (n := 3) (Nat.le_of_ble_eq_true rfl)
  rw [lg_entry_eq]
  generalize (lg_sl ([.ref pl, .int (nI j), .int x]) ++ List.replicate (3 - (lg_sl ([.ref pl, .int (nI j), .int x])).length) Slot.unset).toArray = ls at hl ⊢
  have hl : lv_has ls 3 [(0, .ref pl), (1, .int (nI j)), (2, .int x)] := hl
  have htb : ∀ w ∈ tb_all, w.before ([.ref pl, .int (nI j), .int x]).toArray s = true := fun w h => hts w (List.mem_cons_of_mem _ h)
  have hf_12 := htb _ fl_Planner_12
  have hf_216 := htb _ fl_Planner_216
  refine lv_iload_n hx hb dd_Planner_isWeight_0 rfl (lv_at hl 1 rfl) ?_
  refine lv_aload_n hx hb dd_Planner_isWeight_1 rfl (lv_at hl 0 rfl) ?_
  refine va_get (D := D) (ci := 6) (v := .ref a) (C := RR_Planner) (T := FF_Planner) (N := 9) hx hb htb hi_Planner hown hK hP 0 rfl rfl 0 (by decide) hf_12 (fun _ h9 => h9) rfl dd_Planner_isWeight_2 ?_
  refine va_get (D := D) (ci := 0) (v := .int (nI n)) (C := RR_Problem) (T := FF_Problem) (N := 8) hx hb htb hi_Problem hown hK hP 1 rfl rfl 0 (by decide) hf_216 (fun _ h9 => h9) rfl dd_Planner_isWeight_5 ?_
  refine lv_icmp_ge (tgt := 20) hx hb dd_Planner_isWeight_8 (by decide) (fun h8 => ?_) (fun h8 => ?_)
  · skip
    have h8 : n ≤ j := (nI_leI (a := n) (b := j) (by omega) (by omega)).mp h8
    refine lv_iload_n hx hb dd_Planner_isWeight_20 rfl (lv_at hl 2 rfl) ?_
    refine lv_if_ne (tgt := 28) hx hb dd_Planner_isWeight_21 (by decide) (fun h21 => ?_) (fun h21 => ?_)
    · skip
      refine lv_iconst (v := 0) hx hb dd_Planner_isWeight_28 (by decide) ?_
      exact W.zret (v := (0 : Int32)) hx hb hr (by first | exact tl_nar p14 | rfl) (fun t ht hW => ⟨⟨(0 : Int32), (), rfl, by first | exact wg_1 (by omega) p14 | exact wg_2 (by omega) h21 | exact wg_3 (by omega) h21, by rw [ht]; exact hP, va_K.moved hW.alike hK, hD⟩, hS.F ht⟩) hS.2.2 dd_Planner_isWeight_29
    · skip
      refine lv_iconst (v := 1) hx hb dd_Planner_isWeight_24 (by decide) ?_
      refine lv_goto (tgt := 29) hx hb dd_Planner_isWeight_25 (by decide) ?_
      exact W.zret (v := (1 : Int32)) hx hb hr (by first | exact tl_nar p14 | rfl) (fun t ht hW => ⟨⟨(1 : Int32), (), rfl, by first | exact wg_1 (by omega) p14 | exact wg_2 (by omega) h21 | exact wg_3 (by omega) h21, by rw [ht]; exact hP, va_K.moved hW.alike hK, hD⟩, hS.F ht⟩) hS.2.2 dd_Planner_isWeight_29
  · skip
    have h8 : ¬ (n ≤ j) := fun q9 => h8 ((nI_leI (a := n) (b := j) (by omega) (by omega)).mpr q9)
    refine lv_iload_n hx hb dd_Planner_isWeight_11 rfl (lv_at hl 2 rfl) ?_
    refine lv_bipush (v := 9) hx hb dd_Planner_isWeight_12 (by decide) ?_
    refine mm_i (wc := []) (wr := [(pl, .inr (6, [.ref a, .ref mi, .ref sr, .ref tr, .ref pf, .ref xb, .ref tl, .int so, .int sl])), (a, .inr (0, [.int (nI n), .int (nI k), .ref al, .ref am, .ref aw, .ref ac, .ref ag, .ref ab]))]) (va_runS (As := [.int x, .int (9 : Int32)]) (rest := []) ⟨hx, hb, hml, hown, hts⟩ (cc_Planner_isWithin l D cI cZ cL cQ _ x (9 : Int32) ) (mm_cwS 2 hts ml_Planner_77 sm_Planner_isWithin ic_Planner cd_Planner_isWithin rfl rfl (by decide +kernel) ⟨Nat.le_of_ble_eq_true rfl, Nat.le_of_ble_eq_true rfl⟩) (mm_preS hK hP hD [] (by decide) rfl) rfl rfl hl.1 rfl (lv_room (Nat.le_of_ble_eq_true rfl)) dd_Planner_isWeight_14 ⟨Nat.zero_le _, Nat.zero_le _⟩) hP hD hS hA [] [0, 1] rfl rfl (by decide) (by decide) (fun zr1 zu2 H locs p14 hP hD hS => ?_)
    have hP : va_P D kc_all [(pl, .inr (6, [.ref a, .ref mi, .ref sr, .ref tr, .ref pf, .ref xb, .ref tl, .int so, .int sl])), (a, .inr (0, [.int (nI n), .int (nI k), .ref al, .ref am, .ref aw, .ref ac, .ref ag, .ref ab]))] H := hP
    have hD : va_D A [(pl, .inr (6, [.ref a, .ref mi, .ref sr, .ref tr, .ref pf, .ref xb, .ref tl, .int so, .int sl])), (a, .inr (0, [.int (nI n), .int (nI k), .ref al, .ref am, .ref aw, .ref ac, .ref ag, .ref ab]))] := hD
    have p14 : tl_ok (iw_ok x (9 : Int32)) zr1 := p14
    refine lv_goto (tgt := 29) hx hb dd_Planner_isWeight_17 (by decide) ?_
    exact W.zret (v := zr1) hx hb hr (by first | exact tl_nar p14 | rfl) (fun t ht hW => ⟨⟨zr1, (), rfl, by first | exact wg_1 (by omega) p14 | exact wg_2 (by omega) h21 | exact wg_3 (by omega) h21, by rw [ht]; exact hP, va_K.moved hW.alike hK, hD⟩, hS.F ht⟩) hS.2.2 dd_Planner_isWeight_29
