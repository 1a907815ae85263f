abbrev qq_Model_divisor (D : va_G) (cI cZ cL cQ : ClassId) (va : Int64) (vb : Int64) (A : Nat → Prop) : Array Value → State → Outcome → State → Prop := va_Ql (fun (r : Int64) (u : Unit) => gd_ok va vb r) (fun (u : Unit) t => mm_B D kc_all [(cI, .int), (cZ, .boolean), (cL, .long), (cQ, .array .int)] A [] t) A
set_option maxHeartbeats 4000000 in
set_option maxRecDepth 100000 in
theorem cc_Model_divisor (l : Launch) (D : va_G) (cI cZ cL cQ : ClassId) (sz : Nat) (va : Int64) (vb : Int64)  : Met l yy_Model_divisor ww_Model_divisor ({ frames := 0, cells := 0, slots := 0, locals := 0 } : Room) (mm_Pc D kc_all [(cI, .int), (cZ, .boolean), (cL, .long), (cQ, .array .int)] sz [] [.long va, .long vb]) (qq_Model_divisor D cI cZ cL cQ va vb (va_A [] sz)) 0 0 (va_A [] sz) := by
  refine Met.ofW (cc := bb_Model_divisor) (maxL := 10) (ret := (some .long)) (by decide) rfl ?_
  intro p e s m args below meth c s₁ B hml hv
  obtain ⟨rfl, hsz, hP, hK, hD0⟩ := hv
  have hx := B.exec
  have hb := B.bytes
  have hr := B.returns
  have hts := atoms_spec (ws := ww_Model_divisor) B.pre
  have hown : s.vm.findClass RR_Model = some m.cls := findClass_of_methodNamed B.named
  have hlocks := B.notSynchronized
  subst hsz
  have hD := hD0.self (sz := s.heap.size)
  generalize hAe : va_A [] s.heap.size = A at hD ⊢
  have hA : ∀ q : Nat, s.heap.size ≤ q → A q := fun q h => by rw [← hAe]; exact Or.inr h
  have hS : va_S A s.heap s.heap [] := va_S.rf
  have hP : va_P D kc_all [] s.heap := hP
  have hl := lv_entry ([.long va, .long vb]) (n := 10) (Nat.le_of_ble_eq_true rfl)
  rw [lg_entry_eq]
  generalize (lg_sl ([.long va, .long vb]) ++ List.replicate (10 - (lg_sl ([.long va, .long vb])).length) Slot.unset).toArray = ls at hl ⊢
  have hl : lv_has ls 10 [(0, .long va), (2, .long vb)] := hl
  have htb : ∀ w ∈ tb_all, w.before ([.long va, .long vb]).toArray s = true := fun w h => hts w (List.mem_cons_of_mem _ h)
  refine lv_lload_n hx hb dd_Model_divisor_0 rfl (lv_at hl 0 rfl) ?_
  refine lv_lconst (v := 0) hx hb dd_Model_divisor_1 (by decide) ?_
  refine W.lcmp hx hb dd_Model_divisor_2 ?_
  refine lv_if_ge (tgt := 11) hx hb dd_Model_divisor_3 (by decide) (fun h3 => ?_) (fun h3 => ?_)
  · skip
    rw [lg_cmp_ge va (0 : Int64)] at h3
    refine lv_lload_n hx hb dd_Model_divisor_11 rfl (lv_at hl 0 rfl) ?_
    refine lv_lstore (lv' := [(4, .long va), (0, .long va), (2, .long vb)]) hx hb dd_Model_divisor_12 hl (by decide) rfl (fun ls hl => ?_)
    refine lv_lload_n hx hb dd_Model_divisor_14 rfl (lv_at hl 2 rfl) ?_
    refine lv_lstore (lv' := [(6, .long vb), (4, .long va), (0, .long va), (2, .long vb)]) hx hb dd_Model_divisor_15 hl (by decide) rfl (fun ls hl => ?_)
    have J17 : ∀ (N : Nat) (x : Int64) (y : Int64), (gd_m y) < N → ∀ (hv : gi_ok va vb x y), ∀ (ls : Array Slot) (H : Heap) (locs : List Loc), lv_has ls 10 [(4, .long x), (6, .long y)] → va_P D kc_all [] H → va_D A [] → va_S A s.heap H locs → W p l e (headSpec ww_Model_divisor ({ frames := 0, cells := 0, slots := 0, locals := 0 } : Room)).room s m ([.long va, .long vb]).toArray below meth c H locs 0 0 (MQ below (qq_Model_divisor D cI cZ cL cQ va vb A) ([.long va, .long vb]).toArray s 0 0 A) (F0 m 17 ls []) := by
      intro N
      induction N with
      | zero => intro x y hN9; exact absurd hN9 (Nat.not_lt_zero _)
      | succ N IH17 =>
        intro x y hN9 hv ls H locs hl hP hD hS
        refine lv_lload hx hb dd_Model_divisor_17 (lv_at hl 1 rfl) ?_
        refine lv_lconst (v := 0) hx hb dd_Model_divisor_19 (by decide) ?_
        refine W.lcmp hx hb dd_Model_divisor_20 ?_
        refine lv_if_eq (tgt := 42) hx hb dd_Model_divisor_21 (by decide) (fun h21 => ?_) (fun h21 => ?_)
        · skip
          rw [lg_cmp_eq y (0 : Int64)] at h21
          refine lv_lload hx hb dd_Model_divisor_42 (lv_at hl 0 rfl) ?_
          exact W.lret (v := x) hx hb hr (fun t ht hW => ⟨⟨x, (), rfl, gi_e hv h21, by rw [ht]; exact hP, va_K.moved hW.alike hK, hD⟩, hS.F ht⟩) hS.2.2 dd_Model_divisor_44
        · skip
          rw [lg_cmp_eq y (0 : Int64)] at h21
          refine lv_lload hx hb dd_Model_divisor_24 (lv_at hl 0 rfl) ?_
          refine lv_lload hx hb dd_Model_divisor_26 (lv_at hl 1 rfl) ?_
          refine lv_lrem hx hb dd_Model_divisor_28 (by assumption) ?_
          refine lv_lstore (lv' := [(8, .long (x - x / y * y)), (4, .long x), (6, .long y)]) hx hb dd_Model_divisor_29 hl (by decide) rfl (fun ls hl => ?_)
          refine lv_lload hx hb dd_Model_divisor_31 (lv_at hl 2 rfl) ?_
          refine lv_lstore (lv' := [(4, .long y), (8, .long (x - x / y * y)), (6, .long y)]) hx hb dd_Model_divisor_33 hl (by decide) rfl (fun ls hl => ?_)
          refine lv_lload hx hb dd_Model_divisor_35 (lv_at hl 1 rfl) ?_
          refine lv_lstore (lv' := [(6, .long (x - x / y * y)), (4, .long y), (8, .long (x - x / y * y))]) hx hb dd_Model_divisor_37 hl (by decide) rfl (fun ls hl => ?_)
          refine lv_goto (tgt := 17) hx hb dd_Model_divisor_39 (by decide) ?_
          exact IH17 y (x - x / y * y) (by have := gd_dec (x := x) h21; omega) (gi_s hv) ls H locs (lv_sub hl [1, 0] rfl) hP hD hS
    exact J17 _ va vb (Nat.lt_succ_self _) (by first | exact gi_1 h3 | exact gi_2 h3) ls _ _ (lv_sub hl [1, 0] rfl) hP hD hS
  · skip
    rw [lg_cmp_ge va (0 : Int64)] at h3
    refine lv_lload_n hx hb dd_Model_divisor_6 rfl (lv_at hl 0 rfl) ?_
    refine lv_lneg hx hb dd_Model_divisor_7 ?_
    refine lv_goto (tgt := 12) hx hb dd_Model_divisor_8 (by decide) ?_
    refine lv_lstore (lv' := [(4, .long (-va)), (0, .long va), (2, .long vb)]) hx hb dd_Model_divisor_12 hl (by decide) rfl (fun ls hl => ?_)
    refine lv_lload_n hx hb dd_Model_divisor_14 rfl (lv_at hl 2 rfl) ?_
    refine lv_lstore (lv' := [(6, .long vb), (4, .long (-va)), (0, .long va), (2, .long vb)]) hx hb dd_Model_divisor_15 hl (by decide) rfl (fun ls hl => ?_)
    have J17 : ∀ (N : Nat) (x : Int64) (y : Int64), (gd_m y) < N → ∀ (hv : gi_ok va vb x y), ∀ (ls : Array Slot) (H : Heap) (locs : List Loc), lv_has ls 10 [(4, .long x), (6, .long y)] → va_P D kc_all [] H → va_D A [] → va_S A s.heap H locs → W p l e (headSpec ww_Model_divisor ({ frames := 0, cells := 0, slots := 0, locals := 0 } : Room)).room s m ([.long va, .long vb]).toArray below meth c H locs 0 0 (MQ below (qq_Model_divisor D cI cZ cL cQ va vb A) ([.long va, .long vb]).toArray s 0 0 A) (F0 m 17 ls []) := by
      intro N
      induction N with
      | zero => intro x y hN9; exact absurd hN9 (Nat.not_lt_zero _)
      | succ N IH17 =>
        intro x y hN9 hv ls H locs hl hP hD hS
        refine lv_lload hx hb dd_Model_divisor_17 (lv_at hl 1 rfl) ?_
        refine lv_lconst (v := 0) hx hb dd_Model_divisor_19 (by decide) ?_
        refine W.lcmp hx hb dd_Model_divisor_20 ?_
        refine lv_if_eq (tgt := 42) hx hb dd_Model_divisor_21 (by decide) (fun h21 => ?_) (fun h21 => ?_)
        · skip
          rw [lg_cmp_eq y (0 : Int64)] at h21
          refine lv_lload hx hb dd_Model_divisor_42 (lv_at hl 0 rfl) ?_
          exact W.lret (v := x) hx hb hr (fun t ht hW => ⟨⟨x, (), rfl, gi_e hv h21, by rw [ht]; exact hP, va_K.moved hW.alike hK, hD⟩, hS.F ht⟩) hS.2.2 dd_Model_divisor_44
        · skip
          rw [lg_cmp_eq y (0 : Int64)] at h21
          refine lv_lload hx hb dd_Model_divisor_24 (lv_at hl 0 rfl) ?_
          refine lv_lload hx hb dd_Model_divisor_26 (lv_at hl 1 rfl) ?_
          refine lv_lrem hx hb dd_Model_divisor_28 (by assumption) ?_
          refine lv_lstore (lv' := [(8, .long (x - x / y * y)), (4, .long x), (6, .long y)]) hx hb dd_Model_divisor_29 hl (by decide) rfl (fun ls hl => ?_)
          refine lv_lload hx hb dd_Model_divisor_31 (lv_at hl 2 rfl) ?_
          refine lv_lstore (lv' := [(4, .long y), (8, .long (x - x / y * y)), (6, .long y)]) hx hb dd_Model_divisor_33 hl (by decide) rfl (fun ls hl => ?_)
          refine lv_lload hx hb dd_Model_divisor_35 (lv_at hl 1 rfl) ?_
          refine lv_lstore (lv' := [(6, .long (x - x / y * y)), (4, .long y), (8, .long (x - x / y * y))]) hx hb dd_Model_divisor_37 hl (by decide) rfl (fun ls hl => ?_)
          refine lv_goto (tgt := 17) hx hb dd_Model_divisor_39 (by decide) ?_
          exact IH17 y (x - x / y * y) (by have := gd_dec (x := x) h21; omega) (gi_s hv) ls H locs (lv_sub hl [1, 0] rfl) hP hD hS
    exact J17 _ (-va) vb (Nat.lt_succ_self _) (by first | exact gi_1 h3 | exact gi_2 h3) ls _ _ (lv_sub hl [1, 0] rfl) hP hD hS
abbrev qq_Model_part (D : va_G) (cI cZ cL cQ : ClassId) (o : Nat) (ml : Nat) (mm : Nat) (mw : Nat) (mc : Nat) (mg : Nat) (md : Nat) (mb : Nat) (mt : Nat) (mr : Nat) (mo : Nat) (mx : Nat) (mp : Nat) (nk : Nat) (na : Nat) (nv : Nat) (nf : Nat) (ns : Nat) (ne : Nat) (nw : Nat) (mf : Nat) (thr : Int32) (n : Nat) (k : Nat) (so : Int32) (fo : Int32) (bb : Int64) (bc : Int64) (be : Int64) (rs : Nat) (rc : Nat) (vv : Int64) (wv : Int32) (A : Nat → Prop) : Array Value → State → Outcome → State → Prop := va_Qi (fun (r : Int32) (u : Unit) => pt_ok vv bb wv r) (fun (u : Unit) t => mm_B D kc_all [(cI, .int), (cZ, .boolean), (cL, .long), (cQ, .array .int)] A [(o, .inr (7, [.int thr, .int (nI n), .ref ml, .ref mm, .ref mw, .ref mc, .int (nI k), .ref mg, .ref md, .int so, .int fo, .ref mb, .long bb, .long bc, .ref mt, .long be, .ref mr, .int (nI rs), .ref mo, .int (nI rc), .ref mx, .ref mp, .ref nk, .ref na, .ref nv, .ref nf, .ref ns, .ref ne, .ref nw, .ref mf]))] t) A
set_option maxHeartbeats 4000000 in
set_option maxRecDepth 100000 in
theorem cc_Model_part (l : Launch) (D : va_G) (cI cZ cL cQ : ClassId) (sz : Nat) (o : Nat) (ml : Nat) (mm : Nat) (mw : Nat) (mc : Nat) (mg : Nat) (md : Nat) (mb : Nat) (mt : Nat) (mr : Nat) (mo : Nat) (mx : Nat) (mp : Nat) (nk : Nat) (na : Nat) (nv : Nat) (nf : Nat) (ns : Nat) (ne : Nat) (nw : Nat) (mf : Nat) (thr : Int32) (n : Nat) (k : Nat) (so : Int32) (fo : Int32) (bb : Int64) (bc : Int64) (be : Int64) (rs : Nat) (rc : Nat) (vv : Int64) (wv : Int32) (hbb : ¬ bb = 0) : Met l yy_Model_part ww_Model_part ({ frames := 1, cells := 0, slots := 0, locals := 29 } : Room) (mm_Pc D kc_all [(cI, .int), (cZ, .boolean), (cL, .long), (cQ, .array .int)] sz [(o, .inr (7, [.int thr, .int (nI n), .ref ml, .ref mm, .ref mw, .ref mc, .int (nI k), .ref mg, .ref md, .int so, .int fo, .ref mb, .long bb, .long bc, .ref mt, .long be, .ref mr, .int (nI rs), .ref mo, .int (nI rc), .ref mx, .ref mp, .ref nk, .ref na, .ref nv, .ref nf, .ref ns, .ref ne, .ref nw, .ref mf]))] [.ref o, .long vv, .int wv]) (qq_Model_part D cI cZ cL cQ o ml mm mw mc mg md mb mt mr mo mx mp nk na nv nf ns ne nw mf thr n k so fo bb bc be rs rc vv wv (va_A [(o, .inr (7, [.int thr, .int (nI n), .ref ml, .ref mm, .ref mw, .ref mc, .int (nI k), .ref mg, .ref md, .int so, .int fo, .ref mb, .long bb, .long bc, .ref mt, .long be, .ref mr, .int (nI rs), .ref mo, .int (nI rc), .ref mx, .ref mp, .ref nk, .ref na, .ref nv, .ref nf, .ref ns, .ref ne, .ref nw, .ref mf]))] sz)) 0 0 (va_A [(o, .inr (7, [.int thr, .int (nI n), .ref ml, .ref mm, .ref mw, .ref mc, .int (nI k), .ref mg, .ref md, .int so, .int fo, .ref mb, .long bb, .long bc, .ref mt, .long be, .ref mr, .int (nI rs), .ref mo, .int (nI rc), .ref mx, .ref mp, .ref nk, .ref na, .ref nv, .ref nf, .ref ns, .ref ne, .ref nw, .ref mf]))] sz) := by
  refine Met.ofW (cc := bb_Model_part) (maxL := 6) (ret := (some .int)) (by decide) rfl ?_
  intro p e s m args below meth c s₁ B hml hv
  obtain ⟨rfl, hsz, hP, hK, hD0⟩ := hv
  have hx := B.exec
  have hb := B.bytes
  have hr := B.returns
  have hts := atoms_spec (ws := ww_Model_part) B.pre
  have hown : s.vm.findClass RR_Model = some m.cls := findClass_of_methodNamed B.named
  have hlocks := B.notSynchronized
  subst hsz
  have hD := hD0.self (sz := s.heap.size)
  generalize hAe : va_A [(o, .inr (7, [.int thr, .int (nI n), .ref ml, .ref mm, .ref mw, .ref mc, .int (nI k), .ref mg, .ref md, .int so, .int fo, .ref mb, .long bb, .long bc, .ref mt, .long be, .ref mr, .int (nI rs), .ref mo, .int (nI rc), .ref mx, .ref mp, .ref nk, .ref na, .ref nv, .ref nf, .ref ns, .ref ne, .ref nw, .ref mf]))] s.heap.size = A at hD ⊢
  have hA : ∀ q : Nat, s.heap.size ≤ q → A q := fun q h => by rw [← hAe]; exact Or.inr h
  have hS : va_S A s.heap s.heap [] := va_S.rf
  have hP : va_P D kc_all [(o, .inr (7, [.int thr, .int (nI n), .ref ml, .ref mm, .ref mw, .ref mc, .int (nI k), .ref mg, .ref md, .int so, .int fo, .ref mb, .long bb, .long bc, .ref mt, .long be, .ref mr, .int (nI rs), .ref mo, .int (nI rc), .ref mx, .ref mp, .ref nk, .ref na, .ref nv, .ref nf, .ref ns, .ref ne, .ref nw, .ref mf]))] s.heap := hP
  have hl := lv_entry ([.ref o, .long vv, .int wv]) (n := 6) (Nat.le_of_ble_eq_true rfl)
  rw [lg_entry_eq]
  generalize (lg_sl ([.ref o, .long vv, .int wv]) ++ List.replicate (6 - (lg_sl ([.ref o, .long vv, .int wv])).length) Slot.unset).toArray = ls at hl ⊢
  have hl : lv_has ls 6 [(0, .ref o), (1, .long vv), (3, .int wv)] := hl
  have htb : ∀ w ∈ tb_all, w.before ([.ref o, .long vv, .int wv]).toArray s = true := fun w h => hts w (List.mem_cons_of_mem _ h)
  have hf_101 := htb _ fl_Model_101
  refine lv_lload_n hx hb dd_Model_part_0 rfl (lv_at hl 1 rfl) ?_
  refine lv_aload_n hx hb dd_Model_part_1 rfl (lv_at hl 0 rfl) ?_
  refine va_get (D := D) (ci := 7) (v := .long bb) (C := RR_Model) (T := FF_Model) (N := 30) hx hb htb hi_Model hown hK hP 0 rfl rfl 12 (by decide) hf_101 (fun _ h9 => h9) rfl dd_Model_part_2 ?_
  refine mm_l (wc := []) (wr := [(o, .inr (7, [.int thr, .int (nI n), .ref ml, .ref mm, .ref mw, .ref mc, .int (nI k), .ref mg, .ref md, .int so, .int fo, .ref mb, .long bb, .long bc, .ref mt, .long be, .ref mr, .int (nI rs), .ref mo, .int (nI rc), .ref mx, .ref mp, .ref nk, .ref na, .ref nv, .ref nf, .ref ns, .ref ne, .ref nw, .ref mf]))]) (va_runS (As := [.long vv, .long bb]) (rest := []) ⟨hx, hb, hml, hown, hts⟩ (cc_Model_divisor l D cI cZ cL cQ _ vv bb ) (mm_cwS 2 hts ml_Model_140 sm_Model_divisor ic_Model cd_Model_divisor rfl rfl (by decide +kernel) ⟨Nat.le_of_ble_eq_true rfl, Nat.le_of_ble_eq_true rfl⟩) (mm_preS hK hP hD [] (by decide) rfl) rfl rfl hl.1 rfl (lv_room (Nat.le_of_ble_eq_true rfl)) dd_Model_part_5 ⟨Nat.zero_le _, Nat.zero_le _⟩) hP hD hS hA [] [0] rfl rfl (by decide) (by decide) (fun zr1 zu2 H locs p5 hP hD hS => ?_)
  have hP : va_P D kc_all [(o, .inr (7, [.int thr, .int (nI n), .ref ml, .ref mm, .ref mw, .ref mc, .int (nI k), .ref mg, .ref md, .int so, .int fo, .ref mb, .long bb, .long bc, .ref mt, .long be, .ref mr, .int (nI rs), .ref mo, .int (nI rc), .ref mx, .ref mp, .ref nk, .ref na, .ref nv, .ref nf, .ref ns, .ref ne, .ref nw, .ref mf]))] H := hP
  have hD : va_D A [(o, .inr (7, [.int thr, .int (nI n), .ref ml, .ref mm, .ref mw, .ref mc, .int (nI k), .ref mg, .ref md, .int so, .int fo, .ref mb, .long bb, .long bc, .ref mt, .long be, .ref mr, .int (nI rs), .ref mo, .int (nI rc), .ref mx, .ref mp, .ref nk, .ref na, .ref nv, .ref nf, .ref ns, .ref ne, .ref nw, .ref mf]))] := hD
  have p5 : gd_ok vv bb zr1 := p5
  have hd := gd_ne p5 hbb
  refine lv_lstore (lv' := [(4, .long zr1), (0, .ref o), (1, .long vv), (3, .int wv)]) hx hb dd_Model_part_8 hl (by decide) rfl (fun ls hl => ?_)
  refine lv_iload_n hx hb dd_Model_part_10 rfl (lv_at hl 3 rfl) ?_
  refine lv_if_ne (tgt := 21) hx hb dd_Model_part_11 (by decide) (fun h11 => ?_) (fun h11 => ?_)
  · skip
    refine lv_aload_n hx hb dd_Model_part_21 rfl (lv_at hl 1 rfl) ?_
    refine va_get (D := D) (ci := 7) (v := .long bb) (C := RR_Model) (T := FF_Model) (N := 30) hx hb htb hi_Model hown hK hP 0 rfl rfl 12 (by decide) hf_101 (fun _ h9 => h9) rfl dd_Model_part_22 ?_
    refine lv_lload hx hb dd_Model_part_25 (lv_at hl 0 rfl) ?_
    refine lv_ldiv hx hb dd_Model_part_27 (hd) ?_
    refine lv_l2i (v := (bb / zr1).toInt32) hx hb dd_Model_part_28 rfl ?_
    exact W.iret (v := ((bb / zr1).toInt32)) hx hb hr (fun t ht hW => ⟨⟨(bb / zr1).toInt32, (), rfl, by first | exact ⟨_, p5, hd, by rw [if_pos h11]⟩ | exact ⟨_, p5, hd, by rw [if_neg h11]⟩, by rw [ht]; exact hP, va_K.moved hW.alike hK, hD⟩, hS.F ht⟩) hS.2.2 dd_Model_part_29
  · skip
    refine lv_lload_n hx hb dd_Model_part_14 rfl (lv_at hl 2 rfl) ?_
    refine lv_lload hx hb dd_Model_part_15 (lv_at hl 0 rfl) ?_
    refine lv_ldiv hx hb dd_Model_part_17 (hd) ?_
    refine lv_goto (tgt := 28) hx hb dd_Model_part_18 (by decide) ?_
    refine lv_l2i (v := (vv / zr1).toInt32) hx hb dd_Model_part_28 rfl ?_
    exact W.iret (v := ((vv / zr1).toInt32)) hx hb hr (fun t ht hW => ⟨⟨(vv / zr1).toInt32, (), rfl, by first | exact ⟨_, p5, hd, by rw [if_pos h11]⟩ | exact ⟨_, p5, hd, by rw [if_neg h11]⟩, by rw [ht]; exact hP, va_K.moved hW.alike hK, hD⟩, hS.F ht⟩) hS.2.2 dd_Model_part_29
abbrev qq_Model_total (D : va_G) (cI cZ cL cQ : ClassId) (o : Nat) (ml : Nat) (mm : Nat) (mw : Nat) (mc : Nat) (mg : Nat) (md : Nat) (mb : Nat) (mt : Nat) (mr : Nat) (mo : Nat) (mx : Nat) (mp : Nat) (nk : Nat) (na : Nat) (nv : Nat) (nf : Nat) (ns : Nat) (ne : Nat) (nw : Nat) (mf : Nat) (thr : Int32) (n : Nat) (k : Nat) (so : Int32) (fo : Int32) (bb : Int64) (bc : Int64) (be : Int64) (rs : Nat) (rc : Nat) (wv : Int32) (A : Nat → Prop) : Array Value → State → Outcome → State → Prop := va_Qi (fun (r : Int32) (u : Unit) => pt_ok bc bb wv r) (fun (u : Unit) t => mm_B D kc_all [(cI, .int), (cZ, .boolean), (cL, .long), (cQ, .array .int)] A [(o, .inr (7, [.int 0, .int (nI n), .ref ml, .ref mm, .ref mw, .ref mc, .int (nI k), .ref mg, .ref md, .int so, .int fo, .ref mb, .long bb, .long bc, .ref mt, .long be, .ref mr, .int (nI rs), .ref mo, .int (nI rc), .ref mx, .ref mp, .ref nk, .ref na, .ref nv, .ref nf, .ref ns, .ref ne, .ref nw, .ref mf]))] t) A
set_option maxHeartbeats 4000000 in
set_option maxRecDepth 100000 in
theorem cc_Model_total (l : Launch) (D : va_G) (cI cZ cL cQ : ClassId) (sz : Nat) (o : Nat) (ml : Nat) (mm : Nat) (mw : Nat) (mc : Nat) (mg : Nat) (md : Nat) (mb : Nat) (mt : Nat) (mr : Nat) (mo : Nat) (mx : Nat) (mp : Nat) (nk : Nat) (na : Nat) (nv : Nat) (nf : Nat) (ns : Nat) (ne : Nat) (nw : Nat) (mf : Nat) (thr : Int32) (n : Nat) (k : Nat) (so : Int32) (fo : Int32) (bb : Int64) (bc : Int64) (be : Int64) (rs : Nat) (rc : Nat) (wv : Int32) (hok : (wv = 0 ∨ wv = 1) ∧ ¬ so = 0 ∧ ¬ fo = 0) (hbb : ¬ bb = 0) : Met l yy_Model_total ww_Model_total ({ frames := 2, cells := 0, slots := 0, locals := 54 } : Room) (mm_Pc D kc_all [(cI, .int), (cZ, .boolean), (cL, .long), (cQ, .array .int)] sz [(o, .inr (7, [.int thr, .int (nI n), .ref ml, .ref mm, .ref mw, .ref mc, .int (nI k), .ref mg, .ref md, .int so, .int fo, .ref mb, .long bb, .long bc, .ref mt, .long be, .ref mr, .int (nI rs), .ref mo, .int (nI rc), .ref mx, .ref mp, .ref nk, .ref na, .ref nv, .ref nf, .ref ns, .ref ne, .ref nw, .ref mf]))] [.ref o, .int wv]) (qq_Model_total D cI cZ cL cQ o ml mm mw mc mg md mb mt mr mo mx mp nk na nv nf ns ne nw mf thr n k so fo bb bc be rs rc wv (va_A [(o, .inr (7, [.int thr, .int (nI n), .ref ml, .ref mm, .ref mw, .ref mc, .int (nI k), .ref mg, .ref md, .int so, .int fo, .ref mb, .long bb, .long bc, .ref mt, .long be, .ref mr, .int (nI rs), .ref mo, .int (nI rc), .ref mx, .ref mp, .ref nk, .ref na, .ref nv, .ref nf, .ref ns, .ref ne, .ref nw, .ref mf]))] sz)) 0 0 (va_A [(o, .inr (7, [.int thr, .int (nI n), .ref ml, .ref mm, .ref mw, .ref mc, .int (nI k), .ref mg, .ref md, .int so, .int fo, .ref mb, .long bb, .long bc, .ref mt, .long be, .ref mr, .int (nI rs), .ref mo, .int (nI rc), .ref mx, .ref mp, .ref nk, .ref na, .ref nv, .ref nf, .ref ns, .ref ne, .ref nw, .ref mf]))] sz) := by
  refine Met.ofW (cc := bb_Model_total) (maxL := 2) (ret := (some .int)) (by decide) rfl ?_
  intro p e s m args below meth c s₁ B hml hv
  obtain ⟨rfl, hsz, hP, hK, hD0⟩ := hv
  have hx := B.exec
  have hb := B.bytes
  have hr := B.returns
  have hts := atoms_spec (ws := ww_Model_total) B.pre
  have hown : s.vm.findClass RR_Model = some m.cls := findClass_of_methodNamed B.named
  have hlocks := B.notSynchronized
  subst hsz
  have hD := hD0.self (sz := s.heap.size)
  generalize hAe : va_A [(o, .inr (7, [.int thr, .int (nI n), .ref ml, .ref mm, .ref mw, .ref mc, .int (nI k), .ref mg, .ref md, .int so, .int fo, .ref mb, .long bb, .long bc, .ref mt, .long be, .ref mr, .int (nI rs), .ref mo, .int (nI rc), .ref mx, .ref mp, .ref nk, .ref na, .ref nv, .ref nf, .ref ns, .ref ne, .ref nw, .ref mf]))] s.heap.size = A at hD ⊢
  have hA : ∀ q : Nat, s.heap.size ≤ q → A q := fun q h => by rw [← hAe]; exact Or.inr h
  have hS : va_S A s.heap s.heap [] := va_S.rf
  have hP : va_P D kc_all [(o, .inr (7, [.int thr, .int (nI n), .ref ml, .ref mm, .ref mw, .ref mc, .int (nI k), .ref mg, .ref md, .int so, .int fo, .ref mb, .long bb, .long bc, .ref mt, .long be, .ref mr, .int (nI rs), .ref mo, .int (nI rc), .ref mx, .ref mp, .ref nk, .ref na, .ref nv, .ref nf, .ref ns, .ref ne, .ref nw, .ref mf]))] s.heap := hP
  have hl := lv_entry ([.ref o, .int wv]) (n := 2) (Nat.le_of_ble_eq_true rfl)
  rw [lg_entry_eq]
  generalize (lg_sl ([.ref o, .int wv]) ++ List.replicate (2 - (lg_sl ([.ref o, .int wv])).length) Slot.unset).toArray = ls at hl ⊢
  have hl : lv_has ls 2 [(0, .ref o), (1, .int wv)] := hl
  have htb : ∀ w ∈ tb_all, w.before ([.ref o, .int wv]).toArray s = true := fun w h => hts w (List.mem_cons_of_mem _ h)
  have hf_76 := htb _ fl_Model_76
  have hf_86 := htb _ fl_Model_86
  have hf_104 := htb _ fl_Model_104
  have hf_107 := htb _ fl_Model_107
  refine lv_aload_n hx hb dd_Model_total_0 rfl (lv_at hl 0 rfl) ?_
  refine lv_iload_n hx hb dd_Model_total_1 rfl (lv_at hl 1 rfl) ?_
  refine lv_if_eq (tgt := 14) hx hb dd_Model_total_2 (by decide) (fun h2 => ?_) (fun h2 => ?_)
  · skip
    refine lv_aload_n hx hb dd_Model_total_14 rfl (lv_at hl 0 rfl) ?_
    refine va_get (D := D) (ci := 7) (v := .int so) (C := RR_Model) (T := FF_Model) (N := 30) hx hb htb hi_Model hown hK hP 0 rfl rfl 9 (by decide) hf_86 (fun _ h9 => h9) rfl dd_Model_total_15 ?_
    refine lv_if_eq (tgt := 28) hx hb dd_Model_total_18 (by decide) (fun h18 => ?_) (fun h18 => ?_)
    · skip
      exact absurd h18 hok.2.1
    · skip
      refine lv_aload_n hx hb dd_Model_total_21 rfl (lv_at hl 0 rfl) ?_
      refine va_get (D := D) (ci := 7) (v := .int fo) (C := RR_Model) (T := FF_Model) (N := 30) hx hb htb hi_Model hown hK hP 0 rfl rfl 10 (by decide) hf_107 (fun _ h9 => h9) rfl dd_Model_total_22 ?_
      refine lv_if_ne (tgt := 32) hx hb dd_Model_total_25 (by decide) (fun h25 => ?_) (fun h25 => ?_)
      · skip
        refine lv_iconst (v := 0) hx hb dd_Model_total_32 (by decide) ?_
        refine va_put (D := D) (ci := 7) (v := .int (0 : Int32)) (ty := .int) (C := RR_Model) (T := FF_Model) (N := 30) hx hb htb hi_Model tt_Model tt_Model_ok nn_Model hown hK hP hD hS 0 rfl rfl 0 (by decide) hf_76 (fun _ h9 => h9) rfl (by decide +kernel) (rfl) (rfl) (Nat.le_of_ble_eq_true rfl) dd_Model_total_33 (fun H locs hP hD hS => ?_)
        have hP : va_P D kc_all [(o, .inr (7, [.int (0 : Int32), .int (nI n), .ref ml, .ref mm, .ref mw, .ref mc, .int (nI k), .ref mg, .ref md, .int so, .int fo, .ref mb, .long bb, .long bc, .ref mt, .long be, .ref mr, .int (nI rs), .ref mo, .int (nI rc), .ref mx, .ref mp, .ref nk, .ref na, .ref nv, .ref nf, .ref ns, .ref ne, .ref nw, .ref mf]))] H := hP
        have hD : va_D A [(o, .inr (7, [.int (0 : Int32), .int (nI n), .ref ml, .ref mm, .ref mw, .ref mc, .int (nI k), .ref mg, .ref md, .int so, .int fo, .ref mb, .long bb, .long bc, .ref mt, .long be, .ref mr, .int (nI rs), .ref mo, .int (nI rc), .ref mx, .ref mp, .ref nk, .ref na, .ref nv, .ref nf, .ref ns, .ref ne, .ref nw, .ref mf]))] := hD
        refine lv_aload_n hx hb dd_Model_total_36 rfl (lv_at hl 0 rfl) ?_
        refine va_get (D := D) (ci := 7) (v := .int (0 : Int32)) (C := RR_Model) (T := FF_Model) (N := 30) hx hb htb hi_Model hown hK hP 0 rfl rfl 0 (by decide) hf_76 (fun _ h9 => h9) rfl dd_Model_total_37 ?_
        refine lv_if_le (tgt := 47) hx hb dd_Model_total_40 (by decide) (fun h40 => ?_) (fun h40 => ?_)
        · skip
          have h40 : 0 ≤ 0 := (nI_leI (a := 0) (b := 0) (by omega) (by omega)).mp h40
          refine lv_aload_n hx hb dd_Model_total_47 rfl (lv_at hl 0 rfl) ?_
          refine lv_aload_n hx hb dd_Model_total_48 rfl (lv_at hl 0 rfl) ?_
          refine va_get (D := D) (ci := 7) (v := .long bc) (C := RR_Model) (T := FF_Model) (N := 30) hx hb htb hi_Model hown hK hP 0 rfl rfl 13 (by decide) hf_104 (fun _ h9 => h9) rfl dd_Model_total_49 ?_
          refine lv_iload_n hx hb dd_Model_total_52 rfl (lv_at hl 1 rfl) ?_
          refine mm_i (wc := [(o, .inr (7, [.int (0 : Int32), .int (nI n), .ref ml, .ref mm, .ref mw, .ref mc, .int (nI k), .ref mg, .ref md, .int so, .int fo, .ref mb, .long bb, .long bc, .ref mt, .long be, .ref mr, .int (nI rs), .ref mo, .int (nI rc), .ref mx, .ref mp, .ref nk, .ref na, .ref nv, .ref nf, .ref ns, .ref ne, .ref nw, .ref mf]))]) (wr := []) (va_runV (As := [.long bc, .int wv]) (rest := []) (C := RR_Model) ⟨hx, hb, hml, hown, hts⟩ (cc_Model_part l D cI cZ cL cQ _ o ml mm mw mc mg md mb mt mr mo mx mp nk na nv nf ns ne nw mf (0 : Int32) n k so fo bb bc be rs rc bc wv (by omega)) (mm_cwV 2 hts ml_Model_144 im_Model_part se_Model_part ic_Model cd_Model_part rfl rfl (by decide +kernel) ⟨Nat.le_of_ble_eq_true rfl, Nat.le_of_ble_eq_true rfl⟩) (mm_preV hK hP hD [0] (by decide) rfl 0 rfl rfl) rfl rfl hl.1 rfl (lv_room (Nat.le_of_ble_eq_true rfl)) dd_Model_total_53 ⟨Nat.zero_le _, Nat.zero_le _⟩) hP hD hS hA [0] [] rfl rfl (by decide) (by decide) (fun zr1 zu2 H locs p53 hP hD hS => ?_)
          have hP : va_P D kc_all [(o, .inr (7, [.int (0 : Int32), .int (nI n), .ref ml, .ref mm, .ref mw, .ref mc, .int (nI k), .ref mg, .ref md, .int so, .int fo, .ref mb, .long bb, .long bc, .ref mt, .long be, .ref mr, .int (nI rs), .ref mo, .int (nI rc), .ref mx, .ref mp, .ref nk, .ref na, .ref nv, .ref nf, .ref ns, .ref ne, .ref nw, .ref mf]))] H := hP
          have hD : va_D A [(o, .inr (7, [.int (0 : Int32), .int (nI n), .ref ml, .ref mm, .ref mw, .ref mc, .int (nI k), .ref mg, .ref md, .int so, .int fo, .ref mb, .long bb, .long bc, .ref mt, .long be, .ref mr, .int (nI rs), .ref mo, .int (nI rc), .ref mx, .ref mp, .ref nk, .ref na, .ref nv, .ref nf, .ref ns, .ref ne, .ref nw, .ref mf]))] := hD
          have p53 : pt_ok bc bb wv zr1 := p53
          exact W.iret (v := zr1) hx hb hr (fun t ht hW => ⟨⟨zr1, (), rfl, p53, by rw [ht]; exact hP, va_K.moved hW.alike hK, hD⟩, hS.F ht⟩) hS.2.2 dd_Model_total_56
        · skip
          have h40 : ¬ (0 ≤ 0) := fun q9 => h40 ((nI_leI (a := 0) (b := 0) (by omega) (by omega)).mpr q9)
          omega
      · skip
        exact absurd h25 hok.2.2
  · skip
    refine lv_iload_n hx hb dd_Model_total_5 rfl (lv_at hl 1 rfl) ?_
    refine lv_iconst (v := 1) hx hb dd_Model_total_6 (by decide) ?_
    refine lv_icmp_eq (tgt := 14) hx hb dd_Model_total_7 (by decide) (fun h7 => ?_) (fun h7 => ?_)
    · skip
      refine lv_aload_n hx hb dd_Model_total_14 rfl (lv_at hl 0 rfl) ?_
      refine va_get (D := D) (ci := 7) (v := .int so) (C := RR_Model) (T := FF_Model) (N := 30) hx hb htb hi_Model hown hK hP 0 rfl rfl 9 (by decide) hf_86 (fun _ h9 => h9) rfl dd_Model_total_15 ?_
      refine lv_if_eq (tgt := 28) hx hb dd_Model_total_18 (by decide) (fun h18 => ?_) (fun h18 => ?_)
      · skip
        exact absurd h18 hok.2.1
      · skip
        refine lv_aload_n hx hb dd_Model_total_21 rfl (lv_at hl 0 rfl) ?_
        refine va_get (D := D) (ci := 7) (v := .int fo) (C := RR_Model) (T := FF_Model) (N := 30) hx hb htb hi_Model hown hK hP 0 rfl rfl 10 (by decide) hf_107 (fun _ h9 => h9) rfl dd_Model_total_22 ?_
        refine lv_if_ne (tgt := 32) hx hb dd_Model_total_25 (by decide) (fun h25 => ?_) (fun h25 => ?_)
        · skip
          refine lv_iconst (v := 0) hx hb dd_Model_total_32 (by decide) ?_
          refine va_put (D := D) (ci := 7) (v := .int (0 : Int32)) (ty := .int) (C := RR_Model) (T := FF_Model) (N := 30) hx hb htb hi_Model tt_Model tt_Model_ok nn_Model hown hK hP hD hS 0 rfl rfl 0 (by decide) hf_76 (fun _ h9 => h9) rfl (by decide +kernel) (rfl) (rfl) (Nat.le_of_ble_eq_true rfl) dd_Model_total_33 (fun H locs hP hD hS => ?_)
          have hP : va_P D kc_all [(o, .inr (7, [.int (0 : Int32), .int (nI n), .ref ml, .ref mm, .ref mw, .ref mc, .int (nI k), .ref mg, .ref md, .int so, .int fo, .ref mb, .long bb, .long bc, .ref mt, .long be, .ref mr, .int (nI rs), .ref mo, .int (nI rc), .ref mx, .ref mp, .ref nk, .ref na, .ref nv, .ref nf, .ref ns, .ref ne, .ref nw, .ref mf]))] H := hP
          have hD : va_D A [(o, .inr (7, [.int (0 : Int32), .int (nI n), .ref ml, .ref mm, .ref mw, .ref mc, .int (nI k), .ref mg, .ref md, .int so, .int fo, .ref mb, .long bb, .long bc, .ref mt, .long be, .ref mr, .int (nI rs), .ref mo, .int (nI rc), .ref mx, .ref mp, .ref nk, .ref na, .ref nv, .ref nf, .ref ns, .ref ne, .ref nw, .ref mf]))] := hD
          refine lv_aload_n hx hb dd_Model_total_36 rfl (lv_at hl 0 rfl) ?_
          refine va_get (D := D) (ci := 7) (v := .int (0 : Int32)) (C := RR_Model) (T := FF_Model) (N := 30) hx hb htb hi_Model hown hK hP 0 rfl rfl 0 (by decide) hf_76 (fun _ h9 => h9) rfl dd_Model_total_37 ?_
          refine lv_if_le (tgt := 47) hx hb dd_Model_total_40 (by decide) (fun h40 => ?_) (fun h40 => ?_)
          · skip
            have h40 : 0 ≤ 0 := (nI_leI (a := 0) (b := 0) (by omega) (by omega)).mp h40
            refine lv_aload_n hx hb dd_Model_total_47 rfl (lv_at hl 0 rfl) ?_
            refine lv_aload_n hx hb dd_Model_total_48 rfl (lv_at hl 0 rfl) ?_
            refine va_get (D := D) (ci := 7) (v := .long bc) (C := RR_Model) (T := FF_Model) (N := 30) hx hb htb hi_Model hown hK hP 0 rfl rfl 13 (by decide) hf_104 (fun _ h9 => h9) rfl dd_Model_total_49 ?_
            refine lv_iload_n hx hb dd_Model_total_52 rfl (lv_at hl 1 rfl) ?_
            refine mm_i (wc := [(o, .inr (7, [.int (0 : Int32), .int (nI n), .ref ml, .ref mm, .ref mw, .ref mc, .int (nI k), .ref mg, .ref md, .int so, .int fo, .ref mb, .long bb, .long bc, .ref mt, .long be, .ref mr, .int (nI rs), .ref mo, .int (nI rc), .ref mx, .ref mp, .ref nk, .ref na, .ref nv, .ref nf, .ref ns, .ref ne, .ref nw, .ref mf]))]) (wr := []) (va_runV (As := [.long bc, .int wv]) (rest := []) (C := RR_Model) ⟨hx, hb, hml, hown, hts⟩ (cc_Model_part l D cI cZ cL cQ _ o ml mm mw mc mg md mb mt mr mo mx mp nk na nv nf ns ne nw mf (0 : Int32) n k so fo bb bc be rs rc bc wv (by omega)) (mm_cwV 2 hts ml_Model_144 im_Model_part se_Model_part ic_Model cd_Model_part rfl rfl (by decide +kernel) ⟨Nat.le_of_ble_eq_true rfl, Nat.le_of_ble_eq_true rfl⟩) (mm_preV hK hP hD [0] (by decide) rfl 0 rfl rfl) rfl rfl hl.1 rfl (lv_room (Nat.le_of_ble_eq_true rfl)) dd_Model_total_53 ⟨Nat.zero_le _, Nat.zero_le _⟩) hP hD hS hA [0] [] rfl rfl (by decide) (by decide) (fun zr3 zu4 H locs p53 hP hD hS => ?_)
            have hP : va_P D kc_all [(o, .inr (7, [.int (0 : Int32), .int (nI n), .ref ml, .ref mm, .ref mw, .ref mc, .int (nI k), .ref mg, .ref md, .int so, .int fo, .ref mb, .long bb, .long bc, .ref mt, .long be, .ref mr, .int (nI rs), .ref mo, .int (nI rc), .ref mx, .ref mp, .ref nk, .ref na, .ref nv, .ref nf, .ref ns, .ref ne, .ref nw, .ref mf]))] H := hP
            have hD : va_D A [(o, .inr (7, [.int (0 : Int32), .int (nI n), .ref ml, .ref mm, .ref mw, .ref mc, .int (nI k), .ref mg, .ref md, .int so, .int fo, .ref mb, .long bb, .long bc, .ref mt, .long be, .ref mr, .int (nI rs), .ref mo, .int (nI rc), .ref mx, .ref mp, .ref nk, .ref na, .ref nv, .ref nf, .ref ns, .ref ne, .ref nw, .ref mf]))] := hD
            have p53 : pt_ok bc bb wv zr3 := p53
            exact W.iret (v := zr3) hx hb hr (fun t ht hW => ⟨⟨zr3, (), rfl, p53, by rw [ht]; exact hP, va_K.moved hW.alike hK, hD⟩, hS.F ht⟩) hS.2.2 dd_Model_total_56
          · skip
            have h40 : ¬ (0 ≤ 0) := fun q9 => h40 ((nI_leI (a := 0) (b := 0) (by omega) (by omega)).mpr q9)
            omega
        · skip
          exact absurd h25 hok.2.2
    · skip
      exact (hok.1.elim h2 h7).elim
abbrev qq_Model_totalN (D : va_G) (cI cZ cL cQ : ClassId) (o : Nat) (ml : Nat) (mm : Nat) (mw : Nat) (mc : Nat) (mg : Nat) (md : Nat) (mb : Nat) (mt : Nat) (mr : Nat) (mo : Nat) (mx : Nat) (mp : Nat) (nk : Nat) (na : Nat) (nv : Nat) (nf : Nat) (ns : Nat) (ne : Nat) (nw : Nat) (mf : Nat) (thr : Int32) (n : Nat) (k : Nat) (so : Int32) (fo : Int32) (bb : Int64) (bc : Int64) (be : Int64) (rs : Nat) (rc : Nat) (wv : Int32) (A : Nat → Prop) : Array Value → State → Outcome → State → Prop := va_Qi (fun (r : Int32) (u : Int32) => (¬ (wv = 0 ∨ wv = 1) → u = 1) ∧ ((wv = 0 ∨ wv = 1) → u = 2)) (fun (u : Int32) t => mm_B D kc_all [(cI, .int), (cZ, .boolean), (cL, .long), (cQ, .array .int)] A [(o, .inr (7, [.int u, .int (nI n), .ref ml, .ref mm, .ref mw, .ref mc, .int (nI k), .ref mg, .ref md, .int so, .int fo, .ref mb, .long bb, .long bc, .ref mt, .long be, .ref mr, .int (nI rs), .ref mo, .int (nI rc), .ref mx, .ref mp, .ref nk, .ref na, .ref nv, .ref nf, .ref ns, .ref ne, .ref nw, .ref mf]))] t) A
set_option maxHeartbeats 4000000 in
set_option maxRecDepth 100000 in
theorem cc_Model_totalN (l : Launch) (D : va_G) (cI cZ cL cQ : ClassId) (sz : Nat) (o : Nat) (ml : Nat) (mm : Nat) (mw : Nat) (mc : Nat) (mg : Nat) (md : Nat) (mb : Nat) (mt : Nat) (mr : Nat) (mo : Nat) (mx : Nat) (mp : Nat) (nk : Nat) (na : Nat) (nv : Nat) (nf : Nat) (ns : Nat) (ne : Nat) (nw : Nat) (mf : Nat) (thr : Int32) (n : Nat) (k : Nat) (so : Int32) (fo : Int32) (bb : Int64) (bc : Int64) (be : Int64) (rs : Nat) (rc : Nat) (wv : Int32) (hno : ¬ ((wv = 0 ∨ wv = 1) ∧ ¬ so = 0 ∧ ¬ fo = 0)) : Met l yy_Model_total ww_Model_total ({ frames := 2, cells := 0, slots := 0, locals := 54 } : Room) (mm_Pc D kc_all [(cI, .int), (cZ, .boolean), (cL, .long), (cQ, .array .int)] sz [(o, .inr (7, [.int thr, .int (nI n), .ref ml, .ref mm, .ref mw, .ref mc, .int (nI k), .ref mg, .ref md, .int so, .int fo, .ref mb, .long bb, .long bc, .ref mt, .long be, .ref mr, .int (nI rs), .ref mo, .int (nI rc), .ref mx, .ref mp, .ref nk, .ref na, .ref nv, .ref nf, .ref ns, .ref ne, .ref nw, .ref mf]))] [.ref o, .int wv]) (qq_Model_totalN D cI cZ cL cQ o ml mm mw mc mg md mb mt mr mo mx mp nk na nv nf ns ne nw mf thr n k so fo bb bc be rs rc wv (va_A [(o, .inr (7, [.int thr, .int (nI n), .ref ml, .ref mm, .ref mw, .ref mc, .int (nI k), .ref mg, .ref md, .int so, .int fo, .ref mb, .long bb, .long bc, .ref mt, .long be, .ref mr, .int (nI rs), .ref mo, .int (nI rc), .ref mx, .ref mp, .ref nk, .ref na, .ref nv, .ref nf, .ref ns, .ref ne, .ref nw, .ref mf]))] sz)) 0 0 (va_A [(o, .inr (7, [.int thr, .int (nI n), .ref ml, .ref mm, .ref mw, .ref mc, .int (nI k), .ref mg, .ref md, .int so, .int fo, .ref mb, .long bb, .long bc, .ref mt, .long be, .ref mr, .int (nI rs), .ref mo, .int (nI rc), .ref mx, .ref mp, .ref nk, .ref na, .ref nv, .ref nf, .ref ns, .ref ne, .ref nw, .ref mf]))] sz) := by
  refine Met.ofW (cc := bb_Model_total) (maxL := 2) (ret := (some .int)) (by decide) rfl ?_
  intro p e s m args below meth c s₁ B hml hv
  obtain ⟨rfl, hsz, hP, hK, hD0⟩ := hv
  have hx := B.exec
  have hb := B.bytes
  have hr := B.returns
  have hts := atoms_spec (ws := ww_Model_total) B.pre
  have hown : s.vm.findClass RR_Model = some m.cls := findClass_of_methodNamed B.named
  have hlocks := B.notSynchronized
  subst hsz
  have hD := hD0.self (sz := s.heap.size)
  generalize hAe : va_A [(o, .inr (7, [.int thr, .int (nI n), .ref ml, .ref mm, .ref mw, .ref mc, .int (nI k), .ref mg, .ref md, .int so, .int fo, .ref mb, .long bb, .long bc, .ref mt, .long be, .ref mr, .int (nI rs), .ref mo, .int (nI rc), .ref mx, .ref mp, .ref nk, .ref na, .ref nv, .ref nf, .ref ns, .ref ne, .ref nw, .ref mf]))] s.heap.size = A at hD ⊢
  have hA : ∀ q : Nat, s.heap.size ≤ q → A q := fun q h => by rw [← hAe]; exact Or.inr h
  have hS : va_S A s.heap s.heap [] := va_S.rf
  have hP : va_P D kc_all [(o, .inr (7, [.int thr, .int (nI n), .ref ml, .ref mm, .ref mw, .ref mc, .int (nI k), .ref mg, .ref md, .int so, .int fo, .ref mb, .long bb, .long bc, .ref mt, .long be, .ref mr, .int (nI rs), .ref mo, .int (nI rc), .ref mx, .ref mp, .ref nk, .ref na, .ref nv, .ref nf, .ref ns, .ref ne, .ref nw, .ref mf]))] s.heap := hP
  have hl := lv_entry ([.ref o, .int wv]) (n := 2) (Nat.le_of_ble_eq_true rfl)
  rw [lg_entry_eq]
  generalize (lg_sl ([.ref o, .int wv]) ++ List.replicate (2 - (lg_sl ([.ref o, .int wv])).length) Slot.unset).toArray = ls at hl ⊢
  have hl : lv_has ls 2 [(0, .ref o), (1, .int wv)] := hl
  have htb : ∀ w ∈ tb_all, w.before ([.ref o, .int wv]).toArray s = true := fun w h => hts w (List.mem_cons_of_mem _ h)
  have hf_76 := htb _ fl_Model_76
  have hf_86 := htb _ fl_Model_86
  have hf_104 := htb _ fl_Model_104
  have hf_107 := htb _ fl_Model_107
  refine lv_aload_n hx hb dd_Model_total_0 rfl (lv_at hl 0 rfl) ?_
  refine lv_iload_n hx hb dd_Model_total_1 rfl (lv_at hl 1 rfl) ?_
  refine lv_if_eq (tgt := 14) hx hb dd_Model_total_2 (by decide) (fun h2 => ?_) (fun h2 => ?_)
  · skip
    refine lv_aload_n hx hb dd_Model_total_14 rfl (lv_at hl 0 rfl) ?_
    refine va_get (D := D) (ci := 7) (v := .int so) (C := RR_Model) (T := FF_Model) (N := 30) hx hb htb hi_Model hown hK hP 0 rfl rfl 9 (by decide) hf_86 (fun _ h9 => h9) rfl dd_Model_total_15 ?_
    refine lv_if_eq (tgt := 28) hx hb dd_Model_total_18 (by decide) (fun h18 => ?_) (fun h18 => ?_)
    · skip
      refine lv_iconst (v := 2) hx hb dd_Model_total_28 (by decide) ?_
      refine lv_goto (tgt := 33) hx hb dd_Model_total_29 (by decide) ?_
      refine va_put (D := D) (ci := 7) (v := .int (2 : Int32)) (ty := .int) (C := RR_Model) (T := FF_Model) (N := 30) hx hb htb hi_Model tt_Model tt_Model_ok nn_Model hown hK hP hD hS 0 rfl rfl 0 (by decide) hf_76 (fun _ h9 => h9) rfl (by decide +kernel) (rfl) (rfl) (Nat.le_of_ble_eq_true rfl) dd_Model_total_33 (fun H locs hP hD hS => ?_)
      have hP : va_P D kc_all [(o, .inr (7, [.int (2 : Int32), .int (nI n), .ref ml, .ref mm, .ref mw, .ref mc, .int (nI k), .ref mg, .ref md, .int so, .int fo, .ref mb, .long bb, .long bc, .ref mt, .long be, .ref mr, .int (nI rs), .ref mo, .int (nI rc), .ref mx, .ref mp, .ref nk, .ref na, .ref nv, .ref nf, .ref ns, .ref ne, .ref nw, .ref mf]))] H := hP
      have hD : va_D A [(o, .inr (7, [.int (2 : Int32), .int (nI n), .ref ml, .ref mm, .ref mw, .ref mc, .int (nI k), .ref mg, .ref md, .int so, .int fo, .ref mb, .long bb, .long bc, .ref mt, .long be, .ref mr, .int (nI rs), .ref mo, .int (nI rc), .ref mx, .ref mp, .ref nk, .ref na, .ref nv, .ref nf, .ref ns, .ref ne, .ref nw, .ref mf]))] := hD
      refine lv_aload_n hx hb dd_Model_total_36 rfl (lv_at hl 0 rfl) ?_
      refine va_get (D := D) (ci := 7) (v := .int (2 : Int32)) (C := RR_Model) (T := FF_Model) (N := 30) hx hb htb hi_Model hown hK hP 0 rfl rfl 0 (by decide) hf_76 (fun _ h9 => h9) rfl dd_Model_total_37 ?_
      refine lv_if_le (tgt := 47) hx hb dd_Model_total_40 (by decide) (fun h40 => ?_) (fun h40 => ?_)
      · skip
        have h40 : 2 ≤ 0 := (nI_leI (a := 2) (b := 0) (by omega) (by omega)).mp h40
        omega
      · skip
        have h40 : ¬ (2 ≤ 0) := fun q9 => h40 ((nI_leI (a := 2) (b := 0) (by omega) (by omega)).mpr q9)
        refine lv_iconst (v := 0) hx hb dd_Model_total_43 (by decide) ?_
        refine lv_goto (tgt := 56) hx hb dd_Model_total_44 (by decide) ?_
        exact W.iret (v := (0 : Int32)) hx hb hr (fun t ht hW => ⟨⟨(0 : Int32), (2 : Int32), rfl, by first | exact ⟨fun _ => rfl, fun q => (q.elim h2 h7).elim⟩ | exact ⟨fun q => absurd (Or.inl h2) q, fun _ => rfl⟩ | exact ⟨fun q => absurd (Or.inr h7) q, fun _ => rfl⟩, by rw [ht]; exact hP, va_K.moved hW.alike hK, hD⟩, hS.F ht⟩) hS.2.2 dd_Model_total_56
    · skip
      refine lv_aload_n hx hb dd_Model_total_21 rfl (lv_at hl 0 rfl) ?_
      refine va_get (D := D) (ci := 7) (v := .int fo) (C := RR_Model) (T := FF_Model) (N := 30) hx hb htb hi_Model hown hK hP 0 rfl rfl 10 (by decide) hf_107 (fun _ h9 => h9) rfl dd_Model_total_22 ?_
      refine lv_if_ne (tgt := 32) hx hb dd_Model_total_25 (by decide) (fun h25 => ?_) (fun h25 => ?_)
      · skip
        exact absurd ⟨by first | exact Or.inl h2 | exact Or.inr h7, h18, h25⟩ hno
      · skip
        refine lv_iconst (v := 2) hx hb dd_Model_total_28 (by decide) ?_
        refine lv_goto (tgt := 33) hx hb dd_Model_total_29 (by decide) ?_
        refine va_put (D := D) (ci := 7) (v := .int (2 : Int32)) (ty := .int) (C := RR_Model) (T := FF_Model) (N := 30) hx hb htb hi_Model tt_Model tt_Model_ok nn_Model hown hK hP hD hS 0 rfl rfl 0 (by decide) hf_76 (fun _ h9 => h9) rfl (by decide +kernel) (rfl) (rfl) (Nat.le_of_ble_eq_true rfl) dd_Model_total_33 (fun H locs hP hD hS => ?_)
        have hP : va_P D kc_all [(o, .inr (7, [.int (2 : Int32), .int (nI n), .ref ml, .ref mm, .ref mw, .ref mc, .int (nI k), .ref mg, .ref md, .int so, .int fo, .ref mb, .long bb, .long bc, .ref mt, .long be, .ref mr, .int (nI rs), .ref mo, .int (nI rc), .ref mx, .ref mp, .ref nk, .ref na, .ref nv, .ref nf, .ref ns, .ref ne, .ref nw, .ref mf]))] H := hP
        have hD : va_D A [(o, .inr (7, [.int (2 : Int32), .int (nI n), .ref ml, .ref mm, .ref mw, .ref mc, .int (nI k), .ref mg, .ref md, .int so, .int fo, .ref mb, .long bb, .long bc, .ref mt, .long be, .ref mr, .int (nI rs), .ref mo, .int (nI rc), .ref mx, .ref mp, .ref nk, .ref na, .ref nv, .ref nf, .ref ns, .ref ne, .ref nw, .ref mf]))] := hD
        refine lv_aload_n hx hb dd_Model_total_36 rfl (lv_at hl 0 rfl) ?_
        refine va_get (D := D) (ci := 7) (v := .int (2 : Int32)) (C := RR_Model) (T := FF_Model) (N := 30) hx hb htb hi_Model hown hK hP 0 rfl rfl 0 (by decide) hf_76 (fun _ h9 => h9) rfl dd_Model_total_37 ?_
        refine lv_if_le (tgt := 47) hx hb dd_Model_total_40 (by decide) (fun h40 => ?_) (fun h40 => ?_)
        · skip
          have h40 : 2 ≤ 0 := (nI_leI (a := 2) (b := 0) (by omega) (by omega)).mp h40
          omega
        · skip
          have h40 : ¬ (2 ≤ 0) := fun q9 => h40 ((nI_leI (a := 2) (b := 0) (by omega) (by omega)).mpr q9)
          refine lv_iconst (v := 0) hx hb dd_Model_total_43 (by decide) ?_
          refine lv_goto (tgt := 56) hx hb dd_Model_total_44 (by decide) ?_
          exact W.iret (v := (0 : Int32)) hx hb hr (fun t ht hW => ⟨⟨(0 : Int32), (2 : Int32), rfl, by first | exact ⟨fun _ => rfl, fun q => (q.elim h2 h7).elim⟩ | exact ⟨fun q => absurd (Or.inl h2) q, fun _ => rfl⟩ | exact ⟨fun q => absurd (Or.inr h7) q, fun _ => rfl⟩, by rw [ht]; exact hP, va_K.moved hW.alike hK, hD⟩, hS.F ht⟩) hS.2.2 dd_Model_total_56
  · skip
    refine lv_iload_n hx hb dd_Model_total_5 rfl (lv_at hl 1 rfl) ?_
    refine lv_iconst (v := 1) hx hb dd_Model_total_6 (by decide) ?_
    refine lv_icmp_eq (tgt := 14) hx hb dd_Model_total_7 (by decide) (fun h7 => ?_) (fun h7 => ?_)
    · skip
      refine lv_aload_n hx hb dd_Model_total_14 rfl (lv_at hl 0 rfl) ?_
      refine va_get (D := D) (ci := 7) (v := .int so) (C := RR_Model) (T := FF_Model) (N := 30) hx hb htb hi_Model hown hK hP 0 rfl rfl 9 (by decide) hf_86 (fun _ h9 => h9) rfl dd_Model_total_15 ?_
      refine lv_if_eq (tgt := 28) hx hb dd_Model_total_18 (by decide) (fun h18 => ?_) (fun h18 => ?_)
      · skip
        refine lv_iconst (v := 2) hx hb dd_Model_total_28 (by decide) ?_
        refine lv_goto (tgt := 33) hx hb dd_Model_total_29 (by decide) ?_
        refine va_put (D := D) (ci := 7) (v := .int (2 : Int32)) (ty := .int) (C := RR_Model) (T := FF_Model) (N := 30) hx hb htb hi_Model tt_Model tt_Model_ok nn_Model hown hK hP hD hS 0 rfl rfl 0 (by decide) hf_76 (fun _ h9 => h9) rfl (by decide +kernel) (rfl) (rfl) (Nat.le_of_ble_eq_true rfl) dd_Model_total_33 (fun H locs hP hD hS => ?_)
        have hP : va_P D kc_all [(o, .inr (7, [.int (2 : Int32), .int (nI n), .ref ml, .ref mm, .ref mw, .ref mc, .int (nI k), .ref mg, .ref md, .int so, .int fo, .ref mb, .long bb, .long bc, .ref mt, .long be, .ref mr, .int (nI rs), .ref mo, .int (nI rc), .ref mx, .ref mp, .ref nk, .ref na, .ref nv, .ref nf, .ref ns, .ref ne, .ref nw, .ref mf]))] H := hP
        have hD : va_D A [(o, .inr (7, [.int (2 : Int32), .int (nI n), .ref ml, .ref mm, .ref mw, .ref mc, .int (nI k), .ref mg, .ref md, .int so, .int fo, .ref mb, .long bb, .long bc, .ref mt, .long be, .ref mr, .int (nI rs), .ref mo, .int (nI rc), .ref mx, .ref mp, .ref nk, .ref na, .ref nv, .ref nf, .ref ns, .ref ne, .ref nw, .ref mf]))] := hD
        refine lv_aload_n hx hb dd_Model_total_36 rfl (lv_at hl 0 rfl) ?_
        refine va_get (D := D) (ci := 7) (v := .int (2 : Int32)) (C := RR_Model) (T := FF_Model) (N := 30) hx hb htb hi_Model hown hK hP 0 rfl rfl 0 (by decide) hf_76 (fun _ h9 => h9) rfl dd_Model_total_37 ?_
        refine lv_if_le (tgt := 47) hx hb dd_Model_total_40 (by decide) (fun h40 => ?_) (fun h40 => ?_)
        · skip
          have h40 : 2 ≤ 0 := (nI_leI (a := 2) (b := 0) (by omega) (by omega)).mp h40
          omega
        · skip
          have h40 : ¬ (2 ≤ 0) := fun q9 => h40 ((nI_leI (a := 2) (b := 0) (by omega) (by omega)).mpr q9)
          refine lv_iconst (v := 0) hx hb dd_Model_total_43 (by decide) ?_
          refine lv_goto (tgt := 56) hx hb dd_Model_total_44 (by decide) ?_
          exact W.iret (v := (0 : Int32)) hx hb hr (fun t ht hW => ⟨⟨(0 : Int32), (2 : Int32), rfl, by first | exact ⟨fun _ => rfl, fun q => (q.elim h2 h7).elim⟩ | exact ⟨fun q => absurd (Or.inl h2) q, fun _ => rfl⟩ | exact ⟨fun q => absurd (Or.inr h7) q, fun _ => rfl⟩, by rw [ht]; exact hP, va_K.moved hW.alike hK, hD⟩, hS.F ht⟩) hS.2.2 dd_Model_total_56
      · skip
        refine lv_aload_n hx hb dd_Model_total_21 rfl (lv_at hl 0 rfl) ?_
        refine va_get (D := D) (ci := 7) (v := .int fo) (C := RR_Model) (T := FF_Model) (N := 30) hx hb htb hi_Model hown hK hP 0 rfl rfl 10 (by decide) hf_107 (fun _ h9 => h9) rfl dd_Model_total_22 ?_
        refine lv_if_ne (tgt := 32) hx hb dd_Model_total_25 (by decide) (fun h25 => ?_) (fun h25 => ?_)
        · skip
          exact absurd ⟨by first | exact Or.inl h2 | exact Or.inr h7, h18, h25⟩ hno
        · skip
          refine lv_iconst (v := 2) hx hb dd_Model_total_28 (by decide) ?_
          refine lv_goto (tgt := 33) hx hb dd_Model_total_29 (by decide) ?_
          refine va_put (D := D) (ci := 7) (v := .int (2 : Int32)) (ty := .int) (C := RR_Model) (T := FF_Model) (N := 30) hx hb htb hi_Model tt_Model tt_Model_ok nn_Model hown hK hP hD hS 0 rfl rfl 0 (by decide) hf_76 (fun _ h9 => h9) rfl (by decide +kernel) (rfl) (rfl) (Nat.le_of_ble_eq_true rfl) dd_Model_total_33 (fun H locs hP hD hS => ?_)
          have hP : va_P D kc_all [(o, .inr (7, [.int (2 : Int32), .int (nI n), .ref ml, .ref mm, .ref mw, .ref mc, .int (nI k), .ref mg, .ref md, .int so, .int fo, .ref mb, .long bb, .long bc, .ref mt, .long be, .ref mr, .int (nI rs), .ref mo, .int (nI rc), .ref mx, .ref mp, .ref nk, .ref na, .ref nv, .ref nf, .ref ns, .ref ne, .ref nw, .ref mf]))] H := hP
          have hD : va_D A [(o, .inr (7, [.int (2 : Int32), .int (nI n), .ref ml, .ref mm, .ref mw, .ref mc, .int (nI k), .ref mg, .ref md, .int so, .int fo, .ref mb, .long bb, .long bc, .ref mt, .long be, .ref mr, .int (nI rs), .ref mo, .int (nI rc), .ref mx, .ref mp, .ref nk, .ref na, .ref nv, .ref nf, .ref ns, .ref ne, .ref nw, .ref mf]))] := hD
          refine lv_aload_n hx hb dd_Model_total_36 rfl (lv_at hl 0 rfl) ?_
          refine va_get (D := D) (ci := 7) (v := .int (2 : Int32)) (C := RR_Model) (T := FF_Model) (N := 30) hx hb htb hi_Model hown hK hP 0 rfl rfl 0 (by decide) hf_76 (fun _ h9 => h9) rfl dd_Model_total_37 ?_
          refine lv_if_le (tgt := 47) hx hb dd_Model_total_40 (by decide) (fun h40 => ?_) (fun h40 => ?_)
          · skip
            have h40 : 2 ≤ 0 := (nI_leI (a := 2) (b := 0) (by omega) (by omega)).mp h40
            omega
          · skip
            have h40 : ¬ (2 ≤ 0) := fun q9 => h40 ((nI_leI (a := 2) (b := 0) (by omega) (by omega)).mpr q9)
            refine lv_iconst (v := 0) hx hb dd_Model_total_43 (by decide) ?_
            refine lv_goto (tgt := 56) hx hb dd_Model_total_44 (by decide) ?_
            exact W.iret (v := (0 : Int32)) hx hb hr (fun t ht hW => ⟨⟨(0 : Int32), (2 : Int32), rfl, by first | exact ⟨fun _ => rfl, fun q => (q.elim h2 h7).elim⟩ | exact ⟨fun q => absurd (Or.inl h2) q, fun _ => rfl⟩ | exact ⟨fun q => absurd (Or.inr h7) q, fun _ => rfl⟩, by rw [ht]; exact hP, va_K.moved hW.alike hK, hD⟩, hS.F ht⟩) hS.2.2 dd_Model_total_56
    · skip
      refine lv_iconst (v := 1) hx hb dd_Model_total_10 (by decide) ?_
      refine lv_goto (tgt := 33) hx hb dd_Model_total_11 (by decide) ?_
      refine va_put (D := D) (ci := 7) (v := .int (1 : Int32)) (ty := .int) (C := RR_Model) (T := FF_Model) (N := 30) hx hb htb hi_Model tt_Model tt_Model_ok nn_Model hown hK hP hD hS 0 rfl rfl 0 (by decide) hf_76 (fun _ h9 => h9) rfl (by decide +kernel) (rfl) (rfl) (Nat.le_of_ble_eq_true rfl) dd_Model_total_33 (fun H locs hP hD hS => ?_)
      have hP : va_P D kc_all [(o, .inr (7, [.int (1 : Int32), .int (nI n), .ref ml, .ref mm, .ref mw, .ref mc, .int (nI k), .ref mg, .ref md, .int so, .int fo, .ref mb, .long bb, .long bc, .ref mt, .long be, .ref mr, .int (nI rs), .ref mo, .int (nI rc), .ref mx, .ref mp, .ref nk, .ref na, .ref nv, .ref nf, .ref ns, .ref ne, .ref nw, .ref mf]))] H := hP
      have hD : va_D A [(o, .inr (7, [.int (1 : Int32), .int (nI n), .ref ml, .ref mm, .ref mw, .ref mc, .int (nI k), .ref mg, .ref md, .int so, .int fo, .ref mb, .long bb, .long bc, .ref mt, .long be, .ref mr, .int (nI rs), .ref mo, .int (nI rc), .ref mx, .ref mp, .ref nk, .ref na, .ref nv, .ref nf, .ref ns, .ref ne, .ref nw, .ref mf]))] := hD
      refine lv_aload_n hx hb dd_Model_total_36 rfl (lv_at hl 0 rfl) ?_
      refine va_get (D := D) (ci := 7) (v := .int (1 : Int32)) (C := RR_Model) (T := FF_Model) (N := 30) hx hb htb hi_Model hown hK hP 0 rfl rfl 0 (by decide) hf_76 (fun _ h9 => h9) rfl dd_Model_total_37 ?_
      refine lv_if_le (tgt := 47) hx hb dd_Model_total_40 (by decide) (fun h40 => ?_) (fun h40 => ?_)
      · skip
        have h40 : 1 ≤ 0 := (nI_leI (a := 1) (b := 0) (by omega) (by omega)).mp h40
        omega
      · skip
        have h40 : ¬ (1 ≤ 0) := fun q9 => h40 ((nI_leI (a := 1) (b := 0) (by omega) (by omega)).mpr q9)
        refine lv_iconst (v := 0) hx hb dd_Model_total_43 (by decide) ?_
        refine lv_goto (tgt := 56) hx hb dd_Model_total_44 (by decide) ?_
        exact W.iret (v := (0 : Int32)) hx hb hr (fun t ht hW => ⟨⟨(0 : Int32), (1 : Int32), rfl, by first | exact ⟨fun _ => rfl, fun q => (q.elim h2 h7).elim⟩ | exact ⟨fun q => absurd (Or.inl h2) q, fun _ => rfl⟩ | exact ⟨fun q => absurd (Or.inr h7) q, fun _ => rfl⟩, by rw [ht]; exact hP, va_K.moved hW.alike hK, hD⟩, hS.F ht⟩) hS.2.2 dd_Model_total_56
abbrev qq_Model_plan (D : va_G) (cI cZ cL cQ : ClassId) (o : Nat) (ml : Nat) (mm : Nat) (mw : Nat) (mc : Nat) (mg : Nat) (md : Nat) (mb : Nat) (mt : Nat) (mr : Nat) (mo : Nat) (mx : Nat) (mp : Nat) (nk : Nat) (na : Nat) (nv : Nat) (nf : Nat) (ns : Nat) (ne : Nat) (nw : Nat) (mf : Nat) (thr : Int32) (n : Nat) (k : Nat) (so : Int32) (fo : Int32) (bb : Int64) (bc : Int64) (be : Int64) (rs : Nat) (rc : Nat) (j : Nat) (wv : Int32) (bst : Nat → Int64) (A : Nat → Prop) : Array Value → State → Outcome → State → Prop := va_Qi (fun (r : Int32) (u : Unit) => pt_ok (bst j) bb wv r) (fun (u : Unit) t => mm_B D kc_all [(cI, .int), (cZ, .boolean), (cL, .long), (cQ, .array .int)] A [(o, .inr (7, [.int 0, .int (nI n), .ref ml, .ref mm, .ref mw, .ref mc, .int (nI k), .ref mg, .ref md, .int so, .int fo, .ref mb, .long bb, .long bc, .ref mt, .long be, .ref mr, .int (nI rs), .ref mo, .int (nI rc), .ref mx, .ref mp, .ref nk, .ref na, .ref nv, .ref nf, .ref ns, .ref ne, .ref nw, .ref mf])), (mb, .inl (cL, 4, .inr (.inl bst)))] t) A
set_option maxHeartbeats 4000000 in
set_option maxRecDepth 100000 in
theorem cc_Model_plan (l : Launch) (D : va_G) (cI cZ cL cQ : ClassId) (sz : Nat) (o : Nat) (ml : Nat) (mm : Nat) (mw : Nat) (mc : Nat) (mg : Nat) (md : Nat) (mb : Nat) (mt : Nat) (mr : Nat) (mo : Nat) (mx : Nat) (mp : Nat) (nk : Nat) (na : Nat) (nv : Nat) (nf : Nat) (ns : Nat) (ne : Nat) (nw : Nat) (mf : Nat) (thr : Int32) (n : Nat) (k : Nat) (so : Int32) (fo : Int32) (bb : Int64) (bc : Int64) (be : Int64) (rs : Nat) (rc : Nat) (j : Nat) (wv : Int32) (bst : Nat → Int64) (hn : n ≤ 4) (hj : j < n) (hok : (wv = 0 ∨ wv = 1) ∧ ¬ so = 0 ∧ ¬ fo = 0) (hbb : ¬ bb = 0) : Met l yy_Model_plan ww_Model_plan ({ frames := 2, cells := 0, slots := 0, locals := 54 } : Room) (mm_Pc D kc_all [(cI, .int), (cZ, .boolean), (cL, .long), (cQ, .array .int)] sz [(o, .inr (7, [.int thr, .int (nI n), .ref ml, .ref mm, .ref mw, .ref mc, .int (nI k), .ref mg, .ref md, .int so, .int fo, .ref mb, .long bb, .long bc, .ref mt, .long be, .ref mr, .int (nI rs), .ref mo, .int (nI rc), .ref mx, .ref mp, .ref nk, .ref na, .ref nv, .ref nf, .ref ns, .ref ne, .ref nw, .ref mf])), (mb, .inl (cL, 4, .inr (.inl bst)))] [.ref o, .int (nI j), .int wv]) (qq_Model_plan D cI cZ cL cQ o ml mm mw mc mg md mb mt mr mo mx mp nk na nv nf ns ne nw mf thr n k so fo bb bc be rs rc j wv bst (va_A [(o, .inr (7, [.int thr, .int (nI n), .ref ml, .ref mm, .ref mw, .ref mc, .int (nI k), .ref mg, .ref md, .int so, .int fo, .ref mb, .long bb, .long bc, .ref mt, .long be, .ref mr, .int (nI rs), .ref mo, .int (nI rc), .ref mx, .ref mp, .ref nk, .ref na, .ref nv, .ref nf, .ref ns, .ref ne, .ref nw, .ref mf])), (mb, .inl (cL, 4, .inr (.inl bst)))] sz)) 0 0 (va_A [(o, .inr (7, [.int thr, .int (nI n), .ref ml, .ref mm, .ref mw, .ref mc, .int (nI k), .ref mg, .ref md, .int so, .int fo, .ref mb, .long bb, .long bc, .ref mt, .long be, .ref mr, .int (nI rs), .ref mo, .int (nI rc), .ref mx, .ref mp, .ref nk, .ref na, .ref nv, .ref nf, .ref ns, .ref ne, .ref nw, .ref mf])), (mb, .inl (cL, 4, .inr (.inl bst)))] sz) := by
  refine Met.ofW (cc := bb_Model_plan) (maxL := 3) (ret := (some .int)) (by decide) rfl ?_
  intro p e s m args below meth c s₁ B hml hv
  obtain ⟨rfl, hsz, hP, hK, hD0⟩ := hv
  have hx := B.exec
  have hb := B.bytes
  have hr := B.returns
  have hts := atoms_spec (ws := ww_Model_plan) B.pre
  have hown : s.vm.findClass RR_Model = some m.cls := findClass_of_methodNamed B.named
  have hlocks := B.notSynchronized
  subst hsz
  have hD := hD0.self (sz := s.heap.size)
  generalize hAe : va_A [(o, .inr (7, [.int thr, .int (nI n), .ref ml, .ref mm, .ref mw, .ref mc, .int (nI k), .ref mg, .ref md, .int so, .int fo, .ref mb, .long bb, .long bc, .ref mt, .long be, .ref mr, .int (nI rs), .ref mo, .int (nI rc), .ref mx, .ref mp, .ref nk, .ref na, .ref nv, .ref nf, .ref ns, .ref ne, .ref nw, .ref mf])), (mb, .inl (cL, 4, .inr (.inl bst)))] s.heap.size = A at hD ⊢
  have hA : ∀ q : Nat, s.heap.size ≤ q → A q := fun q h => by rw [← hAe]; exact Or.inr h
  have hS : va_S A s.heap s.heap [] := va_S.rf
  have hP : va_P D kc_all [(o, .inr (7, [.int thr, .int (nI n), .ref ml, .ref mm, .ref mw, .ref mc, .int (nI k), .ref mg, .ref md, .int so, .int fo, .ref mb, .long bb, .long bc, .ref mt, .long be, .ref mr, .int (nI rs), .ref mo, .int (nI rc), .ref mx, .ref mp, .ref nk, .ref na, .ref nv, .ref nf, .ref ns, .ref ne, .ref nw, .ref mf])), (mb, .inl (cL, 4, .inr (.inl bst)))] s.heap := hP
  have hl := lv_entry ([.ref o, .int (nI j), .int wv]) (n := 3) (Nat.le_of_ble_eq_true rfl)
  rw [lg_entry_eq]
  generalize (lg_sl ([.ref o, .int (nI j), .int wv]) ++ List.replicate (3 - (lg_sl ([.ref o, .int (nI j), .int wv])).length) Slot.unset).toArray = ls at hl ⊢
  have hl : lv_has ls 3 [(0, .ref o), (1, .int (nI j)), (2, .int wv)] := hl
  have htb : ∀ w ∈ tb_all, w.before ([.ref o, .int (nI j), .int wv]).toArray s = true := fun w h => hts w (List.mem_cons_of_mem _ h)
  have hf_7 := htb _ fl_Model_7
  have hf_33 := htb _ fl_Model_33
  have hf_76 := htb _ fl_Model_76
  have hf_86 := htb _ fl_Model_86
  have hf_107 := htb _ fl_Model_107
  refine lv_aload_n hx hb dd_Model_plan_0 rfl (lv_at hl 0 rfl) ?_
  refine lv_iload_n hx hb dd_Model_plan_1 rfl (lv_at hl 1 rfl) ?_
  refine lv_iconst (v := 0) hx hb dd_Model_plan_2 (by decide) ?_
  refine lv_aload_n hx hb dd_Model_plan_3 rfl (lv_at hl 0 rfl) ?_
  refine va_get (D := D) (ci := 7) (v := .int (nI n)) (C := RR_Model) (T := FF_Model) (N := 30) hx hb htb hi_Model hown hK hP 0 rfl rfl 1 (by decide) hf_7 (fun _ h9 => h9) rfl dd_Model_plan_4 ?_
  refine lv_iconst (v := 1) hx hb dd_Model_plan_7 (by decide) ?_
  refine lv_isub hx hb dd_Model_plan_8 ?_
  refine mm_topi (y := nI (n - 1)) (pk_sub (a := n) (b := 1) (by omega)) ?_
  refine mm_i (wc := []) (wr := [(o, .inr (7, [.int thr, .int (nI n), .ref ml, .ref mm, .ref mw, .ref mc, .int (nI k), .ref mg, .ref md, .int so, .int fo, .ref mb, .long bb, .long bc, .ref mt, .long be, .ref mr, .int (nI rs), .ref mo, .int (nI rc), .ref mx, .ref mp, .ref nk, .ref na, .ref nv, .ref nf, .ref ns, .ref ne, .ref nw, .ref mf])), (mb, .inl (cL, 4, .inr (.inl bst)))]) (va_runS (As := [.int (nI j), .int (0 : Int32), .int (nI (n - 1))]) (rest := [.ref o]) ⟨hx, hb, hml, hown, hts⟩ (cc_Model_isIn l D cI cZ cL cQ _ (nI j) (0 : Int32) (nI (n - 1)) ) (mm_cwS 3 hts ml_Model_79 sm_Model_isIn ic_Model cd_Model_isIn rfl rfl (by decide +kernel) ⟨Nat.le_of_ble_eq_true rfl, Nat.le_of_ble_eq_true rfl⟩) (mm_preS hK hP hD [] (by decide) rfl) rfl rfl hl.1 rfl (lv_room (Nat.le_of_ble_eq_true rfl)) dd_Model_plan_9 ⟨Nat.zero_le _, Nat.zero_le _⟩) hP hD hS hA [] [0, 1] rfl rfl (by decide) (by decide) (fun zr1 zu2 H locs p9 hP hD hS => ?_)
  have hP : va_P D kc_all [(o, .inr (7, [.int thr, .int (nI n), .ref ml, .ref mm, .ref mw, .ref mc, .int (nI k), .ref mg, .ref md, .int so, .int fo, .ref mb, .long bb, .long bc, .ref mt, .long be, .ref mr, .int (nI rs), .ref mo, .int (nI rc), .ref mx, .ref mp, .ref nk, .ref na, .ref nv, .ref nf, .ref ns, .ref ne, .ref nw, .ref mf])), (mb, .inl (cL, 4, .inr (.inl bst)))] H := hP
  have hD : va_D A [(o, .inr (7, [.int thr, .int (nI n), .ref ml, .ref mm, .ref mw, .ref mc, .int (nI k), .ref mg, .ref md, .int so, .int fo, .ref mb, .long bb, .long bc, .ref mt, .long be, .ref mr, .int (nI rs), .ref mo, .int (nI rc), .ref mx, .ref mp, .ref nk, .ref na, .ref nv, .ref nf, .ref ns, .ref ne, .ref nw, .ref mf])), (mb, .inl (cL, 4, .inr (.inl bst)))] := hD
  have p9 : tl_ok (in_ok (nI j) (0 : Int32) (nI (n - 1))) zr1 := p9
  refine lv_if_ne (tgt := 19) hx hb dd_Model_plan_12 (by decide) (fun h12 => ?_) (fun h12 => ?_)
  · skip
    refine lv_iload_n hx hb dd_Model_plan_19 rfl (lv_at hl 2 rfl) ?_
    refine lv_if_eq (tgt := 32) hx hb dd_Model_plan_20 (by decide) (fun h20 => ?_) (fun h20 => ?_)
    · skip
      refine lv_aload_n hx hb dd_Model_plan_32 rfl (lv_at hl 0 rfl) ?_
      refine va_get (D := D) (ci := 7) (v := .int so) (C := RR_Model) (T := FF_Model) (N := 30) hx hb htb hi_Model hown hK hP 0 rfl rfl 9 (by decide) hf_86 (fun _ h9 => h9) rfl dd_Model_plan_33 ?_
      refine lv_if_eq (tgt := 46) hx hb dd_Model_plan_36 (by decide) (fun h36 => ?_) (fun h36 => ?_)
      · skip
        exact absurd h36 hok.2.1
      · skip
        refine lv_aload_n hx hb dd_Model_plan_39 rfl (lv_at hl 0 rfl) ?_
        refine va_get (D := D) (ci := 7) (v := .int fo) (C := RR_Model) (T := FF_Model) (N := 30) hx hb htb hi_Model hown hK hP 0 rfl rfl 10 (by decide) hf_107 (fun _ h9 => h9) rfl dd_Model_plan_40 ?_
        refine lv_if_ne (tgt := 50) hx hb dd_Model_plan_43 (by decide) (fun h43 => ?_) (fun h43 => ?_)
        · skip
          refine lv_iconst (v := 0) hx hb dd_Model_plan_50 (by decide) ?_
          refine va_put (D := D) (ci := 7) (v := .int (0 : Int32)) (ty := .int) (C := RR_Model) (T := FF_Model) (N := 30) hx hb htb hi_Model tt_Model tt_Model_ok nn_Model hown hK hP hD hS 0 rfl rfl 0 (by decide) hf_76 (fun _ h9 => h9) rfl (by decide +kernel) (rfl) (rfl) (Nat.le_of_ble_eq_true rfl) dd_Model_plan_51 (fun H locs hP hD hS => ?_)
          have hP : va_P D kc_all [(o, .inr (7, [.int (0 : Int32), .int (nI n), .ref ml, .ref mm, .ref mw, .ref mc, .int (nI k), .ref mg, .ref md, .int so, .int fo, .ref mb, .long bb, .long bc, .ref mt, .long be, .ref mr, .int (nI rs), .ref mo, .int (nI rc), .ref mx, .ref mp, .ref nk, .ref na, .ref nv, .ref nf, .ref ns, .ref ne, .ref nw, .ref mf])), (mb, .inl (cL, 4, .inr (.inl bst)))] H := hP
          have hD : va_D A [(o, .inr (7, [.int (0 : Int32), .int (nI n), .ref ml, .ref mm, .ref mw, .ref mc, .int (nI k), .ref mg, .ref md, .int so, .int fo, .ref mb, .long bb, .long bc, .ref mt, .long be, .ref mr, .int (nI rs), .ref mo, .int (nI rc), .ref mx, .ref mp, .ref nk, .ref na, .ref nv, .ref nf, .ref ns, .ref ne, .ref nw, .ref mf])), (mb, .inl (cL, 4, .inr (.inl bst)))] := hD
          refine lv_aload_n hx hb dd_Model_plan_54 rfl (lv_at hl 0 rfl) ?_
          refine va_get (D := D) (ci := 7) (v := .int (0 : Int32)) (C := RR_Model) (T := FF_Model) (N := 30) hx hb htb hi_Model hown hK hP 0 rfl rfl 0 (by decide) hf_76 (fun _ h9 => h9) rfl dd_Model_plan_55 ?_
          refine lv_if_le (tgt := 65) hx hb dd_Model_plan_58 (by decide) (fun h58 => ?_) (fun h58 => ?_)
          · skip
            have h58 : 0 ≤ 0 := (nI_leI (a := 0) (b := 0) (by omega) (by omega)).mp h58
            refine lv_aload_n hx hb dd_Model_plan_65 rfl (lv_at hl 0 rfl) ?_
            refine lv_aload_n hx hb dd_Model_plan_66 rfl (lv_at hl 0 rfl) ?_
            refine va_get (D := D) (ci := 7) (v := .ref mb) (C := RR_Model) (T := FF_Model) (N := 30) hx hb htb hi_Model hown hK hP 0 rfl rfl 11 (by decide) hf_33 (fun _ h9 => h9) rfl dd_Model_plan_67 ?_
            refine lv_iload_n hx hb dd_Model_plan_70 rfl (lv_at hl 1 rfl) ?_
            refine mm_lald hx hb hK hP 1 2 rfl rfl (j) (rfl) (by omega) (by first | decide | omega) dd_Model_plan_71 ?_
            refine lv_iload_n hx hb dd_Model_plan_72 rfl (lv_at hl 2 rfl) ?_
            refine mm_i (wc := [(o, .inr (7, [.int (0 : Int32), .int (nI n), .ref ml, .ref mm, .ref mw, .ref mc, .int (nI k), .ref mg, .ref md, .int so, .int fo, .ref mb, .long bb, .long bc, .ref mt, .long be, .ref mr, .int (nI rs), .ref mo, .int (nI rc), .ref mx, .ref mp, .ref nk, .ref na, .ref nv, .ref nf, .ref ns, .ref ne, .ref nw, .ref mf]))]) (wr := [(mb, .inl (cL, 4, .inr (.inl bst)))]) (va_runV (As := [.long (bst j), .int wv]) (rest := []) (C := RR_Model) ⟨hx, hb, hml, hown, hts⟩ (cc_Model_part l D cI cZ cL cQ _ o ml mm mw mc mg md mb mt mr mo mx mp nk na nv nf ns ne nw mf (0 : Int32) n k so fo bb bc be rs rc (bst j) wv (by omega)) (mm_cwV 2 hts ml_Model_144 im_Model_part se_Model_part ic_Model cd_Model_part rfl rfl (by decide +kernel) ⟨Nat.le_of_ble_eq_true rfl, Nat.le_of_ble_eq_true rfl⟩) (mm_preV hK hP hD [0] (by decide) rfl 0 rfl rfl) rfl rfl hl.1 rfl (lv_room (Nat.le_of_ble_eq_true rfl)) dd_Model_plan_73 ⟨Nat.zero_le _, Nat.zero_le _⟩) hP hD hS hA [0] [1] rfl rfl (by decide) (by decide) (fun zr3 zu4 H locs p73 hP hD hS => ?_)
            have hP : va_P D kc_all [(mb, .inl (cL, 4, .inr (.inl bst))), (o, .inr (7, [.int (0 : Int32), .int (nI n), .ref ml, .ref mm, .ref mw, .ref mc, .int (nI k), .ref mg, .ref md, .int so, .int fo, .ref mb, .long bb, .long bc, .ref mt, .long be, .ref mr, .int (nI rs), .ref mo, .int (nI rc), .ref mx, .ref mp, .ref nk, .ref na, .ref nv, .ref nf, .ref ns, .ref ne, .ref nw, .ref mf]))] H := hP
            have hD : va_D A [(mb, .inl (cL, 4, .inr (.inl bst))), (o, .inr (7, [.int (0 : Int32), .int (nI n), .ref ml, .ref mm, .ref mw, .ref mc, .int (nI k), .ref mg, .ref md, .int so, .int fo, .ref mb, .long bb, .long bc, .ref mt, .long be, .ref mr, .int (nI rs), .ref mo, .int (nI rc), .ref mx, .ref mp, .ref nk, .ref na, .ref nv, .ref nf, .ref ns, .ref ne, .ref nw, .ref mf]))] := hD
            have hP : va_P D kc_all [(o, .inr (7, [.int (0 : Int32), .int (nI n), .ref ml, .ref mm, .ref mw, .ref mc, .int (nI k), .ref mg, .ref md, .int so, .int fo, .ref mb, .long bb, .long bc, .ref mt, .long be, .ref mr, .int (nI rs), .ref mo, .int (nI rc), .ref mx, .ref mp, .ref nk, .ref na, .ref nv, .ref nf, .ref ns, .ref ne, .ref nw, .ref mf])), (mb, .inl (cL, 4, .inr (.inl bst)))] H := hP.sub [1, 0] rfl
            have hD : va_D A [(o, .inr (7, [.int (0 : Int32), .int (nI n), .ref ml, .ref mm, .ref mw, .ref mc, .int (nI k), .ref mg, .ref md, .int so, .int fo, .ref mb, .long bb, .long bc, .ref mt, .long be, .ref mr, .int (nI rs), .ref mo, .int (nI rc), .ref mx, .ref mp, .ref nk, .ref na, .ref nv, .ref nf, .ref ns, .ref ne, .ref nw, .ref mf])), (mb, .inl (cL, 4, .inr (.inl bst)))] := hD.sub [1, 0] (by decide) rfl
            have p73 : pt_ok (bst j) bb wv zr3 := p73
            exact W.iret (v := zr3) hx hb hr (fun t ht hW => ⟨⟨zr3, (), rfl, p73, by rw [ht]; exact hP, va_K.moved hW.alike hK, hD⟩, hS.F ht⟩) hS.2.2 dd_Model_plan_76
          · skip
            have h58 : ¬ (0 ≤ 0) := fun q9 => h58 ((nI_leI (a := 0) (b := 0) (by omega) (by omega)).mpr q9)
            omega
        · skip
          exact absurd h43 hok.2.2
    · skip
      refine lv_iload_n hx hb dd_Model_plan_23 rfl (lv_at hl 2 rfl) ?_
      refine lv_iconst (v := 1) hx hb dd_Model_plan_24 (by decide) ?_
      refine lv_icmp_eq (tgt := 32) hx hb dd_Model_plan_25 (by decide) (fun h25 => ?_) (fun h25 => ?_)
      · skip
        refine lv_aload_n hx hb dd_Model_plan_32 rfl (lv_at hl 0 rfl) ?_
        refine va_get (D := D) (ci := 7) (v := .int so) (C := RR_Model) (T := FF_Model) (N := 30) hx hb htb hi_Model hown hK hP 0 rfl rfl 9 (by decide) hf_86 (fun _ h9 => h9) rfl dd_Model_plan_33 ?_
        refine lv_if_eq (tgt := 46) hx hb dd_Model_plan_36 (by decide) (fun h36 => ?_) (fun h36 => ?_)
        · skip
          exact absurd h36 hok.2.1
        · skip
          refine lv_aload_n hx hb dd_Model_plan_39 rfl (lv_at hl 0 rfl) ?_
          refine va_get (D := D) (ci := 7) (v := .int fo) (C := RR_Model) (T := FF_Model) (N := 30) hx hb htb hi_Model hown hK hP 0 rfl rfl 10 (by decide) hf_107 (fun _ h9 => h9) rfl dd_Model_plan_40 ?_
          refine lv_if_ne (tgt := 50) hx hb dd_Model_plan_43 (by decide) (fun h43 => ?_) (fun h43 => ?_)
          · skip
            refine lv_iconst (v := 0) hx hb dd_Model_plan_50 (by decide) ?_
            refine va_put (D := D) (ci := 7) (v := .int (0 : Int32)) (ty := .int) (C := RR_Model) (T := FF_Model) (N := 30) hx hb htb hi_Model tt_Model tt_Model_ok nn_Model hown hK hP hD hS 0 rfl rfl 0 (by decide) hf_76 (fun _ h9 => h9) rfl (by decide +kernel) (rfl) (rfl) (Nat.le_of_ble_eq_true rfl) dd_Model_plan_51 (fun H locs hP hD hS => ?_)
            have hP : va_P D kc_all [(o, .inr (7, [.int (0 : Int32), .int (nI n), .ref ml, .ref mm, .ref mw, .ref mc, .int (nI k), .ref mg, .ref md, .int so, .int fo, .ref mb, .long bb, .long bc, .ref mt, .long be, .ref mr, .int (nI rs), .ref mo, .int (nI rc), .ref mx, .ref mp, .ref nk, .ref na, .ref nv, .ref nf, .ref ns, .ref ne, .ref nw, .ref mf])), (mb, .inl (cL, 4, .inr (.inl bst)))] H := hP
            have hD : va_D A [(o, .inr (7, [.int (0 : Int32), .int (nI n), .ref ml, .ref mm, .ref mw, .ref mc, .int (nI k), .ref mg, .ref md, .int so, .int fo, .ref mb, .long bb, .long bc, .ref mt, .long be, .ref mr, .int (nI rs), .ref mo, .int (nI rc), .ref mx, .ref mp, .ref nk, .ref na, .ref nv, .ref nf, .ref ns, .ref ne, .ref nw, .ref mf])), (mb, .inl (cL, 4, .inr (.inl bst)))] := hD
            refine lv_aload_n hx hb dd_Model_plan_54 rfl (lv_at hl 0 rfl) ?_
            refine va_get (D := D) (ci := 7) (v := .int (0 : Int32)) (C := RR_Model) (T := FF_Model) (N := 30) hx hb htb hi_Model hown hK hP 0 rfl rfl 0 (by decide) hf_76 (fun _ h9 => h9) rfl dd_Model_plan_55 ?_
            refine lv_if_le (tgt := 65) hx hb dd_Model_plan_58 (by decide) (fun h58 => ?_) (fun h58 => ?_)
            · skip
              have h58 : 0 ≤ 0 := (nI_leI (a := 0) (b := 0) (by omega) (by omega)).mp h58
              refine lv_aload_n hx hb dd_Model_plan_65 rfl (lv_at hl 0 rfl) ?_
              refine lv_aload_n hx hb dd_Model_plan_66 rfl (lv_at hl 0 rfl) ?_
              refine va_get (D := D) (ci := 7) (v := .ref mb) (C := RR_Model) (T := FF_Model) (N := 30) hx hb htb hi_Model hown hK hP 0 rfl rfl 11 (by decide) hf_33 (fun _ h9 => h9) rfl dd_Model_plan_67 ?_
              refine lv_iload_n hx hb dd_Model_plan_70 rfl (lv_at hl 1 rfl) ?_
              refine mm_lald hx hb hK hP 1 2 rfl rfl (j) (rfl) (by omega) (by first | decide | omega) dd_Model_plan_71 ?_
              refine lv_iload_n hx hb dd_Model_plan_72 rfl (lv_at hl 2 rfl) ?_
              refine mm_i (wc := [(o, .inr (7, [.int (0 : Int32), .int (nI n), .ref ml, .ref mm, .ref mw, .ref mc, .int (nI k), .ref mg, .ref md, .int so, .int fo, .ref mb, .long bb, .long bc, .ref mt, .long be, .ref mr, .int (nI rs), .ref mo, .int (nI rc), .ref mx, .ref mp, .ref nk, .ref na, .ref nv, .ref nf, .ref ns, .ref ne, .ref nw, .ref mf]))]) (wr := [(mb, .inl (cL, 4, .inr (.inl bst)))]) (va_runV (As := [.long (bst j), .int wv]) (rest := []) (C := RR_Model) ⟨hx, hb, hml, hown, hts⟩ (cc_Model_part l D cI cZ cL cQ _ o ml mm mw mc mg md mb mt mr mo mx mp nk na nv nf ns ne nw mf (0 : Int32) n k so fo bb bc be rs rc (bst j) wv (by omega)) (mm_cwV 2 hts ml_Model_144 im_Model_part se_Model_part ic_Model cd_Model_part rfl rfl (by decide +kernel) ⟨Nat.le_of_ble_eq_true rfl, Nat.le_of_ble_eq_true rfl⟩) (mm_preV hK hP hD [0] (by decide) rfl 0 rfl rfl) rfl rfl hl.1 rfl (lv_room (Nat.le_of_ble_eq_true rfl)) dd_Model_plan_73 ⟨Nat.zero_le _, Nat.zero_le _⟩) hP hD hS hA [0] [1] rfl rfl (by decide) (by decide) (fun zr5 zu6 H locs p73 hP hD hS => ?_)
              have hP : va_P D kc_all [(mb, .inl (cL, 4, .inr (.inl bst))), (o, .inr (7, [.int (0 : Int32), .int (nI n), .ref ml, .ref mm, .ref mw, .ref mc, .int (nI k), .ref mg, .ref md, .int so, .int fo, .ref mb, .long bb, .long bc, .ref mt, .long be, .ref mr, .int (nI rs), .ref mo, .int (nI rc), .ref mx, .ref mp, .ref nk, .ref na, .ref nv, .ref nf, .ref ns, .ref ne, .ref nw, .ref mf]))] H := hP
              have hD : va_D A [(mb, .inl (cL, 4, .inr (.inl bst))), (o, .inr (7, [.int (0 : Int32), .int (nI n), .ref ml, .ref mm, .ref mw, .ref mc, .int (nI k), .ref mg, .ref md, .int so, .int fo, .ref mb, .long bb, .long bc, .ref mt, .long be, .ref mr, .int (nI rs), .ref mo, .int (nI rc), .ref mx, .ref mp, .ref nk, .ref na, .ref nv, .ref nf, .ref ns, .ref ne, .ref nw, .ref mf]))] := hD
              have hP : va_P D kc_all [(o, .inr (7, [.int (0 : Int32), .int (nI n), .ref ml, .ref mm, .ref mw, .ref mc, .int (nI k), .ref mg, .ref md, .int so, .int fo, .ref mb, .long bb, .long bc, .ref mt, .long be, .ref mr, .int (nI rs), .ref mo, .int (nI rc), .ref mx, .ref mp, .ref nk, .ref na, .ref nv, .ref nf, .ref ns, .ref ne, .ref nw, .ref mf])), (mb, .inl (cL, 4, .inr (.inl bst)))] H := hP.sub [1, 0] rfl
              have hD : va_D A [(o, .inr (7, [.int (0 : Int32), .int (nI n), .ref ml, .ref mm, .ref mw, .ref mc, .int (nI k), .ref mg, .ref md, .int so, .int fo, .ref mb, .long bb, .long bc, .ref mt, .long be, .ref mr, .int (nI rs), .ref mo, .int (nI rc), .ref mx, .ref mp, .ref nk, .ref na, .ref nv, .ref nf, .ref ns, .ref ne, .ref nw, .ref mf])), (mb, .inl (cL, 4, .inr (.inl bst)))] := hD.sub [1, 0] (by decide) rfl
              have p73 : pt_ok (bst j) bb wv zr5 := p73
              exact W.iret (v := zr5) hx hb hr (fun t ht hW => ⟨⟨zr5, (), rfl, p73, by rw [ht]; exact hP, va_K.moved hW.alike hK, hD⟩, hS.F ht⟩) hS.2.2 dd_Model_plan_76
            · skip
              have h58 : ¬ (0 ≤ 0) := fun q9 => h58 ((nI_leI (a := 0) (b := 0) (by omega) (by omega)).mpr q9)
              omega
          · skip
            exact absurd h43 hok.2.2
      · skip
        exact (hok.1.elim h20 h25).elim
  · skip
    exact absurd ⟨nI_le (a := 0) (Nat.zero_le _) (by omega), nI_le (by omega) (by omega)⟩ (tl_0 p9 h12)
abbrev qq_Model_planN (D : va_G) (cI cZ cL cQ : ClassId) (o : Nat) (ml : Nat) (mm : Nat) (mw : Nat) (mc : Nat) (mg : Nat) (md : Nat) (mb : Nat) (mt : Nat) (mr : Nat) (mo : Nat) (mx : Nat) (mp : Nat) (nk : Nat) (na : Nat) (nv : Nat) (nf : Nat) (ns : Nat) (ne : Nat) (nw : Nat) (mf : Nat) (thr : Int32) (n : Nat) (k : Nat) (so : Int32) (fo : Int32) (bb : Int64) (bc : Int64) (be : Int64) (rs : Nat) (rc : Nat) (jv : Int32) (wv : Int32) (A : Nat → Prop) : Array Value → State → Outcome → State → Prop := va_Qi (fun (r : Int32) (u : Int32) => (¬ in_ok jv 0 (nI (n - 1)) → u = 1) ∧ (in_ok jv 0 (nI (n - 1)) → ¬ (wv = 0 ∨ wv = 1) → u = 2) ∧ (in_ok jv 0 (nI (n - 1)) → (wv = 0 ∨ wv = 1) → u = 3)) (fun (u : Int32) t => mm_B D kc_all [(cI, .int), (cZ, .boolean), (cL, .long), (cQ, .array .int)] A [(o, .inr (7, [.int u, .int (nI n), .ref ml, .ref mm, .ref mw, .ref mc, .int (nI k), .ref mg, .ref md, .int so, .int fo, .ref mb, .long bb, .long bc, .ref mt, .long be, .ref mr, .int (nI rs), .ref mo, .int (nI rc), .ref mx, .ref mp, .ref nk, .ref na, .ref nv, .ref nf, .ref ns, .ref ne, .ref nw, .ref mf]))] t) A
set_option maxHeartbeats 4000000 in
set_option maxRecDepth 100000 in
theorem cc_Model_planN (l : Launch) (D : va_G) (cI cZ cL cQ : ClassId) (sz : Nat) (o : Nat) (ml : Nat) (mm : Nat) (mw : Nat) (mc : Nat) (mg : Nat) (md : Nat) (mb : Nat) (mt : Nat) (mr : Nat) (mo : Nat) (mx : Nat) (mp : Nat) (nk : Nat) (na : Nat) (nv : Nat) (nf : Nat) (ns : Nat) (ne : Nat) (nw : Nat) (mf : Nat) (thr : Int32) (n : Nat) (k : Nat) (so : Int32) (fo : Int32) (bb : Int64) (bc : Int64) (be : Int64) (rs : Nat) (rc : Nat) (jv : Int32) (wv : Int32) (hn : 1 ≤ n ∧ n ≤ 4) (hno : ¬ (in_ok jv 0 (nI (n - 1)) ∧ (wv = 0 ∨ wv = 1) ∧ ¬ so = 0 ∧ ¬ fo = 0)) : Met l yy_Model_plan ww_Model_plan ({ frames := 2, cells := 0, slots := 0, locals := 54 } : Room) (mm_Pc D kc_all [(cI, .int), (cZ, .boolean), (cL, .long), (cQ, .array .int)] sz [(o, .inr (7, [.int thr, .int (nI n), .ref ml, .ref mm, .ref mw, .ref mc, .int (nI k), .ref mg, .ref md, .int so, .int fo, .ref mb, .long bb, .long bc, .ref mt, .long be, .ref mr, .int (nI rs), .ref mo, .int (nI rc), .ref mx, .ref mp, .ref nk, .ref na, .ref nv, .ref nf, .ref ns, .ref ne, .ref nw, .ref mf]))] [.ref o, .int jv, .int wv]) (qq_Model_planN D cI cZ cL cQ o ml mm mw mc mg md mb mt mr mo mx mp nk na nv nf ns ne nw mf thr n k so fo bb bc be rs rc jv wv (va_A [(o, .inr (7, [.int thr, .int (nI n), .ref ml, .ref mm, .ref mw, .ref mc, .int (nI k), .ref mg, .ref md, .int so, .int fo, .ref mb, .long bb, .long bc, .ref mt, .long be, .ref mr, .int (nI rs), .ref mo, .int (nI rc), .ref mx, .ref mp, .ref nk, .ref na, .ref nv, .ref nf, .ref ns, .ref ne, .ref nw, .ref mf]))] sz)) 0 0 (va_A [(o, .inr (7, [.int thr, .int (nI n), .ref ml, .ref mm, .ref mw, .ref mc, .int (nI k), .ref mg, .ref md, .int so, .int fo, .ref mb, .long bb, .long bc, .ref mt, .long be, .ref mr, .int (nI rs), .ref mo, .int (nI rc), .ref mx, .ref mp, .ref nk, .ref na, .ref nv, .ref nf, .ref ns, .ref ne, .ref nw, .ref mf]))] sz) := by
  refine Met.ofW (cc := bb_Model_plan) (maxL := 3) (ret := (some .int)) (by decide) rfl ?_
  intro p e s m args below meth c s₁ B hml hv
  obtain ⟨rfl, hsz, hP, hK, hD0⟩ := hv
  have hx := B.exec
  have hb := B.bytes
  have hr := B.returns
  have hts := atoms_spec (ws := ww_Model_plan) B.pre
  have hown : s.vm.findClass RR_Model = some m.cls := findClass_of_methodNamed B.named
  have hlocks := B.notSynchronized
  subst hsz
  have hD := hD0.self (sz := s.heap.size)
  generalize hAe : va_A [(o, .inr (7, [.int thr, .int (nI n), .ref ml, .ref mm, .ref mw, .ref mc, .int (nI k), .ref mg, .ref md, .int so, .int fo, .ref mb, .long bb, .long bc, .ref mt, .long be, .ref mr, .int (nI rs), .ref mo, .int (nI rc), .ref mx, .ref mp, .ref nk, .ref na, .ref nv, .ref nf, .ref ns, .ref ne, .ref nw, .ref mf]))] s.heap.size = A at hD ⊢
  have hA : ∀ q : Nat, s.heap.size ≤ q → A q := fun q h => by rw [← hAe]; exact Or.inr h
  have hS : va_S A s.heap s.heap [] := va_S.rf
  have hP : va_P D kc_all [(o, .inr (7, [.int thr, .int (nI n), .ref ml, .ref mm, .ref mw, .ref mc, .int (nI k), .ref mg, .ref md, .int so, .int fo, .ref mb, .long bb, .long bc, .ref mt, .long be, .ref mr, .int (nI rs), .ref mo, .int (nI rc), .ref mx, .ref mp, .ref nk, .ref na, .ref nv, .ref nf, .ref ns, .ref ne, .ref nw, .ref mf]))] s.heap := hP
  have hl := lv_entry ([.ref o, .int jv, .int wv]) (n := 3) (Nat.le_of_ble_eq_true rfl)
  rw [lg_entry_eq]
  generalize (lg_sl ([.ref o, .int jv, .int wv]) ++ List.replicate (3 - (lg_sl ([.ref o, .int jv, .int wv])).length) Slot.unset).toArray = ls at hl ⊢
  have hl : lv_has ls 3 [(0, .ref o), (1, .int jv), (2, .int wv)] := hl
  have htb : ∀ w ∈ tb_all, w.before ([.ref o, .int jv, .int wv]).toArray s = true := fun w h => hts w (List.mem_cons_of_mem _ h)
  have hf_7 := htb _ fl_Model_7
  have hf_33 := htb _ fl_Model_33
  have hf_76 := htb _ fl_Model_76
  have hf_86 := htb _ fl_Model_86
  have hf_107 := htb _ fl_Model_107
  refine lv_aload_n hx hb dd_Model_plan_0 rfl (lv_at hl 0 rfl) ?_
  refine lv_iload_n hx hb dd_Model_plan_1 rfl (lv_at hl 1 rfl) ?_
  refine lv_iconst (v := 0) hx hb dd_Model_plan_2 (by decide) ?_
  refine lv_aload_n hx hb dd_Model_plan_3 rfl (lv_at hl 0 rfl) ?_
  refine va_get (D := D) (ci := 7) (v := .int (nI n)) (C := RR_Model) (T := FF_Model) (N := 30) hx hb htb hi_Model hown hK hP 0 rfl rfl 1 (by decide) hf_7 (fun _ h9 => h9) rfl dd_Model_plan_4 ?_
  refine lv_iconst (v := 1) hx hb dd_Model_plan_7 (by decide) ?_
  refine lv_isub hx hb dd_Model_plan_8 ?_
  refine mm_topi (y := nI (n - 1)) (pk_sub (a := n) (b := 1) (by omega)) ?_
  refine mm_i (wc := []) (wr := [(o, .inr (7, [.int thr, .int (nI n), .ref ml, .ref mm, .ref mw, .ref mc, .int (nI k), .ref mg, .ref md, .int so, .int fo, .ref mb, .long bb, .long bc, .ref mt, .long be, .ref mr, .int (nI rs), .ref mo, .int (nI rc), .ref mx, .ref mp, .ref nk, .ref na, .ref nv, .ref nf, .ref ns, .ref ne, .ref nw, .ref mf]))]) (va_runS (As := [.int jv, .int (0 : Int32), .int (nI (n - 1))]) (rest := [.ref o]) ⟨hx, hb, hml, hown, hts⟩ (cc_Model_isIn l D cI cZ cL cQ _ jv (0 : Int32) (nI (n - 1)) ) (mm_cwS 3 hts ml_Model_79 sm_Model_isIn ic_Model cd_Model_isIn rfl rfl (by decide +kernel) ⟨Nat.le_of_ble_eq_true rfl, Nat.le_of_ble_eq_true rfl⟩) (mm_preS hK hP hD [] (by decide) rfl) rfl rfl hl.1 rfl (lv_room (Nat.le_of_ble_eq_true rfl)) dd_Model_plan_9 ⟨Nat.zero_le _, Nat.zero_le _⟩) hP hD hS hA [] [0] rfl rfl (by decide) (by decide) (fun zr1 zu2 H locs p9 hP hD hS => ?_)
  have hP : va_P D kc_all [(o, .inr (7, [.int thr, .int (nI n), .ref ml, .ref mm, .ref mw, .ref mc, .int (nI k), .ref mg, .ref md, .int so, .int fo, .ref mb, .long bb, .long bc, .ref mt, .long be, .ref mr, .int (nI rs), .ref mo, .int (nI rc), .ref mx, .ref mp, .ref nk, .ref na, .ref nv, .ref nf, .ref ns, .ref ne, .ref nw, .ref mf]))] H := hP
  have hD : va_D A [(o, .inr (7, [.int thr, .int (nI n), .ref ml, .ref mm, .ref mw, .ref mc, .int (nI k), .ref mg, .ref md, .int so, .int fo, .ref mb, .long bb, .long bc, .ref mt, .long be, .ref mr, .int (nI rs), .ref mo, .int (nI rc), .ref mx, .ref mp, .ref nk, .ref na, .ref nv, .ref nf, .ref ns, .ref ne, .ref nw, .ref mf]))] := hD
  have p9 : tl_ok (in_ok jv (0 : Int32) (nI (n - 1))) zr1 := p9
  refine lv_if_ne (tgt := 19) hx hb dd_Model_plan_12 (by decide) (fun h12 => ?_) (fun h12 => ?_)
  · skip
    refine lv_iload_n hx hb dd_Model_plan_19 rfl (lv_at hl 2 rfl) ?_
    refine lv_if_eq (tgt := 32) hx hb dd_Model_plan_20 (by decide) (fun h20 => ?_) (fun h20 => ?_)
    · skip
      refine lv_aload_n hx hb dd_Model_plan_32 rfl (lv_at hl 0 rfl) ?_
      refine va_get (D := D) (ci := 7) (v := .int so) (C := RR_Model) (T := FF_Model) (N := 30) hx hb htb hi_Model hown hK hP 0 rfl rfl 9 (by decide) hf_86 (fun _ h9 => h9) rfl dd_Model_plan_33 ?_
      refine lv_if_eq (tgt := 46) hx hb dd_Model_plan_36 (by decide) (fun h36 => ?_) (fun h36 => ?_)
      · skip
        refine lv_iconst (v := 3) hx hb dd_Model_plan_46 (by decide) ?_
        refine lv_goto (tgt := 51) hx hb dd_Model_plan_47 (by decide) ?_
        refine va_put (D := D) (ci := 7) (v := .int (3 : Int32)) (ty := .int) (C := RR_Model) (T := FF_Model) (N := 30) hx hb htb hi_Model tt_Model tt_Model_ok nn_Model hown hK hP hD hS 0 rfl rfl 0 (by decide) hf_76 (fun _ h9 => h9) rfl (by decide +kernel) (rfl) (rfl) (Nat.le_of_ble_eq_true rfl) dd_Model_plan_51 (fun H locs hP hD hS => ?_)
        have hP : va_P D kc_all [(o, .inr (7, [.int (3 : Int32), .int (nI n), .ref ml, .ref mm, .ref mw, .ref mc, .int (nI k), .ref mg, .ref md, .int so, .int fo, .ref mb, .long bb, .long bc, .ref mt, .long be, .ref mr, .int (nI rs), .ref mo, .int (nI rc), .ref mx, .ref mp, .ref nk, .ref na, .ref nv, .ref nf, .ref ns, .ref ne, .ref nw, .ref mf]))] H := hP
        have hD : va_D A [(o, .inr (7, [.int (3 : Int32), .int (nI n), .ref ml, .ref mm, .ref mw, .ref mc, .int (nI k), .ref mg, .ref md, .int so, .int fo, .ref mb, .long bb, .long bc, .ref mt, .long be, .ref mr, .int (nI rs), .ref mo, .int (nI rc), .ref mx, .ref mp, .ref nk, .ref na, .ref nv, .ref nf, .ref ns, .ref ne, .ref nw, .ref mf]))] := hD
        refine lv_aload_n hx hb dd_Model_plan_54 rfl (lv_at hl 0 rfl) ?_
        refine va_get (D := D) (ci := 7) (v := .int (3 : Int32)) (C := RR_Model) (T := FF_Model) (N := 30) hx hb htb hi_Model hown hK hP 0 rfl rfl 0 (by decide) hf_76 (fun _ h9 => h9) rfl dd_Model_plan_55 ?_
        refine lv_if_le (tgt := 65) hx hb dd_Model_plan_58 (by decide) (fun h58 => ?_) (fun h58 => ?_)
        · skip
          have h58 : 3 ≤ 0 := (nI_leI (a := 3) (b := 0) (by omega) (by omega)).mp h58
          omega
        · skip
          have h58 : ¬ (3 ≤ 0) := fun q9 => h58 ((nI_leI (a := 3) (b := 0) (by omega) (by omega)).mpr q9)
          refine lv_iconst (v := 0) hx hb dd_Model_plan_61 (by decide) ?_
          refine lv_goto (tgt := 76) hx hb dd_Model_plan_62 (by decide) ?_
          exact W.iret (v := (0 : Int32)) hx hb hr (fun t ht hW => ⟨⟨(0 : Int32), (3 : Int32), rfl, by first | exact ⟨fun _ => rfl, fun q => absurd q (tl_0 p9 h12), fun q => absurd q (tl_0 p9 h12)⟩ | exact ⟨fun q => absurd (tl_1 p9 h12) q, fun _ _ => rfl, fun _ q => (q.elim h20 h25).elim⟩ | exact ⟨fun q => absurd (tl_1 p9 h12) q, fun _ q => absurd (Or.inl h20) q, fun _ _ => rfl⟩ | exact ⟨fun q => absurd (tl_1 p9 h12) q, fun _ q => absurd (Or.inr h25) q, fun _ _ => rfl⟩, by rw [ht]; exact hP, va_K.moved hW.alike hK, hD⟩, hS.F ht⟩) hS.2.2 dd_Model_plan_76
      · skip
        refine lv_aload_n hx hb dd_Model_plan_39 rfl (lv_at hl 0 rfl) ?_
        refine va_get (D := D) (ci := 7) (v := .int fo) (C := RR_Model) (T := FF_Model) (N := 30) hx hb htb hi_Model hown hK hP 0 rfl rfl 10 (by decide) hf_107 (fun _ h9 => h9) rfl dd_Model_plan_40 ?_
        refine lv_if_ne (tgt := 50) hx hb dd_Model_plan_43 (by decide) (fun h43 => ?_) (fun h43 => ?_)
        · skip
          exact absurd ⟨tl_1 p9 h12, by first | exact Or.inl h20 | exact Or.inr h25, h36, h43⟩ hno
        · skip
          refine lv_iconst (v := 3) hx hb dd_Model_plan_46 (by decide) ?_
          refine lv_goto (tgt := 51) hx hb dd_Model_plan_47 (by decide) ?_
          refine va_put (D := D) (ci := 7) (v := .int (3 : Int32)) (ty := .int) (C := RR_Model) (T := FF_Model) (N := 30) hx hb htb hi_Model tt_Model tt_Model_ok nn_Model hown hK hP hD hS 0 rfl rfl 0 (by decide) hf_76 (fun _ h9 => h9) rfl (by decide +kernel) (rfl) (rfl) (Nat.le_of_ble_eq_true rfl) dd_Model_plan_51 (fun H locs hP hD hS => ?_)
          have hP : va_P D kc_all [(o, .inr (7, [.int (3 : Int32), .int (nI n), .ref ml, .ref mm, .ref mw, .ref mc, .int (nI k), .ref mg, .ref md, .int so, .int fo, .ref mb, .long bb, .long bc, .ref mt, .long be, .ref mr, .int (nI rs), .ref mo, .int (nI rc), .ref mx, .ref mp, .ref nk, .ref na, .ref nv, .ref nf, .ref ns, .ref ne, .ref nw, .ref mf]))] H := hP
          have hD : va_D A [(o, .inr (7, [.int (3 : Int32), .int (nI n), .ref ml, .ref mm, .ref mw, .ref mc, .int (nI k), .ref mg, .ref md, .int so, .int fo, .ref mb, .long bb, .long bc, .ref mt, .long be, .ref mr, .int (nI rs), .ref mo, .int (nI rc), .ref mx, .ref mp, .ref nk, .ref na, .ref nv, .ref nf, .ref ns, .ref ne, .ref nw, .ref mf]))] := hD
          refine lv_aload_n hx hb dd_Model_plan_54 rfl (lv_at hl 0 rfl) ?_
          refine va_get (D := D) (ci := 7) (v := .int (3 : Int32)) (C := RR_Model) (T := FF_Model) (N := 30) hx hb htb hi_Model hown hK hP 0 rfl rfl 0 (by decide) hf_76 (fun _ h9 => h9) rfl dd_Model_plan_55 ?_
          refine lv_if_le (tgt := 65) hx hb dd_Model_plan_58 (by decide) (fun h58 => ?_) (fun h58 => ?_)
          · skip
            have h58 : 3 ≤ 0 := (nI_leI (a := 3) (b := 0) (by omega) (by omega)).mp h58
            omega
          · skip
            have h58 : ¬ (3 ≤ 0) := fun q9 => h58 ((nI_leI (a := 3) (b := 0) (by omega) (by omega)).mpr q9)
            refine lv_iconst (v := 0) hx hb dd_Model_plan_61 (by decide) ?_
            refine lv_goto (tgt := 76) hx hb dd_Model_plan_62 (by decide) ?_
            exact W.iret (v := (0 : Int32)) hx hb hr (fun t ht hW => ⟨⟨(0 : Int32), (3 : Int32), rfl, by first | exact ⟨fun _ => rfl, fun q => absurd q (tl_0 p9 h12), fun q => absurd q (tl_0 p9 h12)⟩ | exact ⟨fun q => absurd (tl_1 p9 h12) q, fun _ _ => rfl, fun _ q => (q.elim h20 h25).elim⟩ | exact ⟨fun q => absurd (tl_1 p9 h12) q, fun _ q => absurd (Or.inl h20) q, fun _ _ => rfl⟩ | exact ⟨fun q => absurd (tl_1 p9 h12) q, fun _ q => absurd (Or.inr h25) q, fun _ _ => rfl⟩, by rw [ht]; exact hP, va_K.moved hW.alike hK, hD⟩, hS.F ht⟩) hS.2.2 dd_Model_plan_76
    · skip
      refine lv_iload_n hx hb dd_Model_plan_23 rfl (lv_at hl 2 rfl) ?_
      refine lv_iconst (v := 1) hx hb dd_Model_plan_24 (by decide) ?_
      refine lv_icmp_eq (tgt := 32) hx hb dd_Model_plan_25 (by decide) (fun h25 => ?_) (fun h25 => ?_)
      · skip
        refine lv_aload_n hx hb dd_Model_plan_32 rfl (lv_at hl 0 rfl) ?_
        refine va_get (D := D) (ci := 7) (v := .int so) (C := RR_Model) (T := FF_Model) (N := 30) hx hb htb hi_Model hown hK hP 0 rfl rfl 9 (by decide) hf_86 (fun _ h9 => h9) rfl dd_Model_plan_33 ?_
        refine lv_if_eq (tgt := 46) hx hb dd_Model_plan_36 (by decide) (fun h36 => ?_) (fun h36 => ?_)
        · skip
          refine lv_iconst (v := 3) hx hb dd_Model_plan_46 (by decide) ?_
          refine lv_goto (tgt := 51) hx hb dd_Model_plan_47 (by decide) ?_
          refine va_put (D := D) (ci := 7) (v := .int (3 : Int32)) (ty := .int) (C := RR_Model) (T := FF_Model) (N := 30) hx hb htb hi_Model tt_Model tt_Model_ok nn_Model hown hK hP hD hS 0 rfl rfl 0 (by decide) hf_76 (fun _ h9 => h9) rfl (by decide +kernel) (rfl) (rfl) (Nat.le_of_ble_eq_true rfl) dd_Model_plan_51 (fun H locs hP hD hS => ?_)
          have hP : va_P D kc_all [(o, .inr (7, [.int (3 : Int32), .int (nI n), .ref ml, .ref mm, .ref mw, .ref mc, .int (nI k), .ref mg, .ref md, .int so, .int fo, .ref mb, .long bb, .long bc, .ref mt, .long be, .ref mr, .int (nI rs), .ref mo, .int (nI rc), .ref mx, .ref mp, .ref nk, .ref na, .ref nv, .ref nf, .ref ns, .ref ne, .ref nw, .ref mf]))] H := hP
          have hD : va_D A [(o, .inr (7, [.int (3 : Int32), .int (nI n), .ref ml, .ref mm, .ref mw, .ref mc, .int (nI k), .ref mg, .ref md, .int so, .int fo, .ref mb, .long bb, .long bc, .ref mt, .long be, .ref mr, .int (nI rs), .ref mo, .int (nI rc), .ref mx, .ref mp, .ref nk, .ref na, .ref nv, .ref nf, .ref ns, .ref ne, .ref nw, .ref mf]))] := hD
          refine lv_aload_n hx hb dd_Model_plan_54 rfl (lv_at hl 0 rfl) ?_
          refine va_get (D := D) (ci := 7) (v := .int (3 : Int32)) (C := RR_Model) (T := FF_Model) (N := 30) hx hb htb hi_Model hown hK hP 0 rfl rfl 0 (by decide) hf_76 (fun _ h9 => h9) rfl dd_Model_plan_55 ?_
          refine lv_if_le (tgt := 65) hx hb dd_Model_plan_58 (by decide) (fun h58 => ?_) (fun h58 => ?_)
          · skip
            have h58 : 3 ≤ 0 := (nI_leI (a := 3) (b := 0) (by omega) (by omega)).mp h58
            omega
          · skip
            have h58 : ¬ (3 ≤ 0) := fun q9 => h58 ((nI_leI (a := 3) (b := 0) (by omega) (by omega)).mpr q9)
            refine lv_iconst (v := 0) hx hb dd_Model_plan_61 (by decide) ?_
            refine lv_goto (tgt := 76) hx hb dd_Model_plan_62 (by decide) ?_
            exact W.iret (v := (0 : Int32)) hx hb hr (fun t ht hW => ⟨⟨(0 : Int32), (3 : Int32), rfl, by first | exact ⟨fun _ => rfl, fun q => absurd q (tl_0 p9 h12), fun q => absurd q (tl_0 p9 h12)⟩ | exact ⟨fun q => absurd (tl_1 p9 h12) q, fun _ _ => rfl, fun _ q => (q.elim h20 h25).elim⟩ | exact ⟨fun q => absurd (tl_1 p9 h12) q, fun _ q => absurd (Or.inl h20) q, fun _ _ => rfl⟩ | exact ⟨fun q => absurd (tl_1 p9 h12) q, fun _ q => absurd (Or.inr h25) q, fun _ _ => rfl⟩, by rw [ht]; exact hP, va_K.moved hW.alike hK, hD⟩, hS.F ht⟩) hS.2.2 dd_Model_plan_76
        · skip
          refine lv_aload_n hx hb dd_Model_plan_39 rfl (lv_at hl 0 rfl) ?_
          refine va_get (D := D) (ci := 7) (v := .int fo) (C := RR_Model) (T := FF_Model) (N := 30) hx hb htb hi_Model hown hK hP 0 rfl rfl 10 (by decide) hf_107 (fun _ h9 => h9) rfl dd_Model_plan_40 ?_
          refine lv_if_ne (tgt := 50) hx hb dd_Model_plan_43 (by decide) (fun h43 => ?_) (fun h43 => ?_)
          · skip
            exact absurd ⟨tl_1 p9 h12, by first | exact Or.inl h20 | exact Or.inr h25, h36, h43⟩ hno
          · skip
            refine lv_iconst (v := 3) hx hb dd_Model_plan_46 (by decide) ?_
            refine lv_goto (tgt := 51) hx hb dd_Model_plan_47 (by decide) ?_
            refine va_put (D := D) (ci := 7) (v := .int (3 : Int32)) (ty := .int) (C := RR_Model) (T := FF_Model) (N := 30) hx hb htb hi_Model tt_Model tt_Model_ok nn_Model hown hK hP hD hS 0 rfl rfl 0 (by decide) hf_76 (fun _ h9 => h9) rfl (by decide +kernel) (rfl) (rfl) (Nat.le_of_ble_eq_true rfl) dd_Model_plan_51 (fun H locs hP hD hS => ?_)
            have hP : va_P D kc_all [(o, .inr (7, [.int (3 : Int32), .int (nI n), .ref ml, .ref mm, .ref mw, .ref mc, .int (nI k), .ref mg, .ref md, .int so, .int fo, .ref mb, .long bb, .long bc, .ref mt, .long be, .ref mr, .int (nI rs), .ref mo, .int (nI rc), .ref mx, .ref mp, .ref nk, .ref na, .ref nv, .ref nf, .ref ns, .ref ne, .ref nw, .ref mf]))] H := hP
            have hD : va_D A [(o, .inr (7, [.int (3 : Int32), .int (nI n), .ref ml, .ref mm, .ref mw, .ref mc, .int (nI k), .ref mg, .ref md, .int so, .int fo, .ref mb, .long bb, .long bc, .ref mt, .long be, .ref mr, .int (nI rs), .ref mo, .int (nI rc), .ref mx, .ref mp, .ref nk, .ref na, .ref nv, .ref nf, .ref ns, .ref ne, .ref nw, .ref mf]))] := hD
            refine lv_aload_n hx hb dd_Model_plan_54 rfl (lv_at hl 0 rfl) ?_
            refine va_get (D := D) (ci := 7) (v := .int (3 : Int32)) (C := RR_Model) (T := FF_Model) (N := 30) hx hb htb hi_Model hown hK hP 0 rfl rfl 0 (by decide) hf_76 (fun _ h9 => h9) rfl dd_Model_plan_55 ?_
            refine lv_if_le (tgt := 65) hx hb dd_Model_plan_58 (by decide) (fun h58 => ?_) (fun h58 => ?_)
            · skip
              have h58 : 3 ≤ 0 := (nI_leI (a := 3) (b := 0) (by omega) (by omega)).mp h58
              omega
            · skip
              have h58 : ¬ (3 ≤ 0) := fun q9 => h58 ((nI_leI (a := 3) (b := 0) (by omega) (by omega)).mpr q9)
              refine lv_iconst (v := 0) hx hb dd_Model_plan_61 (by decide) ?_
              refine lv_goto (tgt := 76) hx hb dd_Model_plan_62 (by decide) ?_
              exact W.iret (v := (0 : Int32)) hx hb hr (fun t ht hW => ⟨⟨(0 : Int32), (3 : Int32), rfl, by first | exact ⟨fun _ => rfl, fun q => absurd q (tl_0 p9 h12), fun q => absurd q (tl_0 p9 h12)⟩ | exact ⟨fun q => absurd (tl_1 p9 h12) q, fun _ _ => rfl, fun _ q => (q.elim h20 h25).elim⟩ | exact ⟨fun q => absurd (tl_1 p9 h12) q, fun _ q => absurd (Or.inl h20) q, fun _ _ => rfl⟩ | exact ⟨fun q => absurd (tl_1 p9 h12) q, fun _ q => absurd (Or.inr h25) q, fun _ _ => rfl⟩, by rw [ht]; exact hP, va_K.moved hW.alike hK, hD⟩, hS.F ht⟩) hS.2.2 dd_Model_plan_76
      · skip
        refine lv_iconst (v := 2) hx hb dd_Model_plan_28 (by decide) ?_
        refine lv_goto (tgt := 51) hx hb dd_Model_plan_29 (by decide) ?_
        refine va_put (D := D) (ci := 7) (v := .int (2 : Int32)) (ty := .int) (C := RR_Model) (T := FF_Model) (N := 30) hx hb htb hi_Model tt_Model tt_Model_ok nn_Model hown hK hP hD hS 0 rfl rfl 0 (by decide) hf_76 (fun _ h9 => h9) rfl (by decide +kernel) (rfl) (rfl) (Nat.le_of_ble_eq_true rfl) dd_Model_plan_51 (fun H locs hP hD hS => ?_)
        have hP : va_P D kc_all [(o, .inr (7, [.int (2 : Int32), .int (nI n), .ref ml, .ref mm, .ref mw, .ref mc, .int (nI k), .ref mg, .ref md, .int so, .int fo, .ref mb, .long bb, .long bc, .ref mt, .long be, .ref mr, .int (nI rs), .ref mo, .int (nI rc), .ref mx, .ref mp, .ref nk, .ref na, .ref nv, .ref nf, .ref ns, .ref ne, .ref nw, .ref mf]))] H := hP
        have hD : va_D A [(o, .inr (7, [.int (2 : Int32), .int (nI n), .ref ml, .ref mm, .ref mw, .ref mc, .int (nI k), .ref mg, .ref md, .int so, .int fo, .ref mb, .long bb, .long bc, .ref mt, .long be, .ref mr, .int (nI rs), .ref mo, .int (nI rc), .ref mx, .ref mp, .ref nk, .ref na, .ref nv, .ref nf, .ref ns, .ref ne, .ref nw, .ref mf]))] := hD
        refine lv_aload_n hx hb dd_Model_plan_54 rfl (lv_at hl 0 rfl) ?_
        refine va_get (D := D) (ci := 7) (v := .int (2 : Int32)) (C := RR_Model) (T := FF_Model) (N := 30) hx hb htb hi_Model hown hK hP 0 rfl rfl 0 (by decide) hf_76 (fun _ h9 => h9) rfl dd_Model_plan_55 ?_
        refine lv_if_le (tgt := 65) hx hb dd_Model_plan_58 (by decide) (fun h58 => ?_) (fun h58 => ?_)
        · skip
          have h58 : 2 ≤ 0 := (nI_leI (a := 2) (b := 0) (by omega) (by omega)).mp h58
          omega
        · skip
          have h58 : ¬ (2 ≤ 0) := fun q9 => h58 ((nI_leI (a := 2) (b := 0) (by omega) (by omega)).mpr q9)
          refine lv_iconst (v := 0) hx hb dd_Model_plan_61 (by decide) ?_
          refine lv_goto (tgt := 76) hx hb dd_Model_plan_62 (by decide) ?_
          exact W.iret (v := (0 : Int32)) hx hb hr (fun t ht hW => ⟨⟨(0 : Int32), (2 : Int32), rfl, by first | exact ⟨fun _ => rfl, fun q => absurd q (tl_0 p9 h12), fun q => absurd q (tl_0 p9 h12)⟩ | exact ⟨fun q => absurd (tl_1 p9 h12) q, fun _ _ => rfl, fun _ q => (q.elim h20 h25).elim⟩ | exact ⟨fun q => absurd (tl_1 p9 h12) q, fun _ q => absurd (Or.inl h20) q, fun _ _ => rfl⟩ | exact ⟨fun q => absurd (tl_1 p9 h12) q, fun _ q => absurd (Or.inr h25) q, fun _ _ => rfl⟩, by rw [ht]; exact hP, va_K.moved hW.alike hK, hD⟩, hS.F ht⟩) hS.2.2 dd_Model_plan_76
  · skip
    refine lv_iconst (v := 1) hx hb dd_Model_plan_15 (by decide) ?_
    refine lv_goto (tgt := 51) hx hb dd_Model_plan_16 (by decide) ?_
    refine va_put (D := D) (ci := 7) (v := .int (1 : Int32)) (ty := .int) (C := RR_Model) (T := FF_Model) (N := 30) hx hb htb hi_Model tt_Model tt_Model_ok nn_Model hown hK hP hD hS 0 rfl rfl 0 (by decide) hf_76 (fun _ h9 => h9) rfl (by decide +kernel) (rfl) (rfl) (Nat.le_of_ble_eq_true rfl) dd_Model_plan_51 (fun H locs hP hD hS => ?_)
    have hP : va_P D kc_all [(o, .inr (7, [.int (1 : Int32), .int (nI n), .ref ml, .ref mm, .ref mw, .ref mc, .int (nI k), .ref mg, .ref md, .int so, .int fo, .ref mb, .long bb, .long bc, .ref mt, .long be, .ref mr, .int (nI rs), .ref mo, .int (nI rc), .ref mx, .ref mp, .ref nk, .ref na, .ref nv, .ref nf, .ref ns, .ref ne, .ref nw, .ref mf]))] H := hP
    have hD : va_D A [(o, .inr (7, [.int (1 : Int32), .int (nI n), .ref ml, .ref mm, .ref mw, .ref mc, .int (nI k), .ref mg, .ref md, .int so, .int fo, .ref mb, .long bb, .long bc, .ref mt, .long be, .ref mr, .int (nI rs), .ref mo, .int (nI rc), .ref mx, .ref mp, .ref nk, .ref na, .ref nv, .ref nf, .ref ns, .ref ne, .ref nw, .ref mf]))] := hD
    refine lv_aload_n hx hb dd_Model_plan_54 rfl (lv_at hl 0 rfl) ?_
    refine va_get (D := D) (ci := 7) (v := .int (1 : Int32)) (C := RR_Model) (T := FF_Model) (N := 30) hx hb htb hi_Model hown hK hP 0 rfl rfl 0 (by decide) hf_76 (fun _ h9 => h9) rfl dd_Model_plan_55 ?_
    refine lv_if_le (tgt := 65) hx hb dd_Model_plan_58 (by decide) (fun h58 => ?_) (fun h58 => ?_)
    · skip
      have h58 : 1 ≤ 0 := (nI_leI (a := 1) (b := 0) (by omega) (by omega)).mp h58
      omega
    · skip
      have h58 : ¬ (1 ≤ 0) := fun q9 => h58 ((nI_leI (a := 1) (b := 0) (by omega) (by omega)).mpr q9)
      refine lv_iconst (v := 0) hx hb dd_Model_plan_61 (by decide) ?_
      refine lv_goto (tgt := 76) hx hb dd_Model_plan_62 (by decide) ?_
      exact W.iret (v := (0 : Int32)) hx hb hr (fun t ht hW => ⟨⟨(0 : Int32), (1 : Int32), rfl, by first | exact ⟨fun _ => rfl, fun q => absurd q (tl_0 p9 h12), fun q => absurd q (tl_0 p9 h12)⟩ | exact ⟨fun q => absurd (tl_1 p9 h12) q, fun _ _ => rfl, fun _ q => (q.elim h20 h25).elim⟩ | exact ⟨fun q => absurd (tl_1 p9 h12) q, fun _ q => absurd (Or.inl h20) q, fun _ _ => rfl⟩ | exact ⟨fun q => absurd (tl_1 p9 h12) q, fun _ q => absurd (Or.inr h25) q, fun _ _ => rfl⟩, by rw [ht]; exact hP, va_K.moved hW.alike hK, hD⟩, hS.F ht⟩) hS.2.2 dd_Model_plan_76
abbrev qq_Model_take (D : va_G) (cI cZ cL cQ : ClassId) (o : Nat) (ml : Nat) (mm : Nat) (mw : Nat) (mc : Nat) (mg : Nat) (md : Nat) (mb : Nat) (mt : Nat) (mr : Nat) (mo : Nat) (mx : Nat) (mp : Nat) (nk : Nat) (na : Nat) (nv : Nat) (nf : Nat) (ns : Nat) (ne : Nat) (nw : Nat) (mf : Nat) (thr : Int32) (n : Nat) (k : Nat) (so : Int32) (fo : Int32) (bb : Int64) (bc : Int64) (be : Int64) (rs : Nat) (rc : Nat) (lo : Nat → Int32) (hi : Nat → Int32) (wt : Nat → Int32) (bd : Nat → Int32) (tr : Nat → Int64) (co : Nat → Int32) (bst : Nat → Int64) (A : Nat → Prop) : Array Value → State → Outcome → State → Prop := va_Qv (fun u : mt_T => u = mt_f lo hi wt bd co n k tr be (fo, bst, bb, bc)) (fun (u : mt_T) t => mm_B D kc_all [(cI, .int), (cZ, .boolean), (cL, .long), (cQ, .array .int)] A [(o, .inr (7, [.int thr, .int (nI n), .ref ml, .ref mm, .ref mw, .ref mc, .int (nI k), .ref mg, .ref md, .int so, .int u.1, .ref mb, .long u.2.2.1, .long u.2.2.2, .ref mt, .long be, .ref mr, .int (nI rs), .ref mo, .int (nI rc), .ref mx, .ref mp, .ref nk, .ref na, .ref nv, .ref nf, .ref ns, .ref ne, .ref nw, .ref mf])), (ml, .inl (cI, 4, .inl lo)), (mm, .inl (cI, 4, .inl hi)), (mg, .inl (cI, 24, .inl wt)), (md, .inl (cI, 6, .inl bd)), (mt, .inl (cL, 4, .inr (.inl tr))), (mc, .inl (cI, 4, .inl co)), (mb, .inl (cL, 4, .inr (.inl u.2.1)))] t) A
set_option maxHeartbeats 4000000 in
set_option maxRecDepth 100000 in
theorem cc_Model_take (l : Launch) (D : va_G) (cI cZ cL cQ : ClassId) (sz : Nat) (o : Nat) (ml : Nat) (mm : Nat) (mw : Nat) (mc : Nat) (mg : Nat) (md : Nat) (mb : Nat) (mt : Nat) (mr : Nat) (mo : Nat) (mx : Nat) (mp : Nat) (nk : Nat) (na : Nat) (nv : Nat) (nf : Nat) (ns : Nat) (ne : Nat) (nw : Nat) (mf : Nat) (thr : Int32) (n : Nat) (k : Nat) (so : Int32) (fo : Int32) (bb : Int64) (bc : Int64) (be : Int64) (rs : Nat) (rc : Nat) (lo : Nat → Int32) (hi : Nat → Int32) (wt : Nat → Int32) (bd : Nat → Int32) (tr : Nat → Int64) (co : Nat → Int32) (bst : Nat → Int64) (hn : n ≤ 4) (hk : k ≤ 6) : Met l yy_Model_take ww_Model_take ({ frames := 1, cells := 0, slots := 0, locals := 24 } : Room) (mm_Pc D kc_all [(cI, .int), (cZ, .boolean), (cL, .long), (cQ, .array .int)] sz [(o, .inr (7, [.int thr, .int (nI n), .ref ml, .ref mm, .ref mw, .ref mc, .int (nI k), .ref mg, .ref md, .int so, .int fo, .ref mb, .long bb, .long bc, .ref mt, .long be, .ref mr, .int (nI rs), .ref mo, .int (nI rc), .ref mx, .ref mp, .ref nk, .ref na, .ref nv, .ref nf, .ref ns, .ref ne, .ref nw, .ref mf])), (ml, .inl (cI, 4, .inl lo)), (mm, .inl (cI, 4, .inl hi)), (mg, .inl (cI, 24, .inl wt)), (md, .inl (cI, 6, .inl bd)), (mt, .inl (cL, 4, .inr (.inl tr))), (mc, .inl (cI, 4, .inl co)), (mb, .inl (cL, 4, .inr (.inl bst)))] [.ref o]) (qq_Model_take D cI cZ cL cQ o ml mm mw mc mg md mb mt mr mo mx mp nk na nv nf ns ne nw mf thr n k so fo bb bc be rs rc lo hi wt bd tr co bst (va_A [(o, .inr (7, [.int thr, .int (nI n), .ref ml, .ref mm, .ref mw, .ref mc, .int (nI k), .ref mg, .ref md, .int so, .int fo, .ref mb, .long bb, .long bc, .ref mt, .long be, .ref mr, .int (nI rs), .ref mo, .int (nI rc), .ref mx, .ref mp, .ref nk, .ref na, .ref nv, .ref nf, .ref ns, .ref ne, .ref nw, .ref mf])), (ml, .inl (cI, 4, .inl lo)), (mm, .inl (cI, 4, .inl hi)), (mg, .inl (cI, 24, .inl wt)), (md, .inl (cI, 6, .inl bd)), (mt, .inl (cL, 4, .inr (.inl tr))), (mc, .inl (cI, 4, .inl co)), (mb, .inl (cL, 4, .inr (.inl bst)))] sz)) 0 0 (va_A [(o, .inr (7, [.int thr, .int (nI n), .ref ml, .ref mm, .ref mw, .ref mc, .int (nI k), .ref mg, .ref md, .int so, .int fo, .ref mb, .long bb, .long bc, .ref mt, .long be, .ref mr, .int (nI rs), .ref mo, .int (nI rc), .ref mx, .ref mp, .ref nk, .ref na, .ref nv, .ref nf, .ref ns, .ref ne, .ref nw, .ref mf])), (ml, .inl (cI, 4, .inl lo)), (mm, .inl (cI, 4, .inl hi)), (mg, .inl (cI, 24, .inl wt)), (md, .inl (cI, 6, .inl bd)), (mt, .inl (cL, 4, .inr (.inl tr))), (mc, .inl (cI, 4, .inl co)), (mb, .inl (cL, 4, .inr (.inl bst)))] sz) := by
  refine Met.ofW (cc := bb_Model_take) (maxL := 14) (ret := none) (by decide) rfl ?_
  intro p e s m args below meth c s₁ B hml hv
  obtain ⟨rfl, hsz, hP, hK, hD0⟩ := hv
  have hx := B.exec
  have hb := B.bytes
  have hr := B.returns
  have hts := atoms_spec (ws := ww_Model_take) B.pre
  have hown : s.vm.findClass RR_Model = some m.cls := findClass_of_methodNamed B.named
  have hlocks := B.notSynchronized
  subst hsz
  have hD := hD0.self (sz := s.heap.size)
  generalize hAe : va_A [(o, .inr (7, [.int thr, .int (nI n), .ref ml, .ref mm, .ref mw, .ref mc, .int (nI k), .ref mg, .ref md, .int so, .int fo, .ref mb, .long bb, .long bc, .ref mt, .long be, .ref mr, .int (nI rs), .ref mo, .int (nI rc), .ref mx, .ref mp, .ref nk, .ref na, .ref nv, .ref nf, .ref ns, .ref ne, .ref nw, .ref mf])), (ml, .inl (cI, 4, .inl lo)), (mm, .inl (cI, 4, .inl hi)), (mg, .inl (cI, 24, .inl wt)), (md, .inl (cI, 6, .inl bd)), (mt, .inl (cL, 4, .inr (.inl tr))), (mc, .inl (cI, 4, .inl co)), (mb, .inl (cL, 4, .inr (.inl bst)))] s.heap.size = A at hD ⊢
  have hA : ∀ q : Nat, s.heap.size ≤ q → A q := fun q h => by rw [← hAe]; exact Or.inr h
  have hS : va_S A s.heap s.heap [] := va_S.rf
  have hP : va_P D kc_all [(o, .inr (7, [.int thr, .int (nI n), .ref ml, .ref mm, .ref mw, .ref mc, .int (nI k), .ref mg, .ref md, .int so, .int fo, .ref mb, .long bb, .long bc, .ref mt, .long be, .ref mr, .int (nI rs), .ref mo, .int (nI rc), .ref mx, .ref mp, .ref nk, .ref na, .ref nv, .ref nf, .ref ns, .ref ne, .ref nw, .ref mf])), (ml, .inl (cI, 4, .inl lo)), (mm, .inl (cI, 4, .inl hi)), (mg, .inl (cI, 24, .inl wt)), (md, .inl (cI, 6, .inl bd)), (mt, .inl (cL, 4, .inr (.inl tr))), (mc, .inl (cI, 4, .inl co)), (mb, .inl (cL, 4, .inr (.inl bst)))] s.heap := hP
  have hl := lv_entry ([.ref o]) (n := 14) (Nat.le_of_ble_eq_true rfl)
  rw [lg_entry_eq]
  generalize (lg_sl ([.ref o]) ++ List.replicate (14 - (lg_sl ([.ref o])).length) Slot.unset).toArray = ls at hl ⊢
  have hl : lv_has ls 14 [(0, .ref o)] := hl
  have htb : ∀ w ∈ tb_all, w.before ([.ref o]).toArray s = true := fun w h => hts w (List.mem_cons_of_mem _ h)
  have hf_7 := htb _ fl_Model_7
  have hf_24 := htb _ fl_Model_24
  have hf_33 := htb _ fl_Model_33
  have hf_37 := htb _ fl_Model_37
  have hf_93 := htb _ fl_Model_93
  have hf_101 := htb _ fl_Model_101
  have hf_104 := htb _ fl_Model_104
  have hf_107 := htb _ fl_Model_107
  refine lv_aload_n hx hb dd_Model_take_0 rfl (lv_at hl 0 rfl) ?_
  refine mm_i (wc := [(o, .inr (7, [.int thr, .int (nI n), .ref ml, .ref mm, .ref mw, .ref mc, .int (nI k), .ref mg, .ref md, .int so, .int fo, .ref mb, .long bb, .long bc, .ref mt, .long be, .ref mr, .int (nI rs), .ref mo, .int (nI rc), .ref mx, .ref mp, .ref nk, .ref na, .ref nv, .ref nf, .ref ns, .ref ne, .ref nw, .ref mf])), (ml, .inl (cI, 4, .inl lo)), (mm, .inl (cI, 4, .inl hi)), (mg, .inl (cI, 24, .inl wt)), (md, .inl (cI, 6, .inl bd)), (mt, .inl (cL, 4, .inr (.inl tr)))]) (wr := [(mc, .inl (cI, 4, .inl co)), (mb, .inl (cL, 4, .inr (.inl bst)))]) (va_runV (As := []) (rest := []) (C := RR_Model) ⟨hx, hb, hml, hown, hts⟩ (cc_Model_isPlan l D cI cZ cL cQ _ o ml mm mw mc mg md mb mt mr mo mx mp nk na nv nf ns ne nw mf thr n k so fo bb bc be rs rc lo hi wt bd tr (by omega) (by omega)) (mm_cwV 0 hts ml_Model_97 im_Model_isPlan se_Model_isPlan ic_Model cd_Model_isPlan rfl rfl (by decide +kernel) ⟨Nat.le_of_ble_eq_true rfl, Nat.le_of_ble_eq_true rfl⟩) (mm_preV hK hP hD [0, 1, 2, 3, 4, 5] (by decide) rfl 0 rfl rfl) rfl rfl hl.1 rfl (lv_room (Nat.le_of_ble_eq_true rfl)) dd_Model_take_1 ⟨Nat.zero_le _, Nat.zero_le _⟩) hP hD hS hA [0, 1, 2, 3, 4, 5] [6, 7] rfl rfl (by decide) (by decide) (fun zr1 zu2 H locs p1 hP hD hS => ?_)
  have hP : va_P D kc_all [(mc, .inl (cI, 4, .inl co)), (mb, .inl (cL, 4, .inr (.inl bst))), (o, .inr (7, [.int thr, .int (nI n), .ref ml, .ref mm, .ref mw, .ref mc, .int (nI k), .ref mg, .ref md, .int so, .int fo, .ref mb, .long bb, .long bc, .ref mt, .long be, .ref mr, .int (nI rs), .ref mo, .int (nI rc), .ref mx, .ref mp, .ref nk, .ref na, .ref nv, .ref nf, .ref ns, .ref ne, .ref nw, .ref mf])), (ml, .inl (cI, 4, .inl lo)), (mm, .inl (cI, 4, .inl hi)), (mg, .inl (cI, 24, .inl wt)), (md, .inl (cI, 6, .inl bd)), (mt, .inl (cL, 4, .inr (.inl tr)))] H := hP
  have hD : va_D A [(mc, .inl (cI, 4, .inl co)), (mb, .inl (cL, 4, .inr (.inl bst))), (o, .inr (7, [.int thr, .int (nI n), .ref ml, .ref mm, .ref mw, .ref mc, .int (nI k), .ref mg, .ref md, .int so, .int fo, .ref mb, .long bb, .long bc, .ref mt, .long be, .ref mr, .int (nI rs), .ref mo, .int (nI rc), .ref mx, .ref mp, .ref nk, .ref na, .ref nv, .ref nf, .ref ns, .ref ne, .ref nw, .ref mf])), (ml, .inl (cI, 4, .inl lo)), (mm, .inl (cI, 4, .inl hi)), (mg, .inl (cI, 24, .inl wt)), (md, .inl (cI, 6, .inl bd)), (mt, .inl (cL, 4, .inr (.inl tr)))] := hD
  have hP : va_P D kc_all [(o, .inr (7, [.int thr, .int (nI n), .ref ml, .ref mm, .ref mw, .ref mc, .int (nI k), .ref mg, .ref md, .int so, .int fo, .ref mb, .long bb, .long bc, .ref mt, .long be, .ref mr, .int (nI rs), .ref mo, .int (nI rc), .ref mx, .ref mp, .ref nk, .ref na, .ref nv, .ref nf, .ref ns, .ref ne, .ref nw, .ref mf])), (ml, .inl (cI, 4, .inl lo)), (mm, .inl (cI, 4, .inl hi)), (mg, .inl (cI, 24, .inl wt)), (md, .inl (cI, 6, .inl bd)), (mt, .inl (cL, 4, .inr (.inl tr))), (mc, .inl (cI, 4, .inl co)), (mb, .inl (cL, 4, .inr (.inl bst)))] H := hP.sub [2, 3, 4, 5, 6, 7, 0, 1] rfl
  have hD : va_D A [(o, .inr (7, [.int thr, .int (nI n), .ref ml, .ref mm, .ref mw, .ref mc, .int (nI k), .ref mg, .ref md, .int so, .int fo, .ref mb, .long bb, .long bc, .ref mt, .long be, .ref mr, .int (nI rs), .ref mo, .int (nI rc), .ref mx, .ref mp, .ref nk, .ref na, .ref nv, .ref nf, .ref ns, .ref ne, .ref nw, .ref mf])), (ml, .inl (cI, 4, .inl lo)), (mm, .inl (cI, 4, .inl hi)), (mg, .inl (cI, 24, .inl wt)), (md, .inl (cI, 6, .inl bd)), (mt, .inl (cL, 4, .inr (.inl tr))), (mc, .inl (cI, 4, .inl co)), (mb, .inl (cL, 4, .inr (.inl bst)))] := hD.sub [2, 3, 4, 5, 6, 7, 0, 1] (by decide) rfl
  have p1 : tl_ok (mp_ok lo hi wt bd tr be n k) zr1 := p1
  refine lv_if_ne (tgt := 8) hx hb dd_Model_take_4 (by decide) (fun h4 => ?_) (fun h4 => ?_)
  · skip
    refine lv_lconst (v := 0) hx hb dd_Model_take_8 (by decide) ?_
    refine lv_lstore_n (lv' := [(1, .long (0 : Int64)), (0, .ref o)]) hx hb dd_Model_take_9 rfl hl (by decide) rfl (fun ls hl => ?_)
    refine lv_iconst (v := 0) hx hb dd_Model_take_10 (by decide) ?_
    refine lv_istore_n (lv' := [(3, .int (0 : Int32)), (1, .long (0 : Int64)), (0, .ref o)]) hx hb dd_Model_take_11 rfl hl (by decide) rfl (fun ls hl => ?_)
    have J12 : ∀ (N : Nat) (q0 : Nat), (n - q0) < N → ∀ (hq0 : q0 ≤ n), ∀ (ls : Array Slot) (H : Heap) (locs : List Loc), lv_has ls 14 [(0, .ref o), (1, .long (mw_sum co tr q0)), (3, .int (nI q0))] → va_P D kc_all [(o, .inr (7, [.int thr, .int (nI n), .ref ml, .ref mm, .ref mw, .ref mc, .int (nI k), .ref mg, .ref md, .int so, .int fo, .ref mb, .long bb, .long bc, .ref mt, .long be, .ref mr, .int (nI rs), .ref mo, .int (nI rc), .ref mx, .ref mp, .ref nk, .ref na, .ref nv, .ref nf, .ref ns, .ref ne, .ref nw, .ref mf])), (ml, .inl (cI, 4, .inl lo)), (mm, .inl (cI, 4, .inl hi)), (mg, .inl (cI, 24, .inl wt)), (md, .inl (cI, 6, .inl bd)), (mt, .inl (cL, 4, .inr (.inl tr))), (mc, .inl (cI, 4, .inl co)), (mb, .inl (cL, 4, .inr (.inl bst)))] H → va_D A [(o, .inr (7, [.int thr, .int (nI n), .ref ml, .ref mm, .ref mw, .ref mc, .int (nI k), .ref mg, .ref md, .int so, .int fo, .ref mb, .long bb, .long bc, .ref mt, .long be, .ref mr, .int (nI rs), .ref mo, .int (nI rc), .ref mx, .ref mp, .ref nk, .ref na, .ref nv, .ref nf, .ref ns, .ref ne, .ref nw, .ref mf])), (ml, .inl (cI, 4, .inl lo)), (mm, .inl (cI, 4, .inl hi)), (mg, .inl (cI, 24, .inl wt)), (md, .inl (cI, 6, .inl bd)), (mt, .inl (cL, 4, .inr (.inl tr))), (mc, .inl (cI, 4, .inl co)), (mb, .inl (cL, 4, .inr (.inl bst)))] → va_S A s.heap H locs → W p l e (headSpec ww_Model_take ({ frames := 1, cells := 0, slots := 0, locals := 24 } : Room)).room s m ([.ref o]).toArray below meth c H locs 0 0 (MQ below (qq_Model_take D cI cZ cL cQ o ml mm mw mc mg md mb mt mr mo mx mp nk na nv nf ns ne nw mf thr n k so fo bb bc be rs rc lo hi wt bd tr co bst A) ([.ref o]).toArray s 0 0 A) (F0 m 12 ls []) := by
      intro N
      induction N with
      | zero => intro q0 hN9; exact absurd hN9 (Nat.not_lt_zero _)
      | succ N IH12 =>
        intro q0 hN9 hq0 ls H locs hl hP hD hS
        refine lv_iload_n hx hb dd_Model_take_12 rfl (lv_at hl 2 rfl) ?_
        refine lv_aload_n hx hb dd_Model_take_13 rfl (lv_at hl 0 rfl) ?_
        refine va_get (D := D) (ci := 7) (v := .int (nI n)) (C := RR_Model) (T := FF_Model) (N := 30) hx hb htb hi_Model hown hK hP 0 rfl rfl 1 (by decide) hf_7 (fun _ h9 => h9) rfl dd_Model_take_14 ?_
        refine lv_icmp_ge (tgt := 43) hx hb dd_Model_take_17 (by decide) (fun h17 => ?_) (fun h17 => ?_)
        · skip
          have h17 : n ≤ q0 := (nI_leI (a := n) (b := q0) (by omega) (by omega)).mp h17
          have eq0 : q0 = n := by omega
          rw [eq0] at hl
          have hl : lv_has ls 14 [(0, .ref o), (1, .long (mw_sum co tr n)), (3, .int (nI n))] := hl
          refine lv_lload_n hx hb dd_Model_take_43 rfl (lv_at hl 1 rfl) ?_
          refine lv_aload_n hx hb dd_Model_take_44 rfl (lv_at hl 0 rfl) ?_
          refine va_get (D := D) (ci := 7) (v := .long bb) (C := RR_Model) (T := FF_Model) (N := 30) hx hb htb hi_Model hown hK hP 0 rfl rfl 12 (by decide) hf_101 (fun _ h9 => h9) rfl dd_Model_take_45 ?_
          refine lv_lmul hx hb dd_Model_take_48 ?_
          have J82 : ∀ (ls : Array Slot) (H : Heap) (locs : List Loc), lv_has ls 14 [(0, .ref o), (1, .long (mw_sum co tr n)), (3, .long (mw_sum co tr n * bb)), (5, .long (bc * be)), (7, .int (tk_b fo (mw_sum co tr n * bb) (bc * be)))] → va_P D kc_all [(o, .inr (7, [.int thr, .int (nI n), .ref ml, .ref mm, .ref mw, .ref mc, .int (nI k), .ref mg, .ref md, .int so, .int fo, .ref mb, .long bb, .long bc, .ref mt, .long be, .ref mr, .int (nI rs), .ref mo, .int (nI rc), .ref mx, .ref mp, .ref nk, .ref na, .ref nv, .ref nf, .ref ns, .ref ne, .ref nw, .ref mf])), (ml, .inl (cI, 4, .inl lo)), (mm, .inl (cI, 4, .inl hi)), (mg, .inl (cI, 24, .inl wt)), (md, .inl (cI, 6, .inl bd)), (mt, .inl (cL, 4, .inr (.inl tr))), (mc, .inl (cI, 4, .inl co)), (mb, .inl (cL, 4, .inr (.inl bst)))] H → va_D A [(o, .inr (7, [.int thr, .int (nI n), .ref ml, .ref mm, .ref mw, .ref mc, .int (nI k), .ref mg, .ref md, .int so, .int fo, .ref mb, .long bb, .long bc, .ref mt, .long be, .ref mr, .int (nI rs), .ref mo, .int (nI rc), .ref mx, .ref mp, .ref nk, .ref na, .ref nv, .ref nf, .ref ns, .ref ne, .ref nw, .ref mf])), (ml, .inl (cI, 4, .inl lo)), (mm, .inl (cI, 4, .inl hi)), (mg, .inl (cI, 24, .inl wt)), (md, .inl (cI, 6, .inl bd)), (mt, .inl (cL, 4, .inr (.inl tr))), (mc, .inl (cI, 4, .inl co)), (mb, .inl (cL, 4, .inr (.inl bst)))] → va_S A s.heap H locs → W p l e (headSpec ww_Model_take ({ frames := 1, cells := 0, slots := 0, locals := 24 } : Room)).room s m ([.ref o]).toArray below meth c H locs 0 0 (MQ below (qq_Model_take D cI cZ cL cQ o ml mm mw mc mg md mb mt mr mo mx mp nk na nv nf ns ne nw mf thr n k so fo bb bc be rs rc lo hi wt bd tr co bst A) ([.ref o]).toArray s 0 0 A) (F0 m 82 ls []) := by
            intro   ls H locs hl hP hD hS
            have J103 : ∀ (ls : Array Slot) (H : Heap) (locs : List Loc), lv_has ls 14 [(0, .ref o), (1, .long (mw_sum co tr n)), (3, .long (mw_sum co tr n * bb)), (5, .long (bc * be)), (7, .int (tk_b fo (mw_sum co tr n * bb) (bc * be))), (8, .int (tk_e fo (mw_sum co tr n * bb) (bc * be)))] → va_P D kc_all [(o, .inr (7, [.int thr, .int (nI n), .ref ml, .ref mm, .ref mw, .ref mc, .int (nI k), .ref mg, .ref md, .int so, .int fo, .ref mb, .long bb, .long bc, .ref mt, .long be, .ref mr, .int (nI rs), .ref mo, .int (nI rc), .ref mx, .ref mp, .ref nk, .ref na, .ref nv, .ref nf, .ref ns, .ref ne, .ref nw, .ref mf])), (ml, .inl (cI, 4, .inl lo)), (mm, .inl (cI, 4, .inl hi)), (mg, .inl (cI, 24, .inl wt)), (md, .inl (cI, 6, .inl bd)), (mt, .inl (cL, 4, .inr (.inl tr))), (mc, .inl (cI, 4, .inl co)), (mb, .inl (cL, 4, .inr (.inl bst)))] H → va_D A [(o, .inr (7, [.int thr, .int (nI n), .ref ml, .ref mm, .ref mw, .ref mc, .int (nI k), .ref mg, .ref md, .int so, .int fo, .ref mb, .long bb, .long bc, .ref mt, .long be, .ref mr, .int (nI rs), .ref mo, .int (nI rc), .ref mx, .ref mp, .ref nk, .ref na, .ref nv, .ref nf, .ref ns, .ref ne, .ref nw, .ref mf])), (ml, .inl (cI, 4, .inl lo)), (mm, .inl (cI, 4, .inl hi)), (mg, .inl (cI, 24, .inl wt)), (md, .inl (cI, 6, .inl bd)), (mt, .inl (cL, 4, .inr (.inl tr))), (mc, .inl (cI, 4, .inl co)), (mb, .inl (cL, 4, .inr (.inl bst)))] → va_S A s.heap H locs → W p l e (headSpec ww_Model_take ({ frames := 1, cells := 0, slots := 0, locals := 24 } : Room)).room s m ([.ref o]).toArray below meth c H locs 0 0 (MQ below (qq_Model_take D cI cZ cL cQ o ml mm mw mc mg md mb mt mr mo mx mp nk na nv nf ns ne nw mf thr n k so fo bb bc be rs rc lo hi wt bd tr co bst A) ([.ref o]).toArray s 0 0 A) (F0 m 103 ls []) := by
              intro   ls H locs hl hP hD hS
              refine lv_iconst (v := 0) hx hb dd_Model_take_103 (by decide) ?_
              refine lv_istore (lv' := [(9, .int (0 : Int32)), (0, .ref o), (1, .long (mw_sum co tr n)), (3, .long (mw_sum co tr n * bb)), (5, .long (bc * be)), (7, .int (tk_b fo (mw_sum co tr n * bb) (bc * be))), (8, .int (tk_e fo (mw_sum co tr n * bb) (bc * be)))]) hx hb dd_Model_take_104 hl (by decide) rfl (fun ls hl => ?_)
              have J106 : ∀ (N : Nat) (j : Nat), (n - j) < N → ∀ (hj : j ≤ n), ∀ (ls : Array Slot) (H : Heap) (locs : List Loc), lv_has ls 14 [(0, .ref o), (1, .long (mw_sum co tr n)), (7, .int ((bs_f tr bst bb be (tk_b fo (mw_sum co tr n * bb) (bc * be)) (tk_e fo (mw_sum co tr n * bb) (bc * be)) j).1)), (8, .int ((bs_f tr bst bb be (tk_b fo (mw_sum co tr n * bb) (bc * be)) (tk_e fo (mw_sum co tr n * bb) (bc * be)) j).2)), (9, .int (nI j))] → va_P D kc_all [(o, .inr (7, [.int thr, .int (nI n), .ref ml, .ref mm, .ref mw, .ref mc, .int (nI k), .ref mg, .ref md, .int so, .int fo, .ref mb, .long bb, .long bc, .ref mt, .long be, .ref mr, .int (nI rs), .ref mo, .int (nI rc), .ref mx, .ref mp, .ref nk, .ref na, .ref nv, .ref nf, .ref ns, .ref ne, .ref nw, .ref mf])), (ml, .inl (cI, 4, .inl lo)), (mm, .inl (cI, 4, .inl hi)), (mg, .inl (cI, 24, .inl wt)), (md, .inl (cI, 6, .inl bd)), (mt, .inl (cL, 4, .inr (.inl tr))), (mc, .inl (cI, 4, .inl co)), (mb, .inl (cL, 4, .inr (.inl bst)))] H → va_D A [(o, .inr (7, [.int thr, .int (nI n), .ref ml, .ref mm, .ref mw, .ref mc, .int (nI k), .ref mg, .ref md, .int so, .int fo, .ref mb, .long bb, .long bc, .ref mt, .long be, .ref mr, .int (nI rs), .ref mo, .int (nI rc), .ref mx, .ref mp, .ref nk, .ref na, .ref nv, .ref nf, .ref ns, .ref ne, .ref nw, .ref mf])), (ml, .inl (cI, 4, .inl lo)), (mm, .inl (cI, 4, .inl hi)), (mg, .inl (cI, 24, .inl wt)), (md, .inl (cI, 6, .inl bd)), (mt, .inl (cL, 4, .inr (.inl tr))), (mc, .inl (cI, 4, .inl co)), (mb, .inl (cL, 4, .inr (.inl bst)))] → va_S A s.heap H locs → W p l e (headSpec ww_Model_take ({ frames := 1, cells := 0, slots := 0, locals := 24 } : Room)).room s m ([.ref o]).toArray below meth c H locs 0 0 (MQ below (qq_Model_take D cI cZ cL cQ o ml mm mw mc mg md mb mt mr mo mx mp nk na nv nf ns ne nw mf thr n k so fo bb bc be rs rc lo hi wt bd tr co bst A) ([.ref o]).toArray s 0 0 A) (F0 m 106 ls []) := by
                intro N
                induction N with
                | zero => intro j hN9; exact absurd hN9 (Nat.not_lt_zero _)
                | succ N IH106 =>
                  intro j hN9 hj ls H locs hl hP hD hS
                  refine lv_iload hx hb dd_Model_take_106 (lv_at hl 4 rfl) ?_
                  refine lv_aload_n hx hb dd_Model_take_108 rfl (lv_at hl 0 rfl) ?_
                  refine va_get (D := D) (ci := 7) (v := .int (nI n)) (C := RR_Model) (T := FF_Model) (N := 30) hx hb htb hi_Model hown hK hP 0 rfl rfl 1 (by decide) hf_7 (fun _ h9 => h9) rfl dd_Model_take_109 ?_
                  refine lv_icmp_ge (tgt := 184) hx hb dd_Model_take_112 (by decide) (fun h112 => ?_) (fun h112 => ?_)
                  · skip
                    have h112 : n ≤ j := (nI_leI (a := n) (b := j) (by omega) (by omega)).mp h112
                    have hbn : (bs_f tr bst bb be (tk_b fo (mw_sum co tr n * bb) (bc * be)) (tk_e fo (mw_sum co tr n * bb) (bc * be)) n).1 = (bs_f tr bst bb be (tk_b fo (mw_sum co tr n * bb) (bc * be)) (tk_e fo (mw_sum co tr n * bb) (bc * be)) j).1 := by first | rw [bs_stay h117 n hj] | rw [show n = j by omega]
                    refine lv_iload hx hb dd_Model_take_184 (lv_at hl 2 rfl) ?_
                    refine lv_if_eq (tgt := 239) hx hb dd_Model_take_186 (by decide) (fun h186 => ?_) (fun h186 => ?_)
                    · skip
                      exact W.vret hx hb hr (fun t ht hW => ⟨⟨(fo, bst, bb, bc), rfl, by first | exact ((ci_t (tl_1 p1 h4)).trans (ci_n (fun q => q (hbn.trans h186)))).symm | (rw [hb1, show i = n by omega]; exact ((ci_t (tl_1 p1 h4)).trans (ci_t (fun q => h186 (hbn.symm.trans q)))).symm), by rw [ht]; exact hP, va_K.moved hW.alike hK, hD⟩, hS.F ht⟩) hS.2.2 dd_Model_take_239
                    · skip
                      refine lv_aload_n hx hb dd_Model_take_189 rfl (lv_at hl 0 rfl) ?_
                      refine lv_iconst (v := 1) hx hb dd_Model_take_190 (by decide) ?_
                      refine va_put (D := D) (ci := 7) (v := .int (1 : Int32)) (ty := .boolean) (C := RR_Model) (T := FF_Model) (N := 30) hx hb htb hi_Model tt_Model tt_Model_ok nn_Model hown hK hP hD hS 0 rfl rfl 10 (by decide) hf_107 (fun _ h9 => h9) rfl (by decide +kernel) (rfl) (rfl) (Nat.le_of_ble_eq_true rfl) dd_Model_take_191 (fun H locs hP hD hS => ?_)
                      have hP : va_P D kc_all [(o, .inr (7, [.int thr, .int (nI n), .ref ml, .ref mm, .ref mw, .ref mc, .int (nI k), .ref mg, .ref md, .int so, .int (1 : Int32), .ref mb, .long bb, .long bc, .ref mt, .long be, .ref mr, .int (nI rs), .ref mo, .int (nI rc), .ref mx, .ref mp, .ref nk, .ref na, .ref nv, .ref nf, .ref ns, .ref ne, .ref nw, .ref mf])), (ml, .inl (cI, 4, .inl lo)), (mm, .inl (cI, 4, .inl hi)), (mg, .inl (cI, 24, .inl wt)), (md, .inl (cI, 6, .inl bd)), (mt, .inl (cL, 4, .inr (.inl tr))), (mc, .inl (cI, 4, .inl co)), (mb, .inl (cL, 4, .inr (.inl bst)))] H := hP
                      have hD : va_D A [(o, .inr (7, [.int thr, .int (nI n), .ref ml, .ref mm, .ref mw, .ref mc, .int (nI k), .ref mg, .ref md, .int so, .int (1 : Int32), .ref mb, .long bb, .long bc, .ref mt, .long be, .ref mr, .int (nI rs), .ref mo, .int (nI rc), .ref mx, .ref mp, .ref nk, .ref na, .ref nv, .ref nf, .ref ns, .ref ne, .ref nw, .ref mf])), (ml, .inl (cI, 4, .inl lo)), (mm, .inl (cI, 4, .inl hi)), (mg, .inl (cI, 24, .inl wt)), (md, .inl (cI, 6, .inl bd)), (mt, .inl (cL, 4, .inr (.inl tr))), (mc, .inl (cI, 4, .inl co)), (mb, .inl (cL, 4, .inr (.inl bst)))] := hD
                      refine lv_aload_n hx hb dd_Model_take_194 rfl (lv_at hl 0 rfl) ?_
                      refine lv_lload_n hx hb dd_Model_take_195 rfl (lv_at hl 1 rfl) ?_
                      refine va_put (D := D) (ci := 7) (v := .long (mw_sum co tr n)) (ty := .long) (C := RR_Model) (T := FF_Model) (N := 30) hx hb htb hi_Model tt_Model tt_Model_ok nn_Model hown hK hP hD hS 0 rfl rfl 13 (by decide) hf_104 (fun _ h9 => h9) rfl (by decide +kernel) (rfl) (rfl) (Nat.le_of_ble_eq_true rfl) dd_Model_take_196 (fun H locs hP hD hS => ?_)
                      have hP : va_P D kc_all [(o, .inr (7, [.int thr, .int (nI n), .ref ml, .ref mm, .ref mw, .ref mc, .int (nI k), .ref mg, .ref md, .int so, .int (1 : Int32), .ref mb, .long bb, .long (mw_sum co tr n), .ref mt, .long be, .ref mr, .int (nI rs), .ref mo, .int (nI rc), .ref mx, .ref mp, .ref nk, .ref na, .ref nv, .ref nf, .ref ns, .ref ne, .ref nw, .ref mf])), (ml, .inl (cI, 4, .inl lo)), (mm, .inl (cI, 4, .inl hi)), (mg, .inl (cI, 24, .inl wt)), (md, .inl (cI, 6, .inl bd)), (mt, .inl (cL, 4, .inr (.inl tr))), (mc, .inl (cI, 4, .inl co)), (mb, .inl (cL, 4, .inr (.inl bst)))] H := hP
                      have hD : va_D A [(o, .inr (7, [.int thr, .int (nI n), .ref ml, .ref mm, .ref mw, .ref mc, .int (nI k), .ref mg, .ref md, .int so, .int (1 : Int32), .ref mb, .long bb, .long (mw_sum co tr n), .ref mt, .long be, .ref mr, .int (nI rs), .ref mo, .int (nI rc), .ref mx, .ref mp, .ref nk, .ref na, .ref nv, .ref nf, .ref ns, .ref ne, .ref nw, .ref mf])), (ml, .inl (cI, 4, .inl lo)), (mm, .inl (cI, 4, .inl hi)), (mg, .inl (cI, 24, .inl wt)), (md, .inl (cI, 6, .inl bd)), (mt, .inl (cL, 4, .inr (.inl tr))), (mc, .inl (cI, 4, .inl co)), (mb, .inl (cL, 4, .inr (.inl bst)))] := hD
                      refine lv_aload_n hx hb dd_Model_take_199 rfl (lv_at hl 0 rfl) ?_
                      refine lv_aload_n hx hb dd_Model_take_200 rfl (lv_at hl 0 rfl) ?_
                      refine va_get (D := D) (ci := 7) (v := .long be) (C := RR_Model) (T := FF_Model) (N := 30) hx hb htb hi_Model hown hK hP 0 rfl rfl 15 (by decide) hf_93 (fun _ h9 => h9) rfl dd_Model_take_201 ?_
                      refine va_put (D := D) (ci := 7) (v := .long be) (ty := .long) (C := RR_Model) (T := FF_Model) (N := 30) hx hb htb hi_Model tt_Model tt_Model_ok nn_Model hown hK hP hD hS 0 rfl rfl 12 (by decide) hf_101 (fun _ h9 => h9) rfl (by decide +kernel) (rfl) (rfl) (Nat.le_of_ble_eq_true rfl) dd_Model_take_204 (fun H locs hP hD hS => ?_)
                      have hP : va_P D kc_all [(o, .inr (7, [.int thr, .int (nI n), .ref ml, .ref mm, .ref mw, .ref mc, .int (nI k), .ref mg, .ref md, .int so, .int (1 : Int32), .ref mb, .long be, .long (mw_sum co tr n), .ref mt, .long be, .ref mr, .int (nI rs), .ref mo, .int (nI rc), .ref mx, .ref mp, .ref nk, .ref na, .ref nv, .ref nf, .ref ns, .ref ne, .ref nw, .ref mf])), (ml, .inl (cI, 4, .inl lo)), (mm, .inl (cI, 4, .inl hi)), (mg, .inl (cI, 24, .inl wt)), (md, .inl (cI, 6, .inl bd)), (mt, .inl (cL, 4, .inr (.inl tr))), (mc, .inl (cI, 4, .inl co)), (mb, .inl (cL, 4, .inr (.inl bst)))] H := hP
                      have hD : va_D A [(o, .inr (7, [.int thr, .int (nI n), .ref ml, .ref mm, .ref mw, .ref mc, .int (nI k), .ref mg, .ref md, .int so, .int (1 : Int32), .ref mb, .long be, .long (mw_sum co tr n), .ref mt, .long be, .ref mr, .int (nI rs), .ref mo, .int (nI rc), .ref mx, .ref mp, .ref nk, .ref na, .ref nv, .ref nf, .ref ns, .ref ne, .ref nw, .ref mf])), (ml, .inl (cI, 4, .inl lo)), (mm, .inl (cI, 4, .inl hi)), (mg, .inl (cI, 24, .inl wt)), (md, .inl (cI, 6, .inl bd)), (mt, .inl (cL, 4, .inr (.inl tr))), (mc, .inl (cI, 4, .inl co)), (mb, .inl (cL, 4, .inr (.inl bst)))] := hD
                      refine lv_iconst (v := 0) hx hb dd_Model_take_207 (by decide) ?_
                      refine lv_istore (lv' := [(9, .int (0 : Int32)), (0, .ref o), (1, .long (mw_sum co tr n)), (7, .int ((bs_f tr bst bb be (tk_b fo (mw_sum co tr n * bb) (bc * be)) (tk_e fo (mw_sum co tr n * bb) (bc * be)) j).1)), (8, .int ((bs_f tr bst bb be (tk_b fo (mw_sum co tr n * bb) (bc * be)) (tk_e fo (mw_sum co tr n * bb) (bc * be)) j).2))]) hx hb dd_Model_take_208 hl (by decide) rfl (fun ls hl => ?_)
                      have J210 : ∀ (N : Nat) (i : Nat) (b1 : Nat → Int64), (n - i) < N → ∀ (hi9 : i ≤ n) (hb1 : b1 = ml_f tr bst i), ∀ (ls : Array Slot) (H : Heap) (locs : List Loc), lv_has ls 14 [(0, .ref o), (9, .int (nI i))] → va_P D kc_all [(o, .inr (7, [.int thr, .int (nI n), .ref ml, .ref mm, .ref mw, .ref mc, .int (nI k), .ref mg, .ref md, .int so, .int 1, .ref mb, .long be, .long (mw_sum co tr n), .ref mt, .long be, .ref mr, .int (nI rs), .ref mo, .int (nI rc), .ref mx, .ref mp, .ref nk, .ref na, .ref nv, .ref nf, .ref ns, .ref ne, .ref nw, .ref mf])), (ml, .inl (cI, 4, .inl lo)), (mm, .inl (cI, 4, .inl hi)), (mg, .inl (cI, 24, .inl wt)), (md, .inl (cI, 6, .inl bd)), (mt, .inl (cL, 4, .inr (.inl tr))), (mc, .inl (cI, 4, .inl co)), (mb, .inl (cL, 4, .inr (.inl b1)))] H → va_D A [(o, .inr (7, [.int thr, .int (nI n), .ref ml, .ref mm, .ref mw, .ref mc, .int (nI k), .ref mg, .ref md, .int so, .int 1, .ref mb, .long be, .long (mw_sum co tr n), .ref mt, .long be, .ref mr, .int (nI rs), .ref mo, .int (nI rc), .ref mx, .ref mp, .ref nk, .ref na, .ref nv, .ref nf, .ref ns, .ref ne, .ref nw, .ref mf])), (ml, .inl (cI, 4, .inl lo)), (mm, .inl (cI, 4, .inl hi)), (mg, .inl (cI, 24, .inl wt)), (md, .inl (cI, 6, .inl bd)), (mt, .inl (cL, 4, .inr (.inl tr))), (mc, .inl (cI, 4, .inl co)), (mb, .inl (cL, 4, .inr (.inl b1)))] → va_S A s.heap H locs → W p l e (headSpec ww_Model_take ({ frames := 1, cells := 0, slots := 0, locals := 24 } : Room)).room s m ([.ref o]).toArray below meth c H locs 0 0 (MQ below (qq_Model_take D cI cZ cL cQ o ml mm mw mc mg md mb mt mr mo mx mp nk na nv nf ns ne nw mf thr n k so fo bb bc be rs rc lo hi wt bd tr co bst A) ([.ref o]).toArray s 0 0 A) (F0 m 210 ls []) := by
                        intro N
                        induction N with
                        | zero => intro i b1 hN9; exact absurd hN9 (Nat.not_lt_zero _)
                        | succ N IH210 =>
                          intro i b1 hN9 hi9 hb1 ls H locs hl hP hD hS
                          refine lv_iload hx hb dd_Model_take_210 (lv_at hl 1 rfl) ?_
                          refine lv_aload_n hx hb dd_Model_take_212 rfl (lv_at hl 0 rfl) ?_
                          refine va_get (D := D) (ci := 7) (v := .int (nI n)) (C := RR_Model) (T := FF_Model) (N := 30) hx hb htb hi_Model hown hK hP 0 rfl rfl 1 (by decide) hf_7 (fun _ h9 => h9) rfl dd_Model_take_213 ?_
                          refine lv_icmp_ge (tgt := 239) hx hb dd_Model_take_216 (by decide) (fun h216 => ?_) (fun h216 => ?_)
                          · skip
                            have h216 : n ≤ i := (nI_leI (a := n) (b := i) (by omega) (by omega)).mp h216
                            exact W.vret hx hb hr (fun t ht hW => ⟨⟨(1, b1, be, mw_sum co tr n), rfl, by first | exact ((ci_t (tl_1 p1 h4)).trans (ci_n (fun q => q (hbn.trans h186)))).symm | (rw [hb1, show i = n by omega]; exact ((ci_t (tl_1 p1 h4)).trans (ci_t (fun q => h186 (hbn.symm.trans q)))).symm), by rw [ht]; exact hP, va_K.moved hW.alike hK, hD⟩, hS.F ht⟩) hS.2.2 dd_Model_take_239
                          · skip
                            have h216 : ¬ (n ≤ i) := fun q9 => h216 ((nI_leI (a := n) (b := i) (by omega) (by omega)).mpr q9)
                            refine lv_aload_n hx hb dd_Model_take_219 rfl (lv_at hl 0 rfl) ?_
                            refine va_get (D := D) (ci := 7) (v := .ref mb) (C := RR_Model) (T := FF_Model) (N := 30) hx hb htb hi_Model hown hK hP 0 rfl rfl 11 (by decide) hf_33 (fun _ h9 => h9) rfl dd_Model_take_220 ?_
                            refine lv_iload hx hb dd_Model_take_223 (lv_at hl 1 rfl) ?_
                            refine lv_aload_n hx hb dd_Model_take_225 rfl (lv_at hl 0 rfl) ?_
                            refine va_get (D := D) (ci := 7) (v := .ref mt) (C := RR_Model) (T := FF_Model) (N := 30) hx hb htb hi_Model hown hK hP 0 rfl rfl 14 (by decide) hf_37 (fun _ h9 => h9) rfl dd_Model_take_226 ?_
                            refine lv_iload hx hb dd_Model_take_229 (lv_at hl 1 rfl) ?_
                            refine mm_lald hx hb hK hP 5 2 rfl rfl (i) (rfl) (by omega) (by first | decide | omega) dd_Model_take_231 ?_
                            refine mm_last hx hb hK hP hD hS 7 2 rfl rfl (i) (rfl) (by omega) (by first | decide | omega) dd_Model_take_232 (fun H locs hP hD hS => ?_)
                            have hP : va_P D kc_all [(o, .inr (7, [.int thr, .int (nI n), .ref ml, .ref mm, .ref mw, .ref mc, .int (nI k), .ref mg, .ref md, .int so, .int 1, .ref mb, .long be, .long (mw_sum co tr n), .ref mt, .long be, .ref mr, .int (nI rs), .ref mo, .int (nI rc), .ref mx, .ref mp, .ref nk, .ref na, .ref nv, .ref nf, .ref ns, .ref ne, .ref nw, .ref mf])), (ml, .inl (cI, 4, .inl lo)), (mm, .inl (cI, 4, .inl hi)), (mg, .inl (cI, 24, .inl wt)), (md, .inl (cI, 6, .inl bd)), (mt, .inl (cL, 4, .inr (.inl tr))), (mc, .inl (cI, 4, .inl co)), (mb, .inl (cL, 4, .inr (.inl (vp_updL b1 i (tr i)))))] H := hP
                            have hD : va_D A [(o, .inr (7, [.int thr, .int (nI n), .ref ml, .ref mm, .ref mw, .ref mc, .int (nI k), .ref mg, .ref md, .int so, .int 1, .ref mb, .long be, .long (mw_sum co tr n), .ref mt, .long be, .ref mr, .int (nI rs), .ref mo, .int (nI rc), .ref mx, .ref mp, .ref nk, .ref na, .ref nv, .ref nf, .ref ns, .ref ne, .ref nw, .ref mf])), (ml, .inl (cI, 4, .inl lo)), (mm, .inl (cI, 4, .inl hi)), (mg, .inl (cI, 24, .inl wt)), (md, .inl (cI, 6, .inl bd)), (mt, .inl (cL, 4, .inr (.inl tr))), (mc, .inl (cI, 4, .inl co)), (mb, .inl (cL, 4, .inr (.inl (vp_updL b1 i (tr i)))))] := hD
                            refine lv_iinc (k := 1) (v := nI (i + 1)) (lv' := [(9, .int (nI (i + 1))), (0, .ref o)]) hx hb dd_Model_take_233 hl rfl (nI_1 _) (by decide) rfl (fun ls hl => ?_)
                            refine lv_goto (tgt := 210) hx hb dd_Model_take_236 (by decide) ?_
                            exact IH210 (i + 1) (vp_updL b1 i (tr i)) (by omega) (by omega) (ml_s hb1) ls H locs (lv_sub hl [1, 0] rfl) hP hD hS
                      exact J210 _ 0 bst (Nat.lt_succ_self _) (by omega) (ml_0) ls H locs (lv_sub hl [1, 0] rfl) hP hD hS
                  · skip
                    have h112 : ¬ (n ≤ j) := fun q9 => h112 ((nI_leI (a := n) (b := j) (by omega) (by omega)).mpr q9)
                    refine lv_iload hx hb dd_Model_take_115 (lv_at hl 3 rfl) ?_
                    refine lv_if_eq (tgt := 184) hx hb dd_Model_take_117 (by decide) (fun h117 => ?_) (fun h117 => ?_)
                    · skip
                      have hbn : (bs_f tr bst bb be (tk_b fo (mw_sum co tr n * bb) (bc * be)) (tk_e fo (mw_sum co tr n * bb) (bc * be)) n).1 = (bs_f tr bst bb be (tk_b fo (mw_sum co tr n * bb) (bc * be)) (tk_e fo (mw_sum co tr n * bb) (bc * be)) j).1 := by first | rw [bs_stay h117 n hj] | rw [show n = j by omega]
                      refine lv_iload hx hb dd_Model_take_184 (lv_at hl 2 rfl) ?_
                      refine lv_if_eq (tgt := 239) hx hb dd_Model_take_186 (by decide) (fun h186 => ?_) (fun h186 => ?_)
                      · skip
                        exact W.vret hx hb hr (fun t ht hW => ⟨⟨(fo, bst, bb, bc), rfl, by first | exact ((ci_t (tl_1 p1 h4)).trans (ci_n (fun q => q (hbn.trans h186)))).symm | (rw [hb1, show i = n by omega]; exact ((ci_t (tl_1 p1 h4)).trans (ci_t (fun q => h186 (hbn.symm.trans q)))).symm), by rw [ht]; exact hP, va_K.moved hW.alike hK, hD⟩, hS.F ht⟩) hS.2.2 dd_Model_take_239
                      · skip
                        refine lv_aload_n hx hb dd_Model_take_189 rfl (lv_at hl 0 rfl) ?_
                        refine lv_iconst (v := 1) hx hb dd_Model_take_190 (by decide) ?_
                        refine va_put (D := D) (ci := 7) (v := .int (1 : Int32)) (ty := .boolean) (C := RR_Model) (T := FF_Model) (N := 30) hx hb htb hi_Model tt_Model tt_Model_ok nn_Model hown hK hP hD hS 0 rfl rfl 10 (by decide) hf_107 (fun _ h9 => h9) rfl (by decide +kernel) (rfl) (rfl) (Nat.le_of_ble_eq_true rfl) dd_Model_take_191 (fun H locs hP hD hS => ?_)
                        have hP : va_P D kc_all [(o, .inr (7, [.int thr, .int (nI n), .ref ml, .ref mm, .ref mw, .ref mc, .int (nI k), .ref mg, .ref md, .int so, .int (1 : Int32), .ref mb, .long bb, .long bc, .ref mt, .long be, .ref mr, .int (nI rs), .ref mo, .int (nI rc), .ref mx, .ref mp, .ref nk, .ref na, .ref nv, .ref nf, .ref ns, .ref ne, .ref nw, .ref mf])), (ml, .inl (cI, 4, .inl lo)), (mm, .inl (cI, 4, .inl hi)), (mg, .inl (cI, 24, .inl wt)), (md, .inl (cI, 6, .inl bd)), (mt, .inl (cL, 4, .inr (.inl tr))), (mc, .inl (cI, 4, .inl co)), (mb, .inl (cL, 4, .inr (.inl bst)))] H := hP
                        have hD : va_D A [(o, .inr (7, [.int thr, .int (nI n), .ref ml, .ref mm, .ref mw, .ref mc, .int (nI k), .ref mg, .ref md, .int so, .int (1 : Int32), .ref mb, .long bb, .long bc, .ref mt, .long be, .ref mr, .int (nI rs), .ref mo, .int (nI rc), .ref mx, .ref mp, .ref nk, .ref na, .ref nv, .ref nf, .ref ns, .ref ne, .ref nw, .ref mf])), (ml, .inl (cI, 4, .inl lo)), (mm, .inl (cI, 4, .inl hi)), (mg, .inl (cI, 24, .inl wt)), (md, .inl (cI, 6, .inl bd)), (mt, .inl (cL, 4, .inr (.inl tr))), (mc, .inl (cI, 4, .inl co)), (mb, .inl (cL, 4, .inr (.inl bst)))] := hD
                        refine lv_aload_n hx hb dd_Model_take_194 rfl (lv_at hl 0 rfl) ?_
                        refine lv_lload_n hx hb dd_Model_take_195 rfl (lv_at hl 1 rfl) ?_
                        refine va_put (D := D) (ci := 7) (v := .long (mw_sum co tr n)) (ty := .long) (C := RR_Model) (T := FF_Model) (N := 30) hx hb htb hi_Model tt_Model tt_Model_ok nn_Model hown hK hP hD hS 0 rfl rfl 13 (by decide) hf_104 (fun _ h9 => h9) rfl (by decide +kernel) (rfl) (rfl) (Nat.le_of_ble_eq_true rfl) dd_Model_take_196 (fun H locs hP hD hS => ?_)
                        have hP : va_P D kc_all [(o, .inr (7, [.int thr, .int (nI n), .ref ml, .ref mm, .ref mw, .ref mc, .int (nI k), .ref mg, .ref md, .int so, .int (1 : Int32), .ref mb, .long bb, .long (mw_sum co tr n), .ref mt, .long be, .ref mr, .int (nI rs), .ref mo, .int (nI rc), .ref mx, .ref mp, .ref nk, .ref na, .ref nv, .ref nf, .ref ns, .ref ne, .ref nw, .ref mf])), (ml, .inl (cI, 4, .inl lo)), (mm, .inl (cI, 4, .inl hi)), (mg, .inl (cI, 24, .inl wt)), (md, .inl (cI, 6, .inl bd)), (mt, .inl (cL, 4, .inr (.inl tr))), (mc, .inl (cI, 4, .inl co)), (mb, .inl (cL, 4, .inr (.inl bst)))] H := hP
                        have hD : va_D A [(o, .inr (7, [.int thr, .int (nI n), .ref ml, .ref mm, .ref mw, .ref mc, .int (nI k), .ref mg, .ref md, .int so, .int (1 : Int32), .ref mb, .long bb, .long (mw_sum co tr n), .ref mt, .long be, .ref mr, .int (nI rs), .ref mo, .int (nI rc), .ref mx, .ref mp, .ref nk, .ref na, .ref nv, .ref nf, .ref ns, .ref ne, .ref nw, .ref mf])), (ml, .inl (cI, 4, .inl lo)), (mm, .inl (cI, 4, .inl hi)), (mg, .inl (cI, 24, .inl wt)), (md, .inl (cI, 6, .inl bd)), (mt, .inl (cL, 4, .inr (.inl tr))), (mc, .inl (cI, 4, .inl co)), (mb, .inl (cL, 4, .inr (.inl bst)))] := hD
                        refine lv_aload_n hx hb dd_Model_take_199 rfl (lv_at hl 0 rfl) ?_
                        refine lv_aload_n hx hb dd_Model_take_200 rfl (lv_at hl 0 rfl) ?_
                        refine va_get (D := D) (ci := 7) (v := .long be) (C := RR_Model) (T := FF_Model) (N := 30) hx hb htb hi_Model hown hK hP 0 rfl rfl 15 (by decide) hf_93 (fun _ h9 => h9) rfl dd_Model_take_201 ?_
                        refine va_put (D := D) (ci := 7) (v := .long be) (ty := .long) (C := RR_Model) (T := FF_Model) (N := 30) hx hb htb hi_Model tt_Model tt_Model_ok nn_Model hown hK hP hD hS 0 rfl rfl 12 (by decide) hf_101 (fun _ h9 => h9) rfl (by decide +kernel) (rfl) (rfl) (Nat.le_of_ble_eq_true rfl) dd_Model_take_204 (fun H locs hP hD hS => ?_)
                        have hP : va_P D kc_all [(o, .inr (7, [.int thr, .int (nI n), .ref ml, .ref mm, .ref mw, .ref mc, .int (nI k), .ref mg, .ref md, .int so, .int (1 : Int32), .ref mb, .long be, .long (mw_sum co tr n), .ref mt, .long be, .ref mr, .int (nI rs), .ref mo, .int (nI rc), .ref mx, .ref mp, .ref nk, .ref na, .ref nv, .ref nf, .ref ns, .ref ne, .ref nw, .ref mf])), (ml, .inl (cI, 4, .inl lo)), (mm, .inl (cI, 4, .inl hi)), (mg, .inl (cI, 24, .inl wt)), (md, .inl (cI, 6, .inl bd)), (mt, .inl (cL, 4, .inr (.inl tr))), (mc, .inl (cI, 4, .inl co)), (mb, .inl (cL, 4, .inr (.inl bst)))] H := hP
                        have hD : va_D A [(o, .inr (7, [.int thr, .int (nI n), .ref ml, .ref mm, .ref mw, .ref mc, .int (nI k), .ref mg, .ref md, .int so, .int (1 : Int32), .ref mb, .long be, .long (mw_sum co tr n), .ref mt, .long be, .ref mr, .int (nI rs), .ref mo, .int (nI rc), .ref mx, .ref mp, .ref nk, .ref na, .ref nv, .ref nf, .ref ns, .ref ne, .ref nw, .ref mf])), (ml, .inl (cI, 4, .inl lo)), (mm, .inl (cI, 4, .inl hi)), (mg, .inl (cI, 24, .inl wt)), (md, .inl (cI, 6, .inl bd)), (mt, .inl (cL, 4, .inr (.inl tr))), (mc, .inl (cI, 4, .inl co)), (mb, .inl (cL, 4, .inr (.inl bst)))] := hD
                        refine lv_iconst (v := 0) hx hb dd_Model_take_207 (by decide) ?_
                        refine lv_istore (lv' := [(9, .int (0 : Int32)), (0, .ref o), (1, .long (mw_sum co tr n)), (7, .int ((bs_f tr bst bb be (tk_b fo (mw_sum co tr n * bb) (bc * be)) (tk_e fo (mw_sum co tr n * bb) (bc * be)) j).1)), (8, .int ((bs_f tr bst bb be (tk_b fo (mw_sum co tr n * bb) (bc * be)) (tk_e fo (mw_sum co tr n * bb) (bc * be)) j).2))]) hx hb dd_Model_take_208 hl (by decide) rfl (fun ls hl => ?_)
                        have J210 : ∀ (N : Nat) (i : Nat) (b1 : Nat → Int64), (n - i) < N → ∀ (hi9 : i ≤ n) (hb1 : b1 = ml_f tr bst i), ∀ (ls : Array Slot) (H : Heap) (locs : List Loc), lv_has ls 14 [(0, .ref o), (9, .int (nI i))] → va_P D kc_all [(o, .inr (7, [.int thr, .int (nI n), .ref ml, .ref mm, .ref mw, .ref mc, .int (nI k), .ref mg, .ref md, .int so, .int 1, .ref mb, .long be, .long (mw_sum co tr n), .ref mt, .long be, .ref mr, .int (nI rs), .ref mo, .int (nI rc), .ref mx, .ref mp, .ref nk, .ref na, .ref nv, .ref nf, .ref ns, .ref ne, .ref nw, .ref mf])), (ml, .inl (cI, 4, .inl lo)), (mm, .inl (cI, 4, .inl hi)), (mg, .inl (cI, 24, .inl wt)), (md, .inl (cI, 6, .inl bd)), (mt, .inl (cL, 4, .inr (.inl tr))), (mc, .inl (cI, 4, .inl co)), (mb, .inl (cL, 4, .inr (.inl b1)))] H → va_D A [(o, .inr (7, [.int thr, .int (nI n), .ref ml, .ref mm, .ref mw, .ref mc, .int (nI k), .ref mg, .ref md, .int so, .int 1, .ref mb, .long be, .long (mw_sum co tr n), .ref mt, .long be, .ref mr, .int (nI rs), .ref mo, .int (nI rc), .ref mx, .ref mp, .ref nk, .ref na, .ref nv, .ref nf, .ref ns, .ref ne, .ref nw, .ref mf])), (ml, .inl (cI, 4, .inl lo)), (mm, .inl (cI, 4, .inl hi)), (mg, .inl (cI, 24, .inl wt)), (md, .inl (cI, 6, .inl bd)), (mt, .inl (cL, 4, .inr (.inl tr))), (mc, .inl (cI, 4, .inl co)), (mb, .inl (cL, 4, .inr (.inl b1)))] → va_S A s.heap H locs → W p l e (headSpec ww_Model_take ({ frames := 1, cells := 0, slots := 0, locals := 24 } : Room)).room s m ([.ref o]).toArray below meth c H locs 0 0 (MQ below (qq_Model_take D cI cZ cL cQ o ml mm mw mc mg md mb mt mr mo mx mp nk na nv nf ns ne nw mf thr n k so fo bb bc be rs rc lo hi wt bd tr co bst A) ([.ref o]).toArray s 0 0 A) (F0 m 210 ls []) := by
                          intro N
                          induction N with
                          | zero => intro i b1 hN9; exact absurd hN9 (Nat.not_lt_zero _)
                          | succ N IH210 =>
                            intro i b1 hN9 hi9 hb1 ls H locs hl hP hD hS
                            refine lv_iload hx hb dd_Model_take_210 (lv_at hl 1 rfl) ?_
                            refine lv_aload_n hx hb dd_Model_take_212 rfl (lv_at hl 0 rfl) ?_
                            refine va_get (D := D) (ci := 7) (v := .int (nI n)) (C := RR_Model) (T := FF_Model) (N := 30) hx hb htb hi_Model hown hK hP 0 rfl rfl 1 (by decide) hf_7 (fun _ h9 => h9) rfl dd_Model_take_213 ?_
                            refine lv_icmp_ge (tgt := 239) hx hb dd_Model_take_216 (by decide) (fun h216 => ?_) (fun h216 => ?_)
                            · skip
                              have h216 : n ≤ i := (nI_leI (a := n) (b := i) (by omega) (by omega)).mp h216
                              exact W.vret hx hb hr (fun t ht hW => ⟨⟨(1, b1, be, mw_sum co tr n), rfl, by first | exact ((ci_t (tl_1 p1 h4)).trans (ci_n (fun q => q (hbn.trans h186)))).symm | (rw [hb1, show i = n by omega]; exact ((ci_t (tl_1 p1 h4)).trans (ci_t (fun q => h186 (hbn.symm.trans q)))).symm), by rw [ht]; exact hP, va_K.moved hW.alike hK, hD⟩, hS.F ht⟩) hS.2.2 dd_Model_take_239
                            · skip
                              have h216 : ¬ (n ≤ i) := fun q9 => h216 ((nI_leI (a := n) (b := i) (by omega) (by omega)).mpr q9)
                              refine lv_aload_n hx hb dd_Model_take_219 rfl (lv_at hl 0 rfl) ?_
                              refine va_get (D := D) (ci := 7) (v := .ref mb) (C := RR_Model) (T := FF_Model) (N := 30) hx hb htb hi_Model hown hK hP 0 rfl rfl 11 (by decide) hf_33 (fun _ h9 => h9) rfl dd_Model_take_220 ?_
                              refine lv_iload hx hb dd_Model_take_223 (lv_at hl 1 rfl) ?_
                              refine lv_aload_n hx hb dd_Model_take_225 rfl (lv_at hl 0 rfl) ?_
                              refine va_get (D := D) (ci := 7) (v := .ref mt) (C := RR_Model) (T := FF_Model) (N := 30) hx hb htb hi_Model hown hK hP 0 rfl rfl 14 (by decide) hf_37 (fun _ h9 => h9) rfl dd_Model_take_226 ?_
                              refine lv_iload hx hb dd_Model_take_229 (lv_at hl 1 rfl) ?_
                              refine mm_lald hx hb hK hP 5 2 rfl rfl (i) (rfl) (by omega) (by first | decide | omega) dd_Model_take_231 ?_
                              refine mm_last hx hb hK hP hD hS 7 2 rfl rfl (i) (rfl) (by omega) (by first | decide | omega) dd_Model_take_232 (fun H locs hP hD hS => ?_)
                              have hP : va_P D kc_all [(o, .inr (7, [.int thr, .int (nI n), .ref ml, .ref mm, .ref mw, .ref mc, .int (nI k), .ref mg, .ref md, .int so, .int 1, .ref mb, .long be, .long (mw_sum co tr n), .ref mt, .long be, .ref mr, .int (nI rs), .ref mo, .int (nI rc), .ref mx, .ref mp, .ref nk, .ref na, .ref nv, .ref nf, .ref ns, .ref ne, .ref nw, .ref mf])), (ml, .inl (cI, 4, .inl lo)), (mm, .inl (cI, 4, .inl hi)), (mg, .inl (cI, 24, .inl wt)), (md, .inl (cI, 6, .inl bd)), (mt, .inl (cL, 4, .inr (.inl tr))), (mc, .inl (cI, 4, .inl co)), (mb, .inl (cL, 4, .inr (.inl (vp_updL b1 i (tr i)))))] H := hP
                              have hD : va_D A [(o, .inr (7, [.int thr, .int (nI n), .ref ml, .ref mm, .ref mw, .ref mc, .int (nI k), .ref mg, .ref md, .int so, .int 1, .ref mb, .long be, .long (mw_sum co tr n), .ref mt, .long be, .ref mr, .int (nI rs), .ref mo, .int (nI rc), .ref mx, .ref mp, .ref nk, .ref na, .ref nv, .ref nf, .ref ns, .ref ne, .ref nw, .ref mf])), (ml, .inl (cI, 4, .inl lo)), (mm, .inl (cI, 4, .inl hi)), (mg, .inl (cI, 24, .inl wt)), (md, .inl (cI, 6, .inl bd)), (mt, .inl (cL, 4, .inr (.inl tr))), (mc, .inl (cI, 4, .inl co)), (mb, .inl (cL, 4, .inr (.inl (vp_updL b1 i (tr i)))))] := hD
                              refine lv_iinc (k := 1) (v := nI (i + 1)) (lv' := [(9, .int (nI (i + 1))), (0, .ref o)]) hx hb dd_Model_take_233 hl rfl (nI_1 _) (by decide) rfl (fun ls hl => ?_)
                              refine lv_goto (tgt := 210) hx hb dd_Model_take_236 (by decide) ?_
                              exact IH210 (i + 1) (vp_updL b1 i (tr i)) (by omega) (by omega) (ml_s hb1) ls H locs (lv_sub hl [1, 0] rfl) hP hD hS
                        exact J210 _ 0 bst (Nat.lt_succ_self _) (by omega) (ml_0) ls H locs (lv_sub hl [1, 0] rfl) hP hD hS
                    · skip
                      refine lv_aload_n hx hb dd_Model_take_120 rfl (lv_at hl 0 rfl) ?_
                      refine va_get (D := D) (ci := 7) (v := .ref mt) (C := RR_Model) (T := FF_Model) (N := 30) hx hb htb hi_Model hown hK hP 0 rfl rfl 14 (by decide) hf_37 (fun _ h9 => h9) rfl dd_Model_take_121 ?_
                      refine lv_iload hx hb dd_Model_take_124 (lv_at hl 4 rfl) ?_
                      refine mm_lald hx hb hK hP 5 2 rfl rfl (j) (rfl) (by omega) (by first | decide | omega) dd_Model_take_126 ?_
                      refine lv_aload_n hx hb dd_Model_take_127 rfl (lv_at hl 0 rfl) ?_
                      refine va_get (D := D) (ci := 7) (v := .long bb) (C := RR_Model) (T := FF_Model) (N := 30) hx hb htb hi_Model hown hK hP 0 rfl rfl 12 (by decide) hf_101 (fun _ h9 => h9) rfl dd_Model_take_128 ?_
                      refine lv_lmul hx hb dd_Model_take_131 ?_
                      have J163 : ∀ (ls : Array Slot) (H : Heap) (locs : List Loc), lv_has ls 14 [(0, .ref o), (1, .long (mw_sum co tr n)), (7, .int (lt_f (tr j * bb) (bst j * be))), (9, .int (nI j)), (10, .long (tr j * bb)), (12, .long (bst j * be))] → va_P D kc_all [(o, .inr (7, [.int thr, .int (nI n), .ref ml, .ref mm, .ref mw, .ref mc, .int (nI k), .ref mg, .ref md, .int so, .int fo, .ref mb, .long bb, .long bc, .ref mt, .long be, .ref mr, .int (nI rs), .ref mo, .int (nI rc), .ref mx, .ref mp, .ref nk, .ref na, .ref nv, .ref nf, .ref ns, .ref ne, .ref nw, .ref mf])), (ml, .inl (cI, 4, .inl lo)), (mm, .inl (cI, 4, .inl hi)), (mg, .inl (cI, 24, .inl wt)), (md, .inl (cI, 6, .inl bd)), (mt, .inl (cL, 4, .inr (.inl tr))), (mc, .inl (cI, 4, .inl co)), (mb, .inl (cL, 4, .inr (.inl bst)))] H → va_D A [(o, .inr (7, [.int thr, .int (nI n), .ref ml, .ref mm, .ref mw, .ref mc, .int (nI k), .ref mg, .ref md, .int so, .int fo, .ref mb, .long bb, .long bc, .ref mt, .long be, .ref mr, .int (nI rs), .ref mo, .int (nI rc), .ref mx, .ref mp, .ref nk, .ref na, .ref nv, .ref nf, .ref ns, .ref ne, .ref nw, .ref mf])), (ml, .inl (cI, 4, .inl lo)), (mm, .inl (cI, 4, .inl hi)), (mg, .inl (cI, 24, .inl wt)), (md, .inl (cI, 6, .inl bd)), (mt, .inl (cL, 4, .inr (.inl tr))), (mc, .inl (cI, 4, .inl co)), (mb, .inl (cL, 4, .inr (.inl bst)))] → va_S A s.heap H locs → W p l e (headSpec ww_Model_take ({ frames := 1, cells := 0, slots := 0, locals := 24 } : Room)).room s m ([.ref o]).toArray below meth c H locs 0 0 (MQ below (qq_Model_take D cI cZ cL cQ o ml mm mw mc mg md mb mt mr mo mx mp nk na nv nf ns ne nw mf thr n k so fo bb bc be rs rc lo hi wt bd tr co bst A) ([.ref o]).toArray s 0 0 A) (F0 m 163 ls []) := by
                        intro   ls H locs hl hP hD hS
                        have J178 : ∀ (ls : Array Slot) (H : Heap) (locs : List Loc), lv_has ls 14 [(0, .ref o), (1, .long (mw_sum co tr n)), (7, .int (lt_f (tr j * bb) (bst j * be))), (8, .int (eq_f (tr j * bb) (bst j * be))), (9, .int (nI j))] → va_P D kc_all [(o, .inr (7, [.int thr, .int (nI n), .ref ml, .ref mm, .ref mw, .ref mc, .int (nI k), .ref mg, .ref md, .int so, .int fo, .ref mb, .long bb, .long bc, .ref mt, .long be, .ref mr, .int (nI rs), .ref mo, .int (nI rc), .ref mx, .ref mp, .ref nk, .ref na, .ref nv, .ref nf, .ref ns, .ref ne, .ref nw, .ref mf])), (ml, .inl (cI, 4, .inl lo)), (mm, .inl (cI, 4, .inl hi)), (mg, .inl (cI, 24, .inl wt)), (md, .inl (cI, 6, .inl bd)), (mt, .inl (cL, 4, .inr (.inl tr))), (mc, .inl (cI, 4, .inl co)), (mb, .inl (cL, 4, .inr (.inl bst)))] H → va_D A [(o, .inr (7, [.int thr, .int (nI n), .ref ml, .ref mm, .ref mw, .ref mc, .int (nI k), .ref mg, .ref md, .int so, .int fo, .ref mb, .long bb, .long bc, .ref mt, .long be, .ref mr, .int (nI rs), .ref mo, .int (nI rc), .ref mx, .ref mp, .ref nk, .ref na, .ref nv, .ref nf, .ref ns, .ref ne, .ref nw, .ref mf])), (ml, .inl (cI, 4, .inl lo)), (mm, .inl (cI, 4, .inl hi)), (mg, .inl (cI, 24, .inl wt)), (md, .inl (cI, 6, .inl bd)), (mt, .inl (cL, 4, .inr (.inl tr))), (mc, .inl (cI, 4, .inl co)), (mb, .inl (cL, 4, .inr (.inl bst)))] → va_S A s.heap H locs → W p l e (headSpec ww_Model_take ({ frames := 1, cells := 0, slots := 0, locals := 24 } : Room)).room s m ([.ref o]).toArray below meth c H locs 0 0 (MQ below (qq_Model_take D cI cZ cL cQ o ml mm mw mc mg md mb mt mr mo mx mp nk na nv nf ns ne nw mf thr n k so fo bb bc be rs rc lo hi wt bd tr co bst A) ([.ref o]).toArray s 0 0 A) (F0 m 178 ls []) := by
                          intro   ls H locs hl hP hD hS
                          refine lv_iinc (k := 4) (v := nI (j + 1)) (lv' := [(9, .int (nI (j + 1))), (0, .ref o), (1, .long (mw_sum co tr n)), (7, .int (lt_f (tr j * bb) (bst j * be))), (8, .int (eq_f (tr j * bb) (bst j * be)))]) hx hb dd_Model_take_178 hl rfl (nI_1 _) (by decide) rfl (fun ls hl => ?_)
                          refine lv_goto (tgt := 106) hx hb dd_Model_take_181 (by decide) ?_
                          rw [(bs_go h117).1, (bs_go h117).2] at hl
                          exact IH106 (j + 1) (by omega) (by omega) ls H locs (lv_sub hl [1, 2, 3, 4, 0] rfl) hP hD hS
                        refine lv_lload hx hb dd_Model_take_163 (lv_at hl 4 rfl) ?_
                        refine lv_lload hx hb dd_Model_take_165 (lv_at hl 5 rfl) ?_
                        refine W.lcmp hx hb dd_Model_take_167 ?_
                        refine lv_if_ne (tgt := 175) hx hb dd_Model_take_168 (by decide) (fun h168 => ?_) (fun h168 => ?_)
                        · skip
                          rw [lg_cmp_eq (tr j * bb) (bst j * be)] at h168
                          refine lv_iconst (v := 0) hx hb dd_Model_take_175 (by decide) ?_
                          refine mm_topi (y := eq_f (tr j * bb) (bst j * be)) (by first | exact (if_pos h168).symm | exact (if_neg h168).symm) ?_
                          refine lv_istore (lv' := [(8, .int (eq_f (tr j * bb) (bst j * be))), (0, .ref o), (1, .long (mw_sum co tr n)), (7, .int (lt_f (tr j * bb) (bst j * be))), (9, .int (nI j)), (10, .long (tr j * bb)), (12, .long (bst j * be))]) hx hb dd_Model_take_176 hl (by decide) rfl (fun ls hl => ?_)
                          exact J178   ls H locs (lv_sub hl [1, 2, 3, 0, 4] rfl) hP hD hS
                        · skip
                          rw [lg_cmp_eq (tr j * bb) (bst j * be)] at h168
                          refine lv_iconst (v := 1) hx hb dd_Model_take_171 (by decide) ?_
                          refine lv_goto (tgt := 176) hx hb dd_Model_take_172 (by decide) ?_
                          refine mm_topi (y := eq_f (tr j * bb) (bst j * be)) (by first | exact (if_pos h168).symm | exact (if_neg h168).symm) ?_
                          refine lv_istore (lv' := [(8, .int (eq_f (tr j * bb) (bst j * be))), (0, .ref o), (1, .long (mw_sum co tr n)), (7, .int (lt_f (tr j * bb) (bst j * be))), (9, .int (nI j)), (10, .long (tr j * bb)), (12, .long (bst j * be))]) hx hb dd_Model_take_176 hl (by decide) rfl (fun ls hl => ?_)
                          exact J178   ls H locs (lv_sub hl [1, 2, 3, 0, 4] rfl) hP hD hS
                      refine lv_lstore (lv' := [(10, .long ((tr j) * bb)), (0, .ref o), (1, .long (mw_sum co tr n)), (7, .int ((bs_f tr bst bb be (tk_b fo (mw_sum co tr n * bb) (bc * be)) (tk_e fo (mw_sum co tr n * bb) (bc * be)) j).1)), (8, .int ((bs_f tr bst bb be (tk_b fo (mw_sum co tr n * bb) (bc * be)) (tk_e fo (mw_sum co tr n * bb) (bc * be)) j).2)), (9, .int (nI j))]) hx hb dd_Model_take_132 hl (by decide) rfl (fun ls hl => ?_)
                      refine lv_aload_n hx hb dd_Model_take_134 rfl (lv_at hl 1 rfl) ?_
                      refine va_get (D := D) (ci := 7) (v := .ref mb) (C := RR_Model) (T := FF_Model) (N := 30) hx hb htb hi_Model hown hK hP 0 rfl rfl 11 (by decide) hf_33 (fun _ h9 => h9) rfl dd_Model_take_135 ?_
                      refine lv_iload hx hb dd_Model_take_138 (lv_at hl 5 rfl) ?_
                      refine mm_lald hx hb hK hP 7 2 rfl rfl (j) (rfl) (by omega) (by first | decide | omega) dd_Model_take_140 ?_
                      refine lv_aload_n hx hb dd_Model_take_141 rfl (lv_at hl 1 rfl) ?_
                      refine va_get (D := D) (ci := 7) (v := .long be) (C := RR_Model) (T := FF_Model) (N := 30) hx hb htb hi_Model hown hK hP 0 rfl rfl 15 (by decide) hf_93 (fun _ h9 => h9) rfl dd_Model_take_142 ?_
                      refine lv_lmul hx hb dd_Model_take_145 ?_
                      refine lv_lstore (lv' := [(12, .long ((bst j) * be)), (10, .long ((tr j) * bb)), (0, .ref o), (1, .long (mw_sum co tr n)), (7, .int ((bs_f tr bst bb be (tk_b fo (mw_sum co tr n * bb) (bc * be)) (tk_e fo (mw_sum co tr n * bb) (bc * be)) j).1)), (8, .int ((bs_f tr bst bb be (tk_b fo (mw_sum co tr n * bb) (bc * be)) (tk_e fo (mw_sum co tr n * bb) (bc * be)) j).2)), (9, .int (nI j))]) hx hb dd_Model_take_146 hl (by decide) rfl (fun ls hl => ?_)
                      refine lv_lload hx hb dd_Model_take_148 (lv_at hl 1 rfl) ?_
                      refine lv_lload hx hb dd_Model_take_150 (lv_at hl 0 rfl) ?_
                      refine W.lcmp hx hb dd_Model_take_152 ?_
                      refine lv_if_ge (tgt := 160) hx hb dd_Model_take_153 (by decide) (fun h153 => ?_) (fun h153 => ?_)
                      · skip
                        rw [lg_cmp_ge ((tr j) * bb) ((bst j) * be)] at h153
                        refine lv_iconst (v := 0) hx hb dd_Model_take_160 (by decide) ?_
                        refine mm_topi (y := lt_f (tr j * bb) (bst j * be)) (by first | exact (if_pos h153).symm | exact (if_neg h153).symm) ?_
                        refine lv_istore (lv' := [(7, .int (lt_f (tr j * bb) (bst j * be))), (12, .long ((bst j) * be)), (10, .long ((tr j) * bb)), (0, .ref o), (1, .long (mw_sum co tr n)), (8, .int ((bs_f tr bst bb be (tk_b fo (mw_sum co tr n * bb) (bc * be)) (tk_e fo (mw_sum co tr n * bb) (bc * be)) j).2)), (9, .int (nI j))]) hx hb dd_Model_take_161 hl (by decide) rfl (fun ls hl => ?_)
                        exact J163   ls H locs (lv_sub hl [3, 4, 0, 6, 2, 1] rfl) hP hD hS
                      · skip
                        rw [lg_cmp_ge ((tr j) * bb) ((bst j) * be)] at h153
                        refine lv_iconst (v := 1) hx hb dd_Model_take_156 (by decide) ?_
                        refine lv_goto (tgt := 161) hx hb dd_Model_take_157 (by decide) ?_
                        refine mm_topi (y := lt_f (tr j * bb) (bst j * be)) (by first | exact (if_pos h153).symm | exact (if_neg h153).symm) ?_
                        refine lv_istore (lv' := [(7, .int (lt_f (tr j * bb) (bst j * be))), (12, .long ((bst j) * be)), (10, .long ((tr j) * bb)), (0, .ref o), (1, .long (mw_sum co tr n)), (8, .int ((bs_f tr bst bb be (tk_b fo (mw_sum co tr n * bb) (bc * be)) (tk_e fo (mw_sum co tr n * bb) (bc * be)) j).2)), (9, .int (nI j))]) hx hb dd_Model_take_161 hl (by decide) rfl (fun ls hl => ?_)
                        exact J163   ls H locs (lv_sub hl [3, 4, 0, 6, 2, 1] rfl) hP hD hS
              exact J106 _ 0 (Nat.lt_succ_self _) (by omega) ls H locs (lv_sub hl [1, 2, 5, 6, 0] rfl) hP hD hS
            refine lv_aload_n hx hb dd_Model_take_82 rfl (lv_at hl 0 rfl) ?_
            refine va_get (D := D) (ci := 7) (v := .int fo) (C := RR_Model) (T := FF_Model) (N := 30) hx hb htb hi_Model hown hK hP 0 rfl rfl 10 (by decide) hf_107 (fun _ h9 => h9) rfl dd_Model_take_83 ?_
            refine lv_if_eq (tgt := 100) hx hb dd_Model_take_86 (by decide) (fun h86 => ?_) (fun h86 => ?_)
            · skip
              refine lv_iconst (v := 0) hx hb dd_Model_take_100 (by decide) ?_
              refine mm_topi (y := tk_e fo (mw_sum co tr n * bb) (bc * be)) (by first | exact tk_e1 h86 | exact tk_e2 h93 | exact tk_e3 h86 h93) ?_
              refine lv_istore (lv' := [(8, .int (tk_e fo (mw_sum co tr n * bb) (bc * be))), (0, .ref o), (1, .long (mw_sum co tr n)), (3, .long (mw_sum co tr n * bb)), (5, .long (bc * be)), (7, .int (tk_b fo (mw_sum co tr n * bb) (bc * be)))]) hx hb dd_Model_take_101 hl (by decide) rfl (fun ls hl => ?_)
              exact J103   ls H locs (lv_sub hl [1, 2, 3, 4, 5, 0] rfl) hP hD hS
            · skip
              refine lv_lload_n hx hb dd_Model_take_89 rfl (lv_at hl 2 rfl) ?_
              refine lv_lload hx hb dd_Model_take_90 (lv_at hl 3 rfl) ?_
              refine W.lcmp hx hb dd_Model_take_92 ?_
              refine lv_if_ne (tgt := 100) hx hb dd_Model_take_93 (by decide) (fun h93 => ?_) (fun h93 => ?_)
              · skip
                rw [lg_cmp_eq (mw_sum co tr n * bb) (bc * be)] at h93
                refine lv_iconst (v := 0) hx hb dd_Model_take_100 (by decide) ?_
                refine mm_topi (y := tk_e fo (mw_sum co tr n * bb) (bc * be)) (by first | exact tk_e1 h86 | exact tk_e2 h93 | exact tk_e3 h86 h93) ?_
                refine lv_istore (lv' := [(8, .int (tk_e fo (mw_sum co tr n * bb) (bc * be))), (0, .ref o), (1, .long (mw_sum co tr n)), (3, .long (mw_sum co tr n * bb)), (5, .long (bc * be)), (7, .int (tk_b fo (mw_sum co tr n * bb) (bc * be)))]) hx hb dd_Model_take_101 hl (by decide) rfl (fun ls hl => ?_)
                exact J103   ls H locs (lv_sub hl [1, 2, 3, 4, 5, 0] rfl) hP hD hS
              · skip
                rw [lg_cmp_eq (mw_sum co tr n * bb) (bc * be)] at h93
                refine lv_iconst (v := 1) hx hb dd_Model_take_96 (by decide) ?_
                refine lv_goto (tgt := 101) hx hb dd_Model_take_97 (by decide) ?_
                refine mm_topi (y := tk_e fo (mw_sum co tr n * bb) (bc * be)) (by first | exact tk_e1 h86 | exact tk_e2 h93 | exact tk_e3 h86 h93) ?_
                refine lv_istore (lv' := [(8, .int (tk_e fo (mw_sum co tr n * bb) (bc * be))), (0, .ref o), (1, .long (mw_sum co tr n)), (3, .long (mw_sum co tr n * bb)), (5, .long (bc * be)), (7, .int (tk_b fo (mw_sum co tr n * bb) (bc * be)))]) hx hb dd_Model_take_101 hl (by decide) rfl (fun ls hl => ?_)
                exact J103   ls H locs (lv_sub hl [1, 2, 3, 4, 5, 0] rfl) hP hD hS
          refine lv_lstore_n (lv' := [(3, .long ((mw_sum co tr n) * bb)), (0, .ref o), (1, .long (mw_sum co tr n))]) hx hb dd_Model_take_49 rfl hl (by decide) rfl (fun ls hl => ?_)
          refine lv_aload_n hx hb dd_Model_take_50 rfl (lv_at hl 1 rfl) ?_
          refine va_get (D := D) (ci := 7) (v := .long bc) (C := RR_Model) (T := FF_Model) (N := 30) hx hb htb hi_Model hown hK hP 0 rfl rfl 13 (by decide) hf_104 (fun _ h9 => h9) rfl dd_Model_take_51 ?_
          refine lv_aload_n hx hb dd_Model_take_54 rfl (lv_at hl 1 rfl) ?_
          refine va_get (D := D) (ci := 7) (v := .long be) (C := RR_Model) (T := FF_Model) (N := 30) hx hb htb hi_Model hown hK hP 0 rfl rfl 15 (by decide) hf_93 (fun _ h9 => h9) rfl dd_Model_take_55 ?_
          refine lv_lmul hx hb dd_Model_take_58 ?_
          refine lv_lstore (lv' := [(5, .long (bc * be)), (3, .long ((mw_sum co tr n) * bb)), (0, .ref o), (1, .long (mw_sum co tr n))]) hx hb dd_Model_take_59 hl (by decide) rfl (fun ls hl => ?_)
          refine lv_aload_n hx hb dd_Model_take_61 rfl (lv_at hl 2 rfl) ?_
          refine va_get (D := D) (ci := 7) (v := .int fo) (C := RR_Model) (T := FF_Model) (N := 30) hx hb htb hi_Model hown hK hP 0 rfl rfl 10 (by decide) hf_107 (fun _ h9 => h9) rfl dd_Model_take_62 ?_
          refine lv_if_eq (tgt := 75) hx hb dd_Model_take_65 (by decide) (fun h65 => ?_) (fun h65 => ?_)
          · skip
            refine lv_iconst (v := 1) hx hb dd_Model_take_75 (by decide) ?_
            refine lv_goto (tgt := 80) hx hb dd_Model_take_76 (by decide) ?_
            refine mm_topi (y := tk_b fo (mw_sum co tr n * bb) (bc * be)) (by first | exact tk_b1 h65 | exact tk_b2 h72 | exact tk_b3 h65 h72) ?_
            refine lv_istore (lv' := [(7, .int (tk_b fo (mw_sum co tr n * bb) (bc * be))), (5, .long (bc * be)), (3, .long ((mw_sum co tr n) * bb)), (0, .ref o), (1, .long (mw_sum co tr n))]) hx hb dd_Model_take_80 hl (by decide) rfl (fun ls hl => ?_)
            exact J82   ls H locs (lv_sub hl [3, 4, 2, 1, 0] rfl) hP hD hS
          · skip
            refine lv_lload_n hx hb dd_Model_take_68 rfl (lv_at hl 1 rfl) ?_
            refine lv_lload hx hb dd_Model_take_69 (lv_at hl 0 rfl) ?_
            refine W.lcmp hx hb dd_Model_take_71 ?_
            refine lv_if_ge (tgt := 79) hx hb dd_Model_take_72 (by decide) (fun h72 => ?_) (fun h72 => ?_)
            · skip
              rw [lg_cmp_ge ((mw_sum co tr n) * bb) (bc * be)] at h72
              refine lv_iconst (v := 0) hx hb dd_Model_take_79 (by decide) ?_
              refine mm_topi (y := tk_b fo (mw_sum co tr n * bb) (bc * be)) (by first | exact tk_b1 h65 | exact tk_b2 h72 | exact tk_b3 h65 h72) ?_
              refine lv_istore (lv' := [(7, .int (tk_b fo (mw_sum co tr n * bb) (bc * be))), (5, .long (bc * be)), (3, .long ((mw_sum co tr n) * bb)), (0, .ref o), (1, .long (mw_sum co tr n))]) hx hb dd_Model_take_80 hl (by decide) rfl (fun ls hl => ?_)
              exact J82   ls H locs (lv_sub hl [3, 4, 2, 1, 0] rfl) hP hD hS
            · skip
              rw [lg_cmp_ge ((mw_sum co tr n) * bb) (bc * be)] at h72
              refine lv_iconst (v := 1) hx hb dd_Model_take_75 (by decide) ?_
              refine lv_goto (tgt := 80) hx hb dd_Model_take_76 (by decide) ?_
              refine mm_topi (y := tk_b fo (mw_sum co tr n * bb) (bc * be)) (by first | exact tk_b1 h65 | exact tk_b2 h72 | exact tk_b3 h65 h72) ?_
              refine lv_istore (lv' := [(7, .int (tk_b fo (mw_sum co tr n * bb) (bc * be))), (5, .long (bc * be)), (3, .long ((mw_sum co tr n) * bb)), (0, .ref o), (1, .long (mw_sum co tr n))]) hx hb dd_Model_take_80 hl (by decide) rfl (fun ls hl => ?_)
              exact J82   ls H locs (lv_sub hl [3, 4, 2, 1, 0] rfl) hP hD hS
        · skip
          have h17 : ¬ (n ≤ q0) := fun q9 => h17 ((nI_leI (a := n) (b := q0) (by omega) (by omega)).mpr q9)
          refine lv_lload_n hx hb dd_Model_take_20 rfl (lv_at hl 1 rfl) ?_
          refine lv_aload_n hx hb dd_Model_take_21 rfl (lv_at hl 0 rfl) ?_
          refine va_get (D := D) (ci := 7) (v := .ref mc) (C := RR_Model) (T := FF_Model) (N := 30) hx hb htb hi_Model hown hK hP 0 rfl rfl 5 (by decide) hf_24 (fun _ h9 => h9) rfl dd_Model_take_22 ?_
          refine lv_iload_n hx hb dd_Model_take_25 rfl (lv_at hl 2 rfl) ?_
          refine mm_iald hx hb hK hP 6 0 rfl rfl (q0) (rfl) (by omega) (by first | decide | omega) dd_Model_take_26 ?_
          refine lv_i2l (v := (co q0).toInt64) hx hb dd_Model_take_27 rfl ?_
          refine lv_aload_n hx hb dd_Model_take_28 rfl (lv_at hl 0 rfl) ?_
          refine va_get (D := D) (ci := 7) (v := .ref mt) (C := RR_Model) (T := FF_Model) (N := 30) hx hb htb hi_Model hown hK hP 0 rfl rfl 14 (by decide) hf_37 (fun _ h9 => h9) rfl dd_Model_take_29 ?_
          refine lv_iload_n hx hb dd_Model_take_32 rfl (lv_at hl 2 rfl) ?_
          refine mm_lald hx hb hK hP 5 2 rfl rfl (q0) (rfl) (by omega) (by first | decide | omega) dd_Model_take_33 ?_
          refine lv_lmul hx hb dd_Model_take_34 ?_
          refine lv_ladd hx hb dd_Model_take_35 ?_
          refine lv_lstore_n (lv' := [(1, .long ((mw_sum co tr q0) + (((co q0).toInt64) * (tr q0)))), (0, .ref o), (3, .int (nI q0))]) hx hb dd_Model_take_36 rfl hl (by decide) rfl (fun ls hl => ?_)
          refine lv_iinc (k := 2) (v := nI (q0 + 1)) (lv' := [(3, .int (nI (q0 + 1))), (1, .long ((mw_sum co tr q0) + (((co q0).toInt64) * (tr q0)))), (0, .ref o)]) hx hb dd_Model_take_37 hl rfl (nI_1 _) (by decide) rfl (fun ls hl => ?_)
          refine lv_goto (tgt := 12) hx hb dd_Model_take_40 (by decide) ?_
          exact IH12 (q0 + 1) (by omega) (by omega) ls H locs (lv_sub hl [2, 1, 0] rfl) hP hD hS
    exact J12 _ 0 (Nat.lt_succ_self _) (by omega) ls H locs (lv_sub hl [2, 1, 0] rfl) hP hD hS
  · skip
    exact W.vret hx hb hr (fun t ht hW => ⟨⟨(fo, bst, bb, bc), rfl, (ci_n (tl_0 p1 h4)).symm, by rw [ht]; exact hP, va_K.moved hW.alike hK, hD⟩, hS.F ht⟩) hS.2.2 dd_Model_take_7
abbrev qq_Model_isEnd (D : va_G) (cI cZ cL cQ : ClassId) (o : Nat) (ml : Nat) (mm : Nat) (mw : Nat) (mc : Nat) (mg : Nat) (md : Nat) (mb : Nat) (mt : Nat) (mr : Nat) (mo : Nat) (mx : Nat) (mp : Nat) (nk : Nat) (na : Nat) (nv : Nat) (nf : Nat) (ns : Nat) (ne : Nat) (nw : Nat) (mf : Nat) (thr : Int32) (n : Nat) (k : Nat) (so : Int32) (fo : Int32) (bb : Int64) (bc : Int64) (be : Int64) (rs : Nat) (rc : Nat) (nd : Nat) (wq : Nat) (pp : Int64) (qp : Int64) (co : Nat → Int32) (wt : Nat → Int32) (bd : Nat → Int32) (en : Nat → Int64) (wa : Nat → Int32) (A : Nat → Prop) : Array Value → State → Outcome → State → Prop := va_Qi (fun (r : Int32) (u : Unit) => tl_ok (mi_ok en co wt bd wa nd wq n k pp qp) r) (fun (u : Unit) t => mm_B D kc_all [(cI, .int), (cZ, .boolean), (cL, .long), (cQ, .array .int)] A [(o, .inr (7, [.int thr, .int (nI n), .ref ml, .ref mm, .ref mw, .ref mc, .int (nI k), .ref mg, .ref md, .int so, .int fo, .ref mb, .long bb, .long bc, .ref mt, .long be, .ref mr, .int (nI rs), .ref mo, .int (nI rc), .ref mx, .ref mp, .ref nk, .ref na, .ref nv, .ref nf, .ref ns, .ref ne, .ref nw, .ref mf])), (mc, .inl (cI, 4, .inl co)), (mg, .inl (cI, 24, .inl wt)), (md, .inl (cI, 6, .inl bd)), (ne, .inl (cL, 280, .inr (.inl en))), (nw, .inl (cI, 900, .inl wa))] t) A
set_option maxHeartbeats 4000000 in
set_option maxRecDepth 100000 in
theorem cc_Model_isEnd (l : Launch) (D : va_G) (cI cZ cL cQ : ClassId) (sz : Nat) (o : Nat) (ml : Nat) (mm : Nat) (mw : Nat) (mc : Nat) (mg : Nat) (md : Nat) (mb : Nat) (mt : Nat) (mr : Nat) (mo : Nat) (mx : Nat) (mp : Nat) (nk : Nat) (na : Nat) (nv : Nat) (nf : Nat) (ns : Nat) (ne : Nat) (nw : Nat) (mf : Nat) (thr : Int32) (n : Nat) (k : Nat) (so : Int32) (fo : Int32) (bb : Int64) (bc : Int64) (be : Int64) (rs : Nat) (rc : Nat) (nd : Nat) (wq : Nat) (pp : Int64) (qp : Int64) (co : Nat → Int32) (wt : Nat → Int32) (bd : Nat → Int32) (en : Nat → Int64) (wa : Nat → Int32) (hn : n ≤ 4) (hk : k ≤ 6) (hnd : nd < 40) (hwq : wq + 9 ≤ 900) : Met l yy_Model_isEnd ww_Model_isEnd ({ frames := 0, cells := 0, slots := 0, locals := 0 } : Room) (mm_Pc D kc_all [(cI, .int), (cZ, .boolean), (cL, .long), (cQ, .array .int)] sz [(o, .inr (7, [.int thr, .int (nI n), .ref ml, .ref mm, .ref mw, .ref mc, .int (nI k), .ref mg, .ref md, .int so, .int fo, .ref mb, .long bb, .long bc, .ref mt, .long be, .ref mr, .int (nI rs), .ref mo, .int (nI rc), .ref mx, .ref mp, .ref nk, .ref na, .ref nv, .ref nf, .ref ns, .ref ne, .ref nw, .ref mf])), (mc, .inl (cI, 4, .inl co)), (mg, .inl (cI, 24, .inl wt)), (md, .inl (cI, 6, .inl bd)), (ne, .inl (cL, 280, .inr (.inl en))), (nw, .inl (cI, 900, .inl wa))] [.ref o, .int (nI nd), .int (nI wq), .long pp, .long qp]) (qq_Model_isEnd D cI cZ cL cQ o ml mm mw mc mg md mb mt mr mo mx mp nk na nv nf ns ne nw mf thr n k so fo bb bc be rs rc nd wq pp qp co wt bd en wa (va_A [(o, .inr (7, [.int thr, .int (nI n), .ref ml, .ref mm, .ref mw, .ref mc, .int (nI k), .ref mg, .ref md, .int so, .int fo, .ref mb, .long bb, .long bc, .ref mt, .long be, .ref mr, .int (nI rs), .ref mo, .int (nI rc), .ref mx, .ref mp, .ref nk, .ref na, .ref nv, .ref nf, .ref ns, .ref ne, .ref nw, .ref mf])), (mc, .inl (cI, 4, .inl co)), (mg, .inl (cI, 24, .inl wt)), (md, .inl (cI, 6, .inl bd)), (ne, .inl (cL, 280, .inr (.inl en))), (nw, .inl (cI, 900, .inl wa))] sz)) 0 0 (va_A [(o, .inr (7, [.int thr, .int (nI n), .ref ml, .ref mm, .ref mw, .ref mc, .int (nI k), .ref mg, .ref md, .int so, .int fo, .ref mb, .long bb, .long bc, .ref mt, .long be, .ref mr, .int (nI rs), .ref mo, .int (nI rc), .ref mx, .ref mp, .ref nk, .ref na, .ref nv, .ref nf, .ref ns, .ref ne, .ref nw, .ref mf])), (mc, .inl (cI, 4, .inl co)), (mg, .inl (cI, 24, .inl wt)), (md, .inl (cI, 6, .inl bd)), (ne, .inl (cL, 280, .inr (.inl en))), (nw, .inl (cI, 900, .inl wa))] sz) := by
  refine Met.ofW (cc := bb_Model_isEnd) (maxL := 15) (ret := (some .boolean)) (by decide) rfl ?_
  intro p e s m args below meth c s₁ B hml hv
  obtain ⟨rfl, hsz, hP, hK, hD0⟩ := hv
  have hx := B.exec
  have hb := B.bytes
  have hr := B.returns
  have hts := atoms_spec (ws := ww_Model_isEnd) B.pre
  have hown : s.vm.findClass RR_Model = some m.cls := findClass_of_methodNamed B.named
  have hlocks := B.notSynchronized
  subst hsz
  have hD := hD0.self (sz := s.heap.size)
  generalize hAe : va_A [(o, .inr (7, [.int thr, .int (nI n), .ref ml, .ref mm, .ref mw, .ref mc, .int (nI k), .ref mg, .ref md, .int so, .int fo, .ref mb, .long bb, .long bc, .ref mt, .long be, .ref mr, .int (nI rs), .ref mo, .int (nI rc), .ref mx, .ref mp, .ref nk, .ref na, .ref nv, .ref nf, .ref ns, .ref ne, .ref nw, .ref mf])), (mc, .inl (cI, 4, .inl co)), (mg, .inl (cI, 24, .inl wt)), (md, .inl (cI, 6, .inl bd)), (ne, .inl (cL, 280, .inr (.inl en))), (nw, .inl (cI, 900, .inl wa))] s.heap.size = A at hD ⊢
  have hA : ∀ q : Nat, s.heap.size ≤ q → A q := fun q h => by rw [← hAe]; exact Or.inr h
  have hS : va_S A s.heap s.heap [] := va_S.rf
  have hP : va_P D kc_all [(o, .inr (7, [.int thr, .int (nI n), .ref ml, .ref mm, .ref mw, .ref mc, .int (nI k), .ref mg, .ref md, .int so, .int fo, .ref mb, .long bb, .long bc, .ref mt, .long be, .ref mr, .int (nI rs), .ref mo, .int (nI rc), .ref mx, .ref mp, .ref nk, .ref na, .ref nv, .ref nf, .ref ns, .ref ne, .ref nw, .ref mf])), (mc, .inl (cI, 4, .inl co)), (mg, .inl (cI, 24, .inl wt)), (md, .inl (cI, 6, .inl bd)), (ne, .inl (cL, 280, .inr (.inl en))), (nw, .inl (cI, 900, .inl wa))] s.heap := hP
  have hl := lv_entry ([.ref o, .int (nI nd), .int (nI wq), .long pp, .long qp]) (n := 15) (Nat.le_of_ble_eq_true rfl)
  rw [lg_entry_eq]
  generalize (lg_sl ([.ref o, .int (nI nd), .int (nI wq), .long pp, .long qp]) ++ List.replicate (15 - (lg_sl ([.ref o, .int (nI nd), .int (nI wq), .long pp, .long qp])).length) Slot.unset).toArray = ls at hl ⊢
  have hl : lv_has ls 15 [(0, .ref o), (1, .int (nI nd)), (2, .int (nI wq)), (3, .long pp), (5, .long qp)] := hl
  have htb : ∀ w ∈ tb_all, w.before ([.ref o, .int (nI nd), .int (nI wq), .long pp, .long qp]).toArray s = true := fun w h => hts w (List.mem_cons_of_mem _ h)
  have hf_7 := htb _ fl_Model_7
  have hf_24 := htb _ fl_Model_24
  have hf_27 := htb _ fl_Model_27
  have hf_30 := htb _ fl_Model_30
  have hf_67 := htb _ fl_Model_67
  have hf_70 := htb _ fl_Model_70
  have hf_83 := htb _ fl_Model_83
  refine lv_aload_n hx hb dd_Model_isEnd_0 rfl (lv_at hl 0 rfl) ?_
  refine va_get (D := D) (ci := 7) (v := .ref ne) (C := RR_Model) (T := FF_Model) (N := 30) hx hb htb hi_Model hown hK hP 0 rfl rfl 27 (by decide) hf_67 (fun _ h9 => h9) rfl dd_Model_isEnd_1 ?_
  refine lv_bipush (v := 7) hx hb dd_Model_isEnd_4 (by decide) ?_
  refine lv_iload_n hx hb dd_Model_isEnd_6 rfl (lv_at hl 1 rfl) ?_
  refine lv_imul hx hb dd_Model_isEnd_7 ?_
  refine mm_topi (y := nI (7 * nd)) (pk_mul 7 nd) ?_
  refine mm_lald hx hb hK hP 4 2 rfl rfl (7 * nd) (rfl) (by omega) (by first | decide | omega) dd_Model_isEnd_8 ?_
  refine lv_lstore (lv' := [(7, .long (en (7 * nd))), (0, .ref o), (1, .int (nI nd)), (2, .int (nI wq)), (3, .long pp), (5, .long qp)]) hx hb dd_Model_isEnd_9 hl (by decide) rfl (fun ls hl => ?_)
  refine lv_lconst (v := 0) hx hb dd_Model_isEnd_11 (by decide) ?_
  refine lv_lstore (lv' := [(9, .long (0 : Int64)), (7, .long (en (7 * nd))), (0, .ref o), (1, .int (nI nd)), (2, .int (nI wq)), (3, .long pp), (5, .long qp)]) hx hb dd_Model_isEnd_12 hl (by decide) rfl (fun ls hl => ?_)
  refine lv_iconst (v := 0) hx hb dd_Model_isEnd_14 (by decide) ?_
  refine lv_istore (lv' := [(11, .int (0 : Int32)), (9, .long (0 : Int64)), (7, .long (en (7 * nd))), (0, .ref o), (1, .int (nI nd)), (2, .int (nI wq)), (3, .long pp), (5, .long qp)]) hx hb dd_Model_isEnd_15 hl (by decide) rfl (fun ls hl => ?_)
  have J17 : ∀ (N : Nat) (i : Nat), (k - i) < N → ∀ (hi : i ≤ k), ∀ (ls : Array Slot) (H : Heap) (locs : List Loc), lv_has ls 15 [(0, .ref o), (1, .int (nI nd)), (2, .int (nI wq)), (3, .long pp), (5, .long qp), (7, .long (en (7 * nd))), (9, .long (me_b en bd nd i)), (11, .int (nI i))] → va_P D kc_all [(o, .inr (7, [.int thr, .int (nI n), .ref ml, .ref mm, .ref mw, .ref mc, .int (nI k), .ref mg, .ref md, .int so, .int fo, .ref mb, .long bb, .long bc, .ref mt, .long be, .ref mr, .int (nI rs), .ref mo, .int (nI rc), .ref mx, .ref mp, .ref nk, .ref na, .ref nv, .ref nf, .ref ns, .ref ne, .ref nw, .ref mf])), (mc, .inl (cI, 4, .inl co)), (mg, .inl (cI, 24, .inl wt)), (md, .inl (cI, 6, .inl bd)), (ne, .inl (cL, 280, .inr (.inl en))), (nw, .inl (cI, 900, .inl wa))] H → va_D A [(o, .inr (7, [.int thr, .int (nI n), .ref ml, .ref mm, .ref mw, .ref mc, .int (nI k), .ref mg, .ref md, .int so, .int fo, .ref mb, .long bb, .long bc, .ref mt, .long be, .ref mr, .int (nI rs), .ref mo, .int (nI rc), .ref mx, .ref mp, .ref nk, .ref na, .ref nv, .ref nf, .ref ns, .ref ne, .ref nw, .ref mf])), (mc, .inl (cI, 4, .inl co)), (mg, .inl (cI, 24, .inl wt)), (md, .inl (cI, 6, .inl bd)), (ne, .inl (cL, 280, .inr (.inl en))), (nw, .inl (cI, 900, .inl wa))] → va_S A s.heap H locs → W p l e (headSpec ww_Model_isEnd ({ frames := 0, cells := 0, slots := 0, locals := 0 } : Room)).room s m ([.ref o, .int (nI nd), .int (nI wq), .long pp, .long qp]).toArray below meth c H locs 0 0 (MQ below (qq_Model_isEnd D cI cZ cL cQ o ml mm mw mc mg md mb mt mr mo mx mp nk na nv nf ns ne nw mf thr n k so fo bb bc be rs rc nd wq pp qp co wt bd en wa A) ([.ref o, .int (nI nd), .int (nI wq), .long pp, .long qp]).toArray s 0 0 A) (F0 m 17 ls []) := by
    intro N
    induction N with
    | zero => intro i hN9; exact absurd hN9 (Nat.not_lt_zero _)
    | succ N IH17 =>
      intro i hN9 hi ls H locs hl hP hD hS
      refine lv_iload hx hb dd_Model_isEnd_17 (lv_at hl 7 rfl) ?_
      refine lv_aload_n hx hb dd_Model_isEnd_19 rfl (lv_at hl 0 rfl) ?_
      refine va_get (D := D) (ci := 7) (v := .int (nI k)) (C := RR_Model) (T := FF_Model) (N := 30) hx hb htb hi_Model hown hK hP 0 rfl rfl 6 (by decide) hf_83 (fun _ h9 => h9) rfl dd_Model_isEnd_20 ?_
      refine lv_icmp_ge (tgt := 60) hx hb dd_Model_isEnd_23 (by decide) (fun h23 => ?_) (fun h23 => ?_)
      · skip
        have h23 : k ≤ i := (nI_leI (a := k) (b := i) (by omega) (by omega)).mp h23
        refine lv_iconst (v := 0) hx hb dd_Model_isEnd_60 (by decide) ?_
        refine lv_istore (lv' := [(11, .int (0 : Int32)), (0, .ref o), (1, .int (nI nd)), (2, .int (nI wq)), (3, .long pp), (5, .long qp), (7, .long (en (7 * nd))), (9, .long (me_b en bd nd i))]) hx hb dd_Model_isEnd_61 hl (by decide) rfl (fun ls hl => ?_)
        have J63 : ∀ (N : Nat) (j : Nat), (n - j) < N → ∀ (hj : j ≤ n), ∀ (ls : Array Slot) (H : Heap) (locs : List Loc), lv_has ls 15 [(0, .ref o), (1, .int (nI nd)), (2, .int (nI wq)), (3, .long pp), (5, .long qp), (7, .long (en (7 * nd))), (9, .long (me_s en co wt bd wa nd wq k j)), (11, .int (nI j))] → va_P D kc_all [(o, .inr (7, [.int thr, .int (nI n), .ref ml, .ref mm, .ref mw, .ref mc, .int (nI k), .ref mg, .ref md, .int so, .int fo, .ref mb, .long bb, .long bc, .ref mt, .long be, .ref mr, .int (nI rs), .ref mo, .int (nI rc), .ref mx, .ref mp, .ref nk, .ref na, .ref nv, .ref nf, .ref ns, .ref ne, .ref nw, .ref mf])), (mc, .inl (cI, 4, .inl co)), (mg, .inl (cI, 24, .inl wt)), (md, .inl (cI, 6, .inl bd)), (ne, .inl (cL, 280, .inr (.inl en))), (nw, .inl (cI, 900, .inl wa))] H → va_D A [(o, .inr (7, [.int thr, .int (nI n), .ref ml, .ref mm, .ref mw, .ref mc, .int (nI k), .ref mg, .ref md, .int so, .int fo, .ref mb, .long bb, .long bc, .ref mt, .long be, .ref mr, .int (nI rs), .ref mo, .int (nI rc), .ref mx, .ref mp, .ref nk, .ref na, .ref nv, .ref nf, .ref ns, .ref ne, .ref nw, .ref mf])), (mc, .inl (cI, 4, .inl co)), (mg, .inl (cI, 24, .inl wt)), (md, .inl (cI, 6, .inl bd)), (ne, .inl (cL, 280, .inr (.inl en))), (nw, .inl (cI, 900, .inl wa))] → va_S A s.heap H locs → W p l e (headSpec ww_Model_isEnd ({ frames := 0, cells := 0, slots := 0, locals := 0 } : Room)).room s m ([.ref o, .int (nI nd), .int (nI wq), .long pp, .long qp]).toArray below meth c H locs 0 0 (MQ below (qq_Model_isEnd D cI cZ cL cQ o ml mm mw mc mg md mb mt mr mo mx mp nk na nv nf ns ne nw mf thr n k so fo bb bc be rs rc nd wq pp qp co wt bd en wa A) ([.ref o, .int (nI nd), .int (nI wq), .long pp, .long qp]).toArray s 0 0 A) (F0 m 63 ls []) := by
          intro N
          induction N with
          | zero => intro j hN9; exact absurd hN9 (Nat.not_lt_zero _)
          | succ N IH63 =>
            intro j hN9 hj ls H locs hl hP hD hS
            refine lv_iload hx hb dd_Model_isEnd_63 (lv_at hl 7 rfl) ?_
            refine lv_aload_n hx hb dd_Model_isEnd_65 rfl (lv_at hl 0 rfl) ?_
            refine va_get (D := D) (ci := 7) (v := .int (nI n)) (C := RR_Model) (T := FF_Model) (N := 30) hx hb htb hi_Model hown hK hP 0 rfl rfl 1 (by decide) hf_7 (fun _ h9 => h9) rfl dd_Model_isEnd_66 ?_
            refine lv_icmp_ge (tgt := 175) hx hb dd_Model_isEnd_69 (by decide) (fun h69 => ?_) (fun h69 => ?_)
            · skip
              have h69 : n ≤ j := (nI_leI (a := n) (b := j) (by omega) (by omega)).mp h69
              refine lv_lload hx hb dd_Model_isEnd_175 (lv_at hl 5 rfl) ?_
              refine lv_lconst (v := 0) hx hb dd_Model_isEnd_177 (by decide) ?_
              refine W.lcmp hx hb dd_Model_isEnd_178 ?_
              refine lv_if_ne (tgt := 197) hx hb dd_Model_isEnd_179 (by decide) (fun h179 => ?_) (fun h179 => ?_)
              · skip
                rw [lg_cmp_eq (en (7 * nd)) (0 : Int64)] at h179
                refine lv_lload hx hb dd_Model_isEnd_197 (lv_at hl 4 rfl) ?_
                refine lv_lload hx hb dd_Model_isEnd_199 (lv_at hl 6 rfl) ?_
                refine lv_lmul hx hb dd_Model_isEnd_201 ?_
                refine lv_lload hx hb dd_Model_isEnd_202 (lv_at hl 5 rfl) ?_
                refine lv_lload_n hx hb dd_Model_isEnd_204 rfl (lv_at hl 3 rfl) ?_
                refine lv_lmul hx hb dd_Model_isEnd_205 ?_
                refine W.lcmp hx hb dd_Model_isEnd_206 ?_
                refine lv_if_lt (tgt := 214) hx hb dd_Model_isEnd_207 (by decide) (fun h207 => ?_) (fun h207 => ?_)
                · skip
                  rw [lg_cmp_lt (qp * (me_s en co wt bd wa nd wq k j)) ((en (7 * nd)) * pp)] at h207
                  refine lv_iconst (v := 0) hx hb dd_Model_isEnd_214 (by decide) ?_
                  exact W.zret (v := (0 : Int32)) hx hb hr (rfl) (fun t ht hW => ⟨⟨(0 : Int32), (), rfl, by first | exact mi_a (by omega) h179 h186 | exact mi_b (by omega) h179 h186 | exact mi_c (by omega) h179 h207 | exact mi_d (by omega) h179 h207, by rw [ht]; exact hP, va_K.moved hW.alike hK, hD⟩, hS.F ht⟩) hS.2.2 dd_Model_isEnd_215
                · skip
                  rw [lg_cmp_lt (qp * (me_s en co wt bd wa nd wq k j)) ((en (7 * nd)) * pp)] at h207
                  refine lv_iconst (v := 1) hx hb dd_Model_isEnd_210 (by decide) ?_
                  refine lv_goto (tgt := 215) hx hb dd_Model_isEnd_211 (by decide) ?_
                  exact W.zret (v := (1 : Int32)) hx hb hr (rfl) (fun t ht hW => ⟨⟨(1 : Int32), (), rfl, by first | exact mi_a (by omega) h179 h186 | exact mi_b (by omega) h179 h186 | exact mi_c (by omega) h179 h207 | exact mi_d (by omega) h179 h207, by rw [ht]; exact hP, va_K.moved hW.alike hK, hD⟩, hS.F ht⟩) hS.2.2 dd_Model_isEnd_215
              · skip
                rw [lg_cmp_eq (en (7 * nd)) (0 : Int64)] at h179
                refine lv_lload hx hb dd_Model_isEnd_182 (lv_at hl 6 rfl) ?_
                refine lv_lconst (v := 0) hx hb dd_Model_isEnd_184 (by decide) ?_
                refine W.lcmp hx hb dd_Model_isEnd_185 ?_
                refine lv_if_le (tgt := 193) hx hb dd_Model_isEnd_186 (by decide) (fun h186 => ?_) (fun h186 => ?_)
                · skip
                  rw [lg_cmp_le (me_s en co wt bd wa nd wq k j) (0 : Int64)] at h186
                  refine lv_iconst (v := 0) hx hb dd_Model_isEnd_193 (by decide) ?_
                  refine lv_goto (tgt := 215) hx hb dd_Model_isEnd_194 (by decide) ?_
                  exact W.zret (v := (0 : Int32)) hx hb hr (rfl) (fun t ht hW => ⟨⟨(0 : Int32), (), rfl, by first | exact mi_a (by omega) h179 h186 | exact mi_b (by omega) h179 h186 | exact mi_c (by omega) h179 h207 | exact mi_d (by omega) h179 h207, by rw [ht]; exact hP, va_K.moved hW.alike hK, hD⟩, hS.F ht⟩) hS.2.2 dd_Model_isEnd_215
                · skip
                  rw [lg_cmp_le (me_s en co wt bd wa nd wq k j) (0 : Int64)] at h186
                  refine lv_iconst (v := 1) hx hb dd_Model_isEnd_189 (by decide) ?_
                  refine lv_goto (tgt := 215) hx hb dd_Model_isEnd_190 (by decide) ?_
                  exact W.zret (v := (1 : Int32)) hx hb hr (rfl) (fun t ht hW => ⟨⟨(1 : Int32), (), rfl, by first | exact mi_a (by omega) h179 h186 | exact mi_b (by omega) h179 h186 | exact mi_c (by omega) h179 h207 | exact mi_d (by omega) h179 h207, by rw [ht]; exact hP, va_K.moved hW.alike hK, hD⟩, hS.F ht⟩) hS.2.2 dd_Model_isEnd_215
            · skip
              have h69 : ¬ (n ≤ j) := fun q9 => h69 ((nI_leI (a := n) (b := j) (by omega) (by omega)).mpr q9)
              refine lv_lload hx hb dd_Model_isEnd_72 (lv_at hl 5 rfl) ?_
              refine lv_aload_n hx hb dd_Model_isEnd_74 rfl (lv_at hl 0 rfl) ?_
              refine va_get (D := D) (ci := 7) (v := .ref mc) (C := RR_Model) (T := FF_Model) (N := 30) hx hb htb hi_Model hown hK hP 0 rfl rfl 5 (by decide) hf_24 (fun _ h9 => h9) rfl dd_Model_isEnd_75 ?_
              refine lv_iload hx hb dd_Model_isEnd_78 (lv_at hl 7 rfl) ?_
              refine mm_iald hx hb hK hP 1 0 rfl rfl (j) (rfl) (by omega) (by first | decide | omega) dd_Model_isEnd_80 ?_
              refine lv_i2l (v := (co j).toInt64) hx hb dd_Model_isEnd_81 rfl ?_
              refine lv_lmul hx hb dd_Model_isEnd_82 ?_
              refine lv_lstore (lv' := [(12, .long ((en (7 * nd)) * ((co j).toInt64))), (0, .ref o), (1, .int (nI nd)), (2, .int (nI wq)), (3, .long pp), (5, .long qp), (7, .long (en (7 * nd))), (9, .long (me_s en co wt bd wa nd wq k j)), (11, .int (nI j))]) hx hb dd_Model_isEnd_83 hl (by decide) rfl (fun ls hl => ?_)
              refine lv_iconst (v := 0) hx hb dd_Model_isEnd_85 (by decide) ?_
              refine lv_istore (lv' := [(14, .int (0 : Int32)), (12, .long ((en (7 * nd)) * ((co j).toInt64))), (0, .ref o), (1, .int (nI nd)), (2, .int (nI wq)), (3, .long pp), (5, .long qp), (7, .long (en (7 * nd))), (9, .long (me_s en co wt bd wa nd wq k j)), (11, .int (nI j))]) hx hb dd_Model_isEnd_86 hl (by decide) rfl (fun ls hl => ?_)
              have J88 : ∀ (N : Nat) (q0 : Nat), (k - q0) < N → ∀ (hq0 : q0 ≤ k), ∀ (ls : Array Slot) (H : Heap) (locs : List Loc), lv_has ls 15 [(0, .ref o), (1, .int (nI nd)), (2, .int (nI wq)), (3, .long pp), (5, .long qp), (7, .long (en (7 * nd))), (9, .long (me_s en co wt bd wa nd wq k j)), (11, .int (nI j)), (12, .long (me_e en co wt nd j q0)), (14, .int (nI q0))] → va_P D kc_all [(o, .inr (7, [.int thr, .int (nI n), .ref ml, .ref mm, .ref mw, .ref mc, .int (nI k), .ref mg, .ref md, .int so, .int fo, .ref mb, .long bb, .long bc, .ref mt, .long be, .ref mr, .int (nI rs), .ref mo, .int (nI rc), .ref mx, .ref mp, .ref nk, .ref na, .ref nv, .ref nf, .ref ns, .ref ne, .ref nw, .ref mf])), (mc, .inl (cI, 4, .inl co)), (mg, .inl (cI, 24, .inl wt)), (md, .inl (cI, 6, .inl bd)), (ne, .inl (cL, 280, .inr (.inl en))), (nw, .inl (cI, 900, .inl wa))] H → va_D A [(o, .inr (7, [.int thr, .int (nI n), .ref ml, .ref mm, .ref mw, .ref mc, .int (nI k), .ref mg, .ref md, .int so, .int fo, .ref mb, .long bb, .long bc, .ref mt, .long be, .ref mr, .int (nI rs), .ref mo, .int (nI rc), .ref mx, .ref mp, .ref nk, .ref na, .ref nv, .ref nf, .ref ns, .ref ne, .ref nw, .ref mf])), (mc, .inl (cI, 4, .inl co)), (mg, .inl (cI, 24, .inl wt)), (md, .inl (cI, 6, .inl bd)), (ne, .inl (cL, 280, .inr (.inl en))), (nw, .inl (cI, 900, .inl wa))] → va_S A s.heap H locs → W p l e (headSpec ww_Model_isEnd ({ frames := 0, cells := 0, slots := 0, locals := 0 } : Room)).room s m ([.ref o, .int (nI nd), .int (nI wq), .long pp, .long qp]).toArray below meth c H locs 0 0 (MQ below (qq_Model_isEnd D cI cZ cL cQ o ml mm mw mc mg md mb mt mr mo mx mp nk na nv nf ns ne nw mf thr n k so fo bb bc be rs rc nd wq pp qp co wt bd en wa A) ([.ref o, .int (nI nd), .int (nI wq), .long pp, .long qp]).toArray s 0 0 A) (F0 m 88 ls []) := by
                intro N
                induction N with
                | zero => intro q0 hN9; exact absurd hN9 (Nat.not_lt_zero _)
                | succ N IH88 =>
                  intro q0 hN9 hq0 ls H locs hl hP hD hS
                  refine lv_iload hx hb dd_Model_isEnd_88 (lv_at hl 9 rfl) ?_
                  refine lv_aload_n hx hb dd_Model_isEnd_90 rfl (lv_at hl 0 rfl) ?_
                  refine va_get (D := D) (ci := 7) (v := .int (nI k)) (C := RR_Model) (T := FF_Model) (N := 30) hx hb htb hi_Model hown hK hP 0 rfl rfl 6 (by decide) hf_83 (fun _ h9 => h9) rfl dd_Model_isEnd_91 ?_
                  refine lv_icmp_ge (tgt := 136) hx hb dd_Model_isEnd_94 (by decide) (fun h94 => ?_) (fun h94 => ?_)
                  · skip
                    have h94 : k ≤ q0 := (nI_leI (a := k) (b := q0) (by omega) (by omega)).mp h94
                    have eq0 : q0 = k := by omega
                    rw [eq0] at hl
                    have hl : lv_has ls 15 [(0, .ref o), (1, .int (nI nd)), (2, .int (nI wq)), (3, .long pp), (5, .long qp), (7, .long (en (7 * nd))), (9, .long (me_s en co wt bd wa nd wq k j)), (11, .int (nI j)), (12, .long (me_e en co wt nd j k)), (14, .int (nI k))] := hl
                    refine lv_lload hx hb dd_Model_isEnd_136 (lv_at hl 6 rfl) ?_
                    refine lv_lload hx hb dd_Model_isEnd_138 (lv_at hl 8 rfl) ?_
                    refine lv_aload_n hx hb dd_Model_isEnd_140 rfl (lv_at hl 0 rfl) ?_
                    refine va_get (D := D) (ci := 7) (v := .ref nw) (C := RR_Model) (T := FF_Model) (N := 30) hx hb htb hi_Model hown hK hP 0 rfl rfl 28 (by decide) hf_70 (fun _ h9 => h9) rfl dd_Model_isEnd_141 ?_
                    refine lv_iload_n hx hb dd_Model_isEnd_144 rfl (lv_at hl 2 rfl) ?_
                    refine lv_iconst (v := 1) hx hb dd_Model_isEnd_145 (by decide) ?_
                    refine lv_iadd hx hb dd_Model_isEnd_146 ?_
                    refine mm_topi (y := nI (wq + 1)) (nI_add wq 1) ?_
                    refine lv_lload hx hb dd_Model_isEnd_147 (lv_at hl 8 rfl) ?_
                    refine lv_lconst (v := 0) hx hb dd_Model_isEnd_149 (by decide) ?_
                    refine W.lcmp hx hb dd_Model_isEnd_150 ?_
                    refine lv_if_ge (tgt := 158) hx hb dd_Model_isEnd_151 (by decide) (fun h151 => ?_) (fun h151 => ?_)
                    · skip
                      rw [lg_cmp_ge (me_e en co wt nd j k) (0 : Int64)] at h151
                      refine lv_iconst (v := 0) hx hb dd_Model_isEnd_158 (by decide) ?_
                      refine lv_iadd hx hb dd_Model_isEnd_159 ?_
                      refine mm_topi (y := nI ((wq + 1) + 0)) (nI_add (wq + 1) 0) ?_
                      refine lv_iload hx hb dd_Model_isEnd_160 (lv_at hl 7 rfl) ?_
                      refine lv_iadd hx hb dd_Model_isEnd_162 ?_
                      refine mm_topi (y := nI (((wq + 1) + 0) + j)) (nI_add ((wq + 1) + 0) j) ?_
                      refine mm_iald hx hb hK hP 5 0 rfl rfl (((wq + 1) + 0) + j) (rfl) (by omega) (by first | decide | omega) dd_Model_isEnd_163 ?_
                      refine mm_topi (y := me_w wa wq j (me_e en co wt nd j k)) (by first | exact (if_pos h151).symm | exact (if_neg h151).symm) ?_
                      refine lv_i2l (v := (me_w wa wq j (me_e en co wt nd j k)).toInt64) hx hb dd_Model_isEnd_164 rfl ?_
                      refine lv_lmul hx hb dd_Model_isEnd_165 ?_
                      refine lv_ladd hx hb dd_Model_isEnd_166 ?_
                      refine lv_lstore (lv' := [(9, .long ((me_s en co wt bd wa nd wq k j) + ((me_e en co wt nd j k) * ((me_w wa wq j (me_e en co wt nd j k)).toInt64)))), (0, .ref o), (1, .int (nI nd)), (2, .int (nI wq)), (3, .long pp), (5, .long qp), (7, .long (en (7 * nd))), (11, .int (nI j)), (12, .long (me_e en co wt nd j k)), (14, .int (nI k))]) hx hb dd_Model_isEnd_167 hl (by decide) rfl (fun ls hl => ?_)
                      refine lv_iinc (k := 7) (v := nI (j + 1)) (lv' := [(11, .int (nI (j + 1))), (9, .long ((me_s en co wt bd wa nd wq k j) + ((me_e en co wt nd j k) * ((me_w wa wq j (me_e en co wt nd j k)).toInt64)))), (0, .ref o), (1, .int (nI nd)), (2, .int (nI wq)), (3, .long pp), (5, .long qp), (7, .long (en (7 * nd))), (12, .long (me_e en co wt nd j k)), (14, .int (nI k))]) hx hb dd_Model_isEnd_169 hl rfl (nI_1 _) (by decide) rfl (fun ls hl => ?_)
                      refine lv_goto (tgt := 63) hx hb dd_Model_isEnd_172 (by decide) ?_
                      exact IH63 (j + 1) (by omega) (by omega) ls H locs (lv_sub hl [2, 3, 4, 5, 6, 7, 1, 0] rfl) hP hD hS
                    · skip
                      rw [lg_cmp_ge (me_e en co wt nd j k) (0 : Int64)] at h151
                      refine lv_iconst (v := 4) hx hb dd_Model_isEnd_154 (by decide) ?_
                      refine lv_goto (tgt := 159) hx hb dd_Model_isEnd_155 (by decide) ?_
                      refine lv_iadd hx hb dd_Model_isEnd_159 ?_
                      refine mm_topi (y := nI ((wq + 1) + 4)) (nI_add (wq + 1) 4) ?_
                      refine lv_iload hx hb dd_Model_isEnd_160 (lv_at hl 7 rfl) ?_
                      refine lv_iadd hx hb dd_Model_isEnd_162 ?_
                      refine mm_topi (y := nI (((wq + 1) + 4) + j)) (nI_add ((wq + 1) + 4) j) ?_
                      refine mm_iald hx hb hK hP 5 0 rfl rfl (((wq + 1) + 4) + j) (rfl) (by omega) (by first | decide | omega) dd_Model_isEnd_163 ?_
                      refine mm_topi (y := me_w wa wq j (me_e en co wt nd j k)) (by first | exact (if_pos h151).symm | exact (if_neg h151).symm) ?_
                      refine lv_i2l (v := (me_w wa wq j (me_e en co wt nd j k)).toInt64) hx hb dd_Model_isEnd_164 rfl ?_
                      refine lv_lmul hx hb dd_Model_isEnd_165 ?_
                      refine lv_ladd hx hb dd_Model_isEnd_166 ?_
                      refine lv_lstore (lv' := [(9, .long ((me_s en co wt bd wa nd wq k j) + ((me_e en co wt nd j k) * ((me_w wa wq j (me_e en co wt nd j k)).toInt64)))), (0, .ref o), (1, .int (nI nd)), (2, .int (nI wq)), (3, .long pp), (5, .long qp), (7, .long (en (7 * nd))), (11, .int (nI j)), (12, .long (me_e en co wt nd j k)), (14, .int (nI k))]) hx hb dd_Model_isEnd_167 hl (by decide) rfl (fun ls hl => ?_)
                      refine lv_iinc (k := 7) (v := nI (j + 1)) (lv' := [(11, .int (nI (j + 1))), (9, .long ((me_s en co wt bd wa nd wq k j) + ((me_e en co wt nd j k) * ((me_w wa wq j (me_e en co wt nd j k)).toInt64)))), (0, .ref o), (1, .int (nI nd)), (2, .int (nI wq)), (3, .long pp), (5, .long qp), (7, .long (en (7 * nd))), (12, .long (me_e en co wt nd j k)), (14, .int (nI k))]) hx hb dd_Model_isEnd_169 hl rfl (nI_1 _) (by decide) rfl (fun ls hl => ?_)
                      refine lv_goto (tgt := 63) hx hb dd_Model_isEnd_172 (by decide) ?_
                      exact IH63 (j + 1) (by omega) (by omega) ls H locs (lv_sub hl [2, 3, 4, 5, 6, 7, 1, 0] rfl) hP hD hS
                  · skip
                    have h94 : ¬ (k ≤ q0) := fun q9 => h94 ((nI_leI (a := k) (b := q0) (by omega) (by omega)).mpr q9)
                    refine lv_lload hx hb dd_Model_isEnd_97 (lv_at hl 8 rfl) ?_
                    refine lv_aload_n hx hb dd_Model_isEnd_99 rfl (lv_at hl 0 rfl) ?_
                    refine va_get (D := D) (ci := 7) (v := .ref ne) (C := RR_Model) (T := FF_Model) (N := 30) hx hb htb hi_Model hown hK hP 0 rfl rfl 27 (by decide) hf_67 (fun _ h9 => h9) rfl dd_Model_isEnd_100 ?_
                    refine lv_bipush (v := 7) hx hb dd_Model_isEnd_103 (by decide) ?_
                    refine lv_iload_n hx hb dd_Model_isEnd_105 rfl (lv_at hl 1 rfl) ?_
                    refine lv_imul hx hb dd_Model_isEnd_106 ?_
                    refine mm_topi (y := nI (7 * nd)) (pk_mul 7 nd) ?_
                    refine lv_iconst (v := 1) hx hb dd_Model_isEnd_107 (by decide) ?_
                    refine lv_iadd hx hb dd_Model_isEnd_108 ?_
                    refine mm_topi (y := nI ((7 * nd) + 1)) (nI_add (7 * nd) 1) ?_
                    refine lv_iload hx hb dd_Model_isEnd_109 (lv_at hl 9 rfl) ?_
                    refine lv_iadd hx hb dd_Model_isEnd_111 ?_
                    refine mm_topi (y := nI (((7 * nd) + 1) + q0)) (nI_add ((7 * nd) + 1) q0) ?_
                    refine mm_lald hx hb hK hP 4 2 rfl rfl (((7 * nd) + 1) + q0) (rfl) (by omega) (by first | decide | omega) dd_Model_isEnd_112 ?_
                    refine lv_aload_n hx hb dd_Model_isEnd_113 rfl (lv_at hl 0 rfl) ?_
                    refine va_get (D := D) (ci := 7) (v := .ref mg) (C := RR_Model) (T := FF_Model) (N := 30) hx hb htb hi_Model hown hK hP 0 rfl rfl 7 (by decide) hf_27 (fun _ h9 => h9) rfl dd_Model_isEnd_114 ?_
                    refine lv_iconst (v := 4) hx hb dd_Model_isEnd_117 (by decide) ?_
                    refine lv_iload hx hb dd_Model_isEnd_118 (lv_at hl 9 rfl) ?_
                    refine lv_imul hx hb dd_Model_isEnd_120 ?_
                    refine mm_topi (y := nI (4 * q0)) (pk_mul 4 q0) ?_
                    refine lv_iload hx hb dd_Model_isEnd_121 (lv_at hl 7 rfl) ?_
                    refine lv_iadd hx hb dd_Model_isEnd_123 ?_
                    refine mm_topi (y := nI ((4 * q0) + j)) (nI_add (4 * q0) j) ?_
                    refine mm_iald hx hb hK hP 2 0 rfl rfl ((4 * q0) + j) (rfl) (by omega) (by first | decide | omega) dd_Model_isEnd_124 ?_
                    refine lv_i2l (v := (wt ((4 * q0) + j)).toInt64) hx hb dd_Model_isEnd_125 rfl ?_
                    refine lv_lmul hx hb dd_Model_isEnd_126 ?_
                    refine lv_ladd hx hb dd_Model_isEnd_127 ?_
                    refine lv_lstore (lv' := [(12, .long ((me_e en co wt nd j q0) + ((en (((7 * nd) + 1) + q0)) * ((wt ((4 * q0) + j)).toInt64)))), (0, .ref o), (1, .int (nI nd)), (2, .int (nI wq)), (3, .long pp), (5, .long qp), (7, .long (en (7 * nd))), (9, .long (me_s en co wt bd wa nd wq k j)), (11, .int (nI j)), (14, .int (nI q0))]) hx hb dd_Model_isEnd_128 hl (by decide) rfl (fun ls hl => ?_)
                    refine lv_iinc (k := 9) (v := nI (q0 + 1)) (lv' := [(14, .int (nI (q0 + 1))), (12, .long ((me_e en co wt nd j q0) + ((en (((7 * nd) + 1) + q0)) * ((wt ((4 * q0) + j)).toInt64)))), (0, .ref o), (1, .int (nI nd)), (2, .int (nI wq)), (3, .long pp), (5, .long qp), (7, .long (en (7 * nd))), (9, .long (me_s en co wt bd wa nd wq k j)), (11, .int (nI j))]) hx hb dd_Model_isEnd_130 hl rfl (nI_1 _) (by decide) rfl (fun ls hl => ?_)
                    refine lv_goto (tgt := 88) hx hb dd_Model_isEnd_133 (by decide) ?_
                    exact IH88 (q0 + 1) (by omega) (by omega) ls H locs (lv_sub hl [2, 3, 4, 5, 6, 7, 8, 9, 1, 0] rfl) hP hD hS
              exact J88 _ 0 (Nat.lt_succ_self _) (by omega) ls H locs (lv_sub hl [2, 3, 4, 5, 6, 7, 8, 9, 1, 0] rfl) hP hD hS
        rw [show i = k by omega] at hl
        exact J63 _ 0 (Nat.lt_succ_self _) (by omega) ls H locs (lv_sub hl [1, 2, 3, 4, 5, 6, 7, 0] rfl) hP hD hS
      · skip
        have h23 : ¬ (k ≤ i) := fun q9 => h23 ((nI_leI (a := k) (b := i) (by omega) (by omega)).mpr q9)
        refine lv_lload hx hb dd_Model_isEnd_26 (lv_at hl 6 rfl) ?_
        refine lv_aload_n hx hb dd_Model_isEnd_28 rfl (lv_at hl 0 rfl) ?_
        refine va_get (D := D) (ci := 7) (v := .ref ne) (C := RR_Model) (T := FF_Model) (N := 30) hx hb htb hi_Model hown hK hP 0 rfl rfl 27 (by decide) hf_67 (fun _ h9 => h9) rfl dd_Model_isEnd_29 ?_
        refine lv_bipush (v := 7) hx hb dd_Model_isEnd_32 (by decide) ?_
        refine lv_iload_n hx hb dd_Model_isEnd_34 rfl (lv_at hl 1 rfl) ?_
        refine lv_imul hx hb dd_Model_isEnd_35 ?_
        refine mm_topi (y := nI (7 * nd)) (pk_mul 7 nd) ?_
        refine lv_iconst (v := 1) hx hb dd_Model_isEnd_36 (by decide) ?_
        refine lv_iadd hx hb dd_Model_isEnd_37 ?_
        refine mm_topi (y := nI ((7 * nd) + 1)) (nI_add (7 * nd) 1) ?_
        refine lv_iload hx hb dd_Model_isEnd_38 (lv_at hl 7 rfl) ?_
        refine lv_iadd hx hb dd_Model_isEnd_40 ?_
        refine mm_topi (y := nI (((7 * nd) + 1) + i)) (nI_add ((7 * nd) + 1) i) ?_
        refine mm_lald hx hb hK hP 4 2 rfl rfl (((7 * nd) + 1) + i) (rfl) (by omega) (by first | decide | omega) dd_Model_isEnd_41 ?_
        refine lv_aload_n hx hb dd_Model_isEnd_42 rfl (lv_at hl 0 rfl) ?_
        refine va_get (D := D) (ci := 7) (v := .ref md) (C := RR_Model) (T := FF_Model) (N := 30) hx hb htb hi_Model hown hK hP 0 rfl rfl 8 (by decide) hf_30 (fun _ h9 => h9) rfl dd_Model_isEnd_43 ?_
        refine lv_iload hx hb dd_Model_isEnd_46 (lv_at hl 7 rfl) ?_
        refine mm_iald hx hb hK hP 3 0 rfl rfl (i) (rfl) (by omega) (by first | decide | omega) dd_Model_isEnd_48 ?_
        refine lv_i2l (v := (bd i).toInt64) hx hb dd_Model_isEnd_49 rfl ?_
        refine lv_lmul hx hb dd_Model_isEnd_50 ?_
        refine lv_lsub hx hb dd_Model_isEnd_51 ?_
        refine lv_lstore (lv' := [(9, .long ((me_b en bd nd i) - ((en (((7 * nd) + 1) + i)) * ((bd i).toInt64)))), (0, .ref o), (1, .int (nI nd)), (2, .int (nI wq)), (3, .long pp), (5, .long qp), (7, .long (en (7 * nd))), (11, .int (nI i))]) hx hb dd_Model_isEnd_52 hl (by decide) rfl (fun ls hl => ?_)
        refine lv_iinc (k := 7) (v := nI (i + 1)) (lv' := [(11, .int (nI (i + 1))), (9, .long ((me_b en bd nd i) - ((en (((7 * nd) + 1) + i)) * ((bd i).toInt64)))), (0, .ref o), (1, .int (nI nd)), (2, .int (nI wq)), (3, .long pp), (5, .long qp), (7, .long (en (7 * nd)))]) hx hb dd_Model_isEnd_54 hl rfl (nI_1 _) (by decide) rfl (fun ls hl => ?_)
        refine lv_goto (tgt := 17) hx hb dd_Model_isEnd_57 (by decide) ?_
        exact IH17 (i + 1) (by omega) (by omega) ls H locs (lv_sub hl [2, 3, 4, 5, 6, 7, 1, 0] rfl) hP hD hS
  exact J17 _ 0 (Nat.lt_succ_self _) (by omega) ls _ _ (lv_sub hl [3, 4, 5, 6, 7, 2, 1, 0] rfl) hP hD hS
