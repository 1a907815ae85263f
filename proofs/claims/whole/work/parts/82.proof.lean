abbrev qq_Math_min (D : va_G) (cI cZ cL cQ : ClassId) (x : Int32) (y : Int32) (A : Nat → Prop) : Array Value → State → Outcome → State → Prop := va_Qi (fun (r : Int32) (u : Unit) => r = if y < x then y else x) (fun (u : Unit) t => mm_B D kc_all [(cI, .int), (cZ, .boolean), (cL, .long), (cQ, .array .int)] A [] t) A
set_option maxHeartbeats 4000000 in
set_option maxRecDepth 100000 in
theorem cc_Math_min (l : Launch) (D : va_G) (cI cZ cL cQ : ClassId) (sz : Nat) (x : Int32) (y : Int32)  : Met l yy_Math_min ww_Math_min ({ frames := 0, cells := 0, slots := 0, locals := 0 } : Room) (mm_Pc D kc_all [(cI, .int), (cZ, .boolean), (cL, .long), (cQ, .array .int)] sz [] [.int x, .int y]) (qq_Math_min D cI cZ cL cQ x y (va_A [] sz)) 0 0 (va_A [] sz) := by
  refine va_MetF (cc := bb_Math_min) (maxL := 2) (ret := (some .int)) (by decide +kernel) rfl ?_
  intro p e s m args below meth c s₁ B hml hv
  obtain ⟨rfl, hsz, hP, hK, hD0⟩ := hv
  have hx := B.exec
  have hb := B.bytes
  have hr := B.returns
  have hts := atoms_spec (ws := ww_Math_min) B.pre
  have hown : s.vm.findClass RR_Math = some m.cls := findClass_of_methodNamed B.named
  have hlocks := B.notSynchronized
  subst hsz
  have hD := hD0.self (sz := s.heap.size)
  generalize hAe : va_A [] s.heap.size = A at hD ⊢
  have hA : ∀ q : Nat, s.heap.size ≤ q → A q := fun q h => by rw [← hAe]; exact Or.inr h
  have hS : va_S A s.heap s.heap [] := va_S.rf
  have hP : va_P D kc_all [] s.heap := hP
  have hl := lv_entry ([.int x, .int y]) (n := 2) (Nat.le_of_ble_eq_true rfl)
  rw [lg_entry_eq]
  generalize (lg_sl ([.int x, .int y]) ++ List.replicate (2 - (lg_sl ([.int x, .int y])).length) Slot.unset).toArray = ls at hl ⊢
  have hl : lv_has ls 2 [(0, .int x), (1, .int y)] := hl
  have htb : ∀ w ∈ tb_all, w.before ([.int x, .int y]).toArray s = true := fun w h => hts w (List.mem_cons_of_mem _ h)
  refine lv_iload_n hx hb dd_Math_min_0 rfl (lv_at hl 0 rfl) ?_
  refine lv_iload_n hx hb dd_Math_min_1 rfl (lv_at hl 1 rfl) ?_
  refine lv_icmp_gt (tgt := 9) hx hb dd_Math_min_2 (by decide) (fun h2 => ?_) (fun h2 => ?_)
  · skip
    refine lv_iload_n hx hb dd_Math_min_9 rfl (lv_at hl 1 rfl) ?_
    exact W.iret (v := y) hx hb hr (fun t ht hW => ⟨⟨y, (), rfl, by first | exact (if_pos h2).symm | exact (if_neg h2).symm, by rw [ht]; exact hP, va_K.moved hW.alike hK, hD⟩, hS.F ht⟩) hS.2.2 dd_Math_min_10
  · skip
    refine lv_iload_n hx hb dd_Math_min_5 rfl (lv_at hl 0 rfl) ?_
    refine lv_goto (tgt := 10) hx hb dd_Math_min_6 (by decide) ?_
    exact W.iret (v := x) hx hb hr (fun t ht hW => ⟨⟨x, (), rfl, by first | exact (if_pos h2).symm | exact (if_neg h2).symm, by rw [ht]; exact hP, va_K.moved hW.alike hK, hD⟩, hS.F ht⟩) hS.2.2 dd_Math_min_10
abbrev qq_Math_max (D : va_G) (cI cZ cL cQ : ClassId) (x : Int32) (y : Int32) (A : Nat → Prop) : Array Value → State → Outcome → State → Prop := va_Qi (fun (r : Int32) (u : Unit) => r = if x < y then y else x) (fun (u : Unit) t => mm_B D kc_all [(cI, .int), (cZ, .boolean), (cL, .long), (cQ, .array .int)] A [] t) A
set_option maxHeartbeats 4000000 in
set_option maxRecDepth 100000 in
theorem cc_Math_max (l : Launch) (D : va_G) (cI cZ cL cQ : ClassId) (sz : Nat) (x : Int32) (y : Int32)  : Met l yy_Math_max ww_Math_max ({ frames := 0, cells := 0, slots := 0, locals := 0 } : Room) (mm_Pc D kc_all [(cI, .int), (cZ, .boolean), (cL, .long), (cQ, .array .int)] sz [] [.int x, .int y]) (qq_Math_max D cI cZ cL cQ x y (va_A [] sz)) 0 0 (va_A [] sz) := by
  refine va_MetF (cc := bb_Math_max) (maxL := 2) (ret := (some .int)) (by decide +kernel) rfl ?_
  intro p e s m args below meth c s₁ B hml hv
  obtain ⟨rfl, hsz, hP, hK, hD0⟩ := hv
  have hx := B.exec
  have hb := B.bytes
  have hr := B.returns
  have hts := atoms_spec (ws := ww_Math_max) B.pre
  have hown : s.vm.findClass RR_Math = some m.cls := findClass_of_methodNamed B.named
  have hlocks := B.notSynchronized
  subst hsz
  have hD := hD0.self (sz := s.heap.size)
  generalize hAe : va_A [] s.heap.size = A at hD ⊢
  have hA : ∀ q : Nat, s.heap.size ≤ q → A q := fun q h => by rw [← hAe]; exact Or.inr h
  have hS : va_S A s.heap s.heap [] := va_S.rf
  have hP : va_P D kc_all [] s.heap := hP
  have hl := lv_entry ([.int x, .int y]) (n := 2) (Nat.le_of_ble_eq_true rfl)
  rw [lg_entry_eq]
  generalize (lg_sl ([.int x, .int y]) ++ List.replicate (2 - (lg_sl ([.int x, .int y])).length) Slot.unset).toArray = ls at hl ⊢
  have hl : lv_has ls 2 [(0, .int x), (1, .int y)] := hl
  have htb : ∀ w ∈ tb_all, w.before ([.int x, .int y]).toArray s = true := fun w h => hts w (List.mem_cons_of_mem _ h)
  refine lv_iload_n hx hb dd_Math_max_0 rfl (lv_at hl 0 rfl) ?_
  refine lv_iload_n hx hb dd_Math_max_1 rfl (lv_at hl 1 rfl) ?_
  refine lv_icmp_lt (tgt := 9) hx hb dd_Math_max_2 (by decide) (fun h2 => ?_) (fun h2 => ?_)
  · skip
    refine lv_iload_n hx hb dd_Math_max_9 rfl (lv_at hl 1 rfl) ?_
    exact W.iret (v := y) hx hb hr (fun t ht hW => ⟨⟨y, (), rfl, by first | exact (if_pos h2).symm | exact (if_neg h2).symm, by rw [ht]; exact hP, va_K.moved hW.alike hK, hD⟩, hS.F ht⟩) hS.2.2 dd_Math_max_10
  · skip
    refine lv_iload_n hx hb dd_Math_max_5 rfl (lv_at hl 0 rfl) ?_
    refine lv_goto (tgt := 10) hx hb dd_Math_max_6 (by decide) ?_
    exact W.iret (v := x) hx hb hr (fun t ht hW => ⟨⟨x, (), rfl, by first | exact (if_pos h2).symm | exact (if_neg h2).symm, by rw [ht]; exact hP, va_K.moved hW.alike hK, hD⟩, hS.F ht⟩) hS.2.2 dd_Math_max_10
abbrev qq_Proof_turnNumbers (D : va_G) (cI cZ cL cQ : ClassId) (pf : Nat) (pn : Nat) (pr : Nat) (e9 : Nat) (num : Nat → Int32) (A : Nat → Prop) : Array Value → State → Outcome → State → Prop := va_Qv (fun u : (Nat → Int32) => u = tn_f num) (fun (u : (Nat → Int32)) t => mm_B D kc_all [(cI, .int), (cZ, .boolean), (cL, .long), (cQ, .array .int)] A [(pf, .inr (4, [.int (nI e9), .ref pn, .ref pr])), (pn, .inl (cI, 7, .inl u))] t) A
set_option maxHeartbeats 4000000 in
set_option maxRecDepth 100000 in
theorem cc_Proof_turnNumbers (l : Launch) (D : va_G) (cI cZ cL cQ : ClassId) (sz : Nat) (pf : Nat) (pn : Nat) (pr : Nat) (e9 : Nat) (num : Nat → Int32)  : Met l yy_Proof_turnNumbers ww_Proof_turnNumbers ({ frames := 0, cells := 0, slots := 0, locals := 0 } : Room) (mm_Pc D kc_all [(cI, .int), (cZ, .boolean), (cL, .long), (cQ, .array .int)] sz [(pf, .inr (4, [.int (nI e9), .ref pn, .ref pr])), (pn, .inl (cI, 7, .inl num))] [.ref pf]) (qq_Proof_turnNumbers D cI cZ cL cQ pf pn pr e9 num (va_A [(pf, .inr (4, [.int (nI e9), .ref pn, .ref pr])), (pn, .inl (cI, 7, .inl num))] sz)) 0 0 (va_A [(pf, .inr (4, [.int (nI e9), .ref pn, .ref pr])), (pn, .inl (cI, 7, .inl num))] sz) := by
  refine Met.ofW (cc := bb_Proof_turnNumbers) (maxL := 2) (ret := none) (by decide) rfl ?_
  intro p e s m args below meth c s₁ B hml hv
  obtain ⟨rfl, hsz, hP, hK, hD0⟩ := hv
  have hx := B.exec
  have hb := B.bytes
  have hr := B.returns
  have hts := atoms_spec (ws := ww_Proof_turnNumbers) B.pre
  have hown : s.vm.findClass RR_Proof = some m.cls := findClass_of_methodNamed B.named
  have hlocks := B.notSynchronized
  subst hsz
  have hD := hD0.self (sz := s.heap.size)
  generalize hAe : va_A [(pf, .inr (4, [.int (nI e9), .ref pn, .ref pr])), (pn, .inl (cI, 7, .inl num))] s.heap.size = A at hD ⊢
  have hA : ∀ q : Nat, s.heap.size ≤ q → A q := fun q h => by rw [← hAe]; exact Or.inr h
  have hS : va_S A s.heap s.heap [] := va_S.rf
  have hP : va_P D kc_all [(pf, .inr (4, [.int (nI e9), .ref pn, .ref pr])), (pn, .inl (cI, 7, .inl num))] s.heap := hP
  have hl := lv_entry ([.ref pf]) (n := 2) (Nat.le_of_ble_eq_true rfl)
  rw [lg_entry_eq]
  generalize (lg_sl ([.ref pf]) ++ List.replicate (2 - (lg_sl ([.ref pf])).length) Slot.unset).toArray = ls at hl ⊢
  have hl : lv_has ls 2 [(0, .ref pf)] := hl
  have htb : ∀ w ∈ tb_all, w.before ([.ref pf]).toArray s = true := fun w h => hts w (List.mem_cons_of_mem _ h)
  have hf_17 := htb _ fl_Proof_17
  refine lv_iconst (v := 0) hx hb dd_Proof_turnNumbers_0 (by decide) ?_
  refine lv_istore_n (lv' := [(1, .int (0 : Int32)), (0, .ref pf)]) hx hb dd_Proof_turnNumbers_1 rfl hl (by decide) rfl (fun ls hl => ?_)
  have J2 : ∀ (N : Nat) (j : Nat) (num1 : Nat → Int32), (7 - j) < N → ∀ (hj : j ≤ 7) (hv : num1 = mx_f (fun i => -(num i)) num j), ∀ (ls : Array Slot) (H : Heap) (locs : List Loc), lv_has ls 2 [(0, .ref pf), (1, .int (nI j))] → va_P D kc_all [(pf, .inr (4, [.int (nI e9), .ref pn, .ref pr])), (pn, .inl (cI, 7, .inl num1))] H → va_D A [(pf, .inr (4, [.int (nI e9), .ref pn, .ref pr])), (pn, .inl (cI, 7, .inl num1))] → va_S A s.heap H locs → W p l e (headSpec ww_Proof_turnNumbers ({ frames := 0, cells := 0, slots := 0, locals := 0 } : Room)).room s m ([.ref pf]).toArray below meth c H locs 0 0 (MQ below (qq_Proof_turnNumbers D cI cZ cL cQ pf pn pr e9 num A) ([.ref pf]).toArray s 0 0 A) (F0 m 2 ls []) := by
    intro N
    induction N with
    | zero => intro j num1 hN9; exact absurd hN9 (Nat.not_lt_zero _)
    | succ N IH2 =>
      intro j num1 hN9 hj hv ls H locs hl hP hD hS
      refine lv_iload_n hx hb dd_Proof_turnNumbers_2 rfl (lv_at hl 1 rfl) ?_
      refine lv_bipush (v := 7) hx hb dd_Proof_turnNumbers_3 (by decide) ?_
      refine lv_icmp_ge (tgt := 27) hx hb dd_Proof_turnNumbers_5 (by decide) (fun h5 => ?_) (fun h5 => ?_)
      · skip
        have h5 : 7 ≤ j := (nI_leI (a := 7) (b := j) (by omega) (by omega)).mp h5
        exact W.vret hx hb hr (fun t ht hW => ⟨⟨num1, rfl, by unfold tn_f; rw [show (7 : Nat) = j by omega]; exact hv, by rw [ht]; exact hP, va_K.moved hW.alike hK, hD⟩, hS.F ht⟩) hS.2.2 dd_Proof_turnNumbers_27
      · skip
        have h5 : ¬ (7 ≤ j) := fun q9 => h5 ((nI_leI (a := 7) (b := j) (by omega) (by omega)).mpr q9)
        refine lv_aload_n hx hb dd_Proof_turnNumbers_8 rfl (lv_at hl 0 rfl) ?_
        refine va_get (D := D) (ci := 4) (v := .ref pn) (C := RR_Proof) (T := FF_Proof) (N := 3) hx hb htb hi_Proof hown hK hP 0 rfl rfl 1 (by decide) hf_17 (fun _ h9 => h9) rfl dd_Proof_turnNumbers_9 ?_
        refine lv_iload_n hx hb dd_Proof_turnNumbers_12 rfl (lv_at hl 1 rfl) ?_
        refine lv_aload_n hx hb dd_Proof_turnNumbers_13 rfl (lv_at hl 0 rfl) ?_
        refine va_get (D := D) (ci := 4) (v := .ref pn) (C := RR_Proof) (T := FF_Proof) (N := 3) hx hb htb hi_Proof hown hK hP 0 rfl rfl 1 (by decide) hf_17 (fun _ h9 => h9) rfl dd_Proof_turnNumbers_14 ?_
        refine lv_iload_n hx hb dd_Proof_turnNumbers_17 rfl (lv_at hl 1 rfl) ?_
        refine mm_iald hx hb hK hP 1 0 rfl rfl (j) (rfl) (by omega) (by first | decide | omega) dd_Proof_turnNumbers_18 ?_
        refine lv_ineg hx hb dd_Proof_turnNumbers_19 ?_
        refine mm_iast hx hb hK hP hD hS 1 0 rfl rfl (j) (rfl) (by omega) (by first | decide | omega) dd_Proof_turnNumbers_20 (fun H locs hP hD hS => ?_)
        have hP : va_P D kc_all [(pf, .inr (4, [.int (nI e9), .ref pn, .ref pr])), (pn, .inl (cI, 7, .inl (upd num1 j (-(num1 j)))))] H := hP
        have hD : va_D A [(pf, .inr (4, [.int (nI e9), .ref pn, .ref pr])), (pn, .inl (cI, 7, .inl (upd num1 j (-(num1 j)))))] := hD
        refine lv_iinc (k := 1) (v := nI (j + 1)) (lv' := [(1, .int (nI (j + 1))), (0, .ref pf)]) hx hb dd_Proof_turnNumbers_21 hl rfl (nI_1 _) (by decide) rfl (fun ls hl => ?_)
        refine lv_goto (tgt := 2) hx hb dd_Proof_turnNumbers_24 (by decide) ?_
        exact IH2 (j + 1) (upd num1 j (-(num1 j))) (by omega) (by omega) (mx_n hv) ls H locs (lv_sub hl [1, 0] rfl) hP hD hS
  exact J2 _ 0 num (Nat.lt_succ_self _) (by omega) (mx_0.symm) ls _ _ (lv_sub hl [1, 0] rfl) hP hD hS
abbrev qq_Proof_setNumbers (D : va_G) (cI cZ cL cQ : ClassId) (pf : Nat) (pn : Nat) (pr : Nat) (mi : Nat) (mv : Nat) (e9 : Nat) (zs : Nat) (cl : Nat) (num : Nat → Int32) (vals : Nat → Int32) (A : Nat → Prop) : Array Value → State → Outcome → State → Prop := va_Qi (fun (r : Int32) (u : (Nat → Int32)) => tl_ok (sk_ok (sn_lo vals zs cl 7) (sn_hi vals zs cl 7)) r ∧ u = nf_f vals zs cl num) (fun (u : (Nat → Int32)) t => mm_B D kc_all [(cI, .int), (cZ, .boolean), (cL, .long), (cQ, .array .int)] A [(pf, .inr (4, [.int (nI e9), .ref pn, .ref pr])), (pn, .inl (cI, 7, .inl u)), (mi, .inr (1, [.ref mv])), (mv, .inl (cI, 2048, .inl vals))] t) A
set_option maxHeartbeats 4000000 in
set_option maxRecDepth 100000 in
theorem cc_Proof_setNumbers (l : Launch) (D : va_G) (cI cZ cL cQ : ClassId) (sz : Nat) (pf : Nat) (pn : Nat) (pr : Nat) (mi : Nat) (mv : Nat) (e9 : Nat) (zs : Nat) (cl : Nat) (num : Nat → Int32) (vals : Nat → Int32) (hzs : zs < 16) (hcl : cl < 128) : Met l yy_Proof_setNumbers ww_Proof_setNumbers ({ frames := 1, cells := 0, slots := 0, locals := 22 } : Room) (mm_Pc D kc_all [(cI, .int), (cZ, .boolean), (cL, .long), (cQ, .array .int)] sz [(pf, .inr (4, [.int (nI e9), .ref pn, .ref pr])), (pn, .inl (cI, 7, .inl num)), (mi, .inr (1, [.ref mv])), (mv, .inl (cI, 2048, .inl vals))] [.ref pf, .ref mi, .int (nI zs), .int (nI cl)]) (qq_Proof_setNumbers D cI cZ cL cQ pf pn pr mi mv e9 zs cl num vals (va_A [(pf, .inr (4, [.int (nI e9), .ref pn, .ref pr])), (pn, .inl (cI, 7, .inl num)), (mi, .inr (1, [.ref mv])), (mv, .inl (cI, 2048, .inl vals))] sz)) 0 0 (va_A [(pf, .inr (4, [.int (nI e9), .ref pn, .ref pr])), (pn, .inl (cI, 7, .inl num)), (mi, .inr (1, [.ref mv])), (mv, .inl (cI, 2048, .inl vals))] sz) := by
  refine Met.ofW (cc := bb_Proof_setNumbers) (maxL := 9) (ret := (some .boolean)) (by decide) rfl ?_
  intro p e s m args below meth c s₁ B hml hv
  obtain ⟨rfl, hsz, hP, hK, hD0⟩ := hv
  have hx := B.exec
  have hb := B.bytes
  have hr := B.returns
  have hts := atoms_spec (ws := ww_Proof_setNumbers) B.pre
  have hown : s.vm.findClass RR_Proof = some m.cls := findClass_of_methodNamed B.named
  have hlocks := B.notSynchronized
  subst hsz
  have hD := hD0.self (sz := s.heap.size)
  generalize hAe : va_A [(pf, .inr (4, [.int (nI e9), .ref pn, .ref pr])), (pn, .inl (cI, 7, .inl num)), (mi, .inr (1, [.ref mv])), (mv, .inl (cI, 2048, .inl vals))] s.heap.size = A at hD ⊢
  have hA : ∀ q : Nat, s.heap.size ≤ q → A q := fun q h => by rw [← hAe]; exact Or.inr h
  have hS : va_S A s.heap s.heap [] := va_S.rf
  have hP : va_P D kc_all [(pf, .inr (4, [.int (nI e9), .ref pn, .ref pr])), (pn, .inl (cI, 7, .inl num)), (mi, .inr (1, [.ref mv])), (mv, .inl (cI, 2048, .inl vals))] s.heap := hP
  have hl := lv_entry ([.ref pf, .ref mi, .int (nI zs), .int (nI cl)]) (n := 9) (Nat.le_of_ble_eq_true rfl)
  rw [lg_entry_eq]
  generalize (lg_sl ([.ref pf, .ref mi, .int (nI zs), .int (nI cl)]) ++ List.replicate (9 - (lg_sl ([.ref pf, .ref mi, .int (nI zs), .int (nI cl)])).length) Slot.unset).toArray = ls at hl ⊢
  have hl : lv_has ls 9 [(0, .ref pf), (1, .ref mi), (2, .int (nI zs)), (3, .int (nI cl))] := hl
  have htb : ∀ w ∈ tb_all, w.before ([.ref pf, .ref mi, .int (nI zs), .int (nI cl)]).toArray s = true := fun w h => hts w (List.mem_cons_of_mem _ h)
  have hf_17 := htb _ fl_Proof_17
  refine lv_iconst (v := 1) hx hb dd_Proof_setNumbers_0 (by decide) ?_
  refine lv_istore (lv' := [(4, .int (1 : Int32)), (0, .ref pf), (1, .ref mi), (2, .int (nI zs)), (3, .int (nI cl))]) hx hb dd_Proof_setNumbers_1 hl (by decide) rfl (fun ls hl => ?_)
  refine lv_iconst (v := 0) hx hb dd_Proof_setNumbers_3 (by decide) ?_
  refine lv_istore (lv' := [(5, .int (0 : Int32)), (4, .int (1 : Int32)), (0, .ref pf), (1, .ref mi), (2, .int (nI zs)), (3, .int (nI cl))]) hx hb dd_Proof_setNumbers_4 hl (by decide) rfl (fun ls hl => ?_)
  refine lv_iconst (v := 0) hx hb dd_Proof_setNumbers_6 (by decide) ?_
  refine lv_istore (lv' := [(6, .int (0 : Int32)), (5, .int (0 : Int32)), (4, .int (1 : Int32)), (0, .ref pf), (1, .ref mi), (2, .int (nI zs)), (3, .int (nI cl))]) hx hb dd_Proof_setNumbers_7 hl (by decide) rfl (fun ls hl => ?_)
  refine lv_iconst (v := 0) hx hb dd_Proof_setNumbers_9 (by decide) ?_
  refine lv_istore (lv' := [(7, .int (0 : Int32)), (6, .int (0 : Int32)), (5, .int (0 : Int32)), (4, .int (1 : Int32)), (0, .ref pf), (1, .ref mi), (2, .int (nI zs)), (3, .int (nI cl))]) hx hb dd_Proof_setNumbers_10 hl (by decide) rfl (fun ls hl => ?_)
  have J12 : ∀ (N : Nat) (j : Nat) (num1 : Nat → Int32), (7 - j) < N → ∀ (hj : j ≤ 7) (hv : num1 = nb_f vals zs cl num j), ∀ (ls : Array Slot) (H : Heap) (locs : List Loc), lv_has ls 9 [(0, .ref pf), (1, .ref mi), (2, .int (nI zs)), (3, .int (nI cl)), (4, .int (sn_s cl j)), (5, .int (sn_lo vals zs cl j)), (6, .int (sn_hi vals zs cl j)), (7, .int (nI j))] → va_P D kc_all [(pf, .inr (4, [.int (nI e9), .ref pn, .ref pr])), (pn, .inl (cI, 7, .inl num1)), (mi, .inr (1, [.ref mv])), (mv, .inl (cI, 2048, .inl vals))] H → va_D A [(pf, .inr (4, [.int (nI e9), .ref pn, .ref pr])), (pn, .inl (cI, 7, .inl num1)), (mi, .inr (1, [.ref mv])), (mv, .inl (cI, 2048, .inl vals))] → va_S A s.heap H locs → W p l e (headSpec ww_Proof_setNumbers ({ frames := 1, cells := 0, slots := 0, locals := 22 } : Room)).room s m ([.ref pf, .ref mi, .int (nI zs), .int (nI cl)]).toArray below meth c H locs 0 0 (MQ below (qq_Proof_setNumbers D cI cZ cL cQ pf pn pr mi mv e9 zs cl num vals A) ([.ref pf, .ref mi, .int (nI zs), .int (nI cl)]).toArray s 0 0 A) (F0 m 12 ls []) := by
    intro N
    induction N with
    | zero => intro j num1 hN9; exact absurd hN9 (Nat.not_lt_zero _)
    | succ N IH12 =>
      intro j num1 hN9 hj hv ls H locs hl hP hD hS
      refine lv_iload hx hb dd_Proof_setNumbers_12 (lv_at hl 7 rfl) ?_
      refine lv_bipush (v := 7) hx hb dd_Proof_setNumbers_14 (by decide) ?_
      refine lv_icmp_ge (tgt := 98) hx hb dd_Proof_setNumbers_16 (by decide) (fun h16 => ?_) (fun h16 => ?_)
      · skip
        have h16 : 7 ≤ j := (nI_leI (a := 7) (b := j) (by omega) (by omega)).mp h16
        have J107 : ∀ (num2 : Nat → Int32) (hz : num2 = nf_f vals zs cl num), ∀ (ls : Array Slot) (H : Heap) (locs : List Loc), lv_has ls 9 [(5, .int (sn_lo vals zs cl 7)), (6, .int (sn_hi vals zs cl 7))] → va_P D kc_all [(pf, .inr (4, [.int (nI e9), .ref pn, .ref pr])), (pn, .inl (cI, 7, .inl num2)), (mi, .inr (1, [.ref mv])), (mv, .inl (cI, 2048, .inl vals))] H → va_D A [(pf, .inr (4, [.int (nI e9), .ref pn, .ref pr])), (pn, .inl (cI, 7, .inl num2)), (mi, .inr (1, [.ref mv])), (mv, .inl (cI, 2048, .inl vals))] → va_S A s.heap H locs → W p l e (headSpec ww_Proof_setNumbers ({ frames := 1, cells := 0, slots := 0, locals := 22 } : Room)).room s m ([.ref pf, .ref mi, .int (nI zs), .int (nI cl)]).toArray below meth c H locs 0 0 (MQ below (qq_Proof_setNumbers D cI cZ cL cQ pf pn pr mi mv e9 zs cl num vals A) ([.ref pf, .ref mi, .int (nI zs), .int (nI cl)]).toArray s 0 0 A) (F0 m 107 ls []) := by
          intro num2 hz ls H locs hl hP hD hS
          refine lv_iload hx hb dd_Proof_setNumbers_107 (lv_at hl 0 rfl) ?_
          refine lv_if_ge (tgt := 125) hx hb dd_Proof_setNumbers_109 (by decide) (fun h109 => ?_) (fun h109 => ?_)
          · skip
            refine lv_iload hx hb dd_Proof_setNumbers_125 (lv_at hl 1 rfl) ?_
            refine lv_if_le (tgt := 134) hx hb dd_Proof_setNumbers_127 (by decide) (fun h127 => ?_) (fun h127 => ?_)
            · skip
              refine lv_iconst (v := 0) hx hb dd_Proof_setNumbers_134 (by decide) ?_
              exact W.zret (v := (0 : Int32)) hx hb hr (rfl) (fun t ht hW => ⟨⟨(0 : Int32), num2, rfl, ⟨by first | exact sk_a h109 h127 | exact sk_b h109 h127 | exact sk_c h109 h114 | exact sk_d h109 h114, hz⟩, by rw [ht]; exact hP, va_K.moved hW.alike hK, hD⟩, hS.F ht⟩) hS.2.2 dd_Proof_setNumbers_135
            · skip
              refine lv_iconst (v := 1) hx hb dd_Proof_setNumbers_130 (by decide) ?_
              refine lv_goto (tgt := 135) hx hb dd_Proof_setNumbers_131 (by decide) ?_
              exact W.zret (v := (1 : Int32)) hx hb hr (rfl) (fun t ht hW => ⟨⟨(1 : Int32), num2, rfl, ⟨by first | exact sk_a h109 h127 | exact sk_b h109 h127 | exact sk_c h109 h114 | exact sk_d h109 h114, hz⟩, by rw [ht]; exact hP, va_K.moved hW.alike hK, hD⟩, hS.F ht⟩) hS.2.2 dd_Proof_setNumbers_135
          · skip
            refine lv_iload hx hb dd_Proof_setNumbers_112 (lv_at hl 1 rfl) ?_
            refine lv_if_ne (tgt := 121) hx hb dd_Proof_setNumbers_114 (by decide) (fun h114 => ?_) (fun h114 => ?_)
            · skip
              refine lv_iconst (v := 0) hx hb dd_Proof_setNumbers_121 (by decide) ?_
              refine lv_goto (tgt := 135) hx hb dd_Proof_setNumbers_122 (by decide) ?_
              exact W.zret (v := (0 : Int32)) hx hb hr (rfl) (fun t ht hW => ⟨⟨(0 : Int32), num2, rfl, ⟨by first | exact sk_a h109 h127 | exact sk_b h109 h127 | exact sk_c h109 h114 | exact sk_d h109 h114, hz⟩, by rw [ht]; exact hP, va_K.moved hW.alike hK, hD⟩, hS.F ht⟩) hS.2.2 dd_Proof_setNumbers_135
            · skip
              refine lv_iconst (v := 1) hx hb dd_Proof_setNumbers_117 (by decide) ?_
              refine lv_goto (tgt := 135) hx hb dd_Proof_setNumbers_118 (by decide) ?_
              exact W.zret (v := (1 : Int32)) hx hb hr (rfl) (fun t ht hW => ⟨⟨(1 : Int32), num2, rfl, ⟨by first | exact sk_a h109 h127 | exact sk_b h109 h127 | exact sk_c h109 h114 | exact sk_d h109 h114, hz⟩, by rw [ht]; exact hP, va_K.moved hW.alike hK, hD⟩, hS.F ht⟩) hS.2.2 dd_Proof_setNumbers_135
        have h7 : j = 7 := by omega
        subst h7
        have hvn := hv
        refine lv_iload hx hb dd_Proof_setNumbers_98 (lv_at hl 6 rfl) ?_
        refine lv_if_ne (tgt := 107) hx hb dd_Proof_setNumbers_100 (by decide) (fun h100 => ?_) (fun h100 => ?_)
        · skip
          exact J107 num1 (by unfold nf_f; rw [if_neg h100, ← hvn]) ls H locs (lv_sub hl [5, 6] rfl) hP hD hS
        · skip
          refine lv_aload_n hx hb dd_Proof_setNumbers_103 rfl (lv_at hl 0 rfl) ?_
          refine mm_v (wc := [(pf, .inr (4, [.int (nI e9), .ref pn, .ref pr])), (pn, .inl (cI, 7, .inl num1))]) (wr := [(mi, .inr (1, [.ref mv])), (mv, .inl (cI, 2048, .inl vals))]) (va_runV (As := []) (rest := []) (C := RR_Proof) ⟨hx, hb, hml, hown, hts⟩ (cc_Proof_turnNumbers l D cI cZ cL cQ _ pf pn pr e9 num1 ) (mm_cwV 0 hts ml_Proof_62 im_Proof_turnNumbers se_Proof_turnNumbers ic_Proof cd_Proof_turnNumbers rfl rfl (by decide +kernel) ⟨Nat.le_of_ble_eq_true rfl, Nat.le_of_ble_eq_true rfl⟩) (mm_preV hK hP hD [0, 1] (by decide) rfl 0 rfl rfl) rfl rfl hl.1 rfl (lv_room (Nat.le_of_ble_eq_true rfl)) dd_Proof_setNumbers_104 ⟨Nat.zero_le _, Nat.zero_le _⟩) hP hD hS hA [0, 1] [2, 3] rfl rfl (by decide) (by decide) (fun zu2 H locs p104 hP hD hS => ?_)
          have hP : va_P D kc_all [(mi, .inr (1, [.ref mv])), (mv, .inl (cI, 2048, .inl vals)), (pf, .inr (4, [.int (nI e9), .ref pn, .ref pr])), (pn, .inl (cI, 7, .inl zu2))] H := hP
          have hD : va_D A [(mi, .inr (1, [.ref mv])), (mv, .inl (cI, 2048, .inl vals)), (pf, .inr (4, [.int (nI e9), .ref pn, .ref pr])), (pn, .inl (cI, 7, .inl zu2))] := hD
          have hP : va_P D kc_all [(pf, .inr (4, [.int (nI e9), .ref pn, .ref pr])), (pn, .inl (cI, 7, .inl zu2)), (mi, .inr (1, [.ref mv])), (mv, .inl (cI, 2048, .inl vals))] H := hP.sub [2, 3, 0, 1] rfl
          have hD : va_D A [(pf, .inr (4, [.int (nI e9), .ref pn, .ref pr])), (pn, .inl (cI, 7, .inl zu2)), (mi, .inr (1, [.ref mv])), (mv, .inl (cI, 2048, .inl vals))] := hD.sub [2, 3, 0, 1] (by decide) rfl
          have p104 : zu2 = tn_f num1 := p104
          exact J107 zu2 (by unfold nf_f; rw [if_pos h100, ← hvn]; exact p104) ls H locs (lv_sub hl [5, 6] rfl) hP hD hS
      · skip
        have h16 : ¬ (7 ≤ j) := fun q9 => h16 ((nI_leI (a := 7) (b := j) (by omega) (by omega)).mpr q9)
        have J52 : ∀ (ls : Array Slot) (H : Heap) (locs : List Loc), lv_has ls 9 [(0, .ref pf), (1, .ref mi), (2, .int (nI zs)), (3, .int (nI cl)), (4, .int (sn_s cl (j + 1))), (5, .int (sn_lo vals zs cl j)), (6, .int (sn_hi vals zs cl j)), (7, .int (nI j)), (8, .int (sn_n vals zs cl j))] → va_P D kc_all [(pf, .inr (4, [.int (nI e9), .ref pn, .ref pr])), (pn, .inl (cI, 7, .inl num1)), (mi, .inr (1, [.ref mv])), (mv, .inl (cI, 2048, .inl vals))] H → va_D A [(pf, .inr (4, [.int (nI e9), .ref pn, .ref pr])), (pn, .inl (cI, 7, .inl num1)), (mi, .inr (1, [.ref mv])), (mv, .inl (cI, 2048, .inl vals))] → va_S A s.heap H locs → W p l e (headSpec ww_Proof_setNumbers ({ frames := 1, cells := 0, slots := 0, locals := 22 } : Room)).room s m ([.ref pf, .ref mi, .int (nI zs), .int (nI cl)]).toArray below meth c H locs 0 0 (MQ below (qq_Proof_setNumbers D cI cZ cL cQ pf pn pr mi mv e9 zs cl num vals A) ([.ref pf, .ref mi, .int (nI zs), .int (nI cl)]).toArray s 0 0 A) (F0 m 52 ls []) := by
          intro   ls H locs hl hP hD hS
          refine lv_aload_n hx hb dd_Proof_setNumbers_52 rfl (lv_at hl 0 rfl) ?_
          refine va_get (D := D) (ci := 4) (v := .ref pn) (C := RR_Proof) (T := FF_Proof) (N := 3) hx hb htb hi_Proof hown hK hP 0 rfl rfl 1 (by decide) hf_17 (fun _ h9 => h9) rfl dd_Proof_setNumbers_53 ?_
          refine lv_iload hx hb dd_Proof_setNumbers_56 (lv_at hl 7 rfl) ?_
          refine lv_bipush (v := 6) hx hb dd_Proof_setNumbers_58 (by decide) ?_
          refine lv_icmp_ne (tgt := 67) hx hb dd_Proof_setNumbers_60 (by decide) (fun h60 => ?_) (fun h60 => ?_)
          · skip
            have h60 : ¬ (j = 6) := fun q9 => h60 ((nI_eq (a := j) (b := 6) (by omega) (by omega)).mpr q9)
            refine lv_iload hx hb dd_Proof_setNumbers_67 (lv_at hl 7 rfl) ?_
            refine lv_iconst (v := 1) hx hb dd_Proof_setNumbers_69 (by decide) ?_
            refine lv_iadd hx hb dd_Proof_setNumbers_70 ?_
            refine mm_topi (y := nI (j + 1)) (nI_add j 1) ?_
            refine lv_iload hx hb dd_Proof_setNumbers_71 (lv_at hl 8 rfl) ?_
            refine mm_iast hx hb hK hP hD hS 1 0 rfl rfl (j + 1) (rfl) (by omega) (by first | decide | omega) dd_Proof_setNumbers_73 (fun H locs hP hD hS => ?_)
            have hP : va_P D kc_all [(pf, .inr (4, [.int (nI e9), .ref pn, .ref pr])), (pn, .inl (cI, 7, .inl (upd num1 (j + 1) (sn_n vals zs cl j)))), (mi, .inr (1, [.ref mv])), (mv, .inl (cI, 2048, .inl vals))] H := hP
            have hD : va_D A [(pf, .inr (4, [.int (nI e9), .ref pn, .ref pr])), (pn, .inl (cI, 7, .inl (upd num1 (j + 1) (sn_n vals zs cl j)))), (mi, .inr (1, [.ref mv])), (mv, .inl (cI, 2048, .inl vals))] := hD
            refine lv_iload hx hb dd_Proof_setNumbers_74 (lv_at hl 5 rfl) ?_
            refine lv_iload hx hb dd_Proof_setNumbers_76 (lv_at hl 8 rfl) ?_
            refine mm_i (wc := []) (wr := [(pf, .inr (4, [.int (nI e9), .ref pn, .ref pr])), (pn, .inl (cI, 7, .inl (upd num1 (j + 1) (sn_n vals zs cl j)))), (mi, .inr (1, [.ref mv])), (mv, .inl (cI, 2048, .inl vals))]) (va_runS (As := [.int (sn_lo vals zs cl j), .int (sn_n vals zs cl j)]) (rest := []) ⟨hx, hb, hml, hown, hts⟩ (cc_Math_min l D cI cZ cL cQ _ (sn_lo vals zs cl j) (sn_n vals zs cl j) ) (mm_cwS 2 hts ml_Proof_54 sm_Math_min ic_Math cd_Math_min rfl rfl (by decide +kernel) ⟨Nat.le_of_ble_eq_true rfl, Nat.le_of_ble_eq_true rfl⟩) (mm_preS hK hP hD [] (by decide) rfl) rfl rfl hl.1 rfl (lv_room (Nat.le_of_ble_eq_true rfl)) dd_Proof_setNumbers_78 ⟨Nat.zero_le _, Nat.zero_le _⟩) hP hD hS hA [] [0, 1, 2, 3] rfl rfl (by decide) (by decide) (fun zr3 zu4 H locs p78 hP hD hS => ?_)
            have hP : va_P D kc_all [(pf, .inr (4, [.int (nI e9), .ref pn, .ref pr])), (pn, .inl (cI, 7, .inl (upd num1 (j + 1) (sn_n vals zs cl j)))), (mi, .inr (1, [.ref mv])), (mv, .inl (cI, 2048, .inl vals))] H := hP
            have hD : va_D A [(pf, .inr (4, [.int (nI e9), .ref pn, .ref pr])), (pn, .inl (cI, 7, .inl (upd num1 (j + 1) (sn_n vals zs cl j)))), (mi, .inr (1, [.ref mv])), (mv, .inl (cI, 2048, .inl vals))] := hD
            have p78 : zr3 = if (sn_n vals zs cl j) < (sn_lo vals zs cl j) then (sn_n vals zs cl j) else (sn_lo vals zs cl j) := p78
            refine mm_topi (y := sn_lo vals zs cl (j + 1)) (p78) ?_
            refine lv_istore (lv' := [(5, .int (sn_lo vals zs cl (j + 1))), (0, .ref pf), (1, .ref mi), (2, .int (nI zs)), (3, .int (nI cl)), (4, .int (sn_s cl (j + 1))), (6, .int (sn_hi vals zs cl j)), (7, .int (nI j)), (8, .int (sn_n vals zs cl j))]) hx hb dd_Proof_setNumbers_81 hl (by decide) rfl (fun ls hl => ?_)
            refine lv_iload hx hb dd_Proof_setNumbers_83 (lv_at hl 6 rfl) ?_
            refine lv_iload hx hb dd_Proof_setNumbers_85 (lv_at hl 8 rfl) ?_
            refine mm_i (wc := []) (wr := [(pf, .inr (4, [.int (nI e9), .ref pn, .ref pr])), (pn, .inl (cI, 7, .inl (upd num1 (j + 1) (sn_n vals zs cl j)))), (mi, .inr (1, [.ref mv])), (mv, .inl (cI, 2048, .inl vals))]) (va_runS (As := [.int (sn_hi vals zs cl j), .int (sn_n vals zs cl j)]) (rest := []) ⟨hx, hb, hml, hown, hts⟩ (cc_Math_max l D cI cZ cL cQ _ (sn_hi vals zs cl j) (sn_n vals zs cl j) ) (mm_cwS 2 hts ml_Proof_59 sm_Math_max ic_Math cd_Math_max rfl rfl (by decide +kernel) ⟨Nat.le_of_ble_eq_true rfl, Nat.le_of_ble_eq_true rfl⟩) (mm_preS hK hP hD [] (by decide) rfl) rfl rfl hl.1 rfl (lv_room (Nat.le_of_ble_eq_true rfl)) dd_Proof_setNumbers_87 ⟨Nat.zero_le _, Nat.zero_le _⟩) hP hD hS hA [] [0, 1, 2, 3] rfl rfl (by decide) (by decide) (fun zr5 zu6 H locs p87 hP hD hS => ?_)
            have hP : va_P D kc_all [(pf, .inr (4, [.int (nI e9), .ref pn, .ref pr])), (pn, .inl (cI, 7, .inl (upd num1 (j + 1) (sn_n vals zs cl j)))), (mi, .inr (1, [.ref mv])), (mv, .inl (cI, 2048, .inl vals))] H := hP
            have hD : va_D A [(pf, .inr (4, [.int (nI e9), .ref pn, .ref pr])), (pn, .inl (cI, 7, .inl (upd num1 (j + 1) (sn_n vals zs cl j)))), (mi, .inr (1, [.ref mv])), (mv, .inl (cI, 2048, .inl vals))] := hD
            have p87 : zr5 = if (sn_hi vals zs cl j) < (sn_n vals zs cl j) then (sn_n vals zs cl j) else (sn_hi vals zs cl j) := p87
            refine mm_topi (y := sn_hi vals zs cl (j + 1)) (p87) ?_
            refine lv_istore (lv' := [(6, .int (sn_hi vals zs cl (j + 1))), (5, .int (sn_lo vals zs cl (j + 1))), (0, .ref pf), (1, .ref mi), (2, .int (nI zs)), (3, .int (nI cl)), (4, .int (sn_s cl (j + 1))), (7, .int (nI j)), (8, .int (sn_n vals zs cl j))]) hx hb dd_Proof_setNumbers_90 hl (by decide) rfl (fun ls hl => ?_)
            refine lv_iinc (k := 7) (v := nI (j + 1)) (lv' := [(7, .int (nI (j + 1))), (6, .int (sn_hi vals zs cl (j + 1))), (5, .int (sn_lo vals zs cl (j + 1))), (0, .ref pf), (1, .ref mi), (2, .int (nI zs)), (3, .int (nI cl)), (4, .int (sn_s cl (j + 1))), (8, .int (sn_n vals zs cl j))]) hx hb dd_Proof_setNumbers_92 hl rfl (nI_1 _) (by decide) rfl (fun ls hl => ?_)
            refine lv_goto (tgt := 12) hx hb dd_Proof_setNumbers_95 (by decide) ?_
            exact IH12 (j + 1) (upd num1 (j + 1) (sn_n vals zs cl j)) (by omega) (by omega) (by rw [hv]; first | (show _ = upd _ (if j = 6 then 0 else j + 1) _; rw [if_pos h60]) | (show _ = upd _ (if j = 6 then 0 else j + 1) _; rw [if_neg h60])) ls H locs (lv_sub hl [3, 4, 5, 6, 7, 2, 1, 0] rfl) hP hD hS
          · skip
            have h60 : j = 6 := (nI_eq (a := j) (b := 6) (by omega) (by omega)).mp h60
            refine lv_iconst (v := 0) hx hb dd_Proof_setNumbers_63 (by decide) ?_
            refine lv_goto (tgt := 71) hx hb dd_Proof_setNumbers_64 (by decide) ?_
            refine lv_iload hx hb dd_Proof_setNumbers_71 (lv_at hl 8 rfl) ?_
            refine mm_iast hx hb hK hP hD hS 1 0 rfl rfl (0) (rfl) (by omega) (by first | decide | omega) dd_Proof_setNumbers_73 (fun H locs hP hD hS => ?_)
            have hP : va_P D kc_all [(pf, .inr (4, [.int (nI e9), .ref pn, .ref pr])), (pn, .inl (cI, 7, .inl (upd num1 0 (sn_n vals zs cl j)))), (mi, .inr (1, [.ref mv])), (mv, .inl (cI, 2048, .inl vals))] H := hP
            have hD : va_D A [(pf, .inr (4, [.int (nI e9), .ref pn, .ref pr])), (pn, .inl (cI, 7, .inl (upd num1 0 (sn_n vals zs cl j)))), (mi, .inr (1, [.ref mv])), (mv, .inl (cI, 2048, .inl vals))] := hD
            refine lv_iload hx hb dd_Proof_setNumbers_74 (lv_at hl 5 rfl) ?_
            refine lv_iload hx hb dd_Proof_setNumbers_76 (lv_at hl 8 rfl) ?_
            refine mm_i (wc := []) (wr := [(pf, .inr (4, [.int (nI e9), .ref pn, .ref pr])), (pn, .inl (cI, 7, .inl (upd num1 0 (sn_n vals zs cl j)))), (mi, .inr (1, [.ref mv])), (mv, .inl (cI, 2048, .inl vals))]) (va_runS (As := [.int (sn_lo vals zs cl j), .int (sn_n vals zs cl j)]) (rest := []) ⟨hx, hb, hml, hown, hts⟩ (cc_Math_min l D cI cZ cL cQ _ (sn_lo vals zs cl j) (sn_n vals zs cl j) ) (mm_cwS 2 hts ml_Proof_54 sm_Math_min ic_Math cd_Math_min rfl rfl (by decide +kernel) ⟨Nat.le_of_ble_eq_true rfl, Nat.le_of_ble_eq_true rfl⟩) (mm_preS hK hP hD [] (by decide) rfl) rfl rfl hl.1 rfl (lv_room (Nat.le_of_ble_eq_true rfl)) dd_Proof_setNumbers_78 ⟨Nat.zero_le _, Nat.zero_le _⟩) hP hD hS hA [] [0, 1, 2, 3] rfl rfl (by decide) (by decide) (fun zr7 zu8 H locs p78 hP hD hS => ?_)
            have hP : va_P D kc_all [(pf, .inr (4, [.int (nI e9), .ref pn, .ref pr])), (pn, .inl (cI, 7, .inl (upd num1 0 (sn_n vals zs cl j)))), (mi, .inr (1, [.ref mv])), (mv, .inl (cI, 2048, .inl vals))] H := hP
            have hD : va_D A [(pf, .inr (4, [.int (nI e9), .ref pn, .ref pr])), (pn, .inl (cI, 7, .inl (upd num1 0 (sn_n vals zs cl j)))), (mi, .inr (1, [.ref mv])), (mv, .inl (cI, 2048, .inl vals))] := hD
            have p78 : zr7 = if (sn_n vals zs cl j) < (sn_lo vals zs cl j) then (sn_n vals zs cl j) else (sn_lo vals zs cl j) := p78
            refine mm_topi (y := sn_lo vals zs cl (j + 1)) (p78) ?_
            refine lv_istore (lv' := [(5, .int (sn_lo vals zs cl (j + 1))), (0, .ref pf), (1, .ref mi), (2, .int (nI zs)), (3, .int (nI cl)), (4, .int (sn_s cl (j + 1))), (6, .int (sn_hi vals zs cl j)), (7, .int (nI j)), (8, .int (sn_n vals zs cl j))]) hx hb dd_Proof_setNumbers_81 hl (by decide) rfl (fun ls hl => ?_)
            refine lv_iload hx hb dd_Proof_setNumbers_83 (lv_at hl 6 rfl) ?_
            refine lv_iload hx hb dd_Proof_setNumbers_85 (lv_at hl 8 rfl) ?_
            refine mm_i (wc := []) (wr := [(pf, .inr (4, [.int (nI e9), .ref pn, .ref pr])), (pn, .inl (cI, 7, .inl (upd num1 0 (sn_n vals zs cl j)))), (mi, .inr (1, [.ref mv])), (mv, .inl (cI, 2048, .inl vals))]) (va_runS (As := [.int (sn_hi vals zs cl j), .int (sn_n vals zs cl j)]) (rest := []) ⟨hx, hb, hml, hown, hts⟩ (cc_Math_max l D cI cZ cL cQ _ (sn_hi vals zs cl j) (sn_n vals zs cl j) ) (mm_cwS 2 hts ml_Proof_59 sm_Math_max ic_Math cd_Math_max rfl rfl (by decide +kernel) ⟨Nat.le_of_ble_eq_true rfl, Nat.le_of_ble_eq_true rfl⟩) (mm_preS hK hP hD [] (by decide) rfl) rfl rfl hl.1 rfl (lv_room (Nat.le_of_ble_eq_true rfl)) dd_Proof_setNumbers_87 ⟨Nat.zero_le _, Nat.zero_le _⟩) hP hD hS hA [] [0, 1, 2, 3] rfl rfl (by decide) (by decide) (fun zr9 zu10 H locs p87 hP hD hS => ?_)
            have hP : va_P D kc_all [(pf, .inr (4, [.int (nI e9), .ref pn, .ref pr])), (pn, .inl (cI, 7, .inl (upd num1 0 (sn_n vals zs cl j)))), (mi, .inr (1, [.ref mv])), (mv, .inl (cI, 2048, .inl vals))] H := hP
            have hD : va_D A [(pf, .inr (4, [.int (nI e9), .ref pn, .ref pr])), (pn, .inl (cI, 7, .inl (upd num1 0 (sn_n vals zs cl j)))), (mi, .inr (1, [.ref mv])), (mv, .inl (cI, 2048, .inl vals))] := hD
            have p87 : zr9 = if (sn_hi vals zs cl j) < (sn_n vals zs cl j) then (sn_n vals zs cl j) else (sn_hi vals zs cl j) := p87
            refine mm_topi (y := sn_hi vals zs cl (j + 1)) (p87) ?_
            refine lv_istore (lv' := [(6, .int (sn_hi vals zs cl (j + 1))), (5, .int (sn_lo vals zs cl (j + 1))), (0, .ref pf), (1, .ref mi), (2, .int (nI zs)), (3, .int (nI cl)), (4, .int (sn_s cl (j + 1))), (7, .int (nI j)), (8, .int (sn_n vals zs cl j))]) hx hb dd_Proof_setNumbers_90 hl (by decide) rfl (fun ls hl => ?_)
            refine lv_iinc (k := 7) (v := nI (j + 1)) (lv' := [(7, .int (nI (j + 1))), (6, .int (sn_hi vals zs cl (j + 1))), (5, .int (sn_lo vals zs cl (j + 1))), (0, .ref pf), (1, .ref mi), (2, .int (nI zs)), (3, .int (nI cl)), (4, .int (sn_s cl (j + 1))), (8, .int (sn_n vals zs cl j))]) hx hb dd_Proof_setNumbers_92 hl rfl (nI_1 _) (by decide) rfl (fun ls hl => ?_)
            refine lv_goto (tgt := 12) hx hb dd_Proof_setNumbers_95 (by decide) ?_
            exact IH12 (j + 1) (upd num1 0 (sn_n vals zs cl j)) (by omega) (by omega) (by rw [hv]; first | (show _ = upd _ (if j = 6 then 0 else j + 1) _; rw [if_pos h60]) | (show _ = upd _ (if j = 6 then 0 else j + 1) _; rw [if_neg h60])) ls H locs (lv_sub hl [3, 4, 5, 6, 7, 2, 1, 0] rfl) hP hD hS
        refine lv_iconst (v := 0) hx hb dd_Proof_setNumbers_19 (by decide) ?_
        refine lv_istore (lv' := [(8, .int (0 : Int32)), (0, .ref pf), (1, .ref mi), (2, .int (nI zs)), (3, .int (nI cl)), (4, .int (sn_s cl j)), (5, .int (sn_lo vals zs cl j)), (6, .int (sn_hi vals zs cl j)), (7, .int (nI j))]) hx hb dd_Proof_setNumbers_20 hl (by decide) rfl (fun ls hl => ?_)
        refine lv_iload_n hx hb dd_Proof_setNumbers_22 rfl (lv_at hl 4 rfl) ?_
        refine lv_iload hx hb dd_Proof_setNumbers_23 (lv_at hl 8 rfl) ?_
        refine lv_ishr hx hb dd_Proof_setNumbers_25 ?_
        refine lv_iconst (v := 1) hx hb dd_Proof_setNumbers_26 (by decide) ?_
        refine lv_iand hx hb dd_Proof_setNumbers_27 ?_
        refine mm_topi (y := nI (cl / 2 ^ j % 2)) (bt_bit j (by omega) cl hcl) ?_
        refine lv_if_eq (tgt := 52) hx hb dd_Proof_setNumbers_28 (by decide) (fun h28 => ?_) (fun h28 => ?_)
        · skip
          have h28 : cl / 2 ^ j % 2 = 0 := (nI_eq (a := cl / 2 ^ j % 2) (b := 0) (by omega) (by omega)).mp h28
          rw [show sn_s cl j = sn_s cl (j + 1) from (if_pos h28).symm, show (0 : Int32) = sn_n vals zs cl j from (if_pos h28).symm] at hl
          exact J52   ls H locs (lv_sub hl [1, 2, 3, 4, 5, 6, 7, 8, 0] rfl) hP hD hS
        · skip
          have h28 : ¬ (cl / 2 ^ j % 2 = 0) := fun q9 => h28 ((nI_eq (a := cl / 2 ^ j % 2) (b := 0) (by omega) (by omega)).mpr q9)
          refine lv_iload hx hb dd_Proof_setNumbers_31 (lv_at hl 5 rfl) ?_
          refine lv_aload_n hx hb dd_Proof_setNumbers_33 rfl (lv_at hl 2 rfl) ?_
          refine lv_iload_n hx hb dd_Proof_setNumbers_34 rfl (lv_at hl 3 rfl) ?_
          refine lv_iload_n hx hb dd_Proof_setNumbers_35 rfl (lv_at hl 4 rfl) ?_
          refine lv_iconst (v := 1) hx hb dd_Proof_setNumbers_36 (by decide) ?_
          refine lv_iload hx hb dd_Proof_setNumbers_37 (lv_at hl 8 rfl) ?_
          refine lv_ishl hx hb dd_Proof_setNumbers_39 ?_
          refine mm_topi (y := nI (2 ^ j)) (bt_shl j (by omega)) ?_
          refine lv_ixor hx hb dd_Proof_setNumbers_40 ?_
          refine mm_topi (y := nI (cl ^^^ 2 ^ j)) (bt_xor j (by omega) cl hcl) ?_
          refine mm_i (wc := [(mi, .inr (1, [.ref mv])), (mv, .inl (cI, 2048, .inl vals))]) (wr := [(pf, .inr (4, [.int (nI e9), .ref pn, .ref pr])), (pn, .inl (cI, 7, .inl num1))]) (va_runV (As := [.int (nI zs), .int (nI (cl ^^^ 2 ^ j))]) (rest := [.int (sn_s cl j)]) (C := RR_Minors) ⟨hx, hb, hml, hown, hts⟩ (cc_Minors_of l D cI cZ cL cQ _ mi mv zs (cl ^^^ 2 ^ j) vals (by omega) (bt_xlt7 j (by omega) cl hcl)) (mm_cwV 2 hts ml_Proof_50 im_Minors_of se_Minors_of ic_Minors cd_Minors_of rfl rfl (by decide +kernel) ⟨Nat.le_of_ble_eq_true rfl, Nat.le_of_ble_eq_true rfl⟩) (mm_preV hK hP hD [2, 3] (by decide) rfl 2 rfl rfl) rfl rfl hl.1 rfl (lv_room (Nat.le_of_ble_eq_true rfl)) dd_Proof_setNumbers_41 ⟨Nat.zero_le _, Nat.zero_le _⟩) hP hD hS hA [2, 3] [0, 1] rfl rfl (by decide) (by decide) (fun zr11 zu12 H locs p41 hP hD hS => ?_)
          have hP : va_P D kc_all [(pf, .inr (4, [.int (nI e9), .ref pn, .ref pr])), (pn, .inl (cI, 7, .inl num1)), (mi, .inr (1, [.ref mv])), (mv, .inl (cI, 2048, .inl vals))] H := hP
          have hD : va_D A [(pf, .inr (4, [.int (nI e9), .ref pn, .ref pr])), (pn, .inl (cI, 7, .inl num1)), (mi, .inr (1, [.ref mv])), (mv, .inl (cI, 2048, .inl vals))] := hD
          have p41 : zr11 = vals (zs * 128 + (cl ^^^ 2 ^ j)) := p41
          refine mm_topi (y := vals (zs * 128 + (cl ^^^ 2 ^ j))) (p41) ?_
          refine lv_imul hx hb dd_Proof_setNumbers_44 ?_
          refine mm_topi (y := sn_n vals zs cl j) ((if_neg h28).symm) ?_
          refine lv_istore (lv' := [(8, .int (sn_n vals zs cl j)), (0, .ref pf), (1, .ref mi), (2, .int (nI zs)), (3, .int (nI cl)), (4, .int (sn_s cl j)), (5, .int (sn_lo vals zs cl j)), (6, .int (sn_hi vals zs cl j)), (7, .int (nI j))]) hx hb dd_Proof_setNumbers_45 hl (by decide) rfl (fun ls hl => ?_)
          refine lv_iload hx hb dd_Proof_setNumbers_47 (lv_at hl 5 rfl) ?_
          refine lv_ineg hx hb dd_Proof_setNumbers_49 ?_
          refine mm_topi (y := sn_s cl (j + 1)) ((if_neg h28).symm) ?_
          refine lv_istore (lv' := [(4, .int (sn_s cl (j + 1))), (8, .int (sn_n vals zs cl j)), (0, .ref pf), (1, .ref mi), (2, .int (nI zs)), (3, .int (nI cl)), (5, .int (sn_lo vals zs cl j)), (6, .int (sn_hi vals zs cl j)), (7, .int (nI j))]) hx hb dd_Proof_setNumbers_50 hl (by decide) rfl (fun ls hl => ?_)
          exact J52   ls H locs (lv_sub hl [2, 3, 4, 5, 0, 6, 7, 8, 1] rfl) hP hD hS
  exact J12 _ 0 num (Nat.lt_succ_self _) (by omega) (rfl) ls _ _ (lv_sub hl [4, 5, 6, 7, 3, 2, 1, 0] rfl) hP hD hS
abbrev qq_Proof_hasEnd (D : va_G) (cI cZ cL cQ : ClassId) (pf : Nat) (pn : Nat) (pr : Nat) (xb : Nat) (xl : Nat) (xm : Nat) (e9 : Nat) (bn : Nat) (bp : Int64) (bq : Int64) (R : Nat → Int64) (bl : Nat → Int32) (bm : Nat → Int32) (A : Nat → Prop) : Array Value → State → Outcome → State → Prop := va_Qi (fun (r : Int32) (u : Unit) => tl_ok (he_ok R e9 bn bp bq bl bm) r) (fun (u : Unit) t => mm_B D kc_all [(cI, .int), (cZ, .boolean), (cL, .long), (cQ, .array .int)] A [(pf, .inr (4, [.int (nI e9), .ref pn, .ref pr])), (pr, .inl (cL, 2772, .inr (.inl R))), (xb, .inr (5, [.ref xl, .ref xm, .int (nI bn), .long bp, .long bq])), (xl, .inl (cI, 4, .inl bl)), (xm, .inl (cI, 4, .inl bm))] t) A
set_option maxHeartbeats 4000000 in
set_option maxRecDepth 100000 in
theorem cc_Proof_hasEnd (l : Launch) (D : va_G) (cI cZ cL cQ : ClassId) (sz : Nat) (pf : Nat) (pn : Nat) (pr : Nat) (xb : Nat) (xl : Nat) (xm : Nat) (e9 : Nat) (bn : Nat) (bp : Int64) (bq : Int64) (R : Nat → Int64) (bl : Nat → Int32) (bm : Nat → Int32) (hn : bn ≤ 4) (he : e9 ≤ 462) : Met l yy_Proof_hasEnd ww_Proof_hasEnd ({ frames := 1, cells := 0, slots := 0, locals := 29 } : Room) (mm_Pc D kc_all [(cI, .int), (cZ, .boolean), (cL, .long), (cQ, .array .int)] sz [(pf, .inr (4, [.int (nI e9), .ref pn, .ref pr])), (pr, .inl (cL, 2772, .inr (.inl R))), (xb, .inr (5, [.ref xl, .ref xm, .int (nI bn), .long bp, .long bq])), (xl, .inl (cI, 4, .inl bl)), (xm, .inl (cI, 4, .inl bm))] [.ref pf, .ref xb]) (qq_Proof_hasEnd D cI cZ cL cQ pf pn pr xb xl xm e9 bn bp bq R bl bm (va_A [(pf, .inr (4, [.int (nI e9), .ref pn, .ref pr])), (pr, .inl (cL, 2772, .inr (.inl R))), (xb, .inr (5, [.ref xl, .ref xm, .int (nI bn), .long bp, .long bq])), (xl, .inl (cI, 4, .inl bl)), (xm, .inl (cI, 4, .inl bm))] sz)) 0 0 (va_A [(pf, .inr (4, [.int (nI e9), .ref pn, .ref pr])), (pr, .inl (cL, 2772, .inr (.inl R))), (xb, .inr (5, [.ref xl, .ref xm, .int (nI bn), .long bp, .long bq])), (xl, .inl (cI, 4, .inl bl)), (xm, .inl (cI, 4, .inl bm))] sz) := by
  refine Met.ofW (cc := bb_Proof_hasEnd) (maxL := 3) (ret := (some .boolean)) (by decide) rfl ?_
  intro p e s m args below meth c s₁ B hml hv
  obtain ⟨rfl, hsz, hP, hK, hD0⟩ := hv
  have hx := B.exec
  have hb := B.bytes
  have hr := B.returns
  have hts := atoms_spec (ws := ww_Proof_hasEnd) B.pre
  have hown : s.vm.findClass RR_Proof = some m.cls := findClass_of_methodNamed B.named
  have hlocks := B.notSynchronized
  subst hsz
  have hD := hD0.self (sz := s.heap.size)
  generalize hAe : va_A [(pf, .inr (4, [.int (nI e9), .ref pn, .ref pr])), (pr, .inl (cL, 2772, .inr (.inl R))), (xb, .inr (5, [.ref xl, .ref xm, .int (nI bn), .long bp, .long bq])), (xl, .inl (cI, 4, .inl bl)), (xm, .inl (cI, 4, .inl bm))] s.heap.size = A at hD ⊢
  have hA : ∀ q : Nat, s.heap.size ≤ q → A q := fun q h => by rw [← hAe]; exact Or.inr h
  have hS : va_S A s.heap s.heap [] := va_S.rf
  have hP : va_P D kc_all [(pf, .inr (4, [.int (nI e9), .ref pn, .ref pr])), (pr, .inl (cL, 2772, .inr (.inl R))), (xb, .inr (5, [.ref xl, .ref xm, .int (nI bn), .long bp, .long bq])), (xl, .inl (cI, 4, .inl bl)), (xm, .inl (cI, 4, .inl bm))] s.heap := hP
  have hl := lv_entry ([.ref pf, .ref xb]) (n := 3) (Nat.le_of_ble_eq_true rfl)
  rw [lg_entry_eq]
  generalize (lg_sl ([.ref pf, .ref xb]) ++ List.replicate (3 - (lg_sl ([.ref pf, .ref xb])).length) Slot.unset).toArray = ls at hl ⊢
  have hl : lv_has ls 3 [(0, .ref pf), (1, .ref xb)] := hl
  have htb : ∀ w ∈ tb_all, w.before ([.ref pf, .ref xb]).toArray s = true := fun w h => hts w (List.mem_cons_of_mem _ h)
  have hf_11 := htb _ fl_Proof_11
  have hf_23 := htb _ fl_Proof_23
  refine lv_iconst (v := 0) hx hb dd_Proof_hasEnd_0 (by decide) ?_
  refine lv_istore_n (lv' := [(2, .int (0 : Int32)), (0, .ref pf), (1, .ref xb)]) hx hb dd_Proof_hasEnd_1 rfl hl (by decide) rfl (fun ls hl => ?_)
  have J2 : ∀ (N : Nat) (i : Nat), (e9 - i) < N → ∀ (hi : i ≤ e9) (hv : ∀ i9, i9 < i → ¬ ie_ok R (i9 * 6) bl bm bn bp bq), ∀ (ls : Array Slot) (H : Heap) (locs : List Loc), lv_has ls 3 [(0, .ref pf), (1, .ref xb), (2, .int (nI i))] → va_P D kc_all [(pf, .inr (4, [.int (nI e9), .ref pn, .ref pr])), (pr, .inl (cL, 2772, .inr (.inl R))), (xb, .inr (5, [.ref xl, .ref xm, .int (nI bn), .long bp, .long bq])), (xl, .inl (cI, 4, .inl bl)), (xm, .inl (cI, 4, .inl bm))] H → va_D A [(pf, .inr (4, [.int (nI e9), .ref pn, .ref pr])), (pr, .inl (cL, 2772, .inr (.inl R))), (xb, .inr (5, [.ref xl, .ref xm, .int (nI bn), .long bp, .long bq])), (xl, .inl (cI, 4, .inl bl)), (xm, .inl (cI, 4, .inl bm))] → va_S A s.heap H locs → W p l e (headSpec ww_Proof_hasEnd ({ frames := 1, cells := 0, slots := 0, locals := 29 } : Room)).room s m ([.ref pf, .ref xb]).toArray below meth c H locs 0 0 (MQ below (qq_Proof_hasEnd D cI cZ cL cQ pf pn pr xb xl xm e9 bn bp bq R bl bm A) ([.ref pf, .ref xb]).toArray s 0 0 A) (F0 m 2 ls []) := by
    intro N
    induction N with
    | zero => intro i hN9; exact absurd hN9 (Nat.not_lt_zero _)
    | succ N IH2 =>
      intro i hN9 hi hv ls H locs hl hP hD hS
      refine lv_iload_n hx hb dd_Proof_hasEnd_2 rfl (lv_at hl 2 rfl) ?_
      refine lv_aload_n hx hb dd_Proof_hasEnd_3 rfl (lv_at hl 0 rfl) ?_
      refine va_get (D := D) (ci := 4) (v := .int (nI e9)) (C := RR_Proof) (T := FF_Proof) (N := 3) hx hb htb hi_Proof hown hK hP 0 rfl rfl 0 (by decide) hf_11 (fun _ h9 => h9) rfl dd_Proof_hasEnd_4 ?_
      refine lv_icmp_ge (tgt := 33) hx hb dd_Proof_hasEnd_7 (by decide) (fun h7 => ?_) (fun h7 => ?_)
      · skip
        have h7 : e9 ≤ i := (nI_leI (a := e9) (b := i) (by omega) (by omega)).mp h7
        refine lv_iconst (v := 0) hx hb dd_Proof_hasEnd_33 (by decide) ?_
        exact W.zret (v := (0 : Int32)) hx hb hr (rfl) (fun t ht hW => ⟨⟨(0 : Int32), (), rfl, tl_f (fun q => by obtain ⟨i9, g1, g2⟩ := q; exact hv i9 (by omega) g2), by rw [ht]; exact hP, va_K.moved hW.alike hK, hD⟩, hS.F ht⟩) hS.2.2 dd_Proof_hasEnd_34
      · skip
        have h7 : ¬ (e9 ≤ i) := fun q9 => h7 ((nI_leI (a := e9) (b := i) (by omega) (by omega)).mpr q9)
        refine lv_aload_n hx hb dd_Proof_hasEnd_10 rfl (lv_at hl 1 rfl) ?_
        refine lv_aload_n hx hb dd_Proof_hasEnd_11 rfl (lv_at hl 0 rfl) ?_
        refine va_get (D := D) (ci := 4) (v := .ref pr) (C := RR_Proof) (T := FF_Proof) (N := 3) hx hb htb hi_Proof hown hK hP 0 rfl rfl 2 (by decide) hf_23 (fun _ h9 => h9) rfl dd_Proof_hasEnd_12 ?_
        refine lv_iload_n hx hb dd_Proof_hasEnd_15 rfl (lv_at hl 2 rfl) ?_
        refine lv_bipush (v := 6) hx hb dd_Proof_hasEnd_16 (by decide) ?_
        refine lv_imul hx hb dd_Proof_hasEnd_18 ?_
        refine mm_topi (y := nI (i * 6)) (pk_mul i 6) ?_
        refine mm_i (wc := [(xb, .inr (5, [.ref xl, .ref xm, .int (nI bn), .long bp, .long bq])), (xl, .inl (cI, 4, .inl bl)), (xm, .inl (cI, 4, .inl bm)), (pr, .inl (cL, 2772, .inr (.inl R)))]) (wr := [(pf, .inr (4, [.int (nI e9), .ref pn, .ref pr]))]) (va_runV (As := [.ref pr, .int (nI (i * 6))]) (rest := []) (C := RR_Box) ⟨hx, hb, hml, hown, hts⟩ (cc_Box_isEndedBy l D cI cZ cL cQ _ xb xl xm bn bp bq pr (i * 6) 2772 bl bm R (by omega) (by omega)) (mm_cwV 2 hts ml_Proof_86 im_Box_isEndedBy se_Box_isEndedBy ic_Box cd_Box_isEndedBy rfl rfl (by decide +kernel) ⟨Nat.le_of_ble_eq_true rfl, Nat.le_of_ble_eq_true rfl⟩) (mm_preV hK hP hD [2, 3, 4, 1] (by decide) rfl 2 rfl rfl) rfl rfl hl.1 rfl (lv_room (Nat.le_of_ble_eq_true rfl)) dd_Proof_hasEnd_19 ⟨Nat.zero_le _, Nat.zero_le _⟩) hP hD hS hA [2, 3, 4, 1] [0] rfl rfl (by decide) (by decide) (fun zr1 zu2 H locs p19 hP hD hS => ?_)
        have hP : va_P D kc_all [(pf, .inr (4, [.int (nI e9), .ref pn, .ref pr])), (xb, .inr (5, [.ref xl, .ref xm, .int (nI bn), .long bp, .long bq])), (xl, .inl (cI, 4, .inl bl)), (xm, .inl (cI, 4, .inl bm)), (pr, .inl (cL, 2772, .inr (.inl R)))] H := hP
        have hD : va_D A [(pf, .inr (4, [.int (nI e9), .ref pn, .ref pr])), (xb, .inr (5, [.ref xl, .ref xm, .int (nI bn), .long bp, .long bq])), (xl, .inl (cI, 4, .inl bl)), (xm, .inl (cI, 4, .inl bm)), (pr, .inl (cL, 2772, .inr (.inl R)))] := hD
        have hP : va_P D kc_all [(pf, .inr (4, [.int (nI e9), .ref pn, .ref pr])), (pr, .inl (cL, 2772, .inr (.inl R))), (xb, .inr (5, [.ref xl, .ref xm, .int (nI bn), .long bp, .long bq])), (xl, .inl (cI, 4, .inl bl)), (xm, .inl (cI, 4, .inl bm))] H := hP.sub [0, 4, 1, 2, 3] rfl
        have hD : va_D A [(pf, .inr (4, [.int (nI e9), .ref pn, .ref pr])), (pr, .inl (cL, 2772, .inr (.inl R))), (xb, .inr (5, [.ref xl, .ref xm, .int (nI bn), .long bp, .long bq])), (xl, .inl (cI, 4, .inl bl)), (xm, .inl (cI, 4, .inl bm))] := hD.sub [0, 4, 1, 2, 3] (by decide) rfl
        have p19 : (ie_ok R (i * 6) bl bm bn bp bq → zr1 = 1) ∧ (¬ ie_ok R (i * 6) bl bm bn bp bq → zr1 = 0) := p19
        refine lv_if_eq (tgt := 27) hx hb dd_Proof_hasEnd_22 (by decide) (fun h22 => ?_) (fun h22 => ?_)
        · skip
          refine lv_iinc (k := 2) (v := nI (i + 1)) (lv' := [(2, .int (nI (i + 1))), (0, .ref pf), (1, .ref xb)]) hx hb dd_Proof_hasEnd_27 hl rfl (nI_1 _) (by decide) rfl (fun ls hl => ?_)
          refine lv_goto (tgt := 2) hx hb dd_Proof_hasEnd_30 (by decide) ?_
          exact IH2 (i + 1) (by omega) (by omega) (by intro i9 g9; rcases Nat.lt_or_eq_of_le (Nat.le_of_lt_succ g9) with h | rfl; exact hv i9 h; exact tl_0 p19 h22) ls H locs (lv_sub hl [1, 2, 0] rfl) hP hD hS
        · skip
          refine lv_iconst (v := 1) hx hb dd_Proof_hasEnd_25 (by decide) ?_
          exact W.zret (v := (1 : Int32)) hx hb hr (rfl) (fun t ht hW => ⟨⟨(1 : Int32), (), rfl, tl_t ⟨i, by omega, tl_1 p19 h22⟩, by rw [ht]; exact hP, va_K.moved hW.alike hK, hD⟩, hS.F ht⟩) hS.2.2 dd_Proof_hasEnd_26
  exact J2 _ 0 (Nat.lt_succ_self _) (by omega) (fun _ h => absurd h (Nat.not_lt_zero _)) ls _ _ (lv_sub hl [1, 2, 0] rfl) hP hD hS
abbrev qq_Proof_widest (D : va_G) (cI cZ cL cQ : ClassId) (a : Nat) (al : Nat) (am : Nat) (aw : Nat) (ac : Nat) (ag : Nat) (ab : Nat) (n : Nat) (k : Nat) (xb : Nat) (xl : Nat) (xm : Nat) (bn : Nat) (bp : Int64) (bq : Int64) (wh : Nat → Int32) (bl : Nat → Int32) (bm : Nat → Int32) (A : Nat → Prop) : Array Value → State → Outcome → State → Prop := va_Qi (fun (r : Int32) (u : Unit) => r = (wi_f wh bl bm n).1) (fun (u : Unit) t => mm_B D kc_all [(cI, .int), (cZ, .boolean), (cL, .long), (cQ, .array .int)] A [(a, .inr (0, [.int (nI n), .int (nI k), .ref al, .ref am, .ref aw, .ref ac, .ref ag, .ref ab])), (aw, .inl (cZ, 4, .inl wh)), (xb, .inr (5, [.ref xl, .ref xm, .int (nI bn), .long bp, .long bq])), (xl, .inl (cI, 4, .inl bl)), (xm, .inl (cI, 4, .inl bm))] t) A
set_option maxHeartbeats 4000000 in
set_option maxRecDepth 100000 in
theorem cc_Proof_widest (l : Launch) (D : va_G) (cI cZ cL cQ : ClassId) (sz : Nat) (a : Nat) (al : Nat) (am : Nat) (aw : Nat) (ac : Nat) (ag : Nat) (ab : Nat) (n : Nat) (k : Nat) (xb : Nat) (xl : Nat) (xm : Nat) (bn : Nat) (bp : Int64) (bq : Int64) (wh : Nat → Int32) (bl : Nat → Int32) (bm : Nat → Int32) (hn : n ≤ 4) : Met l yy_Proof_widest ww_Proof_widest ({ frames := 0, cells := 0, slots := 0, locals := 0 } : Room) (mm_Pc D kc_all [(cI, .int), (cZ, .boolean), (cL, .long), (cQ, .array .int)] sz [(a, .inr (0, [.int (nI n), .int (nI k), .ref al, .ref am, .ref aw, .ref ac, .ref ag, .ref ab])), (aw, .inl (cZ, 4, .inl wh)), (xb, .inr (5, [.ref xl, .ref xm, .int (nI bn), .long bp, .long bq])), (xl, .inl (cI, 4, .inl bl)), (xm, .inl (cI, 4, .inl bm))] [.ref a, .ref xb]) (qq_Proof_widest D cI cZ cL cQ a al am aw ac ag ab n k xb xl xm bn bp bq wh bl bm (va_A [(a, .inr (0, [.int (nI n), .int (nI k), .ref al, .ref am, .ref aw, .ref ac, .ref ag, .ref ab])), (aw, .inl (cZ, 4, .inl wh)), (xb, .inr (5, [.ref xl, .ref xm, .int (nI bn), .long bp, .long bq])), (xl, .inl (cI, 4, .inl bl)), (xm, .inl (cI, 4, .inl bm))] sz)) 0 0 (va_A [(a, .inr (0, [.int (nI n), .int (nI k), .ref al, .ref am, .ref aw, .ref ac, .ref ag, .ref ab])), (aw, .inl (cZ, 4, .inl wh)), (xb, .inr (5, [.ref xl, .ref xm, .int (nI bn), .long bp, .long bq])), (xl, .inl (cI, 4, .inl bl)), (xm, .inl (cI, 4, .inl bm))] sz) := by
  refine Met.ofW (cc := bb_Proof_widest) (maxL := 5) (ret := (some .int)) (by decide) rfl ?_
  intro p e s m args below meth c s₁ B hml hv
  obtain ⟨rfl, hsz, hP, hK, hD0⟩ := hv
  have hx := B.exec
  have hb := B.bytes
  have hr := B.returns
  have hts := atoms_spec (ws := ww_Proof_widest) B.pre
  have hown : s.vm.findClass RR_Proof = some m.cls := findClass_of_methodNamed B.named
  have hlocks := B.notSynchronized
  subst hsz
  have hD := hD0.self (sz := s.heap.size)
  generalize hAe : va_A [(a, .inr (0, [.int (nI n), .int (nI k), .ref al, .ref am, .ref aw, .ref ac, .ref ag, .ref ab])), (aw, .inl (cZ, 4, .inl wh)), (xb, .inr (5, [.ref xl, .ref xm, .int (nI bn), .long bp, .long bq])), (xl, .inl (cI, 4, .inl bl)), (xm, .inl (cI, 4, .inl bm))] s.heap.size = A at hD ⊢
  have hA : ∀ q : Nat, s.heap.size ≤ q → A q := fun q h => by rw [← hAe]; exact Or.inr h
  have hS : va_S A s.heap s.heap [] := va_S.rf
  have hP : va_P D kc_all [(a, .inr (0, [.int (nI n), .int (nI k), .ref al, .ref am, .ref aw, .ref ac, .ref ag, .ref ab])), (aw, .inl (cZ, 4, .inl wh)), (xb, .inr (5, [.ref xl, .ref xm, .int (nI bn), .long bp, .long bq])), (xl, .inl (cI, 4, .inl bl)), (xm, .inl (cI, 4, .inl bm))] s.heap := hP
  have hl := lv_entry ([.ref a, .ref xb]) (n := 5) (Nat.le_of_ble_eq_true rfl)
  rw [lg_entry_eq]
  generalize (lg_sl ([.ref a, .ref xb]) ++ List.replicate (5 - (lg_sl ([.ref a, .ref xb])).length) Slot.unset).toArray = ls at hl ⊢
  have hl : lv_has ls 5 [(0, .ref a), (1, .ref xb)] := hl
  have htb : ∀ w ∈ tb_all, w.before ([.ref a, .ref xb]).toArray s = true := fun w h => hts w (List.mem_cons_of_mem _ h)
  have hf_33 := htb _ fl_Proof_33
  have hf_77 := htb _ fl_Proof_77
  have hf_80 := htb _ fl_Proof_80
  have hf_90 := htb _ fl_Proof_90
  refine lv_iconst (v := (-1)) hx hb dd_Proof_widest_0 (by decide) ?_
  refine lv_istore_n (lv' := [(2, .int (-1 : Int32)), (0, .ref a), (1, .ref xb)]) hx hb dd_Proof_widest_1 rfl hl (by decide) rfl (fun ls hl => ?_)
  refine lv_iconst (v := 0) hx hb dd_Proof_widest_2 (by decide) ?_
  refine lv_istore_n (lv' := [(3, .int (0 : Int32)), (2, .int (-1 : Int32)), (0, .ref a), (1, .ref xb)]) hx hb dd_Proof_widest_3 rfl hl (by decide) rfl (fun ls hl => ?_)
  refine lv_iconst (v := 0) hx hb dd_Proof_widest_4 (by decide) ?_
  refine lv_istore (lv' := [(4, .int (0 : Int32)), (3, .int (0 : Int32)), (2, .int (-1 : Int32)), (0, .ref a), (1, .ref xb)]) hx hb dd_Proof_widest_5 hl (by decide) rfl (fun ls hl => ?_)
  have J7 : ∀ (N : Nat) (j : Nat), (n - j) < N → ∀ (hj : j ≤ n), ∀ (ls : Array Slot) (H : Heap) (locs : List Loc), lv_has ls 5 [(0, .ref a), (1, .ref xb), (2, .int ((wi_f wh bl bm j).1)), (3, .int ((wi_f wh bl bm j).2)), (4, .int (nI j))] → va_P D kc_all [(a, .inr (0, [.int (nI n), .int (nI k), .ref al, .ref am, .ref aw, .ref ac, .ref ag, .ref ab])), (aw, .inl (cZ, 4, .inl wh)), (xb, .inr (5, [.ref xl, .ref xm, .int (nI bn), .long bp, .long bq])), (xl, .inl (cI, 4, .inl bl)), (xm, .inl (cI, 4, .inl bm))] H → va_D A [(a, .inr (0, [.int (nI n), .int (nI k), .ref al, .ref am, .ref aw, .ref ac, .ref ag, .ref ab])), (aw, .inl (cZ, 4, .inl wh)), (xb, .inr (5, [.ref xl, .ref xm, .int (nI bn), .long bp, .long bq])), (xl, .inl (cI, 4, .inl bl)), (xm, .inl (cI, 4, .inl bm))] → va_S A s.heap H locs → W p l e (headSpec ww_Proof_widest ({ frames := 0, cells := 0, slots := 0, locals := 0 } : Room)).room s m ([.ref a, .ref xb]).toArray below meth c H locs 0 0 (MQ below (qq_Proof_widest D cI cZ cL cQ a al am aw ac ag ab n k xb xl xm bn bp bq wh bl bm A) ([.ref a, .ref xb]).toArray s 0 0 A) (F0 m 7 ls []) := by
    intro N
    induction N with
    | zero => intro j hN9; exact absurd hN9 (Nat.not_lt_zero _)
    | succ N IH7 =>
      intro j hN9 hj ls H locs hl hP hD hS
      refine lv_iload hx hb dd_Proof_widest_7 (lv_at hl 4 rfl) ?_
      refine lv_aload_n hx hb dd_Proof_widest_9 rfl (lv_at hl 0 rfl) ?_
      refine va_get (D := D) (ci := 0) (v := .int (nI n)) (C := RR_Problem) (T := FF_Problem) (N := 8) hx hb htb hi_Problem hown hK hP 0 rfl rfl 0 (by decide) hf_33 (fun _ h9 => h9) rfl dd_Proof_widest_10 ?_
      refine lv_icmp_ge (tgt := 70) hx hb dd_Proof_widest_13 (by decide) (fun h13 => ?_) (fun h13 => ?_)
      · skip
        have h13 : n ≤ j := (nI_leI (a := n) (b := j) (by omega) (by omega)).mp h13
        refine lv_iload_n hx hb dd_Proof_widest_70 rfl (lv_at hl 2 rfl) ?_
        exact W.iret (v := ((wi_f wh bl bm j).1)) hx hb hr (fun t ht hW => ⟨⟨(wi_f wh bl bm j).1, (), rfl, by rw [show n = j by omega], by rw [ht]; exact hP, va_K.moved hW.alike hK, hD⟩, hS.F ht⟩) hS.2.2 dd_Proof_widest_71
      · skip
        have h13 : ¬ (n ≤ j) := fun q9 => h13 ((nI_leI (a := n) (b := j) (by omega) (by omega)).mpr q9)
        refine lv_aload_n hx hb dd_Proof_widest_16 rfl (lv_at hl 0 rfl) ?_
        refine va_get (D := D) (ci := 0) (v := .ref aw) (C := RR_Problem) (T := FF_Problem) (N := 8) hx hb htb hi_Problem hown hK hP 0 rfl rfl 4 (by decide) hf_90 (fun _ h9 => h9) rfl dd_Proof_widest_17 ?_
        refine lv_iload hx hb dd_Proof_widest_20 (lv_at hl 4 rfl) ?_
        refine mm_zald hx hb hK hP 1 1 rfl rfl (j) (rfl) (by omega) (by first | decide | omega) dd_Proof_widest_22 ?_
        refine lv_if_eq (tgt := 64) hx hb dd_Proof_widest_23 (by decide) (fun h23 => ?_) (fun h23 => ?_)
        · skip
          refine lv_iinc (k := 4) (v := nI (j + 1)) (lv' := [(4, .int (nI (j + 1))), (0, .ref a), (1, .ref xb), (2, .int ((wi_f wh bl bm j).1)), (3, .int ((wi_f wh bl bm j).2))]) hx hb dd_Proof_widest_64 hl rfl (nI_1 _) (by decide) rfl (fun ls hl => ?_)
          refine lv_goto (tgt := 7) hx hb dd_Proof_widest_67 (by decide) ?_
          first | rw [wi_n (fun q => q.1 h23)] at hl | rw [wi_n (fun q => q.2 h42)] at hl | rw [(wi_t ⟨h23, h42⟩).1, (wi_t ⟨h23, h42⟩).2] at hl
          exact IH7 (j + 1) (by omega) (by omega) ls H locs (lv_sub hl [1, 2, 3, 4, 0] rfl) hP hD hS
        · skip
          refine lv_aload_n hx hb dd_Proof_widest_26 rfl (lv_at hl 1 rfl) ?_
          refine va_get (D := D) (ci := 5) (v := .ref xm) (C := RR_Box) (T := FF_Box) (N := 5) hx hb htb hi_Box hown hK hP 2 rfl rfl 1 (by decide) hf_80 (fun _ h9 => h9) rfl dd_Proof_widest_27 ?_
          refine lv_iload hx hb dd_Proof_widest_30 (lv_at hl 4 rfl) ?_
          refine mm_iald hx hb hK hP 4 0 rfl rfl (j) (rfl) (by omega) (by first | decide | omega) dd_Proof_widest_32 ?_
          refine lv_aload_n hx hb dd_Proof_widest_33 rfl (lv_at hl 1 rfl) ?_
          refine va_get (D := D) (ci := 5) (v := .ref xl) (C := RR_Box) (T := FF_Box) (N := 5) hx hb htb hi_Box hown hK hP 2 rfl rfl 0 (by decide) hf_77 (fun _ h9 => h9) rfl dd_Proof_widest_34 ?_
          refine lv_iload hx hb dd_Proof_widest_37 (lv_at hl 4 rfl) ?_
          refine mm_iald hx hb hK hP 3 0 rfl rfl (j) (rfl) (by omega) (by first | decide | omega) dd_Proof_widest_39 ?_
          refine lv_isub hx hb dd_Proof_widest_40 ?_
          refine lv_iload_n hx hb dd_Proof_widest_41 rfl (lv_at hl 3 rfl) ?_
          refine lv_icmp_le (tgt := 64) hx hb dd_Proof_widest_42 (by decide) (fun h42 => ?_) (fun h42 => ?_)
          · skip
            refine lv_iinc (k := 4) (v := nI (j + 1)) (lv' := [(4, .int (nI (j + 1))), (0, .ref a), (1, .ref xb), (2, .int ((wi_f wh bl bm j).1)), (3, .int ((wi_f wh bl bm j).2))]) hx hb dd_Proof_widest_64 hl rfl (nI_1 _) (by decide) rfl (fun ls hl => ?_)
            refine lv_goto (tgt := 7) hx hb dd_Proof_widest_67 (by decide) ?_
            first | rw [wi_n (fun q => q.1 h23)] at hl | rw [wi_n (fun q => q.2 h42)] at hl | rw [(wi_t ⟨h23, h42⟩).1, (wi_t ⟨h23, h42⟩).2] at hl
            exact IH7 (j + 1) (by omega) (by omega) ls H locs (lv_sub hl [1, 2, 3, 4, 0] rfl) hP hD hS
          · skip
            refine lv_iload hx hb dd_Proof_widest_45 (lv_at hl 4 rfl) ?_
            refine lv_istore_n (lv' := [(2, .int (nI j)), (0, .ref a), (1, .ref xb), (3, .int ((wi_f wh bl bm j).2)), (4, .int (nI j))]) hx hb dd_Proof_widest_47 rfl hl (by decide) rfl (fun ls hl => ?_)
            refine lv_aload_n hx hb dd_Proof_widest_48 rfl (lv_at hl 2 rfl) ?_
            refine va_get (D := D) (ci := 5) (v := .ref xm) (C := RR_Box) (T := FF_Box) (N := 5) hx hb htb hi_Box hown hK hP 2 rfl rfl 1 (by decide) hf_80 (fun _ h9 => h9) rfl dd_Proof_widest_49 ?_
            refine lv_iload hx hb dd_Proof_widest_52 (lv_at hl 4 rfl) ?_
            refine mm_iald hx hb hK hP 4 0 rfl rfl (j) (rfl) (by omega) (by first | decide | omega) dd_Proof_widest_54 ?_
            refine lv_aload_n hx hb dd_Proof_widest_55 rfl (lv_at hl 2 rfl) ?_
            refine va_get (D := D) (ci := 5) (v := .ref xl) (C := RR_Box) (T := FF_Box) (N := 5) hx hb htb hi_Box hown hK hP 2 rfl rfl 0 (by decide) hf_77 (fun _ h9 => h9) rfl dd_Proof_widest_56 ?_
            refine lv_iload hx hb dd_Proof_widest_59 (lv_at hl 4 rfl) ?_
            refine mm_iald hx hb hK hP 3 0 rfl rfl (j) (rfl) (by omega) (by first | decide | omega) dd_Proof_widest_61 ?_
            refine lv_isub hx hb dd_Proof_widest_62 ?_
            refine lv_istore_n (lv' := [(3, .int ((bm j) - (bl j))), (2, .int (nI j)), (0, .ref a), (1, .ref xb), (4, .int (nI j))]) hx hb dd_Proof_widest_63 rfl hl (by decide) rfl (fun ls hl => ?_)
            refine lv_iinc (k := 4) (v := nI (j + 1)) (lv' := [(4, .int (nI (j + 1))), (3, .int ((bm j) - (bl j))), (2, .int (nI j)), (0, .ref a), (1, .ref xb)]) hx hb dd_Proof_widest_64 hl rfl (nI_1 _) (by decide) rfl (fun ls hl => ?_)
            refine lv_goto (tgt := 7) hx hb dd_Proof_widest_67 (by decide) ?_
            first | rw [wi_n (fun q => q.1 h23)] at hl | rw [wi_n (fun q => q.2 h42)] at hl | rw [(wi_t ⟨h23, h42⟩).1, (wi_t ⟨h23, h42⟩).2] at hl
            exact IH7 (j + 1) (by omega) (by omega) ls H locs (lv_sub hl [3, 4, 2, 1, 0] rfl) hP hD hS
  exact J7 _ 0 (Nat.lt_succ_self _) (by omega) ls _ _ (lv_sub hl [3, 4, 2, 1, 0] rfl) hP hD hS
abbrev qq_Proof_isSoundIn (D : va_G) (cI cZ cL cQ : ClassId) (f : Nat) (pf : Nat) (pn : Nat) (pr : Nat) (xb : Nat) (xl : Nat) (xm : Nat) (a : Nat) (al : Nat) (am : Nat) (aw : Nat) (ac : Nat) (ag : Nat) (ab : Nat) (n : Nat) (k : Nat) (e9 : Nat) (bp : Int64) (bq : Int64) (R : Nat → Int64) (wh : Nat → Int32) (bl : Nat → Int32) (bm : Nat → Int32) (dp : Nat) (A : Nat → Prop) : Array Value → State → Outcome → State → Prop := va_Qi (fun (r : Int32) (u : Unit) => tl_ok (ps_ok (he_ok R e9 n bp bq) (fun x8 y8 => (wi_f wh x8 y8 n).1) n f bl bm) r) (fun (u : Unit) t => mm_B D kc_all [(cI, .int), (cZ, .boolean), (cL, .long), (cQ, .array .int)] A [(pf, .inr (4, [.int (nI e9), .ref pn, .ref pr])), (pr, .inl (cL, 2772, .inr (.inl R))), (a, .inr (0, [.int (nI n), .int (nI k), .ref al, .ref am, .ref aw, .ref ac, .ref ag, .ref ab])), (aw, .inl (cZ, 4, .inl wh)), (xb, .inr (5, [.ref xl, .ref xm, .int (nI n), .long bp, .long bq])), (xl, .inl (cI, 4, .inl bl)), (xm, .inl (cI, 4, .inl bm))] t) A
set_option maxHeartbeats 4000000 in
set_option maxRecDepth 100000 in
theorem cc_Proof_isSoundIn (l : Launch) (D : va_G) (cI cZ cL cQ : ClassId) : ∀ (f : Nat) (sz : Nat) (pf : Nat) (pn : Nat) (pr : Nat) (xb : Nat) (xl : Nat) (xm : Nat) (a : Nat) (al : Nat) (am : Nat) (aw : Nat) (ac : Nat) (ag : Nat) (ab : Nat) (n : Nat) (k : Nat) (e9 : Nat) (bp : Int64) (bq : Int64) (R : Nat → Int64) (wh : Nat → Int32) (bl : Nat → Int32) (bm : Nat → Int32) (dp : Nat) (hn : n ≤ 4) (he : e9 ≤ 462) (hdp : dp + f = 33 ∧ dp ≤ 32), Met l yy_Proof_isSoundIn ww_Proof_isSoundIn ({ frames := 2 + f, cells := 0, slots := 0, locals := 51 + 29 * f } : Room) (mm_Pc D kc_all [(cI, .int), (cZ, .boolean), (cL, .long), (cQ, .array .int)] sz [(pf, .inr (4, [.int (nI e9), .ref pn, .ref pr])), (pr, .inl (cL, 2772, .inr (.inl R))), (a, .inr (0, [.int (nI n), .int (nI k), .ref al, .ref am, .ref aw, .ref ac, .ref ag, .ref ab])), (aw, .inl (cZ, 4, .inl wh)), (xb, .inr (5, [.ref xl, .ref xm, .int (nI n), .long bp, .long bq])), (xl, .inl (cI, 4, .inl bl)), (xm, .inl (cI, 4, .inl bm))] [.ref pf, .ref a, .ref xb, .int (nI dp)]) (qq_Proof_isSoundIn D cI cZ cL cQ f pf pn pr xb xl xm a al am aw ac ag ab n k e9 bp bq R wh bl bm dp (va_A [(pf, .inr (4, [.int (nI e9), .ref pn, .ref pr])), (pr, .inl (cL, 2772, .inr (.inl R))), (a, .inr (0, [.int (nI n), .int (nI k), .ref al, .ref am, .ref aw, .ref ac, .ref ag, .ref ab])), (aw, .inl (cZ, 4, .inl wh)), (xb, .inr (5, [.ref xl, .ref xm, .int (nI n), .long bp, .long bq])), (xl, .inl (cI, 4, .inl bl)), (xm, .inl (cI, 4, .inl bm))] sz)) 0 0 (va_A [(pf, .inr (4, [.int (nI e9), .ref pn, .ref pr])), (pr, .inl (cL, 2772, .inr (.inl R))), (a, .inr (0, [.int (nI n), .int (nI k), .ref al, .ref am, .ref aw, .ref ac, .ref ag, .ref ab])), (aw, .inl (cZ, 4, .inl wh)), (xb, .inr (5, [.ref xl, .ref xm, .int (nI n), .long bp, .long bq])), (xl, .inl (cI, 4, .inl bl)), (xm, .inl (cI, 4, .inl bm))] sz) := by
  intro f
  induction f with
  | zero =>
    intro sz pf pn pr xb xl xm a al am aw ac ag ab n k e9 bp bq R wh bl bm dp hn he hdp
    exfalso; omega
  | succ f IH =>
    intro sz pf pn pr xb xl xm a al am aw ac ag ab n k e9 bp bq R wh bl bm dp hn he hdp
    refine Met.ofW (cc := bb_Proof_isSoundIn) (maxL := 10) (ret := (some .boolean)) (by decide) rfl ?_
    intro p e s m args below meth c s₁ B hml hv
    obtain ⟨rfl, hsz, hP, hK, hD0⟩ := hv
    have hx := B.exec
    have hb := B.bytes
    have hr := B.returns
    have hts := atoms_spec (ws := ww_Proof_isSoundIn) B.pre
    have hown : s.vm.findClass RR_Proof = some m.cls := findClass_of_methodNamed B.named
    have hlocks := B.notSynchronized
    subst hsz
    have hD := hD0.self (sz := s.heap.size)
    generalize hAe : va_A [(pf, .inr (4, [.int (nI e9), .ref pn, .ref pr])), (pr, .inl (cL, 2772, .inr (.inl R))), (a, .inr (0, [.int (nI n), .int (nI k), .ref al, .ref am, .ref aw, .ref ac, .ref ag, .ref ab])), (aw, .inl (cZ, 4, .inl wh)), (xb, .inr (5, [.ref xl, .ref xm, .int (nI n), .long bp, .long bq])), (xl, .inl (cI, 4, .inl bl)), (xm, .inl (cI, 4, .inl bm))] s.heap.size = A at hD ⊢
    have hA : ∀ q : Nat, s.heap.size ≤ q → A q := fun q h => by rw [← hAe]; exact Or.inr h
    have hS : va_S A s.heap s.heap [] := va_S.rf
    have hP : va_P D kc_all [(pf, .inr (4, [.int (nI e9), .ref pn, .ref pr])), (pr, .inl (cL, 2772, .inr (.inl R))), (a, .inr (0, [.int (nI n), .int (nI k), .ref al, .ref am, .ref aw, .ref ac, .ref ag, .ref ab])), (aw, .inl (cZ, 4, .inl wh)), (xb, .inr (5, [.ref xl, .ref xm, .int (nI n), .long bp, .long bq])), (xl, .inl (cI, 4, .inl bl)), (xm, .inl (cI, 4, .inl bm))] s.heap := hP
    have hl := lv_entry ([.ref pf, .ref a, .ref xb, .int (nI dp)]) (n := 10) (Nat.le_of_ble_eq_true rfl)
    rw [lg_entry_eq]
    generalize (lg_sl ([.ref pf, .ref a, .ref xb, .int (nI dp)]) ++ List.replicate (10 - (lg_sl ([.ref pf, .ref a, .ref xb, .int (nI dp)])).length) Slot.unset).toArray = ls at hl ⊢
    have hl : lv_has ls 10 [(0, .ref pf), (1, .ref a), (2, .ref xb), (3, .int (nI dp))] := hl
    have htb : ∀ w ∈ tb_all, w.before ([.ref pf, .ref a, .ref xb, .int (nI dp)]).toArray s = true := fun w h => hts w (List.mem_cons_of_mem _ h)
    have hf_77 := htb _ fl_Proof_77
    have hf_80 := htb _ fl_Proof_80
    refine lv_aload_n hx hb dd_Proof_isSoundIn_0 rfl (lv_at hl 0 rfl) ?_
    refine lv_aload_n hx hb dd_Proof_isSoundIn_1 rfl (lv_at hl 2 rfl) ?_
    refine mm_i (wc := [(pf, .inr (4, [.int (nI e9), .ref pn, .ref pr])), (pr, .inl (cL, 2772, .inr (.inl R))), (xb, .inr (5, [.ref xl, .ref xm, .int (nI n), .long bp, .long bq])), (xl, .inl (cI, 4, .inl bl)), (xm, .inl (cI, 4, .inl bm))]) (wr := [(a, .inr (0, [.int (nI n), .int (nI k), .ref al, .ref am, .ref aw, .ref ac, .ref ag, .ref ab])), (aw, .inl (cZ, 4, .inl wh))]) (va_runV (As := [.ref xb]) (rest := []) (C := RR_Proof) ⟨hx, hb, hml, hown, hts⟩ (cc_Proof_hasEnd l D cI cZ cL cQ _ pf pn pr xb xl xm e9 n bp bq R bl bm (by omega) (by omega)) (mm_cwV 1 hts ml_Proof_69 im_Proof_hasEnd se_Proof_hasEnd ic_Proof cd_Proof_hasEnd rfl rfl (by decide +kernel) ⟨by show 1 + 1 ≤ 2 + (f + 1); omega, by show 8 + (3 + 11) + (29) ≤ 51 + 29 * (f + 1); omega⟩) (mm_preV hK hP hD [0, 1, 4, 5, 6] (by decide) rfl 0 rfl rfl) rfl rfl hl.1 rfl (lv_room (Nat.le_of_ble_eq_true rfl)) dd_Proof_isSoundIn_2 ⟨Nat.zero_le _, Nat.zero_le _⟩) hP hD hS hA [0, 1, 4, 5, 6] [2, 3] rfl rfl (by decide) (by decide) (fun zr1 zu2 H locs p2 hP hD hS => ?_)
    have hP : va_P D kc_all [(a, .inr (0, [.int (nI n), .int (nI k), .ref al, .ref am, .ref aw, .ref ac, .ref ag, .ref ab])), (aw, .inl (cZ, 4, .inl wh)), (pf, .inr (4, [.int (nI e9), .ref pn, .ref pr])), (pr, .inl (cL, 2772, .inr (.inl R))), (xb, .inr (5, [.ref xl, .ref xm, .int (nI n), .long bp, .long bq])), (xl, .inl (cI, 4, .inl bl)), (xm, .inl (cI, 4, .inl bm))] H := hP
    have hD : va_D A [(a, .inr (0, [.int (nI n), .int (nI k), .ref al, .ref am, .ref aw, .ref ac, .ref ag, .ref ab])), (aw, .inl (cZ, 4, .inl wh)), (pf, .inr (4, [.int (nI e9), .ref pn, .ref pr])), (pr, .inl (cL, 2772, .inr (.inl R))), (xb, .inr (5, [.ref xl, .ref xm, .int (nI n), .long bp, .long bq])), (xl, .inl (cI, 4, .inl bl)), (xm, .inl (cI, 4, .inl bm))] := hD
    have hP : va_P D kc_all [(pf, .inr (4, [.int (nI e9), .ref pn, .ref pr])), (pr, .inl (cL, 2772, .inr (.inl R))), (a, .inr (0, [.int (nI n), .int (nI k), .ref al, .ref am, .ref aw, .ref ac, .ref ag, .ref ab])), (aw, .inl (cZ, 4, .inl wh)), (xb, .inr (5, [.ref xl, .ref xm, .int (nI n), .long bp, .long bq])), (xl, .inl (cI, 4, .inl bl)), (xm, .inl (cI, 4, .inl bm))] H := hP.sub [2, 3, 0, 1, 4, 5, 6] rfl
    have hD : va_D A [(pf, .inr (4, [.int (nI e9), .ref pn, .ref pr])), (pr, .inl (cL, 2772, .inr (.inl R))), (a, .inr (0, [.int (nI n), .int (nI k), .ref al, .ref am, .ref aw, .ref ac, .ref ag, .ref ab])), (aw, .inl (cZ, 4, .inl wh)), (xb, .inr (5, [.ref xl, .ref xm, .int (nI n), .long bp, .long bq])), (xl, .inl (cI, 4, .inl bl)), (xm, .inl (cI, 4, .inl bm))] := hD.sub [2, 3, 0, 1, 4, 5, 6] (by decide) rfl
    have p2 : tl_ok (he_ok R e9 n bp bq bl bm) zr1 := p2
    refine lv_if_eq (tgt := 10) hx hb dd_Proof_isSoundIn_5 (by decide) (fun h5 => ?_) (fun h5 => ?_)
    · skip
      refine lv_aload_n hx hb dd_Proof_isSoundIn_10 rfl (lv_at hl 1 rfl) ?_
      refine lv_aload_n hx hb dd_Proof_isSoundIn_11 rfl (lv_at hl 2 rfl) ?_
      refine mm_i (wc := [(a, .inr (0, [.int (nI n), .int (nI k), .ref al, .ref am, .ref aw, .ref ac, .ref ag, .ref ab])), (aw, .inl (cZ, 4, .inl wh)), (xb, .inr (5, [.ref xl, .ref xm, .int (nI n), .long bp, .long bq])), (xl, .inl (cI, 4, .inl bl)), (xm, .inl (cI, 4, .inl bm))]) (wr := [(pf, .inr (4, [.int (nI e9), .ref pn, .ref pr])), (pr, .inl (cL, 2772, .inr (.inl R)))]) (va_runS (As := [.ref a, .ref xb]) (rest := []) ⟨hx, hb, hml, hown, hts⟩ (cc_Proof_widest l D cI cZ cL cQ _ a al am aw ac ag ab n k xb xl xm n bp bq wh bl bm (by omega)) (mm_cwS 2 hts ml_Proof_73 sm_Proof_widest ic_Proof cd_Proof_widest rfl rfl (by decide +kernel) ⟨by show 0 + 1 ≤ 2 + (f + 1); omega, by show 8 + (5 + 11) + (0) ≤ 51 + 29 * (f + 1); omega⟩) (mm_preS hK hP hD [2, 3, 4, 5, 6] (by decide) rfl) rfl rfl hl.1 rfl (lv_room (Nat.le_of_ble_eq_true rfl)) dd_Proof_isSoundIn_12 ⟨Nat.zero_le _, Nat.zero_le _⟩) hP hD hS hA [2, 3, 4, 5, 6] [0, 1] rfl rfl (by decide) (by decide) (fun zr3 zu4 H locs p12 hP hD hS => ?_)
      have hP : va_P D kc_all [(pf, .inr (4, [.int (nI e9), .ref pn, .ref pr])), (pr, .inl (cL, 2772, .inr (.inl R))), (a, .inr (0, [.int (nI n), .int (nI k), .ref al, .ref am, .ref aw, .ref ac, .ref ag, .ref ab])), (aw, .inl (cZ, 4, .inl wh)), (xb, .inr (5, [.ref xl, .ref xm, .int (nI n), .long bp, .long bq])), (xl, .inl (cI, 4, .inl bl)), (xm, .inl (cI, 4, .inl bm))] H := hP
      have hD : va_D A [(pf, .inr (4, [.int (nI e9), .ref pn, .ref pr])), (pr, .inl (cL, 2772, .inr (.inl R))), (a, .inr (0, [.int (nI n), .int (nI k), .ref al, .ref am, .ref aw, .ref ac, .ref ag, .ref ab])), (aw, .inl (cZ, 4, .inl wh)), (xb, .inr (5, [.ref xl, .ref xm, .int (nI n), .long bp, .long bq])), (xl, .inl (cI, 4, .inl bl)), (xm, .inl (cI, 4, .inl bm))] := hD
      have p12 : zr3 = (wi_f wh bl bm n).1 := p12
      refine lv_istore (lv' := [(4, .int zr3), (0, .ref pf), (1, .ref a), (2, .ref xb), (3, .int (nI dp))]) hx hb dd_Proof_isSoundIn_15 hl (by decide) rfl (fun ls hl => ?_)
      refine lv_iload hx hb dd_Proof_isSoundIn_17 (lv_at hl 0 rfl) ?_
      refine lv_if_lt (tgt := 28) hx hb dd_Proof_isSoundIn_19 (by decide) (fun h19 => ?_) (fun h19 => ?_)
      · skip
        refine lv_iconst (v := 0) hx hb dd_Proof_isSoundIn_28 (by decide) ?_
        exact W.zret (v := (0 : Int32)) hx hb hr (rfl) (fun t ht hW => ⟨⟨(0 : Int32), (), rfl, by first | exact ps_w hn (tl_0 p2 h5) p12 h19 | exact ps_d (tl_0 p2 h5) (by omega), by rw [ht]; exact hP, va_K.moved hW.alike hK, hD⟩, hS.F ht⟩) hS.2.2 dd_Proof_isSoundIn_29
      · skip
        obtain ⟨jw, hjw, hje⟩ := wi_nat p12 h19
        refine lv_iload_n hx hb dd_Proof_isSoundIn_22 rfl (lv_at hl 4 rfl) ?_
        refine lv_bipush (v := 32) hx hb dd_Proof_isSoundIn_23 (by decide) ?_
        refine lv_icmp_lt (tgt := 30) hx hb dd_Proof_isSoundIn_25 (by decide) (fun h25 => ?_) (fun h25 => ?_)
        · skip
          have h25 : dp < 32 := (nI_ltI (a := dp) (b := 32) (by omega) (by omega)).mp h25
          refine lv_aload_n hx hb dd_Proof_isSoundIn_30 rfl (lv_at hl 3 rfl) ?_
          refine va_get (D := D) (ci := 5) (v := .ref xl) (C := RR_Box) (T := FF_Box) (N := 5) hx hb htb hi_Box hown hK hP 4 rfl rfl 0 (by decide) hf_77 (fun _ h9 => h9) rfl dd_Proof_isSoundIn_31 ?_
          refine lv_iload hx hb dd_Proof_isSoundIn_34 (lv_at hl 0 rfl) ?_
          refine mm_iald hx hb hK hP 5 0 rfl rfl (jw) (hje) (by omega) (by first | decide | omega) dd_Proof_isSoundIn_36 ?_
          refine lv_istore (lv' := [(5, .int (bl jw)), (4, .int zr3), (0, .ref pf), (1, .ref a), (2, .ref xb), (3, .int (nI dp))]) hx hb dd_Proof_isSoundIn_37 hl (by decide) rfl (fun ls hl => ?_)
          refine lv_aload_n hx hb dd_Proof_isSoundIn_39 rfl (lv_at hl 4 rfl) ?_
          refine va_get (D := D) (ci := 5) (v := .ref xm) (C := RR_Box) (T := FF_Box) (N := 5) hx hb htb hi_Box hown hK hP 4 rfl rfl 1 (by decide) hf_80 (fun _ h9 => h9) rfl dd_Proof_isSoundIn_40 ?_
          refine lv_iload hx hb dd_Proof_isSoundIn_43 (lv_at hl 1 rfl) ?_
          refine mm_iald hx hb hK hP 6 0 rfl rfl (jw) (hje) (by omega) (by first | decide | omega) dd_Proof_isSoundIn_45 ?_
          refine lv_istore (lv' := [(6, .int (bm jw)), (5, .int (bl jw)), (4, .int zr3), (0, .ref pf), (1, .ref a), (2, .ref xb), (3, .int (nI dp))]) hx hb dd_Proof_isSoundIn_46 hl (by decide) rfl (fun ls hl => ?_)
          refine lv_iload hx hb dd_Proof_isSoundIn_48 (lv_at hl 1 rfl) ?_
          refine lv_iload hx hb dd_Proof_isSoundIn_50 (lv_at hl 0 rfl) ?_
          refine lv_iadd hx hb dd_Proof_isSoundIn_52 ?_
          refine lv_iconst (v := 2) hx hb dd_Proof_isSoundIn_53 (by decide) ?_
          refine mm_i (wc := []) (wr := [(pf, .inr (4, [.int (nI e9), .ref pn, .ref pr])), (pr, .inl (cL, 2772, .inr (.inl R))), (a, .inr (0, [.int (nI n), .int (nI k), .ref al, .ref am, .ref aw, .ref ac, .ref ag, .ref ab])), (aw, .inl (cZ, 4, .inl wh)), (xb, .inr (5, [.ref xl, .ref xm, .int (nI n), .long bp, .long bq])), (xl, .inl (cI, 4, .inl bl)), (xm, .inl (cI, 4, .inl bm))]) (va_runS (As := [.int ((bl jw) + (bm jw)), .int (2 : Int32)]) (rest := []) ⟨hx, hb, hml, hown, hts⟩ (cc_Math_floorDiv l D cI cZ cL cQ _ ((bl jw) + (bm jw)) (2 : Int32) (by decide)) (mm_cwS 2 hts ml_Proof_83 sm_Math_floorDiv ic_Math cd_Math_floorDiv rfl rfl (by decide +kernel) ⟨by show 0 + 1 ≤ 2 + (f + 1); omega, by show 8 + (3 + 11) + (0) ≤ 51 + 29 * (f + 1); omega⟩) (mm_preS hK hP hD [] (by decide) rfl) rfl rfl hl.1 rfl (lv_room (Nat.le_of_ble_eq_true rfl)) dd_Proof_isSoundIn_54 ⟨Nat.zero_le _, Nat.zero_le _⟩) hP hD hS hA [] [0, 1, 2, 3, 4, 5, 6] rfl rfl (by decide) (by decide) (fun zr5 zu6 H locs p54 hP hD hS => ?_)
          have hP : va_P D kc_all [(pf, .inr (4, [.int (nI e9), .ref pn, .ref pr])), (pr, .inl (cL, 2772, .inr (.inl R))), (a, .inr (0, [.int (nI n), .int (nI k), .ref al, .ref am, .ref aw, .ref ac, .ref ag, .ref ab])), (aw, .inl (cZ, 4, .inl wh)), (xb, .inr (5, [.ref xl, .ref xm, .int (nI n), .long bp, .long bq])), (xl, .inl (cI, 4, .inl bl)), (xm, .inl (cI, 4, .inl bm))] H := hP
          have hD : va_D A [(pf, .inr (4, [.int (nI e9), .ref pn, .ref pr])), (pr, .inl (cL, 2772, .inr (.inl R))), (a, .inr (0, [.int (nI n), .int (nI k), .ref al, .ref am, .ref aw, .ref ac, .ref ag, .ref ab])), (aw, .inl (cZ, 4, .inl wh)), (xb, .inr (5, [.ref xl, .ref xm, .int (nI n), .long bp, .long bq])), (xl, .inl (cI, 4, .inl bl)), (xm, .inl (cI, 4, .inl bm))] := hD
          have p54 : zr5 = if 0 ≤ ((bl jw) + (bm jw)) ^^^ (2 : Int32) then ((bl jw) + (bm jw)) / (2 : Int32) else if (((bl jw) + (bm jw)) / (2 : Int32)) * (2 : Int32) = ((bl jw) + (bm jw)) then ((bl jw) + (bm jw)) / (2 : Int32) else ((bl jw) + (bm jw)) / (2 : Int32) - 1 := p54
          refine mm_topi (y := fd_f (bl jw + bm jw)) (p54) ?_
          refine lv_istore (lv' := [(7, .int (fd_f (bl jw + bm jw))), (6, .int (bm jw)), (5, .int (bl jw)), (4, .int zr3), (0, .ref pf), (1, .ref a), (2, .ref xb), (3, .int (nI dp))]) hx hb dd_Proof_isSoundIn_57 hl (by decide) rfl (fun ls hl => ?_)
          refine lv_aload_n hx hb dd_Proof_isSoundIn_59 rfl (lv_at hl 6 rfl) ?_
          refine va_get (D := D) (ci := 5) (v := .ref xm) (C := RR_Box) (T := FF_Box) (N := 5) hx hb htb hi_Box hown hK hP 4 rfl rfl 1 (by decide) hf_80 (fun _ h9 => h9) rfl dd_Proof_isSoundIn_60 ?_
          refine lv_iload hx hb dd_Proof_isSoundIn_63 (lv_at hl 3 rfl) ?_
          refine lv_iload hx hb dd_Proof_isSoundIn_65 (lv_at hl 0 rfl) ?_
          refine mm_iast hx hb hK hP hD hS 6 0 rfl rfl (jw) (hje) (by omega) (by first | decide | omega) dd_Proof_isSoundIn_67 (fun H locs hP hD hS => ?_)
          have hP : va_P D kc_all [(pf, .inr (4, [.int (nI e9), .ref pn, .ref pr])), (pr, .inl (cL, 2772, .inr (.inl R))), (a, .inr (0, [.int (nI n), .int (nI k), .ref al, .ref am, .ref aw, .ref ac, .ref ag, .ref ab])), (aw, .inl (cZ, 4, .inl wh)), (xb, .inr (5, [.ref xl, .ref xm, .int (nI n), .long bp, .long bq])), (xl, .inl (cI, 4, .inl bl)), (xm, .inl (cI, 4, .inl (upd bm jw (fd_f (bl jw + bm jw)))))] H := hP
          have hD : va_D A [(pf, .inr (4, [.int (nI e9), .ref pn, .ref pr])), (pr, .inl (cL, 2772, .inr (.inl R))), (a, .inr (0, [.int (nI n), .int (nI k), .ref al, .ref am, .ref aw, .ref ac, .ref ag, .ref ab])), (aw, .inl (cZ, 4, .inl wh)), (xb, .inr (5, [.ref xl, .ref xm, .int (nI n), .long bp, .long bq])), (xl, .inl (cI, 4, .inl bl)), (xm, .inl (cI, 4, .inl (upd bm jw (fd_f (bl jw + bm jw)))))] := hD
          refine lv_aload_n hx hb dd_Proof_isSoundIn_68 rfl (lv_at hl 4 rfl) ?_
          refine lv_aload_n hx hb dd_Proof_isSoundIn_69 rfl (lv_at hl 5 rfl) ?_
          refine lv_aload_n hx hb dd_Proof_isSoundIn_70 rfl (lv_at hl 6 rfl) ?_
          refine lv_iload_n hx hb dd_Proof_isSoundIn_71 rfl (lv_at hl 7 rfl) ?_
          refine lv_iconst (v := 1) hx hb dd_Proof_isSoundIn_72 (by decide) ?_
          refine lv_iadd hx hb dd_Proof_isSoundIn_73 ?_
          refine mm_topi (y := nI (dp + 1)) (nI_add dp 1) ?_
          refine mm_i (wc := [(pf, .inr (4, [.int (nI e9), .ref pn, .ref pr])), (pr, .inl (cL, 2772, .inr (.inl R))), (a, .inr (0, [.int (nI n), .int (nI k), .ref al, .ref am, .ref aw, .ref ac, .ref ag, .ref ab])), (aw, .inl (cZ, 4, .inl wh)), (xb, .inr (5, [.ref xl, .ref xm, .int (nI n), .long bp, .long bq])), (xl, .inl (cI, 4, .inl bl)), (xm, .inl (cI, 4, .inl (upd bm jw (fd_f (bl jw + bm jw)))))]) (wr := []) (va_runV (As := [.ref a, .ref xb, .int (nI (dp + 1))]) (rest := []) (C := RR_Proof) ⟨hx, hb, hml, hown, hts⟩ (IH _ pf pn pr xb xl xm a al am aw ac ag ab n k e9 bp bq R wh bl (upd bm jw (fd_f (bl jw + bm jw))) (dp + 1) (by omega) (by omega) (by omega)) (mm_cwV 3 hts ml_Proof_65 im_Proof_isSoundIn se_Proof_isSoundIn ic_Proof cd_Proof_isSoundIn rfl rfl (by decide +kernel) ⟨by show 2 + f + 1 ≤ 2 + (f + 1); omega, by show 8 + (10 + 11) + (51 + 29 * f) ≤ 51 + 29 * (f + 1); omega⟩) (mm_preV hK hP hD [0, 1, 2, 3, 4, 5, 6] (by decide) rfl 0 rfl rfl) rfl rfl hl.1 rfl (lv_room (Nat.le_of_ble_eq_true rfl)) dd_Proof_isSoundIn_74 ⟨Nat.zero_le _, Nat.zero_le _⟩) hP hD hS hA [0, 1, 2, 3, 4, 5, 6] [] rfl rfl (by decide) (by decide) (fun zr7 zu8 H locs p74 hP hD hS => ?_)
          have hP : va_P D kc_all [(pf, .inr (4, [.int (nI e9), .ref pn, .ref pr])), (pr, .inl (cL, 2772, .inr (.inl R))), (a, .inr (0, [.int (nI n), .int (nI k), .ref al, .ref am, .ref aw, .ref ac, .ref ag, .ref ab])), (aw, .inl (cZ, 4, .inl wh)), (xb, .inr (5, [.ref xl, .ref xm, .int (nI n), .long bp, .long bq])), (xl, .inl (cI, 4, .inl bl)), (xm, .inl (cI, 4, .inl (upd bm jw (fd_f (bl jw + bm jw)))))] H := hP
          have hD : va_D A [(pf, .inr (4, [.int (nI e9), .ref pn, .ref pr])), (pr, .inl (cL, 2772, .inr (.inl R))), (a, .inr (0, [.int (nI n), .int (nI k), .ref al, .ref am, .ref aw, .ref ac, .ref ag, .ref ab])), (aw, .inl (cZ, 4, .inl wh)), (xb, .inr (5, [.ref xl, .ref xm, .int (nI n), .long bp, .long bq])), (xl, .inl (cI, 4, .inl bl)), (xm, .inl (cI, 4, .inl (upd bm jw (fd_f (bl jw + bm jw)))))] := hD
          have p74 : tl_ok (ps_ok (he_ok R e9 n bp bq) (fun x8 y8 => (wi_f wh x8 y8 n).1) n f bl (upd bm jw (fd_f (bl jw + bm jw)))) zr7 := p74
          refine lv_istore (lv' := [(8, .int zr7), (7, .int (fd_f (bl jw + bm jw))), (6, .int (bm jw)), (5, .int (bl jw)), (4, .int zr3), (0, .ref pf), (1, .ref a), (2, .ref xb), (3, .int (nI dp))]) hx hb dd_Proof_isSoundIn_77 hl (by decide) rfl (fun ls hl => ?_)
          refine lv_aload_n hx hb dd_Proof_isSoundIn_79 rfl (lv_at hl 7 rfl) ?_
          refine va_get (D := D) (ci := 5) (v := .ref xm) (C := RR_Box) (T := FF_Box) (N := 5) hx hb htb hi_Box hown hK hP 4 rfl rfl 1 (by decide) hf_80 (fun _ h9 => h9) rfl dd_Proof_isSoundIn_80 ?_
          refine lv_iload hx hb dd_Proof_isSoundIn_83 (lv_at hl 4 rfl) ?_
          refine lv_iload hx hb dd_Proof_isSoundIn_85 (lv_at hl 2 rfl) ?_
          refine mm_iast hx hb hK hP hD hS 6 0 rfl rfl (jw) (hje) (by omega) (by first | decide | omega) dd_Proof_isSoundIn_87 (fun H locs hP hD hS => ?_)
          have hP : va_P D kc_all [(pf, .inr (4, [.int (nI e9), .ref pn, .ref pr])), (pr, .inl (cL, 2772, .inr (.inl R))), (a, .inr (0, [.int (nI n), .int (nI k), .ref al, .ref am, .ref aw, .ref ac, .ref ag, .ref ab])), (aw, .inl (cZ, 4, .inl wh)), (xb, .inr (5, [.ref xl, .ref xm, .int (nI n), .long bp, .long bq])), (xl, .inl (cI, 4, .inl bl)), (xm, .inl (cI, 4, .inl (upd (upd bm jw (fd_f (bl jw + bm jw))) jw (bm jw))))] H := hP
          have hD : va_D A [(pf, .inr (4, [.int (nI e9), .ref pn, .ref pr])), (pr, .inl (cL, 2772, .inr (.inl R))), (a, .inr (0, [.int (nI n), .int (nI k), .ref al, .ref am, .ref aw, .ref ac, .ref ag, .ref ab])), (aw, .inl (cZ, 4, .inl wh)), (xb, .inr (5, [.ref xl, .ref xm, .int (nI n), .long bp, .long bq])), (xl, .inl (cI, 4, .inl bl)), (xm, .inl (cI, 4, .inl (upd (upd bm jw (fd_f (bl jw + bm jw))) jw (bm jw))))] := hD
          rw [up_back] at hP hD
          have hP : va_P D kc_all [(pf, .inr (4, [.int (nI e9), .ref pn, .ref pr])), (pr, .inl (cL, 2772, .inr (.inl R))), (a, .inr (0, [.int (nI n), .int (nI k), .ref al, .ref am, .ref aw, .ref ac, .ref ag, .ref ab])), (aw, .inl (cZ, 4, .inl wh)), (xb, .inr (5, [.ref xl, .ref xm, .int (nI n), .long bp, .long bq])), (xl, .inl (cI, 4, .inl bl)), (xm, .inl (cI, 4, .inl bm))] H := hP
          have hD : va_D A [(pf, .inr (4, [.int (nI e9), .ref pn, .ref pr])), (pr, .inl (cL, 2772, .inr (.inl R))), (a, .inr (0, [.int (nI n), .int (nI k), .ref al, .ref am, .ref aw, .ref ac, .ref ag, .ref ab])), (aw, .inl (cZ, 4, .inl wh)), (xb, .inr (5, [.ref xl, .ref xm, .int (nI n), .long bp, .long bq])), (xl, .inl (cI, 4, .inl bl)), (xm, .inl (cI, 4, .inl bm))] := hD
          refine lv_iload hx hb dd_Proof_isSoundIn_88 (lv_at hl 0 rfl) ?_
          refine lv_if_ne (tgt := 95) hx hb dd_Proof_isSoundIn_90 (by decide) (fun h90 => ?_) (fun h90 => ?_)
          · skip
            refine lv_aload_n hx hb dd_Proof_isSoundIn_95 rfl (lv_at hl 7 rfl) ?_
            refine va_get (D := D) (ci := 5) (v := .ref xl) (C := RR_Box) (T := FF_Box) (N := 5) hx hb htb hi_Box hown hK hP 4 rfl rfl 0 (by decide) hf_77 (fun _ h9 => h9) rfl dd_Proof_isSoundIn_96 ?_
            refine lv_iload hx hb dd_Proof_isSoundIn_99 (lv_at hl 4 rfl) ?_
            refine lv_iload hx hb dd_Proof_isSoundIn_101 (lv_at hl 1 rfl) ?_
            refine lv_iconst (v := 1) hx hb dd_Proof_isSoundIn_103 (by decide) ?_
            refine lv_iadd hx hb dd_Proof_isSoundIn_104 ?_
            refine mm_iast hx hb hK hP hD hS 5 0 rfl rfl (jw) (hje) (by omega) (by first | decide | omega) dd_Proof_isSoundIn_105 (fun H locs hP hD hS => ?_)
            have hP : va_P D kc_all [(pf, .inr (4, [.int (nI e9), .ref pn, .ref pr])), (pr, .inl (cL, 2772, .inr (.inl R))), (a, .inr (0, [.int (nI n), .int (nI k), .ref al, .ref am, .ref aw, .ref ac, .ref ag, .ref ab])), (aw, .inl (cZ, 4, .inl wh)), (xb, .inr (5, [.ref xl, .ref xm, .int (nI n), .long bp, .long bq])), (xl, .inl (cI, 4, .inl (upd bl jw ((fd_f (bl jw + bm jw)) + (1 : Int32))))), (xm, .inl (cI, 4, .inl bm))] H := hP
            have hD : va_D A [(pf, .inr (4, [.int (nI e9), .ref pn, .ref pr])), (pr, .inl (cL, 2772, .inr (.inl R))), (a, .inr (0, [.int (nI n), .int (nI k), .ref al, .ref am, .ref aw, .ref ac, .ref ag, .ref ab])), (aw, .inl (cZ, 4, .inl wh)), (xb, .inr (5, [.ref xl, .ref xm, .int (nI n), .long bp, .long bq])), (xl, .inl (cI, 4, .inl (upd bl jw ((fd_f (bl jw + bm jw)) + (1 : Int32))))), (xm, .inl (cI, 4, .inl bm))] := hD
            refine lv_aload_n hx hb dd_Proof_isSoundIn_106 rfl (lv_at hl 5 rfl) ?_
            refine lv_aload_n hx hb dd_Proof_isSoundIn_107 rfl (lv_at hl 6 rfl) ?_
            refine lv_aload_n hx hb dd_Proof_isSoundIn_108 rfl (lv_at hl 7 rfl) ?_
            refine lv_iload_n hx hb dd_Proof_isSoundIn_109 rfl (lv_at hl 8 rfl) ?_
            refine lv_iconst (v := 1) hx hb dd_Proof_isSoundIn_110 (by decide) ?_
            refine lv_iadd hx hb dd_Proof_isSoundIn_111 ?_
            refine mm_topi (y := nI (dp + 1)) (nI_add dp 1) ?_
            refine mm_i (wc := [(pf, .inr (4, [.int (nI e9), .ref pn, .ref pr])), (pr, .inl (cL, 2772, .inr (.inl R))), (a, .inr (0, [.int (nI n), .int (nI k), .ref al, .ref am, .ref aw, .ref ac, .ref ag, .ref ab])), (aw, .inl (cZ, 4, .inl wh)), (xb, .inr (5, [.ref xl, .ref xm, .int (nI n), .long bp, .long bq])), (xl, .inl (cI, 4, .inl (upd bl jw ((fd_f (bl jw + bm jw)) + (1 : Int32))))), (xm, .inl (cI, 4, .inl bm))]) (wr := []) (va_runV (As := [.ref a, .ref xb, .int (nI (dp + 1))]) (rest := []) (C := RR_Proof) ⟨hx, hb, hml, hown, hts⟩ (IH _ pf pn pr xb xl xm a al am aw ac ag ab n k e9 bp bq R wh (upd bl jw ((fd_f (bl jw + bm jw)) + (1 : Int32))) bm (dp + 1) (by omega) (by omega) (by omega)) (mm_cwV 3 hts ml_Proof_65 im_Proof_isSoundIn se_Proof_isSoundIn ic_Proof cd_Proof_isSoundIn rfl rfl (by decide +kernel) ⟨by show 2 + f + 1 ≤ 2 + (f + 1); omega, by show 8 + (10 + 11) + (51 + 29 * f) ≤ 51 + 29 * (f + 1); omega⟩) (mm_preV hK hP hD [0, 1, 2, 3, 4, 5, 6] (by decide) rfl 0 rfl rfl) rfl rfl hl.1 rfl (lv_room (Nat.le_of_ble_eq_true rfl)) dd_Proof_isSoundIn_112 ⟨Nat.zero_le _, Nat.zero_le _⟩) hP hD hS hA [0, 1, 2, 3, 4, 5, 6] [] rfl rfl (by decide) (by decide) (fun zr9 zu10 H locs p112 hP hD hS => ?_)
            have hP : va_P D kc_all [(pf, .inr (4, [.int (nI e9), .ref pn, .ref pr])), (pr, .inl (cL, 2772, .inr (.inl R))), (a, .inr (0, [.int (nI n), .int (nI k), .ref al, .ref am, .ref aw, .ref ac, .ref ag, .ref ab])), (aw, .inl (cZ, 4, .inl wh)), (xb, .inr (5, [.ref xl, .ref xm, .int (nI n), .long bp, .long bq])), (xl, .inl (cI, 4, .inl (upd bl jw ((fd_f (bl jw + bm jw)) + (1 : Int32))))), (xm, .inl (cI, 4, .inl bm))] H := hP
            have hD : va_D A [(pf, .inr (4, [.int (nI e9), .ref pn, .ref pr])), (pr, .inl (cL, 2772, .inr (.inl R))), (a, .inr (0, [.int (nI n), .int (nI k), .ref al, .ref am, .ref aw, .ref ac, .ref ag, .ref ab])), (aw, .inl (cZ, 4, .inl wh)), (xb, .inr (5, [.ref xl, .ref xm, .int (nI n), .long bp, .long bq])), (xl, .inl (cI, 4, .inl (upd bl jw ((fd_f (bl jw + bm jw)) + (1 : Int32))))), (xm, .inl (cI, 4, .inl bm))] := hD
            have p112 : tl_ok (ps_ok (he_ok R e9 n bp bq) (fun x8 y8 => (wi_f wh x8 y8 n).1) n f (upd bl jw ((fd_f (bl jw + bm jw)) + (1 : Int32))) bm) zr9 := p112
            refine lv_istore (lv' := [(9, .int zr9), (8, .int zr7), (7, .int (fd_f (bl jw + bm jw))), (6, .int (bm jw)), (5, .int (bl jw)), (4, .int zr3), (0, .ref pf), (1, .ref a), (2, .ref xb), (3, .int (nI dp))]) hx hb dd_Proof_isSoundIn_115 hl (by decide) rfl (fun ls hl => ?_)
            refine lv_aload_n hx hb dd_Proof_isSoundIn_117 rfl (lv_at hl 8 rfl) ?_
            refine va_get (D := D) (ci := 5) (v := .ref xl) (C := RR_Box) (T := FF_Box) (N := 5) hx hb htb hi_Box hown hK hP 4 rfl rfl 0 (by decide) hf_77 (fun _ h9 => h9) rfl dd_Proof_isSoundIn_118 ?_
            refine lv_iload hx hb dd_Proof_isSoundIn_121 (lv_at hl 5 rfl) ?_
            refine lv_iload hx hb dd_Proof_isSoundIn_123 (lv_at hl 4 rfl) ?_
            refine mm_iast hx hb hK hP hD hS 5 0 rfl rfl (jw) (hje) (by omega) (by first | decide | omega) dd_Proof_isSoundIn_125 (fun H locs hP hD hS => ?_)
            have hP : va_P D kc_all [(pf, .inr (4, [.int (nI e9), .ref pn, .ref pr])), (pr, .inl (cL, 2772, .inr (.inl R))), (a, .inr (0, [.int (nI n), .int (nI k), .ref al, .ref am, .ref aw, .ref ac, .ref ag, .ref ab])), (aw, .inl (cZ, 4, .inl wh)), (xb, .inr (5, [.ref xl, .ref xm, .int (nI n), .long bp, .long bq])), (xl, .inl (cI, 4, .inl (upd (upd bl jw ((fd_f (bl jw + bm jw)) + (1 : Int32))) jw (bl jw)))), (xm, .inl (cI, 4, .inl bm))] H := hP
            have hD : va_D A [(pf, .inr (4, [.int (nI e9), .ref pn, .ref pr])), (pr, .inl (cL, 2772, .inr (.inl R))), (a, .inr (0, [.int (nI n), .int (nI k), .ref al, .ref am, .ref aw, .ref ac, .ref ag, .ref ab])), (aw, .inl (cZ, 4, .inl wh)), (xb, .inr (5, [.ref xl, .ref xm, .int (nI n), .long bp, .long bq])), (xl, .inl (cI, 4, .inl (upd (upd bl jw ((fd_f (bl jw + bm jw)) + (1 : Int32))) jw (bl jw)))), (xm, .inl (cI, 4, .inl bm))] := hD
            rw [up_back] at hP hD
            have hP : va_P D kc_all [(pf, .inr (4, [.int (nI e9), .ref pn, .ref pr])), (pr, .inl (cL, 2772, .inr (.inl R))), (a, .inr (0, [.int (nI n), .int (nI k), .ref al, .ref am, .ref aw, .ref ac, .ref ag, .ref ab])), (aw, .inl (cZ, 4, .inl wh)), (xb, .inr (5, [.ref xl, .ref xm, .int (nI n), .long bp, .long bq])), (xl, .inl (cI, 4, .inl bl)), (xm, .inl (cI, 4, .inl bm))] H := hP
            have hD : va_D A [(pf, .inr (4, [.int (nI e9), .ref pn, .ref pr])), (pr, .inl (cL, 2772, .inr (.inl R))), (a, .inr (0, [.int (nI n), .int (nI k), .ref al, .ref am, .ref aw, .ref ac, .ref ag, .ref ab])), (aw, .inl (cZ, 4, .inl wh)), (xb, .inr (5, [.ref xl, .ref xm, .int (nI n), .long bp, .long bq])), (xl, .inl (cI, 4, .inl bl)), (xm, .inl (cI, 4, .inl bm))] := hD
            refine lv_iload hx hb dd_Proof_isSoundIn_126 (lv_at hl 0 rfl) ?_
            exact W.zret (v := zr9) hx hb hr (tl_nar p112) (fun t ht hW => ⟨⟨zr9, (), rfl, ps_2 hn (tl_0 p2 h5) (by omega) hjw p12 hje p74 h90 p112, by rw [ht]; exact hP, va_K.moved hW.alike hK, hD⟩, hS.F ht⟩) hS.2.2 dd_Proof_isSoundIn_128
          · skip
            refine lv_iconst (v := 0) hx hb dd_Proof_isSoundIn_93 (by decide) ?_
            exact W.zret (v := (0 : Int32)) hx hb hr (rfl) (fun t ht hW => ⟨⟨(0 : Int32), (), rfl, ps_1 hn (tl_0 p2 h5) hjw p12 hje p74 h90, by rw [ht]; exact hP, va_K.moved hW.alike hK, hD⟩, hS.F ht⟩) hS.2.2 dd_Proof_isSoundIn_94
        · skip
          have h25 : ¬ (dp < 32) := fun q9 => h25 ((nI_ltI (a := dp) (b := 32) (by omega) (by omega)).mpr q9)
          refine lv_iconst (v := 0) hx hb dd_Proof_isSoundIn_28 (by decide) ?_
          exact W.zret (v := (0 : Int32)) hx hb hr (rfl) (fun t ht hW => ⟨⟨(0 : Int32), (), rfl, by first | exact ps_w hn (tl_0 p2 h5) p12 h19 | exact ps_d (tl_0 p2 h5) (by omega), by rw [ht]; exact hP, va_K.moved hW.alike hK, hD⟩, hS.F ht⟩) hS.2.2 dd_Proof_isSoundIn_29
    · skip
      refine lv_iconst (v := 1) hx hb dd_Proof_isSoundIn_8 (by decide) ?_
      exact W.zret (v := (1 : Int32)) hx hb hr (rfl) (fun t ht hW => ⟨⟨(1 : Int32), (), rfl, ps_t (tl_1 p2 h5), by rw [ht]; exact hP, va_K.moved hW.alike hK, hD⟩, hS.F ht⟩) hS.2.2 dd_Proof_isSoundIn_9
abbrev qq_Proof_holds (D : va_G) (cI cZ cL cQ : ClassId) (pf : Nat) (pn : Nat) (pr : Nat) (xb : Nat) (xl : Nat) (xm : Nat) (a : Nat) (al : Nat) (am : Nat) (aw : Nat) (ac : Nat) (ag : Nat) (ab : Nat) (n : Nat) (k : Nat) (e9 : Nat) (bp : Int64) (bq : Int64) (R : Nat → Int64) (wh : Nat → Int32) (bl : Nat → Int32) (bm : Nat → Int32) (A : Nat → Prop) : Array Value → State → Outcome → State → Prop := va_Qi (fun (r : Int32) (u : Unit) => tl_ok (ps_ok (he_ok R e9 n bp bq) (fun x8 y8 => (wi_f wh x8 y8 n).1) n 33 bl bm) r) (fun (u : Unit) t => mm_B D kc_all [(cI, .int), (cZ, .boolean), (cL, .long), (cQ, .array .int)] A [(pf, .inr (4, [.int (nI e9), .ref pn, .ref pr])), (pr, .inl (cL, 2772, .inr (.inl R))), (a, .inr (0, [.int (nI n), .int (nI k), .ref al, .ref am, .ref aw, .ref ac, .ref ag, .ref ab])), (aw, .inl (cZ, 4, .inl wh)), (xb, .inr (5, [.ref xl, .ref xm, .int (nI n), .long bp, .long bq])), (xl, .inl (cI, 4, .inl bl)), (xm, .inl (cI, 4, .inl bm))] t) A
set_option maxHeartbeats 4000000 in
set_option maxRecDepth 100000 in
theorem cc_Proof_holds (l : Launch) (D : va_G) (cI cZ cL cQ : ClassId) (sz : Nat) (pf : Nat) (pn : Nat) (pr : Nat) (xb : Nat) (xl : Nat) (xm : Nat) (a : Nat) (al : Nat) (am : Nat) (aw : Nat) (ac : Nat) (ag : Nat) (ab : Nat) (n : Nat) (k : Nat) (e9 : Nat) (bp : Int64) (bq : Int64) (R : Nat → Int64) (wh : Nat → Int32) (bl : Nat → Int32) (bm : Nat → Int32) (hn : n ≤ 4) (he : e9 ≤ 462) : Met l yy_Proof_holds ww_Proof_holds ({ frames := 36, cells := 0, slots := 0, locals := 1037 } : Room) (mm_Pc D kc_all [(cI, .int), (cZ, .boolean), (cL, .long), (cQ, .array .int)] sz [(pf, .inr (4, [.int (nI e9), .ref pn, .ref pr])), (pr, .inl (cL, 2772, .inr (.inl R))), (a, .inr (0, [.int (nI n), .int (nI k), .ref al, .ref am, .ref aw, .ref ac, .ref ag, .ref ab])), (aw, .inl (cZ, 4, .inl wh)), (xb, .inr (5, [.ref xl, .ref xm, .int (nI n), .long bp, .long bq])), (xl, .inl (cI, 4, .inl bl)), (xm, .inl (cI, 4, .inl bm))] [.ref pf, .ref a, .ref xb]) (qq_Proof_holds D cI cZ cL cQ pf pn pr xb xl xm a al am aw ac ag ab n k e9 bp bq R wh bl bm (va_A [(pf, .inr (4, [.int (nI e9), .ref pn, .ref pr])), (pr, .inl (cL, 2772, .inr (.inl R))), (a, .inr (0, [.int (nI n), .int (nI k), .ref al, .ref am, .ref aw, .ref ac, .ref ag, .ref ab])), (aw, .inl (cZ, 4, .inl wh)), (xb, .inr (5, [.ref xl, .ref xm, .int (nI n), .long bp, .long bq])), (xl, .inl (cI, 4, .inl bl)), (xm, .inl (cI, 4, .inl bm))] sz)) 0 0 (va_A [(pf, .inr (4, [.int (nI e9), .ref pn, .ref pr])), (pr, .inl (cL, 2772, .inr (.inl R))), (a, .inr (0, [.int (nI n), .int (nI k), .ref al, .ref am, .ref aw, .ref ac, .ref ag, .ref ab])), (aw, .inl (cZ, 4, .inl wh)), (xb, .inr (5, [.ref xl, .ref xm, .int (nI n), .long bp, .long bq])), (xl, .inl (cI, 4, .inl bl)), (xm, .inl (cI, 4, .inl bm))] sz) := by
  refine Met.ofW (cc := bb_Proof_holds) (maxL := 3) (ret := (some .boolean)) (by decide) rfl ?_
  intro p e s m args below meth c s₁ B hml hv
  obtain ⟨rfl, hsz, hP, hK, hD0⟩ := hv
  have hx := B.exec
  have hb := B.bytes
  have hr := B.returns
  have hts := atoms_spec (ws := ww_Proof_holds) B.pre
  have hown : s.vm.findClass RR_Proof = some m.cls := findClass_of_methodNamed B.named
  have hlocks := B.notSynchronized
  subst hsz
  have hD := hD0.self (sz := s.heap.size)
  generalize hAe : va_A [(pf, .inr (4, [.int (nI e9), .ref pn, .ref pr])), (pr, .inl (cL, 2772, .inr (.inl R))), (a, .inr (0, [.int (nI n), .int (nI k), .ref al, .ref am, .ref aw, .ref ac, .ref ag, .ref ab])), (aw, .inl (cZ, 4, .inl wh)), (xb, .inr (5, [.ref xl, .ref xm, .int (nI n), .long bp, .long bq])), (xl, .inl (cI, 4, .inl bl)), (xm, .inl (cI, 4, .inl bm))] s.heap.size = A at hD ⊢
  have hA : ∀ q : Nat, s.heap.size ≤ q → A q := fun q h => by rw [← hAe]; exact Or.inr h
  have hS : va_S A s.heap s.heap [] := va_S.rf
  have hP : va_P D kc_all [(pf, .inr (4, [.int (nI e9), .ref pn, .ref pr])), (pr, .inl (cL, 2772, .inr (.inl R))), (a, .inr (0, [.int (nI n), .int (nI k), .ref al, .ref am, .ref aw, .ref ac, .ref ag, .ref ab])), (aw, .inl (cZ, 4, .inl wh)), (xb, .inr (5, [.ref xl, .ref xm, .int (nI n), .long bp, .long bq])), (xl, .inl (cI, 4, .inl bl)), (xm, .inl (cI, 4, .inl bm))] s.heap := hP
  have hl := lv_entry ([.ref pf, .ref a, .ref xb]) (n := 3) (Nat.le_of_ble_eq_true rfl)
  rw [lg_entry_eq]
  generalize (lg_sl ([.ref pf, .ref a, .ref xb]) ++ List.replicate (3 - (lg_sl ([.ref pf, .ref a, .ref xb])).length) Slot.unset).toArray = ls at hl ⊢
  have hl : lv_has ls 3 [(0, .ref pf), (1, .ref a), (2, .ref xb)] := hl
  have htb : ∀ w ∈ tb_all, w.before ([.ref pf, .ref a, .ref xb]).toArray s = true := fun w h => hts w (List.mem_cons_of_mem _ h)
  refine lv_aload_n hx hb dd_Proof_holds_0 rfl (lv_at hl 0 rfl) ?_
  refine lv_aload_n hx hb dd_Proof_holds_1 rfl (lv_at hl 1 rfl) ?_
  refine lv_aload_n hx hb dd_Proof_holds_2 rfl (lv_at hl 2 rfl) ?_
  refine lv_iconst (v := 0) hx hb dd_Proof_holds_3 (by decide) ?_
  refine mm_i (wc := [(pf, .inr (4, [.int (nI e9), .ref pn, .ref pr])), (pr, .inl (cL, 2772, .inr (.inl R))), (a, .inr (0, [.int (nI n), .int (nI k), .ref al, .ref am, .ref aw, .ref ac, .ref ag, .ref ab])), (aw, .inl (cZ, 4, .inl wh)), (xb, .inr (5, [.ref xl, .ref xm, .int (nI n), .long bp, .long bq])), (xl, .inl (cI, 4, .inl bl)), (xm, .inl (cI, 4, .inl bm))]) (wr := []) (va_runV (As := [.ref a, .ref xb, .int (0 : Int32)]) (rest := []) (C := RR_Proof) ⟨hx, hb, hml, hown, hts⟩ (cc_Proof_isSoundIn l D cI cZ cL cQ 33 _ pf pn pr xb xl xm a al am aw ac ag ab n k e9 bp bq R wh bl bm 0 (by omega) (by omega) (by omega)) (mm_cwV 3 hts ml_Proof_65 im_Proof_isSoundIn se_Proof_isSoundIn ic_Proof cd_Proof_isSoundIn rfl rfl (by decide +kernel) ⟨Nat.le_of_ble_eq_true rfl, Nat.le_of_ble_eq_true rfl⟩) (mm_preV hK hP hD [0, 1, 2, 3, 4, 5, 6] (by decide) rfl 0 rfl rfl) rfl rfl hl.1 rfl (lv_room (Nat.le_of_ble_eq_true rfl)) dd_Proof_holds_4 ⟨Nat.zero_le _, Nat.zero_le _⟩) hP hD hS hA [0, 1, 2, 3, 4, 5, 6] [] rfl rfl (by decide) (by decide) (fun zr1 zu2 H locs p4 hP hD hS => ?_)
  have hP : va_P D kc_all [(pf, .inr (4, [.int (nI e9), .ref pn, .ref pr])), (pr, .inl (cL, 2772, .inr (.inl R))), (a, .inr (0, [.int (nI n), .int (nI k), .ref al, .ref am, .ref aw, .ref ac, .ref ag, .ref ab])), (aw, .inl (cZ, 4, .inl wh)), (xb, .inr (5, [.ref xl, .ref xm, .int (nI n), .long bp, .long bq])), (xl, .inl (cI, 4, .inl bl)), (xm, .inl (cI, 4, .inl bm))] H := hP
  have hD : va_D A [(pf, .inr (4, [.int (nI e9), .ref pn, .ref pr])), (pr, .inl (cL, 2772, .inr (.inl R))), (a, .inr (0, [.int (nI n), .int (nI k), .ref al, .ref am, .ref aw, .ref ac, .ref ag, .ref ab])), (aw, .inl (cZ, 4, .inl wh)), (xb, .inr (5, [.ref xl, .ref xm, .int (nI n), .long bp, .long bq])), (xl, .inl (cI, 4, .inl bl)), (xm, .inl (cI, 4, .inl bm))] := hD
  have p4 : tl_ok (ps_ok (he_ok R e9 n bp bq) (fun x8 y8 => (wi_f wh x8 y8 n).1) n 33 bl bm) zr1 := p4
  exact W.zret (v := zr1) hx hb hr (tl_nar p4) (fun t ht hW => ⟨⟨zr1, (), rfl, p4, by rw [ht]; exact hP, va_K.moved hW.alike hK, hD⟩, hS.F ht⟩) hS.2.2 dd_Proof_holds_7
abbrev qq_Proof_gather (D : va_G) (cI cZ cL cQ : ClassId) (pf : Nat) (pn : Nat) (pr : Nat) (mi : Nat) (mv : Nat) (a : Nat) (al : Nat) (am : Nat) (aw : Nat) (ac : Nat) (ag : Nat) (ab : Nat) (n : Nat) (k : Nat) (e0 : Int32) (wc : Int32) (R : Nat → Int64) (num : Nat → Int32) (vals : Nat → Int32) (co : Nat → Int32) (rw : Nat → Nat) (M : Nat → Nat → Int32) (bd : Nat → Int32) (A : Nat → Prop) : Array Value → State → Outcome → State → Prop := va_Qv (fun u : gt_T => u = fl_g (gr_f vals co M bd k (th_f wc k)) (2 ^ n) (0, R, num) ∧ u.1 ≤ 462) (fun (u : gt_T) t => mm_B D kc_all [(cI, .int), (cZ, .boolean), (cL, .long), (cQ, .array .int)] A [(pf, .inr (4, [.int (nI u.1), .ref pn, .ref pr])), (pn, .inl (cI, 7, .inl u.2.2)), (pr, .inl (cL, 2772, .inr (.inl u.2.1))), (mi, .inr (1, [.ref mv])), (mv, .inl (cI, 2048, .inl vals)), (a, .inr (0, [.int (nI n), .int (nI k), .ref al, .ref am, .ref aw, .ref ac, .ref ag, .ref ab])), (ac, .inl (cI, 4, .inl co)), (ag, .inl (cQ, 6, .inr (.inr (.inr (.inr (fun i9 => some (rw i9))))))), (rw 0, .inl (cI, 4, .inl (M 0))), (rw 1, .inl (cI, 4, .inl (M 1))), (rw 2, .inl (cI, 4, .inl (M 2))), (rw 3, .inl (cI, 4, .inl (M 3))), (rw 4, .inl (cI, 4, .inl (M 4))), (rw 5, .inl (cI, 4, .inl (M 5))), (ab, .inl (cI, 6, .inl bd))] t) A
set_option maxHeartbeats 4000000 in
set_option maxRecDepth 100000 in
theorem cc_Proof_gather (l : Launch) (D : va_G) (cI cZ cL cQ : ClassId) (sz : Nat) (pf : Nat) (pn : Nat) (pr : Nat) (mi : Nat) (mv : Nat) (a : Nat) (al : Nat) (am : Nat) (aw : Nat) (ac : Nat) (ag : Nat) (ab : Nat) (n : Nat) (k : Nat) (e0 : Int32) (wc : Int32) (R : Nat → Int64) (num : Nat → Int32) (vals : Nat → Int32) (co : Nat → Int32) (rw : Nat → Nat) (M : Nat → Nat → Int32) (bd : Nat → Int32) (hn : n ≤ 4) (hk : k ≤ 6) : Met l yy_Proof_gather ww_Proof_gather ({ frames := 2, cells := 0, slots := 0, locals := 50 } : Room) (mm_Pc D kc_all [(cI, .int), (cZ, .boolean), (cL, .long), (cQ, .array .int)] sz [(pf, .inr (4, [.int e0, .ref pn, .ref pr])), (pn, .inl (cI, 7, .inl num)), (pr, .inl (cL, 2772, .inr (.inl R))), (mi, .inr (1, [.ref mv])), (mv, .inl (cI, 2048, .inl vals)), (a, .inr (0, [.int (nI n), .int (nI k), .ref al, .ref am, .ref aw, .ref ac, .ref ag, .ref ab])), (ac, .inl (cI, 4, .inl co)), (ag, .inl (cQ, 6, .inr (.inr (.inr (.inr (fun i9 => some (rw i9))))))), (rw 0, .inl (cI, 4, .inl (M 0))), (rw 1, .inl (cI, 4, .inl (M 1))), (rw 2, .inl (cI, 4, .inl (M 2))), (rw 3, .inl (cI, 4, .inl (M 3))), (rw 4, .inl (cI, 4, .inl (M 4))), (rw 5, .inl (cI, 4, .inl (M 5))), (ab, .inl (cI, 6, .inl bd))] [.ref pf, .ref a, .ref mi, .int wc]) (qq_Proof_gather D cI cZ cL cQ pf pn pr mi mv a al am aw ac ag ab n k e0 wc R num vals co rw M bd (va_A [(pf, .inr (4, [.int e0, .ref pn, .ref pr])), (pn, .inl (cI, 7, .inl num)), (pr, .inl (cL, 2772, .inr (.inl R))), (mi, .inr (1, [.ref mv])), (mv, .inl (cI, 2048, .inl vals)), (a, .inr (0, [.int (nI n), .int (nI k), .ref al, .ref am, .ref aw, .ref ac, .ref ag, .ref ab])), (ac, .inl (cI, 4, .inl co)), (ag, .inl (cQ, 6, .inr (.inr (.inr (.inr (fun i9 => some (rw i9))))))), (rw 0, .inl (cI, 4, .inl (M 0))), (rw 1, .inl (cI, 4, .inl (M 1))), (rw 2, .inl (cI, 4, .inl (M 2))), (rw 3, .inl (cI, 4, .inl (M 3))), (rw 4, .inl (cI, 4, .inl (M 4))), (rw 5, .inl (cI, 4, .inl (M 5))), (ab, .inl (cI, 6, .inl bd))] sz)) 0 0 (va_A [(pf, .inr (4, [.int e0, .ref pn, .ref pr])), (pn, .inl (cI, 7, .inl num)), (pr, .inl (cL, 2772, .inr (.inl R))), (mi, .inr (1, [.ref mv])), (mv, .inl (cI, 2048, .inl vals)), (a, .inr (0, [.int (nI n), .int (nI k), .ref al, .ref am, .ref aw, .ref ac, .ref ag, .ref ab])), (ac, .inl (cI, 4, .inl co)), (ag, .inl (cQ, 6, .inr (.inr (.inr (.inr (fun i9 => some (rw i9))))))), (rw 0, .inl (cI, 4, .inl (M 0))), (rw 1, .inl (cI, 4, .inl (M 1))), (rw 2, .inl (cI, 4, .inl (M 2))), (rw 3, .inl (cI, 4, .inl (M 3))), (rw 4, .inl (cI, 4, .inl (M 4))), (rw 5, .inl (cI, 4, .inl (M 5))), (ab, .inl (cI, 6, .inl bd))] sz) := by
  refine Met.ofW (cc := bb_Proof_gather) (maxL := 8) (ret := none) (by decide) rfl ?_
  intro p e s m args below meth c s₁ B hml hv
  obtain ⟨rfl, hsz, hP, hK, hD0⟩ := hv
  have hx := B.exec
  have hb := B.bytes
  have hr := B.returns
  have hts := atoms_spec (ws := ww_Proof_gather) B.pre
  have hown : s.vm.findClass RR_Proof = some m.cls := findClass_of_methodNamed B.named
  have hlocks := B.notSynchronized
  subst hsz
  have hD := hD0.self (sz := s.heap.size)
  generalize hAe : va_A [(pf, .inr (4, [.int e0, .ref pn, .ref pr])), (pn, .inl (cI, 7, .inl num)), (pr, .inl (cL, 2772, .inr (.inl R))), (mi, .inr (1, [.ref mv])), (mv, .inl (cI, 2048, .inl vals)), (a, .inr (0, [.int (nI n), .int (nI k), .ref al, .ref am, .ref aw, .ref ac, .ref ag, .ref ab])), (ac, .inl (cI, 4, .inl co)), (ag, .inl (cQ, 6, .inr (.inr (.inr (.inr (fun i9 => some (rw i9))))))), (rw 0, .inl (cI, 4, .inl (M 0))), (rw 1, .inl (cI, 4, .inl (M 1))), (rw 2, .inl (cI, 4, .inl (M 2))), (rw 3, .inl (cI, 4, .inl (M 3))), (rw 4, .inl (cI, 4, .inl (M 4))), (rw 5, .inl (cI, 4, .inl (M 5))), (ab, .inl (cI, 6, .inl bd))] s.heap.size = A at hD ⊢
  have hA : ∀ q : Nat, s.heap.size ≤ q → A q := fun q h => by rw [← hAe]; exact Or.inr h
  have hS : va_S A s.heap s.heap [] := va_S.rf
  have hP : va_P D kc_all [(pf, .inr (4, [.int e0, .ref pn, .ref pr])), (pn, .inl (cI, 7, .inl num)), (pr, .inl (cL, 2772, .inr (.inl R))), (mi, .inr (1, [.ref mv])), (mv, .inl (cI, 2048, .inl vals)), (a, .inr (0, [.int (nI n), .int (nI k), .ref al, .ref am, .ref aw, .ref ac, .ref ag, .ref ab])), (ac, .inl (cI, 4, .inl co)), (ag, .inl (cQ, 6, .inr (.inr (.inr (.inr (fun i9 => some (rw i9))))))), (rw 0, .inl (cI, 4, .inl (M 0))), (rw 1, .inl (cI, 4, .inl (M 1))), (rw 2, .inl (cI, 4, .inl (M 2))), (rw 3, .inl (cI, 4, .inl (M 3))), (rw 4, .inl (cI, 4, .inl (M 4))), (rw 5, .inl (cI, 4, .inl (M 5))), (ab, .inl (cI, 6, .inl bd))] s.heap := hP
  have hl := lv_entry ([.ref pf, .ref a, .ref mi, .int wc]) (n := 8) (Nat.le_of_ble_eq_true rfl)
  rw [lg_entry_eq]
  generalize (lg_sl ([.ref pf, .ref a, .ref mi, .int wc]) ++ List.replicate (8 - (lg_sl ([.ref pf, .ref a, .ref mi, .int wc])).length) Slot.unset).toArray = ls at hl ⊢
  have hl : lv_has ls 8 [(0, .ref pf), (1, .ref a), (2, .ref mi), (3, .int wc)] := hl
  have htb : ∀ w ∈ tb_all, w.before ([.ref pf, .ref a, .ref mi, .int wc]).toArray s = true := fun w h => hts w (List.mem_cons_of_mem _ h)
  have hf_11 := htb _ fl_Proof_11
  have hf_17 := htb _ fl_Proof_17
  have hf_23 := htb _ fl_Proof_23
  have hf_33 := htb _ fl_Proof_33
  have h16 := bt_2lt n hn
  have h64 := bt_64 k hk
  have hth := th_lt (wc := wc) hk
  refine lv_aload_n hx hb dd_Proof_gather_0 rfl (lv_at hl 0 rfl) ?_
  refine lv_iconst (v := 0) hx hb dd_Proof_gather_1 (by decide) ?_
  refine va_put (D := D) (ci := 4) (v := .int (0 : Int32)) (ty := .int) (C := RR_Proof) (T := FF_Proof) (N := 3) hx hb htb hi_Proof tt_Proof tt_Proof_ok nn_Proof hown hK hP hD hS 0 rfl rfl 0 (by decide) hf_11 (fun _ h9 => h9) rfl (by decide +kernel) (rfl) (rfl) (Nat.le_of_ble_eq_true rfl) dd_Proof_gather_2 (fun H locs hP hD hS => ?_)
  have hP : va_P D kc_all [(pf, .inr (4, [.int (0 : Int32), .ref pn, .ref pr])), (pn, .inl (cI, 7, .inl num)), (pr, .inl (cL, 2772, .inr (.inl R))), (mi, .inr (1, [.ref mv])), (mv, .inl (cI, 2048, .inl vals)), (a, .inr (0, [.int (nI n), .int (nI k), .ref al, .ref am, .ref aw, .ref ac, .ref ag, .ref ab])), (ac, .inl (cI, 4, .inl co)), (ag, .inl (cQ, 6, .inr (.inr (.inr (.inr (fun i9 => some (rw i9))))))), (rw 0, .inl (cI, 4, .inl (M 0))), (rw 1, .inl (cI, 4, .inl (M 1))), (rw 2, .inl (cI, 4, .inl (M 2))), (rw 3, .inl (cI, 4, .inl (M 3))), (rw 4, .inl (cI, 4, .inl (M 4))), (rw 5, .inl (cI, 4, .inl (M 5))), (ab, .inl (cI, 6, .inl bd))] H := hP
  have hD : va_D A [(pf, .inr (4, [.int (0 : Int32), .ref pn, .ref pr])), (pn, .inl (cI, 7, .inl num)), (pr, .inl (cL, 2772, .inr (.inl R))), (mi, .inr (1, [.ref mv])), (mv, .inl (cI, 2048, .inl vals)), (a, .inr (0, [.int (nI n), .int (nI k), .ref al, .ref am, .ref aw, .ref ac, .ref ag, .ref ab])), (ac, .inl (cI, 4, .inl co)), (ag, .inl (cQ, 6, .inr (.inr (.inr (.inr (fun i9 => some (rw i9))))))), (rw 0, .inl (cI, 4, .inl (M 0))), (rw 1, .inl (cI, 4, .inl (M 1))), (rw 2, .inl (cI, 4, .inl (M 2))), (rw 3, .inl (cI, 4, .inl (M 3))), (rw 4, .inl (cI, 4, .inl (M 4))), (rw 5, .inl (cI, 4, .inl (M 5))), (ab, .inl (cI, 6, .inl bd))] := hD
  have J22 : ∀ (th : Nat) (hte : th = th_f wc k), ∀ (ls : Array Slot) (H : Heap) (locs : List Loc), lv_has ls 8 [(0, .ref pf), (1, .ref a), (2, .ref mi), (4, .int (nI th))] → va_P D kc_all [(pf, .inr (4, [.int (nI 0), .ref pn, .ref pr])), (pn, .inl (cI, 7, .inl num)), (pr, .inl (cL, 2772, .inr (.inl R))), (mi, .inr (1, [.ref mv])), (mv, .inl (cI, 2048, .inl vals)), (a, .inr (0, [.int (nI n), .int (nI k), .ref al, .ref am, .ref aw, .ref ac, .ref ag, .ref ab])), (ac, .inl (cI, 4, .inl co)), (ag, .inl (cQ, 6, .inr (.inr (.inr (.inr (fun i9 => some (rw i9))))))), (rw 0, .inl (cI, 4, .inl (M 0))), (rw 1, .inl (cI, 4, .inl (M 1))), (rw 2, .inl (cI, 4, .inl (M 2))), (rw 3, .inl (cI, 4, .inl (M 3))), (rw 4, .inl (cI, 4, .inl (M 4))), (rw 5, .inl (cI, 4, .inl (M 5))), (ab, .inl (cI, 6, .inl bd))] H → va_D A [(pf, .inr (4, [.int (nI 0), .ref pn, .ref pr])), (pn, .inl (cI, 7, .inl num)), (pr, .inl (cL, 2772, .inr (.inl R))), (mi, .inr (1, [.ref mv])), (mv, .inl (cI, 2048, .inl vals)), (a, .inr (0, [.int (nI n), .int (nI k), .ref al, .ref am, .ref aw, .ref ac, .ref ag, .ref ab])), (ac, .inl (cI, 4, .inl co)), (ag, .inl (cQ, 6, .inr (.inr (.inr (.inr (fun i9 => some (rw i9))))))), (rw 0, .inl (cI, 4, .inl (M 0))), (rw 1, .inl (cI, 4, .inl (M 1))), (rw 2, .inl (cI, 4, .inl (M 2))), (rw 3, .inl (cI, 4, .inl (M 3))), (rw 4, .inl (cI, 4, .inl (M 4))), (rw 5, .inl (cI, 4, .inl (M 5))), (ab, .inl (cI, 6, .inl bd))] → va_S A s.heap H locs → W p l e (headSpec ww_Proof_gather ({ frames := 2, cells := 0, slots := 0, locals := 50 } : Room)).room s m ([.ref pf, .ref a, .ref mi, .int wc]).toArray below meth c H locs 0 0 (MQ below (qq_Proof_gather D cI cZ cL cQ pf pn pr mi mv a al am aw ac ag ab n k e0 wc R num vals co rw M bd A) ([.ref pf, .ref a, .ref mi, .int wc]).toArray s 0 0 A) (F0 m 22 ls []) := by
    intro th hte ls H locs hl hP hD hS
    have hth2 : th < 128 := by omega
    refine lv_iconst (v := 0) hx hb dd_Proof_gather_22 (by decide) ?_
    refine lv_istore (lv' := [(5, .int (0 : Int32)), (0, .ref pf), (1, .ref a), (2, .ref mi), (4, .int (nI th))]) hx hb dd_Proof_gather_23 hl (by decide) rfl (fun ls hl => ?_)
    have J25 : ∀ (N : Nat) (zs : Nat) (ec : Nat) (R2 : Nat → Int64) (num2 : Nat → Int32), (2 ^ n - zs) < N → ∀ (hz : zs ≤ 2 ^ n ∧ ec ≤ 462) (hv : (ec, R2, num2) = fl_g (gr_f vals co M bd k th) zs (0, R, num)), ∀ (ls : Array Slot) (H : Heap) (locs : List Loc), lv_has ls 8 [(0, .ref pf), (1, .ref a), (2, .ref mi), (4, .int (nI th)), (5, .int (nI zs))] → va_P D kc_all [(pf, .inr (4, [.int (nI ec), .ref pn, .ref pr])), (pn, .inl (cI, 7, .inl num2)), (pr, .inl (cL, 2772, .inr (.inl R2))), (mi, .inr (1, [.ref mv])), (mv, .inl (cI, 2048, .inl vals)), (a, .inr (0, [.int (nI n), .int (nI k), .ref al, .ref am, .ref aw, .ref ac, .ref ag, .ref ab])), (ac, .inl (cI, 4, .inl co)), (ag, .inl (cQ, 6, .inr (.inr (.inr (.inr (fun i9 => some (rw i9))))))), (rw 0, .inl (cI, 4, .inl (M 0))), (rw 1, .inl (cI, 4, .inl (M 1))), (rw 2, .inl (cI, 4, .inl (M 2))), (rw 3, .inl (cI, 4, .inl (M 3))), (rw 4, .inl (cI, 4, .inl (M 4))), (rw 5, .inl (cI, 4, .inl (M 5))), (ab, .inl (cI, 6, .inl bd))] H → va_D A [(pf, .inr (4, [.int (nI ec), .ref pn, .ref pr])), (pn, .inl (cI, 7, .inl num2)), (pr, .inl (cL, 2772, .inr (.inl R2))), (mi, .inr (1, [.ref mv])), (mv, .inl (cI, 2048, .inl vals)), (a, .inr (0, [.int (nI n), .int (nI k), .ref al, .ref am, .ref aw, .ref ac, .ref ag, .ref ab])), (ac, .inl (cI, 4, .inl co)), (ag, .inl (cQ, 6, .inr (.inr (.inr (.inr (fun i9 => some (rw i9))))))), (rw 0, .inl (cI, 4, .inl (M 0))), (rw 1, .inl (cI, 4, .inl (M 1))), (rw 2, .inl (cI, 4, .inl (M 2))), (rw 3, .inl (cI, 4, .inl (M 3))), (rw 4, .inl (cI, 4, .inl (M 4))), (rw 5, .inl (cI, 4, .inl (M 5))), (ab, .inl (cI, 6, .inl bd))] → va_S A s.heap H locs → W p l e (headSpec ww_Proof_gather ({ frames := 2, cells := 0, slots := 0, locals := 50 } : Room)).room s m ([.ref pf, .ref a, .ref mi, .int wc]).toArray below meth c H locs 0 0 (MQ below (qq_Proof_gather D cI cZ cL cQ pf pn pr mi mv a al am aw ac ag ab n k e0 wc R num vals co rw M bd A) ([.ref pf, .ref a, .ref mi, .int wc]).toArray s 0 0 A) (F0 m 25 ls []) := by
      intro N
      induction N with
      | zero => intro zs ec R2 num2 hN9; exact absurd hN9 (Nat.not_lt_zero _)
      | succ N IH25 =>
        intro zs ec R2 num2 hN9 hz hv ls H locs hl hP hD hS
        refine lv_iload hx hb dd_Proof_gather_25 (lv_at hl 4 rfl) ?_
        refine lv_iconst (v := 1) hx hb dd_Proof_gather_27 (by decide) ?_
        refine lv_aload_n hx hb dd_Proof_gather_28 rfl (lv_at hl 1 rfl) ?_
        refine va_get (D := D) (ci := 0) (v := .int (nI n)) (C := RR_Problem) (T := FF_Problem) (N := 8) hx hb htb hi_Problem hown hK hP 5 rfl rfl 0 (by decide) hf_33 (fun _ h9 => h9) rfl dd_Proof_gather_29 ?_
        refine lv_ishl hx hb dd_Proof_gather_32 ?_
        refine mm_topi (y := nI (2 ^ n)) (bt_shl n (by omega)) ?_
        refine lv_icmp_ge (tgt := 140) hx hb dd_Proof_gather_33 (by decide) (fun h33 => ?_) (fun h33 => ?_)
        · skip
          have h33 : 2 ^ n ≤ zs := (nI_leI (a := 2 ^ n) (b := zs) (by omega) (by omega)).mp h33
          exact W.vret hx hb hr (fun t ht hW => ⟨⟨(ec, R2, num2), rfl, ⟨by rw [← hte, show 2 ^ n = zs by omega]; exact hv, hz.2⟩, by rw [ht]; exact hP, va_K.moved hW.alike hK, hD⟩, hS.F ht⟩) hS.2.2 dd_Proof_gather_140
        · skip
          have h33 : ¬ (2 ^ n ≤ zs) := fun q9 => h33 ((nI_leI (a := 2 ^ n) (b := zs) (by omega) (by omega)).mpr q9)
          refine lv_iload hx hb dd_Proof_gather_36 (lv_at hl 4 rfl) ?_
          refine mm_i (wc := []) (wr := [(pf, .inr (4, [.int (nI ec), .ref pn, .ref pr])), (pn, .inl (cI, 7, .inl num2)), (pr, .inl (cL, 2772, .inr (.inl R2))), (mi, .inr (1, [.ref mv])), (mv, .inl (cI, 2048, .inl vals)), (a, .inr (0, [.int (nI n), .int (nI k), .ref al, .ref am, .ref aw, .ref ac, .ref ag, .ref ab])), (ac, .inl (cI, 4, .inl co)), (ag, .inl (cQ, 6, .inr (.inr (.inr (.inr (fun i9 => some (rw i9))))))), (rw 0, .inl (cI, 4, .inl (M 0))), (rw 1, .inl (cI, 4, .inl (M 1))), (rw 2, .inl (cI, 4, .inl (M 2))), (rw 3, .inl (cI, 4, .inl (M 3))), (rw 4, .inl (cI, 4, .inl (M 4))), (rw 5, .inl (cI, 4, .inl (M 5))), (ab, .inl (cI, 6, .inl bd))]) (va_runS (As := [.int (nI zs)]) (rest := []) ⟨hx, hb, hml, hown, hts⟩ (cc_Integer_bitCount l D cI cZ cL cQ _ zs (by omega)) (mm_cwS 1 hts ml_Proof_36 sm_Integer_bitCount ic_Integer cd_Integer_bitCount rfl rfl (by decide +kernel) ⟨Nat.le_of_ble_eq_true rfl, Nat.le_of_ble_eq_true rfl⟩) (mm_preS hK hP hD [] (by decide) rfl) rfl rfl hl.1 rfl (lv_room (Nat.le_of_ble_eq_true rfl)) dd_Proof_gather_38 ⟨Nat.zero_le _, Nat.zero_le _⟩) hP hD hS hA [] [0, 1, 2, 3, 4, 5, 6, 7, 8, 9, 10, 11, 12, 13, 14] rfl rfl (by decide) (by decide) (fun zr1 zu2 H locs p38 hP hD hS => ?_)
          have hP : va_P D kc_all [(pf, .inr (4, [.int (nI ec), .ref pn, .ref pr])), (pn, .inl (cI, 7, .inl num2)), (pr, .inl (cL, 2772, .inr (.inl R2))), (mi, .inr (1, [.ref mv])), (mv, .inl (cI, 2048, .inl vals)), (a, .inr (0, [.int (nI n), .int (nI k), .ref al, .ref am, .ref aw, .ref ac, .ref ag, .ref ab])), (ac, .inl (cI, 4, .inl co)), (ag, .inl (cQ, 6, .inr (.inr (.inr (.inr (fun i9 => some (rw i9))))))), (rw 0, .inl (cI, 4, .inl (M 0))), (rw 1, .inl (cI, 4, .inl (M 1))), (rw 2, .inl (cI, 4, .inl (M 2))), (rw 3, .inl (cI, 4, .inl (M 3))), (rw 4, .inl (cI, 4, .inl (M 4))), (rw 5, .inl (cI, 4, .inl (M 5))), (ab, .inl (cI, 6, .inl bd))] H := hP
          have hD : va_D A [(pf, .inr (4, [.int (nI ec), .ref pn, .ref pr])), (pn, .inl (cI, 7, .inl num2)), (pr, .inl (cL, 2772, .inr (.inl R2))), (mi, .inr (1, [.ref mv])), (mv, .inl (cI, 2048, .inl vals)), (a, .inr (0, [.int (nI n), .int (nI k), .ref al, .ref am, .ref aw, .ref ac, .ref ag, .ref ab])), (ac, .inl (cI, 4, .inl co)), (ag, .inl (cQ, 6, .inr (.inr (.inr (.inr (fun i9 => some (rw i9))))))), (rw 0, .inl (cI, 4, .inl (M 0))), (rw 1, .inl (cI, 4, .inl (M 1))), (rw 2, .inl (cI, 4, .inl (M 2))), (rw 3, .inl (cI, 4, .inl (M 3))), (rw 4, .inl (cI, 4, .inl (M 4))), (rw 5, .inl (cI, 4, .inl (M 5))), (ab, .inl (cI, 6, .inl bd))] := hD
          have p38 : zr1 = nI (pc_n zs) := p38
          refine mm_topi (y := nI (pc_n zs)) (p38) ?_
          refine lv_iconst (v := 1) hx hb dd_Proof_gather_41 (by decide) ?_
          refine lv_iadd hx hb dd_Proof_gather_42 ?_
          refine mm_topi (y := nI ((pc_n zs) + 1)) (nI_add (pc_n zs) 1) ?_
          refine lv_istore (lv' := [(6, .int (nI ((pc_n zs) + 1))), (0, .ref pf), (1, .ref a), (2, .ref mi), (4, .int (nI th)), (5, .int (nI zs))]) hx hb dd_Proof_gather_43 hl (by decide) rfl (fun ls hl => ?_)
          refine lv_iconst (v := 1) hx hb dd_Proof_gather_45 (by decide) ?_
          refine lv_istore (lv' := [(7, .int (1 : Int32)), (6, .int (nI ((pc_n zs) + 1))), (0, .ref pf), (1, .ref a), (2, .ref mi), (4, .int (nI th)), (5, .int (nI zs))]) hx hb dd_Proof_gather_46 hl (by decide) rfl (fun ls hl => ?_)
          have J48 : ∀ (N : Nat) (c0 : Nat) (e2 : Nat) (R3 : Nat → Int64) (num3 : Nat → Int32), (128 - c0) < N → ∀ (hc : (1 ≤ c0 ∧ c0 ≤ 128) ∧ e2 ≤ 462) (hw : (e2, R3, num3) = fl_g (gc_f vals co M bd k th zs) c0 (ec, R2, num2)), ∀ (ls : Array Slot) (H : Heap) (locs : List Loc), lv_has ls 8 [(0, .ref pf), (1, .ref a), (2, .ref mi), (4, .int (nI th)), (5, .int (nI zs)), (6, .int (nI (pc_n zs + 1))), (7, .int (nI c0))] → va_P D kc_all [(pf, .inr (4, [.int (nI e2), .ref pn, .ref pr])), (pn, .inl (cI, 7, .inl num3)), (pr, .inl (cL, 2772, .inr (.inl R3))), (mi, .inr (1, [.ref mv])), (mv, .inl (cI, 2048, .inl vals)), (a, .inr (0, [.int (nI n), .int (nI k), .ref al, .ref am, .ref aw, .ref ac, .ref ag, .ref ab])), (ac, .inl (cI, 4, .inl co)), (ag, .inl (cQ, 6, .inr (.inr (.inr (.inr (fun i9 => some (rw i9))))))), (rw 0, .inl (cI, 4, .inl (M 0))), (rw 1, .inl (cI, 4, .inl (M 1))), (rw 2, .inl (cI, 4, .inl (M 2))), (rw 3, .inl (cI, 4, .inl (M 3))), (rw 4, .inl (cI, 4, .inl (M 4))), (rw 5, .inl (cI, 4, .inl (M 5))), (ab, .inl (cI, 6, .inl bd))] H → va_D A [(pf, .inr (4, [.int (nI e2), .ref pn, .ref pr])), (pn, .inl (cI, 7, .inl num3)), (pr, .inl (cL, 2772, .inr (.inl R3))), (mi, .inr (1, [.ref mv])), (mv, .inl (cI, 2048, .inl vals)), (a, .inr (0, [.int (nI n), .int (nI k), .ref al, .ref am, .ref aw, .ref ac, .ref ag, .ref ab])), (ac, .inl (cI, 4, .inl co)), (ag, .inl (cQ, 6, .inr (.inr (.inr (.inr (fun i9 => some (rw i9))))))), (rw 0, .inl (cI, 4, .inl (M 0))), (rw 1, .inl (cI, 4, .inl (M 1))), (rw 2, .inl (cI, 4, .inl (M 2))), (rw 3, .inl (cI, 4, .inl (M 3))), (rw 4, .inl (cI, 4, .inl (M 4))), (rw 5, .inl (cI, 4, .inl (M 5))), (ab, .inl (cI, 6, .inl bd))] → va_S A s.heap H locs → W p l e (headSpec ww_Proof_gather ({ frames := 2, cells := 0, slots := 0, locals := 50 } : Room)).room s m ([.ref pf, .ref a, .ref mi, .int wc]).toArray below meth c H locs 0 0 (MQ below (qq_Proof_gather D cI cZ cL cQ pf pn pr mi mv a al am aw ac ag ab n k e0 wc R num vals co rw M bd A) ([.ref pf, .ref a, .ref mi, .int wc]).toArray s 0 0 A) (F0 m 48 ls []) := by
            intro N
            induction N with
            | zero => intro c0 e2 R3 num3 hN9; exact absurd hN9 (Nat.not_lt_zero _)
            | succ N IH48 =>
              intro c0 e2 R3 num3 hN9 hc hw ls H locs hl hP hD hS
              refine lv_iload hx hb dd_Proof_gather_48 (lv_at hl 6 rfl) ?_
              refine lv_sipush (v := 128) hx hb dd_Proof_gather_50 (by decide) ?_
              refine lv_icmp_ge (tgt := 134) hx hb dd_Proof_gather_53 (by decide) (fun h53 => ?_) (fun h53 => ?_)
              · skip
                have h53 : 128 ≤ c0 := (nI_leI (a := 128) (b := c0) (by omega) (by omega)).mp h53
                refine lv_iinc (k := 4) (v := nI (zs + 1)) (lv' := [(5, .int (nI (zs + 1))), (0, .ref pf), (1, .ref a), (2, .ref mi), (4, .int (nI th)), (6, .int (nI (pc_n zs + 1))), (7, .int (nI c0))]) hx hb dd_Proof_gather_134 hl rfl (nI_1 _) (by decide) rfl (fun ls hl => ?_)
                refine lv_goto (tgt := 25) hx hb dd_Proof_gather_137 (by decide) ?_
                exact IH25 (zs + 1) e2 R3 num3 (by omega) (by omega) (gr_s hv (by rw [show 128 = c0 by omega]; exact hw)) ls H locs (lv_sub hl [1, 2, 3, 4, 0] rfl) hP hD hS
              · skip
                have h53 : ¬ (128 ≤ c0) := fun q9 => h53 ((nI_leI (a := 128) (b := c0) (by omega) (by omega)).mpr q9)
                refine lv_iload hx hb dd_Proof_gather_56 (lv_at hl 6 rfl) ?_
                refine lv_iload hx hb dd_Proof_gather_58 (lv_at hl 3 rfl) ?_
                refine lv_iconst (v := (-1)) hx hb dd_Proof_gather_60 (by decide) ?_
                refine lv_ixor hx hb dd_Proof_gather_61 ?_
                refine lv_iand hx hb dd_Proof_gather_62 ?_
                refine mm_topi (y := nI (c0 &&& (127 ^^^ th))) (bt_sub th hth2 c0 (by omega)) ?_
                have hand : c0 &&& (127 ^^^ th) ≤ c0 := Nat.and_le_left
                refine lv_if_ne (tgt := 128) hx hb dd_Proof_gather_63 (by decide) (fun h63 => ?_) (fun h63 => ?_)
                · skip
                  have h63 : ¬ (c0 &&& (127 ^^^ th) = 0) := fun q9 => h63 ((nI_eq (a := c0 &&& (127 ^^^ th)) (b := 0) (by omega) (by omega)).mpr q9)
                  refine lv_iinc (k := 6) (v := nI (c0 + 1)) (lv' := [(7, .int (nI (c0 + 1))), (0, .ref pf), (1, .ref a), (2, .ref mi), (4, .int (nI th)), (5, .int (nI zs)), (6, .int (nI (pc_n zs + 1)))]) hx hb dd_Proof_gather_128 hl rfl (nI_1 _) (by decide) rfl (fun ls hl => ?_)
                  refine lv_goto (tgt := 48) hx hb dd_Proof_gather_131 (by decide) ?_
                  exact IH48 (c0 + 1) e2 R3 num3 (by omega) (by omega) (by first | exact gc_n1 hw h63 | exact gc_n2 hw h73 | exact gc_y hw ⟨hc.1.1, h63, h73⟩ (gs_n1 (tl_0 p82.1 h85) p82.2) | exact gc_y hw ⟨hc.1.1, h63, h73⟩ (gs_n2 h95 p82.2) | exact gc_y hw ⟨hc.1.1, h63, h73⟩ (gs_y ⟨tl_1 p82.1 h85, Nat.lt_of_not_le h95⟩ p82.2 p115)) ls H locs (lv_sub hl [1, 2, 3, 4, 5, 6, 0] rfl) hP hD hS
                · skip
                  have h63 : c0 &&& (127 ^^^ th) = 0 := (nI_eq (a := c0 &&& (127 ^^^ th)) (b := 0) (by omega) (by omega)).mp h63
                  refine lv_iload hx hb dd_Proof_gather_66 (lv_at hl 6 rfl) ?_
                  refine mm_i (wc := []) (wr := [(pf, .inr (4, [.int (nI e2), .ref pn, .ref pr])), (pn, .inl (cI, 7, .inl num3)), (pr, .inl (cL, 2772, .inr (.inl R3))), (mi, .inr (1, [.ref mv])), (mv, .inl (cI, 2048, .inl vals)), (a, .inr (0, [.int (nI n), .int (nI k), .ref al, .ref am, .ref aw, .ref ac, .ref ag, .ref ab])), (ac, .inl (cI, 4, .inl co)), (ag, .inl (cQ, 6, .inr (.inr (.inr (.inr (fun i9 => some (rw i9))))))), (rw 0, .inl (cI, 4, .inl (M 0))), (rw 1, .inl (cI, 4, .inl (M 1))), (rw 2, .inl (cI, 4, .inl (M 2))), (rw 3, .inl (cI, 4, .inl (M 3))), (rw 4, .inl (cI, 4, .inl (M 4))), (rw 5, .inl (cI, 4, .inl (M 5))), (ab, .inl (cI, 6, .inl bd))]) (va_runS (As := [.int (nI c0)]) (rest := []) ⟨hx, hb, hml, hown, hts⟩ (cc_Integer_bitCount l D cI cZ cL cQ _ c0 (by omega)) (mm_cwS 1 hts ml_Proof_36 sm_Integer_bitCount ic_Integer cd_Integer_bitCount rfl rfl (by decide +kernel) ⟨Nat.le_of_ble_eq_true rfl, Nat.le_of_ble_eq_true rfl⟩) (mm_preS hK hP hD [] (by decide) rfl) rfl rfl hl.1 rfl (lv_room (Nat.le_of_ble_eq_true rfl)) dd_Proof_gather_68 ⟨Nat.zero_le _, Nat.zero_le _⟩) hP hD hS hA [] [0, 1, 2, 3, 4, 5, 6, 7, 8, 9, 10, 11, 12, 13, 14] rfl rfl (by decide) (by decide) (fun zr3 zu4 H locs p68 hP hD hS => ?_)
                  have hP : va_P D kc_all [(pf, .inr (4, [.int (nI e2), .ref pn, .ref pr])), (pn, .inl (cI, 7, .inl num3)), (pr, .inl (cL, 2772, .inr (.inl R3))), (mi, .inr (1, [.ref mv])), (mv, .inl (cI, 2048, .inl vals)), (a, .inr (0, [.int (nI n), .int (nI k), .ref al, .ref am, .ref aw, .ref ac, .ref ag, .ref ab])), (ac, .inl (cI, 4, .inl co)), (ag, .inl (cQ, 6, .inr (.inr (.inr (.inr (fun i9 => some (rw i9))))))), (rw 0, .inl (cI, 4, .inl (M 0))), (rw 1, .inl (cI, 4, .inl (M 1))), (rw 2, .inl (cI, 4, .inl (M 2))), (rw 3, .inl (cI, 4, .inl (M 3))), (rw 4, .inl (cI, 4, .inl (M 4))), (rw 5, .inl (cI, 4, .inl (M 5))), (ab, .inl (cI, 6, .inl bd))] H := hP
                  have hD : va_D A [(pf, .inr (4, [.int (nI e2), .ref pn, .ref pr])), (pn, .inl (cI, 7, .inl num3)), (pr, .inl (cL, 2772, .inr (.inl R3))), (mi, .inr (1, [.ref mv])), (mv, .inl (cI, 2048, .inl vals)), (a, .inr (0, [.int (nI n), .int (nI k), .ref al, .ref am, .ref aw, .ref ac, .ref ag, .ref ab])), (ac, .inl (cI, 4, .inl co)), (ag, .inl (cQ, 6, .inr (.inr (.inr (.inr (fun i9 => some (rw i9))))))), (rw 0, .inl (cI, 4, .inl (M 0))), (rw 1, .inl (cI, 4, .inl (M 1))), (rw 2, .inl (cI, 4, .inl (M 2))), (rw 3, .inl (cI, 4, .inl (M 3))), (rw 4, .inl (cI, 4, .inl (M 4))), (rw 5, .inl (cI, 4, .inl (M 5))), (ab, .inl (cI, 6, .inl bd))] := hD
                  have p68 : zr3 = nI (pc_n c0) := p68
                  refine mm_topi (y := nI (pc_n c0)) (p68) ?_
                  refine lv_iload hx hb dd_Proof_gather_71 (lv_at hl 5 rfl) ?_
                  have hpa := pc_le c0
                  have hpb := pc_le zs
                  refine lv_icmp_ne (tgt := 128) hx hb dd_Proof_gather_73 (by decide) (fun h73 => ?_) (fun h73 => ?_)
                  · skip
                    have h73 : ¬ (pc_n c0 = pc_n zs + 1) := fun q9 => h73 ((nI_eq (a := pc_n c0) (b := pc_n zs + 1) (by omega) (by omega)).mpr q9)
                    refine lv_iinc (k := 6) (v := nI (c0 + 1)) (lv' := [(7, .int (nI (c0 + 1))), (0, .ref pf), (1, .ref a), (2, .ref mi), (4, .int (nI th)), (5, .int (nI zs)), (6, .int (nI (pc_n zs + 1)))]) hx hb dd_Proof_gather_128 hl rfl (nI_1 _) (by decide) rfl (fun ls hl => ?_)
                    refine lv_goto (tgt := 48) hx hb dd_Proof_gather_131 (by decide) ?_
                    exact IH48 (c0 + 1) e2 R3 num3 (by omega) (by omega) (by first | exact gc_n1 hw h63 | exact gc_n2 hw h73 | exact gc_y hw ⟨hc.1.1, h63, h73⟩ (gs_n1 (tl_0 p82.1 h85) p82.2) | exact gc_y hw ⟨hc.1.1, h63, h73⟩ (gs_n2 h95 p82.2) | exact gc_y hw ⟨hc.1.1, h63, h73⟩ (gs_y ⟨tl_1 p82.1 h85, Nat.lt_of_not_le h95⟩ p82.2 p115)) ls H locs (lv_sub hl [1, 2, 3, 4, 5, 6, 0] rfl) hP hD hS
                  · skip
                    have h73 : pc_n c0 = pc_n zs + 1 := (nI_eq (a := pc_n c0) (b := pc_n zs + 1) (by omega) (by omega)).mp h73
                    refine lv_aload_n hx hb dd_Proof_gather_76 rfl (lv_at hl 0 rfl) ?_
                    refine lv_aload_n hx hb dd_Proof_gather_77 rfl (lv_at hl 2 rfl) ?_
                    refine lv_iload hx hb dd_Proof_gather_78 (lv_at hl 4 rfl) ?_
                    refine lv_iload hx hb dd_Proof_gather_80 (lv_at hl 6 rfl) ?_
                    refine mm_i (wc := [(pf, .inr (4, [.int (nI e2), .ref pn, .ref pr])), (pn, .inl (cI, 7, .inl num3)), (mi, .inr (1, [.ref mv])), (mv, .inl (cI, 2048, .inl vals))]) (wr := [(pr, .inl (cL, 2772, .inr (.inl R3))), (a, .inr (0, [.int (nI n), .int (nI k), .ref al, .ref am, .ref aw, .ref ac, .ref ag, .ref ab])), (ac, .inl (cI, 4, .inl co)), (ag, .inl (cQ, 6, .inr (.inr (.inr (.inr (fun i9 => some (rw i9))))))), (rw 0, .inl (cI, 4, .inl (M 0))), (rw 1, .inl (cI, 4, .inl (M 1))), (rw 2, .inl (cI, 4, .inl (M 2))), (rw 3, .inl (cI, 4, .inl (M 3))), (rw 4, .inl (cI, 4, .inl (M 4))), (rw 5, .inl (cI, 4, .inl (M 5))), (ab, .inl (cI, 6, .inl bd))]) (va_runV (As := [.ref mi, .int (nI zs), .int (nI c0)]) (rest := []) (C := RR_Proof) ⟨hx, hb, hml, hown, hts⟩ (cc_Proof_setNumbers l D cI cZ cL cQ _ pf pn pr mi mv e2 zs c0 num3 vals (by omega) (by omega)) (mm_cwV 3 hts ml_Proof_42 im_Proof_setNumbers se_Proof_setNumbers ic_Proof cd_Proof_setNumbers rfl rfl (by decide +kernel) ⟨Nat.le_of_ble_eq_true rfl, Nat.le_of_ble_eq_true rfl⟩) (mm_preV hK hP hD [0, 1, 3, 4] (by decide) rfl 0 rfl rfl) rfl rfl hl.1 rfl (lv_room (Nat.le_of_ble_eq_true rfl)) dd_Proof_gather_82 ⟨Nat.zero_le _, Nat.zero_le _⟩) hP hD hS hA [0, 1, 3, 4] [2, 5, 6, 7, 8, 9, 10, 11, 12, 13, 14] rfl rfl (by decide) (by decide) (fun zr5 zu6 H locs p82 hP hD hS => ?_)
                    have hP : va_P D kc_all [(pr, .inl (cL, 2772, .inr (.inl R3))), (a, .inr (0, [.int (nI n), .int (nI k), .ref al, .ref am, .ref aw, .ref ac, .ref ag, .ref ab])), (ac, .inl (cI, 4, .inl co)), (ag, .inl (cQ, 6, .inr (.inr (.inr (.inr (fun i9 => some (rw i9))))))), (rw 0, .inl (cI, 4, .inl (M 0))), (rw 1, .inl (cI, 4, .inl (M 1))), (rw 2, .inl (cI, 4, .inl (M 2))), (rw 3, .inl (cI, 4, .inl (M 3))), (rw 4, .inl (cI, 4, .inl (M 4))), (rw 5, .inl (cI, 4, .inl (M 5))), (ab, .inl (cI, 6, .inl bd)), (pf, .inr (4, [.int (nI e2), .ref pn, .ref pr])), (pn, .inl (cI, 7, .inl zu6)), (mi, .inr (1, [.ref mv])), (mv, .inl (cI, 2048, .inl vals))] H := hP
                    have hD : va_D A [(pr, .inl (cL, 2772, .inr (.inl R3))), (a, .inr (0, [.int (nI n), .int (nI k), .ref al, .ref am, .ref aw, .ref ac, .ref ag, .ref ab])), (ac, .inl (cI, 4, .inl co)), (ag, .inl (cQ, 6, .inr (.inr (.inr (.inr (fun i9 => some (rw i9))))))), (rw 0, .inl (cI, 4, .inl (M 0))), (rw 1, .inl (cI, 4, .inl (M 1))), (rw 2, .inl (cI, 4, .inl (M 2))), (rw 3, .inl (cI, 4, .inl (M 3))), (rw 4, .inl (cI, 4, .inl (M 4))), (rw 5, .inl (cI, 4, .inl (M 5))), (ab, .inl (cI, 6, .inl bd)), (pf, .inr (4, [.int (nI e2), .ref pn, .ref pr])), (pn, .inl (cI, 7, .inl zu6)), (mi, .inr (1, [.ref mv])), (mv, .inl (cI, 2048, .inl vals))] := hD
                    have hP : va_P D kc_all [(pf, .inr (4, [.int (nI e2), .ref pn, .ref pr])), (pn, .inl (cI, 7, .inl zu6)), (pr, .inl (cL, 2772, .inr (.inl R3))), (mi, .inr (1, [.ref mv])), (mv, .inl (cI, 2048, .inl vals)), (a, .inr (0, [.int (nI n), .int (nI k), .ref al, .ref am, .ref aw, .ref ac, .ref ag, .ref ab])), (ac, .inl (cI, 4, .inl co)), (ag, .inl (cQ, 6, .inr (.inr (.inr (.inr (fun i9 => some (rw i9))))))), (rw 0, .inl (cI, 4, .inl (M 0))), (rw 1, .inl (cI, 4, .inl (M 1))), (rw 2, .inl (cI, 4, .inl (M 2))), (rw 3, .inl (cI, 4, .inl (M 3))), (rw 4, .inl (cI, 4, .inl (M 4))), (rw 5, .inl (cI, 4, .inl (M 5))), (ab, .inl (cI, 6, .inl bd))] H := hP.sub [11, 12, 0, 13, 14, 1, 2, 3, 4, 5, 6, 7, 8, 9, 10] rfl
                    have hD : va_D A [(pf, .inr (4, [.int (nI e2), .ref pn, .ref pr])), (pn, .inl (cI, 7, .inl zu6)), (pr, .inl (cL, 2772, .inr (.inl R3))), (mi, .inr (1, [.ref mv])), (mv, .inl (cI, 2048, .inl vals)), (a, .inr (0, [.int (nI n), .int (nI k), .ref al, .ref am, .ref aw, .ref ac, .ref ag, .ref ab])), (ac, .inl (cI, 4, .inl co)), (ag, .inl (cQ, 6, .inr (.inr (.inr (.inr (fun i9 => some (rw i9))))))), (rw 0, .inl (cI, 4, .inl (M 0))), (rw 1, .inl (cI, 4, .inl (M 1))), (rw 2, .inl (cI, 4, .inl (M 2))), (rw 3, .inl (cI, 4, .inl (M 3))), (rw 4, .inl (cI, 4, .inl (M 4))), (rw 5, .inl (cI, 4, .inl (M 5))), (ab, .inl (cI, 6, .inl bd))] := hD.sub [11, 12, 0, 13, 14, 1, 2, 3, 4, 5, 6, 7, 8, 9, 10] (by decide) rfl
                    have p82 : tl_ok (sk_ok (sn_lo vals zs c0 7) (sn_hi vals zs c0 7)) zr5 ∧ zu6 = nf_f vals zs c0 num3 := p82
                    refine lv_if_eq (tgt := 128) hx hb dd_Proof_gather_85 (by decide) (fun h85 => ?_) (fun h85 => ?_)
                    · skip
                      refine lv_iinc (k := 6) (v := nI (c0 + 1)) (lv' := [(7, .int (nI (c0 + 1))), (0, .ref pf), (1, .ref a), (2, .ref mi), (4, .int (nI th)), (5, .int (nI zs)), (6, .int (nI (pc_n zs + 1)))]) hx hb dd_Proof_gather_128 hl rfl (nI_1 _) (by decide) rfl (fun ls hl => ?_)
                      refine lv_goto (tgt := 48) hx hb dd_Proof_gather_131 (by decide) ?_
                      exact IH48 (c0 + 1) e2 R3 zu6 (by omega) (by omega) (by first | exact gc_n1 hw h63 | exact gc_n2 hw h73 | exact gc_y hw ⟨hc.1.1, h63, h73⟩ (gs_n1 (tl_0 p82.1 h85) p82.2) | exact gc_y hw ⟨hc.1.1, h63, h73⟩ (gs_n2 h95 p82.2) | exact gc_y hw ⟨hc.1.1, h63, h73⟩ (gs_y ⟨tl_1 p82.1 h85, Nat.lt_of_not_le h95⟩ p82.2 p115)) ls H locs (lv_sub hl [1, 2, 3, 4, 5, 6, 0] rfl) hP hD hS
                    · skip
                      refine lv_aload_n hx hb dd_Proof_gather_88 rfl (lv_at hl 0 rfl) ?_
                      refine va_get (D := D) (ci := 4) (v := .int (nI e2)) (C := RR_Proof) (T := FF_Proof) (N := 3) hx hb htb hi_Proof hown hK hP 0 rfl rfl 0 (by decide) hf_11 (fun _ h9 => h9) rfl dd_Proof_gather_89 ?_
                      refine lv_sipush (v := 462) hx hb dd_Proof_gather_92 (by decide) ?_
                      refine lv_icmp_ge (tgt := 128) hx hb dd_Proof_gather_95 (by decide) (fun h95 => ?_) (fun h95 => ?_)
                      · skip
                        have h95 : 462 ≤ e2 := (nI_leI (a := 462) (b := e2) (by omega) (by omega)).mp h95
                        refine lv_iinc (k := 6) (v := nI (c0 + 1)) (lv' := [(7, .int (nI (c0 + 1))), (0, .ref pf), (1, .ref a), (2, .ref mi), (4, .int (nI th)), (5, .int (nI zs)), (6, .int (nI (pc_n zs + 1)))]) hx hb dd_Proof_gather_128 hl rfl (nI_1 _) (by decide) rfl (fun ls hl => ?_)
                        refine lv_goto (tgt := 48) hx hb dd_Proof_gather_131 (by decide) ?_
                        exact IH48 (c0 + 1) e2 R3 zu6 (by omega) (by omega) (by first | exact gc_n1 hw h63 | exact gc_n2 hw h73 | exact gc_y hw ⟨hc.1.1, h63, h73⟩ (gs_n1 (tl_0 p82.1 h85) p82.2) | exact gc_y hw ⟨hc.1.1, h63, h73⟩ (gs_n2 h95 p82.2) | exact gc_y hw ⟨hc.1.1, h63, h73⟩ (gs_y ⟨tl_1 p82.1 h85, Nat.lt_of_not_le h95⟩ p82.2 p115)) ls H locs (lv_sub hl [1, 2, 3, 4, 5, 6, 0] rfl) hP hD hS
                      · skip
                        have h95 : ¬ (462 ≤ e2) := fun q9 => h95 ((nI_leI (a := 462) (b := e2) (by omega) (by omega)).mpr q9)
                        refine lv_aload_n hx hb dd_Proof_gather_98 rfl (lv_at hl 1 rfl) ?_
                        refine lv_aload_n hx hb dd_Proof_gather_99 rfl (lv_at hl 0 rfl) ?_
                        refine va_get (D := D) (ci := 4) (v := .ref pn) (C := RR_Proof) (T := FF_Proof) (N := 3) hx hb htb hi_Proof hown hK hP 0 rfl rfl 1 (by decide) hf_17 (fun _ h9 => h9) rfl dd_Proof_gather_100 ?_
                        refine lv_iconst (v := 0) hx hb dd_Proof_gather_103 (by decide) ?_
                        refine lv_aload_n hx hb dd_Proof_gather_104 rfl (lv_at hl 0 rfl) ?_
                        refine va_get (D := D) (ci := 4) (v := .ref pr) (C := RR_Proof) (T := FF_Proof) (N := 3) hx hb htb hi_Proof hown hK hP 0 rfl rfl 2 (by decide) hf_23 (fun _ h9 => h9) rfl dd_Proof_gather_105 ?_
                        refine lv_aload_n hx hb dd_Proof_gather_108 rfl (lv_at hl 0 rfl) ?_
                        refine va_get (D := D) (ci := 4) (v := .int (nI e2)) (C := RR_Proof) (T := FF_Proof) (N := 3) hx hb htb hi_Proof hown hK hP 0 rfl rfl 0 (by decide) hf_11 (fun _ h9 => h9) rfl dd_Proof_gather_109 ?_
                        refine lv_bipush (v := 6) hx hb dd_Proof_gather_112 (by decide) ?_
                        refine lv_imul hx hb dd_Proof_gather_114 ?_
                        refine mm_topi (y := nI (e2 * 6)) (pk_mul e2 6) ?_
                        refine mm_v (wc := [(a, .inr (0, [.int (nI n), .int (nI k), .ref al, .ref am, .ref aw, .ref ac, .ref ag, .ref ab])), (ac, .inl (cI, 4, .inl co)), (ag, .inl (cQ, 6, .inr (.inr (.inr (.inr (fun i9 => some (rw i9))))))), (rw 0, .inl (cI, 4, .inl (M 0))), (rw 1, .inl (cI, 4, .inl (M 1))), (rw 2, .inl (cI, 4, .inl (M 2))), (rw 3, .inl (cI, 4, .inl (M 3))), (rw 4, .inl (cI, 4, .inl (M 4))), (rw 5, .inl (cI, 4, .inl (M 5))), (ab, .inl (cI, 6, .inl bd)), (pn, .inl (cI, 7, .inl zu6)), (pr, .inl (cL, 2772, .inr (.inl R3)))]) (wr := [(pf, .inr (4, [.int (nI e2), .ref pn, .ref pr])), (mi, .inr (1, [.ref mv])), (mv, .inl (cI, 2048, .inl vals))]) (va_runS (As := [.ref a, .ref pn, .int (0 : Int32), .ref pr, .int (nI (e2 * 6))]) (rest := []) ⟨hx, hb, hml, hown, hts⟩ (cc_Box_lay l D cI cZ cL cQ _ a al am aw ac ag ab n k pn 0 pr (e2 * 6) 7 2772 co rw M bd zu6 R3 (by omega) (by omega) (by omega)) (mm_cwS 5 hts ml_Proof_46 sm_Box_lay ic_Box cd_Box_lay rfl rfl (by decide +kernel) ⟨Nat.le_of_ble_eq_true rfl, Nat.le_of_ble_eq_true rfl⟩) (mm_preS hK hP hD [5, 6, 7, 8, 9, 10, 11, 12, 13, 14, 1, 2] (by decide) rfl) rfl rfl hl.1 rfl (lv_room (Nat.le_of_ble_eq_true rfl)) dd_Proof_gather_115 ⟨Nat.zero_le _, Nat.zero_le _⟩) hP hD hS hA [5, 6, 7, 8, 9, 10, 11, 12, 13, 14, 1, 2] [0, 3, 4] rfl rfl (by decide) (by decide) (fun zu8 H locs p115 hP hD hS => ?_)
                        have hP : va_P D kc_all [(pf, .inr (4, [.int (nI e2), .ref pn, .ref pr])), (mi, .inr (1, [.ref mv])), (mv, .inl (cI, 2048, .inl vals)), (a, .inr (0, [.int (nI n), .int (nI k), .ref al, .ref am, .ref aw, .ref ac, .ref ag, .ref ab])), (ac, .inl (cI, 4, .inl co)), (ag, .inl (cQ, 6, .inr (.inr (.inr (.inr (fun i9 => some (rw i9))))))), (rw 0, .inl (cI, 4, .inl (M 0))), (rw 1, .inl (cI, 4, .inl (M 1))), (rw 2, .inl (cI, 4, .inl (M 2))), (rw 3, .inl (cI, 4, .inl (M 3))), (rw 4, .inl (cI, 4, .inl (M 4))), (rw 5, .inl (cI, 4, .inl (M 5))), (ab, .inl (cI, 6, .inl bd)), (pn, .inl (cI, 7, .inl zu6)), (pr, .inl (cL, 2772, .inr (.inl zu8)))] H := hP
                        have hD : va_D A [(pf, .inr (4, [.int (nI e2), .ref pn, .ref pr])), (mi, .inr (1, [.ref mv])), (mv, .inl (cI, 2048, .inl vals)), (a, .inr (0, [.int (nI n), .int (nI k), .ref al, .ref am, .ref aw, .ref ac, .ref ag, .ref ab])), (ac, .inl (cI, 4, .inl co)), (ag, .inl (cQ, 6, .inr (.inr (.inr (.inr (fun i9 => some (rw i9))))))), (rw 0, .inl (cI, 4, .inl (M 0))), (rw 1, .inl (cI, 4, .inl (M 1))), (rw 2, .inl (cI, 4, .inl (M 2))), (rw 3, .inl (cI, 4, .inl (M 3))), (rw 4, .inl (cI, 4, .inl (M 4))), (rw 5, .inl (cI, 4, .inl (M 5))), (ab, .inl (cI, 6, .inl bd)), (pn, .inl (cI, 7, .inl zu6)), (pr, .inl (cL, 2772, .inr (.inl zu8)))] := hD
                        have hP : va_P D kc_all [(pf, .inr (4, [.int (nI e2), .ref pn, .ref pr])), (pn, .inl (cI, 7, .inl zu6)), (pr, .inl (cL, 2772, .inr (.inl zu8))), (mi, .inr (1, [.ref mv])), (mv, .inl (cI, 2048, .inl vals)), (a, .inr (0, [.int (nI n), .int (nI k), .ref al, .ref am, .ref aw, .ref ac, .ref ag, .ref ab])), (ac, .inl (cI, 4, .inl co)), (ag, .inl (cQ, 6, .inr (.inr (.inr (.inr (fun i9 => some (rw i9))))))), (rw 0, .inl (cI, 4, .inl (M 0))), (rw 1, .inl (cI, 4, .inl (M 1))), (rw 2, .inl (cI, 4, .inl (M 2))), (rw 3, .inl (cI, 4, .inl (M 3))), (rw 4, .inl (cI, 4, .inl (M 4))), (rw 5, .inl (cI, 4, .inl (M 5))), (ab, .inl (cI, 6, .inl bd))] H := hP.sub [0, 13, 14, 1, 2, 3, 4, 5, 6, 7, 8, 9, 10, 11, 12] rfl
                        have hD : va_D A [(pf, .inr (4, [.int (nI e2), .ref pn, .ref pr])), (pn, .inl (cI, 7, .inl zu6)), (pr, .inl (cL, 2772, .inr (.inl zu8))), (mi, .inr (1, [.ref mv])), (mv, .inl (cI, 2048, .inl vals)), (a, .inr (0, [.int (nI n), .int (nI k), .ref al, .ref am, .ref aw, .ref ac, .ref ag, .ref ab])), (ac, .inl (cI, 4, .inl co)), (ag, .inl (cQ, 6, .inr (.inr (.inr (.inr (fun i9 => some (rw i9))))))), (rw 0, .inl (cI, 4, .inl (M 0))), (rw 1, .inl (cI, 4, .inl (M 1))), (rw 2, .inl (cI, 4, .inl (M 2))), (rw 3, .inl (cI, 4, .inl (M 3))), (rw 4, .inl (cI, 4, .inl (M 4))), (rw 5, .inl (cI, 4, .inl (M 5))), (ab, .inl (cI, 6, .inl bd))] := hD.sub [0, 13, 14, 1, 2, 3, 4, 5, 6, 7, 8, 9, 10, 11, 12] (by decide) rfl
                        have p115 : er_ok zu8 R3 (e2 * 6) zu6 0 co M bd k := p115
                        refine lv_aload_n hx hb dd_Proof_gather_118 rfl (lv_at hl 0 rfl) ?_
                        refine lv_dup hx hb dd_Proof_gather_119 rfl ?_
                        refine va_get (D := D) (ci := 4) (v := .int (nI e2)) (C := RR_Proof) (T := FF_Proof) (N := 3) hx hb htb hi_Proof hown hK hP 0 rfl rfl 0 (by decide) hf_11 (fun _ h9 => h9) rfl dd_Proof_gather_120 ?_
                        refine lv_iconst (v := 1) hx hb dd_Proof_gather_123 (by decide) ?_
                        refine lv_iadd hx hb dd_Proof_gather_124 ?_
                        refine mm_topi (y := nI (e2 + 1)) (nI_add e2 1) ?_
                        refine va_put (D := D) (ci := 4) (v := .int (nI (e2 + 1))) (ty := .int) (C := RR_Proof) (T := FF_Proof) (N := 3) hx hb htb hi_Proof tt_Proof tt_Proof_ok nn_Proof hown hK hP hD hS 0 rfl rfl 0 (by decide) hf_11 (fun _ h9 => h9) rfl (by decide +kernel) (rfl) (rfl) (Nat.le_of_ble_eq_true rfl) dd_Proof_gather_125 (fun H locs hP hD hS => ?_)
                        have hP : va_P D kc_all [(pf, .inr (4, [.int (nI (e2 + 1)), .ref pn, .ref pr])), (pn, .inl (cI, 7, .inl zu6)), (pr, .inl (cL, 2772, .inr (.inl zu8))), (mi, .inr (1, [.ref mv])), (mv, .inl (cI, 2048, .inl vals)), (a, .inr (0, [.int (nI n), .int (nI k), .ref al, .ref am, .ref aw, .ref ac, .ref ag, .ref ab])), (ac, .inl (cI, 4, .inl co)), (ag, .inl (cQ, 6, .inr (.inr (.inr (.inr (fun i9 => some (rw i9))))))), (rw 0, .inl (cI, 4, .inl (M 0))), (rw 1, .inl (cI, 4, .inl (M 1))), (rw 2, .inl (cI, 4, .inl (M 2))), (rw 3, .inl (cI, 4, .inl (M 3))), (rw 4, .inl (cI, 4, .inl (M 4))), (rw 5, .inl (cI, 4, .inl (M 5))), (ab, .inl (cI, 6, .inl bd))] H := hP
                        have hD : va_D A [(pf, .inr (4, [.int (nI (e2 + 1)), .ref pn, .ref pr])), (pn, .inl (cI, 7, .inl zu6)), (pr, .inl (cL, 2772, .inr (.inl zu8))), (mi, .inr (1, [.ref mv])), (mv, .inl (cI, 2048, .inl vals)), (a, .inr (0, [.int (nI n), .int (nI k), .ref al, .ref am, .ref aw, .ref ac, .ref ag, .ref ab])), (ac, .inl (cI, 4, .inl co)), (ag, .inl (cQ, 6, .inr (.inr (.inr (.inr (fun i9 => some (rw i9))))))), (rw 0, .inl (cI, 4, .inl (M 0))), (rw 1, .inl (cI, 4, .inl (M 1))), (rw 2, .inl (cI, 4, .inl (M 2))), (rw 3, .inl (cI, 4, .inl (M 3))), (rw 4, .inl (cI, 4, .inl (M 4))), (rw 5, .inl (cI, 4, .inl (M 5))), (ab, .inl (cI, 6, .inl bd))] := hD
                        refine lv_iinc (k := 6) (v := nI (c0 + 1)) (lv' := [(7, .int (nI (c0 + 1))), (0, .ref pf), (1, .ref a), (2, .ref mi), (4, .int (nI th)), (5, .int (nI zs)), (6, .int (nI (pc_n zs + 1)))]) hx hb dd_Proof_gather_128 hl rfl (nI_1 _) (by decide) rfl (fun ls hl => ?_)
                        refine lv_goto (tgt := 48) hx hb dd_Proof_gather_131 (by decide) ?_
                        exact IH48 (c0 + 1) (e2 + 1) zu8 zu6 (by omega) (by omega) (by first | exact gc_n1 hw h63 | exact gc_n2 hw h73 | exact gc_y hw ⟨hc.1.1, h63, h73⟩ (gs_n1 (tl_0 p82.1 h85) p82.2) | exact gc_y hw ⟨hc.1.1, h63, h73⟩ (gs_n2 h95 p82.2) | exact gc_y hw ⟨hc.1.1, h63, h73⟩ (gs_y ⟨tl_1 p82.1 h85, Nat.lt_of_not_le h95⟩ p82.2 p115)) ls H locs (lv_sub hl [1, 2, 3, 4, 5, 6, 0] rfl) hP hD hS
          exact J48 _ 1 ec R2 num2 (Nat.lt_succ_self _) (by omega) (gc_0) ls H locs (lv_sub hl [2, 3, 4, 5, 6, 1, 0] rfl) hP hD hS
    exact J25 _ 0 0 R num (Nat.lt_succ_self _) (⟨Nat.zero_le _, by decide⟩) (rfl) ls H locs (lv_sub hl [1, 2, 3, 4, 0] rfl) hP hD hS
  refine lv_aload_n hx hb dd_Proof_gather_5 rfl (lv_at hl 1 rfl) ?_
  refine mm_i (wc := [(a, .inr (0, [.int (nI n), .int (nI k), .ref al, .ref am, .ref aw, .ref ac, .ref ag, .ref ab]))]) (wr := [(pf, .inr (4, [.int (0 : Int32), .ref pn, .ref pr])), (pn, .inl (cI, 7, .inl num)), (pr, .inl (cL, 2772, .inr (.inl R))), (mi, .inr (1, [.ref mv])), (mv, .inl (cI, 2048, .inl vals)), (ac, .inl (cI, 4, .inl co)), (ag, .inl (cQ, 6, .inr (.inr (.inr (.inr (fun i9 => some (rw i9))))))), (rw 0, .inl (cI, 4, .inl (M 0))), (rw 1, .inl (cI, 4, .inl (M 1))), (rw 2, .inl (cI, 4, .inl (M 2))), (rw 3, .inl (cI, 4, .inl (M 3))), (rw 4, .inl (cI, 4, .inl (M 4))), (rw 5, .inl (cI, 4, .inl (M 5))), (ab, .inl (cI, 6, .inl bd))]) (va_runS (As := [.ref a]) (rest := []) ⟨hx, hb, hml, hown, hts⟩ (cc_Minors_columnsOf l D cI cZ cL cQ _ a al am aw ac ag ab n k (by omega)) (mm_cwS 1 hts ml_Proof_27 sm_Minors_columnsOf ic_Minors cd_Minors_columnsOf rfl rfl (by decide +kernel) ⟨Nat.le_of_ble_eq_true rfl, Nat.le_of_ble_eq_true rfl⟩) (mm_preS hK hP hD [5] (by decide) rfl) rfl rfl hl.1 rfl (lv_room (Nat.le_of_ble_eq_true rfl)) dd_Proof_gather_6 ⟨Nat.zero_le _, Nat.zero_le _⟩) hP hD hS hA [5] [0, 1, 2, 3, 4, 6, 7, 8, 9, 10, 11, 12, 13, 14] rfl rfl (by decide) (by decide) (fun zr9 zu10 H locs p6 hP hD hS => ?_)
  have hP : va_P D kc_all [(pf, .inr (4, [.int (0 : Int32), .ref pn, .ref pr])), (pn, .inl (cI, 7, .inl num)), (pr, .inl (cL, 2772, .inr (.inl R))), (mi, .inr (1, [.ref mv])), (mv, .inl (cI, 2048, .inl vals)), (ac, .inl (cI, 4, .inl co)), (ag, .inl (cQ, 6, .inr (.inr (.inr (.inr (fun i9 => some (rw i9))))))), (rw 0, .inl (cI, 4, .inl (M 0))), (rw 1, .inl (cI, 4, .inl (M 1))), (rw 2, .inl (cI, 4, .inl (M 2))), (rw 3, .inl (cI, 4, .inl (M 3))), (rw 4, .inl (cI, 4, .inl (M 4))), (rw 5, .inl (cI, 4, .inl (M 5))), (ab, .inl (cI, 6, .inl bd)), (a, .inr (0, [.int (nI n), .int (nI k), .ref al, .ref am, .ref aw, .ref ac, .ref ag, .ref ab]))] H := hP
  have hD : va_D A [(pf, .inr (4, [.int (0 : Int32), .ref pn, .ref pr])), (pn, .inl (cI, 7, .inl num)), (pr, .inl (cL, 2772, .inr (.inl R))), (mi, .inr (1, [.ref mv])), (mv, .inl (cI, 2048, .inl vals)), (ac, .inl (cI, 4, .inl co)), (ag, .inl (cQ, 6, .inr (.inr (.inr (.inr (fun i9 => some (rw i9))))))), (rw 0, .inl (cI, 4, .inl (M 0))), (rw 1, .inl (cI, 4, .inl (M 1))), (rw 2, .inl (cI, 4, .inl (M 2))), (rw 3, .inl (cI, 4, .inl (M 3))), (rw 4, .inl (cI, 4, .inl (M 4))), (rw 5, .inl (cI, 4, .inl (M 5))), (ab, .inl (cI, 6, .inl bd)), (a, .inr (0, [.int (nI n), .int (nI k), .ref al, .ref am, .ref aw, .ref ac, .ref ag, .ref ab]))] := hD
  have hP : va_P D kc_all [(pf, .inr (4, [.int (0 : Int32), .ref pn, .ref pr])), (pn, .inl (cI, 7, .inl num)), (pr, .inl (cL, 2772, .inr (.inl R))), (mi, .inr (1, [.ref mv])), (mv, .inl (cI, 2048, .inl vals)), (a, .inr (0, [.int (nI n), .int (nI k), .ref al, .ref am, .ref aw, .ref ac, .ref ag, .ref ab])), (ac, .inl (cI, 4, .inl co)), (ag, .inl (cQ, 6, .inr (.inr (.inr (.inr (fun i9 => some (rw i9))))))), (rw 0, .inl (cI, 4, .inl (M 0))), (rw 1, .inl (cI, 4, .inl (M 1))), (rw 2, .inl (cI, 4, .inl (M 2))), (rw 3, .inl (cI, 4, .inl (M 3))), (rw 4, .inl (cI, 4, .inl (M 4))), (rw 5, .inl (cI, 4, .inl (M 5))), (ab, .inl (cI, 6, .inl bd))] H := hP.sub [0, 1, 2, 3, 4, 14, 5, 6, 7, 8, 9, 10, 11, 12, 13] rfl
  have hD : va_D A [(pf, .inr (4, [.int (0 : Int32), .ref pn, .ref pr])), (pn, .inl (cI, 7, .inl num)), (pr, .inl (cL, 2772, .inr (.inl R))), (mi, .inr (1, [.ref mv])), (mv, .inl (cI, 2048, .inl vals)), (a, .inr (0, [.int (nI n), .int (nI k), .ref al, .ref am, .ref aw, .ref ac, .ref ag, .ref ab])), (ac, .inl (cI, 4, .inl co)), (ag, .inl (cQ, 6, .inr (.inr (.inr (.inr (fun i9 => some (rw i9))))))), (rw 0, .inl (cI, 4, .inl (M 0))), (rw 1, .inl (cI, 4, .inl (M 1))), (rw 2, .inl (cI, 4, .inl (M 2))), (rw 3, .inl (cI, 4, .inl (M 3))), (rw 4, .inl (cI, 4, .inl (M 4))), (rw 5, .inl (cI, 4, .inl (M 5))), (ab, .inl (cI, 6, .inl bd))] := hD.sub [0, 1, 2, 3, 4, 14, 5, 6, 7, 8, 9, 10, 11, 12, 13] (by decide) rfl
  have p6 : zr9 = nI (cs_n k) := p6
  refine mm_topi (y := nI (cs_n k)) (p6) ?_
  refine lv_istore (lv' := [(4, .int (nI (cs_n k))), (0, .ref pf), (1, .ref a), (2, .ref mi), (3, .int wc)]) hx hb dd_Proof_gather_9 hl (by decide) rfl (fun ls hl => ?_)
  refine lv_iload_n hx hb dd_Proof_gather_11 rfl (lv_at hl 4 rfl) ?_
  refine lv_if_ne (tgt := 22) hx hb dd_Proof_gather_12 (by decide) (fun h12 => ?_) (fun h12 => ?_)
  · skip
    exact J22 (cs_n k) ((if_neg h12).symm) ls H locs (lv_sub hl [1, 2, 3, 0] rfl) hP hD hS
  · skip
    refine lv_iload hx hb dd_Proof_gather_15 (lv_at hl 0 rfl) ?_
    refine lv_bipush (v := 64) hx hb dd_Proof_gather_17 (by decide) ?_
    refine lv_ixor hx hb dd_Proof_gather_19 ?_
    refine mm_topi (y := nI (2 ^ k - 1)) (bt_x64 k (by omega)) ?_
    refine lv_istore (lv' := [(4, .int (nI (2 ^ k - 1))), (0, .ref pf), (1, .ref a), (2, .ref mi), (3, .int wc)]) hx hb dd_Proof_gather_20 hl (by decide) rfl (fun ls hl => ?_)
    exact J22 (2 ^ k - 1) ((if_pos h12).symm) ls H locs (lv_sub hl [1, 2, 3, 0] rfl) hP hD hS
