abbrev qq_Integer_bitCount (D : va_G) (cI cZ cL cQ : ClassId) (v : Nat) (A : Nat → Prop) : Array Value → State → Outcome → State → Prop := va_Qi (fun (r : Int32) (u : Unit) => r = nI (pc_n v)) (fun (u : Unit) t => mm_B D kc_all [(cI, .int), (cZ, .boolean), (cL, .long), (cQ, .array .int)] A [] t) A
set_option maxHeartbeats 4000000 in
set_option maxRecDepth 100000 in
theorem cc_Integer_bitCount (l : Launch) (D : va_G) (cI cZ cL cQ : ClassId) (sz : Nat) (v : Nat) (hv : v < 128) : Met l yy_Integer_bitCount ww_Integer_bitCount ({ frames := 0, cells := 0, slots := 0, locals := 0 } : Room) (mm_Pc D kc_all [(cI, .int), (cZ, .boolean), (cL, .long), (cQ, .array .int)] sz [] [.int (nI v)]) (qq_Integer_bitCount D cI cZ cL cQ v (va_A [] sz)) 0 0 (va_A [] sz) := by
  refine Met.ofW (cc := bb_Integer_bitCount) (maxL := 1) (ret := (some .int)) (by decide) rfl ?_
  intro p e s m args below meth c s₁ B hml hv
  obtain ⟨rfl, hsz, hP, hK, hD0⟩ := hv
  have hx := B.exec
  have hb := B.bytes
  have hr := B.returns
  have hts := atoms_spec (ws := ww_Integer_bitCount) B.pre
  have hown : s.vm.findClass RR_Integer = some m.cls := findClass_of_methodNamed B.named
  have hlocks := B.notSynchronized
  subst hsz
  have hD := hD0.self (sz := s.heap.size)
  generalize hAe : va_A [] s.heap.size = A at hD ⊢
  have hA : ∀ q : Nat, s.heap.size ≤ q → A q := fun q h => by rw [← hAe]; exact Or.inr h
  have hS : va_S A s.heap s.heap [] := va_S.rf
  have hP : va_P D kc_all [] s.heap := hP
  have hl := lv_entry ([.int (nI v)]) (n := 1) (Nat.le_of_ble_eq_true rfl)
  rw [lg_entry_eq]
  generalize (lg_sl ([.int (nI v)]) ++ List.replicate (1 - (lg_sl ([.int (nI v)])).length) Slot.unset).toArray = ls at hl ⊢
  have hl : lv_has ls 1 [(0, .int (nI v))] := hl
  have htb : ∀ w ∈ tb_all, w.before ([.int (nI v)]).toArray s = true := fun w h => hts w (List.mem_cons_of_mem _ h)
  refine lv_iload_n hx hb dd_Integer_bitCount_0 rfl (lv_at hl 0 rfl) ?_
  refine lv_iload_n hx hb dd_Integer_bitCount_1 rfl (lv_at hl 0 rfl) ?_
  refine lv_iconst (v := 1) hx hb dd_Integer_bitCount_2 (by decide) ?_
  refine lv_iushr (v := ((nI v).toUInt32 >>> ((1 : Int32).toUInt32 &&& Int32.toUInt32 31)).toInt32) hx hb dd_Integer_bitCount_3 rfl ?_
  refine lv_ldcw (v := 1431655765) hx hb hown (htb _ kn_Integer_265) dd_Integer_bitCount_4 ?_
  refine lv_iand hx hb dd_Integer_bitCount_7 ?_
  refine lv_isub hx hb dd_Integer_bitCount_8 ?_
  refine mm_topi (y := bc_1 (nI v)) (rfl) ?_
  refine lv_istore_n (lv' := [(0, .int (bc_1 (nI v)))]) hx hb dd_Integer_bitCount_9 rfl hl (by decide) rfl (fun ls hl => ?_)
  refine lv_iload_n hx hb dd_Integer_bitCount_10 rfl (lv_at hl 0 rfl) ?_
  refine lv_ldcw (v := 858993459) hx hb hown (htb _ kn_Integer_266) dd_Integer_bitCount_11 ?_
  refine lv_iand hx hb dd_Integer_bitCount_14 ?_
  refine lv_iload_n hx hb dd_Integer_bitCount_15 rfl (lv_at hl 0 rfl) ?_
  refine lv_iconst (v := 2) hx hb dd_Integer_bitCount_16 (by decide) ?_
  refine lv_iushr (v := ((bc_1 (nI v)).toUInt32 >>> ((2 : Int32).toUInt32 &&& Int32.toUInt32 31)).toInt32) hx hb dd_Integer_bitCount_17 rfl ?_
  refine lv_ldcw (v := 858993459) hx hb hown (htb _ kn_Integer_266) dd_Integer_bitCount_18 ?_
  refine lv_iand hx hb dd_Integer_bitCount_21 ?_
  refine lv_iadd hx hb dd_Integer_bitCount_22 ?_
  refine mm_topi (y := bc_2 (bc_1 (nI v))) (rfl) ?_
  refine lv_istore_n (lv' := [(0, .int (bc_2 (bc_1 (nI v))))]) hx hb dd_Integer_bitCount_23 rfl hl (by decide) rfl (fun ls hl => ?_)
  refine lv_iload_n hx hb dd_Integer_bitCount_24 rfl (lv_at hl 0 rfl) ?_
  refine lv_iload_n hx hb dd_Integer_bitCount_25 rfl (lv_at hl 0 rfl) ?_
  refine lv_iconst (v := 4) hx hb dd_Integer_bitCount_26 (by decide) ?_
  refine lv_iushr (v := ((bc_2 (bc_1 (nI v))).toUInt32 >>> ((4 : Int32).toUInt32 &&& Int32.toUInt32 31)).toInt32) hx hb dd_Integer_bitCount_27 rfl ?_
  refine lv_iadd hx hb dd_Integer_bitCount_28 ?_
  refine lv_ldcw (v := 252645135) hx hb hown (htb _ kn_Integer_267) dd_Integer_bitCount_29 ?_
  refine lv_iand hx hb dd_Integer_bitCount_32 ?_
  refine mm_topi (y := bc_3 (bc_2 (bc_1 (nI v)))) (rfl) ?_
  refine lv_istore_n (lv' := [(0, .int (bc_3 (bc_2 (bc_1 (nI v)))))]) hx hb dd_Integer_bitCount_33 rfl hl (by decide) rfl (fun ls hl => ?_)
  refine lv_iload_n hx hb dd_Integer_bitCount_34 rfl (lv_at hl 0 rfl) ?_
  refine lv_iload_n hx hb dd_Integer_bitCount_35 rfl (lv_at hl 0 rfl) ?_
  refine lv_bipush (v := 8) hx hb dd_Integer_bitCount_36 (by decide) ?_
  refine lv_iushr (v := ((bc_3 (bc_2 (bc_1 (nI v)))).toUInt32 >>> ((8 : Int32).toUInt32 &&& Int32.toUInt32 31)).toInt32) hx hb dd_Integer_bitCount_38 rfl ?_
  refine lv_iadd hx hb dd_Integer_bitCount_39 ?_
  refine mm_topi (y := bc_4 (bc_3 (bc_2 (bc_1 (nI v))))) (rfl) ?_
  refine lv_istore_n (lv' := [(0, .int (bc_4 (bc_3 (bc_2 (bc_1 (nI v))))))]) hx hb dd_Integer_bitCount_40 rfl hl (by decide) rfl (fun ls hl => ?_)
  refine lv_iload_n hx hb dd_Integer_bitCount_41 rfl (lv_at hl 0 rfl) ?_
  refine lv_iload_n hx hb dd_Integer_bitCount_42 rfl (lv_at hl 0 rfl) ?_
  refine lv_bipush (v := 16) hx hb dd_Integer_bitCount_43 (by decide) ?_
  refine lv_iushr (v := ((bc_4 (bc_3 (bc_2 (bc_1 (nI v))))).toUInt32 >>> ((16 : Int32).toUInt32 &&& Int32.toUInt32 31)).toInt32) hx hb dd_Integer_bitCount_45 rfl ?_
  refine lv_iadd hx hb dd_Integer_bitCount_46 ?_
  refine mm_topi (y := bc_5 (bc_4 (bc_3 (bc_2 (bc_1 (nI v)))))) (rfl) ?_
  refine lv_istore_n (lv' := [(0, .int (bc_5 (bc_4 (bc_3 (bc_2 (bc_1 (nI v)))))))]) hx hb dd_Integer_bitCount_47 rfl hl (by decide) rfl (fun ls hl => ?_)
  refine lv_iload_n hx hb dd_Integer_bitCount_48 rfl (lv_at hl 0 rfl) ?_
  refine lv_bipush (v := 63) hx hb dd_Integer_bitCount_49 (by decide) ?_
  refine lv_iand hx hb dd_Integer_bitCount_51 ?_
  refine mm_topi (y := nI (pc_n v)) (bc_ok v hv) ?_
  exact W.iret (v := (nI (pc_n v))) hx hb hr (fun t ht hW => ⟨⟨nI (pc_n v), (), rfl, rfl, by rw [ht]; exact hP, va_K.moved hW.alike hK, hD⟩, hS.F ht⟩) hS.2.2 dd_Integer_bitCount_52
abbrev qq_Integer_numberOfTrailingZeros (D : va_G) (cI cZ cL cQ : ClassId) (v : Nat) (A : Nat → Prop) : Array Value → State → Outcome → State → Prop := va_Qi (fun (r : Int32) (u : Unit) => r = nI (tz_n v)) (fun (u : Unit) t => mm_B D kc_all [(cI, .int), (cZ, .boolean), (cL, .long), (cQ, .array .int)] A [] t) A
set_option maxHeartbeats 4000000 in
set_option maxRecDepth 100000 in
theorem cc_Integer_numberOfTrailingZeros (l : Launch) (D : va_G) (cI cZ cL cQ : ClassId) (sz : Nat) (v : Nat) (hv : v < 16) (h1 : 1 ≤ v) : Met l yy_Integer_numberOfTrailingZeros ww_Integer_numberOfTrailingZeros ({ frames := 0, cells := 0, slots := 0, locals := 0 } : Room) (mm_Pc D kc_all [(cI, .int), (cZ, .boolean), (cL, .long), (cQ, .array .int)] sz [] [.int (nI v)]) (qq_Integer_numberOfTrailingZeros D cI cZ cL cQ v (va_A [] sz)) 0 0 (va_A [] sz) := by
  refine Met.ofW (cc := bb_Integer_numberOfTrailingZeros) (maxL := 2) (ret := (some .int)) (by decide) rfl ?_
  intro p e s m args below meth c s₁ B hml hv
  obtain ⟨rfl, hsz, hP, hK, hD0⟩ := hv
  have hx := B.exec
  have hb := B.bytes
  have hr := B.returns
  have hts := atoms_spec (ws := ww_Integer_numberOfTrailingZeros) B.pre
  have hown : s.vm.findClass RR_Integer = some m.cls := findClass_of_methodNamed B.named
  have hlocks := B.notSynchronized
  subst hsz
  have hD := hD0.self (sz := s.heap.size)
  generalize hAe : va_A [] s.heap.size = A at hD ⊢
  have hA : ∀ q : Nat, s.heap.size ≤ q → A q := fun q h => by rw [← hAe]; exact Or.inr h
  have hS : va_S A s.heap s.heap [] := va_S.rf
  have hP : va_P D kc_all [] s.heap := hP
  have hl := lv_entry ([.int (nI v)]) (n := 2) (Nat.le_of_ble_eq_true rfl)
  rw [lg_entry_eq]
  generalize (lg_sl ([.int (nI v)]) ++ List.replicate (2 - (lg_sl ([.int (nI v)])).length) Slot.unset).toArray = ls at hl ⊢
  have hl : lv_has ls 2 [(0, .int (nI v))] := hl
  have htb : ∀ w ∈ tb_all, w.before ([.int (nI v)]).toArray s = true := fun w h => hts w (List.mem_cons_of_mem _ h)
  refine lv_iload_n hx hb dd_Integer_numberOfTrailingZeros_0 rfl (lv_at hl 0 rfl) ?_
  refine lv_iconst (v := (-1)) hx hb dd_Integer_numberOfTrailingZeros_1 (by decide) ?_
  refine lv_ixor hx hb dd_Integer_numberOfTrailingZeros_2 ?_
  refine lv_iload_n hx hb dd_Integer_numberOfTrailingZeros_3 rfl (lv_at hl 0 rfl) ?_
  refine lv_iconst (v := 1) hx hb dd_Integer_numberOfTrailingZeros_4 (by decide) ?_
  refine lv_isub hx hb dd_Integer_numberOfTrailingZeros_5 ?_
  refine lv_iand hx hb dd_Integer_numberOfTrailingZeros_6 ?_
  refine mm_topi (y := tz_1 (nI v)) (rfl) ?_
  refine lv_istore_n (lv' := [(0, .int (tz_1 (nI v)))]) hx hb dd_Integer_numberOfTrailingZeros_7 rfl hl (by decide) rfl (fun ls hl => ?_)
  refine lv_iload_n hx hb dd_Integer_numberOfTrailingZeros_8 rfl (lv_at hl 0 rfl) ?_
  refine lv_if_gt (tgt := 17) hx hb dd_Integer_numberOfTrailingZeros_9 (by decide) (fun h9 => ?_) (fun h9 => ?_)
  · skip
    refine lv_iconst (v := 1) hx hb dd_Integer_numberOfTrailingZeros_17 (by decide) ?_
    refine lv_istore_n (lv' := [(1, .int (1 : Int32)), (0, .int (tz_1 (nI v)))]) hx hb dd_Integer_numberOfTrailingZeros_18 rfl hl (by decide) rfl (fun ls hl => ?_)
    refine lv_iload_n hx hb dd_Integer_numberOfTrailingZeros_19 rfl (lv_at hl 1 rfl) ?_
    refine lv_ldcw (v := 65536) hx hb hown (htb _ kn_Integer_264) dd_Integer_numberOfTrailingZeros_20 ?_
    refine lv_icmp_le (tgt := 34) hx hb dd_Integer_numberOfTrailingZeros_23 (by decide) (fun h23 => ?_) (fun h23 => ?_)
    · skip
      refine lv_iload_n hx hb dd_Integer_numberOfTrailingZeros_34 rfl (lv_at hl 1 rfl) ?_
      refine lv_sipush (v := 256) hx hb dd_Integer_numberOfTrailingZeros_35 (by decide) ?_
      refine lv_icmp_le (tgt := 49) hx hb dd_Integer_numberOfTrailingZeros_38 (by decide) (fun h38 => ?_) (fun h38 => ?_)
      · skip
        refine lv_iload_n hx hb dd_Integer_numberOfTrailingZeros_49 rfl (lv_at hl 1 rfl) ?_
        refine lv_bipush (v := 16) hx hb dd_Integer_numberOfTrailingZeros_50 (by decide) ?_
        refine lv_icmp_le (tgt := 62) hx hb dd_Integer_numberOfTrailingZeros_52 (by decide) (fun h52 => ?_) (fun h52 => ?_)
        · skip
          refine lv_iload_n hx hb dd_Integer_numberOfTrailingZeros_62 rfl (lv_at hl 1 rfl) ?_
          refine lv_iconst (v := 4) hx hb dd_Integer_numberOfTrailingZeros_63 (by decide) ?_
          refine lv_icmp_le (tgt := 74) hx hb dd_Integer_numberOfTrailingZeros_64 (by decide) (fun h64 => ?_) (fun h64 => ?_)
          · skip
            refine lv_iload_n hx hb dd_Integer_numberOfTrailingZeros_74 rfl (lv_at hl 0 rfl) ?_
            refine lv_iload_n hx hb dd_Integer_numberOfTrailingZeros_75 rfl (lv_at hl 1 rfl) ?_
            refine lv_iconst (v := 1) hx hb dd_Integer_numberOfTrailingZeros_76 (by decide) ?_
            refine lv_iushr (v := ((tz_1 (nI v)).toUInt32 >>> ((1 : Int32).toUInt32 &&& Int32.toUInt32 31)).toInt32) hx hb dd_Integer_numberOfTrailingZeros_77 rfl ?_
            refine lv_iadd hx hb dd_Integer_numberOfTrailingZeros_78 ?_
            exact W.iret (v := ((1 : Int32) + (((tz_1 (nI v)).toUInt32 >>> ((1 : Int32).toUInt32 &&& Int32.toUInt32 31)).toInt32))) hx hb hr (fun t ht hW => ⟨⟨(1 : Int32) + (((tz_1 (nI v)).toUInt32 >>> ((1 : Int32).toUInt32 &&& Int32.toUInt32 31)).toInt32), (), rfl, by first | exact tz_r1 v hv h1 h9 h64 | exact tz_r2 v hv h1 h9 h64, by rw [ht]; exact hP, va_K.moved hW.alike hK, hD⟩, hS.F ht⟩) hS.2.2 dd_Integer_numberOfTrailingZeros_79
          · skip
            refine lv_iinc (k := 0) (v := nI (1 + 2)) (lv' := [(1, .int (nI (1 + 2))), (0, .int (tz_1 (nI v)))]) hx hb dd_Integer_numberOfTrailingZeros_67 hl rfl (nI_add _ 2) (by decide) rfl (fun ls hl => ?_)
            refine lv_iload_n hx hb dd_Integer_numberOfTrailingZeros_70 rfl (lv_at hl 1 rfl) ?_
            refine lv_iconst (v := 2) hx hb dd_Integer_numberOfTrailingZeros_71 (by decide) ?_
            refine lv_iushr (v := ((tz_1 (nI v)).toUInt32 >>> ((2 : Int32).toUInt32 &&& Int32.toUInt32 31)).toInt32) hx hb dd_Integer_numberOfTrailingZeros_72 rfl ?_
            refine lv_istore_n (lv' := [(0, .int (((tz_1 (nI v)).toUInt32 >>> ((2 : Int32).toUInt32 &&& Int32.toUInt32 31)).toInt32)), (1, .int (nI (1 + 2)))]) hx hb dd_Integer_numberOfTrailingZeros_73 rfl hl (by decide) rfl (fun ls hl => ?_)
            refine lv_iload_n hx hb dd_Integer_numberOfTrailingZeros_74 rfl (lv_at hl 1 rfl) ?_
            refine lv_iload_n hx hb dd_Integer_numberOfTrailingZeros_75 rfl (lv_at hl 0 rfl) ?_
            refine lv_iconst (v := 1) hx hb dd_Integer_numberOfTrailingZeros_76 (by decide) ?_
            refine lv_iushr (v := ((((tz_1 (nI v)).toUInt32 >>> ((2 : Int32).toUInt32 &&& Int32.toUInt32 31)).toInt32).toUInt32 >>> ((1 : Int32).toUInt32 &&& Int32.toUInt32 31)).toInt32) hx hb dd_Integer_numberOfTrailingZeros_77 rfl ?_
            refine lv_iadd hx hb dd_Integer_numberOfTrailingZeros_78 ?_
            exact W.iret (v := ((nI (1 + 2)) + (((((tz_1 (nI v)).toUInt32 >>> ((2 : Int32).toUInt32 &&& Int32.toUInt32 31)).toInt32).toUInt32 >>> ((1 : Int32).toUInt32 &&& Int32.toUInt32 31)).toInt32))) hx hb hr (fun t ht hW => ⟨⟨(nI (1 + 2)) + (((((tz_1 (nI v)).toUInt32 >>> ((2 : Int32).toUInt32 &&& Int32.toUInt32 31)).toInt32).toUInt32 >>> ((1 : Int32).toUInt32 &&& Int32.toUInt32 31)).toInt32), (), rfl, by first | exact tz_r1 v hv h1 h9 h64 | exact tz_r2 v hv h1 h9 h64, by rw [ht]; exact hP, va_K.moved hW.alike hK, hD⟩, hS.F ht⟩) hS.2.2 dd_Integer_numberOfTrailingZeros_79
        · skip
          exact absurd (tz_b v hv h1).2.2 h52
      · skip
        exact absurd (tz_b v hv h1).2.1 h38
    · skip
      exact absurd (tz_b v hv h1).1 h23
  · skip
    refine lv_iload_n hx hb dd_Integer_numberOfTrailingZeros_12 rfl (lv_at hl 0 rfl) ?_
    refine lv_bipush (v := 32) hx hb dd_Integer_numberOfTrailingZeros_13 (by decide) ?_
    refine lv_iand hx hb dd_Integer_numberOfTrailingZeros_15 ?_
    exact W.iret (v := ((tz_1 (nI v)) &&& (32 : Int32))) hx hb hr (fun t ht hW => ⟨⟨(tz_1 (nI v)) &&& (32 : Int32), (), rfl, tz_r0 v hv h1 h9, by rw [ht]; exact hP, va_K.moved hW.alike hK, hD⟩, hS.F ht⟩) hS.2.2 dd_Integer_numberOfTrailingZeros_16
abbrev qq_Math_floorDiv (D : va_G) (cI cZ cL cQ : ClassId) (x : Int32) (y : Int32) (A : Nat → Prop) : Array Value → State → Outcome → State → Prop := va_Qi (fun (r : Int32) (u : Unit) => r = if 0 ≤ x ^^^ y then x / y else if (x / y) * y = x then x / y else x / y - 1) (fun (u : Unit) t => mm_B D kc_all [(cI, .int), (cZ, .boolean), (cL, .long), (cQ, .array .int)] A [] t) A
set_option maxHeartbeats 4000000 in
set_option maxRecDepth 100000 in
theorem cc_Math_floorDiv (l : Launch) (D : va_G) (cI cZ cL cQ : ClassId) (sz : Nat) (x : Int32) (y : Int32) (hy : ¬ y = 0) : Met l yy_Math_floorDiv ww_Math_floorDiv ({ frames := 0, cells := 0, slots := 0, locals := 0 } : Room) (mm_Pc D kc_all [(cI, .int), (cZ, .boolean), (cL, .long), (cQ, .array .int)] sz [] [.int x, .int y]) (qq_Math_floorDiv D cI cZ cL cQ x y (va_A [] sz)) 0 0 (va_A [] sz) := by
  refine va_MetF (cc := bb_Math_floorDiv) (maxL := 3) (ret := (some .int)) (by decide +kernel) rfl ?_
  intro p e s m args below meth c s₁ B hml hv
  obtain ⟨rfl, hsz, hP, hK, hD0⟩ := hv
  have hx := B.exec
  have hb := B.bytes
  have hr := B.returns
  have hts := atoms_spec (ws := ww_Math_floorDiv) B.pre
  have hown : s.vm.findClass RR_Math = some m.cls := findClass_of_methodNamed B.named
  have hlocks := B.notSynchronized
  subst hsz
  have hD := hD0.self (sz := s.heap.size)
  generalize hAe : va_A [] s.heap.size = A at hD ⊢
  have hA : ∀ q : Nat, s.heap.size ≤ q → A q := fun q h => by rw [← hAe]; exact Or.inr h
  have hS : va_S A s.heap s.heap [] := va_S.rf
  have hP : va_P D kc_all [] s.heap := hP
  have hl := lv_entry ([.int x, .int y]) (n := 3) (Nat.le_of_ble_eq_true rfl)
  rw [lg_entry_eq]
  generalize (lg_sl ([.int x, .int y]) ++ List.replicate (3 - (lg_sl ([.int x, .int y])).length) Slot.unset).toArray = ls at hl ⊢
  have hl : lv_has ls 3 [(0, .int x), (1, .int y)] := hl
  have htb : ∀ w ∈ tb_all, w.before ([.int x, .int y]).toArray s = true := fun w h => hts w (List.mem_cons_of_mem _ h)
  refine lv_iload_n hx hb dd_Math_floorDiv_0 rfl (lv_at hl 0 rfl) ?_
  refine lv_iload_n hx hb dd_Math_floorDiv_1 rfl (lv_at hl 1 rfl) ?_
  refine lv_idiv hx hb dd_Math_floorDiv_2 (by assumption) ?_
  refine lv_istore_n (lv' := [(2, .int (x / y)), (0, .int x), (1, .int y)]) hx hb dd_Math_floorDiv_3 rfl hl (by decide) rfl (fun ls hl => ?_)
  refine lv_iload_n hx hb dd_Math_floorDiv_4 rfl (lv_at hl 1 rfl) ?_
  refine lv_iload_n hx hb dd_Math_floorDiv_5 rfl (lv_at hl 2 rfl) ?_
  refine lv_ixor hx hb dd_Math_floorDiv_6 ?_
  refine lv_if_ge (tgt := 21) hx hb dd_Math_floorDiv_7 (by decide) (fun h7 => ?_) (fun h7 => ?_)
  · skip
    refine lv_iload_n hx hb dd_Math_floorDiv_21 rfl (lv_at hl 0 rfl) ?_
    exact W.iret (v := (x / y)) hx hb hr (fun t ht hW => ⟨⟨x / y, (), rfl, by first | exact (if_pos h7).symm | exact ((if_neg h7).trans (if_pos h14)).symm | exact ((if_neg h7).trans (if_neg h14)).symm, by rw [ht]; exact hP, va_K.moved hW.alike hK, hD⟩, hS.F ht⟩) hS.2.2 dd_Math_floorDiv_22
  · skip
    refine lv_iload_n hx hb dd_Math_floorDiv_10 rfl (lv_at hl 0 rfl) ?_
    refine lv_iload_n hx hb dd_Math_floorDiv_11 rfl (lv_at hl 2 rfl) ?_
    refine lv_imul hx hb dd_Math_floorDiv_12 ?_
    refine lv_iload_n hx hb dd_Math_floorDiv_13 rfl (lv_at hl 1 rfl) ?_
    refine lv_icmp_eq (tgt := 21) hx hb dd_Math_floorDiv_14 (by decide) (fun h14 => ?_) (fun h14 => ?_)
    · skip
      refine lv_iload_n hx hb dd_Math_floorDiv_21 rfl (lv_at hl 0 rfl) ?_
      exact W.iret (v := (x / y)) hx hb hr (fun t ht hW => ⟨⟨x / y, (), rfl, by first | exact (if_pos h7).symm | exact ((if_neg h7).trans (if_pos h14)).symm | exact ((if_neg h7).trans (if_neg h14)).symm, by rw [ht]; exact hP, va_K.moved hW.alike hK, hD⟩, hS.F ht⟩) hS.2.2 dd_Math_floorDiv_22
    · skip
      refine lv_iload_n hx hb dd_Math_floorDiv_17 rfl (lv_at hl 0 rfl) ?_
      refine lv_iconst (v := 1) hx hb dd_Math_floorDiv_18 (by decide) ?_
      refine lv_isub hx hb dd_Math_floorDiv_19 ?_
      exact W.iret (v := ((x / y) - (1 : Int32))) hx hb hr (fun t ht hW => ⟨⟨(x / y) - (1 : Int32), (), rfl, by first | exact (if_pos h7).symm | exact ((if_neg h7).trans (if_pos h14)).symm | exact ((if_neg h7).trans (if_neg h14)).symm, by rw [ht]; exact hP, va_K.moved hW.alike hK, hD⟩, hS.F ht⟩) hS.2.2 dd_Math_floorDiv_20
abbrev qq_Minors_columnsOf (D : va_G) (cI cZ cL cQ : ClassId) (a : Nat) (al : Nat) (am : Nat) (aw : Nat) (ac : Nat) (ag : Nat) (ab : Nat) (n : Nat) (k : Nat) (A : Nat → Prop) : Array Value → State → Outcome → State → Prop := va_Qi (fun (r : Int32) (u : Unit) => r = nI (cs_n k)) (fun (u : Unit) t => mm_B D kc_all [(cI, .int), (cZ, .boolean), (cL, .long), (cQ, .array .int)] A [(a, .inr (0, [.int (nI n), .int (nI k), .ref al, .ref am, .ref aw, .ref ac, .ref ag, .ref ab]))] t) A
set_option maxHeartbeats 4000000 in
set_option maxRecDepth 100000 in
theorem cc_Minors_columnsOf (l : Launch) (D : va_G) (cI cZ cL cQ : ClassId) (sz : Nat) (a : Nat) (al : Nat) (am : Nat) (aw : Nat) (ac : Nat) (ag : Nat) (ab : Nat) (n : Nat) (k : Nat) (hk : k ≤ 6) : Met l yy_Minors_columnsOf ww_Minors_columnsOf ({ frames := 0, cells := 0, slots := 0, locals := 0 } : Room) (mm_Pc D kc_all [(cI, .int), (cZ, .boolean), (cL, .long), (cQ, .array .int)] sz [(a, .inr (0, [.int (nI n), .int (nI k), .ref al, .ref am, .ref aw, .ref ac, .ref ag, .ref ab]))] [.ref a]) (qq_Minors_columnsOf D cI cZ cL cQ a al am aw ac ag ab n k (va_A [(a, .inr (0, [.int (nI n), .int (nI k), .ref al, .ref am, .ref aw, .ref ac, .ref ag, .ref ab]))] sz)) 0 0 (va_A [(a, .inr (0, [.int (nI n), .int (nI k), .ref al, .ref am, .ref aw, .ref ac, .ref ag, .ref ab]))] sz) := by
  refine Met.ofW (cc := bb_Minors_columnsOf) (maxL := 1) (ret := (some .int)) (by decide) rfl ?_
  intro p e s m args below meth c s₁ B hml hv
  obtain ⟨rfl, hsz, hP, hK, hD0⟩ := hv
  have hx := B.exec
  have hb := B.bytes
  have hr := B.returns
  have hts := atoms_spec (ws := ww_Minors_columnsOf) B.pre
  have hown : s.vm.findClass RR_Minors = some m.cls := findClass_of_methodNamed B.named
  have hlocks := B.notSynchronized
  subst hsz
  have hD := hD0.self (sz := s.heap.size)
  generalize hAe : va_A [(a, .inr (0, [.int (nI n), .int (nI k), .ref al, .ref am, .ref aw, .ref ac, .ref ag, .ref ab]))] s.heap.size = A at hD ⊢
  have hA : ∀ q : Nat, s.heap.size ≤ q → A q := fun q h => by rw [← hAe]; exact Or.inr h
  have hS : va_S A s.heap s.heap [] := va_S.rf
  have hP : va_P D kc_all [(a, .inr (0, [.int (nI n), .int (nI k), .ref al, .ref am, .ref aw, .ref ac, .ref ag, .ref ab]))] s.heap := hP
  have hl := lv_entry ([.ref a]) (n := 1) (Nat.le_of_ble_eq_true rfl)
  rw [lg_entry_eq]
  generalize (lg_sl ([.ref a]) ++ List.replicate (1 - (lg_sl ([.ref a])).length) Slot.unset).toArray = ls at hl ⊢
  have hl : lv_has ls 1 [(0, .ref a)] := hl
  have htb : ∀ w ∈ tb_all, w.before ([.ref a]).toArray s = true := fun w h => hts w (List.mem_cons_of_mem _ h)
  have hf_35 := htb _ fl_Minors_35
  refine lv_bipush (v := 64) hx hb dd_Minors_columnsOf_0 (by decide) ?_
  refine lv_iconst (v := 1) hx hb dd_Minors_columnsOf_2 (by decide) ?_
  refine lv_aload_n hx hb dd_Minors_columnsOf_3 rfl (lv_at hl 0 rfl) ?_
  refine va_get (D := D) (ci := 0) (v := .int (nI k)) (C := RR_Problem) (T := FF_Problem) (N := 8) hx hb htb hi_Problem hown hK hP 0 rfl rfl 1 (by decide) hf_35 (fun _ h9 => h9) rfl dd_Minors_columnsOf_4 ?_
  refine lv_ishl hx hb dd_Minors_columnsOf_7 ?_
  refine mm_topi (y := nI (2 ^ k)) (bt_shl k (by omega)) ?_
  refine lv_iconst (v := 1) hx hb dd_Minors_columnsOf_8 (by decide) ?_
  refine lv_isub hx hb dd_Minors_columnsOf_9 ?_
  refine mm_topi (y := nI (2 ^ k - 1)) (bt_msk k (by omega)) ?_
  refine lv_ior hx hb dd_Minors_columnsOf_10 ?_
  refine mm_topi (y := nI (cs_n k)) (bt_cols k (by omega)) ?_
  exact W.iret (v := (nI (cs_n k))) hx hb hr (fun t ht hW => ⟨⟨nI (cs_n k), (), rfl, rfl, by rw [ht]; exact hP, va_K.moved hW.alike hK, hD⟩, hS.F ht⟩) hS.2.2 dd_Minors_columnsOf_11
abbrev qq_Minors_of (D : va_G) (cI cZ cL cQ : ClassId) (mi : Nat) (mv : Nat) (r1 : Nat) (c1 : Nat) (vals : Nat → Int32) (A : Nat → Prop) : Array Value → State → Outcome → State → Prop := va_Qi (fun (r : Int32) (u : Unit) => r = vals (r1 * 128 + c1)) (fun (u : Unit) t => mm_B D kc_all [(cI, .int), (cZ, .boolean), (cL, .long), (cQ, .array .int)] A [(mi, .inr (1, [.ref mv])), (mv, .inl (cI, 2048, .inl vals))] t) A
set_option maxHeartbeats 4000000 in
set_option maxRecDepth 100000 in
theorem cc_Minors_of (l : Launch) (D : va_G) (cI cZ cL cQ : ClassId) (sz : Nat) (mi : Nat) (mv : Nat) (r1 : Nat) (c1 : Nat) (vals : Nat → Int32) (hr9 : r1 < 16) (hc9 : c1 < 128) : Met l yy_Minors_of ww_Minors_of ({ frames := 0, cells := 0, slots := 0, locals := 0 } : Room) (mm_Pc D kc_all [(cI, .int), (cZ, .boolean), (cL, .long), (cQ, .array .int)] sz [(mi, .inr (1, [.ref mv])), (mv, .inl (cI, 2048, .inl vals))] [.ref mi, .int (nI r1), .int (nI c1)]) (qq_Minors_of D cI cZ cL cQ mi mv r1 c1 vals (va_A [(mi, .inr (1, [.ref mv])), (mv, .inl (cI, 2048, .inl vals))] sz)) 0 0 (va_A [(mi, .inr (1, [.ref mv])), (mv, .inl (cI, 2048, .inl vals))] sz) := by
  refine Met.ofW (cc := bb_Minors_of) (maxL := 3) (ret := (some .int)) (by decide) rfl ?_
  intro p e s m args below meth c s₁ B hml hv
  obtain ⟨rfl, hsz, hP, hK, hD0⟩ := hv
  have hx := B.exec
  have hb := B.bytes
  have hr := B.returns
  have hts := atoms_spec (ws := ww_Minors_of) B.pre
  have hown : s.vm.findClass RR_Minors = some m.cls := findClass_of_methodNamed B.named
  have hlocks := B.notSynchronized
  subst hsz
  have hD := hD0.self (sz := s.heap.size)
  generalize hAe : va_A [(mi, .inr (1, [.ref mv])), (mv, .inl (cI, 2048, .inl vals))] s.heap.size = A at hD ⊢
  have hA : ∀ q : Nat, s.heap.size ≤ q → A q := fun q h => by rw [← hAe]; exact Or.inr h
  have hS : va_S A s.heap s.heap [] := va_S.rf
  have hP : va_P D kc_all [(mi, .inr (1, [.ref mv])), (mv, .inl (cI, 2048, .inl vals))] s.heap := hP
  have hl := lv_entry ([.ref mi, .int (nI r1), .int (nI c1)]) (n := 3) (Nat.le_of_ble_eq_true rfl)
  rw [lg_entry_eq]
  generalize (lg_sl ([.ref mi, .int (nI r1), .int (nI c1)]) ++ List.replicate (3 - (lg_sl ([.ref mi, .int (nI r1), .int (nI c1)])).length) Slot.unset).toArray = ls at hl ⊢
  have hl : lv_has ls 3 [(0, .ref mi), (1, .int (nI r1)), (2, .int (nI c1))] := hl
  have htb : ∀ w ∈ tb_all, w.before ([.ref mi, .int (nI r1), .int (nI c1)]).toArray s = true := fun w h => hts w (List.mem_cons_of_mem _ h)
  have hf_11 := htb _ fl_Minors_11
  refine lv_aload_n hx hb dd_Minors_of_0 rfl (lv_at hl 0 rfl) ?_
  refine va_get (D := D) (ci := 1) (v := .ref mv) (C := RR_Minors) (T := FF_Minors) (N := 1) hx hb htb hi_Minors hown hK hP 0 rfl rfl 0 (by decide) hf_11 (fun _ h9 => h9) rfl dd_Minors_of_1 ?_
  refine lv_iload_n hx hb dd_Minors_of_4 rfl (lv_at hl 1 rfl) ?_
  refine lv_bipush (v := 7) hx hb dd_Minors_of_5 (by decide) ?_
  refine lv_ishl hx hb dd_Minors_of_7 ?_
  refine mm_topi (y := nI (r1 * 128)) (bt_s7 r1 hr9) ?_
  refine lv_iload_n hx hb dd_Minors_of_8 rfl (lv_at hl 2 rfl) ?_
  refine lv_ior hx hb dd_Minors_of_9 ?_
  refine mm_topi (y := nI (r1 * 128 + c1)) (bt_or r1 hr9 c1 hc9) ?_
  refine mm_iald hx hb hK hP 1 0 rfl rfl (r1 * 128 + c1) (rfl) (by omega) (by first | decide | omega) dd_Minors_of_10 ?_
  exact W.iret (v := (vals (r1 * 128 + c1))) hx hb hr (fun t ht hW => ⟨⟨vals (r1 * 128 + c1), (), rfl, rfl, by rw [ht]; exact hP, va_K.moved hW.alike hK, hD⟩, hS.F ht⟩) hS.2.2 dd_Minors_of_11
abbrev qq_Minors_cofactor (D : va_G) (cI cZ cL cQ : ClassId) (mi : Nat) (mv : Nat) (r1 : Nat) (c1 : Nat) (ro : Nat) (cl : Nat) (vals : Nat → Int32) (A : Nat → Prop) : Array Value → State → Outcome → State → Prop := va_Qi (fun (r : Int32) (u : Unit) => r = cf_f vals r1 c1 ro cl) (fun (u : Unit) t => mm_B D kc_all [(cI, .int), (cZ, .boolean), (cL, .long), (cQ, .array .int)] A [(mi, .inr (1, [.ref mv])), (mv, .inl (cI, 2048, .inl vals))] t) A
set_option maxHeartbeats 4000000 in
set_option maxRecDepth 100000 in
theorem cc_Minors_cofactor (l : Launch) (D : va_G) (cI cZ cL cQ : ClassId) (sz : Nat) (mi : Nat) (mv : Nat) (r1 : Nat) (c1 : Nat) (ro : Nat) (cl : Nat) (vals : Nat → Int32) (hr9 : r1 < 16) (hc9 : c1 < 128) (hro : ro < 4) (hcl : cl < 7) : Met l yy_Minors_cofactor ww_Minors_cofactor ({ frames := 1, cells := 0, slots := 0, locals := 22 } : Room) (mm_Pc D kc_all [(cI, .int), (cZ, .boolean), (cL, .long), (cQ, .array .int)] sz [(mi, .inr (1, [.ref mv])), (mv, .inl (cI, 2048, .inl vals))] [.ref mi, .int (nI r1), .int (nI c1), .int (nI ro), .int (nI cl)]) (qq_Minors_cofactor D cI cZ cL cQ mi mv r1 c1 ro cl vals (va_A [(mi, .inr (1, [.ref mv])), (mv, .inl (cI, 2048, .inl vals))] sz)) 0 0 (va_A [(mi, .inr (1, [.ref mv])), (mv, .inl (cI, 2048, .inl vals))] sz) := by
  refine Met.ofW (cc := bb_Minors_cofactor) (maxL := 7) (ret := (some .int)) (by decide) rfl ?_
  intro p e s m args below meth c s₁ B hml hv
  obtain ⟨rfl, hsz, hP, hK, hD0⟩ := hv
  have hx := B.exec
  have hb := B.bytes
  have hr := B.returns
  have hts := atoms_spec (ws := ww_Minors_cofactor) B.pre
  have hown : s.vm.findClass RR_Minors = some m.cls := findClass_of_methodNamed B.named
  have hlocks := B.notSynchronized
  subst hsz
  have hD := hD0.self (sz := s.heap.size)
  generalize hAe : va_A [(mi, .inr (1, [.ref mv])), (mv, .inl (cI, 2048, .inl vals))] s.heap.size = A at hD ⊢
  have hA : ∀ q : Nat, s.heap.size ≤ q → A q := fun q h => by rw [← hAe]; exact Or.inr h
  have hS : va_S A s.heap s.heap [] := va_S.rf
  have hP : va_P D kc_all [(mi, .inr (1, [.ref mv])), (mv, .inl (cI, 2048, .inl vals))] s.heap := hP
  have hl := lv_entry ([.ref mi, .int (nI r1), .int (nI c1), .int (nI ro), .int (nI cl)]) (n := 7) (Nat.le_of_ble_eq_true rfl)
  rw [lg_entry_eq]
  generalize (lg_sl ([.ref mi, .int (nI r1), .int (nI c1), .int (nI ro), .int (nI cl)]) ++ List.replicate (7 - (lg_sl ([.ref mi, .int (nI r1), .int (nI c1), .int (nI ro), .int (nI cl)])).length) Slot.unset).toArray = ls at hl ⊢
  have hl : lv_has ls 7 [(0, .ref mi), (1, .int (nI r1)), (2, .int (nI c1)), (3, .int (nI ro)), (4, .int (nI cl))] := hl
  have htb : ∀ w ∈ tb_all, w.before ([.ref mi, .int (nI r1), .int (nI c1), .int (nI ro), .int (nI cl)]).toArray s = true := fun w h => hts w (List.mem_cons_of_mem _ h)
  have hm1 : r1 % 2 ^ ro < 128 := Nat.lt_of_le_of_lt (Nat.mod_le _ _) (by omega)
  have hm2 : c1 % 2 ^ cl < 128 := Nat.lt_of_le_of_lt (Nat.mod_le _ _) (by omega)
  have hx1 := bt_xlt ro hro r1 hr9
  have hx2 := bt_xlt7 cl hcl c1 hc9
  have hp1 := pc_le (r1 % 2 ^ ro)
  have hp2 := pc_le (c1 % 2 ^ cl)
  refine lv_iload_n hx hb dd_Minors_cofactor_0 rfl (lv_at hl 1 rfl) ?_
  refine lv_iconst (v := 1) hx hb dd_Minors_cofactor_1 (by decide) ?_
  refine lv_iload_n hx hb dd_Minors_cofactor_2 rfl (lv_at hl 3 rfl) ?_
  refine lv_ishl hx hb dd_Minors_cofactor_3 ?_
  refine mm_topi (y := nI (2 ^ ro)) (bt_shl ro (by omega)) ?_
  refine lv_iconst (v := 1) hx hb dd_Minors_cofactor_4 (by decide) ?_
  refine lv_isub hx hb dd_Minors_cofactor_5 ?_
  refine mm_topi (y := nI (2 ^ ro - 1)) (bt_msk ro (by omega)) ?_
  refine lv_iand hx hb dd_Minors_cofactor_6 ?_
  refine mm_topi (y := nI (r1 % 2 ^ ro)) (bt_and ro (by omega) r1 (by omega)) ?_
  refine mm_i (wc := []) (wr := [(mi, .inr (1, [.ref mv])), (mv, .inl (cI, 2048, .inl vals))]) (va_runS (As := [.int (nI (r1 % 2 ^ ro))]) (rest := []) ⟨hx, hb, hml, hown, hts⟩ (cc_Integer_bitCount l D cI cZ cL cQ _ (r1 % 2 ^ ro) (hm1)) (mm_cwS 1 hts ml_Minors_25 sm_Integer_bitCount ic_Integer cd_Integer_bitCount rfl rfl (by decide +kernel) ⟨Nat.le_of_ble_eq_true rfl, Nat.le_of_ble_eq_true rfl⟩) (mm_preS hK hP hD [] (by decide) rfl) rfl rfl hl.1 rfl (lv_room (Nat.le_of_ble_eq_true rfl)) dd_Minors_cofactor_7 ⟨Nat.zero_le _, Nat.zero_le _⟩) hP hD hS hA [] [0, 1] rfl rfl (by decide) (by decide) (fun zr1 zu2 H locs p7 hP hD hS => ?_)
  have hP : va_P D kc_all [(mi, .inr (1, [.ref mv])), (mv, .inl (cI, 2048, .inl vals))] H := hP
  have hD : va_D A [(mi, .inr (1, [.ref mv])), (mv, .inl (cI, 2048, .inl vals))] := hD
  have p7 : zr1 = nI (pc_n (r1 % 2 ^ ro)) := p7
  refine mm_topi (y := nI (pc_n (r1 % 2 ^ ro))) (p7) ?_
  refine lv_iload_n hx hb dd_Minors_cofactor_10 rfl (lv_at hl 2 rfl) ?_
  refine lv_iconst (v := 1) hx hb dd_Minors_cofactor_11 (by decide) ?_
  refine lv_iload hx hb dd_Minors_cofactor_12 (lv_at hl 4 rfl) ?_
  refine lv_ishl hx hb dd_Minors_cofactor_14 ?_
  refine mm_topi (y := nI (2 ^ cl)) (bt_shl cl (by omega)) ?_
  refine lv_iconst (v := 1) hx hb dd_Minors_cofactor_15 (by decide) ?_
  refine lv_isub hx hb dd_Minors_cofactor_16 ?_
  refine mm_topi (y := nI (2 ^ cl - 1)) (bt_msk cl (by omega)) ?_
  refine lv_iand hx hb dd_Minors_cofactor_17 ?_
  refine mm_topi (y := nI (c1 % 2 ^ cl)) (bt_and cl (by omega) c1 hc9) ?_
  refine mm_i (wc := []) (wr := [(mi, .inr (1, [.ref mv])), (mv, .inl (cI, 2048, .inl vals))]) (va_runS (As := [.int (nI (c1 % 2 ^ cl))]) (rest := [.int (nI (pc_n (r1 % 2 ^ ro)))]) ⟨hx, hb, hml, hown, hts⟩ (cc_Integer_bitCount l D cI cZ cL cQ _ (c1 % 2 ^ cl) (hm2)) (mm_cwS 1 hts ml_Minors_25 sm_Integer_bitCount ic_Integer cd_Integer_bitCount rfl rfl (by decide +kernel) ⟨Nat.le_of_ble_eq_true rfl, Nat.le_of_ble_eq_true rfl⟩) (mm_preS hK hP hD [] (by decide) rfl) rfl rfl hl.1 rfl (lv_room (Nat.le_of_ble_eq_true rfl)) dd_Minors_cofactor_18 ⟨Nat.zero_le _, Nat.zero_le _⟩) hP hD hS hA [] [0, 1] rfl rfl (by decide) (by decide) (fun zr3 zu4 H locs p18 hP hD hS => ?_)
  have hP : va_P D kc_all [(mi, .inr (1, [.ref mv])), (mv, .inl (cI, 2048, .inl vals))] H := hP
  have hD : va_D A [(mi, .inr (1, [.ref mv])), (mv, .inl (cI, 2048, .inl vals))] := hD
  have p18 : zr3 = nI (pc_n (c1 % 2 ^ cl)) := p18
  refine mm_topi (y := nI (pc_n (c1 % 2 ^ cl))) (p18) ?_
  refine lv_iadd hx hb dd_Minors_cofactor_21 ?_
  refine mm_topi (y := nI ((pc_n (r1 % 2 ^ ro)) + (pc_n (c1 % 2 ^ cl)))) (nI_add (pc_n (r1 % 2 ^ ro)) (pc_n (c1 % 2 ^ cl))) ?_
  refine lv_istore (lv' := [(5, .int (nI ((pc_n (r1 % 2 ^ ro)) + (pc_n (c1 % 2 ^ cl))))), (0, .ref mi), (1, .int (nI r1)), (2, .int (nI c1)), (3, .int (nI ro)), (4, .int (nI cl))]) hx hb dd_Minors_cofactor_22 hl (by decide) rfl (fun ls hl => ?_)
  refine lv_aload_n hx hb dd_Minors_cofactor_24 rfl (lv_at hl 1 rfl) ?_
  refine lv_iload_n hx hb dd_Minors_cofactor_25 rfl (lv_at hl 2 rfl) ?_
  refine lv_iconst (v := 1) hx hb dd_Minors_cofactor_26 (by decide) ?_
  refine lv_iload_n hx hb dd_Minors_cofactor_27 rfl (lv_at hl 4 rfl) ?_
  refine lv_ishl hx hb dd_Minors_cofactor_28 ?_
  refine mm_topi (y := nI (2 ^ ro)) (bt_shl ro (by omega)) ?_
  refine lv_ixor hx hb dd_Minors_cofactor_29 ?_
  refine mm_topi (y := nI (r1 ^^^ 2 ^ ro)) (bt_xor ro (by omega) r1 (by omega)) ?_
  refine lv_iload_n hx hb dd_Minors_cofactor_30 rfl (lv_at hl 3 rfl) ?_
  refine lv_iconst (v := 1) hx hb dd_Minors_cofactor_31 (by decide) ?_
  refine lv_iload hx hb dd_Minors_cofactor_32 (lv_at hl 5 rfl) ?_
  refine lv_ishl hx hb dd_Minors_cofactor_34 ?_
  refine mm_topi (y := nI (2 ^ cl)) (bt_shl cl (by omega)) ?_
  refine lv_ixor hx hb dd_Minors_cofactor_35 ?_
  refine mm_topi (y := nI (c1 ^^^ 2 ^ cl)) (bt_xor cl (by omega) c1 hc9) ?_
  refine mm_i (wc := [(mi, .inr (1, [.ref mv])), (mv, .inl (cI, 2048, .inl vals))]) (wr := []) (va_runV (As := [.int (nI (r1 ^^^ 2 ^ ro)), .int (nI (c1 ^^^ 2 ^ cl))]) (rest := []) (C := RR_Minors) ⟨hx, hb, hml, hown, hts⟩ (cc_Minors_of l D cI cZ cL cQ _ mi mv (r1 ^^^ 2 ^ ro) (c1 ^^^ 2 ^ cl) vals (hx1) (hx2)) (mm_cwV 2 hts ml_Minors_38 im_Minors_of se_Minors_of ic_Minors cd_Minors_of rfl rfl (by decide +kernel) ⟨Nat.le_of_ble_eq_true rfl, Nat.le_of_ble_eq_true rfl⟩) (mm_preV hK hP hD [0, 1] (by decide) rfl 0 rfl rfl) rfl rfl hl.1 rfl (lv_room (Nat.le_of_ble_eq_true rfl)) dd_Minors_cofactor_36 ⟨Nat.zero_le _, Nat.zero_le _⟩) hP hD hS hA [0, 1] [] rfl rfl (by decide) (by decide) (fun zr5 zu6 H locs p36 hP hD hS => ?_)
  have hP : va_P D kc_all [(mi, .inr (1, [.ref mv])), (mv, .inl (cI, 2048, .inl vals))] H := hP
  have hD : va_D A [(mi, .inr (1, [.ref mv])), (mv, .inl (cI, 2048, .inl vals))] := hD
  have p36 : zr5 = vals ((r1 ^^^ 2 ^ ro) * 128 + (c1 ^^^ 2 ^ cl)) := p36
  refine mm_topi (y := vals ((r1 ^^^ 2 ^ ro) * 128 + (c1 ^^^ 2 ^ cl))) (p36) ?_
  refine lv_istore (lv' := [(6, .int (vals ((r1 ^^^ 2 ^ ro) * 128 + (c1 ^^^ 2 ^ cl)))), (5, .int (nI ((pc_n (r1 % 2 ^ ro)) + (pc_n (c1 % 2 ^ cl))))), (0, .ref mi), (1, .int (nI r1)), (2, .int (nI c1)), (3, .int (nI ro)), (4, .int (nI cl))]) hx hb dd_Minors_cofactor_39 hl (by decide) rfl (fun ls hl => ?_)
  refine lv_iload hx hb dd_Minors_cofactor_41 (lv_at hl 1 rfl) ?_
  refine lv_iconst (v := 1) hx hb dd_Minors_cofactor_43 (by decide) ?_
  refine lv_iand hx hb dd_Minors_cofactor_44 ?_
  refine mm_topi (y := nI ((pc_n (r1 % 2 ^ ro) + pc_n (c1 % 2 ^ cl)) % 2)) (bt_par _ (by omega)) ?_
  refine lv_if_ne (tgt := 53) hx hb dd_Minors_cofactor_45 (by decide) (fun h45 => ?_) (fun h45 => ?_)
  · skip
    have h45 : ¬ ((pc_n (r1 % 2 ^ ro) + pc_n (c1 % 2 ^ cl)) % 2 = 0) := fun q9 => h45 ((nI_eq (a := (pc_n (r1 % 2 ^ ro) + pc_n (c1 % 2 ^ cl)) % 2) (b := 0) (by omega) (by omega)).mpr q9)
    refine lv_iload hx hb dd_Minors_cofactor_53 (lv_at hl 0 rfl) ?_
    refine lv_ineg hx hb dd_Minors_cofactor_55 ?_
    exact W.iret (v := (-(vals ((r1 ^^^ 2 ^ ro) * 128 + (c1 ^^^ 2 ^ cl))))) hx hb hr (fun t ht hW => ⟨⟨-(vals ((r1 ^^^ 2 ^ ro) * 128 + (c1 ^^^ 2 ^ cl))), (), rfl, by first | exact (if_pos h45).symm | exact (if_neg h45).symm, by rw [ht]; exact hP, va_K.moved hW.alike hK, hD⟩, hS.F ht⟩) hS.2.2 dd_Minors_cofactor_56
  · skip
    have h45 : (pc_n (r1 % 2 ^ ro) + pc_n (c1 % 2 ^ cl)) % 2 = 0 := (nI_eq (a := (pc_n (r1 % 2 ^ ro) + pc_n (c1 % 2 ^ cl)) % 2) (b := 0) (by omega) (by omega)).mp h45
    refine lv_iload hx hb dd_Minors_cofactor_48 (lv_at hl 0 rfl) ?_
    refine lv_goto (tgt := 56) hx hb dd_Minors_cofactor_50 (by decide) ?_
    exact W.iret (v := (vals ((r1 ^^^ 2 ^ ro) * 128 + (c1 ^^^ 2 ^ cl)))) hx hb hr (fun t ht hW => ⟨⟨vals ((r1 ^^^ 2 ^ ro) * 128 + (c1 ^^^ 2 ^ cl)), (), rfl, by first | exact (if_pos h45).symm | exact (if_neg h45).symm, by rw [ht]; exact hP, va_K.moved hW.alike hK, hD⟩, hS.F ht⟩) hS.2.2 dd_Minors_cofactor_56
abbrev qq_Minors_expand (D : va_G) (cI cZ cL cQ : ClassId) (mi : Nat) (mv : Nat) (a : Nat) (al : Nat) (am : Nat) (aw : Nat) (ac : Nat) (ag : Nat) (ab : Nat) (n : Nat) (k : Nat) (vals : Nat → Int32) (co : Nat → Int32) (rw : Nat → Nat) (M : Nat → Nat → Int32) (r1 : Nat) (c1 : Nat) (A : Nat → Prop) : Array Value → State → Outcome → State → Prop := va_Qi (fun (r : Int32) (u : Unit) => r = ex_f vals co M r1 c1 7) (fun (u : Unit) t => mm_B D kc_all [(cI, .int), (cZ, .boolean), (cL, .long), (cQ, .array .int)] A [(mi, .inr (1, [.ref mv])), (mv, .inl (cI, 2048, .inl vals)), (a, .inr (0, [.int (nI n), .int (nI k), .ref al, .ref am, .ref aw, .ref ac, .ref ag, .ref ab])), (ac, .inl (cI, 4, .inl co)), (ag, .inl (cQ, 6, .inr (.inr (.inr (.inr (fun i9 => some (rw i9))))))), (rw 0, .inl (cI, 4, .inl (M 0))), (rw 1, .inl (cI, 4, .inl (M 1))), (rw 2, .inl (cI, 4, .inl (M 2))), (rw 3, .inl (cI, 4, .inl (M 3))), (rw 4, .inl (cI, 4, .inl (M 4))), (rw 5, .inl (cI, 4, .inl (M 5)))] t) A
set_option maxHeartbeats 4000000 in
set_option maxRecDepth 100000 in
theorem cc_Minors_expand (l : Launch) (D : va_G) (cI cZ cL cQ : ClassId) (sz : Nat) (mi : Nat) (mv : Nat) (a : Nat) (al : Nat) (am : Nat) (aw : Nat) (ac : Nat) (ag : Nat) (ab : Nat) (n : Nat) (k : Nat) (vals : Nat → Int32) (co : Nat → Int32) (rw : Nat → Nat) (M : Nat → Nat → Int32) (r1 : Nat) (c1 : Nat) (hr9 : r1 < 16) (hr1 : 1 ≤ r1) (hc9 : c1 < 128) : Met l yy_Minors_expand ww_Minors_expand ({ frames := 2, cells := 0, slots := 0, locals := 48 } : Room) (mm_Pc D kc_all [(cI, .int), (cZ, .boolean), (cL, .long), (cQ, .array .int)] sz [(mi, .inr (1, [.ref mv])), (mv, .inl (cI, 2048, .inl vals)), (a, .inr (0, [.int (nI n), .int (nI k), .ref al, .ref am, .ref aw, .ref ac, .ref ag, .ref ab])), (ac, .inl (cI, 4, .inl co)), (ag, .inl (cQ, 6, .inr (.inr (.inr (.inr (fun i9 => some (rw i9))))))), (rw 0, .inl (cI, 4, .inl (M 0))), (rw 1, .inl (cI, 4, .inl (M 1))), (rw 2, .inl (cI, 4, .inl (M 2))), (rw 3, .inl (cI, 4, .inl (M 3))), (rw 4, .inl (cI, 4, .inl (M 4))), (rw 5, .inl (cI, 4, .inl (M 5)))] [.ref mi, .ref a, .int (nI r1), .int (nI c1)]) (qq_Minors_expand D cI cZ cL cQ mi mv a al am aw ac ag ab n k vals co rw M r1 c1 (va_A [(mi, .inr (1, [.ref mv])), (mv, .inl (cI, 2048, .inl vals)), (a, .inr (0, [.int (nI n), .int (nI k), .ref al, .ref am, .ref aw, .ref ac, .ref ag, .ref ab])), (ac, .inl (cI, 4, .inl co)), (ag, .inl (cQ, 6, .inr (.inr (.inr (.inr (fun i9 => some (rw i9))))))), (rw 0, .inl (cI, 4, .inl (M 0))), (rw 1, .inl (cI, 4, .inl (M 1))), (rw 2, .inl (cI, 4, .inl (M 2))), (rw 3, .inl (cI, 4, .inl (M 3))), (rw 4, .inl (cI, 4, .inl (M 4))), (rw 5, .inl (cI, 4, .inl (M 5)))] sz)) 0 0 (va_A [(mi, .inr (1, [.ref mv])), (mv, .inl (cI, 2048, .inl vals)), (a, .inr (0, [.int (nI n), .int (nI k), .ref al, .ref am, .ref aw, .ref ac, .ref ag, .ref ab])), (ac, .inl (cI, 4, .inl co)), (ag, .inl (cQ, 6, .inr (.inr (.inr (.inr (fun i9 => some (rw i9))))))), (rw 0, .inl (cI, 4, .inl (M 0))), (rw 1, .inl (cI, 4, .inl (M 1))), (rw 2, .inl (cI, 4, .inl (M 2))), (rw 3, .inl (cI, 4, .inl (M 3))), (rw 4, .inl (cI, 4, .inl (M 4))), (rw 5, .inl (cI, 4, .inl (M 5)))] sz) := by
  refine Met.ofW (cc := bb_Minors_expand) (maxL := 8) (ret := (some .int)) (by decide) rfl ?_
  intro p e s m args below meth c s₁ B hml hv
  obtain ⟨rfl, hsz, hP, hK, hD0⟩ := hv
  have hx := B.exec
  have hb := B.bytes
  have hr := B.returns
  have hts := atoms_spec (ws := ww_Minors_expand) B.pre
  have hown : s.vm.findClass RR_Minors = some m.cls := findClass_of_methodNamed B.named
  have hlocks := B.notSynchronized
  subst hsz
  have hD := hD0.self (sz := s.heap.size)
  generalize hAe : va_A [(mi, .inr (1, [.ref mv])), (mv, .inl (cI, 2048, .inl vals)), (a, .inr (0, [.int (nI n), .int (nI k), .ref al, .ref am, .ref aw, .ref ac, .ref ag, .ref ab])), (ac, .inl (cI, 4, .inl co)), (ag, .inl (cQ, 6, .inr (.inr (.inr (.inr (fun i9 => some (rw i9))))))), (rw 0, .inl (cI, 4, .inl (M 0))), (rw 1, .inl (cI, 4, .inl (M 1))), (rw 2, .inl (cI, 4, .inl (M 2))), (rw 3, .inl (cI, 4, .inl (M 3))), (rw 4, .inl (cI, 4, .inl (M 4))), (rw 5, .inl (cI, 4, .inl (M 5)))] s.heap.size = A at hD ⊢
  have hA : ∀ q : Nat, s.heap.size ≤ q → A q := fun q h => by rw [← hAe]; exact Or.inr h
  have hS : va_S A s.heap s.heap [] := va_S.rf
  have hP : va_P D kc_all [(mi, .inr (1, [.ref mv])), (mv, .inl (cI, 2048, .inl vals)), (a, .inr (0, [.int (nI n), .int (nI k), .ref al, .ref am, .ref aw, .ref ac, .ref ag, .ref ab])), (ac, .inl (cI, 4, .inl co)), (ag, .inl (cQ, 6, .inr (.inr (.inr (.inr (fun i9 => some (rw i9))))))), (rw 0, .inl (cI, 4, .inl (M 0))), (rw 1, .inl (cI, 4, .inl (M 1))), (rw 2, .inl (cI, 4, .inl (M 2))), (rw 3, .inl (cI, 4, .inl (M 3))), (rw 4, .inl (cI, 4, .inl (M 4))), (rw 5, .inl (cI, 4, .inl (M 5)))] s.heap := hP
  have hl := lv_entry ([.ref mi, .ref a, .int (nI r1), .int (nI c1)]) (n := 8) (Nat.le_of_ble_eq_true rfl)
  rw [lg_entry_eq]
  generalize (lg_sl ([.ref mi, .ref a, .int (nI r1), .int (nI c1)]) ++ List.replicate (8 - (lg_sl ([.ref mi, .ref a, .int (nI r1), .int (nI c1)])).length) Slot.unset).toArray = ls at hl ⊢
  have hl : lv_has ls 8 [(0, .ref mi), (1, .ref a), (2, .int (nI r1)), (3, .int (nI c1))] := hl
  have htb : ∀ w ∈ tb_all, w.before ([.ref mi, .ref a, .int (nI r1), .int (nI c1)]).toArray s = true := fun w h => hts w (List.mem_cons_of_mem _ h)
  have hf_45 := htb _ fl_Minors_45
  have hf_48 := htb _ fl_Minors_48
  have htz := tz_lt r1
  refine lv_iload_n hx hb dd_Minors_expand_0 rfl (lv_at hl 2 rfl) ?_
  refine mm_i (wc := []) (wr := [(mi, .inr (1, [.ref mv])), (mv, .inl (cI, 2048, .inl vals)), (a, .inr (0, [.int (nI n), .int (nI k), .ref al, .ref am, .ref aw, .ref ac, .ref ag, .ref ab])), (ac, .inl (cI, 4, .inl co)), (ag, .inl (cQ, 6, .inr (.inr (.inr (.inr (fun i9 => some (rw i9))))))), (rw 0, .inl (cI, 4, .inl (M 0))), (rw 1, .inl (cI, 4, .inl (M 1))), (rw 2, .inl (cI, 4, .inl (M 2))), (rw 3, .inl (cI, 4, .inl (M 3))), (rw 4, .inl (cI, 4, .inl (M 4))), (rw 5, .inl (cI, 4, .inl (M 5)))]) (va_runS (As := [.int (nI r1)]) (rest := []) ⟨hx, hb, hml, hown, hts⟩ (cc_Integer_numberOfTrailingZeros l D cI cZ cL cQ _ r1 (by omega) (by omega)) (mm_cwS 1 hts ml_Minors_42 sm_Integer_numberOfTrailingZeros ic_Integer cd_Integer_numberOfTrailingZeros rfl rfl (by decide +kernel) ⟨Nat.le_of_ble_eq_true rfl, Nat.le_of_ble_eq_true rfl⟩) (mm_preS hK hP hD [] (by decide) rfl) rfl rfl hl.1 rfl (lv_room (Nat.le_of_ble_eq_true rfl)) dd_Minors_expand_1 ⟨Nat.zero_le _, Nat.zero_le _⟩) hP hD hS hA [] [0, 1, 2, 3, 4, 5, 6, 7, 8, 9, 10] rfl rfl (by decide) (by decide) (fun zr1 zu2 H locs p1 hP hD hS => ?_)
  have hP : va_P D kc_all [(mi, .inr (1, [.ref mv])), (mv, .inl (cI, 2048, .inl vals)), (a, .inr (0, [.int (nI n), .int (nI k), .ref al, .ref am, .ref aw, .ref ac, .ref ag, .ref ab])), (ac, .inl (cI, 4, .inl co)), (ag, .inl (cQ, 6, .inr (.inr (.inr (.inr (fun i9 => some (rw i9))))))), (rw 0, .inl (cI, 4, .inl (M 0))), (rw 1, .inl (cI, 4, .inl (M 1))), (rw 2, .inl (cI, 4, .inl (M 2))), (rw 3, .inl (cI, 4, .inl (M 3))), (rw 4, .inl (cI, 4, .inl (M 4))), (rw 5, .inl (cI, 4, .inl (M 5)))] H := hP
  have hD : va_D A [(mi, .inr (1, [.ref mv])), (mv, .inl (cI, 2048, .inl vals)), (a, .inr (0, [.int (nI n), .int (nI k), .ref al, .ref am, .ref aw, .ref ac, .ref ag, .ref ab])), (ac, .inl (cI, 4, .inl co)), (ag, .inl (cQ, 6, .inr (.inr (.inr (.inr (fun i9 => some (rw i9))))))), (rw 0, .inl (cI, 4, .inl (M 0))), (rw 1, .inl (cI, 4, .inl (M 1))), (rw 2, .inl (cI, 4, .inl (M 2))), (rw 3, .inl (cI, 4, .inl (M 3))), (rw 4, .inl (cI, 4, .inl (M 4))), (rw 5, .inl (cI, 4, .inl (M 5)))] := hD
  have p1 : zr1 = nI (tz_n r1) := p1
  refine mm_topi (y := nI (tz_n r1)) (p1) ?_
  refine lv_istore (lv' := [(4, .int (nI (tz_n r1))), (0, .ref mi), (1, .ref a), (2, .int (nI r1)), (3, .int (nI c1))]) hx hb dd_Minors_expand_4 hl (by decide) rfl (fun ls hl => ?_)
  refine lv_iconst (v := 0) hx hb dd_Minors_expand_6 (by decide) ?_
  refine lv_istore (lv' := [(5, .int (0 : Int32)), (4, .int (nI (tz_n r1))), (0, .ref mi), (1, .ref a), (2, .int (nI r1)), (3, .int (nI c1))]) hx hb dd_Minors_expand_7 hl (by decide) rfl (fun ls hl => ?_)
  refine lv_iconst (v := 0) hx hb dd_Minors_expand_9 (by decide) ?_
  refine lv_istore (lv' := [(6, .int (0 : Int32)), (5, .int (0 : Int32)), (4, .int (nI (tz_n r1))), (0, .ref mi), (1, .ref a), (2, .int (nI r1)), (3, .int (nI c1))]) hx hb dd_Minors_expand_10 hl (by decide) rfl (fun ls hl => ?_)
  have J12 : ∀ (N : Nat) (j : Nat), (7 - j) < N → ∀ (hj : j ≤ 7), ∀ (ls : Array Slot) (H : Heap) (locs : List Loc), lv_has ls 8 [(0, .ref mi), (1, .ref a), (2, .int (nI r1)), (3, .int (nI c1)), (4, .int (nI (tz_n r1))), (5, .int (ex_f vals co M r1 c1 j)), (6, .int (nI j))] → va_P D kc_all [(mi, .inr (1, [.ref mv])), (mv, .inl (cI, 2048, .inl vals)), (a, .inr (0, [.int (nI n), .int (nI k), .ref al, .ref am, .ref aw, .ref ac, .ref ag, .ref ab])), (ac, .inl (cI, 4, .inl co)), (ag, .inl (cQ, 6, .inr (.inr (.inr (.inr (fun i9 => some (rw i9))))))), (rw 0, .inl (cI, 4, .inl (M 0))), (rw 1, .inl (cI, 4, .inl (M 1))), (rw 2, .inl (cI, 4, .inl (M 2))), (rw 3, .inl (cI, 4, .inl (M 3))), (rw 4, .inl (cI, 4, .inl (M 4))), (rw 5, .inl (cI, 4, .inl (M 5)))] H → va_D A [(mi, .inr (1, [.ref mv])), (mv, .inl (cI, 2048, .inl vals)), (a, .inr (0, [.int (nI n), .int (nI k), .ref al, .ref am, .ref aw, .ref ac, .ref ag, .ref ab])), (ac, .inl (cI, 4, .inl co)), (ag, .inl (cQ, 6, .inr (.inr (.inr (.inr (fun i9 => some (rw i9))))))), (rw 0, .inl (cI, 4, .inl (M 0))), (rw 1, .inl (cI, 4, .inl (M 1))), (rw 2, .inl (cI, 4, .inl (M 2))), (rw 3, .inl (cI, 4, .inl (M 3))), (rw 4, .inl (cI, 4, .inl (M 4))), (rw 5, .inl (cI, 4, .inl (M 5)))] → va_S A s.heap H locs → W p l e (headSpec ww_Minors_expand ({ frames := 2, cells := 0, slots := 0, locals := 48 } : Room)).room s m ([.ref mi, .ref a, .int (nI r1), .int (nI c1)]).toArray below meth c H locs 0 0 (MQ below (qq_Minors_expand D cI cZ cL cQ mi mv a al am aw ac ag ab n k vals co rw M r1 c1 A) ([.ref mi, .ref a, .int (nI r1), .int (nI c1)]).toArray s 0 0 A) (F0 m 12 ls []) := by
    intro N
    induction N with
    | zero => intro j hN9; exact absurd hN9 (Nat.not_lt_zero _)
    | succ N IH12 =>
      intro j hN9 hj ls H locs hl hP hD hS
      refine lv_iload hx hb dd_Minors_expand_12 (lv_at hl 6 rfl) ?_
      refine lv_bipush (v := 7) hx hb dd_Minors_expand_14 (by decide) ?_
      refine lv_icmp_ge (tgt := 81) hx hb dd_Minors_expand_16 (by decide) (fun h16 => ?_) (fun h16 => ?_)
      · skip
        have h16 : 7 ≤ j := (nI_leI (a := 7) (b := j) (by omega) (by omega)).mp h16
        refine lv_iload hx hb dd_Minors_expand_81 (lv_at hl 5 rfl) ?_
        exact W.iret (v := (ex_f vals co M r1 c1 j)) hx hb hr (fun t ht hW => ⟨⟨ex_f vals co M r1 c1 j, (), rfl, by rw [show (7 : Nat) = j by omega], by rw [ht]; exact hP, va_K.moved hW.alike hK, hD⟩, hS.F ht⟩) hS.2.2 dd_Minors_expand_83
      · skip
        have h16 : ¬ (7 ≤ j) := fun q9 => h16 ((nI_leI (a := 7) (b := j) (by omega) (by omega)).mpr q9)
        refine lv_iload_n hx hb dd_Minors_expand_19 rfl (lv_at hl 3 rfl) ?_
        refine lv_iload hx hb dd_Minors_expand_20 (lv_at hl 6 rfl) ?_
        refine lv_ishr hx hb dd_Minors_expand_22 ?_
        refine lv_iconst (v := 1) hx hb dd_Minors_expand_23 (by decide) ?_
        refine lv_iand hx hb dd_Minors_expand_24 ?_
        refine mm_topi (y := nI (c1 / 2 ^ j % 2)) (bt_bit j (by omega) c1 hc9) ?_
        refine lv_if_eq (tgt := 75) hx hb dd_Minors_expand_25 (by decide) (fun h25 => ?_) (fun h25 => ?_)
        · skip
          have h25 : c1 / 2 ^ j % 2 = 0 := (nI_eq (a := c1 / 2 ^ j % 2) (b := 0) (by omega) (by omega)).mp h25
          refine lv_iinc (k := 6) (v := nI (j + 1)) (lv' := [(6, .int (nI (j + 1))), (0, .ref mi), (1, .ref a), (2, .int (nI r1)), (3, .int (nI c1)), (4, .int (nI (tz_n r1))), (5, .int (ex_f vals co M r1 c1 j))]) hx hb dd_Minors_expand_75 hl rfl (nI_1 _) (by decide) rfl (fun ls hl => ?_)
          refine lv_goto (tgt := 12) hx hb dd_Minors_expand_78 (by decide) ?_
          try rw [show ex_f vals co M r1 c1 j = ex_f vals co M r1 c1 (j + 1) from (if_pos h25).symm] at hl
          exact IH12 (j + 1) (by omega) (by omega) ls H locs (lv_sub hl [1, 2, 3, 4, 5, 6, 0] rfl) hP hD hS
        · skip
          have h25 : ¬ (c1 / 2 ^ j % 2 = 0) := fun q9 => h25 ((nI_eq (a := c1 / 2 ^ j % 2) (b := 0) (by omega) (by omega)).mpr q9)
          refine lv_iload hx hb dd_Minors_expand_28 (lv_at hl 6 rfl) ?_
          refine lv_bipush (v := 6) hx hb dd_Minors_expand_30 (by decide) ?_
          refine lv_icmp_ne (tgt := 45) hx hb dd_Minors_expand_32 (by decide) (fun h32 => ?_) (fun h32 => ?_)
          · skip
            have h32 : ¬ (j = 6) := fun q9 => h32 ((nI_eq (a := j) (b := 6) (by omega) (by omega)).mpr q9)
            refine lv_aload_n hx hb dd_Minors_expand_45 rfl (lv_at hl 1 rfl) ?_
            refine va_get (D := D) (ci := 0) (v := .ref ag) (C := RR_Problem) (T := FF_Problem) (N := 8) hx hb htb hi_Problem hown hK hP 2 rfl rfl 6 (by decide) hf_48 (fun _ h9 => h9) rfl dd_Minors_expand_46 ?_
            refine lv_iload hx hb dd_Minors_expand_49 (lv_at hl 6 rfl) ?_
            refine mm_aald (r := rw j) hx hb hK hP 4 3 rfl rfl (j) (rfl) (by omega) (by decide) (rfl) dd_Minors_expand_51 ?_
            refine lv_iload hx hb dd_Minors_expand_52 (lv_at hl 4 rfl) ?_
            refine mm_iald hx hb hK hP (5 + (j)) 0 (f := M j) (mm_r6 (P := fun i9 => ([(mi, .inr (1, [.ref mv])), (mv, .inl (cI, 2048, .inl vals)), (a, .inr (0, [.int (nI n), .int (nI k), .ref al, .ref am, .ref aw, .ref ac, .ref ag, .ref ab])), (ac, .inl (cI, 4, .inl co)), (ag, .inl (cQ, 6, .inr (.inr (.inr (.inr (fun i9 => some (rw i9))))))), (rw 0, .inl (cI, 4, .inl (M 0))), (rw 1, .inl (cI, 4, .inl (M 1))), (rw 2, .inl (cI, 4, .inl (M 2))), (rw 3, .inl (cI, 4, .inl (M 3))), (rw 4, .inl (cI, 4, .inl (M 4))), (rw 5, .inl (cI, 4, .inl (M 5)))] : va_W)[5 + i9]? = some (rw i9, .inl (cI, 4, .inl (M i9)))) (by omega) rfl rfl rfl rfl rfl rfl) rfl (tz_n r1) (rfl) (by omega) (by decide) dd_Minors_expand_54 ?_
            refine mm_topi (y := mx_e co M (tz_n r1) j) ((if_neg h32).symm) ?_
            refine lv_istore (lv' := [(7, .int (mx_e co M (tz_n r1) j)), (0, .ref mi), (1, .ref a), (2, .int (nI r1)), (3, .int (nI c1)), (4, .int (nI (tz_n r1))), (5, .int (ex_f vals co M r1 c1 j)), (6, .int (nI j))]) hx hb dd_Minors_expand_55 hl (by decide) rfl (fun ls hl => ?_)
            refine lv_iload hx hb dd_Minors_expand_57 (lv_at hl 6 rfl) ?_
            refine lv_iload hx hb dd_Minors_expand_59 (lv_at hl 0 rfl) ?_
            refine lv_aload_n hx hb dd_Minors_expand_61 rfl (lv_at hl 1 rfl) ?_
            refine lv_iload_n hx hb dd_Minors_expand_62 rfl (lv_at hl 3 rfl) ?_
            refine lv_iload_n hx hb dd_Minors_expand_63 rfl (lv_at hl 4 rfl) ?_
            refine lv_iload hx hb dd_Minors_expand_64 (lv_at hl 5 rfl) ?_
            refine lv_iload hx hb dd_Minors_expand_66 (lv_at hl 7 rfl) ?_
            refine mm_i (wc := [(mi, .inr (1, [.ref mv])), (mv, .inl (cI, 2048, .inl vals))]) (wr := [(a, .inr (0, [.int (nI n), .int (nI k), .ref al, .ref am, .ref aw, .ref ac, .ref ag, .ref ab])), (ac, .inl (cI, 4, .inl co)), (ag, .inl (cQ, 6, .inr (.inr (.inr (.inr (fun i9 => some (rw i9))))))), (rw 0, .inl (cI, 4, .inl (M 0))), (rw 1, .inl (cI, 4, .inl (M 1))), (rw 2, .inl (cI, 4, .inl (M 2))), (rw 3, .inl (cI, 4, .inl (M 3))), (rw 4, .inl (cI, 4, .inl (M 4))), (rw 5, .inl (cI, 4, .inl (M 5)))]) (va_runV (As := [.int (nI r1), .int (nI c1), .int (nI (tz_n r1)), .int (nI j)]) (rest := [.int (mx_e co M (tz_n r1) j), .int (ex_f vals co M r1 c1 j)]) (C := RR_Minors) ⟨hx, hb, hml, hown, hts⟩ (cc_Minors_cofactor l D cI cZ cL cQ _ mi mv r1 c1 (tz_n r1) j vals (by omega) (by omega) (by omega) (by omega)) (mm_cwV 4 hts ml_Minors_52 im_Minors_cofactor se_Minors_cofactor ic_Minors cd_Minors_cofactor rfl rfl (by decide +kernel) ⟨Nat.le_of_ble_eq_true rfl, Nat.le_of_ble_eq_true rfl⟩) (mm_preV hK hP hD [0, 1] (by decide) rfl 0 rfl rfl) rfl rfl hl.1 rfl (lv_room (Nat.le_of_ble_eq_true rfl)) dd_Minors_expand_68 ⟨Nat.zero_le _, Nat.zero_le _⟩) hP hD hS hA [0, 1] [2, 3, 4, 5, 6, 7, 8, 9, 10] rfl rfl (by decide) (by decide) (fun zr3 zu4 H locs p68 hP hD hS => ?_)
            have hP : va_P D kc_all [(a, .inr (0, [.int (nI n), .int (nI k), .ref al, .ref am, .ref aw, .ref ac, .ref ag, .ref ab])), (ac, .inl (cI, 4, .inl co)), (ag, .inl (cQ, 6, .inr (.inr (.inr (.inr (fun i9 => some (rw i9))))))), (rw 0, .inl (cI, 4, .inl (M 0))), (rw 1, .inl (cI, 4, .inl (M 1))), (rw 2, .inl (cI, 4, .inl (M 2))), (rw 3, .inl (cI, 4, .inl (M 3))), (rw 4, .inl (cI, 4, .inl (M 4))), (rw 5, .inl (cI, 4, .inl (M 5))), (mi, .inr (1, [.ref mv])), (mv, .inl (cI, 2048, .inl vals))] H := hP
            have hD : va_D A [(a, .inr (0, [.int (nI n), .int (nI k), .ref al, .ref am, .ref aw, .ref ac, .ref ag, .ref ab])), (ac, .inl (cI, 4, .inl co)), (ag, .inl (cQ, 6, .inr (.inr (.inr (.inr (fun i9 => some (rw i9))))))), (rw 0, .inl (cI, 4, .inl (M 0))), (rw 1, .inl (cI, 4, .inl (M 1))), (rw 2, .inl (cI, 4, .inl (M 2))), (rw 3, .inl (cI, 4, .inl (M 3))), (rw 4, .inl (cI, 4, .inl (M 4))), (rw 5, .inl (cI, 4, .inl (M 5))), (mi, .inr (1, [.ref mv])), (mv, .inl (cI, 2048, .inl vals))] := hD
            have hP : va_P D kc_all [(mi, .inr (1, [.ref mv])), (mv, .inl (cI, 2048, .inl vals)), (a, .inr (0, [.int (nI n), .int (nI k), .ref al, .ref am, .ref aw, .ref ac, .ref ag, .ref ab])), (ac, .inl (cI, 4, .inl co)), (ag, .inl (cQ, 6, .inr (.inr (.inr (.inr (fun i9 => some (rw i9))))))), (rw 0, .inl (cI, 4, .inl (M 0))), (rw 1, .inl (cI, 4, .inl (M 1))), (rw 2, .inl (cI, 4, .inl (M 2))), (rw 3, .inl (cI, 4, .inl (M 3))), (rw 4, .inl (cI, 4, .inl (M 4))), (rw 5, .inl (cI, 4, .inl (M 5)))] H := hP.sub [9, 10, 0, 1, 2, 3, 4, 5, 6, 7, 8] rfl
            have hD : va_D A [(mi, .inr (1, [.ref mv])), (mv, .inl (cI, 2048, .inl vals)), (a, .inr (0, [.int (nI n), .int (nI k), .ref al, .ref am, .ref aw, .ref ac, .ref ag, .ref ab])), (ac, .inl (cI, 4, .inl co)), (ag, .inl (cQ, 6, .inr (.inr (.inr (.inr (fun i9 => some (rw i9))))))), (rw 0, .inl (cI, 4, .inl (M 0))), (rw 1, .inl (cI, 4, .inl (M 1))), (rw 2, .inl (cI, 4, .inl (M 2))), (rw 3, .inl (cI, 4, .inl (M 3))), (rw 4, .inl (cI, 4, .inl (M 4))), (rw 5, .inl (cI, 4, .inl (M 5)))] := hD.sub [9, 10, 0, 1, 2, 3, 4, 5, 6, 7, 8] (by decide) rfl
            have p68 : zr3 = cf_f vals r1 c1 (tz_n r1) j := p68
            refine mm_topi (y := cf_f vals r1 c1 (tz_n r1) j) (p68) ?_
            refine lv_imul hx hb dd_Minors_expand_71 ?_
            refine lv_iadd hx hb dd_Minors_expand_72 ?_
            refine mm_topi (y := ex_f vals co M r1 c1 (j + 1)) ((if_neg h25).symm) ?_
            refine lv_istore (lv' := [(5, .int (ex_f vals co M r1 c1 (j + 1))), (7, .int (mx_e co M (tz_n r1) j)), (0, .ref mi), (1, .ref a), (2, .int (nI r1)), (3, .int (nI c1)), (4, .int (nI (tz_n r1))), (6, .int (nI j))]) hx hb dd_Minors_expand_73 hl (by decide) rfl (fun ls hl => ?_)
            refine lv_iinc (k := 7) (v := nI (j + 1)) (lv' := [(6, .int (nI (j + 1))), (5, .int (ex_f vals co M r1 c1 (j + 1))), (7, .int (mx_e co M (tz_n r1) j)), (0, .ref mi), (1, .ref a), (2, .int (nI r1)), (3, .int (nI c1)), (4, .int (nI (tz_n r1)))]) hx hb dd_Minors_expand_75 hl rfl (nI_1 _) (by decide) rfl (fun ls hl => ?_)
            refine lv_goto (tgt := 12) hx hb dd_Minors_expand_78 (by decide) ?_
            try rw [show ex_f vals co M r1 c1 j = ex_f vals co M r1 c1 (j + 1) from (if_pos h25).symm] at hl
            exact IH12 (j + 1) (by omega) (by omega) ls H locs (lv_sub hl [3, 4, 5, 6, 7, 1, 0] rfl) hP hD hS
          · skip
            have h32 : j = 6 := (nI_eq (a := j) (b := 6) (by omega) (by omega)).mp h32
            refine lv_aload_n hx hb dd_Minors_expand_35 rfl (lv_at hl 1 rfl) ?_
            refine va_get (D := D) (ci := 0) (v := .ref ac) (C := RR_Problem) (T := FF_Problem) (N := 8) hx hb htb hi_Problem hown hK hP 2 rfl rfl 5 (by decide) hf_45 (fun _ h9 => h9) rfl dd_Minors_expand_36 ?_
            refine lv_iload hx hb dd_Minors_expand_39 (lv_at hl 4 rfl) ?_
            refine mm_iald hx hb hK hP 3 0 rfl rfl (tz_n r1) (rfl) (by omega) (by first | decide | omega) dd_Minors_expand_41 ?_
            refine mm_topi (y := mx_e co M (tz_n r1) j) ((if_pos h32).symm) ?_
            refine lv_goto (tgt := 55) hx hb dd_Minors_expand_42 (by decide) ?_
            refine lv_istore (lv' := [(7, .int (mx_e co M (tz_n r1) j)), (0, .ref mi), (1, .ref a), (2, .int (nI r1)), (3, .int (nI c1)), (4, .int (nI (tz_n r1))), (5, .int (ex_f vals co M r1 c1 j)), (6, .int (nI j))]) hx hb dd_Minors_expand_55 hl (by decide) rfl (fun ls hl => ?_)
            refine lv_iload hx hb dd_Minors_expand_57 (lv_at hl 6 rfl) ?_
            refine lv_iload hx hb dd_Minors_expand_59 (lv_at hl 0 rfl) ?_
            refine lv_aload_n hx hb dd_Minors_expand_61 rfl (lv_at hl 1 rfl) ?_
            refine lv_iload_n hx hb dd_Minors_expand_62 rfl (lv_at hl 3 rfl) ?_
            refine lv_iload_n hx hb dd_Minors_expand_63 rfl (lv_at hl 4 rfl) ?_
            refine lv_iload hx hb dd_Minors_expand_64 (lv_at hl 5 rfl) ?_
            refine lv_iload hx hb dd_Minors_expand_66 (lv_at hl 7 rfl) ?_
            refine mm_i (wc := [(mi, .inr (1, [.ref mv])), (mv, .inl (cI, 2048, .inl vals))]) (wr := [(a, .inr (0, [.int (nI n), .int (nI k), .ref al, .ref am, .ref aw, .ref ac, .ref ag, .ref ab])), (ac, .inl (cI, 4, .inl co)), (ag, .inl (cQ, 6, .inr (.inr (.inr (.inr (fun i9 => some (rw i9))))))), (rw 0, .inl (cI, 4, .inl (M 0))), (rw 1, .inl (cI, 4, .inl (M 1))), (rw 2, .inl (cI, 4, .inl (M 2))), (rw 3, .inl (cI, 4, .inl (M 3))), (rw 4, .inl (cI, 4, .inl (M 4))), (rw 5, .inl (cI, 4, .inl (M 5)))]) (va_runV (As := [.int (nI r1), .int (nI c1), .int (nI (tz_n r1)), .int (nI j)]) (rest := [.int (mx_e co M (tz_n r1) j), .int (ex_f vals co M r1 c1 j)]) (C := RR_Minors) ⟨hx, hb, hml, hown, hts⟩ (cc_Minors_cofactor l D cI cZ cL cQ _ mi mv r1 c1 (tz_n r1) j vals (by omega) (by omega) (by omega) (by omega)) (mm_cwV 4 hts ml_Minors_52 im_Minors_cofactor se_Minors_cofactor ic_Minors cd_Minors_cofactor rfl rfl (by decide +kernel) ⟨Nat.le_of_ble_eq_true rfl, Nat.le_of_ble_eq_true rfl⟩) (mm_preV hK hP hD [0, 1] (by decide) rfl 0 rfl rfl) rfl rfl hl.1 rfl (lv_room (Nat.le_of_ble_eq_true rfl)) dd_Minors_expand_68 ⟨Nat.zero_le _, Nat.zero_le _⟩) hP hD hS hA [0, 1] [2, 3, 4, 5, 6, 7, 8, 9, 10] rfl rfl (by decide) (by decide) (fun zr5 zu6 H locs p68 hP hD hS => ?_)
            have hP : va_P D kc_all [(a, .inr (0, [.int (nI n), .int (nI k), .ref al, .ref am, .ref aw, .ref ac, .ref ag, .ref ab])), (ac, .inl (cI, 4, .inl co)), (ag, .inl (cQ, 6, .inr (.inr (.inr (.inr (fun i9 => some (rw i9))))))), (rw 0, .inl (cI, 4, .inl (M 0))), (rw 1, .inl (cI, 4, .inl (M 1))), (rw 2, .inl (cI, 4, .inl (M 2))), (rw 3, .inl (cI, 4, .inl (M 3))), (rw 4, .inl (cI, 4, .inl (M 4))), (rw 5, .inl (cI, 4, .inl (M 5))), (mi, .inr (1, [.ref mv])), (mv, .inl (cI, 2048, .inl vals))] H := hP
            have hD : va_D A [(a, .inr (0, [.int (nI n), .int (nI k), .ref al, .ref am, .ref aw, .ref ac, .ref ag, .ref ab])), (ac, .inl (cI, 4, .inl co)), (ag, .inl (cQ, 6, .inr (.inr (.inr (.inr (fun i9 => some (rw i9))))))), (rw 0, .inl (cI, 4, .inl (M 0))), (rw 1, .inl (cI, 4, .inl (M 1))), (rw 2, .inl (cI, 4, .inl (M 2))), (rw 3, .inl (cI, 4, .inl (M 3))), (rw 4, .inl (cI, 4, .inl (M 4))), (rw 5, .inl (cI, 4, .inl (M 5))), (mi, .inr (1, [.ref mv])), (mv, .inl (cI, 2048, .inl vals))] := hD
            have hP : va_P D kc_all [(mi, .inr (1, [.ref mv])), (mv, .inl (cI, 2048, .inl vals)), (a, .inr (0, [.int (nI n), .int (nI k), .ref al, .ref am, .ref aw, .ref ac, .ref ag, .ref ab])), (ac, .inl (cI, 4, .inl co)), (ag, .inl (cQ, 6, .inr (.inr (.inr (.inr (fun i9 => some (rw i9))))))), (rw 0, .inl (cI, 4, .inl (M 0))), (rw 1, .inl (cI, 4, .inl (M 1))), (rw 2, .inl (cI, 4, .inl (M 2))), (rw 3, .inl (cI, 4, .inl (M 3))), (rw 4, .inl (cI, 4, .inl (M 4))), (rw 5, .inl (cI, 4, .inl (M 5)))] H := hP.sub [9, 10, 0, 1, 2, 3, 4, 5, 6, 7, 8] rfl
            have hD : va_D A [(mi, .inr (1, [.ref mv])), (mv, .inl (cI, 2048, .inl vals)), (a, .inr (0, [.int (nI n), .int (nI k), .ref al, .ref am, .ref aw, .ref ac, .ref ag, .ref ab])), (ac, .inl (cI, 4, .inl co)), (ag, .inl (cQ, 6, .inr (.inr (.inr (.inr (fun i9 => some (rw i9))))))), (rw 0, .inl (cI, 4, .inl (M 0))), (rw 1, .inl (cI, 4, .inl (M 1))), (rw 2, .inl (cI, 4, .inl (M 2))), (rw 3, .inl (cI, 4, .inl (M 3))), (rw 4, .inl (cI, 4, .inl (M 4))), (rw 5, .inl (cI, 4, .inl (M 5)))] := hD.sub [9, 10, 0, 1, 2, 3, 4, 5, 6, 7, 8] (by decide) rfl
            have p68 : zr5 = cf_f vals r1 c1 (tz_n r1) j := p68
            refine mm_topi (y := cf_f vals r1 c1 (tz_n r1) j) (p68) ?_
            refine lv_imul hx hb dd_Minors_expand_71 ?_
            refine lv_iadd hx hb dd_Minors_expand_72 ?_
            refine mm_topi (y := ex_f vals co M r1 c1 (j + 1)) ((if_neg h25).symm) ?_
            refine lv_istore (lv' := [(5, .int (ex_f vals co M r1 c1 (j + 1))), (7, .int (mx_e co M (tz_n r1) j)), (0, .ref mi), (1, .ref a), (2, .int (nI r1)), (3, .int (nI c1)), (4, .int (nI (tz_n r1))), (6, .int (nI j))]) hx hb dd_Minors_expand_73 hl (by decide) rfl (fun ls hl => ?_)
            refine lv_iinc (k := 7) (v := nI (j + 1)) (lv' := [(6, .int (nI (j + 1))), (5, .int (ex_f vals co M r1 c1 (j + 1))), (7, .int (mx_e co M (tz_n r1) j)), (0, .ref mi), (1, .ref a), (2, .int (nI r1)), (3, .int (nI c1)), (4, .int (nI (tz_n r1)))]) hx hb dd_Minors_expand_75 hl rfl (nI_1 _) (by decide) rfl (fun ls hl => ?_)
            refine lv_goto (tgt := 12) hx hb dd_Minors_expand_78 (by decide) ?_
            try rw [show ex_f vals co M r1 c1 j = ex_f vals co M r1 c1 (j + 1) from (if_pos h25).symm] at hl
            exact IH12 (j + 1) (by omega) (by omega) ls H locs (lv_sub hl [3, 4, 5, 6, 7, 1, 0] rfl) hP hD hS
  exact J12 _ 0 (Nat.lt_succ_self _) (by omega) ls H locs (lv_sub hl [3, 4, 5, 6, 2, 1, 0] rfl) hP hD hS
abbrev qq_Minors_fill (D : va_G) (cI cZ cL cQ : ClassId) (mi : Nat) (mv : Nat) (a : Nat) (al : Nat) (am : Nat) (aw : Nat) (ac : Nat) (ag : Nat) (ab : Nat) (n : Nat) (k : Nat) (vals : Nat → Int32) (co : Nat → Int32) (rw : Nat → Nat) (M : Nat → Nat → Int32) (A : Nat → Prop) : Array Value → State → Outcome → State → Prop := va_Qv (fun u : (Nat → Int32) => mn_part u co M k (2 ^ n) 1) (fun (u : (Nat → Int32)) t => mm_B D kc_all [(cI, .int), (cZ, .boolean), (cL, .long), (cQ, .array .int)] A [(mi, .inr (1, [.ref mv])), (mv, .inl (cI, 2048, .inl u)), (a, .inr (0, [.int (nI n), .int (nI k), .ref al, .ref am, .ref aw, .ref ac, .ref ag, .ref ab])), (ac, .inl (cI, 4, .inl co)), (ag, .inl (cQ, 6, .inr (.inr (.inr (.inr (fun i9 => some (rw i9))))))), (rw 0, .inl (cI, 4, .inl (M 0))), (rw 1, .inl (cI, 4, .inl (M 1))), (rw 2, .inl (cI, 4, .inl (M 2))), (rw 3, .inl (cI, 4, .inl (M 3))), (rw 4, .inl (cI, 4, .inl (M 4))), (rw 5, .inl (cI, 4, .inl (M 5)))] t) A
set_option maxHeartbeats 4000000 in
set_option maxRecDepth 100000 in
theorem cc_Minors_fill (l : Launch) (D : va_G) (cI cZ cL cQ : ClassId) (sz : Nat) (mi : Nat) (mv : Nat) (a : Nat) (al : Nat) (am : Nat) (aw : Nat) (ac : Nat) (ag : Nat) (ab : Nat) (n : Nat) (k : Nat) (vals : Nat → Int32) (co : Nat → Int32) (rw : Nat → Nat) (M : Nat → Nat → Int32) (hn : n ≤ 4) (hk : k ≤ 6) : Met l yy_Minors_fill ww_Minors_fill ({ frames := 3, cells := 0, slots := 0, locals := 75 } : Room) (mm_Pc D kc_all [(cI, .int), (cZ, .boolean), (cL, .long), (cQ, .array .int)] sz [(mi, .inr (1, [.ref mv])), (mv, .inl (cI, 2048, .inl vals)), (a, .inr (0, [.int (nI n), .int (nI k), .ref al, .ref am, .ref aw, .ref ac, .ref ag, .ref ab])), (ac, .inl (cI, 4, .inl co)), (ag, .inl (cQ, 6, .inr (.inr (.inr (.inr (fun i9 => some (rw i9))))))), (rw 0, .inl (cI, 4, .inl (M 0))), (rw 1, .inl (cI, 4, .inl (M 1))), (rw 2, .inl (cI, 4, .inl (M 2))), (rw 3, .inl (cI, 4, .inl (M 3))), (rw 4, .inl (cI, 4, .inl (M 4))), (rw 5, .inl (cI, 4, .inl (M 5)))] [.ref mi, .ref a]) (qq_Minors_fill D cI cZ cL cQ mi mv a al am aw ac ag ab n k vals co rw M (va_A [(mi, .inr (1, [.ref mv])), (mv, .inl (cI, 2048, .inl vals)), (a, .inr (0, [.int (nI n), .int (nI k), .ref al, .ref am, .ref aw, .ref ac, .ref ag, .ref ab])), (ac, .inl (cI, 4, .inl co)), (ag, .inl (cQ, 6, .inr (.inr (.inr (.inr (fun i9 => some (rw i9))))))), (rw 0, .inl (cI, 4, .inl (M 0))), (rw 1, .inl (cI, 4, .inl (M 1))), (rw 2, .inl (cI, 4, .inl (M 2))), (rw 3, .inl (cI, 4, .inl (M 3))), (rw 4, .inl (cI, 4, .inl (M 4))), (rw 5, .inl (cI, 4, .inl (M 5)))] sz)) 0 0 (va_A [(mi, .inr (1, [.ref mv])), (mv, .inl (cI, 2048, .inl vals)), (a, .inr (0, [.int (nI n), .int (nI k), .ref al, .ref am, .ref aw, .ref ac, .ref ag, .ref ab])), (ac, .inl (cI, 4, .inl co)), (ag, .inl (cQ, 6, .inr (.inr (.inr (.inr (fun i9 => some (rw i9))))))), (rw 0, .inl (cI, 4, .inl (M 0))), (rw 1, .inl (cI, 4, .inl (M 1))), (rw 2, .inl (cI, 4, .inl (M 2))), (rw 3, .inl (cI, 4, .inl (M 3))), (rw 4, .inl (cI, 4, .inl (M 4))), (rw 5, .inl (cI, 4, .inl (M 5)))] sz) := by
  refine Met.ofW (cc := bb_Minors_fill) (maxL := 6) (ret := none) (by decide) rfl ?_
  intro p e s m args below meth c s₁ B hml hv
  obtain ⟨rfl, hsz, hP, hK, hD0⟩ := hv
  have hx := B.exec
  have hb := B.bytes
  have hr := B.returns
  have hts := atoms_spec (ws := ww_Minors_fill) B.pre
  have hown : s.vm.findClass RR_Minors = some m.cls := findClass_of_methodNamed B.named
  have hlocks := B.notSynchronized
  subst hsz
  have hD := hD0.self (sz := s.heap.size)
  generalize hAe : va_A [(mi, .inr (1, [.ref mv])), (mv, .inl (cI, 2048, .inl vals)), (a, .inr (0, [.int (nI n), .int (nI k), .ref al, .ref am, .ref aw, .ref ac, .ref ag, .ref ab])), (ac, .inl (cI, 4, .inl co)), (ag, .inl (cQ, 6, .inr (.inr (.inr (.inr (fun i9 => some (rw i9))))))), (rw 0, .inl (cI, 4, .inl (M 0))), (rw 1, .inl (cI, 4, .inl (M 1))), (rw 2, .inl (cI, 4, .inl (M 2))), (rw 3, .inl (cI, 4, .inl (M 3))), (rw 4, .inl (cI, 4, .inl (M 4))), (rw 5, .inl (cI, 4, .inl (M 5)))] s.heap.size = A at hD ⊢
  have hA : ∀ q : Nat, s.heap.size ≤ q → A q := fun q h => by rw [← hAe]; exact Or.inr h
  have hS : va_S A s.heap s.heap [] := va_S.rf
  have hP : va_P D kc_all [(mi, .inr (1, [.ref mv])), (mv, .inl (cI, 2048, .inl vals)), (a, .inr (0, [.int (nI n), .int (nI k), .ref al, .ref am, .ref aw, .ref ac, .ref ag, .ref ab])), (ac, .inl (cI, 4, .inl co)), (ag, .inl (cQ, 6, .inr (.inr (.inr (.inr (fun i9 => some (rw i9))))))), (rw 0, .inl (cI, 4, .inl (M 0))), (rw 1, .inl (cI, 4, .inl (M 1))), (rw 2, .inl (cI, 4, .inl (M 2))), (rw 3, .inl (cI, 4, .inl (M 3))), (rw 4, .inl (cI, 4, .inl (M 4))), (rw 5, .inl (cI, 4, .inl (M 5)))] s.heap := hP
  have hl := lv_entry ([.ref mi, .ref a]) (n := 6) (Nat.le_of_ble_eq_true rfl)
  rw [lg_entry_eq]
  generalize (lg_sl ([.ref mi, .ref a]) ++ List.replicate (6 - (lg_sl ([.ref mi, .ref a])).length) Slot.unset).toArray = ls at hl ⊢
  have hl : lv_has ls 6 [(0, .ref mi), (1, .ref a)] := hl
  have htb : ∀ w ∈ tb_all, w.before ([.ref mi, .ref a]).toArray s = true := fun w h => hts w (List.mem_cons_of_mem _ h)
  have hf_11 := htb _ fl_Minors_11
  have hf_19 := htb _ fl_Minors_19
  have h16 := bt_2lt n hn
  have h64 := bt_64 k hk
  have hcs : cs_n k < 128 := by unfold cs_n; omega
  have hpo : 1 ≤ 2 ^ n := Nat.one_le_two_pow
  refine lv_aload_n hx hb dd_Minors_fill_0 rfl (lv_at hl 1 rfl) ?_
  refine mm_i (wc := [(a, .inr (0, [.int (nI n), .int (nI k), .ref al, .ref am, .ref aw, .ref ac, .ref ag, .ref ab]))]) (wr := [(mi, .inr (1, [.ref mv])), (mv, .inl (cI, 2048, .inl vals)), (ac, .inl (cI, 4, .inl co)), (ag, .inl (cQ, 6, .inr (.inr (.inr (.inr (fun i9 => some (rw i9))))))), (rw 0, .inl (cI, 4, .inl (M 0))), (rw 1, .inl (cI, 4, .inl (M 1))), (rw 2, .inl (cI, 4, .inl (M 2))), (rw 3, .inl (cI, 4, .inl (M 3))), (rw 4, .inl (cI, 4, .inl (M 4))), (rw 5, .inl (cI, 4, .inl (M 5)))]) (va_runS (As := [.ref a]) (rest := []) ⟨hx, hb, hml, hown, hts⟩ (cc_Minors_columnsOf l D cI cZ cL cQ _ a al am aw ac ag ab n k (by omega)) (mm_cwS 1 hts ml_Minors_15 sm_Minors_columnsOf ic_Minors cd_Minors_columnsOf rfl rfl (by decide +kernel) ⟨Nat.le_of_ble_eq_true rfl, Nat.le_of_ble_eq_true rfl⟩) (mm_preS hK hP hD [2] (by decide) rfl) rfl rfl hl.1 rfl (lv_room (Nat.le_of_ble_eq_true rfl)) dd_Minors_fill_1 ⟨Nat.zero_le _, Nat.zero_le _⟩) hP hD hS hA [2] [0, 1, 3, 4, 5, 6, 7, 8, 9, 10] rfl rfl (by decide) (by decide) (fun zr1 zu2 H locs p1 hP hD hS => ?_)
  have hP : va_P D kc_all [(mi, .inr (1, [.ref mv])), (mv, .inl (cI, 2048, .inl vals)), (ac, .inl (cI, 4, .inl co)), (ag, .inl (cQ, 6, .inr (.inr (.inr (.inr (fun i9 => some (rw i9))))))), (rw 0, .inl (cI, 4, .inl (M 0))), (rw 1, .inl (cI, 4, .inl (M 1))), (rw 2, .inl (cI, 4, .inl (M 2))), (rw 3, .inl (cI, 4, .inl (M 3))), (rw 4, .inl (cI, 4, .inl (M 4))), (rw 5, .inl (cI, 4, .inl (M 5))), (a, .inr (0, [.int (nI n), .int (nI k), .ref al, .ref am, .ref aw, .ref ac, .ref ag, .ref ab]))] H := hP
  have hD : va_D A [(mi, .inr (1, [.ref mv])), (mv, .inl (cI, 2048, .inl vals)), (ac, .inl (cI, 4, .inl co)), (ag, .inl (cQ, 6, .inr (.inr (.inr (.inr (fun i9 => some (rw i9))))))), (rw 0, .inl (cI, 4, .inl (M 0))), (rw 1, .inl (cI, 4, .inl (M 1))), (rw 2, .inl (cI, 4, .inl (M 2))), (rw 3, .inl (cI, 4, .inl (M 3))), (rw 4, .inl (cI, 4, .inl (M 4))), (rw 5, .inl (cI, 4, .inl (M 5))), (a, .inr (0, [.int (nI n), .int (nI k), .ref al, .ref am, .ref aw, .ref ac, .ref ag, .ref ab]))] := hD
  have hP : va_P D kc_all [(mi, .inr (1, [.ref mv])), (mv, .inl (cI, 2048, .inl vals)), (a, .inr (0, [.int (nI n), .int (nI k), .ref al, .ref am, .ref aw, .ref ac, .ref ag, .ref ab])), (ac, .inl (cI, 4, .inl co)), (ag, .inl (cQ, 6, .inr (.inr (.inr (.inr (fun i9 => some (rw i9))))))), (rw 0, .inl (cI, 4, .inl (M 0))), (rw 1, .inl (cI, 4, .inl (M 1))), (rw 2, .inl (cI, 4, .inl (M 2))), (rw 3, .inl (cI, 4, .inl (M 3))), (rw 4, .inl (cI, 4, .inl (M 4))), (rw 5, .inl (cI, 4, .inl (M 5)))] H := hP.sub [0, 1, 10, 2, 3, 4, 5, 6, 7, 8, 9] rfl
  have hD : va_D A [(mi, .inr (1, [.ref mv])), (mv, .inl (cI, 2048, .inl vals)), (a, .inr (0, [.int (nI n), .int (nI k), .ref al, .ref am, .ref aw, .ref ac, .ref ag, .ref ab])), (ac, .inl (cI, 4, .inl co)), (ag, .inl (cQ, 6, .inr (.inr (.inr (.inr (fun i9 => some (rw i9))))))), (rw 0, .inl (cI, 4, .inl (M 0))), (rw 1, .inl (cI, 4, .inl (M 1))), (rw 2, .inl (cI, 4, .inl (M 2))), (rw 3, .inl (cI, 4, .inl (M 3))), (rw 4, .inl (cI, 4, .inl (M 4))), (rw 5, .inl (cI, 4, .inl (M 5)))] := hD.sub [0, 1, 10, 2, 3, 4, 5, 6, 7, 8, 9] (by decide) rfl
  have p1 : zr1 = nI (cs_n k) := p1
  refine mm_topi (y := nI (cs_n k)) (p1) ?_
  refine lv_istore_n (lv' := [(2, .int (nI (cs_n k))), (0, .ref mi), (1, .ref a)]) hx hb dd_Minors_fill_4 rfl hl (by decide) rfl (fun ls hl => ?_)
  refine lv_aload_n hx hb dd_Minors_fill_5 rfl (lv_at hl 1 rfl) ?_
  refine va_get (D := D) (ci := 1) (v := .ref mv) (C := RR_Minors) (T := FF_Minors) (N := 1) hx hb htb hi_Minors hown hK hP 0 rfl rfl 0 (by decide) hf_11 (fun _ h9 => h9) rfl dd_Minors_fill_6 ?_
  refine lv_iconst (v := 0) hx hb dd_Minors_fill_9 (by decide) ?_
  refine lv_iconst (v := 1) hx hb dd_Minors_fill_10 (by decide) ?_
  refine mm_iast hx hb hK hP hD hS 1 0 rfl rfl (0) (rfl) (by omega) (by first | decide | omega) dd_Minors_fill_11 (fun H locs hP hD hS => ?_)
  have hP : va_P D kc_all [(mi, .inr (1, [.ref mv])), (mv, .inl (cI, 2048, .inl (upd vals 0 (1 : Int32)))), (a, .inr (0, [.int (nI n), .int (nI k), .ref al, .ref am, .ref aw, .ref ac, .ref ag, .ref ab])), (ac, .inl (cI, 4, .inl co)), (ag, .inl (cQ, 6, .inr (.inr (.inr (.inr (fun i9 => some (rw i9))))))), (rw 0, .inl (cI, 4, .inl (M 0))), (rw 1, .inl (cI, 4, .inl (M 1))), (rw 2, .inl (cI, 4, .inl (M 2))), (rw 3, .inl (cI, 4, .inl (M 3))), (rw 4, .inl (cI, 4, .inl (M 4))), (rw 5, .inl (cI, 4, .inl (M 5)))] H := hP
  have hD : va_D A [(mi, .inr (1, [.ref mv])), (mv, .inl (cI, 2048, .inl (upd vals 0 (1 : Int32)))), (a, .inr (0, [.int (nI n), .int (nI k), .ref al, .ref am, .ref aw, .ref ac, .ref ag, .ref ab])), (ac, .inl (cI, 4, .inl co)), (ag, .inl (cQ, 6, .inr (.inr (.inr (.inr (fun i9 => some (rw i9))))))), (rw 0, .inl (cI, 4, .inl (M 0))), (rw 1, .inl (cI, 4, .inl (M 1))), (rw 2, .inl (cI, 4, .inl (M 2))), (rw 3, .inl (cI, 4, .inl (M 3))), (rw 4, .inl (cI, 4, .inl (M 4))), (rw 5, .inl (cI, 4, .inl (M 5)))] := hD
  refine lv_iconst (v := 1) hx hb dd_Minors_fill_12 (by decide) ?_
  refine lv_istore_n (lv' := [(3, .int (1 : Int32)), (2, .int (nI (cs_n k))), (0, .ref mi), (1, .ref a)]) hx hb dd_Minors_fill_13 rfl hl (by decide) rfl (fun ls hl => ?_)
  have J14 : ∀ (N : Nat) (r0 : Nat) (vals1 : Nat → Int32), (2 ^ n - r0) < N → ∀ (hr0 : 1 ≤ r0 ∧ r0 ≤ 2 ^ n) (hv : mn_part vals1 co M k r0 1), ∀ (ls : Array Slot) (H : Heap) (locs : List Loc), lv_has ls 6 [(0, .ref mi), (1, .ref a), (2, .int (nI (cs_n k))), (3, .int (nI r0))] → va_P D kc_all [(mi, .inr (1, [.ref mv])), (mv, .inl (cI, 2048, .inl vals1)), (a, .inr (0, [.int (nI n), .int (nI k), .ref al, .ref am, .ref aw, .ref ac, .ref ag, .ref ab])), (ac, .inl (cI, 4, .inl co)), (ag, .inl (cQ, 6, .inr (.inr (.inr (.inr (fun i9 => some (rw i9))))))), (rw 0, .inl (cI, 4, .inl (M 0))), (rw 1, .inl (cI, 4, .inl (M 1))), (rw 2, .inl (cI, 4, .inl (M 2))), (rw 3, .inl (cI, 4, .inl (M 3))), (rw 4, .inl (cI, 4, .inl (M 4))), (rw 5, .inl (cI, 4, .inl (M 5)))] H → va_D A [(mi, .inr (1, [.ref mv])), (mv, .inl (cI, 2048, .inl vals1)), (a, .inr (0, [.int (nI n), .int (nI k), .ref al, .ref am, .ref aw, .ref ac, .ref ag, .ref ab])), (ac, .inl (cI, 4, .inl co)), (ag, .inl (cQ, 6, .inr (.inr (.inr (.inr (fun i9 => some (rw i9))))))), (rw 0, .inl (cI, 4, .inl (M 0))), (rw 1, .inl (cI, 4, .inl (M 1))), (rw 2, .inl (cI, 4, .inl (M 2))), (rw 3, .inl (cI, 4, .inl (M 3))), (rw 4, .inl (cI, 4, .inl (M 4))), (rw 5, .inl (cI, 4, .inl (M 5)))] → va_S A s.heap H locs → W p l e (headSpec ww_Minors_fill ({ frames := 3, cells := 0, slots := 0, locals := 75 } : Room)).room s m ([.ref mi, .ref a]).toArray below meth c H locs 0 0 (MQ below (qq_Minors_fill D cI cZ cL cQ mi mv a al am aw ac ag ab n k vals co rw M A) ([.ref mi, .ref a]).toArray s 0 0 A) (F0 m 14 ls []) := by
    intro N
    induction N with
    | zero => intro r0 vals1 hN9; exact absurd hN9 (Nat.not_lt_zero _)
    | succ N IH14 =>
      intro r0 vals1 hN9 hr0 hv ls H locs hl hP hD hS
      refine lv_iload_n hx hb dd_Minors_fill_14 rfl (lv_at hl 3 rfl) ?_
      refine lv_iconst (v := 1) hx hb dd_Minors_fill_15 (by decide) ?_
      refine lv_aload_n hx hb dd_Minors_fill_16 rfl (lv_at hl 1 rfl) ?_
      refine va_get (D := D) (ci := 0) (v := .int (nI n)) (C := RR_Problem) (T := FF_Problem) (N := 8) hx hb htb hi_Problem hown hK hP 2 rfl rfl 0 (by decide) hf_19 (fun _ h9 => h9) rfl dd_Minors_fill_17 ?_
      refine lv_ishl hx hb dd_Minors_fill_20 ?_
      refine mm_topi (y := nI (2 ^ n)) (bt_shl n (by omega)) ?_
      refine lv_icmp_ge (tgt := 92) hx hb dd_Minors_fill_21 (by decide) (fun h21 => ?_) (fun h21 => ?_)
      · skip
        have h21 : 2 ^ n ≤ r0 := (nI_leI (a := 2 ^ n) (b := r0) (by omega) (by omega)).mp h21
        exact W.vret hx hb hr (fun t ht hW => ⟨⟨vals1, rfl, by rw [show 2 ^ n = r0 by omega]; exact hv, by rw [ht]; exact hP, va_K.moved hW.alike hK, hD⟩, hS.F ht⟩) hS.2.2 dd_Minors_fill_92
      · skip
        have h21 : ¬ (2 ^ n ≤ r0) := fun q9 => h21 ((nI_leI (a := 2 ^ n) (b := r0) (by omega) (by omega)).mpr q9)
        refine lv_iload_n hx hb dd_Minors_fill_24 rfl (lv_at hl 3 rfl) ?_
        refine mm_i (wc := []) (wr := [(mi, .inr (1, [.ref mv])), (mv, .inl (cI, 2048, .inl vals1)), (a, .inr (0, [.int (nI n), .int (nI k), .ref al, .ref am, .ref aw, .ref ac, .ref ag, .ref ab])), (ac, .inl (cI, 4, .inl co)), (ag, .inl (cQ, 6, .inr (.inr (.inr (.inr (fun i9 => some (rw i9))))))), (rw 0, .inl (cI, 4, .inl (M 0))), (rw 1, .inl (cI, 4, .inl (M 1))), (rw 2, .inl (cI, 4, .inl (M 2))), (rw 3, .inl (cI, 4, .inl (M 3))), (rw 4, .inl (cI, 4, .inl (M 4))), (rw 5, .inl (cI, 4, .inl (M 5)))]) (va_runS (As := [.int (nI r0)]) (rest := []) ⟨hx, hb, hml, hown, hts⟩ (cc_Integer_bitCount l D cI cZ cL cQ _ r0 (by omega)) (mm_cwS 1 hts ml_Minors_25 sm_Integer_bitCount ic_Integer cd_Integer_bitCount rfl rfl (by decide +kernel) ⟨Nat.le_of_ble_eq_true rfl, Nat.le_of_ble_eq_true rfl⟩) (mm_preS hK hP hD [] (by decide) rfl) rfl rfl hl.1 rfl (lv_room (Nat.le_of_ble_eq_true rfl)) dd_Minors_fill_25 ⟨Nat.zero_le _, Nat.zero_le _⟩) hP hD hS hA [] [0, 1, 2, 3, 4, 5, 6, 7, 8, 9, 10] rfl rfl (by decide) (by decide) (fun zr3 zu4 H locs p25 hP hD hS => ?_)
        have hP : va_P D kc_all [(mi, .inr (1, [.ref mv])), (mv, .inl (cI, 2048, .inl vals1)), (a, .inr (0, [.int (nI n), .int (nI k), .ref al, .ref am, .ref aw, .ref ac, .ref ag, .ref ab])), (ac, .inl (cI, 4, .inl co)), (ag, .inl (cQ, 6, .inr (.inr (.inr (.inr (fun i9 => some (rw i9))))))), (rw 0, .inl (cI, 4, .inl (M 0))), (rw 1, .inl (cI, 4, .inl (M 1))), (rw 2, .inl (cI, 4, .inl (M 2))), (rw 3, .inl (cI, 4, .inl (M 3))), (rw 4, .inl (cI, 4, .inl (M 4))), (rw 5, .inl (cI, 4, .inl (M 5)))] H := hP
        have hD : va_D A [(mi, .inr (1, [.ref mv])), (mv, .inl (cI, 2048, .inl vals1)), (a, .inr (0, [.int (nI n), .int (nI k), .ref al, .ref am, .ref aw, .ref ac, .ref ag, .ref ab])), (ac, .inl (cI, 4, .inl co)), (ag, .inl (cQ, 6, .inr (.inr (.inr (.inr (fun i9 => some (rw i9))))))), (rw 0, .inl (cI, 4, .inl (M 0))), (rw 1, .inl (cI, 4, .inl (M 1))), (rw 2, .inl (cI, 4, .inl (M 2))), (rw 3, .inl (cI, 4, .inl (M 3))), (rw 4, .inl (cI, 4, .inl (M 4))), (rw 5, .inl (cI, 4, .inl (M 5)))] := hD
        have p25 : zr3 = nI (pc_n r0) := p25
        refine mm_topi (y := nI (pc_n r0)) (p25) ?_
        refine lv_istore (lv' := [(4, .int (nI (pc_n r0))), (0, .ref mi), (1, .ref a), (2, .int (nI (cs_n k))), (3, .int (nI r0))]) hx hb dd_Minors_fill_28 hl (by decide) rfl (fun ls hl => ?_)
        refine lv_iconst (v := 1) hx hb dd_Minors_fill_30 (by decide) ?_
        refine lv_istore (lv' := [(5, .int (1 : Int32)), (4, .int (nI (pc_n r0))), (0, .ref mi), (1, .ref a), (2, .int (nI (cs_n k))), (3, .int (nI r0))]) hx hb dd_Minors_fill_31 hl (by decide) rfl (fun ls hl => ?_)
        have J33 : ∀ (N : Nat) (c0 : Nat) (vals2 : Nat → Int32), (128 - c0) < N → ∀ (hc0 : 1 ≤ c0 ∧ c0 ≤ 128) (hw : mn_part vals2 co M k r0 c0), ∀ (ls : Array Slot) (H : Heap) (locs : List Loc), lv_has ls 6 [(0, .ref mi), (1, .ref a), (2, .int (nI (cs_n k))), (3, .int (nI r0)), (4, .int (nI (pc_n r0))), (5, .int (nI c0))] → va_P D kc_all [(mi, .inr (1, [.ref mv])), (mv, .inl (cI, 2048, .inl vals2)), (a, .inr (0, [.int (nI n), .int (nI k), .ref al, .ref am, .ref aw, .ref ac, .ref ag, .ref ab])), (ac, .inl (cI, 4, .inl co)), (ag, .inl (cQ, 6, .inr (.inr (.inr (.inr (fun i9 => some (rw i9))))))), (rw 0, .inl (cI, 4, .inl (M 0))), (rw 1, .inl (cI, 4, .inl (M 1))), (rw 2, .inl (cI, 4, .inl (M 2))), (rw 3, .inl (cI, 4, .inl (M 3))), (rw 4, .inl (cI, 4, .inl (M 4))), (rw 5, .inl (cI, 4, .inl (M 5)))] H → va_D A [(mi, .inr (1, [.ref mv])), (mv, .inl (cI, 2048, .inl vals2)), (a, .inr (0, [.int (nI n), .int (nI k), .ref al, .ref am, .ref aw, .ref ac, .ref ag, .ref ab])), (ac, .inl (cI, 4, .inl co)), (ag, .inl (cQ, 6, .inr (.inr (.inr (.inr (fun i9 => some (rw i9))))))), (rw 0, .inl (cI, 4, .inl (M 0))), (rw 1, .inl (cI, 4, .inl (M 1))), (rw 2, .inl (cI, 4, .inl (M 2))), (rw 3, .inl (cI, 4, .inl (M 3))), (rw 4, .inl (cI, 4, .inl (M 4))), (rw 5, .inl (cI, 4, .inl (M 5)))] → va_S A s.heap H locs → W p l e (headSpec ww_Minors_fill ({ frames := 3, cells := 0, slots := 0, locals := 75 } : Room)).room s m ([.ref mi, .ref a]).toArray below meth c H locs 0 0 (MQ below (qq_Minors_fill D cI cZ cL cQ mi mv a al am aw ac ag ab n k vals co rw M A) ([.ref mi, .ref a]).toArray s 0 0 A) (F0 m 33 ls []) := by
          intro N
          induction N with
          | zero => intro c0 vals2 hN9; exact absurd hN9 (Nat.not_lt_zero _)
          | succ N IH33 =>
            intro c0 vals2 hN9 hc0 hw ls H locs hl hP hD hS
            refine lv_iload hx hb dd_Minors_fill_33 (lv_at hl 5 rfl) ?_
            refine lv_sipush (v := 128) hx hb dd_Minors_fill_35 (by decide) ?_
            refine lv_icmp_ge (tgt := 86) hx hb dd_Minors_fill_38 (by decide) (fun h38 => ?_) (fun h38 => ?_)
            · skip
              have h38 : 128 ≤ c0 := (nI_leI (a := 128) (b := c0) (by omega) (by omega)).mp h38
              refine lv_iinc (k := 3) (v := nI (r0 + 1)) (lv' := [(3, .int (nI (r0 + 1))), (0, .ref mi), (1, .ref a), (2, .int (nI (cs_n k))), (4, .int (nI (pc_n r0))), (5, .int (nI c0))]) hx hb dd_Minors_fill_86 hl rfl (nI_1 _) (by decide) rfl (fun ls hl => ?_)
              refine lv_goto (tgt := 14) hx hb dd_Minors_fill_89 (by decide) ?_
              exact IH14 (r0 + 1) vals2 (by omega) (by omega) (mn_row (by omega) hw) ls H locs (lv_sub hl [1, 2, 3, 0] rfl) hP hD hS
            · skip
              have h38 : ¬ (128 ≤ c0) := fun q9 => h38 ((nI_leI (a := 128) (b := c0) (by omega) (by omega)).mpr q9)
              refine lv_iload hx hb dd_Minors_fill_41 (lv_at hl 5 rfl) ?_
              refine lv_iload_n hx hb dd_Minors_fill_43 rfl (lv_at hl 2 rfl) ?_
              refine lv_iconst (v := (-1)) hx hb dd_Minors_fill_44 (by decide) ?_
              refine lv_ixor hx hb dd_Minors_fill_45 ?_
              refine lv_iand hx hb dd_Minors_fill_46 ?_
              refine mm_topi (y := nI (c0 &&& (127 ^^^ cs_n k))) (bt_sub _ hcs c0 (by omega)) ?_
              have hand : c0 &&& (127 ^^^ cs_n k) ≤ c0 := Nat.and_le_left
              refine lv_if_ne (tgt := 80) hx hb dd_Minors_fill_47 (by decide) (fun h47 => ?_) (fun h47 => ?_)
              · skip
                have h47 : ¬ (c0 &&& (127 ^^^ cs_n k) = 0) := fun q9 => h47 ((nI_eq (a := c0 &&& (127 ^^^ cs_n k)) (b := 0) (by omega) (by omega)).mpr q9)
                refine lv_iinc (k := 5) (v := nI (c0 + 1)) (lv' := [(5, .int (nI (c0 + 1))), (0, .ref mi), (1, .ref a), (2, .int (nI (cs_n k))), (3, .int (nI r0)), (4, .int (nI (pc_n r0)))]) hx hb dd_Minors_fill_80 hl rfl (nI_1 _) (by decide) rfl (fun ls hl => ?_)
                refine lv_goto (tgt := 33) hx hb dd_Minors_fill_83 (by decide) ?_
                exact IH33 (c0 + 1) vals2 (by omega) (by omega) (by first | exact mn_no hw (fun q => h47 q.1) | exact mn_no hw (fun q => h57 q.2) | exact mn_set (by omega) (by omega) (by omega) (by omega) hw) ls H locs (lv_sub hl [1, 2, 3, 4, 5, 0] rfl) hP hD hS
              · skip
                have h47 : c0 &&& (127 ^^^ cs_n k) = 0 := (nI_eq (a := c0 &&& (127 ^^^ cs_n k)) (b := 0) (by omega) (by omega)).mp h47
                refine lv_iload hx hb dd_Minors_fill_50 (lv_at hl 5 rfl) ?_
                refine mm_i (wc := []) (wr := [(mi, .inr (1, [.ref mv])), (mv, .inl (cI, 2048, .inl vals2)), (a, .inr (0, [.int (nI n), .int (nI k), .ref al, .ref am, .ref aw, .ref ac, .ref ag, .ref ab])), (ac, .inl (cI, 4, .inl co)), (ag, .inl (cQ, 6, .inr (.inr (.inr (.inr (fun i9 => some (rw i9))))))), (rw 0, .inl (cI, 4, .inl (M 0))), (rw 1, .inl (cI, 4, .inl (M 1))), (rw 2, .inl (cI, 4, .inl (M 2))), (rw 3, .inl (cI, 4, .inl (M 3))), (rw 4, .inl (cI, 4, .inl (M 4))), (rw 5, .inl (cI, 4, .inl (M 5)))]) (va_runS (As := [.int (nI c0)]) (rest := []) ⟨hx, hb, hml, hown, hts⟩ (cc_Integer_bitCount l D cI cZ cL cQ _ c0 (by omega)) (mm_cwS 1 hts ml_Minors_25 sm_Integer_bitCount ic_Integer cd_Integer_bitCount rfl rfl (by decide +kernel) ⟨Nat.le_of_ble_eq_true rfl, Nat.le_of_ble_eq_true rfl⟩) (mm_preS hK hP hD [] (by decide) rfl) rfl rfl hl.1 rfl (lv_room (Nat.le_of_ble_eq_true rfl)) dd_Minors_fill_52 ⟨Nat.zero_le _, Nat.zero_le _⟩) hP hD hS hA [] [0, 1, 2, 3, 4, 5, 6, 7, 8, 9, 10] rfl rfl (by decide) (by decide) (fun zr5 zu6 H locs p52 hP hD hS => ?_)
                have hP : va_P D kc_all [(mi, .inr (1, [.ref mv])), (mv, .inl (cI, 2048, .inl vals2)), (a, .inr (0, [.int (nI n), .int (nI k), .ref al, .ref am, .ref aw, .ref ac, .ref ag, .ref ab])), (ac, .inl (cI, 4, .inl co)), (ag, .inl (cQ, 6, .inr (.inr (.inr (.inr (fun i9 => some (rw i9))))))), (rw 0, .inl (cI, 4, .inl (M 0))), (rw 1, .inl (cI, 4, .inl (M 1))), (rw 2, .inl (cI, 4, .inl (M 2))), (rw 3, .inl (cI, 4, .inl (M 3))), (rw 4, .inl (cI, 4, .inl (M 4))), (rw 5, .inl (cI, 4, .inl (M 5)))] H := hP
                have hD : va_D A [(mi, .inr (1, [.ref mv])), (mv, .inl (cI, 2048, .inl vals2)), (a, .inr (0, [.int (nI n), .int (nI k), .ref al, .ref am, .ref aw, .ref ac, .ref ag, .ref ab])), (ac, .inl (cI, 4, .inl co)), (ag, .inl (cQ, 6, .inr (.inr (.inr (.inr (fun i9 => some (rw i9))))))), (rw 0, .inl (cI, 4, .inl (M 0))), (rw 1, .inl (cI, 4, .inl (M 1))), (rw 2, .inl (cI, 4, .inl (M 2))), (rw 3, .inl (cI, 4, .inl (M 3))), (rw 4, .inl (cI, 4, .inl (M 4))), (rw 5, .inl (cI, 4, .inl (M 5)))] := hD
                have p52 : zr5 = nI (pc_n c0) := p52
                refine mm_topi (y := nI (pc_n c0)) (p52) ?_
                refine lv_iload hx hb dd_Minors_fill_55 (lv_at hl 4 rfl) ?_
                have hpa := pc_le c0
                have hpb := pc_le r0
                refine lv_icmp_ne (tgt := 80) hx hb dd_Minors_fill_57 (by decide) (fun h57 => ?_) (fun h57 => ?_)
                · skip
                  have h57 : ¬ (pc_n c0 = pc_n r0) := fun q9 => h57 ((nI_eq (a := pc_n c0) (b := pc_n r0) (by omega) (by omega)).mpr q9)
                  refine lv_iinc (k := 5) (v := nI (c0 + 1)) (lv' := [(5, .int (nI (c0 + 1))), (0, .ref mi), (1, .ref a), (2, .int (nI (cs_n k))), (3, .int (nI r0)), (4, .int (nI (pc_n r0)))]) hx hb dd_Minors_fill_80 hl rfl (nI_1 _) (by decide) rfl (fun ls hl => ?_)
                  refine lv_goto (tgt := 33) hx hb dd_Minors_fill_83 (by decide) ?_
                  exact IH33 (c0 + 1) vals2 (by omega) (by omega) (by first | exact mn_no hw (fun q => h47 q.1) | exact mn_no hw (fun q => h57 q.2) | exact mn_set (by omega) (by omega) (by omega) (by omega) hw) ls H locs (lv_sub hl [1, 2, 3, 4, 5, 0] rfl) hP hD hS
                · skip
                  have h57 : pc_n c0 = pc_n r0 := (nI_eq (a := pc_n c0) (b := pc_n r0) (by omega) (by omega)).mp h57
                  refine lv_aload_n hx hb dd_Minors_fill_60 rfl (lv_at hl 0 rfl) ?_
                  refine va_get (D := D) (ci := 1) (v := .ref mv) (C := RR_Minors) (T := FF_Minors) (N := 1) hx hb htb hi_Minors hown hK hP 0 rfl rfl 0 (by decide) hf_11 (fun _ h9 => h9) rfl dd_Minors_fill_61 ?_
                  refine lv_iload_n hx hb dd_Minors_fill_64 rfl (lv_at hl 3 rfl) ?_
                  refine lv_bipush (v := 7) hx hb dd_Minors_fill_65 (by decide) ?_
                  refine lv_ishl hx hb dd_Minors_fill_67 ?_
                  refine mm_topi (y := nI (r0 * 128)) (bt_s7 r0 (by omega)) ?_
                  refine lv_iload hx hb dd_Minors_fill_68 (lv_at hl 5 rfl) ?_
                  refine lv_ior hx hb dd_Minors_fill_70 ?_
                  refine mm_topi (y := nI (r0 * 128 + c0)) (bt_or r0 (by omega) c0 (by omega)) ?_
                  refine lv_aload_n hx hb dd_Minors_fill_71 rfl (lv_at hl 0 rfl) ?_
                  refine lv_aload_n hx hb dd_Minors_fill_72 rfl (lv_at hl 1 rfl) ?_
                  refine lv_iload_n hx hb dd_Minors_fill_73 rfl (lv_at hl 3 rfl) ?_
                  refine lv_iload hx hb dd_Minors_fill_74 (lv_at hl 5 rfl) ?_
                  refine mm_i (wc := [(mi, .inr (1, [.ref mv])), (mv, .inl (cI, 2048, .inl vals2)), (a, .inr (0, [.int (nI n), .int (nI k), .ref al, .ref am, .ref aw, .ref ac, .ref ag, .ref ab])), (ac, .inl (cI, 4, .inl co)), (ag, .inl (cQ, 6, .inr (.inr (.inr (.inr (fun i9 => some (rw i9))))))), (rw 0, .inl (cI, 4, .inl (M 0))), (rw 1, .inl (cI, 4, .inl (M 1))), (rw 2, .inl (cI, 4, .inl (M 2))), (rw 3, .inl (cI, 4, .inl (M 3))), (rw 4, .inl (cI, 4, .inl (M 4))), (rw 5, .inl (cI, 4, .inl (M 5)))]) (wr := []) (va_runV (As := [.ref a, .int (nI r0), .int (nI c0)]) (rest := [.int (nI (r0 * 128 + c0)), .ref mv]) (C := RR_Minors) ⟨hx, hb, hml, hown, hts⟩ (cc_Minors_expand l D cI cZ cL cQ _ mi mv a al am aw ac ag ab n k vals2 co rw M r0 c0 (by omega) (by omega) (by omega)) (mm_cwV 3 hts ml_Minors_31 im_Minors_expand se_Minors_expand ic_Minors cd_Minors_expand rfl rfl (by decide +kernel) ⟨Nat.le_of_ble_eq_true rfl, Nat.le_of_ble_eq_true rfl⟩) (mm_preV hK hP hD [0, 1, 2, 3, 4, 5, 6, 7, 8, 9, 10] (by decide) rfl 0 rfl rfl) rfl rfl hl.1 rfl (lv_room (Nat.le_of_ble_eq_true rfl)) dd_Minors_fill_76 ⟨Nat.zero_le _, Nat.zero_le _⟩) hP hD hS hA [0, 1, 2, 3, 4, 5, 6, 7, 8, 9, 10] [] rfl rfl (by decide) (by decide) (fun zr7 zu8 H locs p76 hP hD hS => ?_)
                  have hP : va_P D kc_all [(mi, .inr (1, [.ref mv])), (mv, .inl (cI, 2048, .inl vals2)), (a, .inr (0, [.int (nI n), .int (nI k), .ref al, .ref am, .ref aw, .ref ac, .ref ag, .ref ab])), (ac, .inl (cI, 4, .inl co)), (ag, .inl (cQ, 6, .inr (.inr (.inr (.inr (fun i9 => some (rw i9))))))), (rw 0, .inl (cI, 4, .inl (M 0))), (rw 1, .inl (cI, 4, .inl (M 1))), (rw 2, .inl (cI, 4, .inl (M 2))), (rw 3, .inl (cI, 4, .inl (M 3))), (rw 4, .inl (cI, 4, .inl (M 4))), (rw 5, .inl (cI, 4, .inl (M 5)))] H := hP
                  have hD : va_D A [(mi, .inr (1, [.ref mv])), (mv, .inl (cI, 2048, .inl vals2)), (a, .inr (0, [.int (nI n), .int (nI k), .ref al, .ref am, .ref aw, .ref ac, .ref ag, .ref ab])), (ac, .inl (cI, 4, .inl co)), (ag, .inl (cQ, 6, .inr (.inr (.inr (.inr (fun i9 => some (rw i9))))))), (rw 0, .inl (cI, 4, .inl (M 0))), (rw 1, .inl (cI, 4, .inl (M 1))), (rw 2, .inl (cI, 4, .inl (M 2))), (rw 3, .inl (cI, 4, .inl (M 3))), (rw 4, .inl (cI, 4, .inl (M 4))), (rw 5, .inl (cI, 4, .inl (M 5)))] := hD
                  have p76 : zr7 = ex_f vals2 co M r0 c0 7 := p76
                  refine mm_topi (y := ex_f vals2 co M r0 c0 7) (p76) ?_
                  refine mm_iast hx hb hK hP hD hS 1 0 rfl rfl (r0 * 128 + c0) (rfl) (by omega) (by first | decide | omega) dd_Minors_fill_79 (fun H locs hP hD hS => ?_)
                  have hP : va_P D kc_all [(mi, .inr (1, [.ref mv])), (mv, .inl (cI, 2048, .inl (upd vals2 (r0 * 128 + c0) (ex_f vals2 co M r0 c0 7)))), (a, .inr (0, [.int (nI n), .int (nI k), .ref al, .ref am, .ref aw, .ref ac, .ref ag, .ref ab])), (ac, .inl (cI, 4, .inl co)), (ag, .inl (cQ, 6, .inr (.inr (.inr (.inr (fun i9 => some (rw i9))))))), (rw 0, .inl (cI, 4, .inl (M 0))), (rw 1, .inl (cI, 4, .inl (M 1))), (rw 2, .inl (cI, 4, .inl (M 2))), (rw 3, .inl (cI, 4, .inl (M 3))), (rw 4, .inl (cI, 4, .inl (M 4))), (rw 5, .inl (cI, 4, .inl (M 5)))] H := hP
                  have hD : va_D A [(mi, .inr (1, [.ref mv])), (mv, .inl (cI, 2048, .inl (upd vals2 (r0 * 128 + c0) (ex_f vals2 co M r0 c0 7)))), (a, .inr (0, [.int (nI n), .int (nI k), .ref al, .ref am, .ref aw, .ref ac, .ref ag, .ref ab])), (ac, .inl (cI, 4, .inl co)), (ag, .inl (cQ, 6, .inr (.inr (.inr (.inr (fun i9 => some (rw i9))))))), (rw 0, .inl (cI, 4, .inl (M 0))), (rw 1, .inl (cI, 4, .inl (M 1))), (rw 2, .inl (cI, 4, .inl (M 2))), (rw 3, .inl (cI, 4, .inl (M 3))), (rw 4, .inl (cI, 4, .inl (M 4))), (rw 5, .inl (cI, 4, .inl (M 5)))] := hD
                  refine lv_iinc (k := 5) (v := nI (c0 + 1)) (lv' := [(5, .int (nI (c0 + 1))), (0, .ref mi), (1, .ref a), (2, .int (nI (cs_n k))), (3, .int (nI r0)), (4, .int (nI (pc_n r0)))]) hx hb dd_Minors_fill_80 hl rfl (nI_1 _) (by decide) rfl (fun ls hl => ?_)
                  refine lv_goto (tgt := 33) hx hb dd_Minors_fill_83 (by decide) ?_
                  exact IH33 (c0 + 1) (upd vals2 (r0 * 128 + c0) (ex_f vals2 co M r0 c0 7)) (by omega) (by omega) (by first | exact mn_no hw (fun q => h47 q.1) | exact mn_no hw (fun q => h57 q.2) | exact mn_set (by omega) (by omega) (by omega) (by omega) hw) ls H locs (lv_sub hl [1, 2, 3, 4, 5, 0] rfl) hP hD hS
        exact J33 _ 1 vals1 (Nat.lt_succ_self _) (by omega) (hv) ls H locs (lv_sub hl [2, 3, 4, 5, 1, 0] rfl) hP hD hS
  exact J14 _ 1 (upd vals 0 (1 : Int32)) (Nat.lt_succ_self _) (by omega) (mn_0) ls H locs (lv_sub hl [2, 3, 1, 0] rfl) hP hD hS
