abbrev qq_Problem_leastCost (D : va_G) (cI cZ cL cQ : ClassId) (a : Nat) (al : Nat) (am : Nat) (aw : Nat) (ac : Nat) (ag : Nat) (ab : Nat) (n : Nat) (k : Nat) (j : Nat) (lo : Nat → Int32) (hi : Nat → Int32) (co : Nat → Int32) (A : Nat → Prop) : Array Value → State → Outcome → State → Prop := va_Qi (fun (r : Int32) (u : Unit) => r = if co j < 0 then co j * hi j else co j * lo j) (fun (u : Unit) t => mm_B D kc_all [(cI, .int), (cZ, .boolean), (cL, .long), (cQ, .array .int)] A [(a, .inr (0, [.int (nI n), .int (nI k), .ref al, .ref am, .ref aw, .ref ac, .ref ag, .ref ab])), (al, .inl (cI, 4, .inl lo)), (am, .inl (cI, 4, .inl hi)), (ac, .inl (cI, 4, .inl co))] t) A
set_option maxHeartbeats 4000000 in
set_option maxRecDepth 100000 in
theorem cc_Problem_leastCost (l : Launch) (D : va_G) (cI cZ cL cQ : ClassId) (sz : Nat) (a : Nat) (al : Nat) (am : Nat) (aw : Nat) (ac : Nat) (ag : Nat) (ab : Nat) (n : Nat) (k : Nat) (j : Nat) (lo : Nat → Int32) (hi : Nat → Int32) (co : Nat → Int32) (hj : j < 4) : Met l yy_Problem_leastCost ww_Problem_leastCost ({ frames := 0, cells := 0, slots := 0, locals := 0 } : Room) (mm_Pc D kc_all [(cI, .int), (cZ, .boolean), (cL, .long), (cQ, .array .int)] sz [(a, .inr (0, [.int (nI n), .int (nI k), .ref al, .ref am, .ref aw, .ref ac, .ref ag, .ref ab])), (al, .inl (cI, 4, .inl lo)), (am, .inl (cI, 4, .inl hi)), (ac, .inl (cI, 4, .inl co))] [.ref a, .int (nI j)]) (qq_Problem_leastCost D cI cZ cL cQ a al am aw ac ag ab n k j lo hi co (va_A [(a, .inr (0, [.int (nI n), .int (nI k), .ref al, .ref am, .ref aw, .ref ac, .ref ag, .ref ab])), (al, .inl (cI, 4, .inl lo)), (am, .inl (cI, 4, .inl hi)), (ac, .inl (cI, 4, .inl co))] sz)) 0 0 (va_A [(a, .inr (0, [.int (nI n), .int (nI k), .ref al, .ref am, .ref aw, .ref ac, .ref ag, .ref ab])), (al, .inl (cI, 4, .inl lo)), (am, .inl (cI, 4, .inl hi)), (ac, .inl (cI, 4, .inl co))] sz) := by
  refine Met.ofW (cc := bb_Problem_leastCost) (maxL := 2) (ret := (some .int)) (by decide) rfl ?_
  intro p e s m args below meth c s₁ B hml hv
  obtain ⟨rfl, hsz, hP, hK, hD0⟩ := hv
  have hx := B.exec
  have hb := B.bytes
  have hr := B.returns
  have hts := atoms_spec (ws := ww_Problem_leastCost) B.pre
  have hown : s.vm.findClass RR_Problem = some m.cls := findClass_of_methodNamed B.named
  have hlocks := B.notSynchronized
  subst hsz
  have hD := hD0.self (sz := s.heap.size)
  generalize hAe : va_A [(a, .inr (0, [.int (nI n), .int (nI k), .ref al, .ref am, .ref aw, .ref ac, .ref ag, .ref ab])), (al, .inl (cI, 4, .inl lo)), (am, .inl (cI, 4, .inl hi)), (ac, .inl (cI, 4, .inl co))] s.heap.size = A at hD ⊢
  have hA : ∀ q : Nat, s.heap.size ≤ q → A q := fun q h => by rw [← hAe]; exact Or.inr h
  have hS : va_S A s.heap s.heap [] := va_S.rf
  have hP : va_P D kc_all [(a, .inr (0, [.int (nI n), .int (nI k), .ref al, .ref am, .ref aw, .ref ac, .ref ag, .ref ab])), (al, .inl (cI, 4, .inl lo)), (am, .inl (cI, 4, .inl hi)), (ac, .inl (cI, 4, .inl co))] s.heap := hP
  have hl := lv_entry ([.ref a, .int (nI j)]) (n := 2) (Nat.le_of_ble_eq_true rfl)
  rw [lg_entry_eq]
  generalize (lg_sl ([.ref a, .int (nI j)]) ++ List.replicate (2 - (lg_sl ([.ref a, .int (nI j)])).length) Slot.unset).toArray = ls at hl ⊢
  have hl : lv_has ls 2 [(0, .ref a), (1, .int (nI j))] := hl
  have htb : ∀ w ∈ tb_all, w.before ([.ref a, .int (nI j)]).toArray s = true := fun w h => hts w (List.mem_cons_of_mem _ h)
  have hf_18 := htb _ fl_Problem_18
  have hf_22 := htb _ fl_Problem_22
  have hf_29 := htb _ fl_Problem_29
  refine lv_aload_n hx hb dd_Problem_leastCost_0 rfl (lv_at hl 0 rfl) ?_
  refine va_get (D := D) (ci := 0) (v := .ref ac) (C := RR_Problem) (T := FF_Problem) (N := 8) hx hb htb hi_Problem hown hK hP 0 rfl rfl 5 (by decide) hf_29 (fun _ h9 => h9) rfl dd_Problem_leastCost_1 ?_
  refine lv_iload_n hx hb dd_Problem_leastCost_4 rfl (lv_at hl 1 rfl) ?_
  refine mm_iald hx hb hK hP 3 0 rfl rfl (j) (rfl) (by omega) (by decide) dd_Problem_leastCost_5 ?_
  refine lv_if_lt (tgt := 25) hx hb dd_Problem_leastCost_6 (by decide) (fun h6 => ?_) (fun h6 => ?_)
  · skip
    refine lv_aload_n hx hb dd_Problem_leastCost_25 rfl (lv_at hl 0 rfl) ?_
    refine va_get (D := D) (ci := 0) (v := .ref ac) (C := RR_Problem) (T := FF_Problem) (N := 8) hx hb htb hi_Problem hown hK hP 0 rfl rfl 5 (by decide) hf_29 (fun _ h9 => h9) rfl dd_Problem_leastCost_26 ?_
    refine lv_iload_n hx hb dd_Problem_leastCost_29 rfl (lv_at hl 1 rfl) ?_
    refine mm_iald hx hb hK hP 3 0 rfl rfl (j) (rfl) (by omega) (by decide) dd_Problem_leastCost_30 ?_
    refine lv_aload_n hx hb dd_Problem_leastCost_31 rfl (lv_at hl 0 rfl) ?_
    refine va_get (D := D) (ci := 0) (v := .ref am) (C := RR_Problem) (T := FF_Problem) (N := 8) hx hb htb hi_Problem hown hK hP 0 rfl rfl 3 (by decide) hf_22 (fun _ h9 => h9) rfl dd_Problem_leastCost_32 ?_
    refine lv_iload_n hx hb dd_Problem_leastCost_35 rfl (lv_at hl 1 rfl) ?_
    refine mm_iald hx hb hK hP 2 0 rfl rfl (j) (rfl) (by omega) (by decide) dd_Problem_leastCost_36 ?_
    refine lv_imul hx hb dd_Problem_leastCost_37 ?_
    exact W.iret (v := ((co j) * (hi j))) hx hb hr (fun t ht hW => ⟨⟨(co j) * (hi j), (), rfl, by first | exact (if_pos (by assumption)).symm | exact (if_neg (by assumption)).symm, by rw [ht]; exact hP, va_K.moved hW.alike hK, hD⟩, hS.F ht⟩) hS.2.2 dd_Problem_leastCost_38
  · skip
    refine lv_aload_n hx hb dd_Problem_leastCost_9 rfl (lv_at hl 0 rfl) ?_
    refine va_get (D := D) (ci := 0) (v := .ref ac) (C := RR_Problem) (T := FF_Problem) (N := 8) hx hb htb hi_Problem hown hK hP 0 rfl rfl 5 (by decide) hf_29 (fun _ h9 => h9) rfl dd_Problem_leastCost_10 ?_
    refine lv_iload_n hx hb dd_Problem_leastCost_13 rfl (lv_at hl 1 rfl) ?_
    refine mm_iald hx hb hK hP 3 0 rfl rfl (j) (rfl) (by omega) (by decide) dd_Problem_leastCost_14 ?_
    refine lv_aload_n hx hb dd_Problem_leastCost_15 rfl (lv_at hl 0 rfl) ?_
    refine va_get (D := D) (ci := 0) (v := .ref al) (C := RR_Problem) (T := FF_Problem) (N := 8) hx hb htb hi_Problem hown hK hP 0 rfl rfl 2 (by decide) hf_18 (fun _ h9 => h9) rfl dd_Problem_leastCost_16 ?_
    refine lv_iload_n hx hb dd_Problem_leastCost_19 rfl (lv_at hl 1 rfl) ?_
    refine mm_iald hx hb hK hP 1 0 rfl rfl (j) (rfl) (by omega) (by decide) dd_Problem_leastCost_20 ?_
    refine lv_imul hx hb dd_Problem_leastCost_21 ?_
    refine lv_goto (tgt := 38) hx hb dd_Problem_leastCost_22 (by decide) ?_
    exact W.iret (v := ((co j) * (lo j))) hx hb hr (fun t ht hW => ⟨⟨(co j) * (lo j), (), rfl, by first | exact (if_pos (by assumption)).symm | exact (if_neg (by assumption)).symm, by rw [ht]; exact hP, va_K.moved hW.alike hK, hD⟩, hS.F ht⟩) hS.2.2 dd_Problem_leastCost_38
abbrev qq_Problem_weigh (D : va_G) (cI cZ cL cQ : ClassId) (a : Nat) (al : Nat) (am : Nat) (aw : Nat) (ac : Nat) (ag : Nat) (ab : Nat) (n : Nat) (k : Nat) (ar : Nat) (ax : Nat) (row : Nat → Int32) (x : Nat → Int32) (A : Nat → Prop) : Array Value → State → Outcome → State → Prop := va_Ql (fun (r : Int64) (u : Unit) => r = wg_sum row x n) (fun (u : Unit) t => mm_B D kc_all [(cI, .int), (cZ, .boolean), (cL, .long), (cQ, .array .int)] A [(a, .inr (0, [.int (nI n), .int (nI k), .ref al, .ref am, .ref aw, .ref ac, .ref ag, .ref ab])), (ar, .inl (cI, 4, .inl row)), (ax, .inl (cI, 4, .inl x))] t) A
set_option maxHeartbeats 4000000 in
set_option maxRecDepth 100000 in
theorem cc_Problem_weigh (l : Launch) (D : va_G) (cI cZ cL cQ : ClassId) (sz : Nat) (a : Nat) (al : Nat) (am : Nat) (aw : Nat) (ac : Nat) (ag : Nat) (ab : Nat) (n : Nat) (k : Nat) (ar : Nat) (ax : Nat) (row : Nat → Int32) (x : Nat → Int32) (hn : n ≤ 4) : Met l yy_Problem_weigh ww_Problem_weigh ({ frames := 0, cells := 0, slots := 0, locals := 0 } : Room) (mm_Pc D kc_all [(cI, .int), (cZ, .boolean), (cL, .long), (cQ, .array .int)] sz [(a, .inr (0, [.int (nI n), .int (nI k), .ref al, .ref am, .ref aw, .ref ac, .ref ag, .ref ab])), (ar, .inl (cI, 4, .inl row)), (ax, .inl (cI, 4, .inl x))] [.ref a, .ref ar, .ref ax]) (qq_Problem_weigh D cI cZ cL cQ a al am aw ac ag ab n k ar ax row x (va_A [(a, .inr (0, [.int (nI n), .int (nI k), .ref al, .ref am, .ref aw, .ref ac, .ref ag, .ref ab])), (ar, .inl (cI, 4, .inl row)), (ax, .inl (cI, 4, .inl x))] sz)) 0 0 (va_A [(a, .inr (0, [.int (nI n), .int (nI k), .ref al, .ref am, .ref aw, .ref ac, .ref ag, .ref ab])), (ar, .inl (cI, 4, .inl row)), (ax, .inl (cI, 4, .inl x))] sz) := by
  refine Met.ofW (cc := bb_Problem_weigh) (maxL := 6) (ret := (some .long)) (by decide) rfl ?_
  intro p e s m args below meth c s₁ B hml hv
  obtain ⟨rfl, hsz, hP, hK, hD0⟩ := hv
  have hx := B.exec
  have hb := B.bytes
  have hr := B.returns
  have hts := atoms_spec (ws := ww_Problem_weigh) B.pre
  have hown : s.vm.findClass RR_Problem = some m.cls := findClass_of_methodNamed B.named
  have hlocks := B.notSynchronized
  subst hsz
  have hD := hD0.self (sz := s.heap.size)
  generalize hAe : va_A [(a, .inr (0, [.int (nI n), .int (nI k), .ref al, .ref am, .ref aw, .ref ac, .ref ag, .ref ab])), (ar, .inl (cI, 4, .inl row)), (ax, .inl (cI, 4, .inl x))] s.heap.size = A at hD ⊢
  have hA : ∀ q : Nat, s.heap.size ≤ q → A q := fun q h => by rw [← hAe]; exact Or.inr h
  have hS : va_S A s.heap s.heap [] := va_S.rf
  have hP : va_P D kc_all [(a, .inr (0, [.int (nI n), .int (nI k), .ref al, .ref am, .ref aw, .ref ac, .ref ag, .ref ab])), (ar, .inl (cI, 4, .inl row)), (ax, .inl (cI, 4, .inl x))] s.heap := hP
  have hl := lv_entry ([.ref a, .ref ar, .ref ax]) (n := 6) (Nat.le_of_ble_eq_true rfl)
  rw [lg_entry_eq]
  generalize (lg_sl ([.ref a, .ref ar, .ref ax]) ++ List.replicate (6 - (lg_sl ([.ref a, .ref ar, .ref ax])).length) Slot.unset).toArray = ls at hl ⊢
  have hl : lv_has ls 6 [(0, .ref a), (1, .ref ar), (2, .ref ax)] := hl
  have htb : ∀ w ∈ tb_all, w.before ([.ref a, .ref ar, .ref ax]).toArray s = true := fun w h => hts w (List.mem_cons_of_mem _ h)
  have hf_9 := htb _ fl_Problem_9
  refine lv_lconst (v := 0) hx hb dd_Problem_weigh_0 (by decide) ?_
  refine lv_lstore_n (lv' := [(3, .long (0 : Int64)), (0, .ref a), (1, .ref ar), (2, .ref ax)]) hx hb dd_Problem_weigh_1 rfl hl (by decide) rfl (fun ls hl => ?_)
  refine lv_iconst (v := 0) hx hb dd_Problem_weigh_2 (by decide) ?_
  refine lv_istore (lv' := [(5, .int (0 : Int32)), (3, .long (0 : Int64)), (0, .ref a), (1, .ref ar), (2, .ref ax)]) hx hb dd_Problem_weigh_3 hl (by decide) rfl (fun ls hl => ?_)
  have J5 : ∀ (N : Nat) (j : Nat), (n - j) < N → ∀ (hj : j ≤ n), ∀ (ls : Array Slot) (H : Heap) (locs : List Loc), lv_has ls 6 [(0, .ref a), (1, .ref ar), (2, .ref ax), (3, .long (wg_sum row x j)), (5, .int (nI j))] → va_P D kc_all [(a, .inr (0, [.int (nI n), .int (nI k), .ref al, .ref am, .ref aw, .ref ac, .ref ag, .ref ab])), (ar, .inl (cI, 4, .inl row)), (ax, .inl (cI, 4, .inl x))] H → va_D A [(a, .inr (0, [.int (nI n), .int (nI k), .ref al, .ref am, .ref aw, .ref ac, .ref ag, .ref ab])), (ar, .inl (cI, 4, .inl row)), (ax, .inl (cI, 4, .inl x))] → va_S A s.heap H locs → W p l e (headSpec ww_Problem_weigh ({ frames := 0, cells := 0, slots := 0, locals := 0 } : Room)).room s m ([.ref a, .ref ar, .ref ax]).toArray below meth c H locs 0 0 (MQ below (qq_Problem_weigh D cI cZ cL cQ a al am aw ac ag ab n k ar ax row x A) ([.ref a, .ref ar, .ref ax]).toArray s 0 0 A) (F0 m 5 ls []) := by
    intro N
    induction N with
    | zero => intro j hN9; exact absurd hN9 (Nat.not_lt_zero _)
    | succ N IH5 =>
      intro j hN9 hj ls H locs hl hP hD hS
      refine lv_iload hx hb dd_Problem_weigh_5 (lv_at hl 4 rfl) ?_
      refine lv_aload_n hx hb dd_Problem_weigh_7 rfl (lv_at hl 0 rfl) ?_
      refine va_get (D := D) (ci := 0) (v := .int (nI n)) (C := RR_Problem) (T := FF_Problem) (N := 8) hx hb htb hi_Problem hown hK hP 0 rfl rfl 0 (by decide) hf_9 (fun _ h9 => h9) rfl dd_Problem_weigh_8 ?_
      refine lv_icmp_ge (tgt := 34) hx hb dd_Problem_weigh_11 (by decide) (fun h11 => ?_) (fun h11 => ?_)
      · skip
        have h11 : n ≤ j := (nI_leI (a := n) (b := j) (by omega) (by omega)).mp h11
        refine lv_lload_n hx hb dd_Problem_weigh_34 rfl (lv_at hl 3 rfl) ?_
        exact W.lret (v := (wg_sum row x j)) hx hb hr (fun t ht hW => ⟨⟨wg_sum row x j, (), rfl, by rw [show n = j by omega], by rw [ht]; exact hP, va_K.moved hW.alike hK, hD⟩, hS.F ht⟩) hS.2.2 dd_Problem_weigh_35
      · skip
        have h11 : ¬ (n ≤ j) := fun q9 => h11 ((nI_leI (a := n) (b := j) (by omega) (by omega)).mpr q9)
        refine lv_lload_n hx hb dd_Problem_weigh_14 rfl (lv_at hl 3 rfl) ?_
        refine lv_aload_n hx hb dd_Problem_weigh_15 rfl (lv_at hl 1 rfl) ?_
        refine lv_iload hx hb dd_Problem_weigh_16 (lv_at hl 4 rfl) ?_
        refine mm_iald hx hb hK hP 1 0 rfl rfl (j) (rfl) (by omega) (by decide) dd_Problem_weigh_18 ?_
        refine lv_i2l (v := (row j).toInt64) hx hb dd_Problem_weigh_19 rfl ?_
        refine lv_aload_n hx hb dd_Problem_weigh_20 rfl (lv_at hl 2 rfl) ?_
        refine lv_iload hx hb dd_Problem_weigh_21 (lv_at hl 4 rfl) ?_
        refine mm_iald hx hb hK hP 2 0 rfl rfl (j) (rfl) (by omega) (by decide) dd_Problem_weigh_23 ?_
        refine lv_i2l (v := (x j).toInt64) hx hb dd_Problem_weigh_24 rfl ?_
        refine lv_lmul hx hb dd_Problem_weigh_25 ?_
        refine lv_ladd hx hb dd_Problem_weigh_26 ?_
        refine lv_lstore_n (lv' := [(3, .long ((wg_sum row x j) + (((row j).toInt64) * ((x j).toInt64)))), (0, .ref a), (1, .ref ar), (2, .ref ax), (5, .int (nI j))]) hx hb dd_Problem_weigh_27 rfl hl (by decide) rfl (fun ls hl => ?_)
        refine lv_iinc (k := 4) (v := nI (j + 1)) (lv' := [(5, .int (nI (j + 1))), (3, .long ((wg_sum row x j) + (((row j).toInt64) * ((x j).toInt64)))), (0, .ref a), (1, .ref ar), (2, .ref ax)]) hx hb dd_Problem_weigh_28 hl rfl (nI_1 _) (by decide) rfl (fun ls hl => ?_)
        refine lv_goto (tgt := 5) hx hb dd_Problem_weigh_31 (by decide) ?_
        exact IH5 (j + 1) (by omega) (by omega) ls H locs (lv_sub hl [2, 3, 4, 1, 0] rfl) hP hD hS
  exact J5 _ 0 (Nat.lt_succ_self _) (by omega) ls _ _ (lv_sub hl [2, 3, 4, 1, 0] rfl) hP hD hS
abbrev qq_Problem_weighR (D : va_G) (cI cZ cL cQ : ClassId) (a : Nat) (al : Nat) (am : Nat) (aw : Nat) (ac : Nat) (ag : Nat) (ab : Nat) (n : Nat) (k : Nat) (i : Nat) (ax : Nat) (rw : Nat → Nat) (M : Nat → Nat → Int32) (x : Nat → Int32) (A : Nat → Prop) : Array Value → State → Outcome → State → Prop := va_Ql (fun (r : Int64) (u : Unit) => r = wg_sum (M i) x n) (fun (u : Unit) t => mm_B D kc_all [(cI, .int), (cZ, .boolean), (cL, .long), (cQ, .array .int)] A [(a, .inr (0, [.int (nI n), .int (nI k), .ref al, .ref am, .ref aw, .ref ac, .ref ag, .ref ab])), (rw 0, .inl (cI, 4, .inl (M 0))), (rw 1, .inl (cI, 4, .inl (M 1))), (rw 2, .inl (cI, 4, .inl (M 2))), (rw 3, .inl (cI, 4, .inl (M 3))), (rw 4, .inl (cI, 4, .inl (M 4))), (rw 5, .inl (cI, 4, .inl (M 5))), (ax, .inl (cI, 4, .inl x))] t) A
set_option maxHeartbeats 4000000 in
set_option maxRecDepth 100000 in
theorem cc_Problem_weighR (l : Launch) (D : va_G) (cI cZ cL cQ : ClassId) (sz : Nat) (a : Nat) (al : Nat) (am : Nat) (aw : Nat) (ac : Nat) (ag : Nat) (ab : Nat) (n : Nat) (k : Nat) (i : Nat) (ax : Nat) (rw : Nat → Nat) (M : Nat → Nat → Int32) (x : Nat → Int32) (hn : n ≤ 4) (hi : i < 6) : Met l yy_Problem_weigh ww_Problem_weigh ({ frames := 0, cells := 0, slots := 0, locals := 0 } : Room) (mm_Pc D kc_all [(cI, .int), (cZ, .boolean), (cL, .long), (cQ, .array .int)] sz [(a, .inr (0, [.int (nI n), .int (nI k), .ref al, .ref am, .ref aw, .ref ac, .ref ag, .ref ab])), (rw 0, .inl (cI, 4, .inl (M 0))), (rw 1, .inl (cI, 4, .inl (M 1))), (rw 2, .inl (cI, 4, .inl (M 2))), (rw 3, .inl (cI, 4, .inl (M 3))), (rw 4, .inl (cI, 4, .inl (M 4))), (rw 5, .inl (cI, 4, .inl (M 5))), (ax, .inl (cI, 4, .inl x))] [.ref a, .ref (rw i), .ref ax]) (qq_Problem_weighR D cI cZ cL cQ a al am aw ac ag ab n k i ax rw M x (va_A [(a, .inr (0, [.int (nI n), .int (nI k), .ref al, .ref am, .ref aw, .ref ac, .ref ag, .ref ab])), (rw 0, .inl (cI, 4, .inl (M 0))), (rw 1, .inl (cI, 4, .inl (M 1))), (rw 2, .inl (cI, 4, .inl (M 2))), (rw 3, .inl (cI, 4, .inl (M 3))), (rw 4, .inl (cI, 4, .inl (M 4))), (rw 5, .inl (cI, 4, .inl (M 5))), (ax, .inl (cI, 4, .inl x))] sz)) 0 0 (va_A [(a, .inr (0, [.int (nI n), .int (nI k), .ref al, .ref am, .ref aw, .ref ac, .ref ag, .ref ab])), (rw 0, .inl (cI, 4, .inl (M 0))), (rw 1, .inl (cI, 4, .inl (M 1))), (rw 2, .inl (cI, 4, .inl (M 2))), (rw 3, .inl (cI, 4, .inl (M 3))), (rw 4, .inl (cI, 4, .inl (M 4))), (rw 5, .inl (cI, 4, .inl (M 5))), (ax, .inl (cI, 4, .inl x))] sz) := by
  refine Met.ofW (cc := bb_Problem_weigh) (maxL := 6) (ret := (some .long)) (by decide) rfl ?_
  intro p e s m args below meth c s₁ B hml hv
  obtain ⟨rfl, hsz, hP, hK, hD0⟩ := hv
  have hx := B.exec
  have hb := B.bytes
  have hr := B.returns
  have hts := atoms_spec (ws := ww_Problem_weigh) B.pre
  have hown : s.vm.findClass RR_Problem = some m.cls := findClass_of_methodNamed B.named
  have hlocks := B.notSynchronized
  subst hsz
  have hD := hD0.self (sz := s.heap.size)
  generalize hAe : va_A [(a, .inr (0, [.int (nI n), .int (nI k), .ref al, .ref am, .ref aw, .ref ac, .ref ag, .ref ab])), (rw 0, .inl (cI, 4, .inl (M 0))), (rw 1, .inl (cI, 4, .inl (M 1))), (rw 2, .inl (cI, 4, .inl (M 2))), (rw 3, .inl (cI, 4, .inl (M 3))), (rw 4, .inl (cI, 4, .inl (M 4))), (rw 5, .inl (cI, 4, .inl (M 5))), (ax, .inl (cI, 4, .inl x))] s.heap.size = A at hD ⊢
  have hA : ∀ q : Nat, s.heap.size ≤ q → A q := fun q h => by rw [← hAe]; exact Or.inr h
  have hS : va_S A s.heap s.heap [] := va_S.rf
  have hP : va_P D kc_all [(a, .inr (0, [.int (nI n), .int (nI k), .ref al, .ref am, .ref aw, .ref ac, .ref ag, .ref ab])), (rw 0, .inl (cI, 4, .inl (M 0))), (rw 1, .inl (cI, 4, .inl (M 1))), (rw 2, .inl (cI, 4, .inl (M 2))), (rw 3, .inl (cI, 4, .inl (M 3))), (rw 4, .inl (cI, 4, .inl (M 4))), (rw 5, .inl (cI, 4, .inl (M 5))), (ax, .inl (cI, 4, .inl x))] s.heap := hP
  have hl := lv_entry ([.ref a, .ref (rw i), .ref ax]) (n := 6) (Nat.le_of_ble_eq_true rfl)
  rw [lg_entry_eq]
  generalize (lg_sl ([.ref a, .ref (rw i), .ref ax]) ++ List.replicate (6 - (lg_sl ([.ref a, .ref (rw i), .ref ax])).length) Slot.unset).toArray = ls at hl ⊢
  have hl : lv_has ls 6 [(0, .ref a), (1, .ref (rw i)), (2, .ref ax)] := hl
  have htb : ∀ w ∈ tb_all, w.before ([.ref a, .ref (rw i), .ref ax]).toArray s = true := fun w h => hts w (List.mem_cons_of_mem _ h)
  have hf_9 := htb _ fl_Problem_9
  refine lv_lconst (v := 0) hx hb dd_Problem_weigh_0 (by decide) ?_
  refine lv_lstore_n (lv' := [(3, .long (0 : Int64)), (0, .ref a), (1, .ref (rw i)), (2, .ref ax)]) hx hb dd_Problem_weigh_1 rfl hl (by decide) rfl (fun ls hl => ?_)
  refine lv_iconst (v := 0) hx hb dd_Problem_weigh_2 (by decide) ?_
  refine lv_istore (lv' := [(5, .int (0 : Int32)), (3, .long (0 : Int64)), (0, .ref a), (1, .ref (rw i)), (2, .ref ax)]) hx hb dd_Problem_weigh_3 hl (by decide) rfl (fun ls hl => ?_)
  have J5 : ∀ (N : Nat) (j : Nat), (n - j) < N → ∀ (hj : j ≤ n), ∀ (ls : Array Slot) (H : Heap) (locs : List Loc), lv_has ls 6 [(0, .ref a), (1, .ref (rw i)), (2, .ref ax), (3, .long (wg_sum (M i) x j)), (5, .int (nI j))] → va_P D kc_all [(a, .inr (0, [.int (nI n), .int (nI k), .ref al, .ref am, .ref aw, .ref ac, .ref ag, .ref ab])), (rw 0, .inl (cI, 4, .inl (M 0))), (rw 1, .inl (cI, 4, .inl (M 1))), (rw 2, .inl (cI, 4, .inl (M 2))), (rw 3, .inl (cI, 4, .inl (M 3))), (rw 4, .inl (cI, 4, .inl (M 4))), (rw 5, .inl (cI, 4, .inl (M 5))), (ax, .inl (cI, 4, .inl x))] H → va_D A [(a, .inr (0, [.int (nI n), .int (nI k), .ref al, .ref am, .ref aw, .ref ac, .ref ag, .ref ab])), (rw 0, .inl (cI, 4, .inl (M 0))), (rw 1, .inl (cI, 4, .inl (M 1))), (rw 2, .inl (cI, 4, .inl (M 2))), (rw 3, .inl (cI, 4, .inl (M 3))), (rw 4, .inl (cI, 4, .inl (M 4))), (rw 5, .inl (cI, 4, .inl (M 5))), (ax, .inl (cI, 4, .inl x))] → va_S A s.heap H locs → W p l e (headSpec ww_Problem_weigh ({ frames := 0, cells := 0, slots := 0, locals := 0 } : Room)).room s m ([.ref a, .ref (rw i), .ref ax]).toArray below meth c H locs 0 0 (MQ below (qq_Problem_weighR D cI cZ cL cQ a al am aw ac ag ab n k i ax rw M x A) ([.ref a, .ref (rw i), .ref ax]).toArray s 0 0 A) (F0 m 5 ls []) := by
    intro N
    induction N with
    | zero => intro j hN9; exact absurd hN9 (Nat.not_lt_zero _)
    | succ N IH5 =>
      intro j hN9 hj ls H locs hl hP hD hS
      refine lv_iload hx hb dd_Problem_weigh_5 (lv_at hl 4 rfl) ?_
      refine lv_aload_n hx hb dd_Problem_weigh_7 rfl (lv_at hl 0 rfl) ?_
      refine va_get (D := D) (ci := 0) (v := .int (nI n)) (C := RR_Problem) (T := FF_Problem) (N := 8) hx hb htb hi_Problem hown hK hP 0 rfl rfl 0 (by decide) hf_9 (fun _ h9 => h9) rfl dd_Problem_weigh_8 ?_
      refine lv_icmp_ge (tgt := 34) hx hb dd_Problem_weigh_11 (by decide) (fun h11 => ?_) (fun h11 => ?_)
      · skip
        have h11 : n ≤ j := (nI_leI (a := n) (b := j) (by omega) (by omega)).mp h11
        refine lv_lload_n hx hb dd_Problem_weigh_34 rfl (lv_at hl 3 rfl) ?_
        exact W.lret (v := (wg_sum (M i) x j)) hx hb hr (fun t ht hW => ⟨⟨wg_sum (M i) x j, (), rfl, by rw [show n = j by omega], by rw [ht]; exact hP, va_K.moved hW.alike hK, hD⟩, hS.F ht⟩) hS.2.2 dd_Problem_weigh_35
      · skip
        have h11 : ¬ (n ≤ j) := fun q9 => h11 ((nI_leI (a := n) (b := j) (by omega) (by omega)).mpr q9)
        refine lv_lload_n hx hb dd_Problem_weigh_14 rfl (lv_at hl 3 rfl) ?_
        refine lv_aload_n hx hb dd_Problem_weigh_15 rfl (lv_at hl 1 rfl) ?_
        refine lv_iload hx hb dd_Problem_weigh_16 (lv_at hl 4 rfl) ?_
        refine mm_iald hx hb hK hP (1 + (i)) 0 (f := M i) (mm_r6 (P := fun i9 => ([(a, .inr (0, [.int (nI n), .int (nI k), .ref al, .ref am, .ref aw, .ref ac, .ref ag, .ref ab])), (rw 0, .inl (cI, 4, .inl (M 0))), (rw 1, .inl (cI, 4, .inl (M 1))), (rw 2, .inl (cI, 4, .inl (M 2))), (rw 3, .inl (cI, 4, .inl (M 3))), (rw 4, .inl (cI, 4, .inl (M 4))), (rw 5, .inl (cI, 4, .inl (M 5))), (ax, .inl (cI, 4, .inl x))] : va_W)[1 + i9]? = some (rw i9, .inl (cI, 4, .inl (M i9)))) (by omega) rfl rfl rfl rfl rfl rfl) rfl (j) (rfl) (by omega) (by decide) dd_Problem_weigh_18 ?_
        refine lv_i2l (v := (M i j).toInt64) hx hb dd_Problem_weigh_19 rfl ?_
        refine lv_aload_n hx hb dd_Problem_weigh_20 rfl (lv_at hl 2 rfl) ?_
        refine lv_iload hx hb dd_Problem_weigh_21 (lv_at hl 4 rfl) ?_
        refine mm_iald hx hb hK hP 7 0 rfl rfl (j) (rfl) (by omega) (by decide) dd_Problem_weigh_23 ?_
        refine lv_i2l (v := (x j).toInt64) hx hb dd_Problem_weigh_24 rfl ?_
        refine lv_lmul hx hb dd_Problem_weigh_25 ?_
        refine lv_ladd hx hb dd_Problem_weigh_26 ?_
        refine lv_lstore_n (lv' := [(3, .long ((wg_sum (M i) x j) + (((M i j).toInt64) * ((x j).toInt64)))), (0, .ref a), (1, .ref (rw i)), (2, .ref ax), (5, .int (nI j))]) hx hb dd_Problem_weigh_27 rfl hl (by decide) rfl (fun ls hl => ?_)
        refine lv_iinc (k := 4) (v := nI (j + 1)) (lv' := [(5, .int (nI (j + 1))), (3, .long ((wg_sum (M i) x j) + (((M i j).toInt64) * ((x j).toInt64)))), (0, .ref a), (1, .ref (rw i)), (2, .ref ax)]) hx hb dd_Problem_weigh_28 hl rfl (nI_1 _) (by decide) rfl (fun ls hl => ?_)
        refine lv_goto (tgt := 5) hx hb dd_Problem_weigh_31 (by decide) ?_
        exact IH5 (j + 1) (by omega) (by omega) ls H locs (lv_sub hl [2, 3, 4, 1, 0] rfl) hP hD hS
  exact J5 _ 0 (Nat.lt_succ_self _) (by omega) ls _ _ (lv_sub hl [2, 3, 4, 1, 0] rfl) hP hD hS
abbrev qq_Problem_begin (D : va_G) (cI cZ cL cQ : ClassId) (a : Nat) (al : Nat) (am : Nat) (aw : Nat) (ac : Nat) (ag : Nat) (ab : Nat) (n0 : Int32) (k0 : Int32) (n : Nat) (mo : Int32) (lo : Nat → Int32) (hi : Nat → Int32) (wh : Nat → Int32) (co : Nat → Int32) (A : Nat → Prop) : Array Value → State → Outcome → State → Prop := va_Qv (fun u : (Nat → Int32) × (Nat → Int32) × (Nat → Int32) × (Nat → Int32) => ∀ j9, j9 < 4 → u.1 j9 = 0 ∧ u.2.1 j9 = mo ∧ u.2.2.1 j9 = 1 ∧ u.2.2.2 j9 = 0) (fun (u : (Nat → Int32) × (Nat → Int32) × (Nat → Int32) × (Nat → Int32)) t => mm_B D kc_all [(cI, .int), (cZ, .boolean), (cL, .long), (cQ, .array .int)] A [(a, .inr (0, [.int (nI n), .int (nI 0), .ref al, .ref am, .ref aw, .ref ac, .ref ag, .ref ab])), (al, .inl (cI, 4, .inl u.1)), (am, .inl (cI, 4, .inl u.2.1)), (aw, .inl (cZ, 4, .inl u.2.2.1)), (ac, .inl (cI, 4, .inl u.2.2.2))] t) A
set_option maxHeartbeats 4000000 in
set_option maxRecDepth 100000 in
theorem cc_Problem_begin (l : Launch) (D : va_G) (cI cZ cL cQ : ClassId) (sz : Nat) (a : Nat) (al : Nat) (am : Nat) (aw : Nat) (ac : Nat) (ag : Nat) (ab : Nat) (n0 : Int32) (k0 : Int32) (n : Nat) (mo : Int32) (lo : Nat → Int32) (hi : Nat → Int32) (wh : Nat → Int32) (co : Nat → Int32)  : Met l yy_Problem_begin ww_Problem_begin ({ frames := 0, cells := 0, slots := 0, locals := 0 } : Room) (mm_Pc D kc_all [(cI, .int), (cZ, .boolean), (cL, .long), (cQ, .array .int)] sz [(a, .inr (0, [.int n0, .int k0, .ref al, .ref am, .ref aw, .ref ac, .ref ag, .ref ab])), (al, .inl (cI, 4, .inl lo)), (am, .inl (cI, 4, .inl hi)), (aw, .inl (cZ, 4, .inl wh)), (ac, .inl (cI, 4, .inl co))] [.ref a, .int (nI n), .int mo]) (qq_Problem_begin D cI cZ cL cQ a al am aw ac ag ab n0 k0 n mo lo hi wh co (va_A [(a, .inr (0, [.int n0, .int k0, .ref al, .ref am, .ref aw, .ref ac, .ref ag, .ref ab])), (al, .inl (cI, 4, .inl lo)), (am, .inl (cI, 4, .inl hi)), (aw, .inl (cZ, 4, .inl wh)), (ac, .inl (cI, 4, .inl co))] sz)) 0 0 (va_A [(a, .inr (0, [.int n0, .int k0, .ref al, .ref am, .ref aw, .ref ac, .ref ag, .ref ab])), (al, .inl (cI, 4, .inl lo)), (am, .inl (cI, 4, .inl hi)), (aw, .inl (cZ, 4, .inl wh)), (ac, .inl (cI, 4, .inl co))] sz) := by
  refine Met.ofW (cc := bb_Problem_begin) (maxL := 4) (ret := none) (by decide) rfl ?_
  intro p e s m args below meth c s₁ B hml hv
  obtain ⟨rfl, hsz, hP, hK, hD0⟩ := hv
  have hx := B.exec
  have hb := B.bytes
  have hr := B.returns
  have hts := atoms_spec (ws := ww_Problem_begin) B.pre
  have hown : s.vm.findClass RR_Problem = some m.cls := findClass_of_methodNamed B.named
  have hlocks := B.notSynchronized
  subst hsz
  have hD := hD0.self (sz := s.heap.size)
  generalize hAe : va_A [(a, .inr (0, [.int n0, .int k0, .ref al, .ref am, .ref aw, .ref ac, .ref ag, .ref ab])), (al, .inl (cI, 4, .inl lo)), (am, .inl (cI, 4, .inl hi)), (aw, .inl (cZ, 4, .inl wh)), (ac, .inl (cI, 4, .inl co))] s.heap.size = A at hD ⊢
  have hA : ∀ q : Nat, s.heap.size ≤ q → A q := fun q h => by rw [← hAe]; exact Or.inr h
  have hS : va_S A s.heap s.heap [] := va_S.rf
  have hP : va_P D kc_all [(a, .inr (0, [.int n0, .int k0, .ref al, .ref am, .ref aw, .ref ac, .ref ag, .ref ab])), (al, .inl (cI, 4, .inl lo)), (am, .inl (cI, 4, .inl hi)), (aw, .inl (cZ, 4, .inl wh)), (ac, .inl (cI, 4, .inl co))] s.heap := hP
  have hl := lv_entry ([.ref a, .int (nI n), .int mo]) (n := 4) (Nat.le_of_ble_eq_true rfl)
  rw [lg_entry_eq]
  generalize (lg_sl ([.ref a, .int (nI n), .int mo]) ++ List.replicate (4 - (lg_sl ([.ref a, .int (nI n), .int mo])).length) Slot.unset).toArray = ls at hl ⊢
  have hl : lv_has ls 4 [(0, .ref a), (1, .int (nI n)), (2, .int mo)] := hl
  have htb : ∀ w ∈ tb_all, w.before ([.ref a, .int (nI n), .int mo]).toArray s = true := fun w h => hts w (List.mem_cons_of_mem _ h)
  have hf_9 := htb _ fl_Problem_9
  have hf_15 := htb _ fl_Problem_15
  have hf_18 := htb _ fl_Problem_18
  have hf_22 := htb _ fl_Problem_22
  have hf_25 := htb _ fl_Problem_25
  have hf_29 := htb _ fl_Problem_29
  refine lv_aload_n hx hb dd_Problem_begin_0 rfl (lv_at hl 0 rfl) ?_
  refine lv_iload_n hx hb dd_Problem_begin_1 rfl (lv_at hl 1 rfl) ?_
  refine va_put (D := D) (ci := 0) (v := .int (nI n)) (ty := .int) (C := RR_Problem) (T := FF_Problem) (N := 8) hx hb htb hi_Problem tt_Problem tt_Problem_ok nn_Problem hown hK hP hD hS 0 rfl rfl 0 (by decide) hf_9 (fun _ h9 => h9) rfl (by decide +kernel) (rfl) (rfl) (Nat.le_of_ble_eq_true rfl) dd_Problem_begin_2 (fun H locs hP hD hS => ?_)
  have hP : va_P D kc_all [(a, .inr (0, [.int (nI n), .int k0, .ref al, .ref am, .ref aw, .ref ac, .ref ag, .ref ab])), (al, .inl (cI, 4, .inl lo)), (am, .inl (cI, 4, .inl hi)), (aw, .inl (cZ, 4, .inl wh)), (ac, .inl (cI, 4, .inl co))] H := hP
  have hD : va_D A [(a, .inr (0, [.int (nI n), .int k0, .ref al, .ref am, .ref aw, .ref ac, .ref ag, .ref ab])), (al, .inl (cI, 4, .inl lo)), (am, .inl (cI, 4, .inl hi)), (aw, .inl (cZ, 4, .inl wh)), (ac, .inl (cI, 4, .inl co))] := hD
  refine lv_aload_n hx hb dd_Problem_begin_5 rfl (lv_at hl 0 rfl) ?_
  refine lv_iconst (v := 0) hx hb dd_Problem_begin_6 (by decide) ?_
  refine va_put (D := D) (ci := 0) (v := .int (0 : Int32)) (ty := .int) (C := RR_Problem) (T := FF_Problem) (N := 8) hx hb htb hi_Problem tt_Problem tt_Problem_ok nn_Problem hown hK hP hD hS 0 rfl rfl 1 (by decide) hf_15 (fun _ h9 => h9) rfl (by decide +kernel) (rfl) (rfl) (Nat.le_of_ble_eq_true rfl) dd_Problem_begin_7 (fun H locs hP hD hS => ?_)
  have hP : va_P D kc_all [(a, .inr (0, [.int (nI n), .int (0 : Int32), .ref al, .ref am, .ref aw, .ref ac, .ref ag, .ref ab])), (al, .inl (cI, 4, .inl lo)), (am, .inl (cI, 4, .inl hi)), (aw, .inl (cZ, 4, .inl wh)), (ac, .inl (cI, 4, .inl co))] H := hP
  have hD : va_D A [(a, .inr (0, [.int (nI n), .int (0 : Int32), .ref al, .ref am, .ref aw, .ref ac, .ref ag, .ref ab])), (al, .inl (cI, 4, .inl lo)), (am, .inl (cI, 4, .inl hi)), (aw, .inl (cZ, 4, .inl wh)), (ac, .inl (cI, 4, .inl co))] := hD
  refine lv_iconst (v := 0) hx hb dd_Problem_begin_10 (by decide) ?_
  refine lv_istore_n (lv' := [(3, .int (0 : Int32)), (0, .ref a), (1, .int (nI n)), (2, .int mo)]) hx hb dd_Problem_begin_11 rfl hl (by decide) rfl (fun ls hl => ?_)
  have J12 : ∀ (N : Nat) (j : Nat) (lo1 : Nat → Int32) (hi1 : Nat → Int32) (wh1 : Nat → Int32) (co1 : Nat → Int32), (4 - j) < N → ∀ (hj : j ≤ 4) (hv : ∀ j9, j9 < j → lo1 j9 = 0 ∧ hi1 j9 = mo ∧ wh1 j9 = 1 ∧ co1 j9 = 0), ∀ (ls : Array Slot) (H : Heap) (locs : List Loc), lv_has ls 4 [(0, .ref a), (1, .int (nI n)), (2, .int mo), (3, .int (nI j))] → va_P D kc_all [(a, .inr (0, [.int (nI n), .int (nI 0), .ref al, .ref am, .ref aw, .ref ac, .ref ag, .ref ab])), (al, .inl (cI, 4, .inl lo1)), (am, .inl (cI, 4, .inl hi1)), (aw, .inl (cZ, 4, .inl wh1)), (ac, .inl (cI, 4, .inl co1))] H → va_D A [(a, .inr (0, [.int (nI n), .int (nI 0), .ref al, .ref am, .ref aw, .ref ac, .ref ag, .ref ab])), (al, .inl (cI, 4, .inl lo1)), (am, .inl (cI, 4, .inl hi1)), (aw, .inl (cZ, 4, .inl wh1)), (ac, .inl (cI, 4, .inl co1))] → va_S A s.heap H locs → W p l e (headSpec ww_Problem_begin ({ frames := 0, cells := 0, slots := 0, locals := 0 } : Room)).room s m ([.ref a, .int (nI n), .int mo]).toArray below meth c H locs 0 0 (MQ below (qq_Problem_begin D cI cZ cL cQ a al am aw ac ag ab n0 k0 n mo lo hi wh co A) ([.ref a, .int (nI n), .int mo]).toArray s 0 0 A) (F0 m 12 ls []) := by
    intro N
    induction N with
    | zero => intro j lo1 hi1 wh1 co1 hN9; exact absurd hN9 (Nat.not_lt_zero _)
    | succ N IH12 =>
      intro j lo1 hi1 wh1 co1 hN9 hj hv ls H locs hl hP hD hS
      refine lv_iload_n hx hb dd_Problem_begin_12 rfl (lv_at hl 3 rfl) ?_
      refine lv_iconst (v := 4) hx hb dd_Problem_begin_13 (by decide) ?_
      refine lv_icmp_ge (tgt := 51) hx hb dd_Problem_begin_14 (by decide) (fun h14 => ?_) (fun h14 => ?_)
      · skip
        have h14 : 4 ≤ j := (nI_leI (a := 4) (b := j) (by omega) (by omega)).mp h14
        exact W.vret hx hb hr (fun t ht hW => ⟨⟨(lo1, hi1, wh1, co1), rfl, fun j9 h9 => hv j9 (by omega), by rw [ht]; exact hP, va_K.moved hW.alike hK, hD⟩, hS.F ht⟩) hS.2.2 dd_Problem_begin_51
      · skip
        have h14 : ¬ (4 ≤ j) := fun q9 => h14 ((nI_leI (a := 4) (b := j) (by omega) (by omega)).mpr q9)
        refine lv_aload_n hx hb dd_Problem_begin_17 rfl (lv_at hl 0 rfl) ?_
        refine va_get (D := D) (ci := 0) (v := .ref al) (C := RR_Problem) (T := FF_Problem) (N := 8) hx hb htb hi_Problem hown hK hP 0 rfl rfl 2 (by decide) hf_18 (fun _ h9 => h9) rfl dd_Problem_begin_18 ?_
        refine lv_iload_n hx hb dd_Problem_begin_21 rfl (lv_at hl 3 rfl) ?_
        refine lv_iconst (v := 0) hx hb dd_Problem_begin_22 (by decide) ?_
        refine mm_iast hx hb hK hP hD hS 1 0 rfl rfl (j) (rfl) (by omega) (by decide) dd_Problem_begin_23 (fun H locs hP hD hS => ?_)
        have hP : va_P D kc_all [(a, .inr (0, [.int (nI n), .int (nI 0), .ref al, .ref am, .ref aw, .ref ac, .ref ag, .ref ab])), (al, .inl (cI, 4, .inl (upd lo1 j (0 : Int32)))), (am, .inl (cI, 4, .inl hi1)), (aw, .inl (cZ, 4, .inl wh1)), (ac, .inl (cI, 4, .inl co1))] H := hP
        have hD : va_D A [(a, .inr (0, [.int (nI n), .int (nI 0), .ref al, .ref am, .ref aw, .ref ac, .ref ag, .ref ab])), (al, .inl (cI, 4, .inl (upd lo1 j (0 : Int32)))), (am, .inl (cI, 4, .inl hi1)), (aw, .inl (cZ, 4, .inl wh1)), (ac, .inl (cI, 4, .inl co1))] := hD
        refine lv_aload_n hx hb dd_Problem_begin_24 rfl (lv_at hl 0 rfl) ?_
        refine va_get (D := D) (ci := 0) (v := .ref am) (C := RR_Problem) (T := FF_Problem) (N := 8) hx hb htb hi_Problem hown hK hP 0 rfl rfl 3 (by decide) hf_22 (fun _ h9 => h9) rfl dd_Problem_begin_25 ?_
        refine lv_iload_n hx hb dd_Problem_begin_28 rfl (lv_at hl 3 rfl) ?_
        refine lv_iload_n hx hb dd_Problem_begin_29 rfl (lv_at hl 2 rfl) ?_
        refine mm_iast hx hb hK hP hD hS 2 0 rfl rfl (j) (rfl) (by omega) (by decide) dd_Problem_begin_30 (fun H locs hP hD hS => ?_)
        have hP : va_P D kc_all [(a, .inr (0, [.int (nI n), .int (nI 0), .ref al, .ref am, .ref aw, .ref ac, .ref ag, .ref ab])), (al, .inl (cI, 4, .inl (upd lo1 j (0 : Int32)))), (am, .inl (cI, 4, .inl (upd hi1 j mo))), (aw, .inl (cZ, 4, .inl wh1)), (ac, .inl (cI, 4, .inl co1))] H := hP
        have hD : va_D A [(a, .inr (0, [.int (nI n), .int (nI 0), .ref al, .ref am, .ref aw, .ref ac, .ref ag, .ref ab])), (al, .inl (cI, 4, .inl (upd lo1 j (0 : Int32)))), (am, .inl (cI, 4, .inl (upd hi1 j mo))), (aw, .inl (cZ, 4, .inl wh1)), (ac, .inl (cI, 4, .inl co1))] := hD
        refine lv_aload_n hx hb dd_Problem_begin_31 rfl (lv_at hl 0 rfl) ?_
        refine va_get (D := D) (ci := 0) (v := .ref aw) (C := RR_Problem) (T := FF_Problem) (N := 8) hx hb htb hi_Problem hown hK hP 0 rfl rfl 4 (by decide) hf_25 (fun _ h9 => h9) rfl dd_Problem_begin_32 ?_
        refine lv_iload_n hx hb dd_Problem_begin_35 rfl (lv_at hl 3 rfl) ?_
        refine lv_iconst (v := 1) hx hb dd_Problem_begin_36 (by decide) ?_
        refine mm_zast hx hb hK hP hD hS 3 1 rfl rfl (j) (rfl) (by omega) (by decide) (by decide) dd_Problem_begin_37 (fun H locs hP hD hS => ?_)
        have hP : va_P D kc_all [(a, .inr (0, [.int (nI n), .int (nI 0), .ref al, .ref am, .ref aw, .ref ac, .ref ag, .ref ab])), (al, .inl (cI, 4, .inl (upd lo1 j (0 : Int32)))), (am, .inl (cI, 4, .inl (upd hi1 j mo))), (aw, .inl (cZ, 4, .inl (upd wh1 j (1 : Int32)))), (ac, .inl (cI, 4, .inl co1))] H := hP
        have hD : va_D A [(a, .inr (0, [.int (nI n), .int (nI 0), .ref al, .ref am, .ref aw, .ref ac, .ref ag, .ref ab])), (al, .inl (cI, 4, .inl (upd lo1 j (0 : Int32)))), (am, .inl (cI, 4, .inl (upd hi1 j mo))), (aw, .inl (cZ, 4, .inl (upd wh1 j (1 : Int32)))), (ac, .inl (cI, 4, .inl co1))] := hD
        refine lv_aload_n hx hb dd_Problem_begin_38 rfl (lv_at hl 0 rfl) ?_
        refine va_get (D := D) (ci := 0) (v := .ref ac) (C := RR_Problem) (T := FF_Problem) (N := 8) hx hb htb hi_Problem hown hK hP 0 rfl rfl 5 (by decide) hf_29 (fun _ h9 => h9) rfl dd_Problem_begin_39 ?_
        refine lv_iload_n hx hb dd_Problem_begin_42 rfl (lv_at hl 3 rfl) ?_
        refine lv_iconst (v := 0) hx hb dd_Problem_begin_43 (by decide) ?_
        refine mm_iast hx hb hK hP hD hS 4 0 rfl rfl (j) (rfl) (by omega) (by decide) dd_Problem_begin_44 (fun H locs hP hD hS => ?_)
        have hP : va_P D kc_all [(a, .inr (0, [.int (nI n), .int (nI 0), .ref al, .ref am, .ref aw, .ref ac, .ref ag, .ref ab])), (al, .inl (cI, 4, .inl (upd lo1 j (0 : Int32)))), (am, .inl (cI, 4, .inl (upd hi1 j mo))), (aw, .inl (cZ, 4, .inl (upd wh1 j (1 : Int32)))), (ac, .inl (cI, 4, .inl (upd co1 j (0 : Int32))))] H := hP
        have hD : va_D A [(a, .inr (0, [.int (nI n), .int (nI 0), .ref al, .ref am, .ref aw, .ref ac, .ref ag, .ref ab])), (al, .inl (cI, 4, .inl (upd lo1 j (0 : Int32)))), (am, .inl (cI, 4, .inl (upd hi1 j mo))), (aw, .inl (cZ, 4, .inl (upd wh1 j (1 : Int32)))), (ac, .inl (cI, 4, .inl (upd co1 j (0 : Int32))))] := hD
        refine lv_iinc (k := 3) (v := nI (j + 1)) (lv' := [(3, .int (nI (j + 1))), (0, .ref a), (1, .int (nI n)), (2, .int mo)]) hx hb dd_Problem_begin_45 hl rfl (nI_1 _) (by decide) rfl (fun ls hl => ?_)
        refine lv_goto (tgt := 12) hx hb dd_Problem_begin_48 (by decide) ?_
        exact IH12 (j + 1) (upd lo1 j (0 : Int32)) (upd hi1 j mo) (upd wh1 j (1 : Int32)) (upd co1 j (0 : Int32)) (by omega) (by omega) (bg_step hv) ls H locs (lv_sub hl [1, 2, 3, 0] rfl) hP hD hS
  exact J12 _ 0 lo hi wh co (Nat.lt_succ_self _) (by omega) (fun _ h => absurd h (Nat.not_lt_zero _)) ls H locs (lv_sub hl [1, 2, 3, 0] rfl) hP hD hS
abbrev qq_Problem_setLimit (D : va_G) (cI cZ cL cQ : ClassId) (a : Nat) (al : Nat) (am : Nat) (aw : Nat) (ac : Nat) (ag : Nat) (ab : Nat) (n : Nat) (k : Nat) (i : Nat) (ar : Nat) (bo : Int32) (rw : Nat → Nat) (M : Nat → Nat → Int32) (bd : Nat → Int32) (row : Nat → Int32) (A : Nat → Prop) : Array Value → State → Outcome → State → Prop := va_Qv (fun u : (Nat → Nat → Int32) => ∀ a9 c9, c9 < 4 → u a9 c9 = if a9 = i then row c9 else M a9 c9) (fun (u : (Nat → Nat → Int32)) t => mm_B D kc_all [(cI, .int), (cZ, .boolean), (cL, .long), (cQ, .array .int)] A [(a, .inr (0, [.int (nI n), .int (nI k), .ref al, .ref am, .ref aw, .ref ac, .ref ag, .ref ab])), (ag, .inl (cQ, 6, .inr (.inr (.inr (.inr (fun i9 => some (rw i9))))))), (rw 0, .inl (cI, 4, .inl (u 0))), (rw 1, .inl (cI, 4, .inl (u 1))), (rw 2, .inl (cI, 4, .inl (u 2))), (rw 3, .inl (cI, 4, .inl (u 3))), (rw 4, .inl (cI, 4, .inl (u 4))), (rw 5, .inl (cI, 4, .inl (u 5))), (ab, .inl (cI, 6, .inl (upd bd i bo))), (ar, .inl (cI, 4, .inl row))] t) A
set_option maxHeartbeats 4000000 in
set_option maxRecDepth 100000 in
theorem cc_Problem_setLimit (l : Launch) (D : va_G) (cI cZ cL cQ : ClassId) (sz : Nat) (a : Nat) (al : Nat) (am : Nat) (aw : Nat) (ac : Nat) (ag : Nat) (ab : Nat) (n : Nat) (k : Nat) (i : Nat) (ar : Nat) (bo : Int32) (rw : Nat → Nat) (M : Nat → Nat → Int32) (bd : Nat → Int32) (row : Nat → Int32) (hi : i < 6) : Met l yy_Problem_setLimit ww_Problem_setLimit ({ frames := 0, cells := 0, slots := 0, locals := 0 } : Room) (mm_Pc D kc_all [(cI, .int), (cZ, .boolean), (cL, .long), (cQ, .array .int)] sz [(a, .inr (0, [.int (nI n), .int (nI k), .ref al, .ref am, .ref aw, .ref ac, .ref ag, .ref ab])), (ag, .inl (cQ, 6, .inr (.inr (.inr (.inr (fun i9 => some (rw i9))))))), (rw 0, .inl (cI, 4, .inl (M 0))), (rw 1, .inl (cI, 4, .inl (M 1))), (rw 2, .inl (cI, 4, .inl (M 2))), (rw 3, .inl (cI, 4, .inl (M 3))), (rw 4, .inl (cI, 4, .inl (M 4))), (rw 5, .inl (cI, 4, .inl (M 5))), (ab, .inl (cI, 6, .inl bd)), (ar, .inl (cI, 4, .inl row))] [.ref a, .int (nI i), .ref ar, .int bo]) (qq_Problem_setLimit D cI cZ cL cQ a al am aw ac ag ab n k i ar bo rw M bd row (va_A [(a, .inr (0, [.int (nI n), .int (nI k), .ref al, .ref am, .ref aw, .ref ac, .ref ag, .ref ab])), (ag, .inl (cQ, 6, .inr (.inr (.inr (.inr (fun i9 => some (rw i9))))))), (rw 0, .inl (cI, 4, .inl (M 0))), (rw 1, .inl (cI, 4, .inl (M 1))), (rw 2, .inl (cI, 4, .inl (M 2))), (rw 3, .inl (cI, 4, .inl (M 3))), (rw 4, .inl (cI, 4, .inl (M 4))), (rw 5, .inl (cI, 4, .inl (M 5))), (ab, .inl (cI, 6, .inl bd)), (ar, .inl (cI, 4, .inl row))] sz)) 0 0 (va_A [(a, .inr (0, [.int (nI n), .int (nI k), .ref al, .ref am, .ref aw, .ref ac, .ref ag, .ref ab])), (ag, .inl (cQ, 6, .inr (.inr (.inr (.inr (fun i9 => some (rw i9))))))), (rw 0, .inl (cI, 4, .inl (M 0))), (rw 1, .inl (cI, 4, .inl (M 1))), (rw 2, .inl (cI, 4, .inl (M 2))), (rw 3, .inl (cI, 4, .inl (M 3))), (rw 4, .inl (cI, 4, .inl (M 4))), (rw 5, .inl (cI, 4, .inl (M 5))), (ab, .inl (cI, 6, .inl bd)), (ar, .inl (cI, 4, .inl row))] sz) := by
  refine Met.ofW (cc := bb_Problem_setLimit) (maxL := 5) (ret := none) (by decide) rfl ?_
  intro p e s m args below meth c s₁ B hml hv
  obtain ⟨rfl, hsz, hP, hK, hD0⟩ := hv
  have hx := B.exec
  have hb := B.bytes
  have hr := B.returns
  have hts := atoms_spec (ws := ww_Problem_setLimit) B.pre
  have hown : s.vm.findClass RR_Problem = some m.cls := findClass_of_methodNamed B.named
  have hlocks := B.notSynchronized
  subst hsz
  have hD := hD0.self (sz := s.heap.size)
  generalize hAe : va_A [(a, .inr (0, [.int (nI n), .int (nI k), .ref al, .ref am, .ref aw, .ref ac, .ref ag, .ref ab])), (ag, .inl (cQ, 6, .inr (.inr (.inr (.inr (fun i9 => some (rw i9))))))), (rw 0, .inl (cI, 4, .inl (M 0))), (rw 1, .inl (cI, 4, .inl (M 1))), (rw 2, .inl (cI, 4, .inl (M 2))), (rw 3, .inl (cI, 4, .inl (M 3))), (rw 4, .inl (cI, 4, .inl (M 4))), (rw 5, .inl (cI, 4, .inl (M 5))), (ab, .inl (cI, 6, .inl bd)), (ar, .inl (cI, 4, .inl row))] s.heap.size = A at hD ⊢
  have hA : ∀ q : Nat, s.heap.size ≤ q → A q := fun q h => by rw [← hAe]; exact Or.inr h
  have hS : va_S A s.heap s.heap [] := va_S.rf
  have hP : va_P D kc_all [(a, .inr (0, [.int (nI n), .int (nI k), .ref al, .ref am, .ref aw, .ref ac, .ref ag, .ref ab])), (ag, .inl (cQ, 6, .inr (.inr (.inr (.inr (fun i9 => some (rw i9))))))), (rw 0, .inl (cI, 4, .inl (M 0))), (rw 1, .inl (cI, 4, .inl (M 1))), (rw 2, .inl (cI, 4, .inl (M 2))), (rw 3, .inl (cI, 4, .inl (M 3))), (rw 4, .inl (cI, 4, .inl (M 4))), (rw 5, .inl (cI, 4, .inl (M 5))), (ab, .inl (cI, 6, .inl bd)), (ar, .inl (cI, 4, .inl row))] s.heap := hP
  have hl := lv_entry ([.ref a, .int (nI i), .ref ar, .int bo]) (n := 5) (Nat.le_of_ble_eq_true rfl)
  rw [lg_entry_eq]
  generalize (lg_sl ([.ref a, .int (nI i), .ref ar, .int bo]) ++ List.replicate (5 - (lg_sl ([.ref a, .int (nI i), .ref ar, .int bo])).length) Slot.unset).toArray = ls at hl ⊢
  have hl : lv_has ls 5 [(0, .ref a), (1, .int (nI i)), (2, .ref ar), (3, .int bo)] := hl
  have htb : ∀ w ∈ tb_all, w.before ([.ref a, .int (nI i), .ref ar, .int bo]).toArray s = true := fun w h => hts w (List.mem_cons_of_mem _ h)
  have hf_34 := htb _ fl_Problem_34
  have hf_37 := htb _ fl_Problem_37
  refine lv_iconst (v := 0) hx hb dd_Problem_setLimit_0 (by decide) ?_
  refine lv_istore (lv' := [(4, .int (0 : Int32)), (0, .ref a), (1, .int (nI i)), (2, .ref ar), (3, .int bo)]) hx hb dd_Problem_setLimit_1 hl (by decide) rfl (fun ls hl => ?_)
  have J3 : ∀ (N : Nat) (j : Nat) (M1 : Nat → Nat → Int32), (4 - j) < N → ∀ (hj : j ≤ 4) (hv : ∀ a9 c9, M1 a9 c9 = if a9 = i ∧ c9 < j then row c9 else M a9 c9), ∀ (ls : Array Slot) (H : Heap) (locs : List Loc), lv_has ls 5 [(0, .ref a), (1, .int (nI i)), (2, .ref ar), (3, .int bo), (4, .int (nI j))] → va_P D kc_all [(a, .inr (0, [.int (nI n), .int (nI k), .ref al, .ref am, .ref aw, .ref ac, .ref ag, .ref ab])), (ag, .inl (cQ, 6, .inr (.inr (.inr (.inr (fun i9 => some (rw i9))))))), (rw 0, .inl (cI, 4, .inl (M1 0))), (rw 1, .inl (cI, 4, .inl (M1 1))), (rw 2, .inl (cI, 4, .inl (M1 2))), (rw 3, .inl (cI, 4, .inl (M1 3))), (rw 4, .inl (cI, 4, .inl (M1 4))), (rw 5, .inl (cI, 4, .inl (M1 5))), (ab, .inl (cI, 6, .inl bd)), (ar, .inl (cI, 4, .inl row))] H → va_D A [(a, .inr (0, [.int (nI n), .int (nI k), .ref al, .ref am, .ref aw, .ref ac, .ref ag, .ref ab])), (ag, .inl (cQ, 6, .inr (.inr (.inr (.inr (fun i9 => some (rw i9))))))), (rw 0, .inl (cI, 4, .inl (M1 0))), (rw 1, .inl (cI, 4, .inl (M1 1))), (rw 2, .inl (cI, 4, .inl (M1 2))), (rw 3, .inl (cI, 4, .inl (M1 3))), (rw 4, .inl (cI, 4, .inl (M1 4))), (rw 5, .inl (cI, 4, .inl (M1 5))), (ab, .inl (cI, 6, .inl bd)), (ar, .inl (cI, 4, .inl row))] → va_S A s.heap H locs → W p l e (headSpec ww_Problem_setLimit ({ frames := 0, cells := 0, slots := 0, locals := 0 } : Room)).room s m ([.ref a, .int (nI i), .ref ar, .int bo]).toArray below meth c H locs 0 0 (MQ below (qq_Problem_setLimit D cI cZ cL cQ a al am aw ac ag ab n k i ar bo rw M bd row A) ([.ref a, .int (nI i), .ref ar, .int bo]).toArray s 0 0 A) (F0 m 3 ls []) := by
    intro N
    induction N with
    | zero => intro j M1 hN9; exact absurd hN9 (Nat.not_lt_zero _)
    | succ N IH3 =>
      intro j M1 hN9 hj hv ls H locs hl hP hD hS
      refine lv_iload hx hb dd_Problem_setLimit_3 (lv_at hl 4 rfl) ?_
      refine lv_iconst (v := 4) hx hb dd_Problem_setLimit_5 (by decide) ?_
      refine lv_icmp_ge (tgt := 28) hx hb dd_Problem_setLimit_6 (by decide) (fun h6 => ?_) (fun h6 => ?_)
      · skip
        have h6 : 4 ≤ j := (nI_leI (a := 4) (b := j) (by omega) (by omega)).mp h6
        refine lv_aload_n hx hb dd_Problem_setLimit_28 rfl (lv_at hl 0 rfl) ?_
        refine va_get (D := D) (ci := 0) (v := .ref ab) (C := RR_Problem) (T := FF_Problem) (N := 8) hx hb htb hi_Problem hown hK hP 0 rfl rfl 7 (by decide) hf_37 (fun _ h9 => h9) rfl dd_Problem_setLimit_29 ?_
        refine lv_iload_n hx hb dd_Problem_setLimit_32 rfl (lv_at hl 1 rfl) ?_
        refine lv_iload_n hx hb dd_Problem_setLimit_33 rfl (lv_at hl 3 rfl) ?_
        refine mm_iast hx hb hK hP hD hS 8 0 rfl rfl (i) (rfl) (by omega) (by decide) dd_Problem_setLimit_34 (fun H locs hP hD hS => ?_)
        have hP : va_P D kc_all [(a, .inr (0, [.int (nI n), .int (nI k), .ref al, .ref am, .ref aw, .ref ac, .ref ag, .ref ab])), (ag, .inl (cQ, 6, .inr (.inr (.inr (.inr (fun i9 => some (rw i9))))))), (rw 0, .inl (cI, 4, .inl (M1 0))), (rw 1, .inl (cI, 4, .inl (M1 1))), (rw 2, .inl (cI, 4, .inl (M1 2))), (rw 3, .inl (cI, 4, .inl (M1 3))), (rw 4, .inl (cI, 4, .inl (M1 4))), (rw 5, .inl (cI, 4, .inl (M1 5))), (ab, .inl (cI, 6, .inl (upd bd i bo))), (ar, .inl (cI, 4, .inl row))] H := hP
        have hD : va_D A [(a, .inr (0, [.int (nI n), .int (nI k), .ref al, .ref am, .ref aw, .ref ac, .ref ag, .ref ab])), (ag, .inl (cQ, 6, .inr (.inr (.inr (.inr (fun i9 => some (rw i9))))))), (rw 0, .inl (cI, 4, .inl (M1 0))), (rw 1, .inl (cI, 4, .inl (M1 1))), (rw 2, .inl (cI, 4, .inl (M1 2))), (rw 3, .inl (cI, 4, .inl (M1 3))), (rw 4, .inl (cI, 4, .inl (M1 4))), (rw 5, .inl (cI, 4, .inl (M1 5))), (ab, .inl (cI, 6, .inl (upd bd i bo))), (ar, .inl (cI, 4, .inl row))] := hD
        exact W.vret hx hb hr (fun t ht hW => ⟨⟨M1, rfl, sl_end (by omega) hv, by rw [ht]; exact hP, va_K.moved hW.alike hK, hD⟩, hS.F ht⟩) hS.2.2 dd_Problem_setLimit_35
      · skip
        have h6 : ¬ (4 ≤ j) := fun q9 => h6 ((nI_leI (a := 4) (b := j) (by omega) (by omega)).mpr q9)
        refine lv_aload_n hx hb dd_Problem_setLimit_9 rfl (lv_at hl 0 rfl) ?_
        refine va_get (D := D) (ci := 0) (v := .ref ag) (C := RR_Problem) (T := FF_Problem) (N := 8) hx hb htb hi_Problem hown hK hP 0 rfl rfl 6 (by decide) hf_34 (fun _ h9 => h9) rfl dd_Problem_setLimit_10 ?_
        refine lv_iload_n hx hb dd_Problem_setLimit_13 rfl (lv_at hl 1 rfl) ?_
        refine mm_aald (r := rw i) hx hb hK hP 1 3 rfl rfl (i) (rfl) (by omega) (by decide) (rfl) dd_Problem_setLimit_14 ?_
        refine lv_iload hx hb dd_Problem_setLimit_15 (lv_at hl 4 rfl) ?_
        refine lv_aload_n hx hb dd_Problem_setLimit_17 rfl (lv_at hl 2 rfl) ?_
        refine lv_iload hx hb dd_Problem_setLimit_18 (lv_at hl 4 rfl) ?_
        refine mm_iald hx hb hK hP 9 0 rfl rfl (j) (rfl) (by omega) (by decide) dd_Problem_setLimit_20 ?_
        refine mm_iast hx hb hK hP hD hS (2 + (i)) 0 (f := M1 i) (mm_r6 (P := fun i9 => ([(a, .inr (0, [.int (nI n), .int (nI k), .ref al, .ref am, .ref aw, .ref ac, .ref ag, .ref ab])), (ag, .inl (cQ, 6, .inr (.inr (.inr (.inr (fun i9 => some (rw i9))))))), (rw 0, .inl (cI, 4, .inl (M1 0))), (rw 1, .inl (cI, 4, .inl (M1 1))), (rw 2, .inl (cI, 4, .inl (M1 2))), (rw 3, .inl (cI, 4, .inl (M1 3))), (rw 4, .inl (cI, 4, .inl (M1 4))), (rw 5, .inl (cI, 4, .inl (M1 5))), (ab, .inl (cI, 6, .inl bd)), (ar, .inl (cI, 4, .inl row))] : va_W)[2 + i9]? = some (rw i9, .inl (cI, 4, .inl (M1 i9)))) (by omega) rfl rfl rfl rfl rfl rfl) rfl (j) (rfl) (by omega) (by decide) dd_Problem_setLimit_21 (fun H locs hP hD hS => ?_)
        have hrow1 : ([(a, .inr (0, [.int (nI n), .int (nI k), .ref al, .ref am, .ref aw, .ref ac, .ref ag, .ref ab])), (ag, .inl (cQ, 6, .inr (.inr (.inr (.inr (fun i9 => some (rw i9))))))), (rw 0, .inl (cI, 4, .inl (M1 0))), (rw 1, .inl (cI, 4, .inl (M1 1))), (rw 2, .inl (cI, 4, .inl (M1 2))), (rw 3, .inl (cI, 4, .inl (M1 3))), (rw 4, .inl (cI, 4, .inl (M1 4))), (rw 5, .inl (cI, 4, .inl (M1 5))), (ab, .inl (cI, 6, .inl bd)), (ar, .inl (cI, 4, .inl row))] : va_W).set (2 + (i)) (rw i, .inl (cI, 4, .inl (upd (M1 i) j (row j)))) = [(a, .inr (0, [.int (nI n), .int (nI k), .ref al, .ref am, .ref aw, .ref ac, .ref ag, .ref ab])), (ag, .inl (cQ, 6, .inr (.inr (.inr (.inr (fun i9 => some (rw i9))))))), (rw 0, .inl (cI, 4, .inl ((va_up M1 i (upd (M1 i) j (row j))) 0))), (rw 1, .inl (cI, 4, .inl ((va_up M1 i (upd (M1 i) j (row j))) 1))), (rw 2, .inl (cI, 4, .inl ((va_up M1 i (upd (M1 i) j (row j))) 2))), (rw 3, .inl (cI, 4, .inl ((va_up M1 i (upd (M1 i) j (row j))) 3))), (rw 4, .inl (cI, 4, .inl ((va_up M1 i (upd (M1 i) j (row j))) 4))), (rw 5, .inl (cI, 4, .inl ((va_up M1 i (upd (M1 i) j (row j))) 5))), (ab, .inl (cI, 6, .inl bd)), (ar, .inl (cI, 4, .inl row))] := mm_r6 (P := fun i9 => ([(a, .inr (0, [.int (nI n), .int (nI k), .ref al, .ref am, .ref aw, .ref ac, .ref ag, .ref ab])), (ag, .inl (cQ, 6, .inr (.inr (.inr (.inr (fun i9 => some (rw i9))))))), (rw 0, .inl (cI, 4, .inl (M1 0))), (rw 1, .inl (cI, 4, .inl (M1 1))), (rw 2, .inl (cI, 4, .inl (M1 2))), (rw 3, .inl (cI, 4, .inl (M1 3))), (rw 4, .inl (cI, 4, .inl (M1 4))), (rw 5, .inl (cI, 4, .inl (M1 5))), (ab, .inl (cI, 6, .inl bd)), (ar, .inl (cI, 4, .inl row))] : va_W).set (2 + i9) (rw i9, .inl (cI, 4, .inl (upd (M1 i9) j (row j)))) = [(a, .inr (0, [.int (nI n), .int (nI k), .ref al, .ref am, .ref aw, .ref ac, .ref ag, .ref ab])), (ag, .inl (cQ, 6, .inr (.inr (.inr (.inr (fun i9 => some (rw i9))))))), (rw 0, .inl (cI, 4, .inl ((va_up M1 i9 (upd (M1 i9) j (row j))) 0))), (rw 1, .inl (cI, 4, .inl ((va_up M1 i9 (upd (M1 i9) j (row j))) 1))), (rw 2, .inl (cI, 4, .inl ((va_up M1 i9 (upd (M1 i9) j (row j))) 2))), (rw 3, .inl (cI, 4, .inl ((va_up M1 i9 (upd (M1 i9) j (row j))) 3))), (rw 4, .inl (cI, 4, .inl ((va_up M1 i9 (upd (M1 i9) j (row j))) 4))), (rw 5, .inl (cI, 4, .inl ((va_up M1 i9 (upd (M1 i9) j (row j))) 5))), (ab, .inl (cI, 6, .inl bd)), (ar, .inl (cI, 4, .inl row))]) (by omega) (by simp [va_up]) (by simp [va_up]) (by simp [va_up]) (by simp [va_up]) (by simp [va_up]) (by simp [va_up])
        rw [hrow1] at hP hD
        refine lv_iinc (k := 4) (v := nI (j + 1)) (lv' := [(4, .int (nI (j + 1))), (0, .ref a), (1, .int (nI i)), (2, .ref ar), (3, .int bo)]) hx hb dd_Problem_setLimit_22 hl rfl (nI_1 _) (by decide) rfl (fun ls hl => ?_)
        refine lv_goto (tgt := 3) hx hb dd_Problem_setLimit_25 (by decide) ?_
        exact IH3 (j + 1) (va_up M1 i (upd (M1 i) j (row j))) (by omega) (by omega) (sl_step hv) ls H locs (lv_sub hl [1, 2, 3, 4, 0] rfl) hP hD hS
  exact J3 _ 0 M (Nat.lt_succ_self _) (by omega) (by intros; simp) ls _ _ (lv_sub hl [1, 2, 3, 4, 0] rfl) hP hD hS
abbrev qq_Problem_setLimitR (D : va_G) (cI cZ cL cQ : ClassId) (a : Nat) (al : Nat) (am : Nat) (aw : Nat) (ac : Nat) (ag : Nat) (ab : Nat) (n : Nat) (k : Nat) (i : Nat) (k1 : Nat) (bo : Int32) (rw : Nat → Nat) (M : Nat → Nat → Int32) (bd : Nat → Int32) (A : Nat → Prop) : Array Value → State → Outcome → State → Prop := va_Qv (fun u : (Nat → Nat → Int32) => ∀ a9 c9, c9 < 4 → u a9 c9 = if a9 = i then M k1 c9 else M a9 c9) (fun (u : (Nat → Nat → Int32)) t => mm_B D kc_all [(cI, .int), (cZ, .boolean), (cL, .long), (cQ, .array .int)] A [(a, .inr (0, [.int (nI n), .int (nI k), .ref al, .ref am, .ref aw, .ref ac, .ref ag, .ref ab])), (ag, .inl (cQ, 6, .inr (.inr (.inr (.inr (fun i9 => some (rw i9))))))), (rw 0, .inl (cI, 4, .inl (u 0))), (rw 1, .inl (cI, 4, .inl (u 1))), (rw 2, .inl (cI, 4, .inl (u 2))), (rw 3, .inl (cI, 4, .inl (u 3))), (rw 4, .inl (cI, 4, .inl (u 4))), (rw 5, .inl (cI, 4, .inl (u 5))), (ab, .inl (cI, 6, .inl (upd bd i bo)))] t) A
set_option maxHeartbeats 4000000 in
set_option maxRecDepth 100000 in
theorem cc_Problem_setLimitR (l : Launch) (D : va_G) (cI cZ cL cQ : ClassId) (sz : Nat) (a : Nat) (al : Nat) (am : Nat) (aw : Nat) (ac : Nat) (ag : Nat) (ab : Nat) (n : Nat) (k : Nat) (i : Nat) (k1 : Nat) (bo : Int32) (rw : Nat → Nat) (M : Nat → Nat → Int32) (bd : Nat → Int32) (hi : i < 6) (ht9 : k1 < 6) (hit : i ≠ k1) : Met l yy_Problem_setLimit ww_Problem_setLimit ({ frames := 0, cells := 0, slots := 0, locals := 0 } : Room) (mm_Pc D kc_all [(cI, .int), (cZ, .boolean), (cL, .long), (cQ, .array .int)] sz [(a, .inr (0, [.int (nI n), .int (nI k), .ref al, .ref am, .ref aw, .ref ac, .ref ag, .ref ab])), (ag, .inl (cQ, 6, .inr (.inr (.inr (.inr (fun i9 => some (rw i9))))))), (rw 0, .inl (cI, 4, .inl (M 0))), (rw 1, .inl (cI, 4, .inl (M 1))), (rw 2, .inl (cI, 4, .inl (M 2))), (rw 3, .inl (cI, 4, .inl (M 3))), (rw 4, .inl (cI, 4, .inl (M 4))), (rw 5, .inl (cI, 4, .inl (M 5))), (ab, .inl (cI, 6, .inl bd))] [.ref a, .int (nI i), .ref (rw k1), .int bo]) (qq_Problem_setLimitR D cI cZ cL cQ a al am aw ac ag ab n k i k1 bo rw M bd (va_A [(a, .inr (0, [.int (nI n), .int (nI k), .ref al, .ref am, .ref aw, .ref ac, .ref ag, .ref ab])), (ag, .inl (cQ, 6, .inr (.inr (.inr (.inr (fun i9 => some (rw i9))))))), (rw 0, .inl (cI, 4, .inl (M 0))), (rw 1, .inl (cI, 4, .inl (M 1))), (rw 2, .inl (cI, 4, .inl (M 2))), (rw 3, .inl (cI, 4, .inl (M 3))), (rw 4, .inl (cI, 4, .inl (M 4))), (rw 5, .inl (cI, 4, .inl (M 5))), (ab, .inl (cI, 6, .inl bd))] sz)) 0 0 (va_A [(a, .inr (0, [.int (nI n), .int (nI k), .ref al, .ref am, .ref aw, .ref ac, .ref ag, .ref ab])), (ag, .inl (cQ, 6, .inr (.inr (.inr (.inr (fun i9 => some (rw i9))))))), (rw 0, .inl (cI, 4, .inl (M 0))), (rw 1, .inl (cI, 4, .inl (M 1))), (rw 2, .inl (cI, 4, .inl (M 2))), (rw 3, .inl (cI, 4, .inl (M 3))), (rw 4, .inl (cI, 4, .inl (M 4))), (rw 5, .inl (cI, 4, .inl (M 5))), (ab, .inl (cI, 6, .inl bd))] sz) := by
  refine Met.ofW (cc := bb_Problem_setLimit) (maxL := 5) (ret := none) (by decide) rfl ?_
  intro p e s m args below meth c s₁ B hml hv
  obtain ⟨rfl, hsz, hP, hK, hD0⟩ := hv
  have hx := B.exec
  have hb := B.bytes
  have hr := B.returns
  have hts := atoms_spec (ws := ww_Problem_setLimit) B.pre
  have hown : s.vm.findClass RR_Problem = some m.cls := findClass_of_methodNamed B.named
  have hlocks := B.notSynchronized
  subst hsz
  have hD := hD0.self (sz := s.heap.size)
  generalize hAe : va_A [(a, .inr (0, [.int (nI n), .int (nI k), .ref al, .ref am, .ref aw, .ref ac, .ref ag, .ref ab])), (ag, .inl (cQ, 6, .inr (.inr (.inr (.inr (fun i9 => some (rw i9))))))), (rw 0, .inl (cI, 4, .inl (M 0))), (rw 1, .inl (cI, 4, .inl (M 1))), (rw 2, .inl (cI, 4, .inl (M 2))), (rw 3, .inl (cI, 4, .inl (M 3))), (rw 4, .inl (cI, 4, .inl (M 4))), (rw 5, .inl (cI, 4, .inl (M 5))), (ab, .inl (cI, 6, .inl bd))] s.heap.size = A at hD ⊢
  have hA : ∀ q : Nat, s.heap.size ≤ q → A q := fun q h => by rw [← hAe]; exact Or.inr h
  have hS : va_S A s.heap s.heap [] := va_S.rf
  have hP : va_P D kc_all [(a, .inr (0, [.int (nI n), .int (nI k), .ref al, .ref am, .ref aw, .ref ac, .ref ag, .ref ab])), (ag, .inl (cQ, 6, .inr (.inr (.inr (.inr (fun i9 => some (rw i9))))))), (rw 0, .inl (cI, 4, .inl (M 0))), (rw 1, .inl (cI, 4, .inl (M 1))), (rw 2, .inl (cI, 4, .inl (M 2))), (rw 3, .inl (cI, 4, .inl (M 3))), (rw 4, .inl (cI, 4, .inl (M 4))), (rw 5, .inl (cI, 4, .inl (M 5))), (ab, .inl (cI, 6, .inl bd))] s.heap := hP
  have hl := lv_entry ([.ref a, .int (nI i), .ref (rw k1), .int bo]) (n := 5) (Nat.le_of_ble_eq_true rfl)
  rw [lg_entry_eq]
  generalize (lg_sl ([.ref a, .int (nI i), .ref (rw k1), .int bo]) ++ List.replicate (5 - (lg_sl ([.ref a, .int (nI i), .ref (rw k1), .int bo])).length) Slot.unset).toArray = ls at hl ⊢
  have hl : lv_has ls 5 [(0, .ref a), (1, .int (nI i)), (2, .ref (rw k1)), (3, .int bo)] := hl
  have htb : ∀ w ∈ tb_all, w.before ([.ref a, .int (nI i), .ref (rw k1), .int bo]).toArray s = true := fun w h => hts w (List.mem_cons_of_mem _ h)
  have hf_34 := htb _ fl_Problem_34
  have hf_37 := htb _ fl_Problem_37
  refine lv_iconst (v := 0) hx hb dd_Problem_setLimit_0 (by decide) ?_
  refine lv_istore (lv' := [(4, .int (0 : Int32)), (0, .ref a), (1, .int (nI i)), (2, .ref (rw k1)), (3, .int bo)]) hx hb dd_Problem_setLimit_1 hl (by decide) rfl (fun ls hl => ?_)
  have J3 : ∀ (N : Nat) (j : Nat) (M1 : Nat → Nat → Int32), (4 - j) < N → ∀ (hj : j ≤ 4) (hv : ∀ a9 c9, M1 a9 c9 = if a9 = i ∧ c9 < j then M k1 c9 else M a9 c9), ∀ (ls : Array Slot) (H : Heap) (locs : List Loc), lv_has ls 5 [(0, .ref a), (1, .int (nI i)), (2, .ref (rw k1)), (3, .int bo), (4, .int (nI j))] → va_P D kc_all [(a, .inr (0, [.int (nI n), .int (nI k), .ref al, .ref am, .ref aw, .ref ac, .ref ag, .ref ab])), (ag, .inl (cQ, 6, .inr (.inr (.inr (.inr (fun i9 => some (rw i9))))))), (rw 0, .inl (cI, 4, .inl (M1 0))), (rw 1, .inl (cI, 4, .inl (M1 1))), (rw 2, .inl (cI, 4, .inl (M1 2))), (rw 3, .inl (cI, 4, .inl (M1 3))), (rw 4, .inl (cI, 4, .inl (M1 4))), (rw 5, .inl (cI, 4, .inl (M1 5))), (ab, .inl (cI, 6, .inl bd))] H → va_D A [(a, .inr (0, [.int (nI n), .int (nI k), .ref al, .ref am, .ref aw, .ref ac, .ref ag, .ref ab])), (ag, .inl (cQ, 6, .inr (.inr (.inr (.inr (fun i9 => some (rw i9))))))), (rw 0, .inl (cI, 4, .inl (M1 0))), (rw 1, .inl (cI, 4, .inl (M1 1))), (rw 2, .inl (cI, 4, .inl (M1 2))), (rw 3, .inl (cI, 4, .inl (M1 3))), (rw 4, .inl (cI, 4, .inl (M1 4))), (rw 5, .inl (cI, 4, .inl (M1 5))), (ab, .inl (cI, 6, .inl bd))] → va_S A s.heap H locs → W p l e (headSpec ww_Problem_setLimit ({ frames := 0, cells := 0, slots := 0, locals := 0 } : Room)).room s m ([.ref a, .int (nI i), .ref (rw k1), .int bo]).toArray below meth c H locs 0 0 (MQ below (qq_Problem_setLimitR D cI cZ cL cQ a al am aw ac ag ab n k i k1 bo rw M bd A) ([.ref a, .int (nI i), .ref (rw k1), .int bo]).toArray s 0 0 A) (F0 m 3 ls []) := by
    intro N
    induction N with
    | zero => intro j M1 hN9; exact absurd hN9 (Nat.not_lt_zero _)
    | succ N IH3 =>
      intro j M1 hN9 hj hv ls H locs hl hP hD hS
      refine lv_iload hx hb dd_Problem_setLimit_3 (lv_at hl 4 rfl) ?_
      refine lv_iconst (v := 4) hx hb dd_Problem_setLimit_5 (by decide) ?_
      refine lv_icmp_ge (tgt := 28) hx hb dd_Problem_setLimit_6 (by decide) (fun h6 => ?_) (fun h6 => ?_)
      · skip
        have h6 : 4 ≤ j := (nI_leI (a := 4) (b := j) (by omega) (by omega)).mp h6
        refine lv_aload_n hx hb dd_Problem_setLimit_28 rfl (lv_at hl 0 rfl) ?_
        refine va_get (D := D) (ci := 0) (v := .ref ab) (C := RR_Problem) (T := FF_Problem) (N := 8) hx hb htb hi_Problem hown hK hP 0 rfl rfl 7 (by decide) hf_37 (fun _ h9 => h9) rfl dd_Problem_setLimit_29 ?_
        refine lv_iload_n hx hb dd_Problem_setLimit_32 rfl (lv_at hl 1 rfl) ?_
        refine lv_iload_n hx hb dd_Problem_setLimit_33 rfl (lv_at hl 3 rfl) ?_
        refine mm_iast hx hb hK hP hD hS 8 0 rfl rfl (i) (rfl) (by omega) (by decide) dd_Problem_setLimit_34 (fun H locs hP hD hS => ?_)
        have hP : va_P D kc_all [(a, .inr (0, [.int (nI n), .int (nI k), .ref al, .ref am, .ref aw, .ref ac, .ref ag, .ref ab])), (ag, .inl (cQ, 6, .inr (.inr (.inr (.inr (fun i9 => some (rw i9))))))), (rw 0, .inl (cI, 4, .inl (M1 0))), (rw 1, .inl (cI, 4, .inl (M1 1))), (rw 2, .inl (cI, 4, .inl (M1 2))), (rw 3, .inl (cI, 4, .inl (M1 3))), (rw 4, .inl (cI, 4, .inl (M1 4))), (rw 5, .inl (cI, 4, .inl (M1 5))), (ab, .inl (cI, 6, .inl (upd bd i bo)))] H := hP
        have hD : va_D A [(a, .inr (0, [.int (nI n), .int (nI k), .ref al, .ref am, .ref aw, .ref ac, .ref ag, .ref ab])), (ag, .inl (cQ, 6, .inr (.inr (.inr (.inr (fun i9 => some (rw i9))))))), (rw 0, .inl (cI, 4, .inl (M1 0))), (rw 1, .inl (cI, 4, .inl (M1 1))), (rw 2, .inl (cI, 4, .inl (M1 2))), (rw 3, .inl (cI, 4, .inl (M1 3))), (rw 4, .inl (cI, 4, .inl (M1 4))), (rw 5, .inl (cI, 4, .inl (M1 5))), (ab, .inl (cI, 6, .inl (upd bd i bo)))] := hD
        exact W.vret hx hb hr (fun t ht hW => ⟨⟨M1, rfl, sl_end (by omega) hv, by rw [ht]; exact hP, va_K.moved hW.alike hK, hD⟩, hS.F ht⟩) hS.2.2 dd_Problem_setLimit_35
      · skip
        have h6 : ¬ (4 ≤ j) := fun q9 => h6 ((nI_leI (a := 4) (b := j) (by omega) (by omega)).mpr q9)
        refine lv_aload_n hx hb dd_Problem_setLimit_9 rfl (lv_at hl 0 rfl) ?_
        refine va_get (D := D) (ci := 0) (v := .ref ag) (C := RR_Problem) (T := FF_Problem) (N := 8) hx hb htb hi_Problem hown hK hP 0 rfl rfl 6 (by decide) hf_34 (fun _ h9 => h9) rfl dd_Problem_setLimit_10 ?_
        refine lv_iload_n hx hb dd_Problem_setLimit_13 rfl (lv_at hl 1 rfl) ?_
        refine mm_aald (r := rw i) hx hb hK hP 1 3 rfl rfl (i) (rfl) (by omega) (by decide) (rfl) dd_Problem_setLimit_14 ?_
        refine lv_iload hx hb dd_Problem_setLimit_15 (lv_at hl 4 rfl) ?_
        refine lv_aload_n hx hb dd_Problem_setLimit_17 rfl (lv_at hl 2 rfl) ?_
        refine lv_iload hx hb dd_Problem_setLimit_18 (lv_at hl 4 rfl) ?_
        refine mm_iald hx hb hK hP (2 + (k1)) 0 (f := M1 k1) (mm_r6 (P := fun i9 => ([(a, .inr (0, [.int (nI n), .int (nI k), .ref al, .ref am, .ref aw, .ref ac, .ref ag, .ref ab])), (ag, .inl (cQ, 6, .inr (.inr (.inr (.inr (fun i9 => some (rw i9))))))), (rw 0, .inl (cI, 4, .inl (M1 0))), (rw 1, .inl (cI, 4, .inl (M1 1))), (rw 2, .inl (cI, 4, .inl (M1 2))), (rw 3, .inl (cI, 4, .inl (M1 3))), (rw 4, .inl (cI, 4, .inl (M1 4))), (rw 5, .inl (cI, 4, .inl (M1 5))), (ab, .inl (cI, 6, .inl bd))] : va_W)[2 + i9]? = some (rw i9, .inl (cI, 4, .inl (M1 i9)))) (by omega) rfl rfl rfl rfl rfl rfl) rfl (j) (rfl) (by omega) (by decide) dd_Problem_setLimit_20 ?_
        refine mm_iast hx hb hK hP hD hS (2 + (i)) 0 (f := M1 i) (mm_r6 (P := fun i9 => ([(a, .inr (0, [.int (nI n), .int (nI k), .ref al, .ref am, .ref aw, .ref ac, .ref ag, .ref ab])), (ag, .inl (cQ, 6, .inr (.inr (.inr (.inr (fun i9 => some (rw i9))))))), (rw 0, .inl (cI, 4, .inl (M1 0))), (rw 1, .inl (cI, 4, .inl (M1 1))), (rw 2, .inl (cI, 4, .inl (M1 2))), (rw 3, .inl (cI, 4, .inl (M1 3))), (rw 4, .inl (cI, 4, .inl (M1 4))), (rw 5, .inl (cI, 4, .inl (M1 5))), (ab, .inl (cI, 6, .inl bd))] : va_W)[2 + i9]? = some (rw i9, .inl (cI, 4, .inl (M1 i9)))) (by omega) rfl rfl rfl rfl rfl rfl) rfl (j) (rfl) (by omega) (by decide) dd_Problem_setLimit_21 (fun H locs hP hD hS => ?_)
        have hrow1 : ([(a, .inr (0, [.int (nI n), .int (nI k), .ref al, .ref am, .ref aw, .ref ac, .ref ag, .ref ab])), (ag, .inl (cQ, 6, .inr (.inr (.inr (.inr (fun i9 => some (rw i9))))))), (rw 0, .inl (cI, 4, .inl (M1 0))), (rw 1, .inl (cI, 4, .inl (M1 1))), (rw 2, .inl (cI, 4, .inl (M1 2))), (rw 3, .inl (cI, 4, .inl (M1 3))), (rw 4, .inl (cI, 4, .inl (M1 4))), (rw 5, .inl (cI, 4, .inl (M1 5))), (ab, .inl (cI, 6, .inl bd))] : va_W).set (2 + (i)) (rw i, .inl (cI, 4, .inl (upd (M1 i) j (M1 k1 j)))) = [(a, .inr (0, [.int (nI n), .int (nI k), .ref al, .ref am, .ref aw, .ref ac, .ref ag, .ref ab])), (ag, .inl (cQ, 6, .inr (.inr (.inr (.inr (fun i9 => some (rw i9))))))), (rw 0, .inl (cI, 4, .inl ((va_up M1 i (upd (M1 i) j (M1 k1 j))) 0))), (rw 1, .inl (cI, 4, .inl ((va_up M1 i (upd (M1 i) j (M1 k1 j))) 1))), (rw 2, .inl (cI, 4, .inl ((va_up M1 i (upd (M1 i) j (M1 k1 j))) 2))), (rw 3, .inl (cI, 4, .inl ((va_up M1 i (upd (M1 i) j (M1 k1 j))) 3))), (rw 4, .inl (cI, 4, .inl ((va_up M1 i (upd (M1 i) j (M1 k1 j))) 4))), (rw 5, .inl (cI, 4, .inl ((va_up M1 i (upd (M1 i) j (M1 k1 j))) 5))), (ab, .inl (cI, 6, .inl bd))] := mm_r6 (P := fun i9 => ([(a, .inr (0, [.int (nI n), .int (nI k), .ref al, .ref am, .ref aw, .ref ac, .ref ag, .ref ab])), (ag, .inl (cQ, 6, .inr (.inr (.inr (.inr (fun i9 => some (rw i9))))))), (rw 0, .inl (cI, 4, .inl (M1 0))), (rw 1, .inl (cI, 4, .inl (M1 1))), (rw 2, .inl (cI, 4, .inl (M1 2))), (rw 3, .inl (cI, 4, .inl (M1 3))), (rw 4, .inl (cI, 4, .inl (M1 4))), (rw 5, .inl (cI, 4, .inl (M1 5))), (ab, .inl (cI, 6, .inl bd))] : va_W).set (2 + i9) (rw i9, .inl (cI, 4, .inl (upd (M1 i9) j (M1 k1 j)))) = [(a, .inr (0, [.int (nI n), .int (nI k), .ref al, .ref am, .ref aw, .ref ac, .ref ag, .ref ab])), (ag, .inl (cQ, 6, .inr (.inr (.inr (.inr (fun i9 => some (rw i9))))))), (rw 0, .inl (cI, 4, .inl ((va_up M1 i9 (upd (M1 i9) j (M1 k1 j))) 0))), (rw 1, .inl (cI, 4, .inl ((va_up M1 i9 (upd (M1 i9) j (M1 k1 j))) 1))), (rw 2, .inl (cI, 4, .inl ((va_up M1 i9 (upd (M1 i9) j (M1 k1 j))) 2))), (rw 3, .inl (cI, 4, .inl ((va_up M1 i9 (upd (M1 i9) j (M1 k1 j))) 3))), (rw 4, .inl (cI, 4, .inl ((va_up M1 i9 (upd (M1 i9) j (M1 k1 j))) 4))), (rw 5, .inl (cI, 4, .inl ((va_up M1 i9 (upd (M1 i9) j (M1 k1 j))) 5))), (ab, .inl (cI, 6, .inl bd))]) (by omega) (by simp [va_up]) (by simp [va_up]) (by simp [va_up]) (by simp [va_up]) (by simp [va_up]) (by simp [va_up])
        rw [hrow1] at hP hD
        refine lv_iinc (k := 4) (v := nI (j + 1)) (lv' := [(4, .int (nI (j + 1))), (0, .ref a), (1, .int (nI i)), (2, .ref (rw k1)), (3, .int bo)]) hx hb dd_Problem_setLimit_22 hl rfl (nI_1 _) (by decide) rfl (fun ls hl => ?_)
        refine lv_goto (tgt := 3) hx hb dd_Problem_setLimit_25 (by decide) ?_
        exact IH3 (j + 1) (va_up M1 i (upd (M1 i) j (M1 k1 j))) (by omega) (by omega) (sl_stepR hit hv) ls H locs (lv_sub hl [1, 2, 3, 4, 0] rfl) hP hD hS
  exact J3 _ 0 M (Nat.lt_succ_self _) (by omega) (by intros; simp) ls _ _ (lv_sub hl [1, 2, 3, 4, 0] rfl) hP hD hS
abbrev qq_Problem_addLimit (D : va_G) (cI cZ cL cQ : ClassId) (a : Nat) (al : Nat) (am : Nat) (aw : Nat) (ac : Nat) (ag : Nat) (ab : Nat) (n : Nat) (k : Nat) (ar : Nat) (bo : Int32) (rw : Nat → Nat) (M : Nat → Nat → Int32) (bd : Nat → Int32) (row : Nat → Int32) (A : Nat → Prop) : Array Value → State → Outcome → State → Prop := va_Qv (fun u : (Nat → Nat → Int32) => ∀ a9 c9, c9 < 4 → u a9 c9 = if a9 = k then row c9 else M a9 c9) (fun (u : (Nat → Nat → Int32)) t => mm_B D kc_all [(cI, .int), (cZ, .boolean), (cL, .long), (cQ, .array .int)] A [(a, .inr (0, [.int (nI n), .int (nI (k + 1)), .ref al, .ref am, .ref aw, .ref ac, .ref ag, .ref ab])), (ag, .inl (cQ, 6, .inr (.inr (.inr (.inr (fun i9 => some (rw i9))))))), (rw 0, .inl (cI, 4, .inl (u 0))), (rw 1, .inl (cI, 4, .inl (u 1))), (rw 2, .inl (cI, 4, .inl (u 2))), (rw 3, .inl (cI, 4, .inl (u 3))), (rw 4, .inl (cI, 4, .inl (u 4))), (rw 5, .inl (cI, 4, .inl (u 5))), (ab, .inl (cI, 6, .inl (upd bd k bo))), (ar, .inl (cI, 4, .inl row))] t) A
set_option maxHeartbeats 4000000 in
set_option maxRecDepth 100000 in
theorem cc_Problem_addLimit (l : Launch) (D : va_G) (cI cZ cL cQ : ClassId) (sz : Nat) (a : Nat) (al : Nat) (am : Nat) (aw : Nat) (ac : Nat) (ag : Nat) (ab : Nat) (n : Nat) (k : Nat) (ar : Nat) (bo : Int32) (rw : Nat → Nat) (M : Nat → Nat → Int32) (bd : Nat → Int32) (row : Nat → Int32) (hk : k < 6) : Met l yy_Problem_addLimit ww_Problem_addLimit ({ frames := 1, cells := 0, slots := 0, locals := 24 } : Room) (mm_Pc D kc_all [(cI, .int), (cZ, .boolean), (cL, .long), (cQ, .array .int)] sz [(a, .inr (0, [.int (nI n), .int (nI k), .ref al, .ref am, .ref aw, .ref ac, .ref ag, .ref ab])), (ag, .inl (cQ, 6, .inr (.inr (.inr (.inr (fun i9 => some (rw i9))))))), (rw 0, .inl (cI, 4, .inl (M 0))), (rw 1, .inl (cI, 4, .inl (M 1))), (rw 2, .inl (cI, 4, .inl (M 2))), (rw 3, .inl (cI, 4, .inl (M 3))), (rw 4, .inl (cI, 4, .inl (M 4))), (rw 5, .inl (cI, 4, .inl (M 5))), (ab, .inl (cI, 6, .inl bd)), (ar, .inl (cI, 4, .inl row))] [.ref a, .ref ar, .int bo]) (qq_Problem_addLimit D cI cZ cL cQ a al am aw ac ag ab n k ar bo rw M bd row (va_A [(a, .inr (0, [.int (nI n), .int (nI k), .ref al, .ref am, .ref aw, .ref ac, .ref ag, .ref ab])), (ag, .inl (cQ, 6, .inr (.inr (.inr (.inr (fun i9 => some (rw i9))))))), (rw 0, .inl (cI, 4, .inl (M 0))), (rw 1, .inl (cI, 4, .inl (M 1))), (rw 2, .inl (cI, 4, .inl (M 2))), (rw 3, .inl (cI, 4, .inl (M 3))), (rw 4, .inl (cI, 4, .inl (M 4))), (rw 5, .inl (cI, 4, .inl (M 5))), (ab, .inl (cI, 6, .inl bd)), (ar, .inl (cI, 4, .inl row))] sz)) 0 0 (va_A [(a, .inr (0, [.int (nI n), .int (nI k), .ref al, .ref am, .ref aw, .ref ac, .ref ag, .ref ab])), (ag, .inl (cQ, 6, .inr (.inr (.inr (.inr (fun i9 => some (rw i9))))))), (rw 0, .inl (cI, 4, .inl (M 0))), (rw 1, .inl (cI, 4, .inl (M 1))), (rw 2, .inl (cI, 4, .inl (M 2))), (rw 3, .inl (cI, 4, .inl (M 3))), (rw 4, .inl (cI, 4, .inl (M 4))), (rw 5, .inl (cI, 4, .inl (M 5))), (ab, .inl (cI, 6, .inl bd)), (ar, .inl (cI, 4, .inl row))] sz) := by
  refine Met.ofW (cc := bb_Problem_addLimit) (maxL := 3) (ret := none) (by decide) rfl ?_
  intro p e s m args below meth c s₁ B hml hv
  obtain ⟨rfl, hsz, hP, hK, hD0⟩ := hv
  have hx := B.exec
  have hb := B.bytes
  have hr := B.returns
  have hts := atoms_spec (ws := ww_Problem_addLimit) B.pre
  have hown : s.vm.findClass RR_Problem = some m.cls := findClass_of_methodNamed B.named
  have hlocks := B.notSynchronized
  subst hsz
  have hD := hD0.self (sz := s.heap.size)
  generalize hAe : va_A [(a, .inr (0, [.int (nI n), .int (nI k), .ref al, .ref am, .ref aw, .ref ac, .ref ag, .ref ab])), (ag, .inl (cQ, 6, .inr (.inr (.inr (.inr (fun i9 => some (rw i9))))))), (rw 0, .inl (cI, 4, .inl (M 0))), (rw 1, .inl (cI, 4, .inl (M 1))), (rw 2, .inl (cI, 4, .inl (M 2))), (rw 3, .inl (cI, 4, .inl (M 3))), (rw 4, .inl (cI, 4, .inl (M 4))), (rw 5, .inl (cI, 4, .inl (M 5))), (ab, .inl (cI, 6, .inl bd)), (ar, .inl (cI, 4, .inl row))] s.heap.size = A at hD ⊢
  have hA : ∀ q : Nat, s.heap.size ≤ q → A q := fun q h => by rw [← hAe]; exact Or.inr h
  have hS : va_S A s.heap s.heap [] := va_S.rf
  have hP : va_P D kc_all [(a, .inr (0, [.int (nI n), .int (nI k), .ref al, .ref am, .ref aw, .ref ac, .ref ag, .ref ab])), (ag, .inl (cQ, 6, .inr (.inr (.inr (.inr (fun i9 => some (rw i9))))))), (rw 0, .inl (cI, 4, .inl (M 0))), (rw 1, .inl (cI, 4, .inl (M 1))), (rw 2, .inl (cI, 4, .inl (M 2))), (rw 3, .inl (cI, 4, .inl (M 3))), (rw 4, .inl (cI, 4, .inl (M 4))), (rw 5, .inl (cI, 4, .inl (M 5))), (ab, .inl (cI, 6, .inl bd)), (ar, .inl (cI, 4, .inl row))] s.heap := hP
  have hl := lv_entry ([.ref a, .ref ar, .int bo]) (n := 3) (Nat.le_of_ble_eq_true rfl)
  rw [lg_entry_eq]
  generalize (lg_sl ([.ref a, .ref ar, .int bo]) ++ List.replicate (3 - (lg_sl ([.ref a, .ref ar, .int bo])).length) Slot.unset).toArray = ls at hl ⊢
  have hl : lv_has ls 3 [(0, .ref a), (1, .ref ar), (2, .int bo)] := hl
  have htb : ∀ w ∈ tb_all, w.before ([.ref a, .ref ar, .int bo]).toArray s = true := fun w h => hts w (List.mem_cons_of_mem _ h)
  have hf_15 := htb _ fl_Problem_15
  refine lv_aload_n hx hb dd_Problem_addLimit_0 rfl (lv_at hl 0 rfl) ?_
  refine lv_aload_n hx hb dd_Problem_addLimit_1 rfl (lv_at hl 0 rfl) ?_
  refine va_get (D := D) (ci := 0) (v := .int (nI k)) (C := RR_Problem) (T := FF_Problem) (N := 8) hx hb htb hi_Problem hown hK hP 0 rfl rfl 1 (by decide) hf_15 (fun _ h9 => h9) rfl dd_Problem_addLimit_2 ?_
  refine lv_aload_n hx hb dd_Problem_addLimit_5 rfl (lv_at hl 1 rfl) ?_
  refine lv_iload_n hx hb dd_Problem_addLimit_6 rfl (lv_at hl 2 rfl) ?_
  refine mm_v (wc := [(a, .inr (0, [.int (nI n), .int (nI k), .ref al, .ref am, .ref aw, .ref ac, .ref ag, .ref ab])), (ag, .inl (cQ, 6, .inr (.inr (.inr (.inr (fun i9 => some (rw i9))))))), (rw 0, .inl (cI, 4, .inl (M 0))), (rw 1, .inl (cI, 4, .inl (M 1))), (rw 2, .inl (cI, 4, .inl (M 2))), (rw 3, .inl (cI, 4, .inl (M 3))), (rw 4, .inl (cI, 4, .inl (M 4))), (rw 5, .inl (cI, 4, .inl (M 5))), (ab, .inl (cI, 6, .inl bd)), (ar, .inl (cI, 4, .inl row))]) (wr := []) (va_runV (As := [.int (nI k), .ref ar, .int bo]) (rest := []) (C := RR_Problem) ⟨hx, hb, hml, hown, hts⟩ (cc_Problem_setLimit l D cI cZ cL cQ _ a al am aw ac ag ab n k k ar bo rw M bd row (by omega)) (mm_cwV 3 hts ml_Problem_40 im_Problem_setLimit se_Problem_setLimit ic_Problem cd_Problem_setLimit rfl rfl (by decide +kernel) ⟨Nat.le_of_ble_eq_true rfl, Nat.le_of_ble_eq_true rfl⟩) (mm_preV hK hP hD [0, 1, 2, 3, 4, 5, 6, 7, 8, 9] (by decide) rfl 0 rfl rfl) rfl rfl hl.1 rfl (lv_room (Nat.le_of_ble_eq_true rfl)) dd_Problem_addLimit_7 ⟨Nat.zero_le _, Nat.zero_le _⟩) hP hD hS hA [0, 1, 2, 3, 4, 5, 6, 7, 8, 9] [] rfl rfl (by decide) (by decide) (fun u2 H locs p7 hP hD hS => ?_)
  have hP : va_P D kc_all [(a, .inr (0, [.int (nI n), .int (nI k), .ref al, .ref am, .ref aw, .ref ac, .ref ag, .ref ab])), (ag, .inl (cQ, 6, .inr (.inr (.inr (.inr (fun i9 => some (rw i9))))))), (rw 0, .inl (cI, 4, .inl (u2 0))), (rw 1, .inl (cI, 4, .inl (u2 1))), (rw 2, .inl (cI, 4, .inl (u2 2))), (rw 3, .inl (cI, 4, .inl (u2 3))), (rw 4, .inl (cI, 4, .inl (u2 4))), (rw 5, .inl (cI, 4, .inl (u2 5))), (ab, .inl (cI, 6, .inl (upd bd k bo))), (ar, .inl (cI, 4, .inl row))] H := hP
  have hD : va_D A [(a, .inr (0, [.int (nI n), .int (nI k), .ref al, .ref am, .ref aw, .ref ac, .ref ag, .ref ab])), (ag, .inl (cQ, 6, .inr (.inr (.inr (.inr (fun i9 => some (rw i9))))))), (rw 0, .inl (cI, 4, .inl (u2 0))), (rw 1, .inl (cI, 4, .inl (u2 1))), (rw 2, .inl (cI, 4, .inl (u2 2))), (rw 3, .inl (cI, 4, .inl (u2 3))), (rw 4, .inl (cI, 4, .inl (u2 4))), (rw 5, .inl (cI, 4, .inl (u2 5))), (ab, .inl (cI, 6, .inl (upd bd k bo))), (ar, .inl (cI, 4, .inl row))] := hD
  have p7 : ∀ a9 c9, c9 < 4 → u2 a9 c9 = if a9 = k then row c9 else M a9 c9 := p7
  refine lv_aload_n hx hb dd_Problem_addLimit_10 rfl (lv_at hl 0 rfl) ?_
  refine lv_dup hx hb dd_Problem_addLimit_11 rfl ?_
  refine va_get (D := D) (ci := 0) (v := .int (nI k)) (C := RR_Problem) (T := FF_Problem) (N := 8) hx hb htb hi_Problem hown hK hP 0 rfl rfl 1 (by decide) hf_15 (fun _ h9 => h9) rfl dd_Problem_addLimit_12 ?_
  refine lv_iconst (v := 1) hx hb dd_Problem_addLimit_15 (by decide) ?_
  refine lv_iadd hx hb dd_Problem_addLimit_16 ?_
  refine mm_topi (y := nI (k + 1)) (nI_add k 1) ?_
  refine va_put (D := D) (ci := 0) (v := .int (nI (k + 1))) (ty := .int) (C := RR_Problem) (T := FF_Problem) (N := 8) hx hb htb hi_Problem tt_Problem tt_Problem_ok nn_Problem hown hK hP hD hS 0 rfl rfl 1 (by decide) hf_15 (fun _ h9 => h9) rfl (by decide +kernel) (rfl) (rfl) (Nat.le_of_ble_eq_true rfl) dd_Problem_addLimit_17 (fun H locs hP hD hS => ?_)
  have hP : va_P D kc_all [(a, .inr (0, [.int (nI n), .int (nI (k + 1)), .ref al, .ref am, .ref aw, .ref ac, .ref ag, .ref ab])), (ag, .inl (cQ, 6, .inr (.inr (.inr (.inr (fun i9 => some (rw i9))))))), (rw 0, .inl (cI, 4, .inl (u2 0))), (rw 1, .inl (cI, 4, .inl (u2 1))), (rw 2, .inl (cI, 4, .inl (u2 2))), (rw 3, .inl (cI, 4, .inl (u2 3))), (rw 4, .inl (cI, 4, .inl (u2 4))), (rw 5, .inl (cI, 4, .inl (u2 5))), (ab, .inl (cI, 6, .inl (upd bd k bo))), (ar, .inl (cI, 4, .inl row))] H := hP
  have hD : va_D A [(a, .inr (0, [.int (nI n), .int (nI (k + 1)), .ref al, .ref am, .ref aw, .ref ac, .ref ag, .ref ab])), (ag, .inl (cQ, 6, .inr (.inr (.inr (.inr (fun i9 => some (rw i9))))))), (rw 0, .inl (cI, 4, .inl (u2 0))), (rw 1, .inl (cI, 4, .inl (u2 1))), (rw 2, .inl (cI, 4, .inl (u2 2))), (rw 3, .inl (cI, 4, .inl (u2 3))), (rw 4, .inl (cI, 4, .inl (u2 4))), (rw 5, .inl (cI, 4, .inl (u2 5))), (ab, .inl (cI, 6, .inl (upd bd k bo))), (ar, .inl (cI, 4, .inl row))] := hD
  exact W.vret hx hb hr (fun t ht hW => ⟨⟨u2, rfl, p7, by rw [ht]; exact hP, va_K.moved hW.alike hK, hD⟩, hS.F ht⟩) hS.2.2 dd_Problem_addLimit_20
abbrev qq_Problem_removeLimit (D : va_G) (cI cZ cL cQ : ClassId) (a : Nat) (al : Nat) (am : Nat) (aw : Nat) (ac : Nat) (ag : Nat) (ab : Nat) (n : Nat) (k : Nat) (i : Nat) (rw : Nat → Nat) (M : Nat → Nat → Int32) (bd : Nat → Int32) (A : Nat → Prop) : Array Value → State → Outcome → State → Prop := va_Qv (fun u : (Nat → Nat → Int32) × (Nat → Int32) => rl_ok M u.1 bd u.2 i (k - 1)) (fun (u : (Nat → Nat → Int32) × (Nat → Int32)) t => mm_B D kc_all [(cI, .int), (cZ, .boolean), (cL, .long), (cQ, .array .int)] A [(a, .inr (0, [.int (nI n), .int (nI (k - 1)), .ref al, .ref am, .ref aw, .ref ac, .ref ag, .ref ab])), (ag, .inl (cQ, 6, .inr (.inr (.inr (.inr (fun i9 => some (rw i9))))))), (rw 0, .inl (cI, 4, .inl (u.1 0))), (rw 1, .inl (cI, 4, .inl (u.1 1))), (rw 2, .inl (cI, 4, .inl (u.1 2))), (rw 3, .inl (cI, 4, .inl (u.1 3))), (rw 4, .inl (cI, 4, .inl (u.1 4))), (rw 5, .inl (cI, 4, .inl (u.1 5))), (ab, .inl (cI, 6, .inl u.2))] t) A
set_option maxHeartbeats 4000000 in
set_option maxRecDepth 100000 in
theorem cc_Problem_removeLimit (l : Launch) (D : va_G) (cI cZ cL cQ : ClassId) (sz : Nat) (a : Nat) (al : Nat) (am : Nat) (aw : Nat) (ac : Nat) (ag : Nat) (ab : Nat) (n : Nat) (k : Nat) (i : Nat) (rw : Nat → Nat) (M : Nat → Nat → Int32) (bd : Nat → Int32) (hk : k ≤ 6) (hi : i < k) : Met l yy_Problem_removeLimit ww_Problem_removeLimit ({ frames := 1, cells := 0, slots := 0, locals := 24 } : Room) (mm_Pc D kc_all [(cI, .int), (cZ, .boolean), (cL, .long), (cQ, .array .int)] sz [(a, .inr (0, [.int (nI n), .int (nI k), .ref al, .ref am, .ref aw, .ref ac, .ref ag, .ref ab])), (ag, .inl (cQ, 6, .inr (.inr (.inr (.inr (fun i9 => some (rw i9))))))), (rw 0, .inl (cI, 4, .inl (M 0))), (rw 1, .inl (cI, 4, .inl (M 1))), (rw 2, .inl (cI, 4, .inl (M 2))), (rw 3, .inl (cI, 4, .inl (M 3))), (rw 4, .inl (cI, 4, .inl (M 4))), (rw 5, .inl (cI, 4, .inl (M 5))), (ab, .inl (cI, 6, .inl bd))] [.ref a, .int (nI i)]) (qq_Problem_removeLimit D cI cZ cL cQ a al am aw ac ag ab n k i rw M bd (va_A [(a, .inr (0, [.int (nI n), .int (nI k), .ref al, .ref am, .ref aw, .ref ac, .ref ag, .ref ab])), (ag, .inl (cQ, 6, .inr (.inr (.inr (.inr (fun i9 => some (rw i9))))))), (rw 0, .inl (cI, 4, .inl (M 0))), (rw 1, .inl (cI, 4, .inl (M 1))), (rw 2, .inl (cI, 4, .inl (M 2))), (rw 3, .inl (cI, 4, .inl (M 3))), (rw 4, .inl (cI, 4, .inl (M 4))), (rw 5, .inl (cI, 4, .inl (M 5))), (ab, .inl (cI, 6, .inl bd))] sz)) 0 0 (va_A [(a, .inr (0, [.int (nI n), .int (nI k), .ref al, .ref am, .ref aw, .ref ac, .ref ag, .ref ab])), (ag, .inl (cQ, 6, .inr (.inr (.inr (.inr (fun i9 => some (rw i9))))))), (rw 0, .inl (cI, 4, .inl (M 0))), (rw 1, .inl (cI, 4, .inl (M 1))), (rw 2, .inl (cI, 4, .inl (M 2))), (rw 3, .inl (cI, 4, .inl (M 3))), (rw 4, .inl (cI, 4, .inl (M 4))), (rw 5, .inl (cI, 4, .inl (M 5))), (ab, .inl (cI, 6, .inl bd))] sz) := by
  refine Met.ofW (cc := bb_Problem_removeLimit) (maxL := 3) (ret := none) (by decide) rfl ?_
  intro p e s m args below meth c s₁ B hml hv
  obtain ⟨rfl, hsz, hP, hK, hD0⟩ := hv
  have hx := B.exec
  have hb := B.bytes
  have hr := B.returns
  have hts := atoms_spec (ws := ww_Problem_removeLimit) B.pre
  have hown : s.vm.findClass RR_Problem = some m.cls := findClass_of_methodNamed B.named
  have hlocks := B.notSynchronized
  subst hsz
  have hD := hD0.self (sz := s.heap.size)
  generalize hAe : va_A [(a, .inr (0, [.int (nI n), .int (nI k), .ref al, .ref am, .ref aw, .ref ac, .ref ag, .ref ab])), (ag, .inl (cQ, 6, .inr (.inr (.inr (.inr (fun i9 => some (rw i9))))))), (rw 0, .inl (cI, 4, .inl (M 0))), (rw 1, .inl (cI, 4, .inl (M 1))), (rw 2, .inl (cI, 4, .inl (M 2))), (rw 3, .inl (cI, 4, .inl (M 3))), (rw 4, .inl (cI, 4, .inl (M 4))), (rw 5, .inl (cI, 4, .inl (M 5))), (ab, .inl (cI, 6, .inl bd))] s.heap.size = A at hD ⊢
  have hA : ∀ q : Nat, s.heap.size ≤ q → A q := fun q h => by rw [← hAe]; exact Or.inr h
  have hS : va_S A s.heap s.heap [] := va_S.rf
  have hP : va_P D kc_all [(a, .inr (0, [.int (nI n), .int (nI k), .ref al, .ref am, .ref aw, .ref ac, .ref ag, .ref ab])), (ag, .inl (cQ, 6, .inr (.inr (.inr (.inr (fun i9 => some (rw i9))))))), (rw 0, .inl (cI, 4, .inl (M 0))), (rw 1, .inl (cI, 4, .inl (M 1))), (rw 2, .inl (cI, 4, .inl (M 2))), (rw 3, .inl (cI, 4, .inl (M 3))), (rw 4, .inl (cI, 4, .inl (M 4))), (rw 5, .inl (cI, 4, .inl (M 5))), (ab, .inl (cI, 6, .inl bd))] s.heap := hP
  have hl := lv_entry ([.ref a, .int (nI i)]) (n := 3) (Nat.le_of_ble_eq_true rfl)
  rw [lg_entry_eq]
  generalize (lg_sl ([.ref a, .int (nI i)]) ++ List.replicate (3 - (lg_sl ([.ref a, .int (nI i)])).length) Slot.unset).toArray = ls at hl ⊢
  have hl : lv_has ls 3 [(0, .ref a), (1, .int (nI i))] := hl
  have htb : ∀ w ∈ tb_all, w.before ([.ref a, .int (nI i)]).toArray s = true := fun w h => hts w (List.mem_cons_of_mem _ h)
  have hf_15 := htb _ fl_Problem_15
  have hf_34 := htb _ fl_Problem_34
  have hf_37 := htb _ fl_Problem_37
  refine lv_iload_n hx hb dd_Problem_removeLimit_0 rfl (lv_at hl 1 rfl) ?_
  refine lv_istore_n (lv' := [(2, .int (nI i)), (0, .ref a), (1, .int (nI i))]) hx hb dd_Problem_removeLimit_1 rfl hl (by decide) rfl (fun ls hl => ?_)
  have J2 : ∀ (N : Nat) (k1 : Nat) (M1 : Nat → Nat → Int32) (bd1 : Nat → Int32), (k - k1) < N → ∀ (ht9 : i ≤ k1 ∧ k1 < k) (hv : rl_ok M M1 bd bd1 i k1), ∀ (ls : Array Slot) (H : Heap) (locs : List Loc), lv_has ls 3 [(0, .ref a), (1, .int (nI i)), (2, .int (nI k1))] → va_P D kc_all [(a, .inr (0, [.int (nI n), .int (nI k), .ref al, .ref am, .ref aw, .ref ac, .ref ag, .ref ab])), (ag, .inl (cQ, 6, .inr (.inr (.inr (.inr (fun i9 => some (rw i9))))))), (rw 0, .inl (cI, 4, .inl (M1 0))), (rw 1, .inl (cI, 4, .inl (M1 1))), (rw 2, .inl (cI, 4, .inl (M1 2))), (rw 3, .inl (cI, 4, .inl (M1 3))), (rw 4, .inl (cI, 4, .inl (M1 4))), (rw 5, .inl (cI, 4, .inl (M1 5))), (ab, .inl (cI, 6, .inl bd1))] H → va_D A [(a, .inr (0, [.int (nI n), .int (nI k), .ref al, .ref am, .ref aw, .ref ac, .ref ag, .ref ab])), (ag, .inl (cQ, 6, .inr (.inr (.inr (.inr (fun i9 => some (rw i9))))))), (rw 0, .inl (cI, 4, .inl (M1 0))), (rw 1, .inl (cI, 4, .inl (M1 1))), (rw 2, .inl (cI, 4, .inl (M1 2))), (rw 3, .inl (cI, 4, .inl (M1 3))), (rw 4, .inl (cI, 4, .inl (M1 4))), (rw 5, .inl (cI, 4, .inl (M1 5))), (ab, .inl (cI, 6, .inl bd1))] → va_S A s.heap H locs → W p l e (headSpec ww_Problem_removeLimit ({ frames := 1, cells := 0, slots := 0, locals := 24 } : Room)).room s m ([.ref a, .int (nI i)]).toArray below meth c H locs 0 0 (MQ below (qq_Problem_removeLimit D cI cZ cL cQ a al am aw ac ag ab n k i rw M bd A) ([.ref a, .int (nI i)]).toArray s 0 0 A) (F0 m 2 ls []) := by
    intro N
    induction N with
    | zero => intro k1 M1 bd1 hN9; exact absurd hN9 (Nat.not_lt_zero _)
    | succ N IH2 =>
      intro k1 M1 bd1 hN9 ht9 hv ls H locs hl hP hD hS
      refine lv_iload_n hx hb dd_Problem_removeLimit_2 rfl (lv_at hl 2 rfl) ?_
      refine lv_iconst (v := 1) hx hb dd_Problem_removeLimit_3 (by decide) ?_
      refine lv_iadd hx hb dd_Problem_removeLimit_4 ?_
      refine mm_topi (y := nI (k1 + 1)) (nI_add k1 1) ?_
      refine lv_aload_n hx hb dd_Problem_removeLimit_5 rfl (lv_at hl 0 rfl) ?_
      refine va_get (D := D) (ci := 0) (v := .int (nI k)) (C := RR_Problem) (T := FF_Problem) (N := 8) hx hb htb hi_Problem hown hK hP 0 rfl rfl 1 (by decide) hf_15 (fun _ h9 => h9) rfl dd_Problem_removeLimit_6 ?_
      refine lv_icmp_ge (tgt := 39) hx hb dd_Problem_removeLimit_9 (by decide) (fun h9 => ?_) (fun h9 => ?_)
      · skip
        have h9 : k ≤ k1 + 1 := (nI_leI (a := k) (b := k1 + 1) (by omega) (by omega)).mp h9
        refine lv_aload_n hx hb dd_Problem_removeLimit_39 rfl (lv_at hl 0 rfl) ?_
        refine lv_dup hx hb dd_Problem_removeLimit_40 rfl ?_
        refine va_get (D := D) (ci := 0) (v := .int (nI k)) (C := RR_Problem) (T := FF_Problem) (N := 8) hx hb htb hi_Problem hown hK hP 0 rfl rfl 1 (by decide) hf_15 (fun _ h9 => h9) rfl dd_Problem_removeLimit_41 ?_
        refine lv_iconst (v := 1) hx hb dd_Problem_removeLimit_44 (by decide) ?_
        refine lv_isub hx hb dd_Problem_removeLimit_45 ?_
        refine mm_topi (y := nI (k - 1)) (pk_sub (a := k) (b := 1) (by omega)) ?_
        refine va_put (D := D) (ci := 0) (v := .int (nI (k - 1))) (ty := .int) (C := RR_Problem) (T := FF_Problem) (N := 8) hx hb htb hi_Problem tt_Problem tt_Problem_ok nn_Problem hown hK hP hD hS 0 rfl rfl 1 (by decide) hf_15 (fun _ h9 => h9) rfl (by decide +kernel) (rfl) (rfl) (Nat.le_of_ble_eq_true rfl) dd_Problem_removeLimit_46 (fun H locs hP hD hS => ?_)
        have hP : va_P D kc_all [(a, .inr (0, [.int (nI n), .int (nI (k - 1)), .ref al, .ref am, .ref aw, .ref ac, .ref ag, .ref ab])), (ag, .inl (cQ, 6, .inr (.inr (.inr (.inr (fun i9 => some (rw i9))))))), (rw 0, .inl (cI, 4, .inl (M1 0))), (rw 1, .inl (cI, 4, .inl (M1 1))), (rw 2, .inl (cI, 4, .inl (M1 2))), (rw 3, .inl (cI, 4, .inl (M1 3))), (rw 4, .inl (cI, 4, .inl (M1 4))), (rw 5, .inl (cI, 4, .inl (M1 5))), (ab, .inl (cI, 6, .inl bd1))] H := hP
        have hD : va_D A [(a, .inr (0, [.int (nI n), .int (nI (k - 1)), .ref al, .ref am, .ref aw, .ref ac, .ref ag, .ref ab])), (ag, .inl (cQ, 6, .inr (.inr (.inr (.inr (fun i9 => some (rw i9))))))), (rw 0, .inl (cI, 4, .inl (M1 0))), (rw 1, .inl (cI, 4, .inl (M1 1))), (rw 2, .inl (cI, 4, .inl (M1 2))), (rw 3, .inl (cI, 4, .inl (M1 3))), (rw 4, .inl (cI, 4, .inl (M1 4))), (rw 5, .inl (cI, 4, .inl (M1 5))), (ab, .inl (cI, 6, .inl bd1))] := hD
        exact W.vret hx hb hr (fun t ht hW => ⟨⟨(M1, bd1), rfl, by rw [show k - 1 = k1 by omega]; exact hv, by rw [ht]; exact hP, va_K.moved hW.alike hK, hD⟩, hS.F ht⟩) hS.2.2 dd_Problem_removeLimit_49
      · skip
        have h9 : ¬ (k ≤ k1 + 1) := fun q9 => h9 ((nI_leI (a := k) (b := k1 + 1) (by omega) (by omega)).mpr q9)
        refine lv_aload_n hx hb dd_Problem_removeLimit_12 rfl (lv_at hl 0 rfl) ?_
        refine lv_iload_n hx hb dd_Problem_removeLimit_13 rfl (lv_at hl 2 rfl) ?_
        refine lv_aload_n hx hb dd_Problem_removeLimit_14 rfl (lv_at hl 0 rfl) ?_
        refine va_get (D := D) (ci := 0) (v := .ref ag) (C := RR_Problem) (T := FF_Problem) (N := 8) hx hb htb hi_Problem hown hK hP 0 rfl rfl 6 (by decide) hf_34 (fun _ h9 => h9) rfl dd_Problem_removeLimit_15 ?_
        refine lv_iload_n hx hb dd_Problem_removeLimit_18 rfl (lv_at hl 2 rfl) ?_
        refine lv_iconst (v := 1) hx hb dd_Problem_removeLimit_19 (by decide) ?_
        refine lv_iadd hx hb dd_Problem_removeLimit_20 ?_
        refine mm_topi (y := nI (k1 + 1)) (nI_add k1 1) ?_
        refine mm_aald (r := rw (k1 + 1)) hx hb hK hP 1 3 rfl rfl (k1 + 1) (rfl) (by omega) (by decide) (rfl) dd_Problem_removeLimit_21 ?_
        refine lv_aload_n hx hb dd_Problem_removeLimit_22 rfl (lv_at hl 0 rfl) ?_
        refine va_get (D := D) (ci := 0) (v := .ref ab) (C := RR_Problem) (T := FF_Problem) (N := 8) hx hb htb hi_Problem hown hK hP 0 rfl rfl 7 (by decide) hf_37 (fun _ h9 => h9) rfl dd_Problem_removeLimit_23 ?_
        refine lv_iload_n hx hb dd_Problem_removeLimit_26 rfl (lv_at hl 2 rfl) ?_
        refine lv_iconst (v := 1) hx hb dd_Problem_removeLimit_27 (by decide) ?_
        refine lv_iadd hx hb dd_Problem_removeLimit_28 ?_
        refine mm_topi (y := nI (k1 + 1)) (nI_add k1 1) ?_
        refine mm_iald hx hb hK hP 8 0 rfl rfl (k1 + 1) (rfl) (by omega) (by decide) dd_Problem_removeLimit_29 ?_
        refine mm_v (wc := [(a, .inr (0, [.int (nI n), .int (nI k), .ref al, .ref am, .ref aw, .ref ac, .ref ag, .ref ab])), (ag, .inl (cQ, 6, .inr (.inr (.inr (.inr (fun i9 => some (rw i9))))))), (rw 0, .inl (cI, 4, .inl (M1 0))), (rw 1, .inl (cI, 4, .inl (M1 1))), (rw 2, .inl (cI, 4, .inl (M1 2))), (rw 3, .inl (cI, 4, .inl (M1 3))), (rw 4, .inl (cI, 4, .inl (M1 4))), (rw 5, .inl (cI, 4, .inl (M1 5))), (ab, .inl (cI, 6, .inl bd1))]) (wr := []) (va_runV (As := [.int (nI k1), .ref (rw (k1 + 1)), .int (bd1 (k1 + 1))]) (rest := []) (C := RR_Problem) ⟨hx, hb, hml, hown, hts⟩ (cc_Problem_setLimitR l D cI cZ cL cQ _ a al am aw ac ag ab n k k1 (k1 + 1) (bd1 (k1 + 1)) rw M1 bd1 (by omega) (by omega) (by omega)) (mm_cwV 3 hts ml_Problem_40 im_Problem_setLimit se_Problem_setLimit ic_Problem cd_Problem_setLimit rfl rfl (by decide +kernel) ⟨Nat.le_of_ble_eq_true rfl, Nat.le_of_ble_eq_true rfl⟩) (mm_preV hK hP hD [0, 1, 2, 3, 4, 5, 6, 7, 8] (by decide) rfl 0 rfl rfl) rfl rfl hl.1 rfl (lv_room (Nat.le_of_ble_eq_true rfl)) dd_Problem_removeLimit_30 ⟨Nat.zero_le _, Nat.zero_le _⟩) hP hD hS hA [0, 1, 2, 3, 4, 5, 6, 7, 8] [] rfl rfl (by decide) (by decide) (fun u2 H locs p30 hP hD hS => ?_)
        have hP : va_P D kc_all [(a, .inr (0, [.int (nI n), .int (nI k), .ref al, .ref am, .ref aw, .ref ac, .ref ag, .ref ab])), (ag, .inl (cQ, 6, .inr (.inr (.inr (.inr (fun i9 => some (rw i9))))))), (rw 0, .inl (cI, 4, .inl (u2 0))), (rw 1, .inl (cI, 4, .inl (u2 1))), (rw 2, .inl (cI, 4, .inl (u2 2))), (rw 3, .inl (cI, 4, .inl (u2 3))), (rw 4, .inl (cI, 4, .inl (u2 4))), (rw 5, .inl (cI, 4, .inl (u2 5))), (ab, .inl (cI, 6, .inl (upd bd1 k1 (bd1 (k1 + 1)))))] H := hP
        have hD : va_D A [(a, .inr (0, [.int (nI n), .int (nI k), .ref al, .ref am, .ref aw, .ref ac, .ref ag, .ref ab])), (ag, .inl (cQ, 6, .inr (.inr (.inr (.inr (fun i9 => some (rw i9))))))), (rw 0, .inl (cI, 4, .inl (u2 0))), (rw 1, .inl (cI, 4, .inl (u2 1))), (rw 2, .inl (cI, 4, .inl (u2 2))), (rw 3, .inl (cI, 4, .inl (u2 3))), (rw 4, .inl (cI, 4, .inl (u2 4))), (rw 5, .inl (cI, 4, .inl (u2 5))), (ab, .inl (cI, 6, .inl (upd bd1 k1 (bd1 (k1 + 1)))))] := hD
        have p30 : ∀ a9 c9, c9 < 4 → u2 a9 c9 = if a9 = k1 then M1 (k1 + 1) c9 else M1 a9 c9 := p30
        refine lv_iinc (k := 2) (v := nI (k1 + 1)) (lv' := [(2, .int (nI (k1 + 1))), (0, .ref a), (1, .int (nI i))]) hx hb dd_Problem_removeLimit_33 hl rfl (nI_1 _) (by decide) rfl (fun ls hl => ?_)
        refine lv_goto (tgt := 2) hx hb dd_Problem_removeLimit_36 (by decide) ?_
        exact IH2 (k1 + 1) u2 (upd bd1 k1 (bd1 (k1 + 1))) (by omega) (by omega) (rl_step (by omega) hv p30) ls H locs (lv_sub hl [1, 2, 0] rfl) hP hD hS
  exact J2 _ i M bd (Nat.lt_succ_self _) (by omega) (rl_0) ls _ _ (lv_sub hl [1, 2, 0] rfl) hP hD hS
abbrev qq_Problem_isWholeWhereDue (D : va_G) (cI cZ cL cQ : ClassId) (a : Nat) (al : Nat) (am : Nat) (aw : Nat) (ac : Nat) (ag : Nat) (ab : Nat) (n : Nat) (k : Nat) (ax : Nat) (qq : Int32) (wh : Nat → Int32) (x : Nat → Int32) (A : Nat → Prop) : Array Value → State → Outcome → State → Prop := va_Qi (fun (r : Int32) (u : Unit) => (wd_ok wh x qq n → r = 1) ∧ (¬ wd_ok wh x qq n → r = 0)) (fun (u : Unit) t => mm_B D kc_all [(cI, .int), (cZ, .boolean), (cL, .long), (cQ, .array .int)] A [(a, .inr (0, [.int (nI n), .int (nI k), .ref al, .ref am, .ref aw, .ref ac, .ref ag, .ref ab])), (aw, .inl (cZ, 4, .inl wh)), (ax, .inl (cI, 4, .inl x))] t) A
set_option maxHeartbeats 4000000 in
set_option maxRecDepth 100000 in
theorem cc_Problem_isWholeWhereDue (l : Launch) (D : va_G) (cI cZ cL cQ : ClassId) (sz : Nat) (a : Nat) (al : Nat) (am : Nat) (aw : Nat) (ac : Nat) (ag : Nat) (ab : Nat) (n : Nat) (k : Nat) (ax : Nat) (qq : Int32) (wh : Nat → Int32) (x : Nat → Int32) (hn : n ≤ 4) : Met l yy_Problem_isWholeWhereDue ww_Problem_isWholeWhereDue ({ frames := 0, cells := 0, slots := 0, locals := 0 } : Room) (mm_Pc D kc_all [(cI, .int), (cZ, .boolean), (cL, .long), (cQ, .array .int)] sz [(a, .inr (0, [.int (nI n), .int (nI k), .ref al, .ref am, .ref aw, .ref ac, .ref ag, .ref ab])), (aw, .inl (cZ, 4, .inl wh)), (ax, .inl (cI, 4, .inl x))] [.ref a, .ref ax, .int qq]) (qq_Problem_isWholeWhereDue D cI cZ cL cQ a al am aw ac ag ab n k ax qq wh x (va_A [(a, .inr (0, [.int (nI n), .int (nI k), .ref al, .ref am, .ref aw, .ref ac, .ref ag, .ref ab])), (aw, .inl (cZ, 4, .inl wh)), (ax, .inl (cI, 4, .inl x))] sz)) 0 0 (va_A [(a, .inr (0, [.int (nI n), .int (nI k), .ref al, .ref am, .ref aw, .ref ac, .ref ag, .ref ab])), (aw, .inl (cZ, 4, .inl wh)), (ax, .inl (cI, 4, .inl x))] sz) := by
  refine Met.ofW (cc := bb_Problem_isWholeWhereDue) (maxL := 4) (ret := (some .boolean)) (by decide) rfl ?_
  intro p e s m args below meth c s₁ B hml hv
  obtain ⟨rfl, hsz, hP, hK, hD0⟩ := hv
  have hx := B.exec
  have hb := B.bytes
  have hr := B.returns
  have hts := atoms_spec (ws := ww_Problem_isWholeWhereDue) B.pre
  have hown : s.vm.findClass RR_Problem = some m.cls := findClass_of_methodNamed B.named
  have hlocks := B.notSynchronized
  subst hsz
  have hD := hD0.self (sz := s.heap.size)
  generalize hAe : va_A [(a, .inr (0, [.int (nI n), .int (nI k), .ref al, .ref am, .ref aw, .ref ac, .ref ag, .ref ab])), (aw, .inl (cZ, 4, .inl wh)), (ax, .inl (cI, 4, .inl x))] s.heap.size = A at hD ⊢
  have hA : ∀ q : Nat, s.heap.size ≤ q → A q := fun q h => by rw [← hAe]; exact Or.inr h
  have hS : va_S A s.heap s.heap [] := va_S.rf
  have hP : va_P D kc_all [(a, .inr (0, [.int (nI n), .int (nI k), .ref al, .ref am, .ref aw, .ref ac, .ref ag, .ref ab])), (aw, .inl (cZ, 4, .inl wh)), (ax, .inl (cI, 4, .inl x))] s.heap := hP
  have hl := lv_entry ([.ref a, .ref ax, .int qq]) (n := 4) (Nat.le_of_ble_eq_true rfl)
  rw [lg_entry_eq]
  generalize (lg_sl ([.ref a, .ref ax, .int qq]) ++ List.replicate (4 - (lg_sl ([.ref a, .ref ax, .int qq])).length) Slot.unset).toArray = ls at hl ⊢
  have hl : lv_has ls 4 [(0, .ref a), (1, .ref ax), (2, .int qq)] := hl
  have htb : ∀ w ∈ tb_all, w.before ([.ref a, .ref ax, .int qq]).toArray s = true := fun w h => hts w (List.mem_cons_of_mem _ h)
  have hf_9 := htb _ fl_Problem_9
  have hf_25 := htb _ fl_Problem_25
  refine lv_iconst (v := 0) hx hb dd_Problem_isWholeWhereDue_0 (by decide) ?_
  refine lv_istore_n (lv' := [(3, .int (0 : Int32)), (0, .ref a), (1, .ref ax), (2, .int qq)]) hx hb dd_Problem_isWholeWhereDue_1 rfl hl (by decide) rfl (fun ls hl => ?_)
  have J2 : ∀ (N : Nat) (j : Nat), (n - j) < N → ∀ (hj : j ≤ n) (hv : wd_ok wh x qq j), ∀ (ls : Array Slot) (H : Heap) (locs : List Loc), lv_has ls 4 [(0, .ref a), (1, .ref ax), (2, .int qq), (3, .int (nI j))] → va_P D kc_all [(a, .inr (0, [.int (nI n), .int (nI k), .ref al, .ref am, .ref aw, .ref ac, .ref ag, .ref ab])), (aw, .inl (cZ, 4, .inl wh)), (ax, .inl (cI, 4, .inl x))] H → va_D A [(a, .inr (0, [.int (nI n), .int (nI k), .ref al, .ref am, .ref aw, .ref ac, .ref ag, .ref ab])), (aw, .inl (cZ, 4, .inl wh)), (ax, .inl (cI, 4, .inl x))] → va_S A s.heap H locs → W p l e (headSpec ww_Problem_isWholeWhereDue ({ frames := 0, cells := 0, slots := 0, locals := 0 } : Room)).room s m ([.ref a, .ref ax, .int qq]).toArray below meth c H locs 0 0 (MQ below (qq_Problem_isWholeWhereDue D cI cZ cL cQ a al am aw ac ag ab n k ax qq wh x A) ([.ref a, .ref ax, .int qq]).toArray s 0 0 A) (F0 m 2 ls []) := by
    intro N
    induction N with
    | zero => intro j hN9; exact absurd hN9 (Nat.not_lt_zero _)
    | succ N IH2 =>
      intro j hN9 hj hv ls H locs hl hP hD hS
      refine lv_iload_n hx hb dd_Problem_isWholeWhereDue_2 rfl (lv_at hl 3 rfl) ?_
      refine lv_aload_n hx hb dd_Problem_isWholeWhereDue_3 rfl (lv_at hl 0 rfl) ?_
      refine va_get (D := D) (ci := 0) (v := .int (nI n)) (C := RR_Problem) (T := FF_Problem) (N := 8) hx hb htb hi_Problem hown hK hP 0 rfl rfl 0 (by decide) hf_9 (fun _ h9 => h9) rfl dd_Problem_isWholeWhereDue_4 ?_
      refine lv_icmp_ge (tgt := 39) hx hb dd_Problem_isWholeWhereDue_7 (by decide) (fun h7 => ?_) (fun h7 => ?_)
      · skip
        have h7 : n ≤ j := (nI_leI (a := n) (b := j) (by omega) (by omega)).mp h7
        refine lv_iconst (v := 1) hx hb dd_Problem_isWholeWhereDue_39 (by decide) ?_
        exact W.zret (v := (1 : Int32)) hx hb hr (rfl) (fun t ht hW => ⟨⟨(1 : Int32), (), rfl, ⟨fun _ => rfl, fun hh => absurd ((show j = n by omega) ▸ hv) hh⟩, by rw [ht]; exact hP, va_K.moved hW.alike hK, hD⟩, hS.F ht⟩) hS.2.2 dd_Problem_isWholeWhereDue_40
      · skip
        have h7 : ¬ (n ≤ j) := fun q9 => h7 ((nI_leI (a := n) (b := j) (by omega) (by omega)).mpr q9)
        refine lv_aload_n hx hb dd_Problem_isWholeWhereDue_10 rfl (lv_at hl 0 rfl) ?_
        refine va_get (D := D) (ci := 0) (v := .ref aw) (C := RR_Problem) (T := FF_Problem) (N := 8) hx hb htb hi_Problem hown hK hP 0 rfl rfl 4 (by decide) hf_25 (fun _ h9 => h9) rfl dd_Problem_isWholeWhereDue_11 ?_
        refine lv_iload_n hx hb dd_Problem_isWholeWhereDue_14 rfl (lv_at hl 3 rfl) ?_
        refine mm_zald hx hb hK hP 1 1 rfl rfl (j) (rfl) (by omega) (by decide) dd_Problem_isWholeWhereDue_15 ?_
        refine lv_if_eq (tgt := 33) hx hb dd_Problem_isWholeWhereDue_16 (by decide) (fun h16 => ?_) (fun h16 => ?_)
        · skip
          refine lv_iinc (k := 3) (v := nI (j + 1)) (lv' := [(3, .int (nI (j + 1))), (0, .ref a), (1, .ref ax), (2, .int qq)]) hx hb dd_Problem_isWholeWhereDue_33 hl rfl (nI_1 _) (by decide) rfl (fun ls hl => ?_)
          refine lv_goto (tgt := 2) hx hb dd_Problem_isWholeWhereDue_36 (by decide) ?_
          exact IH2 (j + 1) (by omega) (by omega) (by intro i9 g9 g8 g7; rcases Nat.lt_or_eq_of_le (Nat.le_of_lt_succ g9) with h | rfl; exact hv i9 h g8 g7; first | exact absurd h16 g8 | exact absurd h20 g7 | exact h28) ls H locs (lv_sub hl [1, 2, 3, 0] rfl) hP hD hS
        · skip
          refine lv_iload_n hx hb dd_Problem_isWholeWhereDue_19 rfl (lv_at hl 2 rfl) ?_
          refine lv_if_eq (tgt := 33) hx hb dd_Problem_isWholeWhereDue_20 (by decide) (fun h20 => ?_) (fun h20 => ?_)
          · skip
            refine lv_iinc (k := 3) (v := nI (j + 1)) (lv' := [(3, .int (nI (j + 1))), (0, .ref a), (1, .ref ax), (2, .int qq)]) hx hb dd_Problem_isWholeWhereDue_33 hl rfl (nI_1 _) (by decide) rfl (fun ls hl => ?_)
            refine lv_goto (tgt := 2) hx hb dd_Problem_isWholeWhereDue_36 (by decide) ?_
            exact IH2 (j + 1) (by omega) (by omega) (by intro i9 g9 g8 g7; rcases Nat.lt_or_eq_of_le (Nat.le_of_lt_succ g9) with h | rfl; exact hv i9 h g8 g7; first | exact absurd h16 g8 | exact absurd h20 g7 | exact h28) ls H locs (lv_sub hl [1, 2, 3, 0] rfl) hP hD hS
          · skip
            refine lv_aload_n hx hb dd_Problem_isWholeWhereDue_23 rfl (lv_at hl 1 rfl) ?_
            refine lv_iload_n hx hb dd_Problem_isWholeWhereDue_24 rfl (lv_at hl 3 rfl) ?_
            refine mm_iald hx hb hK hP 2 0 rfl rfl (j) (rfl) (by omega) (by decide) dd_Problem_isWholeWhereDue_25 ?_
            refine lv_iload_n hx hb dd_Problem_isWholeWhereDue_26 rfl (lv_at hl 2 rfl) ?_
            refine lv_irem hx hb dd_Problem_isWholeWhereDue_27 (by assumption) ?_
            refine lv_if_eq (tgt := 33) hx hb dd_Problem_isWholeWhereDue_28 (by decide) (fun h28 => ?_) (fun h28 => ?_)
            · skip
              refine lv_iinc (k := 3) (v := nI (j + 1)) (lv' := [(3, .int (nI (j + 1))), (0, .ref a), (1, .ref ax), (2, .int qq)]) hx hb dd_Problem_isWholeWhereDue_33 hl rfl (nI_1 _) (by decide) rfl (fun ls hl => ?_)
              refine lv_goto (tgt := 2) hx hb dd_Problem_isWholeWhereDue_36 (by decide) ?_
              exact IH2 (j + 1) (by omega) (by omega) (by intro i9 g9 g8 g7; rcases Nat.lt_or_eq_of_le (Nat.le_of_lt_succ g9) with h | rfl; exact hv i9 h g8 g7; first | exact absurd h16 g8 | exact absurd h20 g7 | exact h28) ls H locs (lv_sub hl [1, 2, 3, 0] rfl) hP hD hS
            · skip
              refine lv_iconst (v := 0) hx hb dd_Problem_isWholeWhereDue_31 (by decide) ?_
              exact W.zret (v := (0 : Int32)) hx hb hr (rfl) (fun t ht hW => ⟨⟨(0 : Int32), (), rfl, ⟨fun hh => absurd (hh j (by omega) h16 h20) h28, fun _ => rfl⟩, by rw [ht]; exact hP, va_K.moved hW.alike hK, hD⟩, hS.F ht⟩) hS.2.2 dd_Problem_isWholeWhereDue_32
  exact J2 _ 0 (Nat.lt_succ_self _) (by omega) (fun _ h => absurd h (Nat.not_lt_zero _)) ls _ _ (lv_sub hl [1, 2, 3, 0] rfl) hP hD hS
abbrev qq_Problem_isKept (D : va_G) (cI cZ cL cQ : ClassId) (a : Nat) (al : Nat) (am : Nat) (aw : Nat) (ac : Nat) (ag : Nat) (ab : Nat) (n : Nat) (k : Nat) (ax : Nat) (qq : Int32) (lo : Nat → Int32) (hi : Nat → Int32) (rw : Nat → Nat) (M : Nat → Nat → Int32) (bd : Nat → Int32) (x : Nat → Int32) (A : Nat → Prop) : Array Value → State → Outcome → State → Prop := va_Qi (fun (r : Int32) (u : Unit) => (kp_ok lo hi M bd x qq n k → r = 1) ∧ (¬ kp_ok lo hi M bd x qq n k → r = 0)) (fun (u : Unit) t => mm_B D kc_all [(cI, .int), (cZ, .boolean), (cL, .long), (cQ, .array .int)] A [(a, .inr (0, [.int (nI n), .int (nI k), .ref al, .ref am, .ref aw, .ref ac, .ref ag, .ref ab])), (al, .inl (cI, 4, .inl lo)), (am, .inl (cI, 4, .inl hi)), (ag, .inl (cQ, 6, .inr (.inr (.inr (.inr (fun i9 => some (rw i9))))))), (rw 0, .inl (cI, 4, .inl (M 0))), (rw 1, .inl (cI, 4, .inl (M 1))), (rw 2, .inl (cI, 4, .inl (M 2))), (rw 3, .inl (cI, 4, .inl (M 3))), (rw 4, .inl (cI, 4, .inl (M 4))), (rw 5, .inl (cI, 4, .inl (M 5))), (ab, .inl (cI, 6, .inl bd)), (ax, .inl (cI, 4, .inl x))] t) A
set_option maxHeartbeats 4000000 in
set_option maxRecDepth 100000 in
theorem cc_Problem_isKept (l : Launch) (D : va_G) (cI cZ cL cQ : ClassId) (sz : Nat) (a : Nat) (al : Nat) (am : Nat) (aw : Nat) (ac : Nat) (ag : Nat) (ab : Nat) (n : Nat) (k : Nat) (ax : Nat) (qq : Int32) (lo : Nat → Int32) (hi : Nat → Int32) (rw : Nat → Nat) (M : Nat → Nat → Int32) (bd : Nat → Int32) (x : Nat → Int32) (hn : n ≤ 4) (hk : k ≤ 6) : Met l yy_Problem_isKept ww_Problem_isKept ({ frames := 1, cells := 0, slots := 0, locals := 25 } : Room) (mm_Pc D kc_all [(cI, .int), (cZ, .boolean), (cL, .long), (cQ, .array .int)] sz [(a, .inr (0, [.int (nI n), .int (nI k), .ref al, .ref am, .ref aw, .ref ac, .ref ag, .ref ab])), (al, .inl (cI, 4, .inl lo)), (am, .inl (cI, 4, .inl hi)), (ag, .inl (cQ, 6, .inr (.inr (.inr (.inr (fun i9 => some (rw i9))))))), (rw 0, .inl (cI, 4, .inl (M 0))), (rw 1, .inl (cI, 4, .inl (M 1))), (rw 2, .inl (cI, 4, .inl (M 2))), (rw 3, .inl (cI, 4, .inl (M 3))), (rw 4, .inl (cI, 4, .inl (M 4))), (rw 5, .inl (cI, 4, .inl (M 5))), (ab, .inl (cI, 6, .inl bd)), (ax, .inl (cI, 4, .inl x))] [.ref a, .ref ax, .int qq]) (qq_Problem_isKept D cI cZ cL cQ a al am aw ac ag ab n k ax qq lo hi rw M bd x (va_A [(a, .inr (0, [.int (nI n), .int (nI k), .ref al, .ref am, .ref aw, .ref ac, .ref ag, .ref ab])), (al, .inl (cI, 4, .inl lo)), (am, .inl (cI, 4, .inl hi)), (ag, .inl (cQ, 6, .inr (.inr (.inr (.inr (fun i9 => some (rw i9))))))), (rw 0, .inl (cI, 4, .inl (M 0))), (rw 1, .inl (cI, 4, .inl (M 1))), (rw 2, .inl (cI, 4, .inl (M 2))), (rw 3, .inl (cI, 4, .inl (M 3))), (rw 4, .inl (cI, 4, .inl (M 4))), (rw 5, .inl (cI, 4, .inl (M 5))), (ab, .inl (cI, 6, .inl bd)), (ax, .inl (cI, 4, .inl x))] sz)) 0 0 (va_A [(a, .inr (0, [.int (nI n), .int (nI k), .ref al, .ref am, .ref aw, .ref ac, .ref ag, .ref ab])), (al, .inl (cI, 4, .inl lo)), (am, .inl (cI, 4, .inl hi)), (ag, .inl (cQ, 6, .inr (.inr (.inr (.inr (fun i9 => some (rw i9))))))), (rw 0, .inl (cI, 4, .inl (M 0))), (rw 1, .inl (cI, 4, .inl (M 1))), (rw 2, .inl (cI, 4, .inl (M 2))), (rw 3, .inl (cI, 4, .inl (M 3))), (rw 4, .inl (cI, 4, .inl (M 4))), (rw 5, .inl (cI, 4, .inl (M 5))), (ab, .inl (cI, 6, .inl bd)), (ax, .inl (cI, 4, .inl x))] sz) := by
  refine Met.ofW (cc := bb_Problem_isKept) (maxL := 4) (ret := (some .boolean)) (by decide) rfl ?_
  intro p e s m args below meth c s₁ B hml hv
  obtain ⟨rfl, hsz, hP, hK, hD0⟩ := hv
  have hx := B.exec
  have hb := B.bytes
  have hr := B.returns
  have hts := atoms_spec (ws := ww_Problem_isKept) B.pre
  have hown : s.vm.findClass RR_Problem = some m.cls := findClass_of_methodNamed B.named
  have hlocks := B.notSynchronized
  subst hsz
  have hD := hD0.self (sz := s.heap.size)
  generalize hAe : va_A [(a, .inr (0, [.int (nI n), .int (nI k), .ref al, .ref am, .ref aw, .ref ac, .ref ag, .ref ab])), (al, .inl (cI, 4, .inl lo)), (am, .inl (cI, 4, .inl hi)), (ag, .inl (cQ, 6, .inr (.inr (.inr (.inr (fun i9 => some (rw i9))))))), (rw 0, .inl (cI, 4, .inl (M 0))), (rw 1, .inl (cI, 4, .inl (M 1))), (rw 2, .inl (cI, 4, .inl (M 2))), (rw 3, .inl (cI, 4, .inl (M 3))), (rw 4, .inl (cI, 4, .inl (M 4))), (rw 5, .inl (cI, 4, .inl (M 5))), (ab, .inl (cI, 6, .inl bd)), (ax, .inl (cI, 4, .inl x))] s.heap.size = A at hD ⊢
  have hA : ∀ q : Nat, s.heap.size ≤ q → A q := fun q h => by rw [← hAe]; exact Or.inr h
  have hS : va_S A s.heap s.heap [] := va_S.rf
  have hP : va_P D kc_all [(a, .inr (0, [.int (nI n), .int (nI k), .ref al, .ref am, .ref aw, .ref ac, .ref ag, .ref ab])), (al, .inl (cI, 4, .inl lo)), (am, .inl (cI, 4, .inl hi)), (ag, .inl (cQ, 6, .inr (.inr (.inr (.inr (fun i9 => some (rw i9))))))), (rw 0, .inl (cI, 4, .inl (M 0))), (rw 1, .inl (cI, 4, .inl (M 1))), (rw 2, .inl (cI, 4, .inl (M 2))), (rw 3, .inl (cI, 4, .inl (M 3))), (rw 4, .inl (cI, 4, .inl (M 4))), (rw 5, .inl (cI, 4, .inl (M 5))), (ab, .inl (cI, 6, .inl bd)), (ax, .inl (cI, 4, .inl x))] s.heap := hP
  have hl := lv_entry ([.ref a, .ref ax, .int qq]) (n := 4) (Nat.le_of_ble_eq_true rfl)
  rw [lg_entry_eq]
  generalize (lg_sl ([.ref a, .ref ax, .int qq]) ++ List.replicate (4 - (lg_sl ([.ref a, .ref ax, .int qq])).length) Slot.unset).toArray = ls at hl ⊢
  have hl : lv_has ls 4 [(0, .ref a), (1, .ref ax), (2, .int qq)] := hl
  have htb : ∀ w ∈ tb_all, w.before ([.ref a, .ref ax, .int qq]).toArray s = true := fun w h => hts w (List.mem_cons_of_mem _ h)
  have hf_9 := htb _ fl_Problem_9
  have hf_15 := htb _ fl_Problem_15
  have hf_18 := htb _ fl_Problem_18
  have hf_22 := htb _ fl_Problem_22
  have hf_34 := htb _ fl_Problem_34
  have hf_37 := htb _ fl_Problem_37
  refine lv_iconst (v := 0) hx hb dd_Problem_isKept_0 (by decide) ?_
  refine lv_istore_n (lv' := [(3, .int (0 : Int32)), (0, .ref a), (1, .ref ax), (2, .int qq)]) hx hb dd_Problem_isKept_1 rfl hl (by decide) rfl (fun ls hl => ?_)
  have J2 : ∀ (N : Nat) (j : Nat), (n - j) < N → ∀ (hj : j ≤ n) (hv : kb_ok lo hi x qq j), ∀ (ls : Array Slot) (H : Heap) (locs : List Loc), lv_has ls 4 [(0, .ref a), (1, .ref ax), (2, .int qq), (3, .int (nI j))] → va_P D kc_all [(a, .inr (0, [.int (nI n), .int (nI k), .ref al, .ref am, .ref aw, .ref ac, .ref ag, .ref ab])), (al, .inl (cI, 4, .inl lo)), (am, .inl (cI, 4, .inl hi)), (ag, .inl (cQ, 6, .inr (.inr (.inr (.inr (fun i9 => some (rw i9))))))), (rw 0, .inl (cI, 4, .inl (M 0))), (rw 1, .inl (cI, 4, .inl (M 1))), (rw 2, .inl (cI, 4, .inl (M 2))), (rw 3, .inl (cI, 4, .inl (M 3))), (rw 4, .inl (cI, 4, .inl (M 4))), (rw 5, .inl (cI, 4, .inl (M 5))), (ab, .inl (cI, 6, .inl bd)), (ax, .inl (cI, 4, .inl x))] H → va_D A [(a, .inr (0, [.int (nI n), .int (nI k), .ref al, .ref am, .ref aw, .ref ac, .ref ag, .ref ab])), (al, .inl (cI, 4, .inl lo)), (am, .inl (cI, 4, .inl hi)), (ag, .inl (cQ, 6, .inr (.inr (.inr (.inr (fun i9 => some (rw i9))))))), (rw 0, .inl (cI, 4, .inl (M 0))), (rw 1, .inl (cI, 4, .inl (M 1))), (rw 2, .inl (cI, 4, .inl (M 2))), (rw 3, .inl (cI, 4, .inl (M 3))), (rw 4, .inl (cI, 4, .inl (M 4))), (rw 5, .inl (cI, 4, .inl (M 5))), (ab, .inl (cI, 6, .inl bd)), (ax, .inl (cI, 4, .inl x))] → va_S A s.heap H locs → W p l e (headSpec ww_Problem_isKept ({ frames := 1, cells := 0, slots := 0, locals := 25 } : Room)).room s m ([.ref a, .ref ax, .int qq]).toArray below meth c H locs 0 0 (MQ below (qq_Problem_isKept D cI cZ cL cQ a al am aw ac ag ab n k ax qq lo hi rw M bd x A) ([.ref a, .ref ax, .int qq]).toArray s 0 0 A) (F0 m 2 ls []) := by
    intro N
    induction N with
    | zero => intro j hN9; exact absurd hN9 (Nat.not_lt_zero _)
    | succ N IH2 =>
      intro j hN9 hj hv ls H locs hl hP hD hS
      refine lv_iload_n hx hb dd_Problem_isKept_2 rfl (lv_at hl 3 rfl) ?_
      refine lv_aload_n hx hb dd_Problem_isKept_3 rfl (lv_at hl 0 rfl) ?_
      refine va_get (D := D) (ci := 0) (v := .int (nI n)) (C := RR_Problem) (T := FF_Problem) (N := 8) hx hb htb hi_Problem hown hK hP 0 rfl rfl 0 (by decide) hf_9 (fun _ h9 => h9) rfl dd_Problem_isKept_4 ?_
      refine lv_icmp_ge (tgt := 54) hx hb dd_Problem_isKept_7 (by decide) (fun h7 => ?_) (fun h7 => ?_)
      · skip
        have h7 : n ≤ j := (nI_leI (a := n) (b := j) (by omega) (by omega)).mp h7
        refine lv_iconst (v := 0) hx hb dd_Problem_isKept_54 (by decide) ?_
        refine lv_istore_n (lv' := [(3, .int (0 : Int32)), (0, .ref a), (1, .ref ax), (2, .int qq)]) hx hb dd_Problem_isKept_55 rfl hl (by decide) rfl (fun ls hl => ?_)
        have J56 : ∀ (N : Nat) (i : Nat), (k - i) < N → ∀ (hi9 : i ≤ k) (hw : kl_ok M bd x qq n i), ∀ (ls : Array Slot) (H : Heap) (locs : List Loc), lv_has ls 4 [(0, .ref a), (1, .ref ax), (2, .int qq), (3, .int (nI i))] → va_P D kc_all [(a, .inr (0, [.int (nI n), .int (nI k), .ref al, .ref am, .ref aw, .ref ac, .ref ag, .ref ab])), (al, .inl (cI, 4, .inl lo)), (am, .inl (cI, 4, .inl hi)), (ag, .inl (cQ, 6, .inr (.inr (.inr (.inr (fun i9 => some (rw i9))))))), (rw 0, .inl (cI, 4, .inl (M 0))), (rw 1, .inl (cI, 4, .inl (M 1))), (rw 2, .inl (cI, 4, .inl (M 2))), (rw 3, .inl (cI, 4, .inl (M 3))), (rw 4, .inl (cI, 4, .inl (M 4))), (rw 5, .inl (cI, 4, .inl (M 5))), (ab, .inl (cI, 6, .inl bd)), (ax, .inl (cI, 4, .inl x))] H → va_D A [(a, .inr (0, [.int (nI n), .int (nI k), .ref al, .ref am, .ref aw, .ref ac, .ref ag, .ref ab])), (al, .inl (cI, 4, .inl lo)), (am, .inl (cI, 4, .inl hi)), (ag, .inl (cQ, 6, .inr (.inr (.inr (.inr (fun i9 => some (rw i9))))))), (rw 0, .inl (cI, 4, .inl (M 0))), (rw 1, .inl (cI, 4, .inl (M 1))), (rw 2, .inl (cI, 4, .inl (M 2))), (rw 3, .inl (cI, 4, .inl (M 3))), (rw 4, .inl (cI, 4, .inl (M 4))), (rw 5, .inl (cI, 4, .inl (M 5))), (ab, .inl (cI, 6, .inl bd)), (ax, .inl (cI, 4, .inl x))] → va_S A s.heap H locs → W p l e (headSpec ww_Problem_isKept ({ frames := 1, cells := 0, slots := 0, locals := 25 } : Room)).room s m ([.ref a, .ref ax, .int qq]).toArray below meth c H locs 0 0 (MQ below (qq_Problem_isKept D cI cZ cL cQ a al am aw ac ag ab n k ax qq lo hi rw M bd x A) ([.ref a, .ref ax, .int qq]).toArray s 0 0 A) (F0 m 56 ls []) := by
          intro N
          induction N with
          | zero => intro i hN9; exact absurd hN9 (Nat.not_lt_zero _)
          | succ N IH56 =>
            intro i hN9 hi9 hw ls H locs hl hP hD hS
            refine lv_iload_n hx hb dd_Problem_isKept_56 rfl (lv_at hl 3 rfl) ?_
            refine lv_aload_n hx hb dd_Problem_isKept_57 rfl (lv_at hl 0 rfl) ?_
            refine va_get (D := D) (ci := 0) (v := .int (nI k)) (C := RR_Problem) (T := FF_Problem) (N := 8) hx hb htb hi_Problem hown hK hP 0 rfl rfl 1 (by decide) hf_15 (fun _ h9 => h9) rfl dd_Problem_isKept_58 ?_
            refine lv_icmp_ge (tgt := 97) hx hb dd_Problem_isKept_61 (by decide) (fun h61 => ?_) (fun h61 => ?_)
            · skip
              have h61 : k ≤ i := (nI_leI (a := k) (b := i) (by omega) (by omega)).mp h61
              refine lv_iconst (v := 1) hx hb dd_Problem_isKept_97 (by decide) ?_
              exact W.zret (v := (1 : Int32)) hx hb hr (rfl) (fun t ht hW => ⟨⟨(1 : Int32), (), rfl, ⟨fun _ => rfl, fun hh => absurd ⟨(show j = n by omega) ▸ hv, (show i = k by omega) ▸ hw⟩ hh⟩, by rw [ht]; exact hP, va_K.moved hW.alike hK, hD⟩, hS.F ht⟩) hS.2.2 dd_Problem_isKept_98
            · skip
              have h61 : ¬ (k ≤ i) := fun q9 => h61 ((nI_leI (a := k) (b := i) (by omega) (by omega)).mpr q9)
              refine lv_aload_n hx hb dd_Problem_isKept_64 rfl (lv_at hl 0 rfl) ?_
              refine lv_aload_n hx hb dd_Problem_isKept_65 rfl (lv_at hl 0 rfl) ?_
              refine va_get (D := D) (ci := 0) (v := .ref ag) (C := RR_Problem) (T := FF_Problem) (N := 8) hx hb htb hi_Problem hown hK hP 0 rfl rfl 6 (by decide) hf_34 (fun _ h9 => h9) rfl dd_Problem_isKept_66 ?_
              refine lv_iload_n hx hb dd_Problem_isKept_69 rfl (lv_at hl 3 rfl) ?_
              refine mm_aald (r := rw i) hx hb hK hP 3 3 rfl rfl (i) (rfl) (by omega) (by decide) (rfl) dd_Problem_isKept_70 ?_
              refine lv_aload_n hx hb dd_Problem_isKept_71 rfl (lv_at hl 1 rfl) ?_
              refine mm_l (wc := [(a, .inr (0, [.int (nI n), .int (nI k), .ref al, .ref am, .ref aw, .ref ac, .ref ag, .ref ab])), (rw 0, .inl (cI, 4, .inl (M 0))), (rw 1, .inl (cI, 4, .inl (M 1))), (rw 2, .inl (cI, 4, .inl (M 2))), (rw 3, .inl (cI, 4, .inl (M 3))), (rw 4, .inl (cI, 4, .inl (M 4))), (rw 5, .inl (cI, 4, .inl (M 5))), (ax, .inl (cI, 4, .inl x))]) (wr := [(al, .inl (cI, 4, .inl lo)), (am, .inl (cI, 4, .inl hi)), (ag, .inl (cQ, 6, .inr (.inr (.inr (.inr (fun i9 => some (rw i9))))))), (ab, .inl (cI, 6, .inl bd))]) (va_runV (As := [.ref (rw i), .ref ax]) (rest := []) (C := RR_Problem) ⟨hx, hb, hml, hown, hts⟩ (cc_Problem_weighR l D cI cZ cL cQ _ a al am aw ac ag ab n k i ax rw M x (by omega) (by omega)) (mm_cwV 2 hts ml_Problem_44 im_Problem_weigh se_Problem_weigh ic_Problem cd_Problem_weigh rfl rfl (by decide +kernel) ⟨Nat.le_of_ble_eq_true rfl, Nat.le_of_ble_eq_true rfl⟩) (mm_preV hK hP hD [0, 4, 5, 6, 7, 8, 9, 11] (by decide) rfl 0 rfl rfl) rfl rfl hl.1 rfl (lv_room (Nat.le_of_ble_eq_true rfl)) dd_Problem_isKept_72 ⟨Nat.zero_le _, Nat.zero_le _⟩) hP hD hS hA [0, 4, 5, 6, 7, 8, 9, 11] [1, 2, 3, 10] rfl rfl (by decide) (by decide) (fun r1 u2 H locs p72 hP hD hS => ?_)
              have hP : va_P D kc_all [(al, .inl (cI, 4, .inl lo)), (am, .inl (cI, 4, .inl hi)), (ag, .inl (cQ, 6, .inr (.inr (.inr (.inr (fun i9 => some (rw i9))))))), (ab, .inl (cI, 6, .inl bd)), (a, .inr (0, [.int (nI n), .int (nI k), .ref al, .ref am, .ref aw, .ref ac, .ref ag, .ref ab])), (rw 0, .inl (cI, 4, .inl (M 0))), (rw 1, .inl (cI, 4, .inl (M 1))), (rw 2, .inl (cI, 4, .inl (M 2))), (rw 3, .inl (cI, 4, .inl (M 3))), (rw 4, .inl (cI, 4, .inl (M 4))), (rw 5, .inl (cI, 4, .inl (M 5))), (ax, .inl (cI, 4, .inl x))] H := hP
              have hD : va_D A [(al, .inl (cI, 4, .inl lo)), (am, .inl (cI, 4, .inl hi)), (ag, .inl (cQ, 6, .inr (.inr (.inr (.inr (fun i9 => some (rw i9))))))), (ab, .inl (cI, 6, .inl bd)), (a, .inr (0, [.int (nI n), .int (nI k), .ref al, .ref am, .ref aw, .ref ac, .ref ag, .ref ab])), (rw 0, .inl (cI, 4, .inl (M 0))), (rw 1, .inl (cI, 4, .inl (M 1))), (rw 2, .inl (cI, 4, .inl (M 2))), (rw 3, .inl (cI, 4, .inl (M 3))), (rw 4, .inl (cI, 4, .inl (M 4))), (rw 5, .inl (cI, 4, .inl (M 5))), (ax, .inl (cI, 4, .inl x))] := hD
              have hP : va_P D kc_all [(a, .inr (0, [.int (nI n), .int (nI k), .ref al, .ref am, .ref aw, .ref ac, .ref ag, .ref ab])), (al, .inl (cI, 4, .inl lo)), (am, .inl (cI, 4, .inl hi)), (ag, .inl (cQ, 6, .inr (.inr (.inr (.inr (fun i9 => some (rw i9))))))), (rw 0, .inl (cI, 4, .inl (M 0))), (rw 1, .inl (cI, 4, .inl (M 1))), (rw 2, .inl (cI, 4, .inl (M 2))), (rw 3, .inl (cI, 4, .inl (M 3))), (rw 4, .inl (cI, 4, .inl (M 4))), (rw 5, .inl (cI, 4, .inl (M 5))), (ab, .inl (cI, 6, .inl bd)), (ax, .inl (cI, 4, .inl x))] H := hP.sub [4, 0, 1, 2, 5, 6, 7, 8, 9, 10, 3, 11] rfl
              have hD : va_D A [(a, .inr (0, [.int (nI n), .int (nI k), .ref al, .ref am, .ref aw, .ref ac, .ref ag, .ref ab])), (al, .inl (cI, 4, .inl lo)), (am, .inl (cI, 4, .inl hi)), (ag, .inl (cQ, 6, .inr (.inr (.inr (.inr (fun i9 => some (rw i9))))))), (rw 0, .inl (cI, 4, .inl (M 0))), (rw 1, .inl (cI, 4, .inl (M 1))), (rw 2, .inl (cI, 4, .inl (M 2))), (rw 3, .inl (cI, 4, .inl (M 3))), (rw 4, .inl (cI, 4, .inl (M 4))), (rw 5, .inl (cI, 4, .inl (M 5))), (ab, .inl (cI, 6, .inl bd)), (ax, .inl (cI, 4, .inl x))] := hD.sub [4, 0, 1, 2, 5, 6, 7, 8, 9, 10, 3, 11] (by decide) rfl
              have p72 : r1 = wg_sum (M i) x n := p72
              refine mm_topl (y := wg_sum (M i) x n) (p72) ?_
              refine lv_aload_n hx hb dd_Problem_isKept_75 rfl (lv_at hl 0 rfl) ?_
              refine va_get (D := D) (ci := 0) (v := .ref ab) (C := RR_Problem) (T := FF_Problem) (N := 8) hx hb htb hi_Problem hown hK hP 0 rfl rfl 7 (by decide) hf_37 (fun _ h9 => h9) rfl dd_Problem_isKept_76 ?_
              refine lv_iload_n hx hb dd_Problem_isKept_79 rfl (lv_at hl 3 rfl) ?_
              refine mm_iald hx hb hK hP 10 0 rfl rfl (i) (rfl) (by omega) (by decide) dd_Problem_isKept_80 ?_
              refine lv_i2l (v := (bd i).toInt64) hx hb dd_Problem_isKept_81 rfl ?_
              refine lv_iload_n hx hb dd_Problem_isKept_82 rfl (lv_at hl 2 rfl) ?_
              refine lv_i2l (v := qq.toInt64) hx hb dd_Problem_isKept_83 rfl ?_
              refine lv_lmul hx hb dd_Problem_isKept_84 ?_
              refine W.lcmp hx hb dd_Problem_isKept_85 ?_
              refine lv_if_le (tgt := 91) hx hb dd_Problem_isKept_86 (by decide) (fun h86 => ?_) (fun h86 => ?_)
              · skip
                rw [lg_cmp_le (wg_sum (M i) x n) (((bd i).toInt64) * qq.toInt64)] at h86
                refine lv_iinc (k := 3) (v := nI (i + 1)) (lv' := [(3, .int (nI (i + 1))), (0, .ref a), (1, .ref ax), (2, .int qq)]) hx hb dd_Problem_isKept_91 hl rfl (nI_1 _) (by decide) rfl (fun ls hl => ?_)
                refine lv_goto (tgt := 56) hx hb dd_Problem_isKept_94 (by decide) ?_
                exact IH56 (i + 1) (by omega) (by omega) (by intro i9 h9; rcases Nat.lt_or_eq_of_le (Nat.le_of_lt_succ h9) with h | rfl; exact hw i9 h; exact h86) ls H locs (lv_sub hl [1, 2, 3, 0] rfl) hP hD hS
              · skip
                rw [lg_cmp_le (wg_sum (M i) x n) (((bd i).toInt64) * qq.toInt64)] at h86
                refine lv_iconst (v := 0) hx hb dd_Problem_isKept_89 (by decide) ?_
                exact W.zret (v := (0 : Int32)) hx hb hr (rfl) (fun t ht hW => ⟨⟨(0 : Int32), (), rfl, ⟨fun hh => absurd (hh.2 i (by omega)) h86, fun _ => rfl⟩, by rw [ht]; exact hP, va_K.moved hW.alike hK, hD⟩, hS.F ht⟩) hS.2.2 dd_Problem_isKept_90
        exact J56 _ 0 (Nat.lt_succ_self _) (by omega) (fun _ h => absurd h (Nat.not_lt_zero _)) ls H locs (lv_sub hl [1, 2, 3, 0] rfl) hP hD hS
      · skip
        have h7 : ¬ (n ≤ j) := fun q9 => h7 ((nI_leI (a := n) (b := j) (by omega) (by omega)).mpr q9)
        refine lv_aload_n hx hb dd_Problem_isKept_10 rfl (lv_at hl 1 rfl) ?_
        refine lv_iload_n hx hb dd_Problem_isKept_11 rfl (lv_at hl 3 rfl) ?_
        refine mm_iald hx hb hK hP 11 0 rfl rfl (j) (rfl) (by omega) (by decide) dd_Problem_isKept_12 ?_
        refine lv_i2l (v := (x j).toInt64) hx hb dd_Problem_isKept_13 rfl ?_
        refine lv_aload_n hx hb dd_Problem_isKept_14 rfl (lv_at hl 0 rfl) ?_
        refine va_get (D := D) (ci := 0) (v := .ref al) (C := RR_Problem) (T := FF_Problem) (N := 8) hx hb htb hi_Problem hown hK hP 0 rfl rfl 2 (by decide) hf_18 (fun _ h9 => h9) rfl dd_Problem_isKept_15 ?_
        refine lv_iload_n hx hb dd_Problem_isKept_18 rfl (lv_at hl 3 rfl) ?_
        refine mm_iald hx hb hK hP 1 0 rfl rfl (j) (rfl) (by omega) (by decide) dd_Problem_isKept_19 ?_
        refine lv_i2l (v := (lo j).toInt64) hx hb dd_Problem_isKept_20 rfl ?_
        refine lv_iload_n hx hb dd_Problem_isKept_21 rfl (lv_at hl 2 rfl) ?_
        refine lv_i2l (v := qq.toInt64) hx hb dd_Problem_isKept_22 rfl ?_
        refine lv_lmul hx hb dd_Problem_isKept_23 ?_
        refine W.lcmp hx hb dd_Problem_isKept_24 ?_
        refine lv_if_lt (tgt := 46) hx hb dd_Problem_isKept_25 (by decide) (fun h25 => ?_) (fun h25 => ?_)
        · skip
          rw [lg_cmp_lt ((x j).toInt64) (((lo j).toInt64) * qq.toInt64)] at h25
          refine lv_iconst (v := 0) hx hb dd_Problem_isKept_46 (by decide) ?_
          exact W.zret (v := (0 : Int32)) hx hb hr (rfl) (fun t ht hW => ⟨⟨(0 : Int32), (), rfl, by first | exact ⟨fun hh => absurd (hh.1 j (by omega)).1 (mm_ltn h25), fun _ => rfl⟩ | exact ⟨fun hh => absurd (hh.1 j (by omega)).2 h43, fun _ => rfl⟩, by rw [ht]; exact hP, va_K.moved hW.alike hK, hD⟩, hS.F ht⟩) hS.2.2 dd_Problem_isKept_47
        · skip
          rw [lg_cmp_lt ((x j).toInt64) (((lo j).toInt64) * qq.toInt64)] at h25
          refine lv_aload_n hx hb dd_Problem_isKept_28 rfl (lv_at hl 1 rfl) ?_
          refine lv_iload_n hx hb dd_Problem_isKept_29 rfl (lv_at hl 3 rfl) ?_
          refine mm_iald hx hb hK hP 11 0 rfl rfl (j) (rfl) (by omega) (by decide) dd_Problem_isKept_30 ?_
          refine lv_i2l (v := (x j).toInt64) hx hb dd_Problem_isKept_31 rfl ?_
          refine lv_aload_n hx hb dd_Problem_isKept_32 rfl (lv_at hl 0 rfl) ?_
          refine va_get (D := D) (ci := 0) (v := .ref am) (C := RR_Problem) (T := FF_Problem) (N := 8) hx hb htb hi_Problem hown hK hP 0 rfl rfl 3 (by decide) hf_22 (fun _ h9 => h9) rfl dd_Problem_isKept_33 ?_
          refine lv_iload_n hx hb dd_Problem_isKept_36 rfl (lv_at hl 3 rfl) ?_
          refine mm_iald hx hb hK hP 2 0 rfl rfl (j) (rfl) (by omega) (by decide) dd_Problem_isKept_37 ?_
          refine lv_i2l (v := (hi j).toInt64) hx hb dd_Problem_isKept_38 rfl ?_
          refine lv_iload_n hx hb dd_Problem_isKept_39 rfl (lv_at hl 2 rfl) ?_
          refine lv_i2l (v := qq.toInt64) hx hb dd_Problem_isKept_40 rfl ?_
          refine lv_lmul hx hb dd_Problem_isKept_41 ?_
          refine W.lcmp hx hb dd_Problem_isKept_42 ?_
          refine lv_if_le (tgt := 48) hx hb dd_Problem_isKept_43 (by decide) (fun h43 => ?_) (fun h43 => ?_)
          · skip
            rw [lg_cmp_le ((x j).toInt64) (((hi j).toInt64) * qq.toInt64)] at h43
            refine lv_iinc (k := 3) (v := nI (j + 1)) (lv' := [(3, .int (nI (j + 1))), (0, .ref a), (1, .ref ax), (2, .int qq)]) hx hb dd_Problem_isKept_48 hl rfl (nI_1 _) (by decide) rfl (fun ls hl => ?_)
            refine lv_goto (tgt := 2) hx hb dd_Problem_isKept_51 (by decide) ?_
            exact IH2 (j + 1) (by omega) (by omega) (by intro i9 h9; rcases Nat.lt_or_eq_of_le (Nat.le_of_lt_succ h9) with h | rfl; exact hv i9 h; exact ⟨mm_nlt h25, h43⟩) ls H locs (lv_sub hl [1, 2, 3, 0] rfl) hP hD hS
          · skip
            rw [lg_cmp_le ((x j).toInt64) (((hi j).toInt64) * qq.toInt64)] at h43
            refine lv_iconst (v := 0) hx hb dd_Problem_isKept_46 (by decide) ?_
            exact W.zret (v := (0 : Int32)) hx hb hr (rfl) (fun t ht hW => ⟨⟨(0 : Int32), (), rfl, by first | exact ⟨fun hh => absurd (hh.1 j (by omega)).1 (mm_ltn h25), fun _ => rfl⟩ | exact ⟨fun hh => absurd (hh.1 j (by omega)).2 h43, fun _ => rfl⟩, by rw [ht]; exact hP, va_K.moved hW.alike hK, hD⟩, hS.F ht⟩) hS.2.2 dd_Problem_isKept_47
  exact J2 _ 0 (Nat.lt_succ_self _) (by omega) (fun _ h => absurd h (Nat.not_lt_zero _)) ls _ _ (lv_sub hl [1, 2, 3, 0] rfl) hP hD hS
